set_option maxHeartbeats 4000000 in
set_option maxRecDepth 100000 in
theorem ct_fX7_readFact_7 (l : Launch) (D : va_G) (tc : Nat → ClassId) (sk : (Nat → Nat) × (Nat → Nat)) (Va : Nat → Nat) (Vv : Nat → Int32) (Vf : Nat → Nat → Int32) (Ta : Nat → Nat) (Tv : Nat → Int32) (Tf : Nat → Nat → Int32) (rr : Except Int (Nat × Nat)) (h_tape : 0 ≤ ((Tv 0) : Int32).toInt ∧ ((Tv 0) : Int32).toInt ≤ 400 ∧ 0 ≤ ((Tv 1) : Int32).toInt ∧ ((Tv 1) : Int32).toInt ≤ 400 ∧ 0 ≤ ((Tv 2) : Int32).toInt ∧ ((Tv 2) : Int32).toInt ≤ 400) (h_u : 0 ≤ ((Vv 0) : Int32).toInt ∧ ((Vv 0) : Int32).toInt ≤ 400) (h_by : Byt (Tf 1)) (h_r : TpR (Tf 1) (Tv 0) rr (Tv 1) (Tv 2) (Tv 3) (Tv 4)) (h_ct : Ctd rr (Vv 1)) : Ct l yX7_readFact cX7_readFact 5 none { frames := 14, cells := 0, slots := 0, locals := 327 } D tc sk [.ref (Va 0), .ref (Ta 0), .int 7] [((Va 0), .inr (7, [.ref (Va 1), .int (Vv 0), .int (Vv 1)])), ((Va 1), .inl (tc 0, 400, .inl (Vf 1))), ((Ta 0), .inr (10, [.ref (Ta 1), .int (Tv 0), .int (Tv 1), .int (Tv 2), .int (Tv 3), .int (Tv 4)])), ((Ta 1), .inl (tc 0, 400, .inl (Tf 1)))] (fun (v : Option Value) (u : (Int32) × (Int32) × (Nat → Int32) × (Int32) × (Int32) × (Int32) × (Int32)) => match u with | (oo0x1, oo0x2, oo0x3, oo0x4, oo0x5, oo0x6, oo0x7) => v = none ∧ (0 ≤ ((Tv 0) : Int32).toInt ∧ ((Tv 0) : Int32).toInt ≤ 400 ∧ 0 ≤ (oo0x4 : Int32).toInt ∧ (oo0x4 : Int32).toInt ≤ 400 ∧ 0 ≤ (oo0x5 : Int32).toInt ∧ (oo0x5 : Int32).toInt ≤ 400) ∧ (0 ≤ (oo0x1 : Int32).toInt ∧ (oo0x1 : Int32).toInt ≤ 400) ∧ (TpR (Tf 1) (Tv 0) (pz_b rr (pz_fact (cB (Tf 1) (Tv 0)) 3)) oo0x4 oo0x5 oo0x6 oo0x7) ∧ (Ctd (pz_b rr (pz_fact (cB (Tf 1) (Tv 0)) 3)) oo0x2)) (fun (u : (Int32) × (Int32) × (Nat → Int32) × (Int32) × (Int32) × (Int32) × (Int32)) => match u with | (oo0x1, oo0x2, oo0x3, oo0x4, oo0x5, oo0x6, oo0x7) => [((Va 0), .inr (7, [.ref (Va 1), .int oo0x1, .int oo0x2])), ((Va 1), .inl (tc 0, 400, .inl oo0x3)), ((Ta 0), .inr (10, [.ref (Ta 1), .int (Tv 0), .int oo0x4, .int oo0x5, .int oo0x6, .int oo0x7])), ((Ta 1), .inl (tc 0, 400, .inl (Tf 1)))]) 0 0 := by
  refine Ct.start (by decide) (Nat.le_of_ble_eq_true rfl) (fun p e s m below meth c A ls hx hb hr hlk hin hml hown hts hK hX hP hD hA hl hS => ?_)
  have hl : lv_has ls 5 [(0, .ref (Va 0)), (1, .ref (Ta 0)), (2, .int 7)] := hl
  have tb_1 : TpB (rTE (cB (Tf 1) (Tv 0)) rr) (Tv 2) (Tv 4) := TpR.tb h_r
  refine lv_aload_n hx hb dX7_readFact_0 rfl (lv_at hl 1 rfl) ?_
  refine va_ldcS hx hb hown (sx_4 hX) dX7_readFact_1 ?_
  have ha_2 : (4 : Nat) < 7 := by
    have y_4 : (4 : Int32).toInt = 4 := by decide
    omega
  refine cV (a := (Ta 0)) (As := [.ref (sk.1 4)]) (rest := []) (wr := [((Va 0), .inr (7, [.ref (Va 1), .int (Vv 0), .int (Vv 1)])), ((Va 1), .inl (tc 0, 400, .inl (Vf 1)))]) ⟨hx, hb, hml, hown, hts⟩ hK hX hA (cu_fX10_isWord l D tc sk (Ta 0) (Ta 1) (Tv 0) (Tv 1) (Tv 2) (Tv 3) (Tv 4) (Tf 1) 4 rr ha_2 h_tape h_by h_r) k_618 k_615 k_616 k_617 k_96 pl_X10_isWord ⟨Nat.le_of_ble_eq_true rfl, Nat.le_of_ble_eq_true rfl⟩ rfl rfl (va_recv hK hP (ci := 10) (q0 := 2) rfl rfl) hP hD hS [2, 3] [0, 1] rfl rfl rfl rfl rfl (by decide) rfl hl.1 rfl (Nat.le_of_ble_eq_true rfl) dX7_readFact_3 ⟨Nat.le_of_ble_eq_true rfl, Nat.le_of_ble_eq_true rfl⟩ (fun v_3 u_4 H locs hv_5 hP₀ hD₀ hS₀ => ?_)
  obtain ⟨r_6, rfl, he_7, hm_9, hm_10⟩ := hv_5
  have he_7 : (r_6.toInt = 0 ∨ r_6.toInt = 1) := he_7
  refine W.eq (g2 := F0 m 6 ls [.int r_6]) rfl ?_
  replace hP : va_P D classes [((Va 0), .inr (7, [.ref (Va 1), .int (Vv 0), .int (Vv 1)])), ((Va 1), .inl (tc 0, 400, .inl (Vf 1))), ((Ta 0), .inr (10, [.ref (Ta 1), .int (Tv 0), .int (Tv 1), .int (Tv 2), .int (Tv 3), .int (Tv 4)])), ((Ta 1), .inl (tc 0, 400, .inl (Tf 1)))] H := hP₀
  replace hD : va_D A [((Va 0), .inr (7, [.ref (Va 1), .int (Vv 0), .int (Vv 1)])), ((Va 1), .inl (tc 0, 400, .inl (Vf 1))), ((Ta 0), .inr (10, [.ref (Ta 1), .int (Tv 0), .int (Tv 1), .int (Tv 2), .int (Tv 3), .int (Tv 4)])), ((Ta 1), .inl (tc 0, 400, .inl (Tf 1)))] := hD₀
  replace hS := hS₀
  clear hP₀ hD₀ hS₀
  refine lv_istore_n (lv' := [(3, .int r_6), (0, .ref (Va 0)), (1, .ref (Ta 0)), (2, .int 7)]) hx hb dX7_readFact_6 rfl hl (by decide) rfl (fun ls hl₀ => ?_)
  replace hl := hl₀
  clear hl₀
  refine lv_iload_n hx hb dX7_readFact_7 rfl (lv_at hl 0 rfl) ?_
  refine lv_if_ne (tgt := 20) hx hb dX7_readFact_8 (by decide) (fun c_11 => ?_) (fun c_11 => ?_)
  · skip
    have hz_13 : (r_6 : Int32).toInt = 1 := by
      have z_1 : ¬ (r_6 : Int32).toInt = (0 : Int32).toInt := fun z => c_11 (Int32.toInt_inj.mp z)
      have y_0 : (0 : Int32).toInt = 0 := by decide
      omega
    obtain pf_12 := hm_9 hz_13
    have pf_12 : TWd (cB (Tf 1) (Tv 0)) (wS (4 : Nat)) rr := pf_12
    refine lv_iload_n hx hb dX7_readFact_20 rfl (lv_at hl 3 rfl) ?_
    refine lv_bipush (v := 10) hx hb dX7_readFact_21 (by decide) ?_
    refine lv_icmp_lt (tgt := 34) hx hb dX7_readFact_23 (by decide) (fun c_14 => ?_) (fun c_14 => absurd c_14 (by decide))
    refine lv_iload_n hx hb dX7_readFact_34 rfl (lv_at hl 0 rfl) ?_
    refine lv_if_eq (tgt := 59) hx hb dX7_readFact_35 (by decide) (fun c_15 => ?_) (fun c_15 => ?_)
    · skip
      exfalso
      have z_1 : ¬ (r_6 : Int32).toInt = (0 : Int32).toInt := fun z => c_11 (Int32.toInt_inj.mp z)
      have z_2 := congrArg Int32.toInt c_15
      have y_0 : (0 : Int32).toInt = 0 := by decide
      omega
    · skip
      refine lv_aload_n hx hb dX7_readFact_38 rfl (lv_at hl 2 rfl) ?_
      refine cV (a := (Ta 0)) (As := []) (rest := []) (wr := [((Va 0), .inr (7, [.ref (Va 1), .int (Vv 0), .int (Vv 1)])), ((Va 1), .inl (tc 0, 400, .inl (Vf 1)))]) ⟨hx, hb, hml, hown, hts⟩ hK hX hA (cu_fX10_step l D tc sk (Ta 0) (Ta 1) (Tv 0) (Tv 1) (Tv 2) (Tv 3) (Tv 4) (Tf 1) (rTE (cB (Tf 1) (Tv 0)) rr) h_tape h_by tb_1) k_478 k_620 k_476 k_477 k_96 pl_X10_step ⟨Nat.le_of_ble_eq_true rfl, Nat.le_of_ble_eq_true rfl⟩ rfl rfl (va_recv hK hP (ci := 10) (q0 := 2) rfl rfl) hP hD hS [2, 3] [0, 1] rfl rfl rfl rfl rfl (by decide) rfl hl.1 rfl (Nat.le_of_ble_eq_true rfl) dX7_readFact_39 ⟨Nat.le_of_ble_eq_true rfl, Nat.le_of_ble_eq_true rfl⟩ (fun v_16 u_17 H locs hv_18 hP₀ hD₀ hS₀ => ?_)
      obtain ⟨sv_19, sv_20, sv_21⟩ := u_17
      obtain ⟨rfl, pf_22, pf_23⟩ := hv_18
      have pf_22 : 0 ≤ ((Tv 0) : Int32).toInt ∧ ((Tv 0) : Int32).toInt ≤ 400 ∧ 0 ≤ (sv_19 : Int32).toInt ∧ (sv_19 : Int32).toInt ≤ 400 ∧ 0 ≤ (sv_20 : Int32).toInt ∧ (sv_20 : Int32).toInt ≤ 400 := pf_22
      have pf_23 : TpR (Tf 1) (Tv 0) (rSK (cB (Tf 1) (Tv 0)) (rTE (cB (Tf 1) (Tv 0)) rr)) sv_19 sv_20 sv_21 (Tv 4) := pf_23
      rw [rNX_eq] at pf_23
      obtain ⟨ro_24, ero_24⟩ : ∃ z : Except Int (Nat × Nat), z = (rNX (cB (Tf 1) (Tv 0)) rr) := ⟨_, rfl⟩
      rw [← ero_24] at pf_23
      have tb_25 : TpB (rTE (cB (Tf 1) (Tv 0)) ro_24) sv_20 (Tv 4) := TpR.tb pf_23
      have cd_26 : Ctd ro_24 (Vv 1) := by rw [ero_24]; exact (Ctd.nx h_ct)
      refine W.eq (g2 := F0 m 42 ls []) rfl ?_
      replace hP : va_P D classes [((Va 0), .inr (7, [.ref (Va 1), .int (Vv 0), .int (Vv 1)])), ((Va 1), .inl (tc 0, 400, .inl (Vf 1))), ((Ta 0), .inr (10, [.ref (Ta 1), .int (Tv 0), .int sv_19, .int sv_20, .int sv_21, .int (Tv 4)])), ((Ta 1), .inl (tc 0, 400, .inl (Tf 1)))] H := hP₀
      replace hD : va_D A [((Va 0), .inr (7, [.ref (Va 1), .int (Vv 0), .int (Vv 1)])), ((Va 1), .inl (tc 0, 400, .inl (Vf 1))), ((Ta 0), .inr (10, [.ref (Ta 1), .int (Tv 0), .int sv_19, .int sv_20, .int sv_21, .int (Tv 4)])), ((Ta 1), .inl (tc 0, 400, .inl (Tf 1)))] := hD₀
      replace hS := hS₀
      clear hP₀ hD₀ hS₀
      refine lv_aload_n hx hb dX7_readFact_42 rfl (lv_at hl 1 rfl) ?_
      refine lv_aload_n hx hb dX7_readFact_43 rfl (lv_at hl 2 rfl) ?_
      refine lv_iload_n hx hb dX7_readFact_44 rfl (lv_at hl 3 rfl) ?_
      refine lv_iconst (v := 1) hx hb dX7_readFact_45 (by decide) ?_
      refine lv_iadd hx hb dX7_readFact_46 ?_
      refine lv_lit (v := 8) (by decide) ?_
      refine cV (a := (Va 0)) (As := [.ref (Ta 0), .int 8]) (rest := []) (wr := []) ⟨hx, hb, hml, hown, hts⟩ hK hX hA (cu_fX7_readFact_8 l D tc sk (Va 0) (Va 1) (Vv 0) (Vv 1) (Vf 1) (Ta 0) (Ta 1) (Tv 0) sv_19 sv_20 sv_21 (Tv 4) (Tf 1) ro_24 pf_22 h_u h_by pf_23 cd_26) k_659 k_656 k_658 k_12 k_99 pl_X7_readFact ⟨Nat.le_of_ble_eq_true rfl, Nat.le_of_ble_eq_true rfl⟩ rfl rfl (va_recv hK hP (ci := 7) (q0 := 0) rfl rfl) hP hD hS [0, 1, 2, 3] [] rfl rfl rfl rfl rfl (by decide) rfl hl.1 rfl (Nat.le_of_ble_eq_true rfl) dX7_readFact_47 ⟨Nat.le_of_ble_eq_true rfl, Nat.le_of_ble_eq_true rfl⟩ (fun v_27 u_28 H locs hv_29 hP₀ hD₀ hS₀ => ?_)
      obtain ⟨sv_30, sv_31, sv_32, sv_33, sv_34, sv_35, sv_36⟩ := u_28
      obtain ⟨rfl, pf_37, pf_38, pf_39, pf_40⟩ := hv_29
      have pf_37 : 0 ≤ ((Tv 0) : Int32).toInt ∧ ((Tv 0) : Int32).toInt ≤ 400 ∧ 0 ≤ (sv_33 : Int32).toInt ∧ (sv_33 : Int32).toInt ≤ 400 ∧ 0 ≤ (sv_34 : Int32).toInt ∧ (sv_34 : Int32).toInt ≤ 400 := pf_37
      have pf_38 : 0 ≤ (sv_30 : Int32).toInt ∧ (sv_30 : Int32).toInt ≤ 400 := pf_38
      have pf_39 : TpR (Tf 1) (Tv 0) (pz_b ro_24 (pz_fact (cB (Tf 1) (Tv 0)) 2)) sv_33 sv_34 sv_35 sv_36 := pf_39
      obtain ⟨ro_41, ero_41⟩ : ∃ z : Except Int (Nat × Nat), z = (pz_b ro_24 (pz_fact (cB (Tf 1) (Tv 0)) 2)) := ⟨_, rfl⟩
      rw [← ero_41] at pf_39
      have tb_42 : TpB (rTE (cB (Tf 1) (Tv 0)) ro_41) sv_34 sv_36 := TpR.tb pf_39
      have pf_40 : Ctd (pz_b ro_24 (pz_fact (cB (Tf 1) (Tv 0)) 2)) sv_31 := pf_40
      rw [← ero_41] at pf_40
      refine W.eq (g2 := F0 m 50 ls []) rfl ?_
      replace hP : va_P D classes [((Va 0), .inr (7, [.ref (Va 1), .int sv_30, .int sv_31])), ((Va 1), .inl (tc 0, 400, .inl sv_32)), ((Ta 0), .inr (10, [.ref (Ta 1), .int (Tv 0), .int sv_33, .int sv_34, .int sv_35, .int sv_36])), ((Ta 1), .inl (tc 0, 400, .inl (Tf 1)))] H := hP₀
      replace hD : va_D A [((Va 0), .inr (7, [.ref (Va 1), .int sv_30, .int sv_31])), ((Va 1), .inl (tc 0, 400, .inl sv_32)), ((Ta 0), .inr (10, [.ref (Ta 1), .int (Tv 0), .int sv_33, .int sv_34, .int sv_35, .int sv_36])), ((Ta 1), .inl (tc 0, 400, .inl (Tf 1)))] := hD₀
      replace hS := hS₀
      clear hP₀ hD₀ hS₀
      refine lv_aload_n hx hb dX7_readFact_50 rfl (lv_at hl 1 rfl) ?_
      refine lv_bipush (v := (-4)) hx hb dX7_readFact_51 (by decide) ?_
      refine cV (a := (Va 0)) (As := [.int (-4)]) (rest := []) (wr := [((Ta 0), .inr (10, [.ref (Ta 1), .int (Tv 0), .int sv_33, .int sv_34, .int sv_35, .int sv_36])), ((Ta 1), .inl (tc 0, 400, .inl (Tf 1)))]) ⟨hx, hb, hml, hown, hts⟩ hK hX hA (cu_fX7_put l D tc sk (Va 0) (Va 1) sv_30 sv_31 sv_32 (-4) pf_38) k_642 k_639 k_641 k_10 k_99 pl_X7_put ⟨Nat.le_of_ble_eq_true rfl, Nat.le_of_ble_eq_true rfl⟩ rfl rfl (va_recv hK hP (ci := 7) (q0 := 0) rfl rfl) hP hD hS [0, 1] [2, 3] rfl rfl rfl rfl rfl (by decide) rfl hl.1 rfl (Nat.le_of_ble_eq_true rfl) dX7_readFact_53 ⟨Nat.le_of_ble_eq_true rfl, Nat.le_of_ble_eq_true rfl⟩ (fun v_43 u_44 H locs hv_45 hP₀ hD₀ hS₀ => ?_)
      obtain ⟨sv_46, sv_47⟩ := u_44
      obtain ⟨rfl, pf_48⟩ := hv_45
      have pf_48 : 0 ≤ (sv_46 : Int32).toInt ∧ (sv_46 : Int32).toInt ≤ 400 := pf_48
      refine W.eq (g2 := F0 m 56 ls []) rfl ?_
      replace hP : va_P D classes [((Ta 0), .inr (10, [.ref (Ta 1), .int (Tv 0), .int sv_33, .int sv_34, .int sv_35, .int sv_36])), ((Ta 1), .inl (tc 0, 400, .inl (Tf 1))), ((Va 0), .inr (7, [.ref (Va 1), .int sv_46, .int sv_31])), ((Va 1), .inl (tc 0, 400, .inl sv_47))] H := hP₀
      replace hD : va_D A [((Ta 0), .inr (10, [.ref (Ta 1), .int (Tv 0), .int sv_33, .int sv_34, .int sv_35, .int sv_36])), ((Ta 1), .inl (tc 0, 400, .inl (Tf 1))), ((Va 0), .inr (7, [.ref (Va 1), .int sv_46, .int sv_31])), ((Va 1), .inl (tc 0, 400, .inl sv_47))] := hD₀
      replace hS := hS₀
      clear hP₀ hD₀ hS₀
      refine lv_goto (tgt := 135) hx hb dX7_readFact_56 (by decide) ?_
      have hf_49 : TpR (Tf 1) (Tv 0) (pz_b rr (pz_fact (cB (Tf 1) (Tv 0)) 3)) sv_33 sv_34 sv_35 sv_36 := by
        have hE_50 : (pz_b rr (pz_fact (cB (Tf 1) (Tv 0)) 3)) = ro_41 := by
          rw [ero_41, ero_24]
          have hw_51 : TWd (cB (Tf 1) (Tv 0)) pz_not rr := by
            rw [← wS4]
            exact pf_12
          exact (fact_not hw_51)
        rw [hE_50]
        exact pf_39
      have hf_52 : Ctd (pz_b rr (pz_fact (cB (Tf 1) (Tv 0)) 3)) sv_31 := by
        have hE_53 : (pz_b rr (pz_fact (cB (Tf 1) (Tv 0)) 3)) = ro_41 := by
          rw [ero_41, ero_24]
          have hw_54 : TWd (cB (Tf 1) (Tv 0)) pz_not rr := by
            rw [← wS4]
            exact pf_12
          exact (fact_not hw_54)
        rw [hE_53]
        exact pf_40
      exact retV hx hb hr hlk hP hD hS (sv_46, sv_31, sv_47, sv_33, sv_34, sv_35, sv_36) ⟨rfl, pf_37, pf_48, hf_49, hf_52⟩ [2, 3, 0, 1] rfl rfl dX7_readFact_135 (Nat.le_of_ble_eq_true rfl) (Nat.le_of_ble_eq_true rfl) rfl
  · skip
    have hz_56 : (r_6 : Int32).toInt = 0 := by
      have z_1 := congrArg Int32.toInt c_11
      have y_0 : (0 : Int32).toInt = 0 := by decide
      omega
    obtain pf_55 := hm_10 hz_56
    have pf_55 : NWd (cB (Tf 1) (Tv 0)) (wS (4 : Nat)) rr := pf_55
    refine lv_aload_n hx hb dX7_readFact_11 rfl (lv_at hl 2 rfl) ?_
    refine gf_X7_86 hx hb hts hown hK hP 2 rfl rfl dX7_readFact_12 ?_
    refine lv_bipush (v := 91) hx hb dX7_readFact_15 (by decide) ?_
    refine lv_icmp_ne (tgt := 34) hx hb dX7_readFact_17 (by decide) (fun c_57 => ?_) (fun c_57 => ?_)
    · skip
      refine lv_iload_n hx hb dX7_readFact_34 rfl (lv_at hl 0 rfl) ?_
      refine lv_if_eq (tgt := 59) hx hb dX7_readFact_35 (by decide) (fun c_58 => ?_) (fun c_58 => ?_)
      · skip
        refine lv_aload_n hx hb dX7_readFact_59 rfl (lv_at hl 2 rfl) ?_
        refine lv_bipush (v := 91) hx hb dX7_readFact_60 (by decide) ?_
        have ha_59 : 0 ≤ (91 : Int32).toInt := by
          have z_1 := congrArg Int32.toInt c_11
          have z_2 : ¬ ((Tv 3) : Int32).toInt = (91 : Int32).toInt := fun z => c_57 (Int32.toInt_inj.mp z)
          have z_3 := congrArg Int32.toInt c_58
          have y_0 : (0 : Int32).toInt = 0 := by decide
          have y_91 : (91 : Int32).toInt = 91 := by decide
          omega
        have ha_60 : (91 : Int32).toInt = (91 : Int) := by
          have z_1 := congrArg Int32.toInt c_11
          have z_2 : ¬ ((Tv 3) : Int32).toInt = (91 : Int32).toInt := fun z => c_57 (Int32.toInt_inj.mp z)
          have z_3 := congrArg Int32.toInt c_58
          have y_0 : (0 : Int32).toInt = 0 := by decide
          have y_91 : (91 : Int32).toInt = 91 := by decide
          omega
        refine cV (a := (Ta 0)) (As := [.int 91]) (rest := []) (wr := [((Va 0), .inr (7, [.ref (Va 1), .int (Vv 0), .int (Vv 1)])), ((Va 1), .inl (tc 0, 400, .inl (Vf 1)))]) ⟨hx, hb, hml, hown, hts⟩ hK hX hA (cu_fX10_takes l D tc sk (Ta 0) (Ta 1) (Tv 0) (Tv 1) (Tv 2) (Tv 3) (Tv 4) (Tf 1) 91 rr 91 h_tape h_by h_r ha_59 ha_60) k_492 k_613 k_490 k_491 k_96 pl_X10_takes ⟨Nat.le_of_ble_eq_true rfl, Nat.le_of_ble_eq_true rfl⟩ rfl rfl (va_recv hK hP (ci := 10) (q0 := 2) rfl rfl) hP hD hS [2, 3] [0, 1] rfl rfl rfl rfl rfl (by decide) rfl hl.1 rfl (Nat.le_of_ble_eq_true rfl) dX7_readFact_62 ⟨Nat.le_of_ble_eq_true rfl, Nat.le_of_ble_eq_true rfl⟩ (fun v_61 u_62 H locs hv_63 hP₀ hD₀ hS₀ => ?_)
        obtain ⟨sv_64, sv_65, sv_66⟩ := u_62
        obtain ⟨r_68, rfl, he_69, pf_67, hm_71, hm_72⟩ := hv_63
        have he_69 : (r_68.toInt = 0 ∨ r_68.toInt = 1) := he_69
        have pf_67 : 0 ≤ ((Tv 0) : Int32).toInt ∧ ((Tv 0) : Int32).toInt ≤ 400 ∧ 0 ≤ (sv_64 : Int32).toInt ∧ (sv_64 : Int32).toInt ≤ 400 ∧ 0 ≤ (sv_65 : Int32).toInt ∧ (sv_65 : Int32).toInt ≤ 400 := pf_67
        refine W.eq (g2 := F0 m 65 ls [.int r_68]) rfl ?_
        replace hP : va_P D classes [((Va 0), .inr (7, [.ref (Va 1), .int (Vv 0), .int (Vv 1)])), ((Va 1), .inl (tc 0, 400, .inl (Vf 1))), ((Ta 0), .inr (10, [.ref (Ta 1), .int (Tv 0), .int sv_64, .int sv_65, .int sv_66, .int (Tv 4)])), ((Ta 1), .inl (tc 0, 400, .inl (Tf 1)))] H := hP₀
        replace hD : va_D A [((Va 0), .inr (7, [.ref (Va 1), .int (Vv 0), .int (Vv 1)])), ((Va 1), .inl (tc 0, 400, .inl (Vf 1))), ((Ta 0), .inr (10, [.ref (Ta 1), .int (Tv 0), .int sv_64, .int sv_65, .int sv_66, .int (Tv 4)])), ((Ta 1), .inl (tc 0, 400, .inl (Tf 1)))] := hD₀
        replace hS := hS₀
        clear hP₀ hD₀ hS₀
        refine lv_if_eq (tgt := 93) hx hb dX7_readFact_65 (by decide) (fun c_73 => ?_) (fun c_73 => ?_)
        · skip
          have hz_76 : (r_68 : Int32).toInt = 0 := by
            have z_1 := congrArg Int32.toInt c_11
            have z_2 : ¬ ((Tv 3) : Int32).toInt = (91 : Int32).toInt := fun z => c_57 (Int32.toInt_inj.mp z)
            have z_3 := congrArg Int32.toInt c_58
            have z_4 := congrArg Int32.toInt c_73
            have y_0 : (0 : Int32).toInt = 0 := by decide
            have y_91 : (91 : Int32).toInt = 91 := by decide
            omega
          obtain ⟨pf_74, pf_75⟩ := hm_72 hz_76
          have pf_74 : NSg (cB (Tf 1) (Tv 0)) (91 : Int) rr := pf_74
          have pf_75 : TpR (Tf 1) (Tv 0) rr sv_64 sv_65 sv_66 (Tv 4) := pf_75
          have tb_77 : TpB (rTE (cB (Tf 1) (Tv 0)) rr) sv_65 (Tv 4) := TpR.tb pf_75
          refine lv_aload_n hx hb dX7_readFact_93 rfl (lv_at hl 1 rfl) ?_
          refine lv_aload_n hx hb dX7_readFact_94 rfl (lv_at hl 2 rfl) ?_
          refine cV (a := (Va 0)) (As := [.ref (Ta 0)]) (rest := []) (wr := []) ⟨hx, hb, hml, hown, hts⟩ hK hX hA (cu_fX7_readSum l D tc sk (Va 0) (Va 1) (Vv 0) (Vv 1) (Vf 1) (Ta 0) (Ta 1) (Tv 0) sv_64 sv_65 sv_66 (Tv 4) (Tf 1) rr pf_67 h_u h_by pf_75 h_ct) k_624 k_621 k_623 k_7 k_99 pl_X7_readSum ⟨Nat.le_of_ble_eq_true rfl, Nat.le_of_ble_eq_true rfl⟩ rfl rfl (va_recv hK hP (ci := 7) (q0 := 0) rfl rfl) hP hD hS [0, 1, 2, 3] [] rfl rfl rfl rfl rfl (by decide) rfl hl.1 rfl (Nat.le_of_ble_eq_true rfl) dX7_readFact_95 ⟨Nat.le_of_ble_eq_true rfl, Nat.le_of_ble_eq_true rfl⟩ (fun v_78 u_79 H locs hv_80 hP₀ hD₀ hS₀ => ?_)
          obtain ⟨sv_81, sv_82, sv_83, sv_84, sv_85, sv_86, sv_87⟩ := u_79
          obtain ⟨rfl, pf_88, pf_89, pf_90, pf_91⟩ := hv_80
          have pf_88 : 0 ≤ ((Tv 0) : Int32).toInt ∧ ((Tv 0) : Int32).toInt ≤ 400 ∧ 0 ≤ (sv_84 : Int32).toInt ∧ (sv_84 : Int32).toInt ≤ 400 ∧ 0 ≤ (sv_85 : Int32).toInt ∧ (sv_85 : Int32).toInt ≤ 400 := pf_88
          have pf_89 : 0 ≤ (sv_81 : Int32).toInt ∧ (sv_81 : Int32).toInt ≤ 400 := pf_89
          have pf_90 : TpR (Tf 1) (Tv 0) (pz_b rr (pz_sum (cB (Tf 1) (Tv 0)))) sv_84 sv_85 sv_86 sv_87 := pf_90
          obtain ⟨ro_92, ero_92⟩ : ∃ z : Except Int (Nat × Nat), z = (pz_b rr (pz_sum (cB (Tf 1) (Tv 0)))) := ⟨_, rfl⟩
          rw [← ero_92] at pf_90
          have tb_93 : TpB (rTE (cB (Tf 1) (Tv 0)) ro_92) sv_85 sv_87 := TpR.tb pf_90
          have pf_91 : Ctd (pz_b rr (pz_sum (cB (Tf 1) (Tv 0)))) sv_82 := pf_91
          rw [← ero_92] at pf_91
          refine W.eq (g2 := F0 m 98 ls []) rfl ?_
          replace hP : va_P D classes [((Va 0), .inr (7, [.ref (Va 1), .int sv_81, .int sv_82])), ((Va 1), .inl (tc 0, 400, .inl sv_83)), ((Ta 0), .inr (10, [.ref (Ta 1), .int (Tv 0), .int sv_84, .int sv_85, .int sv_86, .int sv_87])), ((Ta 1), .inl (tc 0, 400, .inl (Tf 1)))] H := hP₀
          replace hD : va_D A [((Va 0), .inr (7, [.ref (Va 1), .int sv_81, .int sv_82])), ((Va 1), .inl (tc 0, 400, .inl sv_83)), ((Ta 0), .inr (10, [.ref (Ta 1), .int (Tv 0), .int sv_84, .int sv_85, .int sv_86, .int sv_87])), ((Ta 1), .inl (tc 0, 400, .inl (Tf 1)))] := hD₀
          replace hS := hS₀
          clear hP₀ hD₀ hS₀
          refine lv_aload_n hx hb dX7_readFact_98 rfl (lv_at hl 2 rfl) ?_
          refine cS (As := [.ref (Ta 0)]) (rest := []) (wr := [((Va 0), .inr (7, [.ref (Va 1), .int sv_81, .int sv_82])), ((Va 1), .inl (tc 0, 400, .inl sv_83))]) ⟨hx, hb, hml, hown, hts⟩ hK hX hA (cu_fX7_comparison l D tc sk (Ta 0) (Ta 1) (Tv 0) sv_84 sv_85 sv_86 sv_87 (Tf 1) pf_88) k_663 k_661 k_662 k_99 pl_X7_comparison ⟨Nat.le_of_ble_eq_true rfl, Nat.le_of_ble_eq_true rfl⟩ rfl rfl  hP hD hS [2, 3] [0, 1] rfl rfl rfl rfl rfl (by decide) rfl hl.1 rfl (Nat.le_of_ble_eq_true rfl) dX7_readFact_99 ⟨Nat.le_of_ble_eq_true rfl, Nat.le_of_ble_eq_true rfl⟩ (fun v_94 u_95 H locs hv_96 hP₀ hD₀ hS₀ => ?_)
          obtain ⟨r_97, rfl, he_98⟩ := hv_96
          have he_98 : ((r_97.toInt = -1 ∧ ¬ (60 ≤ sv_86.toInt ∧ sv_86.toInt ≤ 62)) ∨ (r_97.toInt ≤ -7 ∧ 60 ≤ sv_86.toInt ∧ sv_86.toInt ≤ 62)) := he_98
          refine W.eq (g2 := F0 m 102 ls [.int r_97]) rfl ?_
          replace hP : va_P D classes [((Va 0), .inr (7, [.ref (Va 1), .int sv_81, .int sv_82])), ((Va 1), .inl (tc 0, 400, .inl sv_83)), ((Ta 0), .inr (10, [.ref (Ta 1), .int (Tv 0), .int sv_84, .int sv_85, .int sv_86, .int sv_87])), ((Ta 1), .inl (tc 0, 400, .inl (Tf 1)))] H := hP₀
          replace hD : va_D A [((Va 0), .inr (7, [.ref (Va 1), .int sv_81, .int sv_82])), ((Va 1), .inl (tc 0, 400, .inl sv_83)), ((Ta 0), .inr (10, [.ref (Ta 1), .int (Tv 0), .int sv_84, .int sv_85, .int sv_86, .int sv_87])), ((Ta 1), .inl (tc 0, 400, .inl (Tf 1)))] := hD₀
          replace hS := hS₀
          clear hP₀ hD₀ hS₀
          refine lv_istore (lv' := [(4, .int r_97), (3, .int r_6), (0, .ref (Va 0)), (1, .ref (Ta 0)), (2, .int 7)]) hx hb dX7_readFact_102 hl (by decide) rfl (fun ls hl₀ => ?_)
          replace hl := hl₀
          clear hl₀
          refine lv_iload hx hb dX7_readFact_104 (lv_at hl 0 rfl) ?_
          refine lv_iconst (v := (-1)) hx hb dX7_readFact_106 (by decide) ?_
          refine lv_icmp_ne (tgt := 115) hx hb dX7_readFact_107 (by decide) (fun c_100 => ?_) (fun c_100 => ?_)
          · skip
            refine lv_aload_n hx hb dX7_readFact_115 rfl (lv_at hl 2 rfl) ?_
            refine lv_aload_n hx hb dX7_readFact_116 rfl (lv_at hl 3 rfl) ?_
            refine cV (a := (Va 0)) (As := [.ref (Ta 0)]) (rest := []) (wr := []) ⟨hx, hb, hml, hown, hts⟩ hK hX hA (cu_fX7_countOne l D tc sk (Va 0) (Va 1) sv_81 sv_82 sv_83 (Ta 0) (Ta 1) (Tv 0) sv_84 sv_85 sv_86 sv_87 (Tf 1) ro_92 pf_88 pf_89 h_by pf_90 pf_91) k_638 k_635 k_637 k_9 k_99 pl_X7_countOne ⟨Nat.le_of_ble_eq_true rfl, Nat.le_of_ble_eq_true rfl⟩ rfl rfl (va_recv hK hP (ci := 7) (q0 := 0) rfl rfl) hP hD hS [0, 1, 2, 3] [] rfl rfl rfl rfl rfl (by decide) rfl hl.1 rfl (Nat.le_of_ble_eq_true rfl) dX7_readFact_117 ⟨Nat.le_of_ble_eq_true rfl, Nat.le_of_ble_eq_true rfl⟩ (fun v_101 u_102 H locs hv_103 hP₀ hD₀ hS₀ => ?_)
            obtain ⟨sv_104, sv_105, sv_106⟩ := u_102
            obtain ⟨rfl, pf_107, pf_108, pf_109, pf_110⟩ := hv_103
            have pf_107 : 0 ≤ ((Tv 0) : Int32).toInt ∧ ((Tv 0) : Int32).toInt ≤ 400 ∧ 0 ≤ (sv_84 : Int32).toInt ∧ (sv_84 : Int32).toInt ≤ 400 ∧ 0 ≤ (sv_85 : Int32).toInt ∧ (sv_85 : Int32).toInt ≤ 400 := pf_107
            have pf_108 : 0 ≤ (sv_81 : Int32).toInt ∧ (sv_81 : Int32).toInt ≤ 400 := pf_108
            have pf_109 : TpR (Tf 1) (Tv 0) (rC1 ro_92) sv_84 sv_85 sv_105 sv_106 := pf_109
            obtain ⟨ro_111, ero_111⟩ : ∃ z : Except Int (Nat × Nat), z = (rC1 ro_92) := ⟨_, rfl⟩
            rw [← ero_111] at pf_109
            have tb_112 : TpB (rTE (cB (Tf 1) (Tv 0)) ro_111) sv_85 sv_106 := TpR.tb pf_109
            have pf_110 : Ctd (rC1 ro_92) sv_104 := pf_110
            rw [← ero_111] at pf_110
            refine W.eq (g2 := F0 m 120 ls []) rfl ?_
            replace hP : va_P D classes [((Va 0), .inr (7, [.ref (Va 1), .int sv_81, .int sv_104])), ((Va 1), .inl (tc 0, 400, .inl sv_83)), ((Ta 0), .inr (10, [.ref (Ta 1), .int (Tv 0), .int sv_84, .int sv_85, .int sv_105, .int sv_106])), ((Ta 1), .inl (tc 0, 400, .inl (Tf 1)))] H := hP₀
            replace hD : va_D A [((Va 0), .inr (7, [.ref (Va 1), .int sv_81, .int sv_104])), ((Va 1), .inl (tc 0, 400, .inl sv_83)), ((Ta 0), .inr (10, [.ref (Ta 1), .int (Tv 0), .int sv_84, .int sv_85, .int sv_105, .int sv_106])), ((Ta 1), .inl (tc 0, 400, .inl (Tf 1)))] := hD₀
            replace hS := hS₀
            clear hP₀ hD₀ hS₀
            refine lv_aload_n hx hb dX7_readFact_120 rfl (lv_at hl 3 rfl) ?_
            refine cV (a := (Ta 0)) (As := []) (rest := []) (wr := [((Va 0), .inr (7, [.ref (Va 1), .int sv_81, .int sv_104])), ((Va 1), .inl (tc 0, 400, .inl sv_83))]) ⟨hx, hb, hml, hown, hts⟩ hK hX hA (cu_fX10_step l D tc sk (Ta 0) (Ta 1) (Tv 0) sv_84 sv_85 sv_105 sv_106 (Tf 1) (rTE (cB (Tf 1) (Tv 0)) ro_111) pf_107 h_by tb_112) k_478 k_620 k_476 k_477 k_96 pl_X10_step ⟨Nat.le_of_ble_eq_true rfl, Nat.le_of_ble_eq_true rfl⟩ rfl rfl (va_recv hK hP (ci := 10) (q0 := 2) rfl rfl) hP hD hS [2, 3] [0, 1] rfl rfl rfl rfl rfl (by decide) rfl hl.1 rfl (Nat.le_of_ble_eq_true rfl) dX7_readFact_121 ⟨Nat.le_of_ble_eq_true rfl, Nat.le_of_ble_eq_true rfl⟩ (fun v_113 u_114 H locs hv_115 hP₀ hD₀ hS₀ => ?_)
            obtain ⟨sv_116, sv_117, sv_118⟩ := u_114
            obtain ⟨rfl, pf_119, pf_120⟩ := hv_115
            have pf_119 : 0 ≤ ((Tv 0) : Int32).toInt ∧ ((Tv 0) : Int32).toInt ≤ 400 ∧ 0 ≤ (sv_116 : Int32).toInt ∧ (sv_116 : Int32).toInt ≤ 400 ∧ 0 ≤ (sv_117 : Int32).toInt ∧ (sv_117 : Int32).toInt ≤ 400 := pf_119
            have pf_120 : TpR (Tf 1) (Tv 0) (rSK (cB (Tf 1) (Tv 0)) (rTE (cB (Tf 1) (Tv 0)) ro_111)) sv_116 sv_117 sv_118 sv_106 := pf_120
            rw [rNX_eq] at pf_120
            obtain ⟨ro_121, ero_121⟩ : ∃ z : Except Int (Nat × Nat), z = (rNX (cB (Tf 1) (Tv 0)) ro_111) := ⟨_, rfl⟩
            rw [← ero_121] at pf_120
            have tb_122 : TpB (rTE (cB (Tf 1) (Tv 0)) ro_121) sv_117 sv_106 := TpR.tb pf_120
            have cd_123 : Ctd ro_121 sv_104 := by rw [ero_121]; exact (Ctd.nx pf_110)
            refine W.eq (g2 := F0 m 124 ls []) rfl ?_
            replace hP : va_P D classes [((Va 0), .inr (7, [.ref (Va 1), .int sv_81, .int sv_104])), ((Va 1), .inl (tc 0, 400, .inl sv_83)), ((Ta 0), .inr (10, [.ref (Ta 1), .int (Tv 0), .int sv_116, .int sv_117, .int sv_118, .int sv_106])), ((Ta 1), .inl (tc 0, 400, .inl (Tf 1)))] H := hP₀
            replace hD : va_D A [((Va 0), .inr (7, [.ref (Va 1), .int sv_81, .int sv_104])), ((Va 1), .inl (tc 0, 400, .inl sv_83)), ((Ta 0), .inr (10, [.ref (Ta 1), .int (Tv 0), .int sv_116, .int sv_117, .int sv_118, .int sv_106])), ((Ta 1), .inl (tc 0, 400, .inl (Tf 1)))] := hD₀
            replace hS := hS₀
            clear hP₀ hD₀ hS₀
            refine lv_aload_n hx hb dX7_readFact_124 rfl (lv_at hl 2 rfl) ?_
            refine lv_aload_n hx hb dX7_readFact_125 rfl (lv_at hl 3 rfl) ?_
            refine cV (a := (Va 0)) (As := [.ref (Ta 0)]) (rest := []) (wr := []) ⟨hx, hb, hml, hown, hts⟩ hK hX hA (cu_fX7_readSum l D tc sk (Va 0) (Va 1) sv_81 sv_104 sv_83 (Ta 0) (Ta 1) (Tv 0) sv_116 sv_117 sv_118 sv_106 (Tf 1) ro_121 pf_119 pf_108 h_by pf_120 cd_123) k_624 k_621 k_623 k_7 k_99 pl_X7_readSum ⟨Nat.le_of_ble_eq_true rfl, Nat.le_of_ble_eq_true rfl⟩ rfl rfl (va_recv hK hP (ci := 7) (q0 := 0) rfl rfl) hP hD hS [0, 1, 2, 3] [] rfl rfl rfl rfl rfl (by decide) rfl hl.1 rfl (Nat.le_of_ble_eq_true rfl) dX7_readFact_126 ⟨Nat.le_of_ble_eq_true rfl, Nat.le_of_ble_eq_true rfl⟩ (fun v_124 u_125 H locs hv_126 hP₀ hD₀ hS₀ => ?_)
            obtain ⟨sv_127, sv_128, sv_129, sv_130, sv_131, sv_132, sv_133⟩ := u_125
            obtain ⟨rfl, pf_134, pf_135, pf_136, pf_137⟩ := hv_126
            have pf_134 : 0 ≤ ((Tv 0) : Int32).toInt ∧ ((Tv 0) : Int32).toInt ≤ 400 ∧ 0 ≤ (sv_130 : Int32).toInt ∧ (sv_130 : Int32).toInt ≤ 400 ∧ 0 ≤ (sv_131 : Int32).toInt ∧ (sv_131 : Int32).toInt ≤ 400 := pf_134
            have pf_135 : 0 ≤ (sv_127 : Int32).toInt ∧ (sv_127 : Int32).toInt ≤ 400 := pf_135
            have pf_136 : TpR (Tf 1) (Tv 0) (pz_b ro_121 (pz_sum (cB (Tf 1) (Tv 0)))) sv_130 sv_131 sv_132 sv_133 := pf_136
            obtain ⟨ro_138, ero_138⟩ : ∃ z : Except Int (Nat × Nat), z = (pz_b ro_121 (pz_sum (cB (Tf 1) (Tv 0)))) := ⟨_, rfl⟩
            rw [← ero_138] at pf_136
            have tb_139 : TpB (rTE (cB (Tf 1) (Tv 0)) ro_138) sv_131 sv_133 := TpR.tb pf_136
            have pf_137 : Ctd (pz_b ro_121 (pz_sum (cB (Tf 1) (Tv 0)))) sv_128 := pf_137
            rw [← ero_138] at pf_137
            refine W.eq (g2 := F0 m 129 ls []) rfl ?_
            replace hP : va_P D classes [((Va 0), .inr (7, [.ref (Va 1), .int sv_127, .int sv_128])), ((Va 1), .inl (tc 0, 400, .inl sv_129)), ((Ta 0), .inr (10, [.ref (Ta 1), .int (Tv 0), .int sv_130, .int sv_131, .int sv_132, .int sv_133])), ((Ta 1), .inl (tc 0, 400, .inl (Tf 1)))] H := hP₀
            replace hD : va_D A [((Va 0), .inr (7, [.ref (Va 1), .int sv_127, .int sv_128])), ((Va 1), .inl (tc 0, 400, .inl sv_129)), ((Ta 0), .inr (10, [.ref (Ta 1), .int (Tv 0), .int sv_130, .int sv_131, .int sv_132, .int sv_133])), ((Ta 1), .inl (tc 0, 400, .inl (Tf 1)))] := hD₀
            replace hS := hS₀
            clear hP₀ hD₀ hS₀
            refine lv_aload_n hx hb dX7_readFact_129 rfl (lv_at hl 2 rfl) ?_
            refine lv_iload hx hb dX7_readFact_130 (lv_at hl 0 rfl) ?_
            refine cV (a := (Va 0)) (As := [.int r_97]) (rest := []) (wr := [((Ta 0), .inr (10, [.ref (Ta 1), .int (Tv 0), .int sv_130, .int sv_131, .int sv_132, .int sv_133])), ((Ta 1), .inl (tc 0, 400, .inl (Tf 1)))]) ⟨hx, hb, hml, hown, hts⟩ hK hX hA (cu_fX7_put l D tc sk (Va 0) (Va 1) sv_127 sv_128 sv_129 r_97 pf_135) k_642 k_639 k_641 k_10 k_99 pl_X7_put ⟨Nat.le_of_ble_eq_true rfl, Nat.le_of_ble_eq_true rfl⟩ rfl rfl (va_recv hK hP (ci := 7) (q0 := 0) rfl rfl) hP hD hS [0, 1] [2, 3] rfl rfl rfl rfl rfl (by decide) rfl hl.1 rfl (Nat.le_of_ble_eq_true rfl) dX7_readFact_132 ⟨Nat.le_of_ble_eq_true rfl, Nat.le_of_ble_eq_true rfl⟩ (fun v_140 u_141 H locs hv_142 hP₀ hD₀ hS₀ => ?_)
            obtain ⟨sv_143, sv_144⟩ := u_141
            obtain ⟨rfl, pf_145⟩ := hv_142
            have pf_145 : 0 ≤ (sv_143 : Int32).toInt ∧ (sv_143 : Int32).toInt ≤ 400 := pf_145
            refine W.eq (g2 := F0 m 135 ls []) rfl ?_
            replace hP : va_P D classes [((Ta 0), .inr (10, [.ref (Ta 1), .int (Tv 0), .int sv_130, .int sv_131, .int sv_132, .int sv_133])), ((Ta 1), .inl (tc 0, 400, .inl (Tf 1))), ((Va 0), .inr (7, [.ref (Va 1), .int sv_143, .int sv_128])), ((Va 1), .inl (tc 0, 400, .inl sv_144))] H := hP₀
            replace hD : va_D A [((Ta 0), .inr (10, [.ref (Ta 1), .int (Tv 0), .int sv_130, .int sv_131, .int sv_132, .int sv_133])), ((Ta 1), .inl (tc 0, 400, .inl (Tf 1))), ((Va 0), .inr (7, [.ref (Va 1), .int sv_143, .int sv_128])), ((Va 1), .inl (tc 0, 400, .inl sv_144))] := hD₀
            replace hS := hS₀
            clear hP₀ hD₀ hS₀
            have hf_146 : TpR (Tf 1) (Tv 0) (pz_b rr (pz_fact (cB (Tf 1) (Tv 0)) 3)) sv_130 sv_131 sv_132 sv_133 := by
              have hE_147 : (pz_b rr (pz_fact (cB (Tf 1) (Tv 0)) 3)) = ro_138 := by
                rw [ero_138, ero_121, ero_111, ero_92]
                have hw_148 : NWd (cB (Tf 1) (Tv 0)) pz_not rr := by
                  rw [← wS4]
                  exact pf_55
                have hw_149 : NSg (cB (Tf 1) (Tv 0)) 91 rr := by
                  exact pf_74
                have hu_150 : TpR (Tf 1) (Tv 0) (pz_b rr (pz_sum (cB (Tf 1) (Tv 0)))) sv_84 sv_85 sv_86 sv_87 := by
                  rw [← ero_92]
                  exact pf_90
                have hr_151 : 60 ≤ (sv_86 : Int32).toInt ∧ (sv_86 : Int32).toInt ≤ 62 := by
                  have z_1 := congrArg Int32.toInt c_11
                  have z_2 : ¬ ((Tv 3) : Int32).toInt = (91 : Int32).toInt := fun z => c_57 (Int32.toInt_inj.mp z)
                  have z_3 := congrArg Int32.toInt c_58
                  have z_4 := congrArg Int32.toInt c_73
                  have z_5 : ¬ (r_97 : Int32).toInt = ((-1) : Int32).toInt := fun z => c_100 (Int32.toInt_inj.mp z)
                  have y_m1 : (-1 : Int32).toInt = -1 := by decide
                  have y_0 : (0 : Int32).toInt = 0 := by decide
                  have y_91 : (91 : Int32).toInt = 91 := by decide
                  omega
                exact ((fact_com hw_148 hw_149).trans (congrArg (fun z => pz_b z (pz_sum (cB (Tf 1) (Tv 0)))) (com_yes hu_150 hr_151)))
              rw [hE_147]
              exact pf_136
            have hf_152 : Ctd (pz_b rr (pz_fact (cB (Tf 1) (Tv 0)) 3)) sv_128 := by
              have hE_153 : (pz_b rr (pz_fact (cB (Tf 1) (Tv 0)) 3)) = ro_138 := by
                rw [ero_138, ero_121, ero_111, ero_92]
                have hw_154 : NWd (cB (Tf 1) (Tv 0)) pz_not rr := by
                  rw [← wS4]
                  exact pf_55
                have hw_155 : NSg (cB (Tf 1) (Tv 0)) 91 rr := by
                  exact pf_74
                have hu_156 : TpR (Tf 1) (Tv 0) (pz_b rr (pz_sum (cB (Tf 1) (Tv 0)))) sv_84 sv_85 sv_86 sv_87 := by
                  rw [← ero_92]
                  exact pf_90
                have hr_157 : 60 ≤ (sv_86 : Int32).toInt ∧ (sv_86 : Int32).toInt ≤ 62 := by
                  have z_1 := congrArg Int32.toInt c_11
                  have z_2 : ¬ ((Tv 3) : Int32).toInt = (91 : Int32).toInt := fun z => c_57 (Int32.toInt_inj.mp z)
                  have z_3 := congrArg Int32.toInt c_58
                  have z_4 := congrArg Int32.toInt c_73
                  have z_5 : ¬ (r_97 : Int32).toInt = ((-1) : Int32).toInt := fun z => c_100 (Int32.toInt_inj.mp z)
                  have y_m1 : (-1 : Int32).toInt = -1 := by decide
                  have y_0 : (0 : Int32).toInt = 0 := by decide
                  have y_91 : (91 : Int32).toInt = 91 := by decide
                  omega
                exact ((fact_com hw_154 hw_155).trans (congrArg (fun z => pz_b z (pz_sum (cB (Tf 1) (Tv 0)))) (com_yes hu_156 hr_157)))
              rw [hE_153]
              exact pf_137
            exact retV hx hb hr hlk hP hD hS (sv_143, sv_128, sv_144, sv_130, sv_131, sv_132, sv_133) ⟨rfl, pf_134, pf_145, hf_146, hf_152⟩ [2, 3, 0, 1] rfl rfl dX7_readFact_135 (Nat.le_of_ble_eq_true rfl) (Nat.le_of_ble_eq_true rfl) rfl
          · skip
            refine lv_aload_n hx hb dX7_readFact_110 rfl (lv_at hl 3 rfl) ?_
            refine lv_iconst (v := 0) hx hb dX7_readFact_111 (by decide) ?_
            have ha_158 : 0 ≤ (0 : Int32).toInt ∧ (0 : Int32).toInt ≤ 4 := by
              have z_1 := congrArg Int32.toInt c_11
              have z_2 : ¬ ((Tv 3) : Int32).toInt = (91 : Int32).toInt := fun z => c_57 (Int32.toInt_inj.mp z)
              have z_3 := congrArg Int32.toInt c_58
              have z_4 := congrArg Int32.toInt c_73
              have z_5 := congrArg Int32.toInt c_100
              have y_m1 : (-1 : Int32).toInt = -1 := by decide
              have y_0 : (0 : Int32).toInt = 0 := by decide
              have y_91 : (91 : Int32).toInt = 91 := by decide
              omega
            have ha_159 : (0 : Int32).toInt = (0 : Int) := by
              have z_1 := congrArg Int32.toInt c_11
              have z_2 : ¬ ((Tv 3) : Int32).toInt = (91 : Int32).toInt := fun z => c_57 (Int32.toInt_inj.mp z)
              have z_3 := congrArg Int32.toInt c_58
              have z_4 := congrArg Int32.toInt c_73
              have z_5 := congrArg Int32.toInt c_100
              have y_m1 : (-1 : Int32).toInt = -1 := by decide
              have y_0 : (0 : Int32).toInt = 0 := by decide
              have y_91 : (91 : Int32).toInt = 91 := by decide
              omega
            refine cV (a := (Ta 0)) (As := [.int 0]) (rest := []) (wr := [((Va 0), .inr (7, [.ref (Va 1), .int sv_81, .int sv_82])), ((Va 1), .inl (tc 0, 400, .inl sv_83))]) ⟨hx, hb, hml, hown, hts⟩ hK hX hA (cu_fX10_fail l D tc sk (Ta 0) (Ta 1) (Tv 0) sv_84 sv_85 sv_86 sv_87 (Tf 1) 0 ro_92 0 pf_88 pf_90 ha_158 ha_159) k_557 k_619 k_555 k_556 k_96 pl_X10_fail ⟨Nat.le_of_ble_eq_true rfl, Nat.le_of_ble_eq_true rfl⟩ rfl rfl (va_recv hK hP (ci := 10) (q0 := 2) rfl rfl) hP hD hS [2, 3] [0, 1] rfl rfl rfl rfl rfl (by decide) rfl hl.1 rfl (Nat.le_of_ble_eq_true rfl) dX7_readFact_112 ⟨Nat.le_of_ble_eq_true rfl, Nat.le_of_ble_eq_true rfl⟩ (fun v_160 u_161 H locs hv_162 hP₀ hD₀ hS₀ => ?_)
            obtain ⟨sv_163, sv_164⟩ := u_161
            obtain ⟨rfl, pf_165, pf_166⟩ := hv_162
            have pf_165 : 0 ≤ ((Tv 0) : Int32).toInt ∧ ((Tv 0) : Int32).toInt ≤ 400 ∧ 0 ≤ (sv_84 : Int32).toInt ∧ (sv_84 : Int32).toInt ≤ 400 ∧ 0 ≤ (sv_85 : Int32).toInt ∧ (sv_85 : Int32).toInt ≤ 400 := pf_165
            have pf_166 : TpR (Tf 1) (Tv 0) (rER (0 : Int) ro_92) sv_84 sv_85 sv_163 sv_164 := pf_166
            obtain ⟨ro_167, ero_167⟩ : ∃ z : Except Int (Nat × Nat), z = (rER 0 ro_92) := ⟨_, rfl⟩
            rw [← ero_167] at pf_166
            have tb_168 : TpB (rTE (cB (Tf 1) (Tv 0)) ro_167) sv_85 sv_164 := TpR.tb pf_166
            have cd_169 : Ctd ro_167 sv_82 := by rw [ero_167]; exact (Ctd.er)
            refine W.eq (g2 := F0 m 115 ls []) rfl ?_
            replace hP : va_P D classes [((Va 0), .inr (7, [.ref (Va 1), .int sv_81, .int sv_82])), ((Va 1), .inl (tc 0, 400, .inl sv_83)), ((Ta 0), .inr (10, [.ref (Ta 1), .int (Tv 0), .int sv_84, .int sv_85, .int sv_163, .int sv_164])), ((Ta 1), .inl (tc 0, 400, .inl (Tf 1)))] H := hP₀
            replace hD : va_D A [((Va 0), .inr (7, [.ref (Va 1), .int sv_81, .int sv_82])), ((Va 1), .inl (tc 0, 400, .inl sv_83)), ((Ta 0), .inr (10, [.ref (Ta 1), .int (Tv 0), .int sv_84, .int sv_85, .int sv_163, .int sv_164])), ((Ta 1), .inl (tc 0, 400, .inl (Tf 1)))] := hD₀
            replace hS := hS₀
            clear hP₀ hD₀ hS₀
            refine lv_aload_n hx hb dX7_readFact_115 rfl (lv_at hl 2 rfl) ?_
            refine lv_aload_n hx hb dX7_readFact_116 rfl (lv_at hl 3 rfl) ?_
            refine cV (a := (Va 0)) (As := [.ref (Ta 0)]) (rest := []) (wr := []) ⟨hx, hb, hml, hown, hts⟩ hK hX hA (cu_fX7_countOne l D tc sk (Va 0) (Va 1) sv_81 sv_82 sv_83 (Ta 0) (Ta 1) (Tv 0) sv_84 sv_85 sv_163 sv_164 (Tf 1) ro_167 pf_165 pf_89 h_by pf_166 cd_169) k_638 k_635 k_637 k_9 k_99 pl_X7_countOne ⟨Nat.le_of_ble_eq_true rfl, Nat.le_of_ble_eq_true rfl⟩ rfl rfl (va_recv hK hP (ci := 7) (q0 := 0) rfl rfl) hP hD hS [0, 1, 2, 3] [] rfl rfl rfl rfl rfl (by decide) rfl hl.1 rfl (Nat.le_of_ble_eq_true rfl) dX7_readFact_117 ⟨Nat.le_of_ble_eq_true rfl, Nat.le_of_ble_eq_true rfl⟩ (fun v_170 u_171 H locs hv_172 hP₀ hD₀ hS₀ => ?_)
            obtain ⟨sv_173, sv_174, sv_175⟩ := u_171
            obtain ⟨rfl, pf_176, pf_177, pf_178, pf_179⟩ := hv_172
            have pf_176 : 0 ≤ ((Tv 0) : Int32).toInt ∧ ((Tv 0) : Int32).toInt ≤ 400 ∧ 0 ≤ (sv_84 : Int32).toInt ∧ (sv_84 : Int32).toInt ≤ 400 ∧ 0 ≤ (sv_85 : Int32).toInt ∧ (sv_85 : Int32).toInt ≤ 400 := pf_176
            have pf_177 : 0 ≤ (sv_81 : Int32).toInt ∧ (sv_81 : Int32).toInt ≤ 400 := pf_177
            have pf_178 : TpR (Tf 1) (Tv 0) (rC1 ro_167) sv_84 sv_85 sv_174 sv_175 := pf_178
            obtain ⟨ro_180, ero_180⟩ : ∃ z : Except Int (Nat × Nat), z = (rC1 ro_167) := ⟨_, rfl⟩
            rw [← ero_180] at pf_178
            have tb_181 : TpB (rTE (cB (Tf 1) (Tv 0)) ro_180) sv_85 sv_175 := TpR.tb pf_178
            have pf_179 : Ctd (rC1 ro_167) sv_173 := pf_179
            rw [← ero_180] at pf_179
            refine W.eq (g2 := F0 m 120 ls []) rfl ?_
            replace hP : va_P D classes [((Va 0), .inr (7, [.ref (Va 1), .int sv_81, .int sv_173])), ((Va 1), .inl (tc 0, 400, .inl sv_83)), ((Ta 0), .inr (10, [.ref (Ta 1), .int (Tv 0), .int sv_84, .int sv_85, .int sv_174, .int sv_175])), ((Ta 1), .inl (tc 0, 400, .inl (Tf 1)))] H := hP₀
            replace hD : va_D A [((Va 0), .inr (7, [.ref (Va 1), .int sv_81, .int sv_173])), ((Va 1), .inl (tc 0, 400, .inl sv_83)), ((Ta 0), .inr (10, [.ref (Ta 1), .int (Tv 0), .int sv_84, .int sv_85, .int sv_174, .int sv_175])), ((Ta 1), .inl (tc 0, 400, .inl (Tf 1)))] := hD₀
            replace hS := hS₀
            clear hP₀ hD₀ hS₀
            refine lv_aload_n hx hb dX7_readFact_120 rfl (lv_at hl 3 rfl) ?_
            refine cV (a := (Ta 0)) (As := []) (rest := []) (wr := [((Va 0), .inr (7, [.ref (Va 1), .int sv_81, .int sv_173])), ((Va 1), .inl (tc 0, 400, .inl sv_83))]) ⟨hx, hb, hml, hown, hts⟩ hK hX hA (cu_fX10_step l D tc sk (Ta 0) (Ta 1) (Tv 0) sv_84 sv_85 sv_174 sv_175 (Tf 1) (rTE (cB (Tf 1) (Tv 0)) ro_180) pf_176 h_by tb_181) k_478 k_620 k_476 k_477 k_96 pl_X10_step ⟨Nat.le_of_ble_eq_true rfl, Nat.le_of_ble_eq_true rfl⟩ rfl rfl (va_recv hK hP (ci := 10) (q0 := 2) rfl rfl) hP hD hS [2, 3] [0, 1] rfl rfl rfl rfl rfl (by decide) rfl hl.1 rfl (Nat.le_of_ble_eq_true rfl) dX7_readFact_121 ⟨Nat.le_of_ble_eq_true rfl, Nat.le_of_ble_eq_true rfl⟩ (fun v_182 u_183 H locs hv_184 hP₀ hD₀ hS₀ => ?_)
            obtain ⟨sv_185, sv_186, sv_187⟩ := u_183
            obtain ⟨rfl, pf_188, pf_189⟩ := hv_184
            have pf_188 : 0 ≤ ((Tv 0) : Int32).toInt ∧ ((Tv 0) : Int32).toInt ≤ 400 ∧ 0 ≤ (sv_185 : Int32).toInt ∧ (sv_185 : Int32).toInt ≤ 400 ∧ 0 ≤ (sv_186 : Int32).toInt ∧ (sv_186 : Int32).toInt ≤ 400 := pf_188
            have pf_189 : TpR (Tf 1) (Tv 0) (rSK (cB (Tf 1) (Tv 0)) (rTE (cB (Tf 1) (Tv 0)) ro_180)) sv_185 sv_186 sv_187 sv_175 := pf_189
            rw [rNX_eq] at pf_189
            obtain ⟨ro_190, ero_190⟩ : ∃ z : Except Int (Nat × Nat), z = (rNX (cB (Tf 1) (Tv 0)) ro_180) := ⟨_, rfl⟩
            rw [← ero_190] at pf_189
            have tb_191 : TpB (rTE (cB (Tf 1) (Tv 0)) ro_190) sv_186 sv_175 := TpR.tb pf_189
            have cd_192 : Ctd ro_190 sv_173 := by rw [ero_190]; exact (Ctd.nx pf_179)
            refine W.eq (g2 := F0 m 124 ls []) rfl ?_
            replace hP : va_P D classes [((Va 0), .inr (7, [.ref (Va 1), .int sv_81, .int sv_173])), ((Va 1), .inl (tc 0, 400, .inl sv_83)), ((Ta 0), .inr (10, [.ref (Ta 1), .int (Tv 0), .int sv_185, .int sv_186, .int sv_187, .int sv_175])), ((Ta 1), .inl (tc 0, 400, .inl (Tf 1)))] H := hP₀
            replace hD : va_D A [((Va 0), .inr (7, [.ref (Va 1), .int sv_81, .int sv_173])), ((Va 1), .inl (tc 0, 400, .inl sv_83)), ((Ta 0), .inr (10, [.ref (Ta 1), .int (Tv 0), .int sv_185, .int sv_186, .int sv_187, .int sv_175])), ((Ta 1), .inl (tc 0, 400, .inl (Tf 1)))] := hD₀
            replace hS := hS₀
            clear hP₀ hD₀ hS₀
            refine lv_aload_n hx hb dX7_readFact_124 rfl (lv_at hl 2 rfl) ?_
            refine lv_aload_n hx hb dX7_readFact_125 rfl (lv_at hl 3 rfl) ?_
            refine cV (a := (Va 0)) (As := [.ref (Ta 0)]) (rest := []) (wr := []) ⟨hx, hb, hml, hown, hts⟩ hK hX hA (cu_fX7_readSum l D tc sk (Va 0) (Va 1) sv_81 sv_173 sv_83 (Ta 0) (Ta 1) (Tv 0) sv_185 sv_186 sv_187 sv_175 (Tf 1) ro_190 pf_188 pf_177 h_by pf_189 cd_192) k_624 k_621 k_623 k_7 k_99 pl_X7_readSum ⟨Nat.le_of_ble_eq_true rfl, Nat.le_of_ble_eq_true rfl⟩ rfl rfl (va_recv hK hP (ci := 7) (q0 := 0) rfl rfl) hP hD hS [0, 1, 2, 3] [] rfl rfl rfl rfl rfl (by decide) rfl hl.1 rfl (Nat.le_of_ble_eq_true rfl) dX7_readFact_126 ⟨Nat.le_of_ble_eq_true rfl, Nat.le_of_ble_eq_true rfl⟩ (fun v_193 u_194 H locs hv_195 hP₀ hD₀ hS₀ => ?_)
            obtain ⟨sv_196, sv_197, sv_198, sv_199, sv_200, sv_201, sv_202⟩ := u_194
            obtain ⟨rfl, pf_203, pf_204, pf_205, pf_206⟩ := hv_195
            have pf_203 : 0 ≤ ((Tv 0) : Int32).toInt ∧ ((Tv 0) : Int32).toInt ≤ 400 ∧ 0 ≤ (sv_199 : Int32).toInt ∧ (sv_199 : Int32).toInt ≤ 400 ∧ 0 ≤ (sv_200 : Int32).toInt ∧ (sv_200 : Int32).toInt ≤ 400 := pf_203
            have pf_204 : 0 ≤ (sv_196 : Int32).toInt ∧ (sv_196 : Int32).toInt ≤ 400 := pf_204
            have pf_205 : TpR (Tf 1) (Tv 0) (pz_b ro_190 (pz_sum (cB (Tf 1) (Tv 0)))) sv_199 sv_200 sv_201 sv_202 := pf_205
            obtain ⟨ro_207, ero_207⟩ : ∃ z : Except Int (Nat × Nat), z = (pz_b ro_190 (pz_sum (cB (Tf 1) (Tv 0)))) := ⟨_, rfl⟩
            rw [← ero_207] at pf_205
            have tb_208 : TpB (rTE (cB (Tf 1) (Tv 0)) ro_207) sv_200 sv_202 := TpR.tb pf_205
            have pf_206 : Ctd (pz_b ro_190 (pz_sum (cB (Tf 1) (Tv 0)))) sv_197 := pf_206
            rw [← ero_207] at pf_206
            refine W.eq (g2 := F0 m 129 ls []) rfl ?_
            replace hP : va_P D classes [((Va 0), .inr (7, [.ref (Va 1), .int sv_196, .int sv_197])), ((Va 1), .inl (tc 0, 400, .inl sv_198)), ((Ta 0), .inr (10, [.ref (Ta 1), .int (Tv 0), .int sv_199, .int sv_200, .int sv_201, .int sv_202])), ((Ta 1), .inl (tc 0, 400, .inl (Tf 1)))] H := hP₀
            replace hD : va_D A [((Va 0), .inr (7, [.ref (Va 1), .int sv_196, .int sv_197])), ((Va 1), .inl (tc 0, 400, .inl sv_198)), ((Ta 0), .inr (10, [.ref (Ta 1), .int (Tv 0), .int sv_199, .int sv_200, .int sv_201, .int sv_202])), ((Ta 1), .inl (tc 0, 400, .inl (Tf 1)))] := hD₀
            replace hS := hS₀
            clear hP₀ hD₀ hS₀
            refine lv_aload_n hx hb dX7_readFact_129 rfl (lv_at hl 2 rfl) ?_
            refine lv_iload hx hb dX7_readFact_130 (lv_at hl 0 rfl) ?_
            refine cV (a := (Va 0)) (As := [.int r_97]) (rest := []) (wr := [((Ta 0), .inr (10, [.ref (Ta 1), .int (Tv 0), .int sv_199, .int sv_200, .int sv_201, .int sv_202])), ((Ta 1), .inl (tc 0, 400, .inl (Tf 1)))]) ⟨hx, hb, hml, hown, hts⟩ hK hX hA (cu_fX7_put l D tc sk (Va 0) (Va 1) sv_196 sv_197 sv_198 r_97 pf_204) k_642 k_639 k_641 k_10 k_99 pl_X7_put ⟨Nat.le_of_ble_eq_true rfl, Nat.le_of_ble_eq_true rfl⟩ rfl rfl (va_recv hK hP (ci := 7) (q0 := 0) rfl rfl) hP hD hS [0, 1] [2, 3] rfl rfl rfl rfl rfl (by decide) rfl hl.1 rfl (Nat.le_of_ble_eq_true rfl) dX7_readFact_132 ⟨Nat.le_of_ble_eq_true rfl, Nat.le_of_ble_eq_true rfl⟩ (fun v_209 u_210 H locs hv_211 hP₀ hD₀ hS₀ => ?_)
            obtain ⟨sv_212, sv_213⟩ := u_210
            obtain ⟨rfl, pf_214⟩ := hv_211
            have pf_214 : 0 ≤ (sv_212 : Int32).toInt ∧ (sv_212 : Int32).toInt ≤ 400 := pf_214
            refine W.eq (g2 := F0 m 135 ls []) rfl ?_
            replace hP : va_P D classes [((Ta 0), .inr (10, [.ref (Ta 1), .int (Tv 0), .int sv_199, .int sv_200, .int sv_201, .int sv_202])), ((Ta 1), .inl (tc 0, 400, .inl (Tf 1))), ((Va 0), .inr (7, [.ref (Va 1), .int sv_212, .int sv_197])), ((Va 1), .inl (tc 0, 400, .inl sv_213))] H := hP₀
            replace hD : va_D A [((Ta 0), .inr (10, [.ref (Ta 1), .int (Tv 0), .int sv_199, .int sv_200, .int sv_201, .int sv_202])), ((Ta 1), .inl (tc 0, 400, .inl (Tf 1))), ((Va 0), .inr (7, [.ref (Va 1), .int sv_212, .int sv_197])), ((Va 1), .inl (tc 0, 400, .inl sv_213))] := hD₀
            replace hS := hS₀
            clear hP₀ hD₀ hS₀
            have hf_215 : TpR (Tf 1) (Tv 0) (pz_b rr (pz_fact (cB (Tf 1) (Tv 0)) 3)) sv_199 sv_200 sv_201 sv_202 := by
              have hE_216 : (pz_b rr (pz_fact (cB (Tf 1) (Tv 0)) 3)) = ro_207 := by
                rw [ero_207, ero_190, ero_180, ero_167, ero_92]
                have hw_217 : NWd (cB (Tf 1) (Tv 0)) pz_not rr := by
                  rw [← wS4]
                  exact pf_55
                have hw_218 : NSg (cB (Tf 1) (Tv 0)) 91 rr := by
                  exact pf_74
                have hu_219 : TpR (Tf 1) (Tv 0) (pz_b rr (pz_sum (cB (Tf 1) (Tv 0)))) sv_84 sv_85 sv_86 sv_87 := by
                  rw [← ero_92]
                  exact pf_90
                have hr_220 : ¬ (60 ≤ (sv_86 : Int32).toInt ∧ (sv_86 : Int32).toInt ≤ 62) := by
                  have z_1 := congrArg Int32.toInt c_11
                  have z_2 : ¬ ((Tv 3) : Int32).toInt = (91 : Int32).toInt := fun z => c_57 (Int32.toInt_inj.mp z)
                  have z_3 := congrArg Int32.toInt c_58
                  have z_4 := congrArg Int32.toInt c_73
                  have z_5 := congrArg Int32.toInt c_100
                  have y_m1 : (-1 : Int32).toInt = -1 := by decide
                  have y_0 : (0 : Int32).toInt = 0 := by decide
                  have y_91 : (91 : Int32).toInt = 91 := by decide
                  omega
                exact ((fact_com hw_217 hw_218).trans (congrArg (fun z => pz_b z (pz_sum (cB (Tf 1) (Tv 0)))) (com_no hu_219 hr_220)))
              rw [hE_216]
              exact pf_205
            have hf_221 : Ctd (pz_b rr (pz_fact (cB (Tf 1) (Tv 0)) 3)) sv_197 := by
              have hE_222 : (pz_b rr (pz_fact (cB (Tf 1) (Tv 0)) 3)) = ro_207 := by
                rw [ero_207, ero_190, ero_180, ero_167, ero_92]
                have hw_223 : NWd (cB (Tf 1) (Tv 0)) pz_not rr := by
                  rw [← wS4]
                  exact pf_55
                have hw_224 : NSg (cB (Tf 1) (Tv 0)) 91 rr := by
                  exact pf_74
                have hu_225 : TpR (Tf 1) (Tv 0) (pz_b rr (pz_sum (cB (Tf 1) (Tv 0)))) sv_84 sv_85 sv_86 sv_87 := by
                  rw [← ero_92]
                  exact pf_90
                have hr_226 : ¬ (60 ≤ (sv_86 : Int32).toInt ∧ (sv_86 : Int32).toInt ≤ 62) := by
                  have z_1 := congrArg Int32.toInt c_11
                  have z_2 : ¬ ((Tv 3) : Int32).toInt = (91 : Int32).toInt := fun z => c_57 (Int32.toInt_inj.mp z)
                  have z_3 := congrArg Int32.toInt c_58
                  have z_4 := congrArg Int32.toInt c_73
                  have z_5 := congrArg Int32.toInt c_100
                  have y_m1 : (-1 : Int32).toInt = -1 := by decide
                  have y_0 : (0 : Int32).toInt = 0 := by decide
                  have y_91 : (91 : Int32).toInt = 91 := by decide
                  omega
                exact ((fact_com hw_223 hw_224).trans (congrArg (fun z => pz_b z (pz_sum (cB (Tf 1) (Tv 0)))) (com_no hu_225 hr_226)))
              rw [hE_222]
              exact pf_206
            exact retV hx hb hr hlk hP hD hS (sv_212, sv_197, sv_213, sv_199, sv_200, sv_201, sv_202) ⟨rfl, pf_203, pf_214, hf_215, hf_221⟩ [2, 3, 0, 1] rfl rfl dX7_readFact_135 (Nat.le_of_ble_eq_true rfl) (Nat.le_of_ble_eq_true rfl) rfl
        · skip
          have hz_229 : (r_68 : Int32).toInt = 1 := by
            have z_1 := congrArg Int32.toInt c_11
            have z_2 : ¬ ((Tv 3) : Int32).toInt = (91 : Int32).toInt := fun z => c_57 (Int32.toInt_inj.mp z)
            have z_3 := congrArg Int32.toInt c_58
            have z_4 : ¬ (r_68 : Int32).toInt = (0 : Int32).toInt := fun z => c_73 (Int32.toInt_inj.mp z)
            have y_0 : (0 : Int32).toInt = 0 := by decide
            have y_91 : (91 : Int32).toInt = 91 := by decide
            omega
          obtain ⟨pf_227, pf_228⟩ := hm_71 hz_229
          have pf_227 : Sg (cB (Tf 1) (Tv 0)) (91 : Int) rr := pf_227
          have pf_228 : TpR (Tf 1) (Tv 0) (rNX (cB (Tf 1) (Tv 0)) rr) sv_64 sv_65 sv_66 (Tv 4) := pf_228
          obtain ⟨ro_230, ero_230⟩ : ∃ z : Except Int (Nat × Nat), z = (rNX (cB (Tf 1) (Tv 0)) rr) := ⟨_, rfl⟩
          rw [← ero_230] at pf_228
          have tb_231 : TpB (rTE (cB (Tf 1) (Tv 0)) ro_230) sv_65 (Tv 4) := TpR.tb pf_228
          have cd_232 : Ctd ro_230 (Vv 1) := by rw [ero_230]; exact (Ctd.nx h_ct)
          refine lv_aload_n hx hb dX7_readFact_68 rfl (lv_at hl 1 rfl) ?_
          refine lv_aload_n hx hb dX7_readFact_69 rfl (lv_at hl 2 rfl) ?_
          refine lv_iload_n hx hb dX7_readFact_70 rfl (lv_at hl 3 rfl) ?_
          refine lv_iconst (v := 1) hx hb dX7_readFact_71 (by decide) ?_
          refine lv_iadd hx hb dX7_readFact_72 ?_
          refine lv_lit (v := 8) (by decide) ?_
          refine cV (a := (Va 0)) (As := [.ref (Ta 0), .int 8]) (rest := []) (wr := []) ⟨hx, hb, hml, hown, hts⟩ hK hX hA (cu_fX7_readTest_8 l D tc sk (Va 0) (Va 1) (Vv 0) (Vv 1) (Vf 1) (Ta 0) (Ta 1) (Tv 0) sv_64 sv_65 sv_66 (Tv 4) (Tf 1) ro_230 pf_67 h_u h_by pf_228 cd_232) k_655 k_652 k_654 k_11 k_99 pl_X7_readTest ⟨Nat.le_of_ble_eq_true rfl, Nat.le_of_ble_eq_true rfl⟩ rfl rfl (va_recv hK hP (ci := 7) (q0 := 0) rfl rfl) hP hD hS [0, 1, 2, 3] [] rfl rfl rfl rfl rfl (by decide) rfl hl.1 rfl (Nat.le_of_ble_eq_true rfl) dX7_readFact_73 ⟨Nat.le_of_ble_eq_true rfl, Nat.le_of_ble_eq_true rfl⟩ (fun v_233 u_234 H locs hv_235 hP₀ hD₀ hS₀ => ?_)
          obtain ⟨sv_236, sv_237, sv_238, sv_239, sv_240, sv_241, sv_242⟩ := u_234
          obtain ⟨rfl, pf_243, pf_244, pf_245, pf_246⟩ := hv_235
          have pf_243 : 0 ≤ ((Tv 0) : Int32).toInt ∧ ((Tv 0) : Int32).toInt ≤ 400 ∧ 0 ≤ (sv_239 : Int32).toInt ∧ (sv_239 : Int32).toInt ≤ 400 ∧ 0 ≤ (sv_240 : Int32).toInt ∧ (sv_240 : Int32).toInt ≤ 400 := pf_243
          have pf_244 : 0 ≤ (sv_236 : Int32).toInt ∧ (sv_236 : Int32).toInt ≤ 400 := pf_244
          have pf_245 : TpR (Tf 1) (Tv 0) (pz_b ro_230 (pz_tst (cB (Tf 1) (Tv 0)) (pz_fact (cB (Tf 1) (Tv 0)) 2))) sv_239 sv_240 sv_241 sv_242 := pf_245
          obtain ⟨ro_247, ero_247⟩ : ∃ z : Except Int (Nat × Nat), z = (pz_b ro_230 (pz_tst (cB (Tf 1) (Tv 0)) (pz_fact (cB (Tf 1) (Tv 0)) 2))) := ⟨_, rfl⟩
          rw [← ero_247] at pf_245
          have tb_248 : TpB (rTE (cB (Tf 1) (Tv 0)) ro_247) sv_240 sv_242 := TpR.tb pf_245
          have pf_246 : Ctd (pz_b ro_230 (pz_tst (cB (Tf 1) (Tv 0)) (pz_fact (cB (Tf 1) (Tv 0)) 2))) sv_237 := pf_246
          rw [← ero_247] at pf_246
          refine W.eq (g2 := F0 m 76 ls []) rfl ?_
          replace hP : va_P D classes [((Va 0), .inr (7, [.ref (Va 1), .int sv_236, .int sv_237])), ((Va 1), .inl (tc 0, 400, .inl sv_238)), ((Ta 0), .inr (10, [.ref (Ta 1), .int (Tv 0), .int sv_239, .int sv_240, .int sv_241, .int sv_242])), ((Ta 1), .inl (tc 0, 400, .inl (Tf 1)))] H := hP₀
          replace hD : va_D A [((Va 0), .inr (7, [.ref (Va 1), .int sv_236, .int sv_237])), ((Va 1), .inl (tc 0, 400, .inl sv_238)), ((Ta 0), .inr (10, [.ref (Ta 1), .int (Tv 0), .int sv_239, .int sv_240, .int sv_241, .int sv_242])), ((Ta 1), .inl (tc 0, 400, .inl (Tf 1)))] := hD₀
          replace hS := hS₀
          clear hP₀ hD₀ hS₀
          refine lv_aload_n hx hb dX7_readFact_76 rfl (lv_at hl 2 rfl) ?_
          refine lv_bipush (v := 93) hx hb dX7_readFact_77 (by decide) ?_
          have ha_249 : 0 ≤ (93 : Int32).toInt := by
            have z_1 := congrArg Int32.toInt c_11
            have z_2 : ¬ ((Tv 3) : Int32).toInt = (91 : Int32).toInt := fun z => c_57 (Int32.toInt_inj.mp z)
            have z_3 := congrArg Int32.toInt c_58
            have z_4 : ¬ (r_68 : Int32).toInt = (0 : Int32).toInt := fun z => c_73 (Int32.toInt_inj.mp z)
            have y_0 : (0 : Int32).toInt = 0 := by decide
            have y_91 : (91 : Int32).toInt = 91 := by decide
            have y_93 : (93 : Int32).toInt = 93 := by decide
            omega
          have ha_250 : (93 : Int32).toInt = (93 : Int) := by
            have z_1 := congrArg Int32.toInt c_11
            have z_2 : ¬ ((Tv 3) : Int32).toInt = (91 : Int32).toInt := fun z => c_57 (Int32.toInt_inj.mp z)
            have z_3 := congrArg Int32.toInt c_58
            have z_4 : ¬ (r_68 : Int32).toInt = (0 : Int32).toInt := fun z => c_73 (Int32.toInt_inj.mp z)
            have y_0 : (0 : Int32).toInt = 0 := by decide
            have y_91 : (91 : Int32).toInt = 91 := by decide
            have y_93 : (93 : Int32).toInt = 93 := by decide
            omega
          refine cV (a := (Ta 0)) (As := [.int 93]) (rest := []) (wr := [((Va 0), .inr (7, [.ref (Va 1), .int sv_236, .int sv_237])), ((Va 1), .inl (tc 0, 400, .inl sv_238))]) ⟨hx, hb, hml, hown, hts⟩ hK hX hA (cu_fX10_takes l D tc sk (Ta 0) (Ta 1) (Tv 0) sv_239 sv_240 sv_241 sv_242 (Tf 1) 93 ro_247 93 pf_243 h_by pf_245 ha_249 ha_250) k_492 k_613 k_490 k_491 k_96 pl_X10_takes ⟨Nat.le_of_ble_eq_true rfl, Nat.le_of_ble_eq_true rfl⟩ rfl rfl (va_recv hK hP (ci := 10) (q0 := 2) rfl rfl) hP hD hS [2, 3] [0, 1] rfl rfl rfl rfl rfl (by decide) rfl hl.1 rfl (Nat.le_of_ble_eq_true rfl) dX7_readFact_79 ⟨Nat.le_of_ble_eq_true rfl, Nat.le_of_ble_eq_true rfl⟩ (fun v_251 u_252 H locs hv_253 hP₀ hD₀ hS₀ => ?_)
          obtain ⟨sv_254, sv_255, sv_256⟩ := u_252
          obtain ⟨r_258, rfl, he_259, pf_257, hm_261, hm_262⟩ := hv_253
          have he_259 : (r_258.toInt = 0 ∨ r_258.toInt = 1) := he_259
          have pf_257 : 0 ≤ ((Tv 0) : Int32).toInt ∧ ((Tv 0) : Int32).toInt ≤ 400 ∧ 0 ≤ (sv_254 : Int32).toInt ∧ (sv_254 : Int32).toInt ≤ 400 ∧ 0 ≤ (sv_255 : Int32).toInt ∧ (sv_255 : Int32).toInt ≤ 400 := pf_257
          refine W.eq (g2 := F0 m 82 ls [.int r_258]) rfl ?_
          replace hP : va_P D classes [((Va 0), .inr (7, [.ref (Va 1), .int sv_236, .int sv_237])), ((Va 1), .inl (tc 0, 400, .inl sv_238)), ((Ta 0), .inr (10, [.ref (Ta 1), .int (Tv 0), .int sv_254, .int sv_255, .int sv_256, .int sv_242])), ((Ta 1), .inl (tc 0, 400, .inl (Tf 1)))] H := hP₀
          replace hD : va_D A [((Va 0), .inr (7, [.ref (Va 1), .int sv_236, .int sv_237])), ((Va 1), .inl (tc 0, 400, .inl sv_238)), ((Ta 0), .inr (10, [.ref (Ta 1), .int (Tv 0), .int sv_254, .int sv_255, .int sv_256, .int sv_242])), ((Ta 1), .inl (tc 0, 400, .inl (Tf 1)))] := hD₀
          replace hS := hS₀
          clear hP₀ hD₀ hS₀
          refine lv_if_ne (tgt := 135) hx hb dX7_readFact_82 (by decide) (fun c_263 => ?_) (fun c_263 => ?_)
          · skip
            have hz_266 : (r_258 : Int32).toInt = 1 := by
              have z_1 := congrArg Int32.toInt c_11
              have z_2 : ¬ ((Tv 3) : Int32).toInt = (91 : Int32).toInt := fun z => c_57 (Int32.toInt_inj.mp z)
              have z_3 := congrArg Int32.toInt c_58
              have z_4 : ¬ (r_68 : Int32).toInt = (0 : Int32).toInt := fun z => c_73 (Int32.toInt_inj.mp z)
              have z_5 : ¬ (r_258 : Int32).toInt = (0 : Int32).toInt := fun z => c_263 (Int32.toInt_inj.mp z)
              have y_0 : (0 : Int32).toInt = 0 := by decide
              have y_91 : (91 : Int32).toInt = 91 := by decide
              omega
            obtain ⟨pf_264, pf_265⟩ := hm_261 hz_266
            have pf_264 : Sg (cB (Tf 1) (Tv 0)) (93 : Int) ro_247 := pf_264
            have pf_265 : TpR (Tf 1) (Tv 0) (rNX (cB (Tf 1) (Tv 0)) ro_247) sv_254 sv_255 sv_256 sv_242 := pf_265
            obtain ⟨ro_267, ero_267⟩ : ∃ z : Except Int (Nat × Nat), z = (rNX (cB (Tf 1) (Tv 0)) ro_247) := ⟨_, rfl⟩
            rw [← ero_267] at pf_265
            have tb_268 : TpB (rTE (cB (Tf 1) (Tv 0)) ro_267) sv_255 sv_242 := TpR.tb pf_265
            have cd_269 : Ctd ro_267 sv_237 := by rw [ero_267]; exact (Ctd.nx pf_246)
            have hf_270 : TpR (Tf 1) (Tv 0) (pz_b rr (pz_fact (cB (Tf 1) (Tv 0)) 3)) sv_254 sv_255 sv_256 sv_242 := by
              have hE_271 : (pz_b rr (pz_fact (cB (Tf 1) (Tv 0)) 3)) = ro_267 := by
                rw [ero_267, ero_247, ero_230]
                have hw_272 : NWd (cB (Tf 1) (Tv 0)) pz_not rr := by
                  rw [← wS4]
                  exact pf_55
                have hw_273 : Sg (cB (Tf 1) (Tv 0)) 91 rr := by
                  exact pf_227
                have hw_274 : Sg (cB (Tf 1) (Tv 0)) 93 (pz_b (rNX (cB (Tf 1) (Tv 0)) rr) (pz_tst (cB (Tf 1) (Tv 0)) (pz_fact (cB (Tf 1) (Tv 0)) 2))) := by
                  rw [← ero_230, ← ero_247]
                  exact pf_264
                exact ((fact_br hw_272 hw_273).trans (rb_yes hw_274))
              rw [hE_271]
              exact pf_265
            have hf_275 : Ctd (pz_b rr (pz_fact (cB (Tf 1) (Tv 0)) 3)) sv_237 := by
              have hE_276 : (pz_b rr (pz_fact (cB (Tf 1) (Tv 0)) 3)) = ro_267 := by
                rw [ero_267, ero_247, ero_230]
                have hw_277 : NWd (cB (Tf 1) (Tv 0)) pz_not rr := by
                  rw [← wS4]
                  exact pf_55
                have hw_278 : Sg (cB (Tf 1) (Tv 0)) 91 rr := by
                  exact pf_227
                have hw_279 : Sg (cB (Tf 1) (Tv 0)) 93 (pz_b (rNX (cB (Tf 1) (Tv 0)) rr) (pz_tst (cB (Tf 1) (Tv 0)) (pz_fact (cB (Tf 1) (Tv 0)) 2))) := by
                  rw [← ero_230, ← ero_247]
                  exact pf_264
                exact ((fact_br hw_277 hw_278).trans (rb_yes hw_279))
              rw [hE_276]
              exact cd_269
            exact retV hx hb hr hlk hP hD hS (sv_236, sv_237, sv_238, sv_254, sv_255, sv_256, sv_242) ⟨rfl, pf_257, pf_244, hf_270, hf_275⟩ [0, 1, 2, 3] rfl rfl dX7_readFact_135 (Nat.le_of_ble_eq_true rfl) (Nat.le_of_ble_eq_true rfl) rfl
          · skip
            have hz_282 : (r_258 : Int32).toInt = 0 := by
              have z_1 := congrArg Int32.toInt c_11
              have z_2 : ¬ ((Tv 3) : Int32).toInt = (91 : Int32).toInt := fun z => c_57 (Int32.toInt_inj.mp z)
              have z_3 := congrArg Int32.toInt c_58
              have z_4 : ¬ (r_68 : Int32).toInt = (0 : Int32).toInt := fun z => c_73 (Int32.toInt_inj.mp z)
              have z_5 := congrArg Int32.toInt c_263
              have y_0 : (0 : Int32).toInt = 0 := by decide
              have y_91 : (91 : Int32).toInt = 91 := by decide
              omega
            obtain ⟨pf_280, pf_281⟩ := hm_262 hz_282
            have pf_280 : NSg (cB (Tf 1) (Tv 0)) (93 : Int) ro_247 := pf_280
            have pf_281 : TpR (Tf 1) (Tv 0) ro_247 sv_254 sv_255 sv_256 sv_242 := pf_281
            have tb_283 : TpB (rTE (cB (Tf 1) (Tv 0)) ro_247) sv_255 sv_242 := TpR.tb pf_281
            refine lv_aload_n hx hb dX7_readFact_85 rfl (lv_at hl 2 rfl) ?_
            refine lv_iconst (v := 0) hx hb dX7_readFact_86 (by decide) ?_
            have ha_284 : 0 ≤ (0 : Int32).toInt ∧ (0 : Int32).toInt ≤ 4 := by
              have z_1 := congrArg Int32.toInt c_11
              have z_2 : ¬ ((Tv 3) : Int32).toInt = (91 : Int32).toInt := fun z => c_57 (Int32.toInt_inj.mp z)
              have z_3 := congrArg Int32.toInt c_58
              have z_4 : ¬ (r_68 : Int32).toInt = (0 : Int32).toInt := fun z => c_73 (Int32.toInt_inj.mp z)
              have z_5 := congrArg Int32.toInt c_263
              have y_0 : (0 : Int32).toInt = 0 := by decide
              have y_91 : (91 : Int32).toInt = 91 := by decide
              omega
            have ha_285 : (0 : Int32).toInt = (0 : Int) := by
              have z_1 := congrArg Int32.toInt c_11
              have z_2 : ¬ ((Tv 3) : Int32).toInt = (91 : Int32).toInt := fun z => c_57 (Int32.toInt_inj.mp z)
              have z_3 := congrArg Int32.toInt c_58
              have z_4 : ¬ (r_68 : Int32).toInt = (0 : Int32).toInt := fun z => c_73 (Int32.toInt_inj.mp z)
              have z_5 := congrArg Int32.toInt c_263
              have y_0 : (0 : Int32).toInt = 0 := by decide
              have y_91 : (91 : Int32).toInt = 91 := by decide
              omega
            refine cV (a := (Ta 0)) (As := [.int 0]) (rest := []) (wr := [((Va 0), .inr (7, [.ref (Va 1), .int sv_236, .int sv_237])), ((Va 1), .inl (tc 0, 400, .inl sv_238))]) ⟨hx, hb, hml, hown, hts⟩ hK hX hA (cu_fX10_fail l D tc sk (Ta 0) (Ta 1) (Tv 0) sv_254 sv_255 sv_256 sv_242 (Tf 1) 0 ro_247 0 pf_257 pf_281 ha_284 ha_285) k_557 k_619 k_555 k_556 k_96 pl_X10_fail ⟨Nat.le_of_ble_eq_true rfl, Nat.le_of_ble_eq_true rfl⟩ rfl rfl (va_recv hK hP (ci := 10) (q0 := 2) rfl rfl) hP hD hS [2, 3] [0, 1] rfl rfl rfl rfl rfl (by decide) rfl hl.1 rfl (Nat.le_of_ble_eq_true rfl) dX7_readFact_87 ⟨Nat.le_of_ble_eq_true rfl, Nat.le_of_ble_eq_true rfl⟩ (fun v_286 u_287 H locs hv_288 hP₀ hD₀ hS₀ => ?_)
            obtain ⟨sv_289, sv_290⟩ := u_287
            obtain ⟨rfl, pf_291, pf_292⟩ := hv_288
            have pf_291 : 0 ≤ ((Tv 0) : Int32).toInt ∧ ((Tv 0) : Int32).toInt ≤ 400 ∧ 0 ≤ (sv_254 : Int32).toInt ∧ (sv_254 : Int32).toInt ≤ 400 ∧ 0 ≤ (sv_255 : Int32).toInt ∧ (sv_255 : Int32).toInt ≤ 400 := pf_291
            have pf_292 : TpR (Tf 1) (Tv 0) (rER (0 : Int) ro_247) sv_254 sv_255 sv_289 sv_290 := pf_292
            obtain ⟨ro_293, ero_293⟩ : ∃ z : Except Int (Nat × Nat), z = (rER 0 ro_247) := ⟨_, rfl⟩
            rw [← ero_293] at pf_292
            have tb_294 : TpB (rTE (cB (Tf 1) (Tv 0)) ro_293) sv_255 sv_290 := TpR.tb pf_292
            have cd_295 : Ctd ro_293 sv_237 := by rw [ero_293]; exact (Ctd.er)
            refine W.eq (g2 := F0 m 90 ls []) rfl ?_
            replace hP : va_P D classes [((Va 0), .inr (7, [.ref (Va 1), .int sv_236, .int sv_237])), ((Va 1), .inl (tc 0, 400, .inl sv_238)), ((Ta 0), .inr (10, [.ref (Ta 1), .int (Tv 0), .int sv_254, .int sv_255, .int sv_289, .int sv_290])), ((Ta 1), .inl (tc 0, 400, .inl (Tf 1)))] H := hP₀
            replace hD : va_D A [((Va 0), .inr (7, [.ref (Va 1), .int sv_236, .int sv_237])), ((Va 1), .inl (tc 0, 400, .inl sv_238)), ((Ta 0), .inr (10, [.ref (Ta 1), .int (Tv 0), .int sv_254, .int sv_255, .int sv_289, .int sv_290])), ((Ta 1), .inl (tc 0, 400, .inl (Tf 1)))] := hD₀
            replace hS := hS₀
            clear hP₀ hD₀ hS₀
            refine lv_goto (tgt := 135) hx hb dX7_readFact_90 (by decide) ?_
            have hf_296 : TpR (Tf 1) (Tv 0) (pz_b rr (pz_fact (cB (Tf 1) (Tv 0)) 3)) sv_254 sv_255 sv_289 sv_290 := by
              have hE_297 : (pz_b rr (pz_fact (cB (Tf 1) (Tv 0)) 3)) = ro_293 := by
                rw [ero_293, ero_247, ero_230]
                have hw_298 : NWd (cB (Tf 1) (Tv 0)) pz_not rr := by
                  rw [← wS4]
                  exact pf_55
                have hw_299 : Sg (cB (Tf 1) (Tv 0)) 91 rr := by
                  exact pf_227
                have hw_300 : NSg (cB (Tf 1) (Tv 0)) 93 (pz_b (rNX (cB (Tf 1) (Tv 0)) rr) (pz_tst (cB (Tf 1) (Tv 0)) (pz_fact (cB (Tf 1) (Tv 0)) 2))) := by
                  rw [← ero_230, ← ero_247]
                  exact pf_280
                exact ((fact_br hw_298 hw_299).trans (rb_no hw_300))
              rw [hE_297]
              exact pf_292
            have hf_301 : Ctd (pz_b rr (pz_fact (cB (Tf 1) (Tv 0)) 3)) sv_237 := by
              have hE_302 : (pz_b rr (pz_fact (cB (Tf 1) (Tv 0)) 3)) = ro_293 := by
                rw [ero_293, ero_247, ero_230]
                have hw_303 : NWd (cB (Tf 1) (Tv 0)) pz_not rr := by
                  rw [← wS4]
                  exact pf_55
                have hw_304 : Sg (cB (Tf 1) (Tv 0)) 91 rr := by
                  exact pf_227
                have hw_305 : NSg (cB (Tf 1) (Tv 0)) 93 (pz_b (rNX (cB (Tf 1) (Tv 0)) rr) (pz_tst (cB (Tf 1) (Tv 0)) (pz_fact (cB (Tf 1) (Tv 0)) 2))) := by
                  rw [← ero_230, ← ero_247]
                  exact pf_280
                exact ((fact_br hw_303 hw_304).trans (rb_no hw_305))
              rw [hE_302]
              exact cd_295
            exact retV hx hb hr hlk hP hD hS (sv_236, sv_237, sv_238, sv_254, sv_255, sv_289, sv_290) ⟨rfl, pf_291, pf_244, hf_296, hf_301⟩ [0, 1, 2, 3] rfl rfl dX7_readFact_135 (Nat.le_of_ble_eq_true rfl) (Nat.le_of_ble_eq_true rfl) rfl
      · skip
        exfalso
        have z_1 := congrArg Int32.toInt c_11
        have z_2 : ¬ ((Tv 3) : Int32).toInt = (91 : Int32).toInt := fun z => c_57 (Int32.toInt_inj.mp z)
        have z_3 : ¬ (r_6 : Int32).toInt = (0 : Int32).toInt := fun z => c_58 (Int32.toInt_inj.mp z)
        have y_0 : (0 : Int32).toInt = 0 := by decide
        have y_91 : (91 : Int32).toInt = 91 := by decide
        omega
    · skip
      refine lv_iload_n hx hb dX7_readFact_20 rfl (lv_at hl 3 rfl) ?_
      refine lv_bipush (v := 10) hx hb dX7_readFact_21 (by decide) ?_
      refine lv_icmp_lt (tgt := 34) hx hb dX7_readFact_23 (by decide) (fun c_306 => ?_) (fun c_306 => absurd c_306 (by decide))
      refine lv_iload_n hx hb dX7_readFact_34 rfl (lv_at hl 0 rfl) ?_
      refine lv_if_eq (tgt := 59) hx hb dX7_readFact_35 (by decide) (fun c_307 => ?_) (fun c_307 => ?_)
      · skip
        refine lv_aload_n hx hb dX7_readFact_59 rfl (lv_at hl 2 rfl) ?_
        refine lv_bipush (v := 91) hx hb dX7_readFact_60 (by decide) ?_
        have ha_308 : 0 ≤ (91 : Int32).toInt := by
          have z_1 := congrArg Int32.toInt c_11
          have z_2 := congrArg Int32.toInt c_57
          have z_3 := congrArg Int32.toInt c_307
          have y_0 : (0 : Int32).toInt = 0 := by decide
          have y_91 : (91 : Int32).toInt = 91 := by decide
          omega
        have ha_309 : (91 : Int32).toInt = (91 : Int) := by
          have z_1 := congrArg Int32.toInt c_11
          have z_2 := congrArg Int32.toInt c_57
          have z_3 := congrArg Int32.toInt c_307
          have y_0 : (0 : Int32).toInt = 0 := by decide
          have y_91 : (91 : Int32).toInt = 91 := by decide
          omega
        refine cV (a := (Ta 0)) (As := [.int 91]) (rest := []) (wr := [((Va 0), .inr (7, [.ref (Va 1), .int (Vv 0), .int (Vv 1)])), ((Va 1), .inl (tc 0, 400, .inl (Vf 1)))]) ⟨hx, hb, hml, hown, hts⟩ hK hX hA (cu_fX10_takes l D tc sk (Ta 0) (Ta 1) (Tv 0) (Tv 1) (Tv 2) (Tv 3) (Tv 4) (Tf 1) 91 rr 91 h_tape h_by h_r ha_308 ha_309) k_492 k_613 k_490 k_491 k_96 pl_X10_takes ⟨Nat.le_of_ble_eq_true rfl, Nat.le_of_ble_eq_true rfl⟩ rfl rfl (va_recv hK hP (ci := 10) (q0 := 2) rfl rfl) hP hD hS [2, 3] [0, 1] rfl rfl rfl rfl rfl (by decide) rfl hl.1 rfl (Nat.le_of_ble_eq_true rfl) dX7_readFact_62 ⟨Nat.le_of_ble_eq_true rfl, Nat.le_of_ble_eq_true rfl⟩ (fun v_310 u_311 H locs hv_312 hP₀ hD₀ hS₀ => ?_)
        obtain ⟨sv_313, sv_314, sv_315⟩ := u_311
        obtain ⟨r_317, rfl, he_318, pf_316, hm_320, hm_321⟩ := hv_312
        have he_318 : (r_317.toInt = 0 ∨ r_317.toInt = 1) := he_318
        have pf_316 : 0 ≤ ((Tv 0) : Int32).toInt ∧ ((Tv 0) : Int32).toInt ≤ 400 ∧ 0 ≤ (sv_313 : Int32).toInt ∧ (sv_313 : Int32).toInt ≤ 400 ∧ 0 ≤ (sv_314 : Int32).toInt ∧ (sv_314 : Int32).toInt ≤ 400 := pf_316
        refine W.eq (g2 := F0 m 65 ls [.int r_317]) rfl ?_
        replace hP : va_P D classes [((Va 0), .inr (7, [.ref (Va 1), .int (Vv 0), .int (Vv 1)])), ((Va 1), .inl (tc 0, 400, .inl (Vf 1))), ((Ta 0), .inr (10, [.ref (Ta 1), .int (Tv 0), .int sv_313, .int sv_314, .int sv_315, .int (Tv 4)])), ((Ta 1), .inl (tc 0, 400, .inl (Tf 1)))] H := hP₀
        replace hD : va_D A [((Va 0), .inr (7, [.ref (Va 1), .int (Vv 0), .int (Vv 1)])), ((Va 1), .inl (tc 0, 400, .inl (Vf 1))), ((Ta 0), .inr (10, [.ref (Ta 1), .int (Tv 0), .int sv_313, .int sv_314, .int sv_315, .int (Tv 4)])), ((Ta 1), .inl (tc 0, 400, .inl (Tf 1)))] := hD₀
        replace hS := hS₀
        clear hP₀ hD₀ hS₀
        refine lv_if_eq (tgt := 93) hx hb dX7_readFact_65 (by decide) (fun c_322 => ?_) (fun c_322 => ?_)
        · skip
          have hz_325 : (r_317 : Int32).toInt = 0 := by
            have z_1 := congrArg Int32.toInt c_11
            have z_2 := congrArg Int32.toInt c_57
            have z_3 := congrArg Int32.toInt c_307
            have z_4 := congrArg Int32.toInt c_322
            have y_0 : (0 : Int32).toInt = 0 := by decide
            have y_91 : (91 : Int32).toInt = 91 := by decide
            omega
          obtain ⟨pf_323, pf_324⟩ := hm_321 hz_325
          have pf_323 : NSg (cB (Tf 1) (Tv 0)) (91 : Int) rr := pf_323
          have pf_324 : TpR (Tf 1) (Tv 0) rr sv_313 sv_314 sv_315 (Tv 4) := pf_324
          have tb_326 : TpB (rTE (cB (Tf 1) (Tv 0)) rr) sv_314 (Tv 4) := TpR.tb pf_324
          refine lv_aload_n hx hb dX7_readFact_93 rfl (lv_at hl 1 rfl) ?_
          refine lv_aload_n hx hb dX7_readFact_94 rfl (lv_at hl 2 rfl) ?_
          refine cV (a := (Va 0)) (As := [.ref (Ta 0)]) (rest := []) (wr := []) ⟨hx, hb, hml, hown, hts⟩ hK hX hA (cu_fX7_readSum l D tc sk (Va 0) (Va 1) (Vv 0) (Vv 1) (Vf 1) (Ta 0) (Ta 1) (Tv 0) sv_313 sv_314 sv_315 (Tv 4) (Tf 1) rr pf_316 h_u h_by pf_324 h_ct) k_624 k_621 k_623 k_7 k_99 pl_X7_readSum ⟨Nat.le_of_ble_eq_true rfl, Nat.le_of_ble_eq_true rfl⟩ rfl rfl (va_recv hK hP (ci := 7) (q0 := 0) rfl rfl) hP hD hS [0, 1, 2, 3] [] rfl rfl rfl rfl rfl (by decide) rfl hl.1 rfl (Nat.le_of_ble_eq_true rfl) dX7_readFact_95 ⟨Nat.le_of_ble_eq_true rfl, Nat.le_of_ble_eq_true rfl⟩ (fun v_327 u_328 H locs hv_329 hP₀ hD₀ hS₀ => ?_)
          obtain ⟨sv_330, sv_331, sv_332, sv_333, sv_334, sv_335, sv_336⟩ := u_328
          obtain ⟨rfl, pf_337, pf_338, pf_339, pf_340⟩ := hv_329
          have pf_337 : 0 ≤ ((Tv 0) : Int32).toInt ∧ ((Tv 0) : Int32).toInt ≤ 400 ∧ 0 ≤ (sv_333 : Int32).toInt ∧ (sv_333 : Int32).toInt ≤ 400 ∧ 0 ≤ (sv_334 : Int32).toInt ∧ (sv_334 : Int32).toInt ≤ 400 := pf_337
          have pf_338 : 0 ≤ (sv_330 : Int32).toInt ∧ (sv_330 : Int32).toInt ≤ 400 := pf_338
          have pf_339 : TpR (Tf 1) (Tv 0) (pz_b rr (pz_sum (cB (Tf 1) (Tv 0)))) sv_333 sv_334 sv_335 sv_336 := pf_339
          obtain ⟨ro_341, ero_341⟩ : ∃ z : Except Int (Nat × Nat), z = (pz_b rr (pz_sum (cB (Tf 1) (Tv 0)))) := ⟨_, rfl⟩
          rw [← ero_341] at pf_339
          have tb_342 : TpB (rTE (cB (Tf 1) (Tv 0)) ro_341) sv_334 sv_336 := TpR.tb pf_339
          have pf_340 : Ctd (pz_b rr (pz_sum (cB (Tf 1) (Tv 0)))) sv_331 := pf_340
          rw [← ero_341] at pf_340
          refine W.eq (g2 := F0 m 98 ls []) rfl ?_
          replace hP : va_P D classes [((Va 0), .inr (7, [.ref (Va 1), .int sv_330, .int sv_331])), ((Va 1), .inl (tc 0, 400, .inl sv_332)), ((Ta 0), .inr (10, [.ref (Ta 1), .int (Tv 0), .int sv_333, .int sv_334, .int sv_335, .int sv_336])), ((Ta 1), .inl (tc 0, 400, .inl (Tf 1)))] H := hP₀
          replace hD : va_D A [((Va 0), .inr (7, [.ref (Va 1), .int sv_330, .int sv_331])), ((Va 1), .inl (tc 0, 400, .inl sv_332)), ((Ta 0), .inr (10, [.ref (Ta 1), .int (Tv 0), .int sv_333, .int sv_334, .int sv_335, .int sv_336])), ((Ta 1), .inl (tc 0, 400, .inl (Tf 1)))] := hD₀
          replace hS := hS₀
          clear hP₀ hD₀ hS₀
          refine lv_aload_n hx hb dX7_readFact_98 rfl (lv_at hl 2 rfl) ?_
          refine cS (As := [.ref (Ta 0)]) (rest := []) (wr := [((Va 0), .inr (7, [.ref (Va 1), .int sv_330, .int sv_331])), ((Va 1), .inl (tc 0, 400, .inl sv_332))]) ⟨hx, hb, hml, hown, hts⟩ hK hX hA (cu_fX7_comparison l D tc sk (Ta 0) (Ta 1) (Tv 0) sv_333 sv_334 sv_335 sv_336 (Tf 1) pf_337) k_663 k_661 k_662 k_99 pl_X7_comparison ⟨Nat.le_of_ble_eq_true rfl, Nat.le_of_ble_eq_true rfl⟩ rfl rfl  hP hD hS [2, 3] [0, 1] rfl rfl rfl rfl rfl (by decide) rfl hl.1 rfl (Nat.le_of_ble_eq_true rfl) dX7_readFact_99 ⟨Nat.le_of_ble_eq_true rfl, Nat.le_of_ble_eq_true rfl⟩ (fun v_343 u_344 H locs hv_345 hP₀ hD₀ hS₀ => ?_)
          obtain ⟨r_346, rfl, he_347⟩ := hv_345
          have he_347 : ((r_346.toInt = -1 ∧ ¬ (60 ≤ sv_335.toInt ∧ sv_335.toInt ≤ 62)) ∨ (r_346.toInt ≤ -7 ∧ 60 ≤ sv_335.toInt ∧ sv_335.toInt ≤ 62)) := he_347
          refine W.eq (g2 := F0 m 102 ls [.int r_346]) rfl ?_
          replace hP : va_P D classes [((Va 0), .inr (7, [.ref (Va 1), .int sv_330, .int sv_331])), ((Va 1), .inl (tc 0, 400, .inl sv_332)), ((Ta 0), .inr (10, [.ref (Ta 1), .int (Tv 0), .int sv_333, .int sv_334, .int sv_335, .int sv_336])), ((Ta 1), .inl (tc 0, 400, .inl (Tf 1)))] H := hP₀
          replace hD : va_D A [((Va 0), .inr (7, [.ref (Va 1), .int sv_330, .int sv_331])), ((Va 1), .inl (tc 0, 400, .inl sv_332)), ((Ta 0), .inr (10, [.ref (Ta 1), .int (Tv 0), .int sv_333, .int sv_334, .int sv_335, .int sv_336])), ((Ta 1), .inl (tc 0, 400, .inl (Tf 1)))] := hD₀
          replace hS := hS₀
          clear hP₀ hD₀ hS₀
          refine lv_istore (lv' := [(4, .int r_346), (3, .int r_6), (0, .ref (Va 0)), (1, .ref (Ta 0)), (2, .int 7)]) hx hb dX7_readFact_102 hl (by decide) rfl (fun ls hl₀ => ?_)
          replace hl := hl₀
          clear hl₀
          refine lv_iload hx hb dX7_readFact_104 (lv_at hl 0 rfl) ?_
          refine lv_iconst (v := (-1)) hx hb dX7_readFact_106 (by decide) ?_
          refine lv_icmp_ne (tgt := 115) hx hb dX7_readFact_107 (by decide) (fun c_349 => ?_) (fun c_349 => ?_)
          · skip
            refine lv_aload_n hx hb dX7_readFact_115 rfl (lv_at hl 2 rfl) ?_
            refine lv_aload_n hx hb dX7_readFact_116 rfl (lv_at hl 3 rfl) ?_
            refine cV (a := (Va 0)) (As := [.ref (Ta 0)]) (rest := []) (wr := []) ⟨hx, hb, hml, hown, hts⟩ hK hX hA (cu_fX7_countOne l D tc sk (Va 0) (Va 1) sv_330 sv_331 sv_332 (Ta 0) (Ta 1) (Tv 0) sv_333 sv_334 sv_335 sv_336 (Tf 1) ro_341 pf_337 pf_338 h_by pf_339 pf_340) k_638 k_635 k_637 k_9 k_99 pl_X7_countOne ⟨Nat.le_of_ble_eq_true rfl, Nat.le_of_ble_eq_true rfl⟩ rfl rfl (va_recv hK hP (ci := 7) (q0 := 0) rfl rfl) hP hD hS [0, 1, 2, 3] [] rfl rfl rfl rfl rfl (by decide) rfl hl.1 rfl (Nat.le_of_ble_eq_true rfl) dX7_readFact_117 ⟨Nat.le_of_ble_eq_true rfl, Nat.le_of_ble_eq_true rfl⟩ (fun v_350 u_351 H locs hv_352 hP₀ hD₀ hS₀ => ?_)
            obtain ⟨sv_353, sv_354, sv_355⟩ := u_351
            obtain ⟨rfl, pf_356, pf_357, pf_358, pf_359⟩ := hv_352
            have pf_356 : 0 ≤ ((Tv 0) : Int32).toInt ∧ ((Tv 0) : Int32).toInt ≤ 400 ∧ 0 ≤ (sv_333 : Int32).toInt ∧ (sv_333 : Int32).toInt ≤ 400 ∧ 0 ≤ (sv_334 : Int32).toInt ∧ (sv_334 : Int32).toInt ≤ 400 := pf_356
            have pf_357 : 0 ≤ (sv_330 : Int32).toInt ∧ (sv_330 : Int32).toInt ≤ 400 := pf_357
            have pf_358 : TpR (Tf 1) (Tv 0) (rC1 ro_341) sv_333 sv_334 sv_354 sv_355 := pf_358
            obtain ⟨ro_360, ero_360⟩ : ∃ z : Except Int (Nat × Nat), z = (rC1 ro_341) := ⟨_, rfl⟩
            rw [← ero_360] at pf_358
            have tb_361 : TpB (rTE (cB (Tf 1) (Tv 0)) ro_360) sv_334 sv_355 := TpR.tb pf_358
            have pf_359 : Ctd (rC1 ro_341) sv_353 := pf_359
            rw [← ero_360] at pf_359
            refine W.eq (g2 := F0 m 120 ls []) rfl ?_
            replace hP : va_P D classes [((Va 0), .inr (7, [.ref (Va 1), .int sv_330, .int sv_353])), ((Va 1), .inl (tc 0, 400, .inl sv_332)), ((Ta 0), .inr (10, [.ref (Ta 1), .int (Tv 0), .int sv_333, .int sv_334, .int sv_354, .int sv_355])), ((Ta 1), .inl (tc 0, 400, .inl (Tf 1)))] H := hP₀
            replace hD : va_D A [((Va 0), .inr (7, [.ref (Va 1), .int sv_330, .int sv_353])), ((Va 1), .inl (tc 0, 400, .inl sv_332)), ((Ta 0), .inr (10, [.ref (Ta 1), .int (Tv 0), .int sv_333, .int sv_334, .int sv_354, .int sv_355])), ((Ta 1), .inl (tc 0, 400, .inl (Tf 1)))] := hD₀
            replace hS := hS₀
            clear hP₀ hD₀ hS₀
            refine lv_aload_n hx hb dX7_readFact_120 rfl (lv_at hl 3 rfl) ?_
            refine cV (a := (Ta 0)) (As := []) (rest := []) (wr := [((Va 0), .inr (7, [.ref (Va 1), .int sv_330, .int sv_353])), ((Va 1), .inl (tc 0, 400, .inl sv_332))]) ⟨hx, hb, hml, hown, hts⟩ hK hX hA (cu_fX10_step l D tc sk (Ta 0) (Ta 1) (Tv 0) sv_333 sv_334 sv_354 sv_355 (Tf 1) (rTE (cB (Tf 1) (Tv 0)) ro_360) pf_356 h_by tb_361) k_478 k_620 k_476 k_477 k_96 pl_X10_step ⟨Nat.le_of_ble_eq_true rfl, Nat.le_of_ble_eq_true rfl⟩ rfl rfl (va_recv hK hP (ci := 10) (q0 := 2) rfl rfl) hP hD hS [2, 3] [0, 1] rfl rfl rfl rfl rfl (by decide) rfl hl.1 rfl (Nat.le_of_ble_eq_true rfl) dX7_readFact_121 ⟨Nat.le_of_ble_eq_true rfl, Nat.le_of_ble_eq_true rfl⟩ (fun v_362 u_363 H locs hv_364 hP₀ hD₀ hS₀ => ?_)
            obtain ⟨sv_365, sv_366, sv_367⟩ := u_363
            obtain ⟨rfl, pf_368, pf_369⟩ := hv_364
            have pf_368 : 0 ≤ ((Tv 0) : Int32).toInt ∧ ((Tv 0) : Int32).toInt ≤ 400 ∧ 0 ≤ (sv_365 : Int32).toInt ∧ (sv_365 : Int32).toInt ≤ 400 ∧ 0 ≤ (sv_366 : Int32).toInt ∧ (sv_366 : Int32).toInt ≤ 400 := pf_368
            have pf_369 : TpR (Tf 1) (Tv 0) (rSK (cB (Tf 1) (Tv 0)) (rTE (cB (Tf 1) (Tv 0)) ro_360)) sv_365 sv_366 sv_367 sv_355 := pf_369
            rw [rNX_eq] at pf_369
            obtain ⟨ro_370, ero_370⟩ : ∃ z : Except Int (Nat × Nat), z = (rNX (cB (Tf 1) (Tv 0)) ro_360) := ⟨_, rfl⟩
            rw [← ero_370] at pf_369
            have tb_371 : TpB (rTE (cB (Tf 1) (Tv 0)) ro_370) sv_366 sv_355 := TpR.tb pf_369
            have cd_372 : Ctd ro_370 sv_353 := by rw [ero_370]; exact (Ctd.nx pf_359)
            refine W.eq (g2 := F0 m 124 ls []) rfl ?_
            replace hP : va_P D classes [((Va 0), .inr (7, [.ref (Va 1), .int sv_330, .int sv_353])), ((Va 1), .inl (tc 0, 400, .inl sv_332)), ((Ta 0), .inr (10, [.ref (Ta 1), .int (Tv 0), .int sv_365, .int sv_366, .int sv_367, .int sv_355])), ((Ta 1), .inl (tc 0, 400, .inl (Tf 1)))] H := hP₀
            replace hD : va_D A [((Va 0), .inr (7, [.ref (Va 1), .int sv_330, .int sv_353])), ((Va 1), .inl (tc 0, 400, .inl sv_332)), ((Ta 0), .inr (10, [.ref (Ta 1), .int (Tv 0), .int sv_365, .int sv_366, .int sv_367, .int sv_355])), ((Ta 1), .inl (tc 0, 400, .inl (Tf 1)))] := hD₀
            replace hS := hS₀
            clear hP₀ hD₀ hS₀
            refine lv_aload_n hx hb dX7_readFact_124 rfl (lv_at hl 2 rfl) ?_
            refine lv_aload_n hx hb dX7_readFact_125 rfl (lv_at hl 3 rfl) ?_
            refine cV (a := (Va 0)) (As := [.ref (Ta 0)]) (rest := []) (wr := []) ⟨hx, hb, hml, hown, hts⟩ hK hX hA (cu_fX7_readSum l D tc sk (Va 0) (Va 1) sv_330 sv_353 sv_332 (Ta 0) (Ta 1) (Tv 0) sv_365 sv_366 sv_367 sv_355 (Tf 1) ro_370 pf_368 pf_357 h_by pf_369 cd_372) k_624 k_621 k_623 k_7 k_99 pl_X7_readSum ⟨Nat.le_of_ble_eq_true rfl, Nat.le_of_ble_eq_true rfl⟩ rfl rfl (va_recv hK hP (ci := 7) (q0 := 0) rfl rfl) hP hD hS [0, 1, 2, 3] [] rfl rfl rfl rfl rfl (by decide) rfl hl.1 rfl (Nat.le_of_ble_eq_true rfl) dX7_readFact_126 ⟨Nat.le_of_ble_eq_true rfl, Nat.le_of_ble_eq_true rfl⟩ (fun v_373 u_374 H locs hv_375 hP₀ hD₀ hS₀ => ?_)
            obtain ⟨sv_376, sv_377, sv_378, sv_379, sv_380, sv_381, sv_382⟩ := u_374
            obtain ⟨rfl, pf_383, pf_384, pf_385, pf_386⟩ := hv_375
            have pf_383 : 0 ≤ ((Tv 0) : Int32).toInt ∧ ((Tv 0) : Int32).toInt ≤ 400 ∧ 0 ≤ (sv_379 : Int32).toInt ∧ (sv_379 : Int32).toInt ≤ 400 ∧ 0 ≤ (sv_380 : Int32).toInt ∧ (sv_380 : Int32).toInt ≤ 400 := pf_383
            have pf_384 : 0 ≤ (sv_376 : Int32).toInt ∧ (sv_376 : Int32).toInt ≤ 400 := pf_384
            have pf_385 : TpR (Tf 1) (Tv 0) (pz_b ro_370 (pz_sum (cB (Tf 1) (Tv 0)))) sv_379 sv_380 sv_381 sv_382 := pf_385
            obtain ⟨ro_387, ero_387⟩ : ∃ z : Except Int (Nat × Nat), z = (pz_b ro_370 (pz_sum (cB (Tf 1) (Tv 0)))) := ⟨_, rfl⟩
            rw [← ero_387] at pf_385
            have tb_388 : TpB (rTE (cB (Tf 1) (Tv 0)) ro_387) sv_380 sv_382 := TpR.tb pf_385
            have pf_386 : Ctd (pz_b ro_370 (pz_sum (cB (Tf 1) (Tv 0)))) sv_377 := pf_386
            rw [← ero_387] at pf_386
            refine W.eq (g2 := F0 m 129 ls []) rfl ?_
            replace hP : va_P D classes [((Va 0), .inr (7, [.ref (Va 1), .int sv_376, .int sv_377])), ((Va 1), .inl (tc 0, 400, .inl sv_378)), ((Ta 0), .inr (10, [.ref (Ta 1), .int (Tv 0), .int sv_379, .int sv_380, .int sv_381, .int sv_382])), ((Ta 1), .inl (tc 0, 400, .inl (Tf 1)))] H := hP₀
            replace hD : va_D A [((Va 0), .inr (7, [.ref (Va 1), .int sv_376, .int sv_377])), ((Va 1), .inl (tc 0, 400, .inl sv_378)), ((Ta 0), .inr (10, [.ref (Ta 1), .int (Tv 0), .int sv_379, .int sv_380, .int sv_381, .int sv_382])), ((Ta 1), .inl (tc 0, 400, .inl (Tf 1)))] := hD₀
            replace hS := hS₀
            clear hP₀ hD₀ hS₀
            refine lv_aload_n hx hb dX7_readFact_129 rfl (lv_at hl 2 rfl) ?_
            refine lv_iload hx hb dX7_readFact_130 (lv_at hl 0 rfl) ?_
            refine cV (a := (Va 0)) (As := [.int r_346]) (rest := []) (wr := [((Ta 0), .inr (10, [.ref (Ta 1), .int (Tv 0), .int sv_379, .int sv_380, .int sv_381, .int sv_382])), ((Ta 1), .inl (tc 0, 400, .inl (Tf 1)))]) ⟨hx, hb, hml, hown, hts⟩ hK hX hA (cu_fX7_put l D tc sk (Va 0) (Va 1) sv_376 sv_377 sv_378 r_346 pf_384) k_642 k_639 k_641 k_10 k_99 pl_X7_put ⟨Nat.le_of_ble_eq_true rfl, Nat.le_of_ble_eq_true rfl⟩ rfl rfl (va_recv hK hP (ci := 7) (q0 := 0) rfl rfl) hP hD hS [0, 1] [2, 3] rfl rfl rfl rfl rfl (by decide) rfl hl.1 rfl (Nat.le_of_ble_eq_true rfl) dX7_readFact_132 ⟨Nat.le_of_ble_eq_true rfl, Nat.le_of_ble_eq_true rfl⟩ (fun v_389 u_390 H locs hv_391 hP₀ hD₀ hS₀ => ?_)
            obtain ⟨sv_392, sv_393⟩ := u_390
            obtain ⟨rfl, pf_394⟩ := hv_391
            have pf_394 : 0 ≤ (sv_392 : Int32).toInt ∧ (sv_392 : Int32).toInt ≤ 400 := pf_394
            refine W.eq (g2 := F0 m 135 ls []) rfl ?_
            replace hP : va_P D classes [((Ta 0), .inr (10, [.ref (Ta 1), .int (Tv 0), .int sv_379, .int sv_380, .int sv_381, .int sv_382])), ((Ta 1), .inl (tc 0, 400, .inl (Tf 1))), ((Va 0), .inr (7, [.ref (Va 1), .int sv_392, .int sv_377])), ((Va 1), .inl (tc 0, 400, .inl sv_393))] H := hP₀
            replace hD : va_D A [((Ta 0), .inr (10, [.ref (Ta 1), .int (Tv 0), .int sv_379, .int sv_380, .int sv_381, .int sv_382])), ((Ta 1), .inl (tc 0, 400, .inl (Tf 1))), ((Va 0), .inr (7, [.ref (Va 1), .int sv_392, .int sv_377])), ((Va 1), .inl (tc 0, 400, .inl sv_393))] := hD₀
            replace hS := hS₀
            clear hP₀ hD₀ hS₀
            have hf_395 : TpR (Tf 1) (Tv 0) (pz_b rr (pz_fact (cB (Tf 1) (Tv 0)) 3)) sv_379 sv_380 sv_381 sv_382 := by
              have hE_396 : (pz_b rr (pz_fact (cB (Tf 1) (Tv 0)) 3)) = ro_387 := by
                rw [ero_387, ero_370, ero_360, ero_341]
                have hw_397 : NWd (cB (Tf 1) (Tv 0)) pz_not rr := by
                  rw [← wS4]
                  exact pf_55
                have hw_398 : NSg (cB (Tf 1) (Tv 0)) 91 rr := by
                  exact pf_323
                have hu_399 : TpR (Tf 1) (Tv 0) (pz_b rr (pz_sum (cB (Tf 1) (Tv 0)))) sv_333 sv_334 sv_335 sv_336 := by
                  rw [← ero_341]
                  exact pf_339
                have hr_400 : 60 ≤ (sv_335 : Int32).toInt ∧ (sv_335 : Int32).toInt ≤ 62 := by
                  have z_1 := congrArg Int32.toInt c_11
                  have z_2 := congrArg Int32.toInt c_57
                  have z_3 := congrArg Int32.toInt c_307
                  have z_4 := congrArg Int32.toInt c_322
                  have z_5 : ¬ (r_346 : Int32).toInt = ((-1) : Int32).toInt := fun z => c_349 (Int32.toInt_inj.mp z)
                  have y_m1 : (-1 : Int32).toInt = -1 := by decide
                  have y_0 : (0 : Int32).toInt = 0 := by decide
                  have y_91 : (91 : Int32).toInt = 91 := by decide
                  omega
                exact ((fact_com hw_397 hw_398).trans (congrArg (fun z => pz_b z (pz_sum (cB (Tf 1) (Tv 0)))) (com_yes hu_399 hr_400)))
              rw [hE_396]
              exact pf_385
            have hf_401 : Ctd (pz_b rr (pz_fact (cB (Tf 1) (Tv 0)) 3)) sv_377 := by
              have hE_402 : (pz_b rr (pz_fact (cB (Tf 1) (Tv 0)) 3)) = ro_387 := by
                rw [ero_387, ero_370, ero_360, ero_341]
                have hw_403 : NWd (cB (Tf 1) (Tv 0)) pz_not rr := by
                  rw [← wS4]
                  exact pf_55
                have hw_404 : NSg (cB (Tf 1) (Tv 0)) 91 rr := by
                  exact pf_323
                have hu_405 : TpR (Tf 1) (Tv 0) (pz_b rr (pz_sum (cB (Tf 1) (Tv 0)))) sv_333 sv_334 sv_335 sv_336 := by
                  rw [← ero_341]
                  exact pf_339
                have hr_406 : 60 ≤ (sv_335 : Int32).toInt ∧ (sv_335 : Int32).toInt ≤ 62 := by
                  have z_1 := congrArg Int32.toInt c_11
                  have z_2 := congrArg Int32.toInt c_57
                  have z_3 := congrArg Int32.toInt c_307
                  have z_4 := congrArg Int32.toInt c_322
                  have z_5 : ¬ (r_346 : Int32).toInt = ((-1) : Int32).toInt := fun z => c_349 (Int32.toInt_inj.mp z)
                  have y_m1 : (-1 : Int32).toInt = -1 := by decide
                  have y_0 : (0 : Int32).toInt = 0 := by decide
                  have y_91 : (91 : Int32).toInt = 91 := by decide
                  omega
                exact ((fact_com hw_403 hw_404).trans (congrArg (fun z => pz_b z (pz_sum (cB (Tf 1) (Tv 0)))) (com_yes hu_405 hr_406)))
              rw [hE_402]
              exact pf_386
            exact retV hx hb hr hlk hP hD hS (sv_392, sv_377, sv_393, sv_379, sv_380, sv_381, sv_382) ⟨rfl, pf_383, pf_394, hf_395, hf_401⟩ [2, 3, 0, 1] rfl rfl dX7_readFact_135 (Nat.le_of_ble_eq_true rfl) (Nat.le_of_ble_eq_true rfl) rfl
          · skip
            refine lv_aload_n hx hb dX7_readFact_110 rfl (lv_at hl 3 rfl) ?_
            refine lv_iconst (v := 0) hx hb dX7_readFact_111 (by decide) ?_
            have ha_407 : 0 ≤ (0 : Int32).toInt ∧ (0 : Int32).toInt ≤ 4 := by
              have z_1 := congrArg Int32.toInt c_11
              have z_2 := congrArg Int32.toInt c_57
              have z_3 := congrArg Int32.toInt c_307
              have z_4 := congrArg Int32.toInt c_322
              have z_5 := congrArg Int32.toInt c_349
              have y_m1 : (-1 : Int32).toInt = -1 := by decide
              have y_0 : (0 : Int32).toInt = 0 := by decide
              have y_91 : (91 : Int32).toInt = 91 := by decide
              omega
            have ha_408 : (0 : Int32).toInt = (0 : Int) := by
              have z_1 := congrArg Int32.toInt c_11
              have z_2 := congrArg Int32.toInt c_57
              have z_3 := congrArg Int32.toInt c_307
              have z_4 := congrArg Int32.toInt c_322
              have z_5 := congrArg Int32.toInt c_349
              have y_m1 : (-1 : Int32).toInt = -1 := by decide
              have y_0 : (0 : Int32).toInt = 0 := by decide
              have y_91 : (91 : Int32).toInt = 91 := by decide
              omega
            refine cV (a := (Ta 0)) (As := [.int 0]) (rest := []) (wr := [((Va 0), .inr (7, [.ref (Va 1), .int sv_330, .int sv_331])), ((Va 1), .inl (tc 0, 400, .inl sv_332))]) ⟨hx, hb, hml, hown, hts⟩ hK hX hA (cu_fX10_fail l D tc sk (Ta 0) (Ta 1) (Tv 0) sv_333 sv_334 sv_335 sv_336 (Tf 1) 0 ro_341 0 pf_337 pf_339 ha_407 ha_408) k_557 k_619 k_555 k_556 k_96 pl_X10_fail ⟨Nat.le_of_ble_eq_true rfl, Nat.le_of_ble_eq_true rfl⟩ rfl rfl (va_recv hK hP (ci := 10) (q0 := 2) rfl rfl) hP hD hS [2, 3] [0, 1] rfl rfl rfl rfl rfl (by decide) rfl hl.1 rfl (Nat.le_of_ble_eq_true rfl) dX7_readFact_112 ⟨Nat.le_of_ble_eq_true rfl, Nat.le_of_ble_eq_true rfl⟩ (fun v_409 u_410 H locs hv_411 hP₀ hD₀ hS₀ => ?_)
            obtain ⟨sv_412, sv_413⟩ := u_410
            obtain ⟨rfl, pf_414, pf_415⟩ := hv_411
            have pf_414 : 0 ≤ ((Tv 0) : Int32).toInt ∧ ((Tv 0) : Int32).toInt ≤ 400 ∧ 0 ≤ (sv_333 : Int32).toInt ∧ (sv_333 : Int32).toInt ≤ 400 ∧ 0 ≤ (sv_334 : Int32).toInt ∧ (sv_334 : Int32).toInt ≤ 400 := pf_414
            have pf_415 : TpR (Tf 1) (Tv 0) (rER (0 : Int) ro_341) sv_333 sv_334 sv_412 sv_413 := pf_415
            obtain ⟨ro_416, ero_416⟩ : ∃ z : Except Int (Nat × Nat), z = (rER 0 ro_341) := ⟨_, rfl⟩
            rw [← ero_416] at pf_415
            have tb_417 : TpB (rTE (cB (Tf 1) (Tv 0)) ro_416) sv_334 sv_413 := TpR.tb pf_415
            have cd_418 : Ctd ro_416 sv_331 := by rw [ero_416]; exact (Ctd.er)
            refine W.eq (g2 := F0 m 115 ls []) rfl ?_
            replace hP : va_P D classes [((Va 0), .inr (7, [.ref (Va 1), .int sv_330, .int sv_331])), ((Va 1), .inl (tc 0, 400, .inl sv_332)), ((Ta 0), .inr (10, [.ref (Ta 1), .int (Tv 0), .int sv_333, .int sv_334, .int sv_412, .int sv_413])), ((Ta 1), .inl (tc 0, 400, .inl (Tf 1)))] H := hP₀
            replace hD : va_D A [((Va 0), .inr (7, [.ref (Va 1), .int sv_330, .int sv_331])), ((Va 1), .inl (tc 0, 400, .inl sv_332)), ((Ta 0), .inr (10, [.ref (Ta 1), .int (Tv 0), .int sv_333, .int sv_334, .int sv_412, .int sv_413])), ((Ta 1), .inl (tc 0, 400, .inl (Tf 1)))] := hD₀
            replace hS := hS₀
            clear hP₀ hD₀ hS₀
            refine lv_aload_n hx hb dX7_readFact_115 rfl (lv_at hl 2 rfl) ?_
            refine lv_aload_n hx hb dX7_readFact_116 rfl (lv_at hl 3 rfl) ?_
            refine cV (a := (Va 0)) (As := [.ref (Ta 0)]) (rest := []) (wr := []) ⟨hx, hb, hml, hown, hts⟩ hK hX hA (cu_fX7_countOne l D tc sk (Va 0) (Va 1) sv_330 sv_331 sv_332 (Ta 0) (Ta 1) (Tv 0) sv_333 sv_334 sv_412 sv_413 (Tf 1) ro_416 pf_414 pf_338 h_by pf_415 cd_418) k_638 k_635 k_637 k_9 k_99 pl_X7_countOne ⟨Nat.le_of_ble_eq_true rfl, Nat.le_of_ble_eq_true rfl⟩ rfl rfl (va_recv hK hP (ci := 7) (q0 := 0) rfl rfl) hP hD hS [0, 1, 2, 3] [] rfl rfl rfl rfl rfl (by decide) rfl hl.1 rfl (Nat.le_of_ble_eq_true rfl) dX7_readFact_117 ⟨Nat.le_of_ble_eq_true rfl, Nat.le_of_ble_eq_true rfl⟩ (fun v_419 u_420 H locs hv_421 hP₀ hD₀ hS₀ => ?_)
            obtain ⟨sv_422, sv_423, sv_424⟩ := u_420
            obtain ⟨rfl, pf_425, pf_426, pf_427, pf_428⟩ := hv_421
            have pf_425 : 0 ≤ ((Tv 0) : Int32).toInt ∧ ((Tv 0) : Int32).toInt ≤ 400 ∧ 0 ≤ (sv_333 : Int32).toInt ∧ (sv_333 : Int32).toInt ≤ 400 ∧ 0 ≤ (sv_334 : Int32).toInt ∧ (sv_334 : Int32).toInt ≤ 400 := pf_425
            have pf_426 : 0 ≤ (sv_330 : Int32).toInt ∧ (sv_330 : Int32).toInt ≤ 400 := pf_426
            have pf_427 : TpR (Tf 1) (Tv 0) (rC1 ro_416) sv_333 sv_334 sv_423 sv_424 := pf_427
            obtain ⟨ro_429, ero_429⟩ : ∃ z : Except Int (Nat × Nat), z = (rC1 ro_416) := ⟨_, rfl⟩
            rw [← ero_429] at pf_427
            have tb_430 : TpB (rTE (cB (Tf 1) (Tv 0)) ro_429) sv_334 sv_424 := TpR.tb pf_427
            have pf_428 : Ctd (rC1 ro_416) sv_422 := pf_428
            rw [← ero_429] at pf_428
            refine W.eq (g2 := F0 m 120 ls []) rfl ?_
            replace hP : va_P D classes [((Va 0), .inr (7, [.ref (Va 1), .int sv_330, .int sv_422])), ((Va 1), .inl (tc 0, 400, .inl sv_332)), ((Ta 0), .inr (10, [.ref (Ta 1), .int (Tv 0), .int sv_333, .int sv_334, .int sv_423, .int sv_424])), ((Ta 1), .inl (tc 0, 400, .inl (Tf 1)))] H := hP₀
            replace hD : va_D A [((Va 0), .inr (7, [.ref (Va 1), .int sv_330, .int sv_422])), ((Va 1), .inl (tc 0, 400, .inl sv_332)), ((Ta 0), .inr (10, [.ref (Ta 1), .int (Tv 0), .int sv_333, .int sv_334, .int sv_423, .int sv_424])), ((Ta 1), .inl (tc 0, 400, .inl (Tf 1)))] := hD₀
            replace hS := hS₀
            clear hP₀ hD₀ hS₀
            refine lv_aload_n hx hb dX7_readFact_120 rfl (lv_at hl 3 rfl) ?_
            refine cV (a := (Ta 0)) (As := []) (rest := []) (wr := [((Va 0), .inr (7, [.ref (Va 1), .int sv_330, .int sv_422])), ((Va 1), .inl (tc 0, 400, .inl sv_332))]) ⟨hx, hb, hml, hown, hts⟩ hK hX hA (cu_fX10_step l D tc sk (Ta 0) (Ta 1) (Tv 0) sv_333 sv_334 sv_423 sv_424 (Tf 1) (rTE (cB (Tf 1) (Tv 0)) ro_429) pf_425 h_by tb_430) k_478 k_620 k_476 k_477 k_96 pl_X10_step ⟨Nat.le_of_ble_eq_true rfl, Nat.le_of_ble_eq_true rfl⟩ rfl rfl (va_recv hK hP (ci := 10) (q0 := 2) rfl rfl) hP hD hS [2, 3] [0, 1] rfl rfl rfl rfl rfl (by decide) rfl hl.1 rfl (Nat.le_of_ble_eq_true rfl) dX7_readFact_121 ⟨Nat.le_of_ble_eq_true rfl, Nat.le_of_ble_eq_true rfl⟩ (fun v_431 u_432 H locs hv_433 hP₀ hD₀ hS₀ => ?_)
            obtain ⟨sv_434, sv_435, sv_436⟩ := u_432
            obtain ⟨rfl, pf_437, pf_438⟩ := hv_433
            have pf_437 : 0 ≤ ((Tv 0) : Int32).toInt ∧ ((Tv 0) : Int32).toInt ≤ 400 ∧ 0 ≤ (sv_434 : Int32).toInt ∧ (sv_434 : Int32).toInt ≤ 400 ∧ 0 ≤ (sv_435 : Int32).toInt ∧ (sv_435 : Int32).toInt ≤ 400 := pf_437
            have pf_438 : TpR (Tf 1) (Tv 0) (rSK (cB (Tf 1) (Tv 0)) (rTE (cB (Tf 1) (Tv 0)) ro_429)) sv_434 sv_435 sv_436 sv_424 := pf_438
            rw [rNX_eq] at pf_438
            obtain ⟨ro_439, ero_439⟩ : ∃ z : Except Int (Nat × Nat), z = (rNX (cB (Tf 1) (Tv 0)) ro_429) := ⟨_, rfl⟩
            rw [← ero_439] at pf_438
            have tb_440 : TpB (rTE (cB (Tf 1) (Tv 0)) ro_439) sv_435 sv_424 := TpR.tb pf_438
            have cd_441 : Ctd ro_439 sv_422 := by rw [ero_439]; exact (Ctd.nx pf_428)
            refine W.eq (g2 := F0 m 124 ls []) rfl ?_
            replace hP : va_P D classes [((Va 0), .inr (7, [.ref (Va 1), .int sv_330, .int sv_422])), ((Va 1), .inl (tc 0, 400, .inl sv_332)), ((Ta 0), .inr (10, [.ref (Ta 1), .int (Tv 0), .int sv_434, .int sv_435, .int sv_436, .int sv_424])), ((Ta 1), .inl (tc 0, 400, .inl (Tf 1)))] H := hP₀
            replace hD : va_D A [((Va 0), .inr (7, [.ref (Va 1), .int sv_330, .int sv_422])), ((Va 1), .inl (tc 0, 400, .inl sv_332)), ((Ta 0), .inr (10, [.ref (Ta 1), .int (Tv 0), .int sv_434, .int sv_435, .int sv_436, .int sv_424])), ((Ta 1), .inl (tc 0, 400, .inl (Tf 1)))] := hD₀
            replace hS := hS₀
            clear hP₀ hD₀ hS₀
            refine lv_aload_n hx hb dX7_readFact_124 rfl (lv_at hl 2 rfl) ?_
            refine lv_aload_n hx hb dX7_readFact_125 rfl (lv_at hl 3 rfl) ?_
            refine cV (a := (Va 0)) (As := [.ref (Ta 0)]) (rest := []) (wr := []) ⟨hx, hb, hml, hown, hts⟩ hK hX hA (cu_fX7_readSum l D tc sk (Va 0) (Va 1) sv_330 sv_422 sv_332 (Ta 0) (Ta 1) (Tv 0) sv_434 sv_435 sv_436 sv_424 (Tf 1) ro_439 pf_437 pf_426 h_by pf_438 cd_441) k_624 k_621 k_623 k_7 k_99 pl_X7_readSum ⟨Nat.le_of_ble_eq_true rfl, Nat.le_of_ble_eq_true rfl⟩ rfl rfl (va_recv hK hP (ci := 7) (q0 := 0) rfl rfl) hP hD hS [0, 1, 2, 3] [] rfl rfl rfl rfl rfl (by decide) rfl hl.1 rfl (Nat.le_of_ble_eq_true rfl) dX7_readFact_126 ⟨Nat.le_of_ble_eq_true rfl, Nat.le_of_ble_eq_true rfl⟩ (fun v_442 u_443 H locs hv_444 hP₀ hD₀ hS₀ => ?_)
            obtain ⟨sv_445, sv_446, sv_447, sv_448, sv_449, sv_450, sv_451⟩ := u_443
            obtain ⟨rfl, pf_452, pf_453, pf_454, pf_455⟩ := hv_444
            have pf_452 : 0 ≤ ((Tv 0) : Int32).toInt ∧ ((Tv 0) : Int32).toInt ≤ 400 ∧ 0 ≤ (sv_448 : Int32).toInt ∧ (sv_448 : Int32).toInt ≤ 400 ∧ 0 ≤ (sv_449 : Int32).toInt ∧ (sv_449 : Int32).toInt ≤ 400 := pf_452
            have pf_453 : 0 ≤ (sv_445 : Int32).toInt ∧ (sv_445 : Int32).toInt ≤ 400 := pf_453
            have pf_454 : TpR (Tf 1) (Tv 0) (pz_b ro_439 (pz_sum (cB (Tf 1) (Tv 0)))) sv_448 sv_449 sv_450 sv_451 := pf_454
            obtain ⟨ro_456, ero_456⟩ : ∃ z : Except Int (Nat × Nat), z = (pz_b ro_439 (pz_sum (cB (Tf 1) (Tv 0)))) := ⟨_, rfl⟩
            rw [← ero_456] at pf_454
            have tb_457 : TpB (rTE (cB (Tf 1) (Tv 0)) ro_456) sv_449 sv_451 := TpR.tb pf_454
            have pf_455 : Ctd (pz_b ro_439 (pz_sum (cB (Tf 1) (Tv 0)))) sv_446 := pf_455
            rw [← ero_456] at pf_455
            refine W.eq (g2 := F0 m 129 ls []) rfl ?_
            replace hP : va_P D classes [((Va 0), .inr (7, [.ref (Va 1), .int sv_445, .int sv_446])), ((Va 1), .inl (tc 0, 400, .inl sv_447)), ((Ta 0), .inr (10, [.ref (Ta 1), .int (Tv 0), .int sv_448, .int sv_449, .int sv_450, .int sv_451])), ((Ta 1), .inl (tc 0, 400, .inl (Tf 1)))] H := hP₀
            replace hD : va_D A [((Va 0), .inr (7, [.ref (Va 1), .int sv_445, .int sv_446])), ((Va 1), .inl (tc 0, 400, .inl sv_447)), ((Ta 0), .inr (10, [.ref (Ta 1), .int (Tv 0), .int sv_448, .int sv_449, .int sv_450, .int sv_451])), ((Ta 1), .inl (tc 0, 400, .inl (Tf 1)))] := hD₀
            replace hS := hS₀
            clear hP₀ hD₀ hS₀
            refine lv_aload_n hx hb dX7_readFact_129 rfl (lv_at hl 2 rfl) ?_
            refine lv_iload hx hb dX7_readFact_130 (lv_at hl 0 rfl) ?_
            refine cV (a := (Va 0)) (As := [.int r_346]) (rest := []) (wr := [((Ta 0), .inr (10, [.ref (Ta 1), .int (Tv 0), .int sv_448, .int sv_449, .int sv_450, .int sv_451])), ((Ta 1), .inl (tc 0, 400, .inl (Tf 1)))]) ⟨hx, hb, hml, hown, hts⟩ hK hX hA (cu_fX7_put l D tc sk (Va 0) (Va 1) sv_445 sv_446 sv_447 r_346 pf_453) k_642 k_639 k_641 k_10 k_99 pl_X7_put ⟨Nat.le_of_ble_eq_true rfl, Nat.le_of_ble_eq_true rfl⟩ rfl rfl (va_recv hK hP (ci := 7) (q0 := 0) rfl rfl) hP hD hS [0, 1] [2, 3] rfl rfl rfl rfl rfl (by decide) rfl hl.1 rfl (Nat.le_of_ble_eq_true rfl) dX7_readFact_132 ⟨Nat.le_of_ble_eq_true rfl, Nat.le_of_ble_eq_true rfl⟩ (fun v_458 u_459 H locs hv_460 hP₀ hD₀ hS₀ => ?_)
            obtain ⟨sv_461, sv_462⟩ := u_459
            obtain ⟨rfl, pf_463⟩ := hv_460
            have pf_463 : 0 ≤ (sv_461 : Int32).toInt ∧ (sv_461 : Int32).toInt ≤ 400 := pf_463
            refine W.eq (g2 := F0 m 135 ls []) rfl ?_
            replace hP : va_P D classes [((Ta 0), .inr (10, [.ref (Ta 1), .int (Tv 0), .int sv_448, .int sv_449, .int sv_450, .int sv_451])), ((Ta 1), .inl (tc 0, 400, .inl (Tf 1))), ((Va 0), .inr (7, [.ref (Va 1), .int sv_461, .int sv_446])), ((Va 1), .inl (tc 0, 400, .inl sv_462))] H := hP₀
            replace hD : va_D A [((Ta 0), .inr (10, [.ref (Ta 1), .int (Tv 0), .int sv_448, .int sv_449, .int sv_450, .int sv_451])), ((Ta 1), .inl (tc 0, 400, .inl (Tf 1))), ((Va 0), .inr (7, [.ref (Va 1), .int sv_461, .int sv_446])), ((Va 1), .inl (tc 0, 400, .inl sv_462))] := hD₀
            replace hS := hS₀
            clear hP₀ hD₀ hS₀
            have hf_464 : TpR (Tf 1) (Tv 0) (pz_b rr (pz_fact (cB (Tf 1) (Tv 0)) 3)) sv_448 sv_449 sv_450 sv_451 := by
              have hE_465 : (pz_b rr (pz_fact (cB (Tf 1) (Tv 0)) 3)) = ro_456 := by
                rw [ero_456, ero_439, ero_429, ero_416, ero_341]
                have hw_466 : NWd (cB (Tf 1) (Tv 0)) pz_not rr := by
                  rw [← wS4]
                  exact pf_55
                have hw_467 : NSg (cB (Tf 1) (Tv 0)) 91 rr := by
                  exact pf_323
                have hu_468 : TpR (Tf 1) (Tv 0) (pz_b rr (pz_sum (cB (Tf 1) (Tv 0)))) sv_333 sv_334 sv_335 sv_336 := by
                  rw [← ero_341]
                  exact pf_339
                have hr_469 : ¬ (60 ≤ (sv_335 : Int32).toInt ∧ (sv_335 : Int32).toInt ≤ 62) := by
                  have z_1 := congrArg Int32.toInt c_11
                  have z_2 := congrArg Int32.toInt c_57
                  have z_3 := congrArg Int32.toInt c_307
                  have z_4 := congrArg Int32.toInt c_322
                  have z_5 := congrArg Int32.toInt c_349
                  have y_m1 : (-1 : Int32).toInt = -1 := by decide
                  have y_0 : (0 : Int32).toInt = 0 := by decide
                  have y_91 : (91 : Int32).toInt = 91 := by decide
                  omega
                exact ((fact_com hw_466 hw_467).trans (congrArg (fun z => pz_b z (pz_sum (cB (Tf 1) (Tv 0)))) (com_no hu_468 hr_469)))
              rw [hE_465]
              exact pf_454
            have hf_470 : Ctd (pz_b rr (pz_fact (cB (Tf 1) (Tv 0)) 3)) sv_446 := by
              have hE_471 : (pz_b rr (pz_fact (cB (Tf 1) (Tv 0)) 3)) = ro_456 := by
                rw [ero_456, ero_439, ero_429, ero_416, ero_341]
                have hw_472 : NWd (cB (Tf 1) (Tv 0)) pz_not rr := by
                  rw [← wS4]
                  exact pf_55
                have hw_473 : NSg (cB (Tf 1) (Tv 0)) 91 rr := by
                  exact pf_323
                have hu_474 : TpR (Tf 1) (Tv 0) (pz_b rr (pz_sum (cB (Tf 1) (Tv 0)))) sv_333 sv_334 sv_335 sv_336 := by
                  rw [← ero_341]
                  exact pf_339
                have hr_475 : ¬ (60 ≤ (sv_335 : Int32).toInt ∧ (sv_335 : Int32).toInt ≤ 62) := by
                  have z_1 := congrArg Int32.toInt c_11
                  have z_2 := congrArg Int32.toInt c_57
                  have z_3 := congrArg Int32.toInt c_307
                  have z_4 := congrArg Int32.toInt c_322
                  have z_5 := congrArg Int32.toInt c_349
                  have y_m1 : (-1 : Int32).toInt = -1 := by decide
                  have y_0 : (0 : Int32).toInt = 0 := by decide
                  have y_91 : (91 : Int32).toInt = 91 := by decide
                  omega
                exact ((fact_com hw_472 hw_473).trans (congrArg (fun z => pz_b z (pz_sum (cB (Tf 1) (Tv 0)))) (com_no hu_474 hr_475)))
              rw [hE_471]
              exact pf_455
            exact retV hx hb hr hlk hP hD hS (sv_461, sv_446, sv_462, sv_448, sv_449, sv_450, sv_451) ⟨rfl, pf_452, pf_463, hf_464, hf_470⟩ [2, 3, 0, 1] rfl rfl dX7_readFact_135 (Nat.le_of_ble_eq_true rfl) (Nat.le_of_ble_eq_true rfl) rfl
        · skip
          have hz_478 : (r_317 : Int32).toInt = 1 := by
            have z_1 := congrArg Int32.toInt c_11
            have z_2 := congrArg Int32.toInt c_57
            have z_3 := congrArg Int32.toInt c_307
            have z_4 : ¬ (r_317 : Int32).toInt = (0 : Int32).toInt := fun z => c_322 (Int32.toInt_inj.mp z)
            have y_0 : (0 : Int32).toInt = 0 := by decide
            have y_91 : (91 : Int32).toInt = 91 := by decide
            omega
          obtain ⟨pf_476, pf_477⟩ := hm_320 hz_478
          have pf_476 : Sg (cB (Tf 1) (Tv 0)) (91 : Int) rr := pf_476
          have pf_477 : TpR (Tf 1) (Tv 0) (rNX (cB (Tf 1) (Tv 0)) rr) sv_313 sv_314 sv_315 (Tv 4) := pf_477
          obtain ⟨ro_479, ero_479⟩ : ∃ z : Except Int (Nat × Nat), z = (rNX (cB (Tf 1) (Tv 0)) rr) := ⟨_, rfl⟩
          rw [← ero_479] at pf_477
          have tb_480 : TpB (rTE (cB (Tf 1) (Tv 0)) ro_479) sv_314 (Tv 4) := TpR.tb pf_477
          have cd_481 : Ctd ro_479 (Vv 1) := by rw [ero_479]; exact (Ctd.nx h_ct)
          refine lv_aload_n hx hb dX7_readFact_68 rfl (lv_at hl 1 rfl) ?_
          refine lv_aload_n hx hb dX7_readFact_69 rfl (lv_at hl 2 rfl) ?_
          refine lv_iload_n hx hb dX7_readFact_70 rfl (lv_at hl 3 rfl) ?_
          refine lv_iconst (v := 1) hx hb dX7_readFact_71 (by decide) ?_
          refine lv_iadd hx hb dX7_readFact_72 ?_
          refine lv_lit (v := 8) (by decide) ?_
          refine cV (a := (Va 0)) (As := [.ref (Ta 0), .int 8]) (rest := []) (wr := []) ⟨hx, hb, hml, hown, hts⟩ hK hX hA (cu_fX7_readTest_8 l D tc sk (Va 0) (Va 1) (Vv 0) (Vv 1) (Vf 1) (Ta 0) (Ta 1) (Tv 0) sv_313 sv_314 sv_315 (Tv 4) (Tf 1) ro_479 pf_316 h_u h_by pf_477 cd_481) k_655 k_652 k_654 k_11 k_99 pl_X7_readTest ⟨Nat.le_of_ble_eq_true rfl, Nat.le_of_ble_eq_true rfl⟩ rfl rfl (va_recv hK hP (ci := 7) (q0 := 0) rfl rfl) hP hD hS [0, 1, 2, 3] [] rfl rfl rfl rfl rfl (by decide) rfl hl.1 rfl (Nat.le_of_ble_eq_true rfl) dX7_readFact_73 ⟨Nat.le_of_ble_eq_true rfl, Nat.le_of_ble_eq_true rfl⟩ (fun v_482 u_483 H locs hv_484 hP₀ hD₀ hS₀ => ?_)
          obtain ⟨sv_485, sv_486, sv_487, sv_488, sv_489, sv_490, sv_491⟩ := u_483
          obtain ⟨rfl, pf_492, pf_493, pf_494, pf_495⟩ := hv_484
          have pf_492 : 0 ≤ ((Tv 0) : Int32).toInt ∧ ((Tv 0) : Int32).toInt ≤ 400 ∧ 0 ≤ (sv_488 : Int32).toInt ∧ (sv_488 : Int32).toInt ≤ 400 ∧ 0 ≤ (sv_489 : Int32).toInt ∧ (sv_489 : Int32).toInt ≤ 400 := pf_492
          have pf_493 : 0 ≤ (sv_485 : Int32).toInt ∧ (sv_485 : Int32).toInt ≤ 400 := pf_493
          have pf_494 : TpR (Tf 1) (Tv 0) (pz_b ro_479 (pz_tst (cB (Tf 1) (Tv 0)) (pz_fact (cB (Tf 1) (Tv 0)) 2))) sv_488 sv_489 sv_490 sv_491 := pf_494
          obtain ⟨ro_496, ero_496⟩ : ∃ z : Except Int (Nat × Nat), z = (pz_b ro_479 (pz_tst (cB (Tf 1) (Tv 0)) (pz_fact (cB (Tf 1) (Tv 0)) 2))) := ⟨_, rfl⟩
          rw [← ero_496] at pf_494
          have tb_497 : TpB (rTE (cB (Tf 1) (Tv 0)) ro_496) sv_489 sv_491 := TpR.tb pf_494
          have pf_495 : Ctd (pz_b ro_479 (pz_tst (cB (Tf 1) (Tv 0)) (pz_fact (cB (Tf 1) (Tv 0)) 2))) sv_486 := pf_495
          rw [← ero_496] at pf_495
          refine W.eq (g2 := F0 m 76 ls []) rfl ?_
          replace hP : va_P D classes [((Va 0), .inr (7, [.ref (Va 1), .int sv_485, .int sv_486])), ((Va 1), .inl (tc 0, 400, .inl sv_487)), ((Ta 0), .inr (10, [.ref (Ta 1), .int (Tv 0), .int sv_488, .int sv_489, .int sv_490, .int sv_491])), ((Ta 1), .inl (tc 0, 400, .inl (Tf 1)))] H := hP₀
          replace hD : va_D A [((Va 0), .inr (7, [.ref (Va 1), .int sv_485, .int sv_486])), ((Va 1), .inl (tc 0, 400, .inl sv_487)), ((Ta 0), .inr (10, [.ref (Ta 1), .int (Tv 0), .int sv_488, .int sv_489, .int sv_490, .int sv_491])), ((Ta 1), .inl (tc 0, 400, .inl (Tf 1)))] := hD₀
          replace hS := hS₀
          clear hP₀ hD₀ hS₀
          refine lv_aload_n hx hb dX7_readFact_76 rfl (lv_at hl 2 rfl) ?_
          refine lv_bipush (v := 93) hx hb dX7_readFact_77 (by decide) ?_
          have ha_498 : 0 ≤ (93 : Int32).toInt := by
            have z_1 := congrArg Int32.toInt c_11
            have z_2 := congrArg Int32.toInt c_57
            have z_3 := congrArg Int32.toInt c_307
            have z_4 : ¬ (r_317 : Int32).toInt = (0 : Int32).toInt := fun z => c_322 (Int32.toInt_inj.mp z)
            have y_0 : (0 : Int32).toInt = 0 := by decide
            have y_91 : (91 : Int32).toInt = 91 := by decide
            have y_93 : (93 : Int32).toInt = 93 := by decide
            omega
          have ha_499 : (93 : Int32).toInt = (93 : Int) := by
            have z_1 := congrArg Int32.toInt c_11
            have z_2 := congrArg Int32.toInt c_57
            have z_3 := congrArg Int32.toInt c_307
            have z_4 : ¬ (r_317 : Int32).toInt = (0 : Int32).toInt := fun z => c_322 (Int32.toInt_inj.mp z)
            have y_0 : (0 : Int32).toInt = 0 := by decide
            have y_91 : (91 : Int32).toInt = 91 := by decide
            have y_93 : (93 : Int32).toInt = 93 := by decide
            omega
          refine cV (a := (Ta 0)) (As := [.int 93]) (rest := []) (wr := [((Va 0), .inr (7, [.ref (Va 1), .int sv_485, .int sv_486])), ((Va 1), .inl (tc 0, 400, .inl sv_487))]) ⟨hx, hb, hml, hown, hts⟩ hK hX hA (cu_fX10_takes l D tc sk (Ta 0) (Ta 1) (Tv 0) sv_488 sv_489 sv_490 sv_491 (Tf 1) 93 ro_496 93 pf_492 h_by pf_494 ha_498 ha_499) k_492 k_613 k_490 k_491 k_96 pl_X10_takes ⟨Nat.le_of_ble_eq_true rfl, Nat.le_of_ble_eq_true rfl⟩ rfl rfl (va_recv hK hP (ci := 10) (q0 := 2) rfl rfl) hP hD hS [2, 3] [0, 1] rfl rfl rfl rfl rfl (by decide) rfl hl.1 rfl (Nat.le_of_ble_eq_true rfl) dX7_readFact_79 ⟨Nat.le_of_ble_eq_true rfl, Nat.le_of_ble_eq_true rfl⟩ (fun v_500 u_501 H locs hv_502 hP₀ hD₀ hS₀ => ?_)
          obtain ⟨sv_503, sv_504, sv_505⟩ := u_501
          obtain ⟨r_507, rfl, he_508, pf_506, hm_510, hm_511⟩ := hv_502
          have he_508 : (r_507.toInt = 0 ∨ r_507.toInt = 1) := he_508
          have pf_506 : 0 ≤ ((Tv 0) : Int32).toInt ∧ ((Tv 0) : Int32).toInt ≤ 400 ∧ 0 ≤ (sv_503 : Int32).toInt ∧ (sv_503 : Int32).toInt ≤ 400 ∧ 0 ≤ (sv_504 : Int32).toInt ∧ (sv_504 : Int32).toInt ≤ 400 := pf_506
          refine W.eq (g2 := F0 m 82 ls [.int r_507]) rfl ?_
          replace hP : va_P D classes [((Va 0), .inr (7, [.ref (Va 1), .int sv_485, .int sv_486])), ((Va 1), .inl (tc 0, 400, .inl sv_487)), ((Ta 0), .inr (10, [.ref (Ta 1), .int (Tv 0), .int sv_503, .int sv_504, .int sv_505, .int sv_491])), ((Ta 1), .inl (tc 0, 400, .inl (Tf 1)))] H := hP₀
          replace hD : va_D A [((Va 0), .inr (7, [.ref (Va 1), .int sv_485, .int sv_486])), ((Va 1), .inl (tc 0, 400, .inl sv_487)), ((Ta 0), .inr (10, [.ref (Ta 1), .int (Tv 0), .int sv_503, .int sv_504, .int sv_505, .int sv_491])), ((Ta 1), .inl (tc 0, 400, .inl (Tf 1)))] := hD₀
          replace hS := hS₀
          clear hP₀ hD₀ hS₀
          refine lv_if_ne (tgt := 135) hx hb dX7_readFact_82 (by decide) (fun c_512 => ?_) (fun c_512 => ?_)
          · skip
            have hz_515 : (r_507 : Int32).toInt = 1 := by
              have z_1 := congrArg Int32.toInt c_11
              have z_2 := congrArg Int32.toInt c_57
              have z_3 := congrArg Int32.toInt c_307
              have z_4 : ¬ (r_317 : Int32).toInt = (0 : Int32).toInt := fun z => c_322 (Int32.toInt_inj.mp z)
              have z_5 : ¬ (r_507 : Int32).toInt = (0 : Int32).toInt := fun z => c_512 (Int32.toInt_inj.mp z)
              have y_0 : (0 : Int32).toInt = 0 := by decide
              have y_91 : (91 : Int32).toInt = 91 := by decide
              omega
            obtain ⟨pf_513, pf_514⟩ := hm_510 hz_515
            have pf_513 : Sg (cB (Tf 1) (Tv 0)) (93 : Int) ro_496 := pf_513
            have pf_514 : TpR (Tf 1) (Tv 0) (rNX (cB (Tf 1) (Tv 0)) ro_496) sv_503 sv_504 sv_505 sv_491 := pf_514
            obtain ⟨ro_516, ero_516⟩ : ∃ z : Except Int (Nat × Nat), z = (rNX (cB (Tf 1) (Tv 0)) ro_496) := ⟨_, rfl⟩
            rw [← ero_516] at pf_514
            have tb_517 : TpB (rTE (cB (Tf 1) (Tv 0)) ro_516) sv_504 sv_491 := TpR.tb pf_514
            have cd_518 : Ctd ro_516 sv_486 := by rw [ero_516]; exact (Ctd.nx pf_495)
            have hf_519 : TpR (Tf 1) (Tv 0) (pz_b rr (pz_fact (cB (Tf 1) (Tv 0)) 3)) sv_503 sv_504 sv_505 sv_491 := by
              have hE_520 : (pz_b rr (pz_fact (cB (Tf 1) (Tv 0)) 3)) = ro_516 := by
                rw [ero_516, ero_496, ero_479]
                have hw_521 : NWd (cB (Tf 1) (Tv 0)) pz_not rr := by
                  rw [← wS4]
                  exact pf_55
                have hw_522 : Sg (cB (Tf 1) (Tv 0)) 91 rr := by
                  exact pf_476
                have hw_523 : Sg (cB (Tf 1) (Tv 0)) 93 (pz_b (rNX (cB (Tf 1) (Tv 0)) rr) (pz_tst (cB (Tf 1) (Tv 0)) (pz_fact (cB (Tf 1) (Tv 0)) 2))) := by
                  rw [← ero_479, ← ero_496]
                  exact pf_513
                exact ((fact_br hw_521 hw_522).trans (rb_yes hw_523))
              rw [hE_520]
              exact pf_514
            have hf_524 : Ctd (pz_b rr (pz_fact (cB (Tf 1) (Tv 0)) 3)) sv_486 := by
              have hE_525 : (pz_b rr (pz_fact (cB (Tf 1) (Tv 0)) 3)) = ro_516 := by
                rw [ero_516, ero_496, ero_479]
                have hw_526 : NWd (cB (Tf 1) (Tv 0)) pz_not rr := by
                  rw [← wS4]
                  exact pf_55
                have hw_527 : Sg (cB (Tf 1) (Tv 0)) 91 rr := by
                  exact pf_476
                have hw_528 : Sg (cB (Tf 1) (Tv 0)) 93 (pz_b (rNX (cB (Tf 1) (Tv 0)) rr) (pz_tst (cB (Tf 1) (Tv 0)) (pz_fact (cB (Tf 1) (Tv 0)) 2))) := by
                  rw [← ero_479, ← ero_496]
                  exact pf_513
                exact ((fact_br hw_526 hw_527).trans (rb_yes hw_528))
              rw [hE_525]
              exact cd_518
            exact retV hx hb hr hlk hP hD hS (sv_485, sv_486, sv_487, sv_503, sv_504, sv_505, sv_491) ⟨rfl, pf_506, pf_493, hf_519, hf_524⟩ [0, 1, 2, 3] rfl rfl dX7_readFact_135 (Nat.le_of_ble_eq_true rfl) (Nat.le_of_ble_eq_true rfl) rfl
          · skip
            have hz_531 : (r_507 : Int32).toInt = 0 := by
              have z_1 := congrArg Int32.toInt c_11
              have z_2 := congrArg Int32.toInt c_57
              have z_3 := congrArg Int32.toInt c_307
              have z_4 : ¬ (r_317 : Int32).toInt = (0 : Int32).toInt := fun z => c_322 (Int32.toInt_inj.mp z)
              have z_5 := congrArg Int32.toInt c_512
              have y_0 : (0 : Int32).toInt = 0 := by decide
              have y_91 : (91 : Int32).toInt = 91 := by decide
              omega
            obtain ⟨pf_529, pf_530⟩ := hm_511 hz_531
            have pf_529 : NSg (cB (Tf 1) (Tv 0)) (93 : Int) ro_496 := pf_529
            have pf_530 : TpR (Tf 1) (Tv 0) ro_496 sv_503 sv_504 sv_505 sv_491 := pf_530
            have tb_532 : TpB (rTE (cB (Tf 1) (Tv 0)) ro_496) sv_504 sv_491 := TpR.tb pf_530
            refine lv_aload_n hx hb dX7_readFact_85 rfl (lv_at hl 2 rfl) ?_
            refine lv_iconst (v := 0) hx hb dX7_readFact_86 (by decide) ?_
            have ha_533 : 0 ≤ (0 : Int32).toInt ∧ (0 : Int32).toInt ≤ 4 := by
              have z_1 := congrArg Int32.toInt c_11
              have z_2 := congrArg Int32.toInt c_57
              have z_3 := congrArg Int32.toInt c_307
              have z_4 : ¬ (r_317 : Int32).toInt = (0 : Int32).toInt := fun z => c_322 (Int32.toInt_inj.mp z)
              have z_5 := congrArg Int32.toInt c_512
              have y_0 : (0 : Int32).toInt = 0 := by decide
              have y_91 : (91 : Int32).toInt = 91 := by decide
              omega
            have ha_534 : (0 : Int32).toInt = (0 : Int) := by
              have z_1 := congrArg Int32.toInt c_11
              have z_2 := congrArg Int32.toInt c_57
              have z_3 := congrArg Int32.toInt c_307
              have z_4 : ¬ (r_317 : Int32).toInt = (0 : Int32).toInt := fun z => c_322 (Int32.toInt_inj.mp z)
              have z_5 := congrArg Int32.toInt c_512
              have y_0 : (0 : Int32).toInt = 0 := by decide
              have y_91 : (91 : Int32).toInt = 91 := by decide
              omega
            refine cV (a := (Ta 0)) (As := [.int 0]) (rest := []) (wr := [((Va 0), .inr (7, [.ref (Va 1), .int sv_485, .int sv_486])), ((Va 1), .inl (tc 0, 400, .inl sv_487))]) ⟨hx, hb, hml, hown, hts⟩ hK hX hA (cu_fX10_fail l D tc sk (Ta 0) (Ta 1) (Tv 0) sv_503 sv_504 sv_505 sv_491 (Tf 1) 0 ro_496 0 pf_506 pf_530 ha_533 ha_534) k_557 k_619 k_555 k_556 k_96 pl_X10_fail ⟨Nat.le_of_ble_eq_true rfl, Nat.le_of_ble_eq_true rfl⟩ rfl rfl (va_recv hK hP (ci := 10) (q0 := 2) rfl rfl) hP hD hS [2, 3] [0, 1] rfl rfl rfl rfl rfl (by decide) rfl hl.1 rfl (Nat.le_of_ble_eq_true rfl) dX7_readFact_87 ⟨Nat.le_of_ble_eq_true rfl, Nat.le_of_ble_eq_true rfl⟩ (fun v_535 u_536 H locs hv_537 hP₀ hD₀ hS₀ => ?_)
            obtain ⟨sv_538, sv_539⟩ := u_536
            obtain ⟨rfl, pf_540, pf_541⟩ := hv_537
            have pf_540 : 0 ≤ ((Tv 0) : Int32).toInt ∧ ((Tv 0) : Int32).toInt ≤ 400 ∧ 0 ≤ (sv_503 : Int32).toInt ∧ (sv_503 : Int32).toInt ≤ 400 ∧ 0 ≤ (sv_504 : Int32).toInt ∧ (sv_504 : Int32).toInt ≤ 400 := pf_540
            have pf_541 : TpR (Tf 1) (Tv 0) (rER (0 : Int) ro_496) sv_503 sv_504 sv_538 sv_539 := pf_541
            obtain ⟨ro_542, ero_542⟩ : ∃ z : Except Int (Nat × Nat), z = (rER 0 ro_496) := ⟨_, rfl⟩
            rw [← ero_542] at pf_541
            have tb_543 : TpB (rTE (cB (Tf 1) (Tv 0)) ro_542) sv_504 sv_539 := TpR.tb pf_541
            have cd_544 : Ctd ro_542 sv_486 := by rw [ero_542]; exact (Ctd.er)
            refine W.eq (g2 := F0 m 90 ls []) rfl ?_
            replace hP : va_P D classes [((Va 0), .inr (7, [.ref (Va 1), .int sv_485, .int sv_486])), ((Va 1), .inl (tc 0, 400, .inl sv_487)), ((Ta 0), .inr (10, [.ref (Ta 1), .int (Tv 0), .int sv_503, .int sv_504, .int sv_538, .int sv_539])), ((Ta 1), .inl (tc 0, 400, .inl (Tf 1)))] H := hP₀
            replace hD : va_D A [((Va 0), .inr (7, [.ref (Va 1), .int sv_485, .int sv_486])), ((Va 1), .inl (tc 0, 400, .inl sv_487)), ((Ta 0), .inr (10, [.ref (Ta 1), .int (Tv 0), .int sv_503, .int sv_504, .int sv_538, .int sv_539])), ((Ta 1), .inl (tc 0, 400, .inl (Tf 1)))] := hD₀
            replace hS := hS₀
            clear hP₀ hD₀ hS₀
            refine lv_goto (tgt := 135) hx hb dX7_readFact_90 (by decide) ?_
            have hf_545 : TpR (Tf 1) (Tv 0) (pz_b rr (pz_fact (cB (Tf 1) (Tv 0)) 3)) sv_503 sv_504 sv_538 sv_539 := by
              have hE_546 : (pz_b rr (pz_fact (cB (Tf 1) (Tv 0)) 3)) = ro_542 := by
                rw [ero_542, ero_496, ero_479]
                have hw_547 : NWd (cB (Tf 1) (Tv 0)) pz_not rr := by
                  rw [← wS4]
                  exact pf_55
                have hw_548 : Sg (cB (Tf 1) (Tv 0)) 91 rr := by
                  exact pf_476
                have hw_549 : NSg (cB (Tf 1) (Tv 0)) 93 (pz_b (rNX (cB (Tf 1) (Tv 0)) rr) (pz_tst (cB (Tf 1) (Tv 0)) (pz_fact (cB (Tf 1) (Tv 0)) 2))) := by
                  rw [← ero_479, ← ero_496]
                  exact pf_529
                exact ((fact_br hw_547 hw_548).trans (rb_no hw_549))
              rw [hE_546]
              exact pf_541
            have hf_550 : Ctd (pz_b rr (pz_fact (cB (Tf 1) (Tv 0)) 3)) sv_486 := by
              have hE_551 : (pz_b rr (pz_fact (cB (Tf 1) (Tv 0)) 3)) = ro_542 := by
                rw [ero_542, ero_496, ero_479]
                have hw_552 : NWd (cB (Tf 1) (Tv 0)) pz_not rr := by
                  rw [← wS4]
                  exact pf_55
                have hw_553 : Sg (cB (Tf 1) (Tv 0)) 91 rr := by
                  exact pf_476
                have hw_554 : NSg (cB (Tf 1) (Tv 0)) 93 (pz_b (rNX (cB (Tf 1) (Tv 0)) rr) (pz_tst (cB (Tf 1) (Tv 0)) (pz_fact (cB (Tf 1) (Tv 0)) 2))) := by
                  rw [← ero_479, ← ero_496]
                  exact pf_529
                exact ((fact_br hw_552 hw_553).trans (rb_no hw_554))
              rw [hE_551]
              exact cd_544
            exact retV hx hb hr hlk hP hD hS (sv_485, sv_486, sv_487, sv_503, sv_504, sv_538, sv_539) ⟨rfl, pf_540, pf_493, hf_545, hf_550⟩ [0, 1, 2, 3] rfl rfl dX7_readFact_135 (Nat.le_of_ble_eq_true rfl) (Nat.le_of_ble_eq_true rfl) rfl
      · skip
        exfalso
        have z_1 := congrArg Int32.toInt c_11
        have z_2 := congrArg Int32.toInt c_57
        have z_3 : ¬ (r_6 : Int32).toInt = (0 : Int32).toInt := fun z => c_307 (Int32.toInt_inj.mp z)
        have y_0 : (0 : Int32).toInt = 0 := by decide
        have y_91 : (91 : Int32).toInt = 91 := by decide
        omega
set_option maxRecDepth 100000 in
theorem cu_fX7_readFact_7 (l : Launch) (D : va_G) (tc : Nat → ClassId) (sk : (Nat → Nat) × (Nat → Nat)) (Va_0 : Nat) (Va_1 : Nat) (Vv_0 : Int32) (Vv_1 : Int32) (Vf_1 : Nat → Int32) (Ta_0 : Nat) (Ta_1 : Nat) (Tv_0 : Int32) (Tv_1 : Int32) (Tv_2 : Int32) (Tv_3 : Int32) (Tv_4 : Int32) (Tf_1 : Nat → Int32) (rr : Except Int (Nat × Nat)) (h_tape : 0 ≤ (Tv_0 : Int32).toInt ∧ (Tv_0 : Int32).toInt ≤ 400 ∧ 0 ≤ (Tv_1 : Int32).toInt ∧ (Tv_1 : Int32).toInt ≤ 400 ∧ 0 ≤ (Tv_2 : Int32).toInt ∧ (Tv_2 : Int32).toInt ≤ 400) (h_u : 0 ≤ (Vv_0 : Int32).toInt ∧ (Vv_0 : Int32).toInt ≤ 400) (h_by : Byt Tf_1) (h_r : TpR Tf_1 Tv_0 rr Tv_1 Tv_2 Tv_3 Tv_4) (h_ct : Ctd rr Vv_1) : Ct l yX7_readFact cX7_readFact 5 none { frames := 14, cells := 0, slots := 0, locals := 327 } D tc sk [.ref Va_0, .ref Ta_0, .int 7] [(Va_0, .inr (7, [.ref Va_1, .int Vv_0, .int Vv_1])), (Va_1, .inl (tc 0, 400, .inl Vf_1)), (Ta_0, .inr (10, [.ref Ta_1, .int Tv_0, .int Tv_1, .int Tv_2, .int Tv_3, .int Tv_4])), (Ta_1, .inl (tc 0, 400, .inl Tf_1))] (fun (v : Option Value) (u : (Int32) × (Int32) × (Nat → Int32) × (Int32) × (Int32) × (Int32) × (Int32)) => match u with | (oo0x1, oo0x2, oo0x3, oo0x4, oo0x5, oo0x6, oo0x7) => v = none ∧ (0 ≤ (Tv_0 : Int32).toInt ∧ (Tv_0 : Int32).toInt ≤ 400 ∧ 0 ≤ (oo0x4 : Int32).toInt ∧ (oo0x4 : Int32).toInt ≤ 400 ∧ 0 ≤ (oo0x5 : Int32).toInt ∧ (oo0x5 : Int32).toInt ≤ 400) ∧ (0 ≤ (oo0x1 : Int32).toInt ∧ (oo0x1 : Int32).toInt ≤ 400) ∧ (TpR Tf_1 Tv_0 (pz_b rr (pz_fact (cB Tf_1 Tv_0) 3)) oo0x4 oo0x5 oo0x6 oo0x7) ∧ (Ctd (pz_b rr (pz_fact (cB Tf_1 Tv_0) 3)) oo0x2)) (fun (u : (Int32) × (Int32) × (Nat → Int32) × (Int32) × (Int32) × (Int32) × (Int32)) => match u with | (oo0x1, oo0x2, oo0x3, oo0x4, oo0x5, oo0x6, oo0x7) => [(Va_0, .inr (7, [.ref Va_1, .int oo0x1, .int oo0x2])), (Va_1, .inl (tc 0, 400, .inl oo0x3)), (Ta_0, .inr (10, [.ref Ta_1, .int Tv_0, .int oo0x4, .int oo0x5, .int oo0x6, .int oo0x7])), (Ta_1, .inl (tc 0, 400, .inl Tf_1))]) 0 0 :=
  ct_fX7_readFact_7 l D tc sk (fun k => ([Va_0, Va_1] : List (Nat)).getD k 0) (fun k => ([Vv_0, Vv_1] : List (Int32)).getD k 0) (fun k => ([(fun _ => 0), Vf_1] : List (Nat → Int32)).getD k (fun _ => 0)) (fun k => ([Ta_0, Ta_1] : List (Nat)).getD k 0) (fun k => ([Tv_0, Tv_1, Tv_2, Tv_3, Tv_4] : List (Int32)).getD k 0) (fun k => ([(fun _ => 0), Tf_1] : List (Nat → Int32)).getD k (fun _ => 0)) rr h_tape h_u h_by h_r h_ct
set_option maxHeartbeats 4000000 in
set_option maxRecDepth 100000 in
theorem ct_fX7_readTest_7 (l : Launch) (D : va_G) (tc : Nat → ClassId) (sk : (Nat → Nat) × (Nat → Nat)) (Va : Nat → Nat) (Vv : Nat → Int32) (Vf : Nat → Nat → Int32) (Ta : Nat → Nat) (Tv : Nat → Int32) (Tf : Nat → Nat → Int32) (rr : Except Int (Nat × Nat)) (h_tape : 0 ≤ ((Tv 0) : Int32).toInt ∧ ((Tv 0) : Int32).toInt ≤ 400 ∧ 0 ≤ ((Tv 1) : Int32).toInt ∧ ((Tv 1) : Int32).toInt ≤ 400 ∧ 0 ≤ ((Tv 2) : Int32).toInt ∧ ((Tv 2) : Int32).toInt ≤ 400) (h_u : 0 ≤ ((Vv 0) : Int32).toInt ∧ ((Vv 0) : Int32).toInt ≤ 400) (h_by : Byt (Tf 1)) (h_r : TpR (Tf 1) (Tv 0) rr (Tv 1) (Tv 2) (Tv 3) (Tv 4)) (h_ct : Ctd rr (Vv 1)) : Ct l yX7_readTest cX7_readTest 6 none { frames := 15, cells := 0, slots := 0, locals := 351 } D tc sk [.ref (Va 0), .ref (Ta 0), .int 7] [((Va 0), .inr (7, [.ref (Va 1), .int (Vv 0), .int (Vv 1)])), ((Va 1), .inl (tc 0, 400, .inl (Vf 1))), ((Ta 0), .inr (10, [.ref (Ta 1), .int (Tv 0), .int (Tv 1), .int (Tv 2), .int (Tv 3), .int (Tv 4)])), ((Ta 1), .inl (tc 0, 400, .inl (Tf 1)))] (fun (v : Option Value) (u : (Int32) × (Int32) × (Nat → Int32) × (Int32) × (Int32) × (Int32) × (Int32)) => match u with | (oo0x1, oo0x2, oo0x3, oo0x4, oo0x5, oo0x6, oo0x7) => v = none ∧ (0 ≤ ((Tv 0) : Int32).toInt ∧ ((Tv 0) : Int32).toInt ≤ 400 ∧ 0 ≤ (oo0x4 : Int32).toInt ∧ (oo0x4 : Int32).toInt ≤ 400 ∧ 0 ≤ (oo0x5 : Int32).toInt ∧ (oo0x5 : Int32).toInt ≤ 400) ∧ (0 ≤ (oo0x1 : Int32).toInt ∧ (oo0x1 : Int32).toInt ≤ 400) ∧ (TpR (Tf 1) (Tv 0) (pz_b rr (pz_tst (cB (Tf 1) (Tv 0)) (pz_fact (cB (Tf 1) (Tv 0)) 3))) oo0x4 oo0x5 oo0x6 oo0x7) ∧ (Ctd (pz_b rr (pz_tst (cB (Tf 1) (Tv 0)) (pz_fact (cB (Tf 1) (Tv 0)) 3))) oo0x2)) (fun (u : (Int32) × (Int32) × (Nat → Int32) × (Int32) × (Int32) × (Int32) × (Int32)) => match u with | (oo0x1, oo0x2, oo0x3, oo0x4, oo0x5, oo0x6, oo0x7) => [((Va 0), .inr (7, [.ref (Va 1), .int oo0x1, .int oo0x2])), ((Va 1), .inl (tc 0, 400, .inl oo0x3)), ((Ta 0), .inr (10, [.ref (Ta 1), .int (Tv 0), .int oo0x4, .int oo0x5, .int oo0x6, .int oo0x7])), ((Ta 1), .inl (tc 0, 400, .inl (Tf 1)))]) 0 0 := by
  refine Ct.start (by decide) (Nat.le_of_ble_eq_true rfl) (fun p e s m below meth c A ls hx hb hr hlk hin hml hown hts hK hX hP hD hA hl hS => ?_)
  have hl : lv_has ls 6 [(0, .ref (Va 0)), (1, .ref (Ta 0)), (2, .int 7)] := hl
  have tb_1 : TpB (rTE (cB (Tf 1) (Tv 0)) rr) (Tv 2) (Tv 4) := TpR.tb h_r
  refine lv_aload_n hx hb dX7_readTest_0 rfl (lv_at hl 0 rfl) ?_
  refine lv_aload_n hx hb dX7_readTest_1 rfl (lv_at hl 1 rfl) ?_
  refine lv_iload_n hx hb dX7_readTest_2 rfl (lv_at hl 2 rfl) ?_
  refine cV (a := (Va 0)) (As := [.ref (Ta 0), .int 7]) (rest := []) (wr := []) ⟨hx, hb, hml, hown, hts⟩ hK hX hA (cu_fX7_readFact_7 l D tc sk (Va 0) (Va 1) (Vv 0) (Vv 1) (Vf 1) (Ta 0) (Ta 1) (Tv 0) (Tv 1) (Tv 2) (Tv 3) (Tv 4) (Tf 1) rr h_tape h_u h_by h_r h_ct) k_659 k_656 k_658 k_12 k_99 pl_X7_readFact ⟨Nat.le_of_ble_eq_true rfl, Nat.le_of_ble_eq_true rfl⟩ rfl rfl (va_recv hK hP (ci := 7) (q0 := 0) rfl rfl) hP hD hS [0, 1, 2, 3] [] rfl rfl rfl rfl rfl (by decide) rfl hl.1 rfl (Nat.le_of_ble_eq_true rfl) dX7_readTest_3 ⟨Nat.le_of_ble_eq_true rfl, Nat.le_of_ble_eq_true rfl⟩ (fun v_2 u_3 H locs hv_4 hP₀ hD₀ hS₀ => ?_)
  obtain ⟨sv_5, sv_6, sv_7, sv_8, sv_9, sv_10, sv_11⟩ := u_3
  obtain ⟨rfl, pf_12, pf_13, pf_14, pf_15⟩ := hv_4
  have pf_12 : 0 ≤ ((Tv 0) : Int32).toInt ∧ ((Tv 0) : Int32).toInt ≤ 400 ∧ 0 ≤ (sv_8 : Int32).toInt ∧ (sv_8 : Int32).toInt ≤ 400 ∧ 0 ≤ (sv_9 : Int32).toInt ∧ (sv_9 : Int32).toInt ≤ 400 := pf_12
  have pf_13 : 0 ≤ (sv_5 : Int32).toInt ∧ (sv_5 : Int32).toInt ≤ 400 := pf_13
  have pf_14 : TpR (Tf 1) (Tv 0) (pz_b rr (pz_fact (cB (Tf 1) (Tv 0)) 3)) sv_8 sv_9 sv_10 sv_11 := pf_14
  obtain ⟨ro_16, ero_16⟩ : ∃ z : Except Int (Nat × Nat), z = (pz_b rr (pz_fact (cB (Tf 1) (Tv 0)) 3)) := ⟨_, rfl⟩
  rw [← ero_16] at pf_14
  have tb_17 : TpB (rTE (cB (Tf 1) (Tv 0)) ro_16) sv_9 sv_11 := TpR.tb pf_14
  have pf_15 : Ctd (pz_b rr (pz_fact (cB (Tf 1) (Tv 0)) 3)) sv_6 := pf_15
  rw [← ero_16] at pf_15
  refine W.eq (g2 := F0 m 6 ls []) rfl ?_
  replace hP : va_P D classes [((Va 0), .inr (7, [.ref (Va 1), .int sv_5, .int sv_6])), ((Va 1), .inl (tc 0, 400, .inl sv_7)), ((Ta 0), .inr (10, [.ref (Ta 1), .int (Tv 0), .int sv_8, .int sv_9, .int sv_10, .int sv_11])), ((Ta 1), .inl (tc 0, 400, .inl (Tf 1)))] H := hP₀
  replace hD : va_D A [((Va 0), .inr (7, [.ref (Va 1), .int sv_5, .int sv_6])), ((Va 1), .inl (tc 0, 400, .inl sv_7)), ((Ta 0), .inr (10, [.ref (Ta 1), .int (Tv 0), .int sv_8, .int sv_9, .int sv_10, .int sv_11])), ((Ta 1), .inl (tc 0, 400, .inl (Tf 1)))] := hD₀
  replace hS := hS₀
  clear hP₀ hD₀ hS₀
  refine lv_iconst (v := 0) hx hb dX7_readTest_6 (by decide) ?_
  refine lv_istore_n (lv' := [(3, .int 0), (0, .ref (Va 0)), (1, .ref (Ta 0)), (2, .int 7)]) hx hb dX7_readTest_7 rfl hl (by decide) rfl (fun ls hl₀ => ?_)
  replace hl := hl₀
  clear hl₀
  refine lv_iconst (v := 0) hx hb dX7_readTest_8 (by decide) ?_
  refine lv_istore (lv' := [(4, .int 0), (3, .int 0), (0, .ref (Va 0)), (1, .ref (Ta 0)), (2, .int 7)]) hx hb dX7_readTest_9 hl (by decide) rfl (fun ls hl₀ => ?_)
  replace hl := hl₀
  clear hl₀
  have loop_38 : ∀ (n_36 : Nat) (vy_27 : Int32) (vy_28 : Int32) (vy_29 : Int32) (vy_30 : Nat → Int32) (vy_31 : Int32) (vy_32 : Int32) (vy_33 : Int32) (vy_34 : Int32) (vy_35 : Int32) (H : Heap) (locs : List Loc) (ls : Array Slot), (401 - (vy_27 : Int32).toInt).toNat < n_36 → (0 ≤ (vy_27 : Int32).toInt ∧ (vy_27 : Int32).toInt ≤ 400) → (0 ≤ ((Tv 0) : Int32).toInt ∧ ((Tv 0) : Int32).toInt ≤ 400 ∧ 0 ≤ (vy_31 : Int32).toInt ∧ (vy_31 : Int32).toInt ≤ 400 ∧ 0 ≤ (vy_32 : Int32).toInt ∧ (vy_32 : Int32).toInt ≤ 400) → (0 ≤ (vy_28 : Int32).toInt ∧ (vy_28 : Int32).toInt ≤ 400) → (TeL (Tf 1) (Tv 0) 3 (pz_b rr (pz_tst (cB (Tf 1) (Tv 0)) (pz_fact (cB (Tf 1) (Tv 0)) 3))) vy_31 vy_32 vy_33 vy_34 vy_29 vy_27) → va_P D classes [((Va 0), .inr (7, [.ref (Va 1), .int vy_28, .int vy_29])), ((Va 1), .inl (tc 0, 400, .inl vy_30)), ((Ta 0), .inr (10, [.ref (Ta 1), .int (Tv 0), .int vy_31, .int vy_32, .int vy_33, .int vy_34])), ((Ta 1), .inl (tc 0, 400, .inl (Tf 1)))] H → va_D A [((Va 0), .inr (7, [.ref (Va 1), .int vy_28, .int vy_29])), ((Va 1), .inl (tc 0, 400, .inl vy_30)), ((Ta 0), .inr (10, [.ref (Ta 1), .int (Tv 0), .int vy_31, .int vy_32, .int vy_33, .int vy_34])), ((Ta 1), .inl (tc 0, 400, .inl (Tf 1)))] → va_S A s.heap H locs → lv_has ls 6 [(4, .int vy_27), (3, .int vy_35), (0, .ref (Va 0)), (1, .ref (Ta 0)), (2, .int 7)] → W p l e ({ frames := 15, cells := 0, slots := 0, locals := 351 }) s m ([.ref (Va 0), .ref (Ta 0), .int 7].toArray) below meth c H locs 0 0 (MQ below (QW (fun (v : Option Value) (u : (Int32) × (Int32) × (Nat → Int32) × (Int32) × (Int32) × (Int32) × (Int32)) => match u with | (oo0x1, oo0x2, oo0x3, oo0x4, oo0x5, oo0x6, oo0x7) => v = none ∧ (0 ≤ ((Tv 0) : Int32).toInt ∧ ((Tv 0) : Int32).toInt ≤ 400 ∧ 0 ≤ (oo0x4 : Int32).toInt ∧ (oo0x4 : Int32).toInt ≤ 400 ∧ 0 ≤ (oo0x5 : Int32).toInt ∧ (oo0x5 : Int32).toInt ≤ 400) ∧ (0 ≤ (oo0x1 : Int32).toInt ∧ (oo0x1 : Int32).toInt ≤ 400) ∧ (TpR (Tf 1) (Tv 0) (pz_b rr (pz_tst (cB (Tf 1) (Tv 0)) (pz_fact (cB (Tf 1) (Tv 0)) 3))) oo0x4 oo0x5 oo0x6 oo0x7) ∧ (Ctd (pz_b rr (pz_tst (cB (Tf 1) (Tv 0)) (pz_fact (cB (Tf 1) (Tv 0)) 3))) oo0x2)) (BW D (fun (u : (Int32) × (Int32) × (Nat → Int32) × (Int32) × (Int32) × (Int32) × (Int32)) => match u with | (oo0x1, oo0x2, oo0x3, oo0x4, oo0x5, oo0x6, oo0x7) => [((Va 0), .inr (7, [.ref (Va 1), .int oo0x1, .int oo0x2])), ((Va 1), .inl (tc 0, 400, .inl oo0x3)), ((Ta 0), .inr (10, [.ref (Ta 1), .int (Tv 0), .int oo0x4, .int oo0x5, .int oo0x6, .int oo0x7])), ((Ta 1), .inl (tc 0, 400, .inl (Tf 1)))]) A) A) ([.ref (Va 0), .ref (Ta 0), .int 7].toArray) s 0 0 A) (F0 m 11 ls []) := by
    clear hP hD hS hl
    intro n_36
    induction n_36 with
    | zero =>
      intro vy_27 vy_28 vy_29 vy_30 vy_31 vy_32 vy_33 vy_34 vy_35 H locs ls h1
      exact absurd h1 (Nat.not_lt_zero _)
    | succ n_36 ih_37 =>
      intro vy_27 vy_28 vy_29 vy_30 vy_31 vy_32 vy_33 vy_34 vy_35 H locs ls hn_43 pf_39 pf_40 pf_41 pf_42 hP hD hS hl
      obtain ⟨rq_44, pf_45, pf_46, pf_47, pf_48⟩ := id pf_42
      have tb_49 : TpB (rTE (cB (Tf 1) (Tv 0)) rq_44) vy_32 vy_34 := TpR.tb pf_45
      refine lv_iload hx hb dX7_readTest_11 (lv_at hl 0 rfl) ?_
      refine lv_sipush (v := 400) hx hb dX7_readTest_13 (by decide) ?_
      refine lv_icmp_ge (tgt := 92) hx hb dX7_readTest_16 (by decide) (fun c_50 => ?_) (fun c_50 => ?_)
      · skip
        refine lv_iload_n hx hb dX7_readTest_92 rfl (lv_at hl 1 rfl) ?_
        refine lv_if_eq (tgt := 102) hx hb dX7_readTest_93 (by decide) (fun c_51 => ?_) (fun c_51 => ?_)
        · skip
          have hf_52 : TpR (Tf 1) (Tv 0) (pz_b rr (pz_tst (cB (Tf 1) (Tv 0)) (pz_fact (cB (Tf 1) (Tv 0)) 3))) vy_31 vy_32 vy_33 vy_34 := by
            have hr_53 : 400 ≤ (vy_27 : Int32).toInt := by
              have z_1 := Int32.le_iff_toInt_le.mp c_50
              have z_2 := congrArg Int32.toInt c_51
              have y_0 : (0 : Int32).toInt = 0 := by decide
              have y_400 : (400 : Int32).toInt = 400 := by decide
              omega
            rw [pf_47, tst_end h_tape.2.1 pf_48 (Or.inl hr_53)]
            exact pf_45
          have hf_54 : Ctd (pz_b rr (pz_tst (cB (Tf 1) (Tv 0)) (pz_fact (cB (Tf 1) (Tv 0)) 3))) vy_29 := by
            have hr_55 : 400 ≤ (vy_27 : Int32).toInt := by
              have z_1 := Int32.le_iff_toInt_le.mp c_50
              have z_2 := congrArg Int32.toInt c_51
              have y_0 : (0 : Int32).toInt = 0 := by decide
              have y_400 : (400 : Int32).toInt = 400 := by decide
              omega
            rw [pf_47, tst_end h_tape.2.1 pf_48 (Or.inl hr_55)]
            exact pf_46
          exact retV hx hb hr hlk hP hD hS (vy_28, vy_29, vy_30, vy_31, vy_32, vy_33, vy_34) ⟨rfl, pf_40, pf_41, hf_52, hf_54⟩ [0, 1, 2, 3] rfl rfl dX7_readTest_102 (Nat.le_of_ble_eq_true rfl) (Nat.le_of_ble_eq_true rfl) rfl
        · skip
          refine lv_aload_n hx hb dX7_readTest_96 rfl (lv_at hl 2 rfl) ?_
          refine lv_bipush (v := (-6)) hx hb dX7_readTest_97 (by decide) ?_
          refine cV (a := (Va 0)) (As := [.int (-6)]) (rest := []) (wr := [((Ta 0), .inr (10, [.ref (Ta 1), .int (Tv 0), .int vy_31, .int vy_32, .int vy_33, .int vy_34])), ((Ta 1), .inl (tc 0, 400, .inl (Tf 1)))]) ⟨hx, hb, hml, hown, hts⟩ hK hX hA (cu_fX7_put l D tc sk (Va 0) (Va 1) vy_28 vy_29 vy_30 (-6) pf_41) k_642 k_639 k_641 k_10 k_99 pl_X7_put ⟨Nat.le_of_ble_eq_true rfl, Nat.le_of_ble_eq_true rfl⟩ rfl rfl (va_recv hK hP (ci := 7) (q0 := 0) rfl rfl) hP hD hS [0, 1] [2, 3] rfl rfl rfl rfl rfl (by decide) rfl hl.1 rfl (Nat.le_of_ble_eq_true rfl) dX7_readTest_99 ⟨Nat.le_of_ble_eq_true rfl, Nat.le_of_ble_eq_true rfl⟩ (fun v_56 u_57 H locs hv_58 hP₀ hD₀ hS₀ => ?_)
          obtain ⟨sv_59, sv_60⟩ := u_57
          obtain ⟨rfl, pf_61⟩ := hv_58
          have pf_61 : 0 ≤ (sv_59 : Int32).toInt ∧ (sv_59 : Int32).toInt ≤ 400 := pf_61
          refine W.eq (g2 := F0 m 102 ls []) rfl ?_
          replace hP : va_P D classes [((Ta 0), .inr (10, [.ref (Ta 1), .int (Tv 0), .int vy_31, .int vy_32, .int vy_33, .int vy_34])), ((Ta 1), .inl (tc 0, 400, .inl (Tf 1))), ((Va 0), .inr (7, [.ref (Va 1), .int sv_59, .int vy_29])), ((Va 1), .inl (tc 0, 400, .inl sv_60))] H := hP₀
          replace hD : va_D A [((Ta 0), .inr (10, [.ref (Ta 1), .int (Tv 0), .int vy_31, .int vy_32, .int vy_33, .int vy_34])), ((Ta 1), .inl (tc 0, 400, .inl (Tf 1))), ((Va 0), .inr (7, [.ref (Va 1), .int sv_59, .int vy_29])), ((Va 1), .inl (tc 0, 400, .inl sv_60))] := hD₀
          replace hS := hS₀
          clear hP₀ hD₀ hS₀
          have hf_62 : TpR (Tf 1) (Tv 0) (pz_b rr (pz_tst (cB (Tf 1) (Tv 0)) (pz_fact (cB (Tf 1) (Tv 0)) 3))) vy_31 vy_32 vy_33 vy_34 := by
            have hr_63 : 400 ≤ (vy_27 : Int32).toInt := by
              have z_1 := Int32.le_iff_toInt_le.mp c_50
              have z_2 : ¬ (vy_35 : Int32).toInt = (0 : Int32).toInt := fun z => c_51 (Int32.toInt_inj.mp z)
              have y_0 : (0 : Int32).toInt = 0 := by decide
              have y_400 : (400 : Int32).toInt = 400 := by decide
              omega
            rw [pf_47, tst_end h_tape.2.1 pf_48 (Or.inl hr_63)]
            exact pf_45
          have hf_64 : Ctd (pz_b rr (pz_tst (cB (Tf 1) (Tv 0)) (pz_fact (cB (Tf 1) (Tv 0)) 3))) vy_29 := by
            have hr_65 : 400 ≤ (vy_27 : Int32).toInt := by
              have z_1 := Int32.le_iff_toInt_le.mp c_50
              have z_2 : ¬ (vy_35 : Int32).toInt = (0 : Int32).toInt := fun z => c_51 (Int32.toInt_inj.mp z)
              have y_0 : (0 : Int32).toInt = 0 := by decide
              have y_400 : (400 : Int32).toInt = 400 := by decide
              omega
            rw [pf_47, tst_end h_tape.2.1 pf_48 (Or.inl hr_65)]
            exact pf_46
          exact retV hx hb hr hlk hP hD hS (sv_59, vy_29, sv_60, vy_31, vy_32, vy_33, vy_34) ⟨rfl, pf_40, pf_61, hf_62, hf_64⟩ [2, 3, 0, 1] rfl rfl dX7_readTest_102 (Nat.le_of_ble_eq_true rfl) (Nat.le_of_ble_eq_true rfl) rfl
      · skip
        refine lv_aload_n hx hb dX7_readTest_19 rfl (lv_at hl 3 rfl) ?_
        refine va_ldcS hx hb hown (sx_5 hX) dX7_readTest_20 ?_
        have ha_66 : (5 : Nat) < 7 := by
          have z_1 := Int32.lt_iff_toInt_lt.mp (Int32.not_le.mp c_50)
          have y_400 : (400 : Int32).toInt = 400 := by decide
          have y_5 : (5 : Int32).toInt = 5 := by decide
          omega
        refine cV (a := (Ta 0)) (As := [.ref (sk.1 5)]) (rest := []) (wr := [((Va 0), .inr (7, [.ref (Va 1), .int vy_28, .int vy_29])), ((Va 1), .inl (tc 0, 400, .inl vy_30))]) ⟨hx, hb, hml, hown, hts⟩ hK hX hA (cu_fX10_isWord l D tc sk (Ta 0) (Ta 1) (Tv 0) vy_31 vy_32 vy_33 vy_34 (Tf 1) 5 rq_44 ha_66 pf_40 h_by pf_45) k_618 k_615 k_616 k_617 k_96 pl_X10_isWord ⟨Nat.le_of_ble_eq_true rfl, Nat.le_of_ble_eq_true rfl⟩ rfl rfl (va_recv hK hP (ci := 10) (q0 := 2) rfl rfl) hP hD hS [2, 3] [0, 1] rfl rfl rfl rfl rfl (by decide) rfl hl.1 rfl (Nat.le_of_ble_eq_true rfl) dX7_readTest_22 ⟨Nat.le_of_ble_eq_true rfl, Nat.le_of_ble_eq_true rfl⟩ (fun v_67 u_68 H locs hv_69 hP₀ hD₀ hS₀ => ?_)
        obtain ⟨r_70, rfl, he_71, hm_73, hm_74⟩ := hv_69
        have he_71 : (r_70.toInt = 0 ∨ r_70.toInt = 1) := he_71
        refine W.eq (g2 := F0 m 25 ls [.int r_70]) rfl ?_
        replace hP : va_P D classes [((Va 0), .inr (7, [.ref (Va 1), .int vy_28, .int vy_29])), ((Va 1), .inl (tc 0, 400, .inl vy_30)), ((Ta 0), .inr (10, [.ref (Ta 1), .int (Tv 0), .int vy_31, .int vy_32, .int vy_33, .int vy_34])), ((Ta 1), .inl (tc 0, 400, .inl (Tf 1)))] H := hP₀
        replace hD : va_D A [((Va 0), .inr (7, [.ref (Va 1), .int vy_28, .int vy_29])), ((Va 1), .inl (tc 0, 400, .inl vy_30)), ((Ta 0), .inr (10, [.ref (Ta 1), .int (Tv 0), .int vy_31, .int vy_32, .int vy_33, .int vy_34])), ((Ta 1), .inl (tc 0, 400, .inl (Tf 1)))] := hD₀
        replace hS := hS₀
        clear hP₀ hD₀ hS₀
        refine lv_if_ne (tgt := 37) hx hb dX7_readTest_25 (by decide) (fun c_75 => ?_) (fun c_75 => ?_)
        · skip
          have hz_77 : (r_70 : Int32).toInt = 1 := by
            have z_1 := Int32.lt_iff_toInt_lt.mp (Int32.not_le.mp c_50)
            have z_2 : ¬ (r_70 : Int32).toInt = (0 : Int32).toInt := fun z => c_75 (Int32.toInt_inj.mp z)
            have y_0 : (0 : Int32).toInt = 0 := by decide
            have y_400 : (400 : Int32).toInt = 400 := by decide
            omega
          obtain pf_76 := hm_73 hz_77
          have pf_76 : TWd (cB (Tf 1) (Tv 0)) (wS (5 : Nat)) rq_44 := pf_76
          refine lv_aload_n hx hb dX7_readTest_37 rfl (lv_at hl 3 rfl) ?_
          refine va_ldcS hx hb hown (sx_6 hX) dX7_readTest_38 ?_
          have ha_78 : (6 : Nat) < 7 := by
            have z_1 := Int32.lt_iff_toInt_lt.mp (Int32.not_le.mp c_50)
            have z_2 : ¬ (r_70 : Int32).toInt = (0 : Int32).toInt := fun z => c_75 (Int32.toInt_inj.mp z)
            have y_0 : (0 : Int32).toInt = 0 := by decide
            have y_400 : (400 : Int32).toInt = 400 := by decide
            have y_6 : (6 : Int32).toInt = 6 := by decide
            omega
          refine cV (a := (Ta 0)) (As := [.ref (sk.1 6)]) (rest := []) (wr := [((Va 0), .inr (7, [.ref (Va 1), .int vy_28, .int vy_29])), ((Va 1), .inl (tc 0, 400, .inl vy_30))]) ⟨hx, hb, hml, hown, hts⟩ hK hX hA (cu_fX10_isWord l D tc sk (Ta 0) (Ta 1) (Tv 0) vy_31 vy_32 vy_33 vy_34 (Tf 1) 6 rq_44 ha_78 pf_40 h_by pf_45) k_618 k_615 k_616 k_617 k_96 pl_X10_isWord ⟨Nat.le_of_ble_eq_true rfl, Nat.le_of_ble_eq_true rfl⟩ rfl rfl (va_recv hK hP (ci := 10) (q0 := 2) rfl rfl) hP hD hS [2, 3] [0, 1] rfl rfl rfl rfl rfl (by decide) rfl hl.1 rfl (Nat.le_of_ble_eq_true rfl) dX7_readTest_40 ⟨Nat.le_of_ble_eq_true rfl, Nat.le_of_ble_eq_true rfl⟩ (fun v_79 u_80 H locs hv_81 hP₀ hD₀ hS₀ => ?_)
          obtain ⟨r_82, rfl, he_83, hm_85, hm_86⟩ := hv_81
          have he_83 : (r_82.toInt = 0 ∨ r_82.toInt = 1) := he_83
          refine W.eq (g2 := F0 m 43 ls [.int r_82]) rfl ?_
          replace hP : va_P D classes [((Va 0), .inr (7, [.ref (Va 1), .int vy_28, .int vy_29])), ((Va 1), .inl (tc 0, 400, .inl vy_30)), ((Ta 0), .inr (10, [.ref (Ta 1), .int (Tv 0), .int vy_31, .int vy_32, .int vy_33, .int vy_34])), ((Ta 1), .inl (tc 0, 400, .inl (Tf 1)))] H := hP₀
          replace hD : va_D A [((Va 0), .inr (7, [.ref (Va 1), .int vy_28, .int vy_29])), ((Va 1), .inl (tc 0, 400, .inl vy_30)), ((Ta 0), .inr (10, [.ref (Ta 1), .int (Tv 0), .int vy_31, .int vy_32, .int vy_33, .int vy_34])), ((Ta 1), .inl (tc 0, 400, .inl (Tf 1)))] := hD₀
          replace hS := hS₀
          clear hP₀ hD₀ hS₀
          refine lv_istore (lv' := [(5, .int r_82), (4, .int vy_27), (3, .int vy_35), (0, .ref (Va 0)), (1, .ref (Ta 0)), (2, .int 7)]) hx hb dX7_readTest_43 hl (by decide) rfl (fun ls hl₀ => ?_)
          replace hl := hl₀
          clear hl₀
          refine lv_iload hx hb dX7_readTest_45 (lv_at hl 0 rfl) ?_
          refine lv_if_eq (tgt := 60) hx hb dX7_readTest_47 (by decide) (fun c_87 => ?_) (fun c_87 => ?_)
          · skip
            have hz_89 : (r_82 : Int32).toInt = 0 := by
              have z_1 := Int32.lt_iff_toInt_lt.mp (Int32.not_le.mp c_50)
              have z_2 : ¬ (r_70 : Int32).toInt = (0 : Int32).toInt := fun z => c_75 (Int32.toInt_inj.mp z)
              have z_3 := congrArg Int32.toInt c_87
              have y_0 : (0 : Int32).toInt = 0 := by decide
              have y_400 : (400 : Int32).toInt = 400 := by decide
              omega
            obtain pf_88 := hm_86 hz_89
            have pf_88 : NWd (cB (Tf 1) (Tv 0)) (wS (6 : Nat)) rq_44 := pf_88
            refine lv_aload_n hx hb dX7_readTest_60 rfl (lv_at hl 4 rfl) ?_
            refine cV (a := (Ta 0)) (As := []) (rest := []) (wr := [((Va 0), .inr (7, [.ref (Va 1), .int vy_28, .int vy_29])), ((Va 1), .inl (tc 0, 400, .inl vy_30))]) ⟨hx, hb, hml, hown, hts⟩ hK hX hA (cu_fX10_step l D tc sk (Ta 0) (Ta 1) (Tv 0) vy_31 vy_32 vy_33 vy_34 (Tf 1) (rTE (cB (Tf 1) (Tv 0)) rq_44) pf_40 h_by tb_49) k_478 k_620 k_476 k_477 k_96 pl_X10_step ⟨Nat.le_of_ble_eq_true rfl, Nat.le_of_ble_eq_true rfl⟩ rfl rfl (va_recv hK hP (ci := 10) (q0 := 2) rfl rfl) hP hD hS [2, 3] [0, 1] rfl rfl rfl rfl rfl (by decide) rfl hl.1 rfl (Nat.le_of_ble_eq_true rfl) dX7_readTest_61 ⟨Nat.le_of_ble_eq_true rfl, Nat.le_of_ble_eq_true rfl⟩ (fun v_90 u_91 H locs hv_92 hP₀ hD₀ hS₀ => ?_)
            obtain ⟨sv_93, sv_94, sv_95⟩ := u_91
            obtain ⟨rfl, pf_96, pf_97⟩ := hv_92
            have pf_96 : 0 ≤ ((Tv 0) : Int32).toInt ∧ ((Tv 0) : Int32).toInt ≤ 400 ∧ 0 ≤ (sv_93 : Int32).toInt ∧ (sv_93 : Int32).toInt ≤ 400 ∧ 0 ≤ (sv_94 : Int32).toInt ∧ (sv_94 : Int32).toInt ≤ 400 := pf_96
            have pf_97 : TpR (Tf 1) (Tv 0) (rSK (cB (Tf 1) (Tv 0)) (rTE (cB (Tf 1) (Tv 0)) rq_44)) sv_93 sv_94 sv_95 vy_34 := pf_97
            rw [rNX_eq] at pf_97
            obtain ⟨ro_98, ero_98⟩ : ∃ z : Except Int (Nat × Nat), z = (rNX (cB (Tf 1) (Tv 0)) rq_44) := ⟨_, rfl⟩
            rw [← ero_98] at pf_97
            have tb_99 : TpB (rTE (cB (Tf 1) (Tv 0)) ro_98) sv_94 vy_34 := TpR.tb pf_97
            have cd_100 : Ctd ro_98 vy_29 := by rw [ero_98]; exact (Ctd.nx pf_46)
            refine W.eq (g2 := F0 m 64 ls []) rfl ?_
            replace hP : va_P D classes [((Va 0), .inr (7, [.ref (Va 1), .int vy_28, .int vy_29])), ((Va 1), .inl (tc 0, 400, .inl vy_30)), ((Ta 0), .inr (10, [.ref (Ta 1), .int (Tv 0), .int sv_93, .int sv_94, .int sv_95, .int vy_34])), ((Ta 1), .inl (tc 0, 400, .inl (Tf 1)))] H := hP₀
            replace hD : va_D A [((Va 0), .inr (7, [.ref (Va 1), .int vy_28, .int vy_29])), ((Va 1), .inl (tc 0, 400, .inl vy_30)), ((Ta 0), .inr (10, [.ref (Ta 1), .int (Tv 0), .int sv_93, .int sv_94, .int sv_95, .int vy_34])), ((Ta 1), .inl (tc 0, 400, .inl (Tf 1)))] := hD₀
            replace hS := hS₀
            clear hP₀ hD₀ hS₀
            refine lv_aload_n hx hb dX7_readTest_64 rfl (lv_at hl 3 rfl) ?_
            refine lv_aload_n hx hb dX7_readTest_65 rfl (lv_at hl 4 rfl) ?_
            refine lv_iload_n hx hb dX7_readTest_66 rfl (lv_at hl 5 rfl) ?_
            refine cV (a := (Va 0)) (As := [.ref (Ta 0), .int 7]) (rest := []) (wr := []) ⟨hx, hb, hml, hown, hts⟩ hK hX hA (cu_fX7_readFact_7 l D tc sk (Va 0) (Va 1) vy_28 vy_29 vy_30 (Ta 0) (Ta 1) (Tv 0) sv_93 sv_94 sv_95 vy_34 (Tf 1) ro_98 pf_96 pf_41 h_by pf_97 cd_100) k_659 k_656 k_658 k_12 k_99 pl_X7_readFact ⟨Nat.le_of_ble_eq_true rfl, Nat.le_of_ble_eq_true rfl⟩ rfl rfl (va_recv hK hP (ci := 7) (q0 := 0) rfl rfl) hP hD hS [0, 1, 2, 3] [] rfl rfl rfl rfl rfl (by decide) rfl hl.1 rfl (Nat.le_of_ble_eq_true rfl) dX7_readTest_67 ⟨Nat.le_of_ble_eq_true rfl, Nat.le_of_ble_eq_true rfl⟩ (fun v_101 u_102 H locs hv_103 hP₀ hD₀ hS₀ => ?_)
            obtain ⟨sv_104, sv_105, sv_106, sv_107, sv_108, sv_109, sv_110⟩ := u_102
            obtain ⟨rfl, pf_111, pf_112, pf_113, pf_114⟩ := hv_103
            have pf_111 : 0 ≤ ((Tv 0) : Int32).toInt ∧ ((Tv 0) : Int32).toInt ≤ 400 ∧ 0 ≤ (sv_107 : Int32).toInt ∧ (sv_107 : Int32).toInt ≤ 400 ∧ 0 ≤ (sv_108 : Int32).toInt ∧ (sv_108 : Int32).toInt ≤ 400 := pf_111
            have pf_112 : 0 ≤ (sv_104 : Int32).toInt ∧ (sv_104 : Int32).toInt ≤ 400 := pf_112
            have pf_113 : TpR (Tf 1) (Tv 0) (pz_b ro_98 (pz_fact (cB (Tf 1) (Tv 0)) 3)) sv_107 sv_108 sv_109 sv_110 := pf_113
            obtain ⟨ro_115, ero_115⟩ : ∃ z : Except Int (Nat × Nat), z = (pz_b ro_98 (pz_fact (cB (Tf 1) (Tv 0)) 3)) := ⟨_, rfl⟩
            rw [← ero_115] at pf_113
            have tb_116 : TpB (rTE (cB (Tf 1) (Tv 0)) ro_115) sv_108 sv_110 := TpR.tb pf_113
            have pf_114 : Ctd (pz_b ro_98 (pz_fact (cB (Tf 1) (Tv 0)) 3)) sv_105 := pf_114
            rw [← ero_115] at pf_114
            refine W.eq (g2 := F0 m 70 ls []) rfl ?_
            replace hP : va_P D classes [((Va 0), .inr (7, [.ref (Va 1), .int sv_104, .int sv_105])), ((Va 1), .inl (tc 0, 400, .inl sv_106)), ((Ta 0), .inr (10, [.ref (Ta 1), .int (Tv 0), .int sv_107, .int sv_108, .int sv_109, .int sv_110])), ((Ta 1), .inl (tc 0, 400, .inl (Tf 1)))] H := hP₀
            replace hD : va_D A [((Va 0), .inr (7, [.ref (Va 1), .int sv_104, .int sv_105])), ((Va 1), .inl (tc 0, 400, .inl sv_106)), ((Ta 0), .inr (10, [.ref (Ta 1), .int (Tv 0), .int sv_107, .int sv_108, .int sv_109, .int sv_110])), ((Ta 1), .inl (tc 0, 400, .inl (Tf 1)))] := hD₀
            replace hS := hS₀
            clear hP₀ hD₀ hS₀
            refine lv_iload hx hb dX7_readTest_70 (lv_at hl 0 rfl) ?_
            refine lv_if_eq (tgt := 80) hx hb dX7_readTest_72 (by decide) (fun c_117 => ?_) (fun c_117 => ?_)
            · skip
              refine lv_aload_n hx hb dX7_readTest_80 rfl (lv_at hl 3 rfl) ?_
              refine lv_bipush (v := (-5)) hx hb dX7_readTest_81 (by decide) ?_
              refine cV (a := (Va 0)) (As := [.int (-5)]) (rest := []) (wr := [((Ta 0), .inr (10, [.ref (Ta 1), .int (Tv 0), .int sv_107, .int sv_108, .int sv_109, .int sv_110])), ((Ta 1), .inl (tc 0, 400, .inl (Tf 1)))]) ⟨hx, hb, hml, hown, hts⟩ hK hX hA (cu_fX7_put l D tc sk (Va 0) (Va 1) sv_104 sv_105 sv_106 (-5) pf_112) k_642 k_639 k_641 k_10 k_99 pl_X7_put ⟨Nat.le_of_ble_eq_true rfl, Nat.le_of_ble_eq_true rfl⟩ rfl rfl (va_recv hK hP (ci := 7) (q0 := 0) rfl rfl) hP hD hS [0, 1] [2, 3] rfl rfl rfl rfl rfl (by decide) rfl hl.1 rfl (Nat.le_of_ble_eq_true rfl) dX7_readTest_83 ⟨Nat.le_of_ble_eq_true rfl, Nat.le_of_ble_eq_true rfl⟩ (fun v_118 u_119 H locs hv_120 hP₀ hD₀ hS₀ => ?_)
              obtain ⟨sv_121, sv_122⟩ := u_119
              obtain ⟨rfl, pf_123⟩ := hv_120
              have pf_123 : 0 ≤ (sv_121 : Int32).toInt ∧ (sv_121 : Int32).toInt ≤ 400 := pf_123
              refine W.eq (g2 := F0 m 86 ls []) rfl ?_
              replace hP : va_P D classes [((Ta 0), .inr (10, [.ref (Ta 1), .int (Tv 0), .int sv_107, .int sv_108, .int sv_109, .int sv_110])), ((Ta 1), .inl (tc 0, 400, .inl (Tf 1))), ((Va 0), .inr (7, [.ref (Va 1), .int sv_121, .int sv_105])), ((Va 1), .inl (tc 0, 400, .inl sv_122))] H := hP₀
              replace hD : va_D A [((Ta 0), .inr (10, [.ref (Ta 1), .int (Tv 0), .int sv_107, .int sv_108, .int sv_109, .int sv_110])), ((Ta 1), .inl (tc 0, 400, .inl (Tf 1))), ((Va 0), .inr (7, [.ref (Va 1), .int sv_121, .int sv_105])), ((Va 1), .inl (tc 0, 400, .inl sv_122))] := hD₀
              replace hS := hS₀
              clear hP₀ hD₀ hS₀
              obtain ⟨x_124, ex_124⟩ : ∃ y : Int32, y = vy_27 + 1 := ⟨_, rfl⟩
              refine lv_iinc (v := x_124) (lv' := [(4, .int x_124), (5, .int r_82), (3, .int vy_35), (0, .ref (Va 0)), (1, .ref (Ta 0)), (2, .int 7)]) hx hb dX7_readTest_86 hl (k := 1) rfl (by rw [ex_124]; rfl) (by decide) rfl (fun ls hl₀ => ?_)
              replace hl := hl₀
              clear hl₀
              refine lv_goto (tgt := 11) hx hb dX7_readTest_89 (by decide) ?_
              have hb_125 : 401 - (x_124 : Int32).toInt < 401 - (vy_27 : Int32).toInt ∧ 1 ≤ 401 - (vy_27 : Int32).toInt := by
                have z_1 := Int32.lt_iff_toInt_lt.mp (Int32.not_le.mp c_50)
                have z_2 : ¬ (r_70 : Int32).toInt = (0 : Int32).toInt := fun z => c_75 (Int32.toInt_inj.mp z)
                have z_3 := congrArg Int32.toInt c_87
                have z_4 := congrArg Int32.toInt c_117
                have y_0 : (0 : Int32).toInt = 0 := by decide
                have y_400 : (400 : Int32).toInt = 400 := by decide
                have y_1 : (1 : Int32).toInt = 1 := by decide
                have t_x_124 : x_124.toInt = (vy_27 : Int32).toInt + (1 : Int32).toInt := by rw [ex_124]; exact add_toInt (by omega) (by omega)
                omega
              have ha_126 : 0 ≤ (x_124 : Int32).toInt ∧ (x_124 : Int32).toInt ≤ 400 := by
                have z_1 := Int32.lt_iff_toInt_lt.mp (Int32.not_le.mp c_50)
                have z_2 : ¬ (r_70 : Int32).toInt = (0 : Int32).toInt := fun z => c_75 (Int32.toInt_inj.mp z)
                have z_3 := congrArg Int32.toInt c_87
                have z_4 := congrArg Int32.toInt c_117
                have y_0 : (0 : Int32).toInt = 0 := by decide
                have y_400 : (400 : Int32).toInt = 400 := by decide
                have y_1 : (1 : Int32).toInt = 1 := by decide
                have t_x_124 : x_124.toInt = (vy_27 : Int32).toInt + (1 : Int32).toInt := by rw [ex_124]; exact add_toInt (by omega) (by omega)
                omega
              have hu_127 : TpR (Tf 1) (Tv 0) (pz_b (rNX (cB (Tf 1) (Tv 0)) rq_44) (pz_fact (cB (Tf 1) (Tv 0)) 3)) sv_107 sv_108 sv_109 sv_110 := by
                rw [← ero_98, ← ero_115]
                exact pf_113
              have hu_128 : Ctd (pz_b (rNX (cB (Tf 1) (Tv 0)) rq_44) (pz_fact (cB (Tf 1) (Tv 0)) 3)) sv_105 := by
                rw [← ero_98, ← ero_115]
                exact pf_114
              have hw_129 : TWd (cB (Tf 1) (Tv 0)) pz_and rq_44 := by
                rw [← wS5]
                exact pf_76
              have hi_130 : (x_124 : Int32).toInt = (vy_27 : Int32).toInt + 1 := by
                have z_1 := Int32.lt_iff_toInt_lt.mp (Int32.not_le.mp c_50)
                have z_2 : ¬ (r_70 : Int32).toInt = (0 : Int32).toInt := fun z => c_75 (Int32.toInt_inj.mp z)
                have z_3 := congrArg Int32.toInt c_87
                have z_4 := congrArg Int32.toInt c_117
                have y_0 : (0 : Int32).toInt = 0 := by decide
                have y_400 : (400 : Int32).toInt = 400 := by decide
                have y_1 : (1 : Int32).toInt = 1 := by decide
                have t_x_124 : x_124.toInt = (vy_27 : Int32).toInt + (1 : Int32).toInt := by rw [ex_124]; exact add_toInt (by omega) (by omega)
                omega
              exact ih_37 x_124 sv_121 sv_105 sv_122 sv_107 sv_108 sv_109 sv_110 vy_35 _ _ _ (by omega) ha_126 pf_111 pf_123 (TeL.next h_tape.2.1 pf_47 pf_48 (Or.inl hw_129) hu_127 hu_128 hi_130) (hP.sub [2, 3, 0, 1] rfl) (hD.sub [2, 3, 0, 1] rfl rfl) hS (lv_sub hl [0, 2, 3, 4, 5] rfl)
            · skip
              exfalso
              have z_1 := Int32.lt_iff_toInt_lt.mp (Int32.not_le.mp c_50)
              have z_2 : ¬ (r_70 : Int32).toInt = (0 : Int32).toInt := fun z => c_75 (Int32.toInt_inj.mp z)
              have z_3 := congrArg Int32.toInt c_87
              have z_4 : ¬ (r_82 : Int32).toInt = (0 : Int32).toInt := fun z => c_117 (Int32.toInt_inj.mp z)
              have y_0 : (0 : Int32).toInt = 0 := by decide
              have y_400 : (400 : Int32).toInt = 400 := by decide
              omega
          · skip
            have hz_132 : (r_82 : Int32).toInt = 1 := by
              have z_1 := Int32.lt_iff_toInt_lt.mp (Int32.not_le.mp c_50)
              have z_2 : ¬ (r_70 : Int32).toInt = (0 : Int32).toInt := fun z => c_75 (Int32.toInt_inj.mp z)
              have z_3 : ¬ (r_82 : Int32).toInt = (0 : Int32).toInt := fun z => c_87 (Int32.toInt_inj.mp z)
              have y_0 : (0 : Int32).toInt = 0 := by decide
              have y_400 : (400 : Int32).toInt = 400 := by decide
              omega
            obtain pf_131 := hm_85 hz_132
            have pf_131 : TWd (cB (Tf 1) (Tv 0)) (wS (6 : Nat)) rq_44 := pf_131
            refine lv_iload_n hx hb dX7_readTest_50 rfl (lv_at hl 2 rfl) ?_
            refine lv_if_eq (tgt := 60) hx hb dX7_readTest_51 (by decide) (fun c_133 => ?_) (fun c_133 => ?_)
            · skip
              refine lv_aload_n hx hb dX7_readTest_60 rfl (lv_at hl 4 rfl) ?_
              refine cV (a := (Ta 0)) (As := []) (rest := []) (wr := [((Va 0), .inr (7, [.ref (Va 1), .int vy_28, .int vy_29])), ((Va 1), .inl (tc 0, 400, .inl vy_30))]) ⟨hx, hb, hml, hown, hts⟩ hK hX hA (cu_fX10_step l D tc sk (Ta 0) (Ta 1) (Tv 0) vy_31 vy_32 vy_33 vy_34 (Tf 1) (rTE (cB (Tf 1) (Tv 0)) rq_44) pf_40 h_by tb_49) k_478 k_620 k_476 k_477 k_96 pl_X10_step ⟨Nat.le_of_ble_eq_true rfl, Nat.le_of_ble_eq_true rfl⟩ rfl rfl (va_recv hK hP (ci := 10) (q0 := 2) rfl rfl) hP hD hS [2, 3] [0, 1] rfl rfl rfl rfl rfl (by decide) rfl hl.1 rfl (Nat.le_of_ble_eq_true rfl) dX7_readTest_61 ⟨Nat.le_of_ble_eq_true rfl, Nat.le_of_ble_eq_true rfl⟩ (fun v_134 u_135 H locs hv_136 hP₀ hD₀ hS₀ => ?_)
              obtain ⟨sv_137, sv_138, sv_139⟩ := u_135
              obtain ⟨rfl, pf_140, pf_141⟩ := hv_136
              have pf_140 : 0 ≤ ((Tv 0) : Int32).toInt ∧ ((Tv 0) : Int32).toInt ≤ 400 ∧ 0 ≤ (sv_137 : Int32).toInt ∧ (sv_137 : Int32).toInt ≤ 400 ∧ 0 ≤ (sv_138 : Int32).toInt ∧ (sv_138 : Int32).toInt ≤ 400 := pf_140
              have pf_141 : TpR (Tf 1) (Tv 0) (rSK (cB (Tf 1) (Tv 0)) (rTE (cB (Tf 1) (Tv 0)) rq_44)) sv_137 sv_138 sv_139 vy_34 := pf_141
              rw [rNX_eq] at pf_141
              obtain ⟨ro_142, ero_142⟩ : ∃ z : Except Int (Nat × Nat), z = (rNX (cB (Tf 1) (Tv 0)) rq_44) := ⟨_, rfl⟩
              rw [← ero_142] at pf_141
              have tb_143 : TpB (rTE (cB (Tf 1) (Tv 0)) ro_142) sv_138 vy_34 := TpR.tb pf_141
              have cd_144 : Ctd ro_142 vy_29 := by rw [ero_142]; exact (Ctd.nx pf_46)
              refine W.eq (g2 := F0 m 64 ls []) rfl ?_
              replace hP : va_P D classes [((Va 0), .inr (7, [.ref (Va 1), .int vy_28, .int vy_29])), ((Va 1), .inl (tc 0, 400, .inl vy_30)), ((Ta 0), .inr (10, [.ref (Ta 1), .int (Tv 0), .int sv_137, .int sv_138, .int sv_139, .int vy_34])), ((Ta 1), .inl (tc 0, 400, .inl (Tf 1)))] H := hP₀
              replace hD : va_D A [((Va 0), .inr (7, [.ref (Va 1), .int vy_28, .int vy_29])), ((Va 1), .inl (tc 0, 400, .inl vy_30)), ((Ta 0), .inr (10, [.ref (Ta 1), .int (Tv 0), .int sv_137, .int sv_138, .int sv_139, .int vy_34])), ((Ta 1), .inl (tc 0, 400, .inl (Tf 1)))] := hD₀
              replace hS := hS₀
              clear hP₀ hD₀ hS₀
              refine lv_aload_n hx hb dX7_readTest_64 rfl (lv_at hl 3 rfl) ?_
              refine lv_aload_n hx hb dX7_readTest_65 rfl (lv_at hl 4 rfl) ?_
              refine lv_iload_n hx hb dX7_readTest_66 rfl (lv_at hl 5 rfl) ?_
              refine cV (a := (Va 0)) (As := [.ref (Ta 0), .int 7]) (rest := []) (wr := []) ⟨hx, hb, hml, hown, hts⟩ hK hX hA (cu_fX7_readFact_7 l D tc sk (Va 0) (Va 1) vy_28 vy_29 vy_30 (Ta 0) (Ta 1) (Tv 0) sv_137 sv_138 sv_139 vy_34 (Tf 1) ro_142 pf_140 pf_41 h_by pf_141 cd_144) k_659 k_656 k_658 k_12 k_99 pl_X7_readFact ⟨Nat.le_of_ble_eq_true rfl, Nat.le_of_ble_eq_true rfl⟩ rfl rfl (va_recv hK hP (ci := 7) (q0 := 0) rfl rfl) hP hD hS [0, 1, 2, 3] [] rfl rfl rfl rfl rfl (by decide) rfl hl.1 rfl (Nat.le_of_ble_eq_true rfl) dX7_readTest_67 ⟨Nat.le_of_ble_eq_true rfl, Nat.le_of_ble_eq_true rfl⟩ (fun v_145 u_146 H locs hv_147 hP₀ hD₀ hS₀ => ?_)
              obtain ⟨sv_148, sv_149, sv_150, sv_151, sv_152, sv_153, sv_154⟩ := u_146
              obtain ⟨rfl, pf_155, pf_156, pf_157, pf_158⟩ := hv_147
              have pf_155 : 0 ≤ ((Tv 0) : Int32).toInt ∧ ((Tv 0) : Int32).toInt ≤ 400 ∧ 0 ≤ (sv_151 : Int32).toInt ∧ (sv_151 : Int32).toInt ≤ 400 ∧ 0 ≤ (sv_152 : Int32).toInt ∧ (sv_152 : Int32).toInt ≤ 400 := pf_155
              have pf_156 : 0 ≤ (sv_148 : Int32).toInt ∧ (sv_148 : Int32).toInt ≤ 400 := pf_156
              have pf_157 : TpR (Tf 1) (Tv 0) (pz_b ro_142 (pz_fact (cB (Tf 1) (Tv 0)) 3)) sv_151 sv_152 sv_153 sv_154 := pf_157
              obtain ⟨ro_159, ero_159⟩ : ∃ z : Except Int (Nat × Nat), z = (pz_b ro_142 (pz_fact (cB (Tf 1) (Tv 0)) 3)) := ⟨_, rfl⟩
              rw [← ero_159] at pf_157
              have tb_160 : TpB (rTE (cB (Tf 1) (Tv 0)) ro_159) sv_152 sv_154 := TpR.tb pf_157
              have pf_158 : Ctd (pz_b ro_142 (pz_fact (cB (Tf 1) (Tv 0)) 3)) sv_149 := pf_158
              rw [← ero_159] at pf_158
              refine W.eq (g2 := F0 m 70 ls []) rfl ?_
              replace hP : va_P D classes [((Va 0), .inr (7, [.ref (Va 1), .int sv_148, .int sv_149])), ((Va 1), .inl (tc 0, 400, .inl sv_150)), ((Ta 0), .inr (10, [.ref (Ta 1), .int (Tv 0), .int sv_151, .int sv_152, .int sv_153, .int sv_154])), ((Ta 1), .inl (tc 0, 400, .inl (Tf 1)))] H := hP₀
              replace hD : va_D A [((Va 0), .inr (7, [.ref (Va 1), .int sv_148, .int sv_149])), ((Va 1), .inl (tc 0, 400, .inl sv_150)), ((Ta 0), .inr (10, [.ref (Ta 1), .int (Tv 0), .int sv_151, .int sv_152, .int sv_153, .int sv_154])), ((Ta 1), .inl (tc 0, 400, .inl (Tf 1)))] := hD₀
              replace hS := hS₀
              clear hP₀ hD₀ hS₀
              refine lv_iload hx hb dX7_readTest_70 (lv_at hl 0 rfl) ?_
              refine lv_if_eq (tgt := 80) hx hb dX7_readTest_72 (by decide) (fun c_161 => ?_) (fun c_161 => ?_)
              · skip
                exfalso
                have z_1 := Int32.lt_iff_toInt_lt.mp (Int32.not_le.mp c_50)
                have z_2 : ¬ (r_70 : Int32).toInt = (0 : Int32).toInt := fun z => c_75 (Int32.toInt_inj.mp z)
                have z_3 : ¬ (r_82 : Int32).toInt = (0 : Int32).toInt := fun z => c_87 (Int32.toInt_inj.mp z)
                have z_4 := congrArg Int32.toInt c_133
                have z_5 := congrArg Int32.toInt c_161
                have y_0 : (0 : Int32).toInt = 0 := by decide
                have y_400 : (400 : Int32).toInt = 400 := by decide
                omega
              · skip
                refine lv_iconst (v := 1) hx hb dX7_readTest_75 (by decide) ?_
                refine lv_istore_n (lv' := [(3, .int 1), (5, .int r_82), (4, .int vy_27), (0, .ref (Va 0)), (1, .ref (Ta 0)), (2, .int 7)]) hx hb dX7_readTest_76 rfl hl (by decide) rfl (fun ls hl₀ => ?_)
                replace hl := hl₀
                clear hl₀
                refine lv_goto (tgt := 86) hx hb dX7_readTest_77 (by decide) ?_
                obtain ⟨x_162, ex_162⟩ : ∃ y : Int32, y = vy_27 + 1 := ⟨_, rfl⟩
                refine lv_iinc (v := x_162) (lv' := [(4, .int x_162), (3, .int 1), (5, .int r_82), (0, .ref (Va 0)), (1, .ref (Ta 0)), (2, .int 7)]) hx hb dX7_readTest_86 hl (k := 2) rfl (by rw [ex_162]; rfl) (by decide) rfl (fun ls hl₀ => ?_)
                replace hl := hl₀
                clear hl₀
                refine lv_goto (tgt := 11) hx hb dX7_readTest_89 (by decide) ?_
                have hb_163 : 401 - (x_162 : Int32).toInt < 401 - (vy_27 : Int32).toInt ∧ 1 ≤ 401 - (vy_27 : Int32).toInt := by
                  have z_1 := Int32.lt_iff_toInt_lt.mp (Int32.not_le.mp c_50)
                  have z_2 : ¬ (r_70 : Int32).toInt = (0 : Int32).toInt := fun z => c_75 (Int32.toInt_inj.mp z)
                  have z_3 : ¬ (r_82 : Int32).toInt = (0 : Int32).toInt := fun z => c_87 (Int32.toInt_inj.mp z)
                  have z_4 := congrArg Int32.toInt c_133
                  have z_5 : ¬ (r_82 : Int32).toInt = (0 : Int32).toInt := fun z => c_161 (Int32.toInt_inj.mp z)
                  have y_0 : (0 : Int32).toInt = 0 := by decide
                  have y_400 : (400 : Int32).toInt = 400 := by decide
                  have y_1 : (1 : Int32).toInt = 1 := by decide
                  have t_x_162 : x_162.toInt = (vy_27 : Int32).toInt + (1 : Int32).toInt := by rw [ex_162]; exact add_toInt (by omega) (by omega)
                  omega
                have ha_164 : 0 ≤ (x_162 : Int32).toInt ∧ (x_162 : Int32).toInt ≤ 400 := by
                  have z_1 := Int32.lt_iff_toInt_lt.mp (Int32.not_le.mp c_50)
                  have z_2 : ¬ (r_70 : Int32).toInt = (0 : Int32).toInt := fun z => c_75 (Int32.toInt_inj.mp z)
                  have z_3 : ¬ (r_82 : Int32).toInt = (0 : Int32).toInt := fun z => c_87 (Int32.toInt_inj.mp z)
                  have z_4 := congrArg Int32.toInt c_133
                  have z_5 : ¬ (r_82 : Int32).toInt = (0 : Int32).toInt := fun z => c_161 (Int32.toInt_inj.mp z)
                  have y_0 : (0 : Int32).toInt = 0 := by decide
                  have y_400 : (400 : Int32).toInt = 400 := by decide
                  have y_1 : (1 : Int32).toInt = 1 := by decide
                  have t_x_162 : x_162.toInt = (vy_27 : Int32).toInt + (1 : Int32).toInt := by rw [ex_162]; exact add_toInt (by omega) (by omega)
                  omega
                have hu_165 : TpR (Tf 1) (Tv 0) (pz_b (rNX (cB (Tf 1) (Tv 0)) rq_44) (pz_fact (cB (Tf 1) (Tv 0)) 3)) sv_151 sv_152 sv_153 sv_154 := by
                  rw [← ero_142, ← ero_159]
                  exact pf_157
                have hu_166 : Ctd (pz_b (rNX (cB (Tf 1) (Tv 0)) rq_44) (pz_fact (cB (Tf 1) (Tv 0)) 3)) sv_149 := by
                  rw [← ero_142, ← ero_159]
                  exact pf_158
                have hw_167 : TWd (cB (Tf 1) (Tv 0)) pz_and rq_44 := by
                  rw [← wS5]
                  exact pf_76
                have hi_168 : (x_162 : Int32).toInt = (vy_27 : Int32).toInt + 1 := by
                  have z_1 := Int32.lt_iff_toInt_lt.mp (Int32.not_le.mp c_50)
                  have z_2 : ¬ (r_70 : Int32).toInt = (0 : Int32).toInt := fun z => c_75 (Int32.toInt_inj.mp z)
                  have z_3 : ¬ (r_82 : Int32).toInt = (0 : Int32).toInt := fun z => c_87 (Int32.toInt_inj.mp z)
                  have z_4 := congrArg Int32.toInt c_133
                  have z_5 : ¬ (r_82 : Int32).toInt = (0 : Int32).toInt := fun z => c_161 (Int32.toInt_inj.mp z)
                  have y_0 : (0 : Int32).toInt = 0 := by decide
                  have y_400 : (400 : Int32).toInt = 400 := by decide
                  have y_1 : (1 : Int32).toInt = 1 := by decide
                  have t_x_162 : x_162.toInt = (vy_27 : Int32).toInt + (1 : Int32).toInt := by rw [ex_162]; exact add_toInt (by omega) (by omega)
                  omega
                exact ih_37 x_162 sv_148 sv_149 sv_150 sv_151 sv_152 sv_153 sv_154 1 _ _ _ (by omega) ha_164 pf_155 pf_156 (TeL.next h_tape.2.1 pf_47 pf_48 (Or.inl hw_167) hu_165 hu_166 hi_168) (hP.sub [0, 1, 2, 3] rfl) (hD.sub [0, 1, 2, 3] rfl rfl) hS (lv_sub hl [0, 1, 3, 4, 5] rfl)
            · skip
              refine lv_aload_n hx hb dX7_readTest_54 rfl (lv_at hl 3 rfl) ?_
              refine lv_bipush (v := (-6)) hx hb dX7_readTest_55 (by decide) ?_
              refine cV (a := (Va 0)) (As := [.int (-6)]) (rest := []) (wr := [((Ta 0), .inr (10, [.ref (Ta 1), .int (Tv 0), .int vy_31, .int vy_32, .int vy_33, .int vy_34])), ((Ta 1), .inl (tc 0, 400, .inl (Tf 1)))]) ⟨hx, hb, hml, hown, hts⟩ hK hX hA (cu_fX7_put l D tc sk (Va 0) (Va 1) vy_28 vy_29 vy_30 (-6) pf_41) k_642 k_639 k_641 k_10 k_99 pl_X7_put ⟨Nat.le_of_ble_eq_true rfl, Nat.le_of_ble_eq_true rfl⟩ rfl rfl (va_recv hK hP (ci := 7) (q0 := 0) rfl rfl) hP hD hS [0, 1] [2, 3] rfl rfl rfl rfl rfl (by decide) rfl hl.1 rfl (Nat.le_of_ble_eq_true rfl) dX7_readTest_57 ⟨Nat.le_of_ble_eq_true rfl, Nat.le_of_ble_eq_true rfl⟩ (fun v_169 u_170 H locs hv_171 hP₀ hD₀ hS₀ => ?_)
              obtain ⟨sv_172, sv_173⟩ := u_170
              obtain ⟨rfl, pf_174⟩ := hv_171
              have pf_174 : 0 ≤ (sv_172 : Int32).toInt ∧ (sv_172 : Int32).toInt ≤ 400 := pf_174
              refine W.eq (g2 := F0 m 60 ls []) rfl ?_
              replace hP : va_P D classes [((Ta 0), .inr (10, [.ref (Ta 1), .int (Tv 0), .int vy_31, .int vy_32, .int vy_33, .int vy_34])), ((Ta 1), .inl (tc 0, 400, .inl (Tf 1))), ((Va 0), .inr (7, [.ref (Va 1), .int sv_172, .int vy_29])), ((Va 1), .inl (tc 0, 400, .inl sv_173))] H := hP₀
              replace hD : va_D A [((Ta 0), .inr (10, [.ref (Ta 1), .int (Tv 0), .int vy_31, .int vy_32, .int vy_33, .int vy_34])), ((Ta 1), .inl (tc 0, 400, .inl (Tf 1))), ((Va 0), .inr (7, [.ref (Va 1), .int sv_172, .int vy_29])), ((Va 1), .inl (tc 0, 400, .inl sv_173))] := hD₀
              replace hS := hS₀
              clear hP₀ hD₀ hS₀
              refine lv_aload_n hx hb dX7_readTest_60 rfl (lv_at hl 4 rfl) ?_
              refine cV (a := (Ta 0)) (As := []) (rest := []) (wr := [((Va 0), .inr (7, [.ref (Va 1), .int sv_172, .int vy_29])), ((Va 1), .inl (tc 0, 400, .inl sv_173))]) ⟨hx, hb, hml, hown, hts⟩ hK hX hA (cu_fX10_step l D tc sk (Ta 0) (Ta 1) (Tv 0) vy_31 vy_32 vy_33 vy_34 (Tf 1) (rTE (cB (Tf 1) (Tv 0)) rq_44) pf_40 h_by tb_49) k_478 k_620 k_476 k_477 k_96 pl_X10_step ⟨Nat.le_of_ble_eq_true rfl, Nat.le_of_ble_eq_true rfl⟩ rfl rfl (va_recv hK hP (ci := 10) (q0 := 0) rfl rfl) hP hD hS [0, 1] [2, 3] rfl rfl rfl rfl rfl (by decide) rfl hl.1 rfl (Nat.le_of_ble_eq_true rfl) dX7_readTest_61 ⟨Nat.le_of_ble_eq_true rfl, Nat.le_of_ble_eq_true rfl⟩ (fun v_175 u_176 H locs hv_177 hP₀ hD₀ hS₀ => ?_)
              obtain ⟨sv_178, sv_179, sv_180⟩ := u_176
              obtain ⟨rfl, pf_181, pf_182⟩ := hv_177
              have pf_181 : 0 ≤ ((Tv 0) : Int32).toInt ∧ ((Tv 0) : Int32).toInt ≤ 400 ∧ 0 ≤ (sv_178 : Int32).toInt ∧ (sv_178 : Int32).toInt ≤ 400 ∧ 0 ≤ (sv_179 : Int32).toInt ∧ (sv_179 : Int32).toInt ≤ 400 := pf_181
              have pf_182 : TpR (Tf 1) (Tv 0) (rSK (cB (Tf 1) (Tv 0)) (rTE (cB (Tf 1) (Tv 0)) rq_44)) sv_178 sv_179 sv_180 vy_34 := pf_182
              rw [rNX_eq] at pf_182
              obtain ⟨ro_183, ero_183⟩ : ∃ z : Except Int (Nat × Nat), z = (rNX (cB (Tf 1) (Tv 0)) rq_44) := ⟨_, rfl⟩
              rw [← ero_183] at pf_182
              have tb_184 : TpB (rTE (cB (Tf 1) (Tv 0)) ro_183) sv_179 vy_34 := TpR.tb pf_182
              have cd_185 : Ctd ro_183 vy_29 := by rw [ero_183]; exact (Ctd.nx pf_46)
              refine W.eq (g2 := F0 m 64 ls []) rfl ?_
              replace hP : va_P D classes [((Va 0), .inr (7, [.ref (Va 1), .int sv_172, .int vy_29])), ((Va 1), .inl (tc 0, 400, .inl sv_173)), ((Ta 0), .inr (10, [.ref (Ta 1), .int (Tv 0), .int sv_178, .int sv_179, .int sv_180, .int vy_34])), ((Ta 1), .inl (tc 0, 400, .inl (Tf 1)))] H := hP₀
              replace hD : va_D A [((Va 0), .inr (7, [.ref (Va 1), .int sv_172, .int vy_29])), ((Va 1), .inl (tc 0, 400, .inl sv_173)), ((Ta 0), .inr (10, [.ref (Ta 1), .int (Tv 0), .int sv_178, .int sv_179, .int sv_180, .int vy_34])), ((Ta 1), .inl (tc 0, 400, .inl (Tf 1)))] := hD₀
              replace hS := hS₀
              clear hP₀ hD₀ hS₀
              refine lv_aload_n hx hb dX7_readTest_64 rfl (lv_at hl 3 rfl) ?_
              refine lv_aload_n hx hb dX7_readTest_65 rfl (lv_at hl 4 rfl) ?_
              refine lv_iload_n hx hb dX7_readTest_66 rfl (lv_at hl 5 rfl) ?_
              refine cV (a := (Va 0)) (As := [.ref (Ta 0), .int 7]) (rest := []) (wr := []) ⟨hx, hb, hml, hown, hts⟩ hK hX hA (cu_fX7_readFact_7 l D tc sk (Va 0) (Va 1) sv_172 vy_29 sv_173 (Ta 0) (Ta 1) (Tv 0) sv_178 sv_179 sv_180 vy_34 (Tf 1) ro_183 pf_181 pf_174 h_by pf_182 cd_185) k_659 k_656 k_658 k_12 k_99 pl_X7_readFact ⟨Nat.le_of_ble_eq_true rfl, Nat.le_of_ble_eq_true rfl⟩ rfl rfl (va_recv hK hP (ci := 7) (q0 := 0) rfl rfl) hP hD hS [0, 1, 2, 3] [] rfl rfl rfl rfl rfl (by decide) rfl hl.1 rfl (Nat.le_of_ble_eq_true rfl) dX7_readTest_67 ⟨Nat.le_of_ble_eq_true rfl, Nat.le_of_ble_eq_true rfl⟩ (fun v_186 u_187 H locs hv_188 hP₀ hD₀ hS₀ => ?_)
              obtain ⟨sv_189, sv_190, sv_191, sv_192, sv_193, sv_194, sv_195⟩ := u_187
              obtain ⟨rfl, pf_196, pf_197, pf_198, pf_199⟩ := hv_188
              have pf_196 : 0 ≤ ((Tv 0) : Int32).toInt ∧ ((Tv 0) : Int32).toInt ≤ 400 ∧ 0 ≤ (sv_192 : Int32).toInt ∧ (sv_192 : Int32).toInt ≤ 400 ∧ 0 ≤ (sv_193 : Int32).toInt ∧ (sv_193 : Int32).toInt ≤ 400 := pf_196
              have pf_197 : 0 ≤ (sv_189 : Int32).toInt ∧ (sv_189 : Int32).toInt ≤ 400 := pf_197
              have pf_198 : TpR (Tf 1) (Tv 0) (pz_b ro_183 (pz_fact (cB (Tf 1) (Tv 0)) 3)) sv_192 sv_193 sv_194 sv_195 := pf_198
              obtain ⟨ro_200, ero_200⟩ : ∃ z : Except Int (Nat × Nat), z = (pz_b ro_183 (pz_fact (cB (Tf 1) (Tv 0)) 3)) := ⟨_, rfl⟩
              rw [← ero_200] at pf_198
              have tb_201 : TpB (rTE (cB (Tf 1) (Tv 0)) ro_200) sv_193 sv_195 := TpR.tb pf_198
              have pf_199 : Ctd (pz_b ro_183 (pz_fact (cB (Tf 1) (Tv 0)) 3)) sv_190 := pf_199
              rw [← ero_200] at pf_199
              refine W.eq (g2 := F0 m 70 ls []) rfl ?_
              replace hP : va_P D classes [((Va 0), .inr (7, [.ref (Va 1), .int sv_189, .int sv_190])), ((Va 1), .inl (tc 0, 400, .inl sv_191)), ((Ta 0), .inr (10, [.ref (Ta 1), .int (Tv 0), .int sv_192, .int sv_193, .int sv_194, .int sv_195])), ((Ta 1), .inl (tc 0, 400, .inl (Tf 1)))] H := hP₀
              replace hD : va_D A [((Va 0), .inr (7, [.ref (Va 1), .int sv_189, .int sv_190])), ((Va 1), .inl (tc 0, 400, .inl sv_191)), ((Ta 0), .inr (10, [.ref (Ta 1), .int (Tv 0), .int sv_192, .int sv_193, .int sv_194, .int sv_195])), ((Ta 1), .inl (tc 0, 400, .inl (Tf 1)))] := hD₀
              replace hS := hS₀
              clear hP₀ hD₀ hS₀
              refine lv_iload hx hb dX7_readTest_70 (lv_at hl 0 rfl) ?_
              refine lv_if_eq (tgt := 80) hx hb dX7_readTest_72 (by decide) (fun c_202 => ?_) (fun c_202 => ?_)
              · skip
                exfalso
                have z_1 := Int32.lt_iff_toInt_lt.mp (Int32.not_le.mp c_50)
                have z_2 : ¬ (r_70 : Int32).toInt = (0 : Int32).toInt := fun z => c_75 (Int32.toInt_inj.mp z)
                have z_3 : ¬ (r_82 : Int32).toInt = (0 : Int32).toInt := fun z => c_87 (Int32.toInt_inj.mp z)
                have z_4 : ¬ (vy_35 : Int32).toInt = (0 : Int32).toInt := fun z => c_133 (Int32.toInt_inj.mp z)
                have z_5 := congrArg Int32.toInt c_202
                have y_0 : (0 : Int32).toInt = 0 := by decide
                have y_400 : (400 : Int32).toInt = 400 := by decide
                omega
              · skip
                refine lv_iconst (v := 1) hx hb dX7_readTest_75 (by decide) ?_
                refine lv_istore_n (lv' := [(3, .int 1), (5, .int r_82), (4, .int vy_27), (0, .ref (Va 0)), (1, .ref (Ta 0)), (2, .int 7)]) hx hb dX7_readTest_76 rfl hl (by decide) rfl (fun ls hl₀ => ?_)
                replace hl := hl₀
                clear hl₀
                refine lv_goto (tgt := 86) hx hb dX7_readTest_77 (by decide) ?_
                obtain ⟨x_203, ex_203⟩ : ∃ y : Int32, y = vy_27 + 1 := ⟨_, rfl⟩
                refine lv_iinc (v := x_203) (lv' := [(4, .int x_203), (3, .int 1), (5, .int r_82), (0, .ref (Va 0)), (1, .ref (Ta 0)), (2, .int 7)]) hx hb dX7_readTest_86 hl (k := 2) rfl (by rw [ex_203]; rfl) (by decide) rfl (fun ls hl₀ => ?_)
                replace hl := hl₀
                clear hl₀
                refine lv_goto (tgt := 11) hx hb dX7_readTest_89 (by decide) ?_
                have hb_204 : 401 - (x_203 : Int32).toInt < 401 - (vy_27 : Int32).toInt ∧ 1 ≤ 401 - (vy_27 : Int32).toInt := by
                  have z_1 := Int32.lt_iff_toInt_lt.mp (Int32.not_le.mp c_50)
                  have z_2 : ¬ (r_70 : Int32).toInt = (0 : Int32).toInt := fun z => c_75 (Int32.toInt_inj.mp z)
                  have z_3 : ¬ (r_82 : Int32).toInt = (0 : Int32).toInt := fun z => c_87 (Int32.toInt_inj.mp z)
                  have z_4 : ¬ (vy_35 : Int32).toInt = (0 : Int32).toInt := fun z => c_133 (Int32.toInt_inj.mp z)
                  have z_5 : ¬ (r_82 : Int32).toInt = (0 : Int32).toInt := fun z => c_202 (Int32.toInt_inj.mp z)
                  have y_0 : (0 : Int32).toInt = 0 := by decide
                  have y_400 : (400 : Int32).toInt = 400 := by decide
                  have y_1 : (1 : Int32).toInt = 1 := by decide
                  have t_x_203 : x_203.toInt = (vy_27 : Int32).toInt + (1 : Int32).toInt := by rw [ex_203]; exact add_toInt (by omega) (by omega)
                  omega
                have ha_205 : 0 ≤ (x_203 : Int32).toInt ∧ (x_203 : Int32).toInt ≤ 400 := by
                  have z_1 := Int32.lt_iff_toInt_lt.mp (Int32.not_le.mp c_50)
                  have z_2 : ¬ (r_70 : Int32).toInt = (0 : Int32).toInt := fun z => c_75 (Int32.toInt_inj.mp z)
                  have z_3 : ¬ (r_82 : Int32).toInt = (0 : Int32).toInt := fun z => c_87 (Int32.toInt_inj.mp z)
                  have z_4 : ¬ (vy_35 : Int32).toInt = (0 : Int32).toInt := fun z => c_133 (Int32.toInt_inj.mp z)
                  have z_5 : ¬ (r_82 : Int32).toInt = (0 : Int32).toInt := fun z => c_202 (Int32.toInt_inj.mp z)
                  have y_0 : (0 : Int32).toInt = 0 := by decide
                  have y_400 : (400 : Int32).toInt = 400 := by decide
                  have y_1 : (1 : Int32).toInt = 1 := by decide
                  have t_x_203 : x_203.toInt = (vy_27 : Int32).toInt + (1 : Int32).toInt := by rw [ex_203]; exact add_toInt (by omega) (by omega)
                  omega
                have hu_206 : TpR (Tf 1) (Tv 0) (pz_b (rNX (cB (Tf 1) (Tv 0)) rq_44) (pz_fact (cB (Tf 1) (Tv 0)) 3)) sv_192 sv_193 sv_194 sv_195 := by
                  rw [← ero_183, ← ero_200]
                  exact pf_198
                have hu_207 : Ctd (pz_b (rNX (cB (Tf 1) (Tv 0)) rq_44) (pz_fact (cB (Tf 1) (Tv 0)) 3)) sv_190 := by
                  rw [← ero_183, ← ero_200]
                  exact pf_199
                have hw_208 : TWd (cB (Tf 1) (Tv 0)) pz_and rq_44 := by
                  rw [← wS5]
                  exact pf_76
                have hi_209 : (x_203 : Int32).toInt = (vy_27 : Int32).toInt + 1 := by
                  have z_1 := Int32.lt_iff_toInt_lt.mp (Int32.not_le.mp c_50)
                  have z_2 : ¬ (r_70 : Int32).toInt = (0 : Int32).toInt := fun z => c_75 (Int32.toInt_inj.mp z)
                  have z_3 : ¬ (r_82 : Int32).toInt = (0 : Int32).toInt := fun z => c_87 (Int32.toInt_inj.mp z)
                  have z_4 : ¬ (vy_35 : Int32).toInt = (0 : Int32).toInt := fun z => c_133 (Int32.toInt_inj.mp z)
                  have z_5 : ¬ (r_82 : Int32).toInt = (0 : Int32).toInt := fun z => c_202 (Int32.toInt_inj.mp z)
                  have y_0 : (0 : Int32).toInt = 0 := by decide
                  have y_400 : (400 : Int32).toInt = 400 := by decide
                  have y_1 : (1 : Int32).toInt = 1 := by decide
                  have t_x_203 : x_203.toInt = (vy_27 : Int32).toInt + (1 : Int32).toInt := by rw [ex_203]; exact add_toInt (by omega) (by omega)
                  omega
                exact ih_37 x_203 sv_189 sv_190 sv_191 sv_192 sv_193 sv_194 sv_195 1 _ _ _ (by omega) ha_205 pf_196 pf_197 (TeL.next h_tape.2.1 pf_47 pf_48 (Or.inl hw_208) hu_206 hu_207 hi_209) (hP.sub [0, 1, 2, 3] rfl) (hD.sub [0, 1, 2, 3] rfl rfl) hS (lv_sub hl [0, 1, 3, 4, 5] rfl)
        · skip
          have hz_211 : (r_70 : Int32).toInt = 0 := by
            have z_1 := Int32.lt_iff_toInt_lt.mp (Int32.not_le.mp c_50)
            have z_2 := congrArg Int32.toInt c_75
            have y_0 : (0 : Int32).toInt = 0 := by decide
            have y_400 : (400 : Int32).toInt = 400 := by decide
            omega
          obtain pf_210 := hm_74 hz_211
          have pf_210 : NWd (cB (Tf 1) (Tv 0)) (wS (5 : Nat)) rq_44 := pf_210
          refine lv_aload_n hx hb dX7_readTest_28 rfl (lv_at hl 3 rfl) ?_
          refine va_ldcS hx hb hown (sx_6 hX) dX7_readTest_29 ?_
          have ha_212 : (6 : Nat) < 7 := by
            have z_1 := Int32.lt_iff_toInt_lt.mp (Int32.not_le.mp c_50)
            have z_2 := congrArg Int32.toInt c_75
            have y_0 : (0 : Int32).toInt = 0 := by decide
            have y_400 : (400 : Int32).toInt = 400 := by decide
            have y_6 : (6 : Int32).toInt = 6 := by decide
            omega
          refine cV (a := (Ta 0)) (As := [.ref (sk.1 6)]) (rest := []) (wr := [((Va 0), .inr (7, [.ref (Va 1), .int vy_28, .int vy_29])), ((Va 1), .inl (tc 0, 400, .inl vy_30))]) ⟨hx, hb, hml, hown, hts⟩ hK hX hA (cu_fX10_isWord l D tc sk (Ta 0) (Ta 1) (Tv 0) vy_31 vy_32 vy_33 vy_34 (Tf 1) 6 rq_44 ha_212 pf_40 h_by pf_45) k_618 k_615 k_616 k_617 k_96 pl_X10_isWord ⟨Nat.le_of_ble_eq_true rfl, Nat.le_of_ble_eq_true rfl⟩ rfl rfl (va_recv hK hP (ci := 10) (q0 := 2) rfl rfl) hP hD hS [2, 3] [0, 1] rfl rfl rfl rfl rfl (by decide) rfl hl.1 rfl (Nat.le_of_ble_eq_true rfl) dX7_readTest_31 ⟨Nat.le_of_ble_eq_true rfl, Nat.le_of_ble_eq_true rfl⟩ (fun v_213 u_214 H locs hv_215 hP₀ hD₀ hS₀ => ?_)
          obtain ⟨r_216, rfl, he_217, hm_219, hm_220⟩ := hv_215
          have he_217 : (r_216.toInt = 0 ∨ r_216.toInt = 1) := he_217
          refine W.eq (g2 := F0 m 34 ls [.int r_216]) rfl ?_
          replace hP : va_P D classes [((Va 0), .inr (7, [.ref (Va 1), .int vy_28, .int vy_29])), ((Va 1), .inl (tc 0, 400, .inl vy_30)), ((Ta 0), .inr (10, [.ref (Ta 1), .int (Tv 0), .int vy_31, .int vy_32, .int vy_33, .int vy_34])), ((Ta 1), .inl (tc 0, 400, .inl (Tf 1)))] H := hP₀
          replace hD : va_D A [((Va 0), .inr (7, [.ref (Va 1), .int vy_28, .int vy_29])), ((Va 1), .inl (tc 0, 400, .inl vy_30)), ((Ta 0), .inr (10, [.ref (Ta 1), .int (Tv 0), .int vy_31, .int vy_32, .int vy_33, .int vy_34])), ((Ta 1), .inl (tc 0, 400, .inl (Tf 1)))] := hD₀
          replace hS := hS₀
          clear hP₀ hD₀ hS₀
          refine lv_if_eq (tgt := 92) hx hb dX7_readTest_34 (by decide) (fun c_221 => ?_) (fun c_221 => ?_)
          · skip
            have hz_223 : (r_216 : Int32).toInt = 0 := by
              have z_1 := Int32.lt_iff_toInt_lt.mp (Int32.not_le.mp c_50)
              have z_2 := congrArg Int32.toInt c_75
              have z_3 := congrArg Int32.toInt c_221
              have y_0 : (0 : Int32).toInt = 0 := by decide
              have y_400 : (400 : Int32).toInt = 400 := by decide
              omega
            obtain pf_222 := hm_220 hz_223
            have pf_222 : NWd (cB (Tf 1) (Tv 0)) (wS (6 : Nat)) rq_44 := pf_222
            refine lv_iload_n hx hb dX7_readTest_92 rfl (lv_at hl 1 rfl) ?_
            refine lv_if_eq (tgt := 102) hx hb dX7_readTest_93 (by decide) (fun c_224 => ?_) (fun c_224 => ?_)
            · skip
              have hf_225 : TpR (Tf 1) (Tv 0) (pz_b rr (pz_tst (cB (Tf 1) (Tv 0)) (pz_fact (cB (Tf 1) (Tv 0)) 3))) vy_31 vy_32 vy_33 vy_34 := by
                have hw_226 : NWd (cB (Tf 1) (Tv 0)) pz_and rq_44 := by
                  rw [← wS5]
                  exact pf_210
                have hw_227 : NWd (cB (Tf 1) (Tv 0)) pz_or rq_44 := by
                  rw [← wS6]
                  exact pf_222
                rw [pf_47, tst_end h_tape.2.1 pf_48 (Or.inr ⟨hw_226, hw_227⟩)]
                exact pf_45
              have hf_228 : Ctd (pz_b rr (pz_tst (cB (Tf 1) (Tv 0)) (pz_fact (cB (Tf 1) (Tv 0)) 3))) vy_29 := by
                have hw_229 : NWd (cB (Tf 1) (Tv 0)) pz_and rq_44 := by
                  rw [← wS5]
                  exact pf_210
                have hw_230 : NWd (cB (Tf 1) (Tv 0)) pz_or rq_44 := by
                  rw [← wS6]
                  exact pf_222
                rw [pf_47, tst_end h_tape.2.1 pf_48 (Or.inr ⟨hw_229, hw_230⟩)]
                exact pf_46
              exact retV hx hb hr hlk hP hD hS (vy_28, vy_29, vy_30, vy_31, vy_32, vy_33, vy_34) ⟨rfl, pf_40, pf_41, hf_225, hf_228⟩ [0, 1, 2, 3] rfl rfl dX7_readTest_102 (Nat.le_of_ble_eq_true rfl) (Nat.le_of_ble_eq_true rfl) rfl
            · skip
              refine lv_aload_n hx hb dX7_readTest_96 rfl (lv_at hl 2 rfl) ?_
              refine lv_bipush (v := (-6)) hx hb dX7_readTest_97 (by decide) ?_
              refine cV (a := (Va 0)) (As := [.int (-6)]) (rest := []) (wr := [((Ta 0), .inr (10, [.ref (Ta 1), .int (Tv 0), .int vy_31, .int vy_32, .int vy_33, .int vy_34])), ((Ta 1), .inl (tc 0, 400, .inl (Tf 1)))]) ⟨hx, hb, hml, hown, hts⟩ hK hX hA (cu_fX7_put l D tc sk (Va 0) (Va 1) vy_28 vy_29 vy_30 (-6) pf_41) k_642 k_639 k_641 k_10 k_99 pl_X7_put ⟨Nat.le_of_ble_eq_true rfl, Nat.le_of_ble_eq_true rfl⟩ rfl rfl (va_recv hK hP (ci := 7) (q0 := 0) rfl rfl) hP hD hS [0, 1] [2, 3] rfl rfl rfl rfl rfl (by decide) rfl hl.1 rfl (Nat.le_of_ble_eq_true rfl) dX7_readTest_99 ⟨Nat.le_of_ble_eq_true rfl, Nat.le_of_ble_eq_true rfl⟩ (fun v_231 u_232 H locs hv_233 hP₀ hD₀ hS₀ => ?_)
              obtain ⟨sv_234, sv_235⟩ := u_232
              obtain ⟨rfl, pf_236⟩ := hv_233
              have pf_236 : 0 ≤ (sv_234 : Int32).toInt ∧ (sv_234 : Int32).toInt ≤ 400 := pf_236
              refine W.eq (g2 := F0 m 102 ls []) rfl ?_
              replace hP : va_P D classes [((Ta 0), .inr (10, [.ref (Ta 1), .int (Tv 0), .int vy_31, .int vy_32, .int vy_33, .int vy_34])), ((Ta 1), .inl (tc 0, 400, .inl (Tf 1))), ((Va 0), .inr (7, [.ref (Va 1), .int sv_234, .int vy_29])), ((Va 1), .inl (tc 0, 400, .inl sv_235))] H := hP₀
              replace hD : va_D A [((Ta 0), .inr (10, [.ref (Ta 1), .int (Tv 0), .int vy_31, .int vy_32, .int vy_33, .int vy_34])), ((Ta 1), .inl (tc 0, 400, .inl (Tf 1))), ((Va 0), .inr (7, [.ref (Va 1), .int sv_234, .int vy_29])), ((Va 1), .inl (tc 0, 400, .inl sv_235))] := hD₀
              replace hS := hS₀
              clear hP₀ hD₀ hS₀
              have hf_237 : TpR (Tf 1) (Tv 0) (pz_b rr (pz_tst (cB (Tf 1) (Tv 0)) (pz_fact (cB (Tf 1) (Tv 0)) 3))) vy_31 vy_32 vy_33 vy_34 := by
                have hw_238 : NWd (cB (Tf 1) (Tv 0)) pz_and rq_44 := by
                  rw [← wS5]
                  exact pf_210
                have hw_239 : NWd (cB (Tf 1) (Tv 0)) pz_or rq_44 := by
                  rw [← wS6]
                  exact pf_222
                rw [pf_47, tst_end h_tape.2.1 pf_48 (Or.inr ⟨hw_238, hw_239⟩)]
                exact pf_45
              have hf_240 : Ctd (pz_b rr (pz_tst (cB (Tf 1) (Tv 0)) (pz_fact (cB (Tf 1) (Tv 0)) 3))) vy_29 := by
                have hw_241 : NWd (cB (Tf 1) (Tv 0)) pz_and rq_44 := by
                  rw [← wS5]
                  exact pf_210
                have hw_242 : NWd (cB (Tf 1) (Tv 0)) pz_or rq_44 := by
                  rw [← wS6]
                  exact pf_222
                rw [pf_47, tst_end h_tape.2.1 pf_48 (Or.inr ⟨hw_241, hw_242⟩)]
                exact pf_46
              exact retV hx hb hr hlk hP hD hS (sv_234, vy_29, sv_235, vy_31, vy_32, vy_33, vy_34) ⟨rfl, pf_40, pf_236, hf_237, hf_240⟩ [2, 3, 0, 1] rfl rfl dX7_readTest_102 (Nat.le_of_ble_eq_true rfl) (Nat.le_of_ble_eq_true rfl) rfl
          · skip
            have hz_244 : (r_216 : Int32).toInt = 1 := by
              have z_1 := Int32.lt_iff_toInt_lt.mp (Int32.not_le.mp c_50)
              have z_2 := congrArg Int32.toInt c_75
              have z_3 : ¬ (r_216 : Int32).toInt = (0 : Int32).toInt := fun z => c_221 (Int32.toInt_inj.mp z)
              have y_0 : (0 : Int32).toInt = 0 := by decide
              have y_400 : (400 : Int32).toInt = 400 := by decide
              omega
            obtain pf_243 := hm_219 hz_244
            have pf_243 : TWd (cB (Tf 1) (Tv 0)) (wS (6 : Nat)) rq_44 := pf_243
            refine lv_aload_n hx hb dX7_readTest_37 rfl (lv_at hl 3 rfl) ?_
            refine va_ldcS hx hb hown (sx_6 hX) dX7_readTest_38 ?_
            have ha_245 : (6 : Nat) < 7 := by
              have z_1 := Int32.lt_iff_toInt_lt.mp (Int32.not_le.mp c_50)
              have z_2 := congrArg Int32.toInt c_75
              have z_3 : ¬ (r_216 : Int32).toInt = (0 : Int32).toInt := fun z => c_221 (Int32.toInt_inj.mp z)
              have y_0 : (0 : Int32).toInt = 0 := by decide
              have y_400 : (400 : Int32).toInt = 400 := by decide
              have y_6 : (6 : Int32).toInt = 6 := by decide
              omega
            refine cV (a := (Ta 0)) (As := [.ref (sk.1 6)]) (rest := []) (wr := [((Va 0), .inr (7, [.ref (Va 1), .int vy_28, .int vy_29])), ((Va 1), .inl (tc 0, 400, .inl vy_30))]) ⟨hx, hb, hml, hown, hts⟩ hK hX hA (cu_fX10_isWord l D tc sk (Ta 0) (Ta 1) (Tv 0) vy_31 vy_32 vy_33 vy_34 (Tf 1) 6 rq_44 ha_245 pf_40 h_by pf_45) k_618 k_615 k_616 k_617 k_96 pl_X10_isWord ⟨Nat.le_of_ble_eq_true rfl, Nat.le_of_ble_eq_true rfl⟩ rfl rfl (va_recv hK hP (ci := 10) (q0 := 2) rfl rfl) hP hD hS [2, 3] [0, 1] rfl rfl rfl rfl rfl (by decide) rfl hl.1 rfl (Nat.le_of_ble_eq_true rfl) dX7_readTest_40 ⟨Nat.le_of_ble_eq_true rfl, Nat.le_of_ble_eq_true rfl⟩ (fun v_246 u_247 H locs hv_248 hP₀ hD₀ hS₀ => ?_)
            obtain ⟨r_249, rfl, he_250, hm_252, hm_253⟩ := hv_248
            have he_250 : (r_249.toInt = 0 ∨ r_249.toInt = 1) := he_250
            refine W.eq (g2 := F0 m 43 ls [.int r_249]) rfl ?_
            replace hP : va_P D classes [((Va 0), .inr (7, [.ref (Va 1), .int vy_28, .int vy_29])), ((Va 1), .inl (tc 0, 400, .inl vy_30)), ((Ta 0), .inr (10, [.ref (Ta 1), .int (Tv 0), .int vy_31, .int vy_32, .int vy_33, .int vy_34])), ((Ta 1), .inl (tc 0, 400, .inl (Tf 1)))] H := hP₀
            replace hD : va_D A [((Va 0), .inr (7, [.ref (Va 1), .int vy_28, .int vy_29])), ((Va 1), .inl (tc 0, 400, .inl vy_30)), ((Ta 0), .inr (10, [.ref (Ta 1), .int (Tv 0), .int vy_31, .int vy_32, .int vy_33, .int vy_34])), ((Ta 1), .inl (tc 0, 400, .inl (Tf 1)))] := hD₀
            replace hS := hS₀
            clear hP₀ hD₀ hS₀
            refine lv_istore (lv' := [(5, .int r_249), (4, .int vy_27), (3, .int vy_35), (0, .ref (Va 0)), (1, .ref (Ta 0)), (2, .int 7)]) hx hb dX7_readTest_43 hl (by decide) rfl (fun ls hl₀ => ?_)
            replace hl := hl₀
            clear hl₀
            refine lv_iload hx hb dX7_readTest_45 (lv_at hl 0 rfl) ?_
            refine lv_if_eq (tgt := 60) hx hb dX7_readTest_47 (by decide) (fun c_254 => ?_) (fun c_254 => ?_)
            · skip
              have hz_256 : (r_249 : Int32).toInt = 0 := by
                have z_1 := Int32.lt_iff_toInt_lt.mp (Int32.not_le.mp c_50)
                have z_2 := congrArg Int32.toInt c_75
                have z_3 : ¬ (r_216 : Int32).toInt = (0 : Int32).toInt := fun z => c_221 (Int32.toInt_inj.mp z)
                have z_4 := congrArg Int32.toInt c_254
                have y_0 : (0 : Int32).toInt = 0 := by decide
                have y_400 : (400 : Int32).toInt = 400 := by decide
                omega
              obtain pf_255 := hm_253 hz_256
              have pf_255 : NWd (cB (Tf 1) (Tv 0)) (wS (6 : Nat)) rq_44 := pf_255
              refine lv_aload_n hx hb dX7_readTest_60 rfl (lv_at hl 4 rfl) ?_
              refine cV (a := (Ta 0)) (As := []) (rest := []) (wr := [((Va 0), .inr (7, [.ref (Va 1), .int vy_28, .int vy_29])), ((Va 1), .inl (tc 0, 400, .inl vy_30))]) ⟨hx, hb, hml, hown, hts⟩ hK hX hA (cu_fX10_step l D tc sk (Ta 0) (Ta 1) (Tv 0) vy_31 vy_32 vy_33 vy_34 (Tf 1) (rTE (cB (Tf 1) (Tv 0)) rq_44) pf_40 h_by tb_49) k_478 k_620 k_476 k_477 k_96 pl_X10_step ⟨Nat.le_of_ble_eq_true rfl, Nat.le_of_ble_eq_true rfl⟩ rfl rfl (va_recv hK hP (ci := 10) (q0 := 2) rfl rfl) hP hD hS [2, 3] [0, 1] rfl rfl rfl rfl rfl (by decide) rfl hl.1 rfl (Nat.le_of_ble_eq_true rfl) dX7_readTest_61 ⟨Nat.le_of_ble_eq_true rfl, Nat.le_of_ble_eq_true rfl⟩ (fun v_257 u_258 H locs hv_259 hP₀ hD₀ hS₀ => ?_)
              obtain ⟨sv_260, sv_261, sv_262⟩ := u_258
              obtain ⟨rfl, pf_263, pf_264⟩ := hv_259
              have pf_263 : 0 ≤ ((Tv 0) : Int32).toInt ∧ ((Tv 0) : Int32).toInt ≤ 400 ∧ 0 ≤ (sv_260 : Int32).toInt ∧ (sv_260 : Int32).toInt ≤ 400 ∧ 0 ≤ (sv_261 : Int32).toInt ∧ (sv_261 : Int32).toInt ≤ 400 := pf_263
              have pf_264 : TpR (Tf 1) (Tv 0) (rSK (cB (Tf 1) (Tv 0)) (rTE (cB (Tf 1) (Tv 0)) rq_44)) sv_260 sv_261 sv_262 vy_34 := pf_264
              rw [rNX_eq] at pf_264
              obtain ⟨ro_265, ero_265⟩ : ∃ z : Except Int (Nat × Nat), z = (rNX (cB (Tf 1) (Tv 0)) rq_44) := ⟨_, rfl⟩
              rw [← ero_265] at pf_264
              have tb_266 : TpB (rTE (cB (Tf 1) (Tv 0)) ro_265) sv_261 vy_34 := TpR.tb pf_264
              have cd_267 : Ctd ro_265 vy_29 := by rw [ero_265]; exact (Ctd.nx pf_46)
              refine W.eq (g2 := F0 m 64 ls []) rfl ?_
              replace hP : va_P D classes [((Va 0), .inr (7, [.ref (Va 1), .int vy_28, .int vy_29])), ((Va 1), .inl (tc 0, 400, .inl vy_30)), ((Ta 0), .inr (10, [.ref (Ta 1), .int (Tv 0), .int sv_260, .int sv_261, .int sv_262, .int vy_34])), ((Ta 1), .inl (tc 0, 400, .inl (Tf 1)))] H := hP₀
              replace hD : va_D A [((Va 0), .inr (7, [.ref (Va 1), .int vy_28, .int vy_29])), ((Va 1), .inl (tc 0, 400, .inl vy_30)), ((Ta 0), .inr (10, [.ref (Ta 1), .int (Tv 0), .int sv_260, .int sv_261, .int sv_262, .int vy_34])), ((Ta 1), .inl (tc 0, 400, .inl (Tf 1)))] := hD₀
              replace hS := hS₀
              clear hP₀ hD₀ hS₀
              refine lv_aload_n hx hb dX7_readTest_64 rfl (lv_at hl 3 rfl) ?_
              refine lv_aload_n hx hb dX7_readTest_65 rfl (lv_at hl 4 rfl) ?_
              refine lv_iload_n hx hb dX7_readTest_66 rfl (lv_at hl 5 rfl) ?_
              refine cV (a := (Va 0)) (As := [.ref (Ta 0), .int 7]) (rest := []) (wr := []) ⟨hx, hb, hml, hown, hts⟩ hK hX hA (cu_fX7_readFact_7 l D tc sk (Va 0) (Va 1) vy_28 vy_29 vy_30 (Ta 0) (Ta 1) (Tv 0) sv_260 sv_261 sv_262 vy_34 (Tf 1) ro_265 pf_263 pf_41 h_by pf_264 cd_267) k_659 k_656 k_658 k_12 k_99 pl_X7_readFact ⟨Nat.le_of_ble_eq_true rfl, Nat.le_of_ble_eq_true rfl⟩ rfl rfl (va_recv hK hP (ci := 7) (q0 := 0) rfl rfl) hP hD hS [0, 1, 2, 3] [] rfl rfl rfl rfl rfl (by decide) rfl hl.1 rfl (Nat.le_of_ble_eq_true rfl) dX7_readTest_67 ⟨Nat.le_of_ble_eq_true rfl, Nat.le_of_ble_eq_true rfl⟩ (fun v_268 u_269 H locs hv_270 hP₀ hD₀ hS₀ => ?_)
              obtain ⟨sv_271, sv_272, sv_273, sv_274, sv_275, sv_276, sv_277⟩ := u_269
              obtain ⟨rfl, pf_278, pf_279, pf_280, pf_281⟩ := hv_270
              have pf_278 : 0 ≤ ((Tv 0) : Int32).toInt ∧ ((Tv 0) : Int32).toInt ≤ 400 ∧ 0 ≤ (sv_274 : Int32).toInt ∧ (sv_274 : Int32).toInt ≤ 400 ∧ 0 ≤ (sv_275 : Int32).toInt ∧ (sv_275 : Int32).toInt ≤ 400 := pf_278
              have pf_279 : 0 ≤ (sv_271 : Int32).toInt ∧ (sv_271 : Int32).toInt ≤ 400 := pf_279
              have pf_280 : TpR (Tf 1) (Tv 0) (pz_b ro_265 (pz_fact (cB (Tf 1) (Tv 0)) 3)) sv_274 sv_275 sv_276 sv_277 := pf_280
              obtain ⟨ro_282, ero_282⟩ : ∃ z : Except Int (Nat × Nat), z = (pz_b ro_265 (pz_fact (cB (Tf 1) (Tv 0)) 3)) := ⟨_, rfl⟩
              rw [← ero_282] at pf_280
              have tb_283 : TpB (rTE (cB (Tf 1) (Tv 0)) ro_282) sv_275 sv_277 := TpR.tb pf_280
              have pf_281 : Ctd (pz_b ro_265 (pz_fact (cB (Tf 1) (Tv 0)) 3)) sv_272 := pf_281
              rw [← ero_282] at pf_281
              refine W.eq (g2 := F0 m 70 ls []) rfl ?_
              replace hP : va_P D classes [((Va 0), .inr (7, [.ref (Va 1), .int sv_271, .int sv_272])), ((Va 1), .inl (tc 0, 400, .inl sv_273)), ((Ta 0), .inr (10, [.ref (Ta 1), .int (Tv 0), .int sv_274, .int sv_275, .int sv_276, .int sv_277])), ((Ta 1), .inl (tc 0, 400, .inl (Tf 1)))] H := hP₀
              replace hD : va_D A [((Va 0), .inr (7, [.ref (Va 1), .int sv_271, .int sv_272])), ((Va 1), .inl (tc 0, 400, .inl sv_273)), ((Ta 0), .inr (10, [.ref (Ta 1), .int (Tv 0), .int sv_274, .int sv_275, .int sv_276, .int sv_277])), ((Ta 1), .inl (tc 0, 400, .inl (Tf 1)))] := hD₀
              replace hS := hS₀
              clear hP₀ hD₀ hS₀
              refine lv_iload hx hb dX7_readTest_70 (lv_at hl 0 rfl) ?_
              refine lv_if_eq (tgt := 80) hx hb dX7_readTest_72 (by decide) (fun c_284 => ?_) (fun c_284 => ?_)
              · skip
                refine lv_aload_n hx hb dX7_readTest_80 rfl (lv_at hl 3 rfl) ?_
                refine lv_bipush (v := (-5)) hx hb dX7_readTest_81 (by decide) ?_
                refine cV (a := (Va 0)) (As := [.int (-5)]) (rest := []) (wr := [((Ta 0), .inr (10, [.ref (Ta 1), .int (Tv 0), .int sv_274, .int sv_275, .int sv_276, .int sv_277])), ((Ta 1), .inl (tc 0, 400, .inl (Tf 1)))]) ⟨hx, hb, hml, hown, hts⟩ hK hX hA (cu_fX7_put l D tc sk (Va 0) (Va 1) sv_271 sv_272 sv_273 (-5) pf_279) k_642 k_639 k_641 k_10 k_99 pl_X7_put ⟨Nat.le_of_ble_eq_true rfl, Nat.le_of_ble_eq_true rfl⟩ rfl rfl (va_recv hK hP (ci := 7) (q0 := 0) rfl rfl) hP hD hS [0, 1] [2, 3] rfl rfl rfl rfl rfl (by decide) rfl hl.1 rfl (Nat.le_of_ble_eq_true rfl) dX7_readTest_83 ⟨Nat.le_of_ble_eq_true rfl, Nat.le_of_ble_eq_true rfl⟩ (fun v_285 u_286 H locs hv_287 hP₀ hD₀ hS₀ => ?_)
                obtain ⟨sv_288, sv_289⟩ := u_286
                obtain ⟨rfl, pf_290⟩ := hv_287
                have pf_290 : 0 ≤ (sv_288 : Int32).toInt ∧ (sv_288 : Int32).toInt ≤ 400 := pf_290
                refine W.eq (g2 := F0 m 86 ls []) rfl ?_
                replace hP : va_P D classes [((Ta 0), .inr (10, [.ref (Ta 1), .int (Tv 0), .int sv_274, .int sv_275, .int sv_276, .int sv_277])), ((Ta 1), .inl (tc 0, 400, .inl (Tf 1))), ((Va 0), .inr (7, [.ref (Va 1), .int sv_288, .int sv_272])), ((Va 1), .inl (tc 0, 400, .inl sv_289))] H := hP₀
                replace hD : va_D A [((Ta 0), .inr (10, [.ref (Ta 1), .int (Tv 0), .int sv_274, .int sv_275, .int sv_276, .int sv_277])), ((Ta 1), .inl (tc 0, 400, .inl (Tf 1))), ((Va 0), .inr (7, [.ref (Va 1), .int sv_288, .int sv_272])), ((Va 1), .inl (tc 0, 400, .inl sv_289))] := hD₀
                replace hS := hS₀
                clear hP₀ hD₀ hS₀
                obtain ⟨x_291, ex_291⟩ : ∃ y : Int32, y = vy_27 + 1 := ⟨_, rfl⟩
                refine lv_iinc (v := x_291) (lv' := [(4, .int x_291), (5, .int r_249), (3, .int vy_35), (0, .ref (Va 0)), (1, .ref (Ta 0)), (2, .int 7)]) hx hb dX7_readTest_86 hl (k := 1) rfl (by rw [ex_291]; rfl) (by decide) rfl (fun ls hl₀ => ?_)
                replace hl := hl₀
                clear hl₀
                refine lv_goto (tgt := 11) hx hb dX7_readTest_89 (by decide) ?_
                have hb_292 : 401 - (x_291 : Int32).toInt < 401 - (vy_27 : Int32).toInt ∧ 1 ≤ 401 - (vy_27 : Int32).toInt := by
                  have z_1 := Int32.lt_iff_toInt_lt.mp (Int32.not_le.mp c_50)
                  have z_2 := congrArg Int32.toInt c_75
                  have z_3 : ¬ (r_216 : Int32).toInt = (0 : Int32).toInt := fun z => c_221 (Int32.toInt_inj.mp z)
                  have z_4 := congrArg Int32.toInt c_254
                  have z_5 := congrArg Int32.toInt c_284
                  have y_0 : (0 : Int32).toInt = 0 := by decide
                  have y_400 : (400 : Int32).toInt = 400 := by decide
                  have y_1 : (1 : Int32).toInt = 1 := by decide
                  have t_x_291 : x_291.toInt = (vy_27 : Int32).toInt + (1 : Int32).toInt := by rw [ex_291]; exact add_toInt (by omega) (by omega)
                  omega
                have ha_293 : 0 ≤ (x_291 : Int32).toInt ∧ (x_291 : Int32).toInt ≤ 400 := by
                  have z_1 := Int32.lt_iff_toInt_lt.mp (Int32.not_le.mp c_50)
                  have z_2 := congrArg Int32.toInt c_75
                  have z_3 : ¬ (r_216 : Int32).toInt = (0 : Int32).toInt := fun z => c_221 (Int32.toInt_inj.mp z)
                  have z_4 := congrArg Int32.toInt c_254
                  have z_5 := congrArg Int32.toInt c_284
                  have y_0 : (0 : Int32).toInt = 0 := by decide
                  have y_400 : (400 : Int32).toInt = 400 := by decide
                  have y_1 : (1 : Int32).toInt = 1 := by decide
                  have t_x_291 : x_291.toInt = (vy_27 : Int32).toInt + (1 : Int32).toInt := by rw [ex_291]; exact add_toInt (by omega) (by omega)
                  omega
                have hu_294 : TpR (Tf 1) (Tv 0) (pz_b (rNX (cB (Tf 1) (Tv 0)) rq_44) (pz_fact (cB (Tf 1) (Tv 0)) 3)) sv_274 sv_275 sv_276 sv_277 := by
                  rw [← ero_265, ← ero_282]
                  exact pf_280
                have hu_295 : Ctd (pz_b (rNX (cB (Tf 1) (Tv 0)) rq_44) (pz_fact (cB (Tf 1) (Tv 0)) 3)) sv_272 := by
                  rw [← ero_265, ← ero_282]
                  exact pf_281
                have hw_296 : TWd (cB (Tf 1) (Tv 0)) pz_or rq_44 := by
                  rw [← wS6]
                  exact pf_243
                have hi_297 : (x_291 : Int32).toInt = (vy_27 : Int32).toInt + 1 := by
                  have z_1 := Int32.lt_iff_toInt_lt.mp (Int32.not_le.mp c_50)
                  have z_2 := congrArg Int32.toInt c_75
                  have z_3 : ¬ (r_216 : Int32).toInt = (0 : Int32).toInt := fun z => c_221 (Int32.toInt_inj.mp z)
                  have z_4 := congrArg Int32.toInt c_254
                  have z_5 := congrArg Int32.toInt c_284
                  have y_0 : (0 : Int32).toInt = 0 := by decide
                  have y_400 : (400 : Int32).toInt = 400 := by decide
                  have y_1 : (1 : Int32).toInt = 1 := by decide
                  have t_x_291 : x_291.toInt = (vy_27 : Int32).toInt + (1 : Int32).toInt := by rw [ex_291]; exact add_toInt (by omega) (by omega)
                  omega
                exact ih_37 x_291 sv_288 sv_272 sv_289 sv_274 sv_275 sv_276 sv_277 vy_35 _ _ _ (by omega) ha_293 pf_278 pf_290 (TeL.next h_tape.2.1 pf_47 pf_48 (Or.inr hw_296) hu_294 hu_295 hi_297) (hP.sub [2, 3, 0, 1] rfl) (hD.sub [2, 3, 0, 1] rfl rfl) hS (lv_sub hl [0, 2, 3, 4, 5] rfl)
              · skip
                exfalso
                have z_1 := Int32.lt_iff_toInt_lt.mp (Int32.not_le.mp c_50)
                have z_2 := congrArg Int32.toInt c_75
                have z_3 : ¬ (r_216 : Int32).toInt = (0 : Int32).toInt := fun z => c_221 (Int32.toInt_inj.mp z)
                have z_4 := congrArg Int32.toInt c_254
                have z_5 : ¬ (r_249 : Int32).toInt = (0 : Int32).toInt := fun z => c_284 (Int32.toInt_inj.mp z)
                have y_0 : (0 : Int32).toInt = 0 := by decide
                have y_400 : (400 : Int32).toInt = 400 := by decide
                omega
            · skip
              have hz_299 : (r_249 : Int32).toInt = 1 := by
                have z_1 := Int32.lt_iff_toInt_lt.mp (Int32.not_le.mp c_50)
                have z_2 := congrArg Int32.toInt c_75
                have z_3 : ¬ (r_216 : Int32).toInt = (0 : Int32).toInt := fun z => c_221 (Int32.toInt_inj.mp z)
                have z_4 : ¬ (r_249 : Int32).toInt = (0 : Int32).toInt := fun z => c_254 (Int32.toInt_inj.mp z)
                have y_0 : (0 : Int32).toInt = 0 := by decide
                have y_400 : (400 : Int32).toInt = 400 := by decide
                omega
              obtain pf_298 := hm_252 hz_299
              have pf_298 : TWd (cB (Tf 1) (Tv 0)) (wS (6 : Nat)) rq_44 := pf_298
              refine lv_iload_n hx hb dX7_readTest_50 rfl (lv_at hl 2 rfl) ?_
              refine lv_if_eq (tgt := 60) hx hb dX7_readTest_51 (by decide) (fun c_300 => ?_) (fun c_300 => ?_)
              · skip
                refine lv_aload_n hx hb dX7_readTest_60 rfl (lv_at hl 4 rfl) ?_
                refine cV (a := (Ta 0)) (As := []) (rest := []) (wr := [((Va 0), .inr (7, [.ref (Va 1), .int vy_28, .int vy_29])), ((Va 1), .inl (tc 0, 400, .inl vy_30))]) ⟨hx, hb, hml, hown, hts⟩ hK hX hA (cu_fX10_step l D tc sk (Ta 0) (Ta 1) (Tv 0) vy_31 vy_32 vy_33 vy_34 (Tf 1) (rTE (cB (Tf 1) (Tv 0)) rq_44) pf_40 h_by tb_49) k_478 k_620 k_476 k_477 k_96 pl_X10_step ⟨Nat.le_of_ble_eq_true rfl, Nat.le_of_ble_eq_true rfl⟩ rfl rfl (va_recv hK hP (ci := 10) (q0 := 2) rfl rfl) hP hD hS [2, 3] [0, 1] rfl rfl rfl rfl rfl (by decide) rfl hl.1 rfl (Nat.le_of_ble_eq_true rfl) dX7_readTest_61 ⟨Nat.le_of_ble_eq_true rfl, Nat.le_of_ble_eq_true rfl⟩ (fun v_301 u_302 H locs hv_303 hP₀ hD₀ hS₀ => ?_)
                obtain ⟨sv_304, sv_305, sv_306⟩ := u_302
                obtain ⟨rfl, pf_307, pf_308⟩ := hv_303
                have pf_307 : 0 ≤ ((Tv 0) : Int32).toInt ∧ ((Tv 0) : Int32).toInt ≤ 400 ∧ 0 ≤ (sv_304 : Int32).toInt ∧ (sv_304 : Int32).toInt ≤ 400 ∧ 0 ≤ (sv_305 : Int32).toInt ∧ (sv_305 : Int32).toInt ≤ 400 := pf_307
                have pf_308 : TpR (Tf 1) (Tv 0) (rSK (cB (Tf 1) (Tv 0)) (rTE (cB (Tf 1) (Tv 0)) rq_44)) sv_304 sv_305 sv_306 vy_34 := pf_308
                rw [rNX_eq] at pf_308
                obtain ⟨ro_309, ero_309⟩ : ∃ z : Except Int (Nat × Nat), z = (rNX (cB (Tf 1) (Tv 0)) rq_44) := ⟨_, rfl⟩
                rw [← ero_309] at pf_308
                have tb_310 : TpB (rTE (cB (Tf 1) (Tv 0)) ro_309) sv_305 vy_34 := TpR.tb pf_308
                have cd_311 : Ctd ro_309 vy_29 := by rw [ero_309]; exact (Ctd.nx pf_46)
                refine W.eq (g2 := F0 m 64 ls []) rfl ?_
                replace hP : va_P D classes [((Va 0), .inr (7, [.ref (Va 1), .int vy_28, .int vy_29])), ((Va 1), .inl (tc 0, 400, .inl vy_30)), ((Ta 0), .inr (10, [.ref (Ta 1), .int (Tv 0), .int sv_304, .int sv_305, .int sv_306, .int vy_34])), ((Ta 1), .inl (tc 0, 400, .inl (Tf 1)))] H := hP₀
                replace hD : va_D A [((Va 0), .inr (7, [.ref (Va 1), .int vy_28, .int vy_29])), ((Va 1), .inl (tc 0, 400, .inl vy_30)), ((Ta 0), .inr (10, [.ref (Ta 1), .int (Tv 0), .int sv_304, .int sv_305, .int sv_306, .int vy_34])), ((Ta 1), .inl (tc 0, 400, .inl (Tf 1)))] := hD₀
                replace hS := hS₀
                clear hP₀ hD₀ hS₀
                refine lv_aload_n hx hb dX7_readTest_64 rfl (lv_at hl 3 rfl) ?_
                refine lv_aload_n hx hb dX7_readTest_65 rfl (lv_at hl 4 rfl) ?_
                refine lv_iload_n hx hb dX7_readTest_66 rfl (lv_at hl 5 rfl) ?_
                refine cV (a := (Va 0)) (As := [.ref (Ta 0), .int 7]) (rest := []) (wr := []) ⟨hx, hb, hml, hown, hts⟩ hK hX hA (cu_fX7_readFact_7 l D tc sk (Va 0) (Va 1) vy_28 vy_29 vy_30 (Ta 0) (Ta 1) (Tv 0) sv_304 sv_305 sv_306 vy_34 (Tf 1) ro_309 pf_307 pf_41 h_by pf_308 cd_311) k_659 k_656 k_658 k_12 k_99 pl_X7_readFact ⟨Nat.le_of_ble_eq_true rfl, Nat.le_of_ble_eq_true rfl⟩ rfl rfl (va_recv hK hP (ci := 7) (q0 := 0) rfl rfl) hP hD hS [0, 1, 2, 3] [] rfl rfl rfl rfl rfl (by decide) rfl hl.1 rfl (Nat.le_of_ble_eq_true rfl) dX7_readTest_67 ⟨Nat.le_of_ble_eq_true rfl, Nat.le_of_ble_eq_true rfl⟩ (fun v_312 u_313 H locs hv_314 hP₀ hD₀ hS₀ => ?_)
                obtain ⟨sv_315, sv_316, sv_317, sv_318, sv_319, sv_320, sv_321⟩ := u_313
                obtain ⟨rfl, pf_322, pf_323, pf_324, pf_325⟩ := hv_314
                have pf_322 : 0 ≤ ((Tv 0) : Int32).toInt ∧ ((Tv 0) : Int32).toInt ≤ 400 ∧ 0 ≤ (sv_318 : Int32).toInt ∧ (sv_318 : Int32).toInt ≤ 400 ∧ 0 ≤ (sv_319 : Int32).toInt ∧ (sv_319 : Int32).toInt ≤ 400 := pf_322
                have pf_323 : 0 ≤ (sv_315 : Int32).toInt ∧ (sv_315 : Int32).toInt ≤ 400 := pf_323
                have pf_324 : TpR (Tf 1) (Tv 0) (pz_b ro_309 (pz_fact (cB (Tf 1) (Tv 0)) 3)) sv_318 sv_319 sv_320 sv_321 := pf_324
                obtain ⟨ro_326, ero_326⟩ : ∃ z : Except Int (Nat × Nat), z = (pz_b ro_309 (pz_fact (cB (Tf 1) (Tv 0)) 3)) := ⟨_, rfl⟩
                rw [← ero_326] at pf_324
                have tb_327 : TpB (rTE (cB (Tf 1) (Tv 0)) ro_326) sv_319 sv_321 := TpR.tb pf_324
                have pf_325 : Ctd (pz_b ro_309 (pz_fact (cB (Tf 1) (Tv 0)) 3)) sv_316 := pf_325
                rw [← ero_326] at pf_325
                refine W.eq (g2 := F0 m 70 ls []) rfl ?_
                replace hP : va_P D classes [((Va 0), .inr (7, [.ref (Va 1), .int sv_315, .int sv_316])), ((Va 1), .inl (tc 0, 400, .inl sv_317)), ((Ta 0), .inr (10, [.ref (Ta 1), .int (Tv 0), .int sv_318, .int sv_319, .int sv_320, .int sv_321])), ((Ta 1), .inl (tc 0, 400, .inl (Tf 1)))] H := hP₀
                replace hD : va_D A [((Va 0), .inr (7, [.ref (Va 1), .int sv_315, .int sv_316])), ((Va 1), .inl (tc 0, 400, .inl sv_317)), ((Ta 0), .inr (10, [.ref (Ta 1), .int (Tv 0), .int sv_318, .int sv_319, .int sv_320, .int sv_321])), ((Ta 1), .inl (tc 0, 400, .inl (Tf 1)))] := hD₀
                replace hS := hS₀
                clear hP₀ hD₀ hS₀
                refine lv_iload hx hb dX7_readTest_70 (lv_at hl 0 rfl) ?_
                refine lv_if_eq (tgt := 80) hx hb dX7_readTest_72 (by decide) (fun c_328 => ?_) (fun c_328 => ?_)
                · skip
                  exfalso
                  have z_1 := Int32.lt_iff_toInt_lt.mp (Int32.not_le.mp c_50)
                  have z_2 := congrArg Int32.toInt c_75
                  have z_3 : ¬ (r_216 : Int32).toInt = (0 : Int32).toInt := fun z => c_221 (Int32.toInt_inj.mp z)
                  have z_4 : ¬ (r_249 : Int32).toInt = (0 : Int32).toInt := fun z => c_254 (Int32.toInt_inj.mp z)
                  have z_5 := congrArg Int32.toInt c_300
                  have z_6 := congrArg Int32.toInt c_328
                  have y_0 : (0 : Int32).toInt = 0 := by decide
                  have y_400 : (400 : Int32).toInt = 400 := by decide
                  omega
                · skip
                  refine lv_iconst (v := 1) hx hb dX7_readTest_75 (by decide) ?_
                  refine lv_istore_n (lv' := [(3, .int 1), (5, .int r_249), (4, .int vy_27), (0, .ref (Va 0)), (1, .ref (Ta 0)), (2, .int 7)]) hx hb dX7_readTest_76 rfl hl (by decide) rfl (fun ls hl₀ => ?_)
                  replace hl := hl₀
                  clear hl₀
                  refine lv_goto (tgt := 86) hx hb dX7_readTest_77 (by decide) ?_
                  obtain ⟨x_329, ex_329⟩ : ∃ y : Int32, y = vy_27 + 1 := ⟨_, rfl⟩
                  refine lv_iinc (v := x_329) (lv' := [(4, .int x_329), (3, .int 1), (5, .int r_249), (0, .ref (Va 0)), (1, .ref (Ta 0)), (2, .int 7)]) hx hb dX7_readTest_86 hl (k := 2) rfl (by rw [ex_329]; rfl) (by decide) rfl (fun ls hl₀ => ?_)
                  replace hl := hl₀
                  clear hl₀
                  refine lv_goto (tgt := 11) hx hb dX7_readTest_89 (by decide) ?_
                  have hb_330 : 401 - (x_329 : Int32).toInt < 401 - (vy_27 : Int32).toInt ∧ 1 ≤ 401 - (vy_27 : Int32).toInt := by
                    have z_1 := Int32.lt_iff_toInt_lt.mp (Int32.not_le.mp c_50)
                    have z_2 := congrArg Int32.toInt c_75
                    have z_3 : ¬ (r_216 : Int32).toInt = (0 : Int32).toInt := fun z => c_221 (Int32.toInt_inj.mp z)
                    have z_4 : ¬ (r_249 : Int32).toInt = (0 : Int32).toInt := fun z => c_254 (Int32.toInt_inj.mp z)
                    have z_5 := congrArg Int32.toInt c_300
                    have z_6 : ¬ (r_249 : Int32).toInt = (0 : Int32).toInt := fun z => c_328 (Int32.toInt_inj.mp z)
                    have y_0 : (0 : Int32).toInt = 0 := by decide
                    have y_400 : (400 : Int32).toInt = 400 := by decide
                    have y_1 : (1 : Int32).toInt = 1 := by decide
                    have t_x_329 : x_329.toInt = (vy_27 : Int32).toInt + (1 : Int32).toInt := by rw [ex_329]; exact add_toInt (by omega) (by omega)
                    omega
                  have ha_331 : 0 ≤ (x_329 : Int32).toInt ∧ (x_329 : Int32).toInt ≤ 400 := by
                    have z_1 := Int32.lt_iff_toInt_lt.mp (Int32.not_le.mp c_50)
                    have z_2 := congrArg Int32.toInt c_75
                    have z_3 : ¬ (r_216 : Int32).toInt = (0 : Int32).toInt := fun z => c_221 (Int32.toInt_inj.mp z)
                    have z_4 : ¬ (r_249 : Int32).toInt = (0 : Int32).toInt := fun z => c_254 (Int32.toInt_inj.mp z)
                    have z_5 := congrArg Int32.toInt c_300
                    have z_6 : ¬ (r_249 : Int32).toInt = (0 : Int32).toInt := fun z => c_328 (Int32.toInt_inj.mp z)
                    have y_0 : (0 : Int32).toInt = 0 := by decide
                    have y_400 : (400 : Int32).toInt = 400 := by decide
                    have y_1 : (1 : Int32).toInt = 1 := by decide
                    have t_x_329 : x_329.toInt = (vy_27 : Int32).toInt + (1 : Int32).toInt := by rw [ex_329]; exact add_toInt (by omega) (by omega)
                    omega
                  have hu_332 : TpR (Tf 1) (Tv 0) (pz_b (rNX (cB (Tf 1) (Tv 0)) rq_44) (pz_fact (cB (Tf 1) (Tv 0)) 3)) sv_318 sv_319 sv_320 sv_321 := by
                    rw [← ero_309, ← ero_326]
                    exact pf_324
                  have hu_333 : Ctd (pz_b (rNX (cB (Tf 1) (Tv 0)) rq_44) (pz_fact (cB (Tf 1) (Tv 0)) 3)) sv_316 := by
                    rw [← ero_309, ← ero_326]
                    exact pf_325
                  have hw_334 : TWd (cB (Tf 1) (Tv 0)) pz_or rq_44 := by
                    rw [← wS6]
                    exact pf_298
                  have hi_335 : (x_329 : Int32).toInt = (vy_27 : Int32).toInt + 1 := by
                    have z_1 := Int32.lt_iff_toInt_lt.mp (Int32.not_le.mp c_50)
                    have z_2 := congrArg Int32.toInt c_75
                    have z_3 : ¬ (r_216 : Int32).toInt = (0 : Int32).toInt := fun z => c_221 (Int32.toInt_inj.mp z)
                    have z_4 : ¬ (r_249 : Int32).toInt = (0 : Int32).toInt := fun z => c_254 (Int32.toInt_inj.mp z)
                    have z_5 := congrArg Int32.toInt c_300
                    have z_6 : ¬ (r_249 : Int32).toInt = (0 : Int32).toInt := fun z => c_328 (Int32.toInt_inj.mp z)
                    have y_0 : (0 : Int32).toInt = 0 := by decide
                    have y_400 : (400 : Int32).toInt = 400 := by decide
                    have y_1 : (1 : Int32).toInt = 1 := by decide
                    have t_x_329 : x_329.toInt = (vy_27 : Int32).toInt + (1 : Int32).toInt := by rw [ex_329]; exact add_toInt (by omega) (by omega)
                    omega
                  exact ih_37 x_329 sv_315 sv_316 sv_317 sv_318 sv_319 sv_320 sv_321 1 _ _ _ (by omega) ha_331 pf_322 pf_323 (TeL.next h_tape.2.1 pf_47 pf_48 (Or.inr hw_334) hu_332 hu_333 hi_335) (hP.sub [0, 1, 2, 3] rfl) (hD.sub [0, 1, 2, 3] rfl rfl) hS (lv_sub hl [0, 1, 3, 4, 5] rfl)
              · skip
                refine lv_aload_n hx hb dX7_readTest_54 rfl (lv_at hl 3 rfl) ?_
                refine lv_bipush (v := (-6)) hx hb dX7_readTest_55 (by decide) ?_
                refine cV (a := (Va 0)) (As := [.int (-6)]) (rest := []) (wr := [((Ta 0), .inr (10, [.ref (Ta 1), .int (Tv 0), .int vy_31, .int vy_32, .int vy_33, .int vy_34])), ((Ta 1), .inl (tc 0, 400, .inl (Tf 1)))]) ⟨hx, hb, hml, hown, hts⟩ hK hX hA (cu_fX7_put l D tc sk (Va 0) (Va 1) vy_28 vy_29 vy_30 (-6) pf_41) k_642 k_639 k_641 k_10 k_99 pl_X7_put ⟨Nat.le_of_ble_eq_true rfl, Nat.le_of_ble_eq_true rfl⟩ rfl rfl (va_recv hK hP (ci := 7) (q0 := 0) rfl rfl) hP hD hS [0, 1] [2, 3] rfl rfl rfl rfl rfl (by decide) rfl hl.1 rfl (Nat.le_of_ble_eq_true rfl) dX7_readTest_57 ⟨Nat.le_of_ble_eq_true rfl, Nat.le_of_ble_eq_true rfl⟩ (fun v_336 u_337 H locs hv_338 hP₀ hD₀ hS₀ => ?_)
                obtain ⟨sv_339, sv_340⟩ := u_337
                obtain ⟨rfl, pf_341⟩ := hv_338
                have pf_341 : 0 ≤ (sv_339 : Int32).toInt ∧ (sv_339 : Int32).toInt ≤ 400 := pf_341
                refine W.eq (g2 := F0 m 60 ls []) rfl ?_
                replace hP : va_P D classes [((Ta 0), .inr (10, [.ref (Ta 1), .int (Tv 0), .int vy_31, .int vy_32, .int vy_33, .int vy_34])), ((Ta 1), .inl (tc 0, 400, .inl (Tf 1))), ((Va 0), .inr (7, [.ref (Va 1), .int sv_339, .int vy_29])), ((Va 1), .inl (tc 0, 400, .inl sv_340))] H := hP₀
                replace hD : va_D A [((Ta 0), .inr (10, [.ref (Ta 1), .int (Tv 0), .int vy_31, .int vy_32, .int vy_33, .int vy_34])), ((Ta 1), .inl (tc 0, 400, .inl (Tf 1))), ((Va 0), .inr (7, [.ref (Va 1), .int sv_339, .int vy_29])), ((Va 1), .inl (tc 0, 400, .inl sv_340))] := hD₀
                replace hS := hS₀
                clear hP₀ hD₀ hS₀
                refine lv_aload_n hx hb dX7_readTest_60 rfl (lv_at hl 4 rfl) ?_
                refine cV (a := (Ta 0)) (As := []) (rest := []) (wr := [((Va 0), .inr (7, [.ref (Va 1), .int sv_339, .int vy_29])), ((Va 1), .inl (tc 0, 400, .inl sv_340))]) ⟨hx, hb, hml, hown, hts⟩ hK hX hA (cu_fX10_step l D tc sk (Ta 0) (Ta 1) (Tv 0) vy_31 vy_32 vy_33 vy_34 (Tf 1) (rTE (cB (Tf 1) (Tv 0)) rq_44) pf_40 h_by tb_49) k_478 k_620 k_476 k_477 k_96 pl_X10_step ⟨Nat.le_of_ble_eq_true rfl, Nat.le_of_ble_eq_true rfl⟩ rfl rfl (va_recv hK hP (ci := 10) (q0 := 0) rfl rfl) hP hD hS [0, 1] [2, 3] rfl rfl rfl rfl rfl (by decide) rfl hl.1 rfl (Nat.le_of_ble_eq_true rfl) dX7_readTest_61 ⟨Nat.le_of_ble_eq_true rfl, Nat.le_of_ble_eq_true rfl⟩ (fun v_342 u_343 H locs hv_344 hP₀ hD₀ hS₀ => ?_)
                obtain ⟨sv_345, sv_346, sv_347⟩ := u_343
                obtain ⟨rfl, pf_348, pf_349⟩ := hv_344
                have pf_348 : 0 ≤ ((Tv 0) : Int32).toInt ∧ ((Tv 0) : Int32).toInt ≤ 400 ∧ 0 ≤ (sv_345 : Int32).toInt ∧ (sv_345 : Int32).toInt ≤ 400 ∧ 0 ≤ (sv_346 : Int32).toInt ∧ (sv_346 : Int32).toInt ≤ 400 := pf_348
                have pf_349 : TpR (Tf 1) (Tv 0) (rSK (cB (Tf 1) (Tv 0)) (rTE (cB (Tf 1) (Tv 0)) rq_44)) sv_345 sv_346 sv_347 vy_34 := pf_349
                rw [rNX_eq] at pf_349
                obtain ⟨ro_350, ero_350⟩ : ∃ z : Except Int (Nat × Nat), z = (rNX (cB (Tf 1) (Tv 0)) rq_44) := ⟨_, rfl⟩
                rw [← ero_350] at pf_349
                have tb_351 : TpB (rTE (cB (Tf 1) (Tv 0)) ro_350) sv_346 vy_34 := TpR.tb pf_349
                have cd_352 : Ctd ro_350 vy_29 := by rw [ero_350]; exact (Ctd.nx pf_46)
                refine W.eq (g2 := F0 m 64 ls []) rfl ?_
                replace hP : va_P D classes [((Va 0), .inr (7, [.ref (Va 1), .int sv_339, .int vy_29])), ((Va 1), .inl (tc 0, 400, .inl sv_340)), ((Ta 0), .inr (10, [.ref (Ta 1), .int (Tv 0), .int sv_345, .int sv_346, .int sv_347, .int vy_34])), ((Ta 1), .inl (tc 0, 400, .inl (Tf 1)))] H := hP₀
                replace hD : va_D A [((Va 0), .inr (7, [.ref (Va 1), .int sv_339, .int vy_29])), ((Va 1), .inl (tc 0, 400, .inl sv_340)), ((Ta 0), .inr (10, [.ref (Ta 1), .int (Tv 0), .int sv_345, .int sv_346, .int sv_347, .int vy_34])), ((Ta 1), .inl (tc 0, 400, .inl (Tf 1)))] := hD₀
                replace hS := hS₀
                clear hP₀ hD₀ hS₀
                refine lv_aload_n hx hb dX7_readTest_64 rfl (lv_at hl 3 rfl) ?_
                refine lv_aload_n hx hb dX7_readTest_65 rfl (lv_at hl 4 rfl) ?_
                refine lv_iload_n hx hb dX7_readTest_66 rfl (lv_at hl 5 rfl) ?_
                refine cV (a := (Va 0)) (As := [.ref (Ta 0), .int 7]) (rest := []) (wr := []) ⟨hx, hb, hml, hown, hts⟩ hK hX hA (cu_fX7_readFact_7 l D tc sk (Va 0) (Va 1) sv_339 vy_29 sv_340 (Ta 0) (Ta 1) (Tv 0) sv_345 sv_346 sv_347 vy_34 (Tf 1) ro_350 pf_348 pf_341 h_by pf_349 cd_352) k_659 k_656 k_658 k_12 k_99 pl_X7_readFact ⟨Nat.le_of_ble_eq_true rfl, Nat.le_of_ble_eq_true rfl⟩ rfl rfl (va_recv hK hP (ci := 7) (q0 := 0) rfl rfl) hP hD hS [0, 1, 2, 3] [] rfl rfl rfl rfl rfl (by decide) rfl hl.1 rfl (Nat.le_of_ble_eq_true rfl) dX7_readTest_67 ⟨Nat.le_of_ble_eq_true rfl, Nat.le_of_ble_eq_true rfl⟩ (fun v_353 u_354 H locs hv_355 hP₀ hD₀ hS₀ => ?_)
                obtain ⟨sv_356, sv_357, sv_358, sv_359, sv_360, sv_361, sv_362⟩ := u_354
                obtain ⟨rfl, pf_363, pf_364, pf_365, pf_366⟩ := hv_355
                have pf_363 : 0 ≤ ((Tv 0) : Int32).toInt ∧ ((Tv 0) : Int32).toInt ≤ 400 ∧ 0 ≤ (sv_359 : Int32).toInt ∧ (sv_359 : Int32).toInt ≤ 400 ∧ 0 ≤ (sv_360 : Int32).toInt ∧ (sv_360 : Int32).toInt ≤ 400 := pf_363
                have pf_364 : 0 ≤ (sv_356 : Int32).toInt ∧ (sv_356 : Int32).toInt ≤ 400 := pf_364
                have pf_365 : TpR (Tf 1) (Tv 0) (pz_b ro_350 (pz_fact (cB (Tf 1) (Tv 0)) 3)) sv_359 sv_360 sv_361 sv_362 := pf_365
                obtain ⟨ro_367, ero_367⟩ : ∃ z : Except Int (Nat × Nat), z = (pz_b ro_350 (pz_fact (cB (Tf 1) (Tv 0)) 3)) := ⟨_, rfl⟩
                rw [← ero_367] at pf_365
                have tb_368 : TpB (rTE (cB (Tf 1) (Tv 0)) ro_367) sv_360 sv_362 := TpR.tb pf_365
                have pf_366 : Ctd (pz_b ro_350 (pz_fact (cB (Tf 1) (Tv 0)) 3)) sv_357 := pf_366
                rw [← ero_367] at pf_366
                refine W.eq (g2 := F0 m 70 ls []) rfl ?_
                replace hP : va_P D classes [((Va 0), .inr (7, [.ref (Va 1), .int sv_356, .int sv_357])), ((Va 1), .inl (tc 0, 400, .inl sv_358)), ((Ta 0), .inr (10, [.ref (Ta 1), .int (Tv 0), .int sv_359, .int sv_360, .int sv_361, .int sv_362])), ((Ta 1), .inl (tc 0, 400, .inl (Tf 1)))] H := hP₀
                replace hD : va_D A [((Va 0), .inr (7, [.ref (Va 1), .int sv_356, .int sv_357])), ((Va 1), .inl (tc 0, 400, .inl sv_358)), ((Ta 0), .inr (10, [.ref (Ta 1), .int (Tv 0), .int sv_359, .int sv_360, .int sv_361, .int sv_362])), ((Ta 1), .inl (tc 0, 400, .inl (Tf 1)))] := hD₀
                replace hS := hS₀
                clear hP₀ hD₀ hS₀
                refine lv_iload hx hb dX7_readTest_70 (lv_at hl 0 rfl) ?_
                refine lv_if_eq (tgt := 80) hx hb dX7_readTest_72 (by decide) (fun c_369 => ?_) (fun c_369 => ?_)
                · skip
                  exfalso
                  have z_1 := Int32.lt_iff_toInt_lt.mp (Int32.not_le.mp c_50)
                  have z_2 := congrArg Int32.toInt c_75
                  have z_3 : ¬ (r_216 : Int32).toInt = (0 : Int32).toInt := fun z => c_221 (Int32.toInt_inj.mp z)
                  have z_4 : ¬ (r_249 : Int32).toInt = (0 : Int32).toInt := fun z => c_254 (Int32.toInt_inj.mp z)
                  have z_5 : ¬ (vy_35 : Int32).toInt = (0 : Int32).toInt := fun z => c_300 (Int32.toInt_inj.mp z)
                  have z_6 := congrArg Int32.toInt c_369
                  have y_0 : (0 : Int32).toInt = 0 := by decide
                  have y_400 : (400 : Int32).toInt = 400 := by decide
                  omega
                · skip
                  refine lv_iconst (v := 1) hx hb dX7_readTest_75 (by decide) ?_
                  refine lv_istore_n (lv' := [(3, .int 1), (5, .int r_249), (4, .int vy_27), (0, .ref (Va 0)), (1, .ref (Ta 0)), (2, .int 7)]) hx hb dX7_readTest_76 rfl hl (by decide) rfl (fun ls hl₀ => ?_)
                  replace hl := hl₀
                  clear hl₀
                  refine lv_goto (tgt := 86) hx hb dX7_readTest_77 (by decide) ?_
                  obtain ⟨x_370, ex_370⟩ : ∃ y : Int32, y = vy_27 + 1 := ⟨_, rfl⟩
                  refine lv_iinc (v := x_370) (lv' := [(4, .int x_370), (3, .int 1), (5, .int r_249), (0, .ref (Va 0)), (1, .ref (Ta 0)), (2, .int 7)]) hx hb dX7_readTest_86 hl (k := 2) rfl (by rw [ex_370]; rfl) (by decide) rfl (fun ls hl₀ => ?_)
                  replace hl := hl₀
                  clear hl₀
                  refine lv_goto (tgt := 11) hx hb dX7_readTest_89 (by decide) ?_
                  have hb_371 : 401 - (x_370 : Int32).toInt < 401 - (vy_27 : Int32).toInt ∧ 1 ≤ 401 - (vy_27 : Int32).toInt := by
                    have z_1 := Int32.lt_iff_toInt_lt.mp (Int32.not_le.mp c_50)
                    have z_2 := congrArg Int32.toInt c_75
                    have z_3 : ¬ (r_216 : Int32).toInt = (0 : Int32).toInt := fun z => c_221 (Int32.toInt_inj.mp z)
                    have z_4 : ¬ (r_249 : Int32).toInt = (0 : Int32).toInt := fun z => c_254 (Int32.toInt_inj.mp z)
                    have z_5 : ¬ (vy_35 : Int32).toInt = (0 : Int32).toInt := fun z => c_300 (Int32.toInt_inj.mp z)
                    have z_6 : ¬ (r_249 : Int32).toInt = (0 : Int32).toInt := fun z => c_369 (Int32.toInt_inj.mp z)
                    have y_0 : (0 : Int32).toInt = 0 := by decide
                    have y_400 : (400 : Int32).toInt = 400 := by decide
                    have y_1 : (1 : Int32).toInt = 1 := by decide
                    have t_x_370 : x_370.toInt = (vy_27 : Int32).toInt + (1 : Int32).toInt := by rw [ex_370]; exact add_toInt (by omega) (by omega)
                    omega
                  have ha_372 : 0 ≤ (x_370 : Int32).toInt ∧ (x_370 : Int32).toInt ≤ 400 := by
                    have z_1 := Int32.lt_iff_toInt_lt.mp (Int32.not_le.mp c_50)
                    have z_2 := congrArg Int32.toInt c_75
                    have z_3 : ¬ (r_216 : Int32).toInt = (0 : Int32).toInt := fun z => c_221 (Int32.toInt_inj.mp z)
                    have z_4 : ¬ (r_249 : Int32).toInt = (0 : Int32).toInt := fun z => c_254 (Int32.toInt_inj.mp z)
                    have z_5 : ¬ (vy_35 : Int32).toInt = (0 : Int32).toInt := fun z => c_300 (Int32.toInt_inj.mp z)
                    have z_6 : ¬ (r_249 : Int32).toInt = (0 : Int32).toInt := fun z => c_369 (Int32.toInt_inj.mp z)
                    have y_0 : (0 : Int32).toInt = 0 := by decide
                    have y_400 : (400 : Int32).toInt = 400 := by decide
                    have y_1 : (1 : Int32).toInt = 1 := by decide
                    have t_x_370 : x_370.toInt = (vy_27 : Int32).toInt + (1 : Int32).toInt := by rw [ex_370]; exact add_toInt (by omega) (by omega)
                    omega
                  have hu_373 : TpR (Tf 1) (Tv 0) (pz_b (rNX (cB (Tf 1) (Tv 0)) rq_44) (pz_fact (cB (Tf 1) (Tv 0)) 3)) sv_359 sv_360 sv_361 sv_362 := by
                    rw [← ero_350, ← ero_367]
                    exact pf_365
                  have hu_374 : Ctd (pz_b (rNX (cB (Tf 1) (Tv 0)) rq_44) (pz_fact (cB (Tf 1) (Tv 0)) 3)) sv_357 := by
                    rw [← ero_350, ← ero_367]
                    exact pf_366
                  have hw_375 : TWd (cB (Tf 1) (Tv 0)) pz_or rq_44 := by
                    rw [← wS6]
                    exact pf_298
                  have hi_376 : (x_370 : Int32).toInt = (vy_27 : Int32).toInt + 1 := by
                    have z_1 := Int32.lt_iff_toInt_lt.mp (Int32.not_le.mp c_50)
                    have z_2 := congrArg Int32.toInt c_75
                    have z_3 : ¬ (r_216 : Int32).toInt = (0 : Int32).toInt := fun z => c_221 (Int32.toInt_inj.mp z)
                    have z_4 : ¬ (r_249 : Int32).toInt = (0 : Int32).toInt := fun z => c_254 (Int32.toInt_inj.mp z)
                    have z_5 : ¬ (vy_35 : Int32).toInt = (0 : Int32).toInt := fun z => c_300 (Int32.toInt_inj.mp z)
                    have z_6 : ¬ (r_249 : Int32).toInt = (0 : Int32).toInt := fun z => c_369 (Int32.toInt_inj.mp z)
                    have y_0 : (0 : Int32).toInt = 0 := by decide
                    have y_400 : (400 : Int32).toInt = 400 := by decide
                    have y_1 : (1 : Int32).toInt = 1 := by decide
                    have t_x_370 : x_370.toInt = (vy_27 : Int32).toInt + (1 : Int32).toInt := by rw [ex_370]; exact add_toInt (by omega) (by omega)
                    omega
                  exact ih_37 x_370 sv_356 sv_357 sv_358 sv_359 sv_360 sv_361 sv_362 1 _ _ _ (by omega) ha_372 pf_363 pf_364 (TeL.next h_tape.2.1 pf_47 pf_48 (Or.inr hw_375) hu_373 hu_374 hi_376) (hP.sub [0, 1, 2, 3] rfl) (hD.sub [0, 1, 2, 3] rfl rfl) hS (lv_sub hl [0, 1, 3, 4, 5] rfl)
  have ha_377 : 0 ≤ (0 : Int32).toInt ∧ (0 : Int32).toInt ≤ 400 := by
    have y_0 : (0 : Int32).toInt = 0 := by decide
    omega
  have hu_378 : TpR (Tf 1) (Tv 0) (pz_b rr (pz_fact (cB (Tf 1) (Tv 0)) 3)) sv_8 sv_9 sv_10 sv_11 := by
    rw [← ero_16]
    exact pf_14
  have hu_379 : Ctd (pz_b rr (pz_fact (cB (Tf 1) (Tv 0)) 3)) sv_6 := by
    rw [← ero_16]
    exact pf_15
  exact loop_38 _ 0 sv_5 sv_6 sv_7 sv_8 sv_9 sv_10 sv_11 0 _ _ _ (Nat.lt_succ_self _) ha_377 pf_12 pf_13 (TeL.first hu_378 hu_379) hP hD hS hl
set_option maxRecDepth 100000 in
theorem cu_fX7_readTest_7 (l : Launch) (D : va_G) (tc : Nat → ClassId) (sk : (Nat → Nat) × (Nat → Nat)) (Va_0 : Nat) (Va_1 : Nat) (Vv_0 : Int32) (Vv_1 : Int32) (Vf_1 : Nat → Int32) (Ta_0 : Nat) (Ta_1 : Nat) (Tv_0 : Int32) (Tv_1 : Int32) (Tv_2 : Int32) (Tv_3 : Int32) (Tv_4 : Int32) (Tf_1 : Nat → Int32) (rr : Except Int (Nat × Nat)) (h_tape : 0 ≤ (Tv_0 : Int32).toInt ∧ (Tv_0 : Int32).toInt ≤ 400 ∧ 0 ≤ (Tv_1 : Int32).toInt ∧ (Tv_1 : Int32).toInt ≤ 400 ∧ 0 ≤ (Tv_2 : Int32).toInt ∧ (Tv_2 : Int32).toInt ≤ 400) (h_u : 0 ≤ (Vv_0 : Int32).toInt ∧ (Vv_0 : Int32).toInt ≤ 400) (h_by : Byt Tf_1) (h_r : TpR Tf_1 Tv_0 rr Tv_1 Tv_2 Tv_3 Tv_4) (h_ct : Ctd rr Vv_1) : Ct l yX7_readTest cX7_readTest 6 none { frames := 15, cells := 0, slots := 0, locals := 351 } D tc sk [.ref Va_0, .ref Ta_0, .int 7] [(Va_0, .inr (7, [.ref Va_1, .int Vv_0, .int Vv_1])), (Va_1, .inl (tc 0, 400, .inl Vf_1)), (Ta_0, .inr (10, [.ref Ta_1, .int Tv_0, .int Tv_1, .int Tv_2, .int Tv_3, .int Tv_4])), (Ta_1, .inl (tc 0, 400, .inl Tf_1))] (fun (v : Option Value) (u : (Int32) × (Int32) × (Nat → Int32) × (Int32) × (Int32) × (Int32) × (Int32)) => match u with | (oo0x1, oo0x2, oo0x3, oo0x4, oo0x5, oo0x6, oo0x7) => v = none ∧ (0 ≤ (Tv_0 : Int32).toInt ∧ (Tv_0 : Int32).toInt ≤ 400 ∧ 0 ≤ (oo0x4 : Int32).toInt ∧ (oo0x4 : Int32).toInt ≤ 400 ∧ 0 ≤ (oo0x5 : Int32).toInt ∧ (oo0x5 : Int32).toInt ≤ 400) ∧ (0 ≤ (oo0x1 : Int32).toInt ∧ (oo0x1 : Int32).toInt ≤ 400) ∧ (TpR Tf_1 Tv_0 (pz_b rr (pz_tst (cB Tf_1 Tv_0) (pz_fact (cB Tf_1 Tv_0) 3))) oo0x4 oo0x5 oo0x6 oo0x7) ∧ (Ctd (pz_b rr (pz_tst (cB Tf_1 Tv_0) (pz_fact (cB Tf_1 Tv_0) 3))) oo0x2)) (fun (u : (Int32) × (Int32) × (Nat → Int32) × (Int32) × (Int32) × (Int32) × (Int32)) => match u with | (oo0x1, oo0x2, oo0x3, oo0x4, oo0x5, oo0x6, oo0x7) => [(Va_0, .inr (7, [.ref Va_1, .int oo0x1, .int oo0x2])), (Va_1, .inl (tc 0, 400, .inl oo0x3)), (Ta_0, .inr (10, [.ref Ta_1, .int Tv_0, .int oo0x4, .int oo0x5, .int oo0x6, .int oo0x7])), (Ta_1, .inl (tc 0, 400, .inl Tf_1))]) 0 0 :=
  ct_fX7_readTest_7 l D tc sk (fun k => ([Va_0, Va_1] : List (Nat)).getD k 0) (fun k => ([Vv_0, Vv_1] : List (Int32)).getD k 0) (fun k => ([(fun _ => 0), Vf_1] : List (Nat → Int32)).getD k (fun _ => 0)) (fun k => ([Ta_0, Ta_1] : List (Nat)).getD k 0) (fun k => ([Tv_0, Tv_1, Tv_2, Tv_3, Tv_4] : List (Int32)).getD k 0) (fun k => ([(fun _ => 0), Tf_1] : List (Nat → Int32)).getD k (fun _ => 0)) rr h_tape h_u h_by h_r h_ct
set_option maxHeartbeats 4000000 in
set_option maxRecDepth 100000 in
theorem ct_fX7_readFact_6 (l : Launch) (D : va_G) (tc : Nat → ClassId) (sk : (Nat → Nat) × (Nat → Nat)) (Va : Nat → Nat) (Vv : Nat → Int32) (Vf : Nat → Nat → Int32) (Ta : Nat → Nat) (Tv : Nat → Int32) (Tf : Nat → Nat → Int32) (rr : Except Int (Nat × Nat)) (h_tape : 0 ≤ ((Tv 0) : Int32).toInt ∧ ((Tv 0) : Int32).toInt ≤ 400 ∧ 0 ≤ ((Tv 1) : Int32).toInt ∧ ((Tv 1) : Int32).toInt ≤ 400 ∧ 0 ≤ ((Tv 2) : Int32).toInt ∧ ((Tv 2) : Int32).toInt ≤ 400) (h_u : 0 ≤ ((Vv 0) : Int32).toInt ∧ ((Vv 0) : Int32).toInt ≤ 400) (h_by : Byt (Tf 1)) (h_r : TpR (Tf 1) (Tv 0) rr (Tv 1) (Tv 2) (Tv 3) (Tv 4)) (h_ct : Ctd rr (Vv 1)) : Ct l yX7_readFact cX7_readFact 5 none { frames := 16, cells := 0, slots := 0, locals := 376 } D tc sk [.ref (Va 0), .ref (Ta 0), .int 6] [((Va 0), .inr (7, [.ref (Va 1), .int (Vv 0), .int (Vv 1)])), ((Va 1), .inl (tc 0, 400, .inl (Vf 1))), ((Ta 0), .inr (10, [.ref (Ta 1), .int (Tv 0), .int (Tv 1), .int (Tv 2), .int (Tv 3), .int (Tv 4)])), ((Ta 1), .inl (tc 0, 400, .inl (Tf 1)))] (fun (v : Option Value) (u : (Int32) × (Int32) × (Nat → Int32) × (Int32) × (Int32) × (Int32) × (Int32)) => match u with | (oo0x1, oo0x2, oo0x3, oo0x4, oo0x5, oo0x6, oo0x7) => v = none ∧ (0 ≤ ((Tv 0) : Int32).toInt ∧ ((Tv 0) : Int32).toInt ≤ 400 ∧ 0 ≤ (oo0x4 : Int32).toInt ∧ (oo0x4 : Int32).toInt ≤ 400 ∧ 0 ≤ (oo0x5 : Int32).toInt ∧ (oo0x5 : Int32).toInt ≤ 400) ∧ (0 ≤ (oo0x1 : Int32).toInt ∧ (oo0x1 : Int32).toInt ≤ 400) ∧ (TpR (Tf 1) (Tv 0) (pz_b rr (pz_fact (cB (Tf 1) (Tv 0)) 4)) oo0x4 oo0x5 oo0x6 oo0x7) ∧ (Ctd (pz_b rr (pz_fact (cB (Tf 1) (Tv 0)) 4)) oo0x2)) (fun (u : (Int32) × (Int32) × (Nat → Int32) × (Int32) × (Int32) × (Int32) × (Int32)) => match u with | (oo0x1, oo0x2, oo0x3, oo0x4, oo0x5, oo0x6, oo0x7) => [((Va 0), .inr (7, [.ref (Va 1), .int oo0x1, .int oo0x2])), ((Va 1), .inl (tc 0, 400, .inl oo0x3)), ((Ta 0), .inr (10, [.ref (Ta 1), .int (Tv 0), .int oo0x4, .int oo0x5, .int oo0x6, .int oo0x7])), ((Ta 1), .inl (tc 0, 400, .inl (Tf 1)))]) 0 0 := by
  refine Ct.start (by decide) (Nat.le_of_ble_eq_true rfl) (fun p e s m below meth c A ls hx hb hr hlk hin hml hown hts hK hX hP hD hA hl hS => ?_)
  have hl : lv_has ls 5 [(0, .ref (Va 0)), (1, .ref (Ta 0)), (2, .int 6)] := hl
  have tb_1 : TpB (rTE (cB (Tf 1) (Tv 0)) rr) (Tv 2) (Tv 4) := TpR.tb h_r
  refine lv_aload_n hx hb dX7_readFact_0 rfl (lv_at hl 1 rfl) ?_
  refine va_ldcS hx hb hown (sx_4 hX) dX7_readFact_1 ?_
  have ha_2 : (4 : Nat) < 7 := by
    have y_4 : (4 : Int32).toInt = 4 := by decide
    omega
  refine cV (a := (Ta 0)) (As := [.ref (sk.1 4)]) (rest := []) (wr := [((Va 0), .inr (7, [.ref (Va 1), .int (Vv 0), .int (Vv 1)])), ((Va 1), .inl (tc 0, 400, .inl (Vf 1)))]) ⟨hx, hb, hml, hown, hts⟩ hK hX hA (cu_fX10_isWord l D tc sk (Ta 0) (Ta 1) (Tv 0) (Tv 1) (Tv 2) (Tv 3) (Tv 4) (Tf 1) 4 rr ha_2 h_tape h_by h_r) k_618 k_615 k_616 k_617 k_96 pl_X10_isWord ⟨Nat.le_of_ble_eq_true rfl, Nat.le_of_ble_eq_true rfl⟩ rfl rfl (va_recv hK hP (ci := 10) (q0 := 2) rfl rfl) hP hD hS [2, 3] [0, 1] rfl rfl rfl rfl rfl (by decide) rfl hl.1 rfl (Nat.le_of_ble_eq_true rfl) dX7_readFact_3 ⟨Nat.le_of_ble_eq_true rfl, Nat.le_of_ble_eq_true rfl⟩ (fun v_3 u_4 H locs hv_5 hP₀ hD₀ hS₀ => ?_)
  obtain ⟨r_6, rfl, he_7, hm_9, hm_10⟩ := hv_5
  have he_7 : (r_6.toInt = 0 ∨ r_6.toInt = 1) := he_7
  refine W.eq (g2 := F0 m 6 ls [.int r_6]) rfl ?_
  replace hP : va_P D classes [((Va 0), .inr (7, [.ref (Va 1), .int (Vv 0), .int (Vv 1)])), ((Va 1), .inl (tc 0, 400, .inl (Vf 1))), ((Ta 0), .inr (10, [.ref (Ta 1), .int (Tv 0), .int (Tv 1), .int (Tv 2), .int (Tv 3), .int (Tv 4)])), ((Ta 1), .inl (tc 0, 400, .inl (Tf 1)))] H := hP₀
  replace hD : va_D A [((Va 0), .inr (7, [.ref (Va 1), .int (Vv 0), .int (Vv 1)])), ((Va 1), .inl (tc 0, 400, .inl (Vf 1))), ((Ta 0), .inr (10, [.ref (Ta 1), .int (Tv 0), .int (Tv 1), .int (Tv 2), .int (Tv 3), .int (Tv 4)])), ((Ta 1), .inl (tc 0, 400, .inl (Tf 1)))] := hD₀
  replace hS := hS₀
  clear hP₀ hD₀ hS₀
  refine lv_istore_n (lv' := [(3, .int r_6), (0, .ref (Va 0)), (1, .ref (Ta 0)), (2, .int 6)]) hx hb dX7_readFact_6 rfl hl (by decide) rfl (fun ls hl₀ => ?_)
  replace hl := hl₀
  clear hl₀
  refine lv_iload_n hx hb dX7_readFact_7 rfl (lv_at hl 0 rfl) ?_
  refine lv_if_ne (tgt := 20) hx hb dX7_readFact_8 (by decide) (fun c_11 => ?_) (fun c_11 => ?_)
  · skip
    have hz_13 : (r_6 : Int32).toInt = 1 := by
      have z_1 : ¬ (r_6 : Int32).toInt = (0 : Int32).toInt := fun z => c_11 (Int32.toInt_inj.mp z)
      have y_0 : (0 : Int32).toInt = 0 := by decide
      omega
    obtain pf_12 := hm_9 hz_13
    have pf_12 : TWd (cB (Tf 1) (Tv 0)) (wS (4 : Nat)) rr := pf_12
    refine lv_iload_n hx hb dX7_readFact_20 rfl (lv_at hl 3 rfl) ?_
    refine lv_bipush (v := 10) hx hb dX7_readFact_21 (by decide) ?_
    refine lv_icmp_lt (tgt := 34) hx hb dX7_readFact_23 (by decide) (fun c_14 => ?_) (fun c_14 => absurd c_14 (by decide))
    refine lv_iload_n hx hb dX7_readFact_34 rfl (lv_at hl 0 rfl) ?_
    refine lv_if_eq (tgt := 59) hx hb dX7_readFact_35 (by decide) (fun c_15 => ?_) (fun c_15 => ?_)
    · skip
      exfalso
      have z_1 : ¬ (r_6 : Int32).toInt = (0 : Int32).toInt := fun z => c_11 (Int32.toInt_inj.mp z)
      have z_2 := congrArg Int32.toInt c_15
      have y_0 : (0 : Int32).toInt = 0 := by decide
      omega
    · skip
      refine lv_aload_n hx hb dX7_readFact_38 rfl (lv_at hl 2 rfl) ?_
      refine cV (a := (Ta 0)) (As := []) (rest := []) (wr := [((Va 0), .inr (7, [.ref (Va 1), .int (Vv 0), .int (Vv 1)])), ((Va 1), .inl (tc 0, 400, .inl (Vf 1)))]) ⟨hx, hb, hml, hown, hts⟩ hK hX hA (cu_fX10_step l D tc sk (Ta 0) (Ta 1) (Tv 0) (Tv 1) (Tv 2) (Tv 3) (Tv 4) (Tf 1) (rTE (cB (Tf 1) (Tv 0)) rr) h_tape h_by tb_1) k_478 k_620 k_476 k_477 k_96 pl_X10_step ⟨Nat.le_of_ble_eq_true rfl, Nat.le_of_ble_eq_true rfl⟩ rfl rfl (va_recv hK hP (ci := 10) (q0 := 2) rfl rfl) hP hD hS [2, 3] [0, 1] rfl rfl rfl rfl rfl (by decide) rfl hl.1 rfl (Nat.le_of_ble_eq_true rfl) dX7_readFact_39 ⟨Nat.le_of_ble_eq_true rfl, Nat.le_of_ble_eq_true rfl⟩ (fun v_16 u_17 H locs hv_18 hP₀ hD₀ hS₀ => ?_)
      obtain ⟨sv_19, sv_20, sv_21⟩ := u_17
      obtain ⟨rfl, pf_22, pf_23⟩ := hv_18
      have pf_22 : 0 ≤ ((Tv 0) : Int32).toInt ∧ ((Tv 0) : Int32).toInt ≤ 400 ∧ 0 ≤ (sv_19 : Int32).toInt ∧ (sv_19 : Int32).toInt ≤ 400 ∧ 0 ≤ (sv_20 : Int32).toInt ∧ (sv_20 : Int32).toInt ≤ 400 := pf_22
      have pf_23 : TpR (Tf 1) (Tv 0) (rSK (cB (Tf 1) (Tv 0)) (rTE (cB (Tf 1) (Tv 0)) rr)) sv_19 sv_20 sv_21 (Tv 4) := pf_23
      rw [rNX_eq] at pf_23
      obtain ⟨ro_24, ero_24⟩ : ∃ z : Except Int (Nat × Nat), z = (rNX (cB (Tf 1) (Tv 0)) rr) := ⟨_, rfl⟩
      rw [← ero_24] at pf_23
      have tb_25 : TpB (rTE (cB (Tf 1) (Tv 0)) ro_24) sv_20 (Tv 4) := TpR.tb pf_23
      have cd_26 : Ctd ro_24 (Vv 1) := by rw [ero_24]; exact (Ctd.nx h_ct)
      refine W.eq (g2 := F0 m 42 ls []) rfl ?_
      replace hP : va_P D classes [((Va 0), .inr (7, [.ref (Va 1), .int (Vv 0), .int (Vv 1)])), ((Va 1), .inl (tc 0, 400, .inl (Vf 1))), ((Ta 0), .inr (10, [.ref (Ta 1), .int (Tv 0), .int sv_19, .int sv_20, .int sv_21, .int (Tv 4)])), ((Ta 1), .inl (tc 0, 400, .inl (Tf 1)))] H := hP₀
      replace hD : va_D A [((Va 0), .inr (7, [.ref (Va 1), .int (Vv 0), .int (Vv 1)])), ((Va 1), .inl (tc 0, 400, .inl (Vf 1))), ((Ta 0), .inr (10, [.ref (Ta 1), .int (Tv 0), .int sv_19, .int sv_20, .int sv_21, .int (Tv 4)])), ((Ta 1), .inl (tc 0, 400, .inl (Tf 1)))] := hD₀
      replace hS := hS₀
      clear hP₀ hD₀ hS₀
      refine lv_aload_n hx hb dX7_readFact_42 rfl (lv_at hl 1 rfl) ?_
      refine lv_aload_n hx hb dX7_readFact_43 rfl (lv_at hl 2 rfl) ?_
      refine lv_iload_n hx hb dX7_readFact_44 rfl (lv_at hl 3 rfl) ?_
      refine lv_iconst (v := 1) hx hb dX7_readFact_45 (by decide) ?_
      refine lv_iadd hx hb dX7_readFact_46 ?_
      refine lv_lit (v := 7) (by decide) ?_
      refine cV (a := (Va 0)) (As := [.ref (Ta 0), .int 7]) (rest := []) (wr := []) ⟨hx, hb, hml, hown, hts⟩ hK hX hA (cu_fX7_readFact_7 l D tc sk (Va 0) (Va 1) (Vv 0) (Vv 1) (Vf 1) (Ta 0) (Ta 1) (Tv 0) sv_19 sv_20 sv_21 (Tv 4) (Tf 1) ro_24 pf_22 h_u h_by pf_23 cd_26) k_659 k_656 k_658 k_12 k_99 pl_X7_readFact ⟨Nat.le_of_ble_eq_true rfl, Nat.le_of_ble_eq_true rfl⟩ rfl rfl (va_recv hK hP (ci := 7) (q0 := 0) rfl rfl) hP hD hS [0, 1, 2, 3] [] rfl rfl rfl rfl rfl (by decide) rfl hl.1 rfl (Nat.le_of_ble_eq_true rfl) dX7_readFact_47 ⟨Nat.le_of_ble_eq_true rfl, Nat.le_of_ble_eq_true rfl⟩ (fun v_27 u_28 H locs hv_29 hP₀ hD₀ hS₀ => ?_)
      obtain ⟨sv_30, sv_31, sv_32, sv_33, sv_34, sv_35, sv_36⟩ := u_28
      obtain ⟨rfl, pf_37, pf_38, pf_39, pf_40⟩ := hv_29
      have pf_37 : 0 ≤ ((Tv 0) : Int32).toInt ∧ ((Tv 0) : Int32).toInt ≤ 400 ∧ 0 ≤ (sv_33 : Int32).toInt ∧ (sv_33 : Int32).toInt ≤ 400 ∧ 0 ≤ (sv_34 : Int32).toInt ∧ (sv_34 : Int32).toInt ≤ 400 := pf_37
      have pf_38 : 0 ≤ (sv_30 : Int32).toInt ∧ (sv_30 : Int32).toInt ≤ 400 := pf_38
      have pf_39 : TpR (Tf 1) (Tv 0) (pz_b ro_24 (pz_fact (cB (Tf 1) (Tv 0)) 3)) sv_33 sv_34 sv_35 sv_36 := pf_39
      obtain ⟨ro_41, ero_41⟩ : ∃ z : Except Int (Nat × Nat), z = (pz_b ro_24 (pz_fact (cB (Tf 1) (Tv 0)) 3)) := ⟨_, rfl⟩
      rw [← ero_41] at pf_39
      have tb_42 : TpB (rTE (cB (Tf 1) (Tv 0)) ro_41) sv_34 sv_36 := TpR.tb pf_39
      have pf_40 : Ctd (pz_b ro_24 (pz_fact (cB (Tf 1) (Tv 0)) 3)) sv_31 := pf_40
      rw [← ero_41] at pf_40
      refine W.eq (g2 := F0 m 50 ls []) rfl ?_
      replace hP : va_P D classes [((Va 0), .inr (7, [.ref (Va 1), .int sv_30, .int sv_31])), ((Va 1), .inl (tc 0, 400, .inl sv_32)), ((Ta 0), .inr (10, [.ref (Ta 1), .int (Tv 0), .int sv_33, .int sv_34, .int sv_35, .int sv_36])), ((Ta 1), .inl (tc 0, 400, .inl (Tf 1)))] H := hP₀
      replace hD : va_D A [((Va 0), .inr (7, [.ref (Va 1), .int sv_30, .int sv_31])), ((Va 1), .inl (tc 0, 400, .inl sv_32)), ((Ta 0), .inr (10, [.ref (Ta 1), .int (Tv 0), .int sv_33, .int sv_34, .int sv_35, .int sv_36])), ((Ta 1), .inl (tc 0, 400, .inl (Tf 1)))] := hD₀
      replace hS := hS₀
      clear hP₀ hD₀ hS₀
      refine lv_aload_n hx hb dX7_readFact_50 rfl (lv_at hl 1 rfl) ?_
      refine lv_bipush (v := (-4)) hx hb dX7_readFact_51 (by decide) ?_
      refine cV (a := (Va 0)) (As := [.int (-4)]) (rest := []) (wr := [((Ta 0), .inr (10, [.ref (Ta 1), .int (Tv 0), .int sv_33, .int sv_34, .int sv_35, .int sv_36])), ((Ta 1), .inl (tc 0, 400, .inl (Tf 1)))]) ⟨hx, hb, hml, hown, hts⟩ hK hX hA (cu_fX7_put l D tc sk (Va 0) (Va 1) sv_30 sv_31 sv_32 (-4) pf_38) k_642 k_639 k_641 k_10 k_99 pl_X7_put ⟨Nat.le_of_ble_eq_true rfl, Nat.le_of_ble_eq_true rfl⟩ rfl rfl (va_recv hK hP (ci := 7) (q0 := 0) rfl rfl) hP hD hS [0, 1] [2, 3] rfl rfl rfl rfl rfl (by decide) rfl hl.1 rfl (Nat.le_of_ble_eq_true rfl) dX7_readFact_53 ⟨Nat.le_of_ble_eq_true rfl, Nat.le_of_ble_eq_true rfl⟩ (fun v_43 u_44 H locs hv_45 hP₀ hD₀ hS₀ => ?_)
      obtain ⟨sv_46, sv_47⟩ := u_44
      obtain ⟨rfl, pf_48⟩ := hv_45
      have pf_48 : 0 ≤ (sv_46 : Int32).toInt ∧ (sv_46 : Int32).toInt ≤ 400 := pf_48
      refine W.eq (g2 := F0 m 56 ls []) rfl ?_
      replace hP : va_P D classes [((Ta 0), .inr (10, [.ref (Ta 1), .int (Tv 0), .int sv_33, .int sv_34, .int sv_35, .int sv_36])), ((Ta 1), .inl (tc 0, 400, .inl (Tf 1))), ((Va 0), .inr (7, [.ref (Va 1), .int sv_46, .int sv_31])), ((Va 1), .inl (tc 0, 400, .inl sv_47))] H := hP₀
      replace hD : va_D A [((Ta 0), .inr (10, [.ref (Ta 1), .int (Tv 0), .int sv_33, .int sv_34, .int sv_35, .int sv_36])), ((Ta 1), .inl (tc 0, 400, .inl (Tf 1))), ((Va 0), .inr (7, [.ref (Va 1), .int sv_46, .int sv_31])), ((Va 1), .inl (tc 0, 400, .inl sv_47))] := hD₀
      replace hS := hS₀
      clear hP₀ hD₀ hS₀
      refine lv_goto (tgt := 135) hx hb dX7_readFact_56 (by decide) ?_
      have hf_49 : TpR (Tf 1) (Tv 0) (pz_b rr (pz_fact (cB (Tf 1) (Tv 0)) 4)) sv_33 sv_34 sv_35 sv_36 := by
        have hE_50 : (pz_b rr (pz_fact (cB (Tf 1) (Tv 0)) 4)) = ro_41 := by
          rw [ero_41, ero_24]
          have hw_51 : TWd (cB (Tf 1) (Tv 0)) pz_not rr := by
            rw [← wS4]
            exact pf_12
          exact (fact_not hw_51)
        rw [hE_50]
        exact pf_39
      have hf_52 : Ctd (pz_b rr (pz_fact (cB (Tf 1) (Tv 0)) 4)) sv_31 := by
        have hE_53 : (pz_b rr (pz_fact (cB (Tf 1) (Tv 0)) 4)) = ro_41 := by
          rw [ero_41, ero_24]
          have hw_54 : TWd (cB (Tf 1) (Tv 0)) pz_not rr := by
            rw [← wS4]
            exact pf_12
          exact (fact_not hw_54)
        rw [hE_53]
        exact pf_40
      exact retV hx hb hr hlk hP hD hS (sv_46, sv_31, sv_47, sv_33, sv_34, sv_35, sv_36) ⟨rfl, pf_37, pf_48, hf_49, hf_52⟩ [2, 3, 0, 1] rfl rfl dX7_readFact_135 (Nat.le_of_ble_eq_true rfl) (Nat.le_of_ble_eq_true rfl) rfl
  · skip
    have hz_56 : (r_6 : Int32).toInt = 0 := by
      have z_1 := congrArg Int32.toInt c_11
      have y_0 : (0 : Int32).toInt = 0 := by decide
      omega
    obtain pf_55 := hm_10 hz_56
    have pf_55 : NWd (cB (Tf 1) (Tv 0)) (wS (4 : Nat)) rr := pf_55
    refine lv_aload_n hx hb dX7_readFact_11 rfl (lv_at hl 2 rfl) ?_
    refine gf_X7_86 hx hb hts hown hK hP 2 rfl rfl dX7_readFact_12 ?_
    refine lv_bipush (v := 91) hx hb dX7_readFact_15 (by decide) ?_
    refine lv_icmp_ne (tgt := 34) hx hb dX7_readFact_17 (by decide) (fun c_57 => ?_) (fun c_57 => ?_)
    · skip
      refine lv_iload_n hx hb dX7_readFact_34 rfl (lv_at hl 0 rfl) ?_
      refine lv_if_eq (tgt := 59) hx hb dX7_readFact_35 (by decide) (fun c_58 => ?_) (fun c_58 => ?_)
      · skip
        refine lv_aload_n hx hb dX7_readFact_59 rfl (lv_at hl 2 rfl) ?_
        refine lv_bipush (v := 91) hx hb dX7_readFact_60 (by decide) ?_
        have ha_59 : 0 ≤ (91 : Int32).toInt := by
          have z_1 := congrArg Int32.toInt c_11
          have z_2 : ¬ ((Tv 3) : Int32).toInt = (91 : Int32).toInt := fun z => c_57 (Int32.toInt_inj.mp z)
          have z_3 := congrArg Int32.toInt c_58
          have y_0 : (0 : Int32).toInt = 0 := by decide
          have y_91 : (91 : Int32).toInt = 91 := by decide
          omega
        have ha_60 : (91 : Int32).toInt = (91 : Int) := by
          have z_1 := congrArg Int32.toInt c_11
          have z_2 : ¬ ((Tv 3) : Int32).toInt = (91 : Int32).toInt := fun z => c_57 (Int32.toInt_inj.mp z)
          have z_3 := congrArg Int32.toInt c_58
          have y_0 : (0 : Int32).toInt = 0 := by decide
          have y_91 : (91 : Int32).toInt = 91 := by decide
          omega
        refine cV (a := (Ta 0)) (As := [.int 91]) (rest := []) (wr := [((Va 0), .inr (7, [.ref (Va 1), .int (Vv 0), .int (Vv 1)])), ((Va 1), .inl (tc 0, 400, .inl (Vf 1)))]) ⟨hx, hb, hml, hown, hts⟩ hK hX hA (cu_fX10_takes l D tc sk (Ta 0) (Ta 1) (Tv 0) (Tv 1) (Tv 2) (Tv 3) (Tv 4) (Tf 1) 91 rr 91 h_tape h_by h_r ha_59 ha_60) k_492 k_613 k_490 k_491 k_96 pl_X10_takes ⟨Nat.le_of_ble_eq_true rfl, Nat.le_of_ble_eq_true rfl⟩ rfl rfl (va_recv hK hP (ci := 10) (q0 := 2) rfl rfl) hP hD hS [2, 3] [0, 1] rfl rfl rfl rfl rfl (by decide) rfl hl.1 rfl (Nat.le_of_ble_eq_true rfl) dX7_readFact_62 ⟨Nat.le_of_ble_eq_true rfl, Nat.le_of_ble_eq_true rfl⟩ (fun v_61 u_62 H locs hv_63 hP₀ hD₀ hS₀ => ?_)
        obtain ⟨sv_64, sv_65, sv_66⟩ := u_62
        obtain ⟨r_68, rfl, he_69, pf_67, hm_71, hm_72⟩ := hv_63
        have he_69 : (r_68.toInt = 0 ∨ r_68.toInt = 1) := he_69
        have pf_67 : 0 ≤ ((Tv 0) : Int32).toInt ∧ ((Tv 0) : Int32).toInt ≤ 400 ∧ 0 ≤ (sv_64 : Int32).toInt ∧ (sv_64 : Int32).toInt ≤ 400 ∧ 0 ≤ (sv_65 : Int32).toInt ∧ (sv_65 : Int32).toInt ≤ 400 := pf_67
        refine W.eq (g2 := F0 m 65 ls [.int r_68]) rfl ?_
        replace hP : va_P D classes [((Va 0), .inr (7, [.ref (Va 1), .int (Vv 0), .int (Vv 1)])), ((Va 1), .inl (tc 0, 400, .inl (Vf 1))), ((Ta 0), .inr (10, [.ref (Ta 1), .int (Tv 0), .int sv_64, .int sv_65, .int sv_66, .int (Tv 4)])), ((Ta 1), .inl (tc 0, 400, .inl (Tf 1)))] H := hP₀
        replace hD : va_D A [((Va 0), .inr (7, [.ref (Va 1), .int (Vv 0), .int (Vv 1)])), ((Va 1), .inl (tc 0, 400, .inl (Vf 1))), ((Ta 0), .inr (10, [.ref (Ta 1), .int (Tv 0), .int sv_64, .int sv_65, .int sv_66, .int (Tv 4)])), ((Ta 1), .inl (tc 0, 400, .inl (Tf 1)))] := hD₀
        replace hS := hS₀
        clear hP₀ hD₀ hS₀
        refine lv_if_eq (tgt := 93) hx hb dX7_readFact_65 (by decide) (fun c_73 => ?_) (fun c_73 => ?_)
        · skip
          have hz_76 : (r_68 : Int32).toInt = 0 := by
            have z_1 := congrArg Int32.toInt c_11
            have z_2 : ¬ ((Tv 3) : Int32).toInt = (91 : Int32).toInt := fun z => c_57 (Int32.toInt_inj.mp z)
            have z_3 := congrArg Int32.toInt c_58
            have z_4 := congrArg Int32.toInt c_73
            have y_0 : (0 : Int32).toInt = 0 := by decide
            have y_91 : (91 : Int32).toInt = 91 := by decide
            omega
          obtain ⟨pf_74, pf_75⟩ := hm_72 hz_76
          have pf_74 : NSg (cB (Tf 1) (Tv 0)) (91 : Int) rr := pf_74
          have pf_75 : TpR (Tf 1) (Tv 0) rr sv_64 sv_65 sv_66 (Tv 4) := pf_75
          have tb_77 : TpB (rTE (cB (Tf 1) (Tv 0)) rr) sv_65 (Tv 4) := TpR.tb pf_75
          refine lv_aload_n hx hb dX7_readFact_93 rfl (lv_at hl 1 rfl) ?_
          refine lv_aload_n hx hb dX7_readFact_94 rfl (lv_at hl 2 rfl) ?_
          refine cV (a := (Va 0)) (As := [.ref (Ta 0)]) (rest := []) (wr := []) ⟨hx, hb, hml, hown, hts⟩ hK hX hA (cu_fX7_readSum l D tc sk (Va 0) (Va 1) (Vv 0) (Vv 1) (Vf 1) (Ta 0) (Ta 1) (Tv 0) sv_64 sv_65 sv_66 (Tv 4) (Tf 1) rr pf_67 h_u h_by pf_75 h_ct) k_624 k_621 k_623 k_7 k_99 pl_X7_readSum ⟨Nat.le_of_ble_eq_true rfl, Nat.le_of_ble_eq_true rfl⟩ rfl rfl (va_recv hK hP (ci := 7) (q0 := 0) rfl rfl) hP hD hS [0, 1, 2, 3] [] rfl rfl rfl rfl rfl (by decide) rfl hl.1 rfl (Nat.le_of_ble_eq_true rfl) dX7_readFact_95 ⟨Nat.le_of_ble_eq_true rfl, Nat.le_of_ble_eq_true rfl⟩ (fun v_78 u_79 H locs hv_80 hP₀ hD₀ hS₀ => ?_)
          obtain ⟨sv_81, sv_82, sv_83, sv_84, sv_85, sv_86, sv_87⟩ := u_79
          obtain ⟨rfl, pf_88, pf_89, pf_90, pf_91⟩ := hv_80
          have pf_88 : 0 ≤ ((Tv 0) : Int32).toInt ∧ ((Tv 0) : Int32).toInt ≤ 400 ∧ 0 ≤ (sv_84 : Int32).toInt ∧ (sv_84 : Int32).toInt ≤ 400 ∧ 0 ≤ (sv_85 : Int32).toInt ∧ (sv_85 : Int32).toInt ≤ 400 := pf_88
          have pf_89 : 0 ≤ (sv_81 : Int32).toInt ∧ (sv_81 : Int32).toInt ≤ 400 := pf_89
          have pf_90 : TpR (Tf 1) (Tv 0) (pz_b rr (pz_sum (cB (Tf 1) (Tv 0)))) sv_84 sv_85 sv_86 sv_87 := pf_90
          obtain ⟨ro_92, ero_92⟩ : ∃ z : Except Int (Nat × Nat), z = (pz_b rr (pz_sum (cB (Tf 1) (Tv 0)))) := ⟨_, rfl⟩
          rw [← ero_92] at pf_90
          have tb_93 : TpB (rTE (cB (Tf 1) (Tv 0)) ro_92) sv_85 sv_87 := TpR.tb pf_90
          have pf_91 : Ctd (pz_b rr (pz_sum (cB (Tf 1) (Tv 0)))) sv_82 := pf_91
          rw [← ero_92] at pf_91
          refine W.eq (g2 := F0 m 98 ls []) rfl ?_
          replace hP : va_P D classes [((Va 0), .inr (7, [.ref (Va 1), .int sv_81, .int sv_82])), ((Va 1), .inl (tc 0, 400, .inl sv_83)), ((Ta 0), .inr (10, [.ref (Ta 1), .int (Tv 0), .int sv_84, .int sv_85, .int sv_86, .int sv_87])), ((Ta 1), .inl (tc 0, 400, .inl (Tf 1)))] H := hP₀
          replace hD : va_D A [((Va 0), .inr (7, [.ref (Va 1), .int sv_81, .int sv_82])), ((Va 1), .inl (tc 0, 400, .inl sv_83)), ((Ta 0), .inr (10, [.ref (Ta 1), .int (Tv 0), .int sv_84, .int sv_85, .int sv_86, .int sv_87])), ((Ta 1), .inl (tc 0, 400, .inl (Tf 1)))] := hD₀
          replace hS := hS₀
          clear hP₀ hD₀ hS₀
          refine lv_aload_n hx hb dX7_readFact_98 rfl (lv_at hl 2 rfl) ?_
          refine cS (As := [.ref (Ta 0)]) (rest := []) (wr := [((Va 0), .inr (7, [.ref (Va 1), .int sv_81, .int sv_82])), ((Va 1), .inl (tc 0, 400, .inl sv_83))]) ⟨hx, hb, hml, hown, hts⟩ hK hX hA (cu_fX7_comparison l D tc sk (Ta 0) (Ta 1) (Tv 0) sv_84 sv_85 sv_86 sv_87 (Tf 1) pf_88) k_663 k_661 k_662 k_99 pl_X7_comparison ⟨Nat.le_of_ble_eq_true rfl, Nat.le_of_ble_eq_true rfl⟩ rfl rfl  hP hD hS [2, 3] [0, 1] rfl rfl rfl rfl rfl (by decide) rfl hl.1 rfl (Nat.le_of_ble_eq_true rfl) dX7_readFact_99 ⟨Nat.le_of_ble_eq_true rfl, Nat.le_of_ble_eq_true rfl⟩ (fun v_94 u_95 H locs hv_96 hP₀ hD₀ hS₀ => ?_)
          obtain ⟨r_97, rfl, he_98⟩ := hv_96
          have he_98 : ((r_97.toInt = -1 ∧ ¬ (60 ≤ sv_86.toInt ∧ sv_86.toInt ≤ 62)) ∨ (r_97.toInt ≤ -7 ∧ 60 ≤ sv_86.toInt ∧ sv_86.toInt ≤ 62)) := he_98
          refine W.eq (g2 := F0 m 102 ls [.int r_97]) rfl ?_
          replace hP : va_P D classes [((Va 0), .inr (7, [.ref (Va 1), .int sv_81, .int sv_82])), ((Va 1), .inl (tc 0, 400, .inl sv_83)), ((Ta 0), .inr (10, [.ref (Ta 1), .int (Tv 0), .int sv_84, .int sv_85, .int sv_86, .int sv_87])), ((Ta 1), .inl (tc 0, 400, .inl (Tf 1)))] H := hP₀
          replace hD : va_D A [((Va 0), .inr (7, [.ref (Va 1), .int sv_81, .int sv_82])), ((Va 1), .inl (tc 0, 400, .inl sv_83)), ((Ta 0), .inr (10, [.ref (Ta 1), .int (Tv 0), .int sv_84, .int sv_85, .int sv_86, .int sv_87])), ((Ta 1), .inl (tc 0, 400, .inl (Tf 1)))] := hD₀
          replace hS := hS₀
          clear hP₀ hD₀ hS₀
          refine lv_istore (lv' := [(4, .int r_97), (3, .int r_6), (0, .ref (Va 0)), (1, .ref (Ta 0)), (2, .int 6)]) hx hb dX7_readFact_102 hl (by decide) rfl (fun ls hl₀ => ?_)
          replace hl := hl₀
          clear hl₀
          refine lv_iload hx hb dX7_readFact_104 (lv_at hl 0 rfl) ?_
          refine lv_iconst (v := (-1)) hx hb dX7_readFact_106 (by decide) ?_
          refine lv_icmp_ne (tgt := 115) hx hb dX7_readFact_107 (by decide) (fun c_100 => ?_) (fun c_100 => ?_)
          · skip
            refine lv_aload_n hx hb dX7_readFact_115 rfl (lv_at hl 2 rfl) ?_
            refine lv_aload_n hx hb dX7_readFact_116 rfl (lv_at hl 3 rfl) ?_
            refine cV (a := (Va 0)) (As := [.ref (Ta 0)]) (rest := []) (wr := []) ⟨hx, hb, hml, hown, hts⟩ hK hX hA (cu_fX7_countOne l D tc sk (Va 0) (Va 1) sv_81 sv_82 sv_83 (Ta 0) (Ta 1) (Tv 0) sv_84 sv_85 sv_86 sv_87 (Tf 1) ro_92 pf_88 pf_89 h_by pf_90 pf_91) k_638 k_635 k_637 k_9 k_99 pl_X7_countOne ⟨Nat.le_of_ble_eq_true rfl, Nat.le_of_ble_eq_true rfl⟩ rfl rfl (va_recv hK hP (ci := 7) (q0 := 0) rfl rfl) hP hD hS [0, 1, 2, 3] [] rfl rfl rfl rfl rfl (by decide) rfl hl.1 rfl (Nat.le_of_ble_eq_true rfl) dX7_readFact_117 ⟨Nat.le_of_ble_eq_true rfl, Nat.le_of_ble_eq_true rfl⟩ (fun v_101 u_102 H locs hv_103 hP₀ hD₀ hS₀ => ?_)
            obtain ⟨sv_104, sv_105, sv_106⟩ := u_102
            obtain ⟨rfl, pf_107, pf_108, pf_109, pf_110⟩ := hv_103
            have pf_107 : 0 ≤ ((Tv 0) : Int32).toInt ∧ ((Tv 0) : Int32).toInt ≤ 400 ∧ 0 ≤ (sv_84 : Int32).toInt ∧ (sv_84 : Int32).toInt ≤ 400 ∧ 0 ≤ (sv_85 : Int32).toInt ∧ (sv_85 : Int32).toInt ≤ 400 := pf_107
            have pf_108 : 0 ≤ (sv_81 : Int32).toInt ∧ (sv_81 : Int32).toInt ≤ 400 := pf_108
            have pf_109 : TpR (Tf 1) (Tv 0) (rC1 ro_92) sv_84 sv_85 sv_105 sv_106 := pf_109
            obtain ⟨ro_111, ero_111⟩ : ∃ z : Except Int (Nat × Nat), z = (rC1 ro_92) := ⟨_, rfl⟩
            rw [← ero_111] at pf_109
            have tb_112 : TpB (rTE (cB (Tf 1) (Tv 0)) ro_111) sv_85 sv_106 := TpR.tb pf_109
            have pf_110 : Ctd (rC1 ro_92) sv_104 := pf_110
            rw [← ero_111] at pf_110
            refine W.eq (g2 := F0 m 120 ls []) rfl ?_
            replace hP : va_P D classes [((Va 0), .inr (7, [.ref (Va 1), .int sv_81, .int sv_104])), ((Va 1), .inl (tc 0, 400, .inl sv_83)), ((Ta 0), .inr (10, [.ref (Ta 1), .int (Tv 0), .int sv_84, .int sv_85, .int sv_105, .int sv_106])), ((Ta 1), .inl (tc 0, 400, .inl (Tf 1)))] H := hP₀
            replace hD : va_D A [((Va 0), .inr (7, [.ref (Va 1), .int sv_81, .int sv_104])), ((Va 1), .inl (tc 0, 400, .inl sv_83)), ((Ta 0), .inr (10, [.ref (Ta 1), .int (Tv 0), .int sv_84, .int sv_85, .int sv_105, .int sv_106])), ((Ta 1), .inl (tc 0, 400, .inl (Tf 1)))] := hD₀
            replace hS := hS₀
            clear hP₀ hD₀ hS₀
            refine lv_aload_n hx hb dX7_readFact_120 rfl (lv_at hl 3 rfl) ?_
            refine cV (a := (Ta 0)) (As := []) (rest := []) (wr := [((Va 0), .inr (7, [.ref (Va 1), .int sv_81, .int sv_104])), ((Va 1), .inl (tc 0, 400, .inl sv_83))]) ⟨hx, hb, hml, hown, hts⟩ hK hX hA (cu_fX10_step l D tc sk (Ta 0) (Ta 1) (Tv 0) sv_84 sv_85 sv_105 sv_106 (Tf 1) (rTE (cB (Tf 1) (Tv 0)) ro_111) pf_107 h_by tb_112) k_478 k_620 k_476 k_477 k_96 pl_X10_step ⟨Nat.le_of_ble_eq_true rfl, Nat.le_of_ble_eq_true rfl⟩ rfl rfl (va_recv hK hP (ci := 10) (q0 := 2) rfl rfl) hP hD hS [2, 3] [0, 1] rfl rfl rfl rfl rfl (by decide) rfl hl.1 rfl (Nat.le_of_ble_eq_true rfl) dX7_readFact_121 ⟨Nat.le_of_ble_eq_true rfl, Nat.le_of_ble_eq_true rfl⟩ (fun v_113 u_114 H locs hv_115 hP₀ hD₀ hS₀ => ?_)
            obtain ⟨sv_116, sv_117, sv_118⟩ := u_114
            obtain ⟨rfl, pf_119, pf_120⟩ := hv_115
            have pf_119 : 0 ≤ ((Tv 0) : Int32).toInt ∧ ((Tv 0) : Int32).toInt ≤ 400 ∧ 0 ≤ (sv_116 : Int32).toInt ∧ (sv_116 : Int32).toInt ≤ 400 ∧ 0 ≤ (sv_117 : Int32).toInt ∧ (sv_117 : Int32).toInt ≤ 400 := pf_119
            have pf_120 : TpR (Tf 1) (Tv 0) (rSK (cB (Tf 1) (Tv 0)) (rTE (cB (Tf 1) (Tv 0)) ro_111)) sv_116 sv_117 sv_118 sv_106 := pf_120
            rw [rNX_eq] at pf_120
            obtain ⟨ro_121, ero_121⟩ : ∃ z : Except Int (Nat × Nat), z = (rNX (cB (Tf 1) (Tv 0)) ro_111) := ⟨_, rfl⟩
            rw [← ero_121] at pf_120
            have tb_122 : TpB (rTE (cB (Tf 1) (Tv 0)) ro_121) sv_117 sv_106 := TpR.tb pf_120
            have cd_123 : Ctd ro_121 sv_104 := by rw [ero_121]; exact (Ctd.nx pf_110)
            refine W.eq (g2 := F0 m 124 ls []) rfl ?_
            replace hP : va_P D classes [((Va 0), .inr (7, [.ref (Va 1), .int sv_81, .int sv_104])), ((Va 1), .inl (tc 0, 400, .inl sv_83)), ((Ta 0), .inr (10, [.ref (Ta 1), .int (Tv 0), .int sv_116, .int sv_117, .int sv_118, .int sv_106])), ((Ta 1), .inl (tc 0, 400, .inl (Tf 1)))] H := hP₀
            replace hD : va_D A [((Va 0), .inr (7, [.ref (Va 1), .int sv_81, .int sv_104])), ((Va 1), .inl (tc 0, 400, .inl sv_83)), ((Ta 0), .inr (10, [.ref (Ta 1), .int (Tv 0), .int sv_116, .int sv_117, .int sv_118, .int sv_106])), ((Ta 1), .inl (tc 0, 400, .inl (Tf 1)))] := hD₀
            replace hS := hS₀
            clear hP₀ hD₀ hS₀
            refine lv_aload_n hx hb dX7_readFact_124 rfl (lv_at hl 2 rfl) ?_
            refine lv_aload_n hx hb dX7_readFact_125 rfl (lv_at hl 3 rfl) ?_
            refine cV (a := (Va 0)) (As := [.ref (Ta 0)]) (rest := []) (wr := []) ⟨hx, hb, hml, hown, hts⟩ hK hX hA (cu_fX7_readSum l D tc sk (Va 0) (Va 1) sv_81 sv_104 sv_83 (Ta 0) (Ta 1) (Tv 0) sv_116 sv_117 sv_118 sv_106 (Tf 1) ro_121 pf_119 pf_108 h_by pf_120 cd_123) k_624 k_621 k_623 k_7 k_99 pl_X7_readSum ⟨Nat.le_of_ble_eq_true rfl, Nat.le_of_ble_eq_true rfl⟩ rfl rfl (va_recv hK hP (ci := 7) (q0 := 0) rfl rfl) hP hD hS [0, 1, 2, 3] [] rfl rfl rfl rfl rfl (by decide) rfl hl.1 rfl (Nat.le_of_ble_eq_true rfl) dX7_readFact_126 ⟨Nat.le_of_ble_eq_true rfl, Nat.le_of_ble_eq_true rfl⟩ (fun v_124 u_125 H locs hv_126 hP₀ hD₀ hS₀ => ?_)
            obtain ⟨sv_127, sv_128, sv_129, sv_130, sv_131, sv_132, sv_133⟩ := u_125
            obtain ⟨rfl, pf_134, pf_135, pf_136, pf_137⟩ := hv_126
            have pf_134 : 0 ≤ ((Tv 0) : Int32).toInt ∧ ((Tv 0) : Int32).toInt ≤ 400 ∧ 0 ≤ (sv_130 : Int32).toInt ∧ (sv_130 : Int32).toInt ≤ 400 ∧ 0 ≤ (sv_131 : Int32).toInt ∧ (sv_131 : Int32).toInt ≤ 400 := pf_134
            have pf_135 : 0 ≤ (sv_127 : Int32).toInt ∧ (sv_127 : Int32).toInt ≤ 400 := pf_135
            have pf_136 : TpR (Tf 1) (Tv 0) (pz_b ro_121 (pz_sum (cB (Tf 1) (Tv 0)))) sv_130 sv_131 sv_132 sv_133 := pf_136
            obtain ⟨ro_138, ero_138⟩ : ∃ z : Except Int (Nat × Nat), z = (pz_b ro_121 (pz_sum (cB (Tf 1) (Tv 0)))) := ⟨_, rfl⟩
            rw [← ero_138] at pf_136
            have tb_139 : TpB (rTE (cB (Tf 1) (Tv 0)) ro_138) sv_131 sv_133 := TpR.tb pf_136
            have pf_137 : Ctd (pz_b ro_121 (pz_sum (cB (Tf 1) (Tv 0)))) sv_128 := pf_137
            rw [← ero_138] at pf_137
            refine W.eq (g2 := F0 m 129 ls []) rfl ?_
            replace hP : va_P D classes [((Va 0), .inr (7, [.ref (Va 1), .int sv_127, .int sv_128])), ((Va 1), .inl (tc 0, 400, .inl sv_129)), ((Ta 0), .inr (10, [.ref (Ta 1), .int (Tv 0), .int sv_130, .int sv_131, .int sv_132, .int sv_133])), ((Ta 1), .inl (tc 0, 400, .inl (Tf 1)))] H := hP₀
            replace hD : va_D A [((Va 0), .inr (7, [.ref (Va 1), .int sv_127, .int sv_128])), ((Va 1), .inl (tc 0, 400, .inl sv_129)), ((Ta 0), .inr (10, [.ref (Ta 1), .int (Tv 0), .int sv_130, .int sv_131, .int sv_132, .int sv_133])), ((Ta 1), .inl (tc 0, 400, .inl (Tf 1)))] := hD₀
            replace hS := hS₀
            clear hP₀ hD₀ hS₀
            refine lv_aload_n hx hb dX7_readFact_129 rfl (lv_at hl 2 rfl) ?_
            refine lv_iload hx hb dX7_readFact_130 (lv_at hl 0 rfl) ?_
            refine cV (a := (Va 0)) (As := [.int r_97]) (rest := []) (wr := [((Ta 0), .inr (10, [.ref (Ta 1), .int (Tv 0), .int sv_130, .int sv_131, .int sv_132, .int sv_133])), ((Ta 1), .inl (tc 0, 400, .inl (Tf 1)))]) ⟨hx, hb, hml, hown, hts⟩ hK hX hA (cu_fX7_put l D tc sk (Va 0) (Va 1) sv_127 sv_128 sv_129 r_97 pf_135) k_642 k_639 k_641 k_10 k_99 pl_X7_put ⟨Nat.le_of_ble_eq_true rfl, Nat.le_of_ble_eq_true rfl⟩ rfl rfl (va_recv hK hP (ci := 7) (q0 := 0) rfl rfl) hP hD hS [0, 1] [2, 3] rfl rfl rfl rfl rfl (by decide) rfl hl.1 rfl (Nat.le_of_ble_eq_true rfl) dX7_readFact_132 ⟨Nat.le_of_ble_eq_true rfl, Nat.le_of_ble_eq_true rfl⟩ (fun v_140 u_141 H locs hv_142 hP₀ hD₀ hS₀ => ?_)
            obtain ⟨sv_143, sv_144⟩ := u_141
            obtain ⟨rfl, pf_145⟩ := hv_142
            have pf_145 : 0 ≤ (sv_143 : Int32).toInt ∧ (sv_143 : Int32).toInt ≤ 400 := pf_145
            refine W.eq (g2 := F0 m 135 ls []) rfl ?_
            replace hP : va_P D classes [((Ta 0), .inr (10, [.ref (Ta 1), .int (Tv 0), .int sv_130, .int sv_131, .int sv_132, .int sv_133])), ((Ta 1), .inl (tc 0, 400, .inl (Tf 1))), ((Va 0), .inr (7, [.ref (Va 1), .int sv_143, .int sv_128])), ((Va 1), .inl (tc 0, 400, .inl sv_144))] H := hP₀
            replace hD : va_D A [((Ta 0), .inr (10, [.ref (Ta 1), .int (Tv 0), .int sv_130, .int sv_131, .int sv_132, .int sv_133])), ((Ta 1), .inl (tc 0, 400, .inl (Tf 1))), ((Va 0), .inr (7, [.ref (Va 1), .int sv_143, .int sv_128])), ((Va 1), .inl (tc 0, 400, .inl sv_144))] := hD₀
            replace hS := hS₀
            clear hP₀ hD₀ hS₀
            have hf_146 : TpR (Tf 1) (Tv 0) (pz_b rr (pz_fact (cB (Tf 1) (Tv 0)) 4)) sv_130 sv_131 sv_132 sv_133 := by
              have hE_147 : (pz_b rr (pz_fact (cB (Tf 1) (Tv 0)) 4)) = ro_138 := by
                rw [ero_138, ero_121, ero_111, ero_92]
                have hw_148 : NWd (cB (Tf 1) (Tv 0)) pz_not rr := by
                  rw [← wS4]
                  exact pf_55
                have hw_149 : NSg (cB (Tf 1) (Tv 0)) 91 rr := by
                  exact pf_74
                have hu_150 : TpR (Tf 1) (Tv 0) (pz_b rr (pz_sum (cB (Tf 1) (Tv 0)))) sv_84 sv_85 sv_86 sv_87 := by
                  rw [← ero_92]
                  exact pf_90
                have hr_151 : 60 ≤ (sv_86 : Int32).toInt ∧ (sv_86 : Int32).toInt ≤ 62 := by
                  have z_1 := congrArg Int32.toInt c_11
                  have z_2 : ¬ ((Tv 3) : Int32).toInt = (91 : Int32).toInt := fun z => c_57 (Int32.toInt_inj.mp z)
                  have z_3 := congrArg Int32.toInt c_58
                  have z_4 := congrArg Int32.toInt c_73
                  have z_5 : ¬ (r_97 : Int32).toInt = ((-1) : Int32).toInt := fun z => c_100 (Int32.toInt_inj.mp z)
                  have y_m1 : (-1 : Int32).toInt = -1 := by decide
                  have y_0 : (0 : Int32).toInt = 0 := by decide
                  have y_91 : (91 : Int32).toInt = 91 := by decide
                  omega
                exact ((fact_com hw_148 hw_149).trans (congrArg (fun z => pz_b z (pz_sum (cB (Tf 1) (Tv 0)))) (com_yes hu_150 hr_151)))
              rw [hE_147]
              exact pf_136
            have hf_152 : Ctd (pz_b rr (pz_fact (cB (Tf 1) (Tv 0)) 4)) sv_128 := by
              have hE_153 : (pz_b rr (pz_fact (cB (Tf 1) (Tv 0)) 4)) = ro_138 := by
                rw [ero_138, ero_121, ero_111, ero_92]
                have hw_154 : NWd (cB (Tf 1) (Tv 0)) pz_not rr := by
                  rw [← wS4]
                  exact pf_55
                have hw_155 : NSg (cB (Tf 1) (Tv 0)) 91 rr := by
                  exact pf_74
                have hu_156 : TpR (Tf 1) (Tv 0) (pz_b rr (pz_sum (cB (Tf 1) (Tv 0)))) sv_84 sv_85 sv_86 sv_87 := by
                  rw [← ero_92]
                  exact pf_90
                have hr_157 : 60 ≤ (sv_86 : Int32).toInt ∧ (sv_86 : Int32).toInt ≤ 62 := by
                  have z_1 := congrArg Int32.toInt c_11
                  have z_2 : ¬ ((Tv 3) : Int32).toInt = (91 : Int32).toInt := fun z => c_57 (Int32.toInt_inj.mp z)
                  have z_3 := congrArg Int32.toInt c_58
                  have z_4 := congrArg Int32.toInt c_73
                  have z_5 : ¬ (r_97 : Int32).toInt = ((-1) : Int32).toInt := fun z => c_100 (Int32.toInt_inj.mp z)
                  have y_m1 : (-1 : Int32).toInt = -1 := by decide
                  have y_0 : (0 : Int32).toInt = 0 := by decide
                  have y_91 : (91 : Int32).toInt = 91 := by decide
                  omega
                exact ((fact_com hw_154 hw_155).trans (congrArg (fun z => pz_b z (pz_sum (cB (Tf 1) (Tv 0)))) (com_yes hu_156 hr_157)))
              rw [hE_153]
              exact pf_137
            exact retV hx hb hr hlk hP hD hS (sv_143, sv_128, sv_144, sv_130, sv_131, sv_132, sv_133) ⟨rfl, pf_134, pf_145, hf_146, hf_152⟩ [2, 3, 0, 1] rfl rfl dX7_readFact_135 (Nat.le_of_ble_eq_true rfl) (Nat.le_of_ble_eq_true rfl) rfl
          · skip
            refine lv_aload_n hx hb dX7_readFact_110 rfl (lv_at hl 3 rfl) ?_
            refine lv_iconst (v := 0) hx hb dX7_readFact_111 (by decide) ?_
            have ha_158 : 0 ≤ (0 : Int32).toInt ∧ (0 : Int32).toInt ≤ 4 := by
              have z_1 := congrArg Int32.toInt c_11
              have z_2 : ¬ ((Tv 3) : Int32).toInt = (91 : Int32).toInt := fun z => c_57 (Int32.toInt_inj.mp z)
              have z_3 := congrArg Int32.toInt c_58
              have z_4 := congrArg Int32.toInt c_73
              have z_5 := congrArg Int32.toInt c_100
              have y_m1 : (-1 : Int32).toInt = -1 := by decide
              have y_0 : (0 : Int32).toInt = 0 := by decide
              have y_91 : (91 : Int32).toInt = 91 := by decide
              omega
            have ha_159 : (0 : Int32).toInt = (0 : Int) := by
              have z_1 := congrArg Int32.toInt c_11
              have z_2 : ¬ ((Tv 3) : Int32).toInt = (91 : Int32).toInt := fun z => c_57 (Int32.toInt_inj.mp z)
              have z_3 := congrArg Int32.toInt c_58
              have z_4 := congrArg Int32.toInt c_73
              have z_5 := congrArg Int32.toInt c_100
              have y_m1 : (-1 : Int32).toInt = -1 := by decide
              have y_0 : (0 : Int32).toInt = 0 := by decide
              have y_91 : (91 : Int32).toInt = 91 := by decide
              omega
            refine cV (a := (Ta 0)) (As := [.int 0]) (rest := []) (wr := [((Va 0), .inr (7, [.ref (Va 1), .int sv_81, .int sv_82])), ((Va 1), .inl (tc 0, 400, .inl sv_83))]) ⟨hx, hb, hml, hown, hts⟩ hK hX hA (cu_fX10_fail l D tc sk (Ta 0) (Ta 1) (Tv 0) sv_84 sv_85 sv_86 sv_87 (Tf 1) 0 ro_92 0 pf_88 pf_90 ha_158 ha_159) k_557 k_619 k_555 k_556 k_96 pl_X10_fail ⟨Nat.le_of_ble_eq_true rfl, Nat.le_of_ble_eq_true rfl⟩ rfl rfl (va_recv hK hP (ci := 10) (q0 := 2) rfl rfl) hP hD hS [2, 3] [0, 1] rfl rfl rfl rfl rfl (by decide) rfl hl.1 rfl (Nat.le_of_ble_eq_true rfl) dX7_readFact_112 ⟨Nat.le_of_ble_eq_true rfl, Nat.le_of_ble_eq_true rfl⟩ (fun v_160 u_161 H locs hv_162 hP₀ hD₀ hS₀ => ?_)
            obtain ⟨sv_163, sv_164⟩ := u_161
            obtain ⟨rfl, pf_165, pf_166⟩ := hv_162
            have pf_165 : 0 ≤ ((Tv 0) : Int32).toInt ∧ ((Tv 0) : Int32).toInt ≤ 400 ∧ 0 ≤ (sv_84 : Int32).toInt ∧ (sv_84 : Int32).toInt ≤ 400 ∧ 0 ≤ (sv_85 : Int32).toInt ∧ (sv_85 : Int32).toInt ≤ 400 := pf_165
            have pf_166 : TpR (Tf 1) (Tv 0) (rER (0 : Int) ro_92) sv_84 sv_85 sv_163 sv_164 := pf_166
            obtain ⟨ro_167, ero_167⟩ : ∃ z : Except Int (Nat × Nat), z = (rER 0 ro_92) := ⟨_, rfl⟩
            rw [← ero_167] at pf_166
            have tb_168 : TpB (rTE (cB (Tf 1) (Tv 0)) ro_167) sv_85 sv_164 := TpR.tb pf_166
            have cd_169 : Ctd ro_167 sv_82 := by rw [ero_167]; exact (Ctd.er)
            refine W.eq (g2 := F0 m 115 ls []) rfl ?_
            replace hP : va_P D classes [((Va 0), .inr (7, [.ref (Va 1), .int sv_81, .int sv_82])), ((Va 1), .inl (tc 0, 400, .inl sv_83)), ((Ta 0), .inr (10, [.ref (Ta 1), .int (Tv 0), .int sv_84, .int sv_85, .int sv_163, .int sv_164])), ((Ta 1), .inl (tc 0, 400, .inl (Tf 1)))] H := hP₀
            replace hD : va_D A [((Va 0), .inr (7, [.ref (Va 1), .int sv_81, .int sv_82])), ((Va 1), .inl (tc 0, 400, .inl sv_83)), ((Ta 0), .inr (10, [.ref (Ta 1), .int (Tv 0), .int sv_84, .int sv_85, .int sv_163, .int sv_164])), ((Ta 1), .inl (tc 0, 400, .inl (Tf 1)))] := hD₀
            replace hS := hS₀
            clear hP₀ hD₀ hS₀
            refine lv_aload_n hx hb dX7_readFact_115 rfl (lv_at hl 2 rfl) ?_
            refine lv_aload_n hx hb dX7_readFact_116 rfl (lv_at hl 3 rfl) ?_
            refine cV (a := (Va 0)) (As := [.ref (Ta 0)]) (rest := []) (wr := []) ⟨hx, hb, hml, hown, hts⟩ hK hX hA (cu_fX7_countOne l D tc sk (Va 0) (Va 1) sv_81 sv_82 sv_83 (Ta 0) (Ta 1) (Tv 0) sv_84 sv_85 sv_163 sv_164 (Tf 1) ro_167 pf_165 pf_89 h_by pf_166 cd_169) k_638 k_635 k_637 k_9 k_99 pl_X7_countOne ⟨Nat.le_of_ble_eq_true rfl, Nat.le_of_ble_eq_true rfl⟩ rfl rfl (va_recv hK hP (ci := 7) (q0 := 0) rfl rfl) hP hD hS [0, 1, 2, 3] [] rfl rfl rfl rfl rfl (by decide) rfl hl.1 rfl (Nat.le_of_ble_eq_true rfl) dX7_readFact_117 ⟨Nat.le_of_ble_eq_true rfl, Nat.le_of_ble_eq_true rfl⟩ (fun v_170 u_171 H locs hv_172 hP₀ hD₀ hS₀ => ?_)
            obtain ⟨sv_173, sv_174, sv_175⟩ := u_171
            obtain ⟨rfl, pf_176, pf_177, pf_178, pf_179⟩ := hv_172
            have pf_176 : 0 ≤ ((Tv 0) : Int32).toInt ∧ ((Tv 0) : Int32).toInt ≤ 400 ∧ 0 ≤ (sv_84 : Int32).toInt ∧ (sv_84 : Int32).toInt ≤ 400 ∧ 0 ≤ (sv_85 : Int32).toInt ∧ (sv_85 : Int32).toInt ≤ 400 := pf_176
            have pf_177 : 0 ≤ (sv_81 : Int32).toInt ∧ (sv_81 : Int32).toInt ≤ 400 := pf_177
            have pf_178 : TpR (Tf 1) (Tv 0) (rC1 ro_167) sv_84 sv_85 sv_174 sv_175 := pf_178
            obtain ⟨ro_180, ero_180⟩ : ∃ z : Except Int (Nat × Nat), z = (rC1 ro_167) := ⟨_, rfl⟩
            rw [← ero_180] at pf_178
            have tb_181 : TpB (rTE (cB (Tf 1) (Tv 0)) ro_180) sv_85 sv_175 := TpR.tb pf_178
            have pf_179 : Ctd (rC1 ro_167) sv_173 := pf_179
            rw [← ero_180] at pf_179
            refine W.eq (g2 := F0 m 120 ls []) rfl ?_
            replace hP : va_P D classes [((Va 0), .inr (7, [.ref (Va 1), .int sv_81, .int sv_173])), ((Va 1), .inl (tc 0, 400, .inl sv_83)), ((Ta 0), .inr (10, [.ref (Ta 1), .int (Tv 0), .int sv_84, .int sv_85, .int sv_174, .int sv_175])), ((Ta 1), .inl (tc 0, 400, .inl (Tf 1)))] H := hP₀
            replace hD : va_D A [((Va 0), .inr (7, [.ref (Va 1), .int sv_81, .int sv_173])), ((Va 1), .inl (tc 0, 400, .inl sv_83)), ((Ta 0), .inr (10, [.ref (Ta 1), .int (Tv 0), .int sv_84, .int sv_85, .int sv_174, .int sv_175])), ((Ta 1), .inl (tc 0, 400, .inl (Tf 1)))] := hD₀
            replace hS := hS₀
            clear hP₀ hD₀ hS₀
            refine lv_aload_n hx hb dX7_readFact_120 rfl (lv_at hl 3 rfl) ?_
            refine cV (a := (Ta 0)) (As := []) (rest := []) (wr := [((Va 0), .inr (7, [.ref (Va 1), .int sv_81, .int sv_173])), ((Va 1), .inl (tc 0, 400, .inl sv_83))]) ⟨hx, hb, hml, hown, hts⟩ hK hX hA (cu_fX10_step l D tc sk (Ta 0) (Ta 1) (Tv 0) sv_84 sv_85 sv_174 sv_175 (Tf 1) (rTE (cB (Tf 1) (Tv 0)) ro_180) pf_176 h_by tb_181) k_478 k_620 k_476 k_477 k_96 pl_X10_step ⟨Nat.le_of_ble_eq_true rfl, Nat.le_of_ble_eq_true rfl⟩ rfl rfl (va_recv hK hP (ci := 10) (q0 := 2) rfl rfl) hP hD hS [2, 3] [0, 1] rfl rfl rfl rfl rfl (by decide) rfl hl.1 rfl (Nat.le_of_ble_eq_true rfl) dX7_readFact_121 ⟨Nat.le_of_ble_eq_true rfl, Nat.le_of_ble_eq_true rfl⟩ (fun v_182 u_183 H locs hv_184 hP₀ hD₀ hS₀ => ?_)
            obtain ⟨sv_185, sv_186, sv_187⟩ := u_183
            obtain ⟨rfl, pf_188, pf_189⟩ := hv_184
            have pf_188 : 0 ≤ ((Tv 0) : Int32).toInt ∧ ((Tv 0) : Int32).toInt ≤ 400 ∧ 0 ≤ (sv_185 : Int32).toInt ∧ (sv_185 : Int32).toInt ≤ 400 ∧ 0 ≤ (sv_186 : Int32).toInt ∧ (sv_186 : Int32).toInt ≤ 400 := pf_188
            have pf_189 : TpR (Tf 1) (Tv 0) (rSK (cB (Tf 1) (Tv 0)) (rTE (cB (Tf 1) (Tv 0)) ro_180)) sv_185 sv_186 sv_187 sv_175 := pf_189
            rw [rNX_eq] at pf_189
            obtain ⟨ro_190, ero_190⟩ : ∃ z : Except Int (Nat × Nat), z = (rNX (cB (Tf 1) (Tv 0)) ro_180) := ⟨_, rfl⟩
            rw [← ero_190] at pf_189
            have tb_191 : TpB (rTE (cB (Tf 1) (Tv 0)) ro_190) sv_186 sv_175 := TpR.tb pf_189
            have cd_192 : Ctd ro_190 sv_173 := by rw [ero_190]; exact (Ctd.nx pf_179)
            refine W.eq (g2 := F0 m 124 ls []) rfl ?_
            replace hP : va_P D classes [((Va 0), .inr (7, [.ref (Va 1), .int sv_81, .int sv_173])), ((Va 1), .inl (tc 0, 400, .inl sv_83)), ((Ta 0), .inr (10, [.ref (Ta 1), .int (Tv 0), .int sv_185, .int sv_186, .int sv_187, .int sv_175])), ((Ta 1), .inl (tc 0, 400, .inl (Tf 1)))] H := hP₀
            replace hD : va_D A [((Va 0), .inr (7, [.ref (Va 1), .int sv_81, .int sv_173])), ((Va 1), .inl (tc 0, 400, .inl sv_83)), ((Ta 0), .inr (10, [.ref (Ta 1), .int (Tv 0), .int sv_185, .int sv_186, .int sv_187, .int sv_175])), ((Ta 1), .inl (tc 0, 400, .inl (Tf 1)))] := hD₀
            replace hS := hS₀
            clear hP₀ hD₀ hS₀
            refine lv_aload_n hx hb dX7_readFact_124 rfl (lv_at hl 2 rfl) ?_
            refine lv_aload_n hx hb dX7_readFact_125 rfl (lv_at hl 3 rfl) ?_
            refine cV (a := (Va 0)) (As := [.ref (Ta 0)]) (rest := []) (wr := []) ⟨hx, hb, hml, hown, hts⟩ hK hX hA (cu_fX7_readSum l D tc sk (Va 0) (Va 1) sv_81 sv_173 sv_83 (Ta 0) (Ta 1) (Tv 0) sv_185 sv_186 sv_187 sv_175 (Tf 1) ro_190 pf_188 pf_177 h_by pf_189 cd_192) k_624 k_621 k_623 k_7 k_99 pl_X7_readSum ⟨Nat.le_of_ble_eq_true rfl, Nat.le_of_ble_eq_true rfl⟩ rfl rfl (va_recv hK hP (ci := 7) (q0 := 0) rfl rfl) hP hD hS [0, 1, 2, 3] [] rfl rfl rfl rfl rfl (by decide) rfl hl.1 rfl (Nat.le_of_ble_eq_true rfl) dX7_readFact_126 ⟨Nat.le_of_ble_eq_true rfl, Nat.le_of_ble_eq_true rfl⟩ (fun v_193 u_194 H locs hv_195 hP₀ hD₀ hS₀ => ?_)
            obtain ⟨sv_196, sv_197, sv_198, sv_199, sv_200, sv_201, sv_202⟩ := u_194
            obtain ⟨rfl, pf_203, pf_204, pf_205, pf_206⟩ := hv_195
            have pf_203 : 0 ≤ ((Tv 0) : Int32).toInt ∧ ((Tv 0) : Int32).toInt ≤ 400 ∧ 0 ≤ (sv_199 : Int32).toInt ∧ (sv_199 : Int32).toInt ≤ 400 ∧ 0 ≤ (sv_200 : Int32).toInt ∧ (sv_200 : Int32).toInt ≤ 400 := pf_203
            have pf_204 : 0 ≤ (sv_196 : Int32).toInt ∧ (sv_196 : Int32).toInt ≤ 400 := pf_204
            have pf_205 : TpR (Tf 1) (Tv 0) (pz_b ro_190 (pz_sum (cB (Tf 1) (Tv 0)))) sv_199 sv_200 sv_201 sv_202 := pf_205
            obtain ⟨ro_207, ero_207⟩ : ∃ z : Except Int (Nat × Nat), z = (pz_b ro_190 (pz_sum (cB (Tf 1) (Tv 0)))) := ⟨_, rfl⟩
            rw [← ero_207] at pf_205
            have tb_208 : TpB (rTE (cB (Tf 1) (Tv 0)) ro_207) sv_200 sv_202 := TpR.tb pf_205
            have pf_206 : Ctd (pz_b ro_190 (pz_sum (cB (Tf 1) (Tv 0)))) sv_197 := pf_206
            rw [← ero_207] at pf_206
            refine W.eq (g2 := F0 m 129 ls []) rfl ?_
            replace hP : va_P D classes [((Va 0), .inr (7, [.ref (Va 1), .int sv_196, .int sv_197])), ((Va 1), .inl (tc 0, 400, .inl sv_198)), ((Ta 0), .inr (10, [.ref (Ta 1), .int (Tv 0), .int sv_199, .int sv_200, .int sv_201, .int sv_202])), ((Ta 1), .inl (tc 0, 400, .inl (Tf 1)))] H := hP₀
            replace hD : va_D A [((Va 0), .inr (7, [.ref (Va 1), .int sv_196, .int sv_197])), ((Va 1), .inl (tc 0, 400, .inl sv_198)), ((Ta 0), .inr (10, [.ref (Ta 1), .int (Tv 0), .int sv_199, .int sv_200, .int sv_201, .int sv_202])), ((Ta 1), .inl (tc 0, 400, .inl (Tf 1)))] := hD₀
            replace hS := hS₀
            clear hP₀ hD₀ hS₀
            refine lv_aload_n hx hb dX7_readFact_129 rfl (lv_at hl 2 rfl) ?_
            refine lv_iload hx hb dX7_readFact_130 (lv_at hl 0 rfl) ?_
            refine cV (a := (Va 0)) (As := [.int r_97]) (rest := []) (wr := [((Ta 0), .inr (10, [.ref (Ta 1), .int (Tv 0), .int sv_199, .int sv_200, .int sv_201, .int sv_202])), ((Ta 1), .inl (tc 0, 400, .inl (Tf 1)))]) ⟨hx, hb, hml, hown, hts⟩ hK hX hA (cu_fX7_put l D tc sk (Va 0) (Va 1) sv_196 sv_197 sv_198 r_97 pf_204) k_642 k_639 k_641 k_10 k_99 pl_X7_put ⟨Nat.le_of_ble_eq_true rfl, Nat.le_of_ble_eq_true rfl⟩ rfl rfl (va_recv hK hP (ci := 7) (q0 := 0) rfl rfl) hP hD hS [0, 1] [2, 3] rfl rfl rfl rfl rfl (by decide) rfl hl.1 rfl (Nat.le_of_ble_eq_true rfl) dX7_readFact_132 ⟨Nat.le_of_ble_eq_true rfl, Nat.le_of_ble_eq_true rfl⟩ (fun v_209 u_210 H locs hv_211 hP₀ hD₀ hS₀ => ?_)
            obtain ⟨sv_212, sv_213⟩ := u_210
            obtain ⟨rfl, pf_214⟩ := hv_211
            have pf_214 : 0 ≤ (sv_212 : Int32).toInt ∧ (sv_212 : Int32).toInt ≤ 400 := pf_214
            refine W.eq (g2 := F0 m 135 ls []) rfl ?_
            replace hP : va_P D classes [((Ta 0), .inr (10, [.ref (Ta 1), .int (Tv 0), .int sv_199, .int sv_200, .int sv_201, .int sv_202])), ((Ta 1), .inl (tc 0, 400, .inl (Tf 1))), ((Va 0), .inr (7, [.ref (Va 1), .int sv_212, .int sv_197])), ((Va 1), .inl (tc 0, 400, .inl sv_213))] H := hP₀
            replace hD : va_D A [((Ta 0), .inr (10, [.ref (Ta 1), .int (Tv 0), .int sv_199, .int sv_200, .int sv_201, .int sv_202])), ((Ta 1), .inl (tc 0, 400, .inl (Tf 1))), ((Va 0), .inr (7, [.ref (Va 1), .int sv_212, .int sv_197])), ((Va 1), .inl (tc 0, 400, .inl sv_213))] := hD₀
            replace hS := hS₀
            clear hP₀ hD₀ hS₀
            have hf_215 : TpR (Tf 1) (Tv 0) (pz_b rr (pz_fact (cB (Tf 1) (Tv 0)) 4)) sv_199 sv_200 sv_201 sv_202 := by
              have hE_216 : (pz_b rr (pz_fact (cB (Tf 1) (Tv 0)) 4)) = ro_207 := by
                rw [ero_207, ero_190, ero_180, ero_167, ero_92]
                have hw_217 : NWd (cB (Tf 1) (Tv 0)) pz_not rr := by
                  rw [← wS4]
                  exact pf_55
                have hw_218 : NSg (cB (Tf 1) (Tv 0)) 91 rr := by
                  exact pf_74
                have hu_219 : TpR (Tf 1) (Tv 0) (pz_b rr (pz_sum (cB (Tf 1) (Tv 0)))) sv_84 sv_85 sv_86 sv_87 := by
                  rw [← ero_92]
                  exact pf_90
                have hr_220 : ¬ (60 ≤ (sv_86 : Int32).toInt ∧ (sv_86 : Int32).toInt ≤ 62) := by
                  have z_1 := congrArg Int32.toInt c_11
                  have z_2 : ¬ ((Tv 3) : Int32).toInt = (91 : Int32).toInt := fun z => c_57 (Int32.toInt_inj.mp z)
                  have z_3 := congrArg Int32.toInt c_58
                  have z_4 := congrArg Int32.toInt c_73
                  have z_5 := congrArg Int32.toInt c_100
                  have y_m1 : (-1 : Int32).toInt = -1 := by decide
                  have y_0 : (0 : Int32).toInt = 0 := by decide
                  have y_91 : (91 : Int32).toInt = 91 := by decide
                  omega
                exact ((fact_com hw_217 hw_218).trans (congrArg (fun z => pz_b z (pz_sum (cB (Tf 1) (Tv 0)))) (com_no hu_219 hr_220)))
              rw [hE_216]
              exact pf_205
            have hf_221 : Ctd (pz_b rr (pz_fact (cB (Tf 1) (Tv 0)) 4)) sv_197 := by
              have hE_222 : (pz_b rr (pz_fact (cB (Tf 1) (Tv 0)) 4)) = ro_207 := by
                rw [ero_207, ero_190, ero_180, ero_167, ero_92]
                have hw_223 : NWd (cB (Tf 1) (Tv 0)) pz_not rr := by
                  rw [← wS4]
                  exact pf_55
                have hw_224 : NSg (cB (Tf 1) (Tv 0)) 91 rr := by
                  exact pf_74
                have hu_225 : TpR (Tf 1) (Tv 0) (pz_b rr (pz_sum (cB (Tf 1) (Tv 0)))) sv_84 sv_85 sv_86 sv_87 := by
                  rw [← ero_92]
                  exact pf_90
                have hr_226 : ¬ (60 ≤ (sv_86 : Int32).toInt ∧ (sv_86 : Int32).toInt ≤ 62) := by
                  have z_1 := congrArg Int32.toInt c_11
                  have z_2 : ¬ ((Tv 3) : Int32).toInt = (91 : Int32).toInt := fun z => c_57 (Int32.toInt_inj.mp z)
                  have z_3 := congrArg Int32.toInt c_58
                  have z_4 := congrArg Int32.toInt c_73
                  have z_5 := congrArg Int32.toInt c_100
                  have y_m1 : (-1 : Int32).toInt = -1 := by decide
                  have y_0 : (0 : Int32).toInt = 0 := by decide
                  have y_91 : (91 : Int32).toInt = 91 := by decide
                  omega
                exact ((fact_com hw_223 hw_224).trans (congrArg (fun z => pz_b z (pz_sum (cB (Tf 1) (Tv 0)))) (com_no hu_225 hr_226)))
              rw [hE_222]
              exact pf_206
            exact retV hx hb hr hlk hP hD hS (sv_212, sv_197, sv_213, sv_199, sv_200, sv_201, sv_202) ⟨rfl, pf_203, pf_214, hf_215, hf_221⟩ [2, 3, 0, 1] rfl rfl dX7_readFact_135 (Nat.le_of_ble_eq_true rfl) (Nat.le_of_ble_eq_true rfl) rfl
        · skip
          have hz_229 : (r_68 : Int32).toInt = 1 := by
            have z_1 := congrArg Int32.toInt c_11
            have z_2 : ¬ ((Tv 3) : Int32).toInt = (91 : Int32).toInt := fun z => c_57 (Int32.toInt_inj.mp z)
            have z_3 := congrArg Int32.toInt c_58
            have z_4 : ¬ (r_68 : Int32).toInt = (0 : Int32).toInt := fun z => c_73 (Int32.toInt_inj.mp z)
            have y_0 : (0 : Int32).toInt = 0 := by decide
            have y_91 : (91 : Int32).toInt = 91 := by decide
            omega
          obtain ⟨pf_227, pf_228⟩ := hm_71 hz_229
          have pf_227 : Sg (cB (Tf 1) (Tv 0)) (91 : Int) rr := pf_227
          have pf_228 : TpR (Tf 1) (Tv 0) (rNX (cB (Tf 1) (Tv 0)) rr) sv_64 sv_65 sv_66 (Tv 4) := pf_228
          obtain ⟨ro_230, ero_230⟩ : ∃ z : Except Int (Nat × Nat), z = (rNX (cB (Tf 1) (Tv 0)) rr) := ⟨_, rfl⟩
          rw [← ero_230] at pf_228
          have tb_231 : TpB (rTE (cB (Tf 1) (Tv 0)) ro_230) sv_65 (Tv 4) := TpR.tb pf_228
          have cd_232 : Ctd ro_230 (Vv 1) := by rw [ero_230]; exact (Ctd.nx h_ct)
          refine lv_aload_n hx hb dX7_readFact_68 rfl (lv_at hl 1 rfl) ?_
          refine lv_aload_n hx hb dX7_readFact_69 rfl (lv_at hl 2 rfl) ?_
          refine lv_iload_n hx hb dX7_readFact_70 rfl (lv_at hl 3 rfl) ?_
          refine lv_iconst (v := 1) hx hb dX7_readFact_71 (by decide) ?_
          refine lv_iadd hx hb dX7_readFact_72 ?_
          refine lv_lit (v := 7) (by decide) ?_
          refine cV (a := (Va 0)) (As := [.ref (Ta 0), .int 7]) (rest := []) (wr := []) ⟨hx, hb, hml, hown, hts⟩ hK hX hA (cu_fX7_readTest_7 l D tc sk (Va 0) (Va 1) (Vv 0) (Vv 1) (Vf 1) (Ta 0) (Ta 1) (Tv 0) sv_64 sv_65 sv_66 (Tv 4) (Tf 1) ro_230 pf_67 h_u h_by pf_228 cd_232) k_655 k_652 k_654 k_11 k_99 pl_X7_readTest ⟨Nat.le_of_ble_eq_true rfl, Nat.le_of_ble_eq_true rfl⟩ rfl rfl (va_recv hK hP (ci := 7) (q0 := 0) rfl rfl) hP hD hS [0, 1, 2, 3] [] rfl rfl rfl rfl rfl (by decide) rfl hl.1 rfl (Nat.le_of_ble_eq_true rfl) dX7_readFact_73 ⟨Nat.le_of_ble_eq_true rfl, Nat.le_of_ble_eq_true rfl⟩ (fun v_233 u_234 H locs hv_235 hP₀ hD₀ hS₀ => ?_)
          obtain ⟨sv_236, sv_237, sv_238, sv_239, sv_240, sv_241, sv_242⟩ := u_234
          obtain ⟨rfl, pf_243, pf_244, pf_245, pf_246⟩ := hv_235
          have pf_243 : 0 ≤ ((Tv 0) : Int32).toInt ∧ ((Tv 0) : Int32).toInt ≤ 400 ∧ 0 ≤ (sv_239 : Int32).toInt ∧ (sv_239 : Int32).toInt ≤ 400 ∧ 0 ≤ (sv_240 : Int32).toInt ∧ (sv_240 : Int32).toInt ≤ 400 := pf_243
          have pf_244 : 0 ≤ (sv_236 : Int32).toInt ∧ (sv_236 : Int32).toInt ≤ 400 := pf_244
          have pf_245 : TpR (Tf 1) (Tv 0) (pz_b ro_230 (pz_tst (cB (Tf 1) (Tv 0)) (pz_fact (cB (Tf 1) (Tv 0)) 3))) sv_239 sv_240 sv_241 sv_242 := pf_245
          obtain ⟨ro_247, ero_247⟩ : ∃ z : Except Int (Nat × Nat), z = (pz_b ro_230 (pz_tst (cB (Tf 1) (Tv 0)) (pz_fact (cB (Tf 1) (Tv 0)) 3))) := ⟨_, rfl⟩
          rw [← ero_247] at pf_245
          have tb_248 : TpB (rTE (cB (Tf 1) (Tv 0)) ro_247) sv_240 sv_242 := TpR.tb pf_245
          have pf_246 : Ctd (pz_b ro_230 (pz_tst (cB (Tf 1) (Tv 0)) (pz_fact (cB (Tf 1) (Tv 0)) 3))) sv_237 := pf_246
          rw [← ero_247] at pf_246
          refine W.eq (g2 := F0 m 76 ls []) rfl ?_
          replace hP : va_P D classes [((Va 0), .inr (7, [.ref (Va 1), .int sv_236, .int sv_237])), ((Va 1), .inl (tc 0, 400, .inl sv_238)), ((Ta 0), .inr (10, [.ref (Ta 1), .int (Tv 0), .int sv_239, .int sv_240, .int sv_241, .int sv_242])), ((Ta 1), .inl (tc 0, 400, .inl (Tf 1)))] H := hP₀
          replace hD : va_D A [((Va 0), .inr (7, [.ref (Va 1), .int sv_236, .int sv_237])), ((Va 1), .inl (tc 0, 400, .inl sv_238)), ((Ta 0), .inr (10, [.ref (Ta 1), .int (Tv 0), .int sv_239, .int sv_240, .int sv_241, .int sv_242])), ((Ta 1), .inl (tc 0, 400, .inl (Tf 1)))] := hD₀
          replace hS := hS₀
          clear hP₀ hD₀ hS₀
          refine lv_aload_n hx hb dX7_readFact_76 rfl (lv_at hl 2 rfl) ?_
          refine lv_bipush (v := 93) hx hb dX7_readFact_77 (by decide) ?_
          have ha_249 : 0 ≤ (93 : Int32).toInt := by
            have z_1 := congrArg Int32.toInt c_11
            have z_2 : ¬ ((Tv 3) : Int32).toInt = (91 : Int32).toInt := fun z => c_57 (Int32.toInt_inj.mp z)
            have z_3 := congrArg Int32.toInt c_58
            have z_4 : ¬ (r_68 : Int32).toInt = (0 : Int32).toInt := fun z => c_73 (Int32.toInt_inj.mp z)
            have y_0 : (0 : Int32).toInt = 0 := by decide
            have y_91 : (91 : Int32).toInt = 91 := by decide
            have y_93 : (93 : Int32).toInt = 93 := by decide
            omega
          have ha_250 : (93 : Int32).toInt = (93 : Int) := by
            have z_1 := congrArg Int32.toInt c_11
            have z_2 : ¬ ((Tv 3) : Int32).toInt = (91 : Int32).toInt := fun z => c_57 (Int32.toInt_inj.mp z)
            have z_3 := congrArg Int32.toInt c_58
            have z_4 : ¬ (r_68 : Int32).toInt = (0 : Int32).toInt := fun z => c_73 (Int32.toInt_inj.mp z)
            have y_0 : (0 : Int32).toInt = 0 := by decide
            have y_91 : (91 : Int32).toInt = 91 := by decide
            have y_93 : (93 : Int32).toInt = 93 := by decide
            omega
          refine cV (a := (Ta 0)) (As := [.int 93]) (rest := []) (wr := [((Va 0), .inr (7, [.ref (Va 1), .int sv_236, .int sv_237])), ((Va 1), .inl (tc 0, 400, .inl sv_238))]) ⟨hx, hb, hml, hown, hts⟩ hK hX hA (cu_fX10_takes l D tc sk (Ta 0) (Ta 1) (Tv 0) sv_239 sv_240 sv_241 sv_242 (Tf 1) 93 ro_247 93 pf_243 h_by pf_245 ha_249 ha_250) k_492 k_613 k_490 k_491 k_96 pl_X10_takes ⟨Nat.le_of_ble_eq_true rfl, Nat.le_of_ble_eq_true rfl⟩ rfl rfl (va_recv hK hP (ci := 10) (q0 := 2) rfl rfl) hP hD hS [2, 3] [0, 1] rfl rfl rfl rfl rfl (by decide) rfl hl.1 rfl (Nat.le_of_ble_eq_true rfl) dX7_readFact_79 ⟨Nat.le_of_ble_eq_true rfl, Nat.le_of_ble_eq_true rfl⟩ (fun v_251 u_252 H locs hv_253 hP₀ hD₀ hS₀ => ?_)
          obtain ⟨sv_254, sv_255, sv_256⟩ := u_252
          obtain ⟨r_258, rfl, he_259, pf_257, hm_261, hm_262⟩ := hv_253
          have he_259 : (r_258.toInt = 0 ∨ r_258.toInt = 1) := he_259
          have pf_257 : 0 ≤ ((Tv 0) : Int32).toInt ∧ ((Tv 0) : Int32).toInt ≤ 400 ∧ 0 ≤ (sv_254 : Int32).toInt ∧ (sv_254 : Int32).toInt ≤ 400 ∧ 0 ≤ (sv_255 : Int32).toInt ∧ (sv_255 : Int32).toInt ≤ 400 := pf_257
          refine W.eq (g2 := F0 m 82 ls [.int r_258]) rfl ?_
          replace hP : va_P D classes [((Va 0), .inr (7, [.ref (Va 1), .int sv_236, .int sv_237])), ((Va 1), .inl (tc 0, 400, .inl sv_238)), ((Ta 0), .inr (10, [.ref (Ta 1), .int (Tv 0), .int sv_254, .int sv_255, .int sv_256, .int sv_242])), ((Ta 1), .inl (tc 0, 400, .inl (Tf 1)))] H := hP₀
          replace hD : va_D A [((Va 0), .inr (7, [.ref (Va 1), .int sv_236, .int sv_237])), ((Va 1), .inl (tc 0, 400, .inl sv_238)), ((Ta 0), .inr (10, [.ref (Ta 1), .int (Tv 0), .int sv_254, .int sv_255, .int sv_256, .int sv_242])), ((Ta 1), .inl (tc 0, 400, .inl (Tf 1)))] := hD₀
          replace hS := hS₀
          clear hP₀ hD₀ hS₀
          refine lv_if_ne (tgt := 135) hx hb dX7_readFact_82 (by decide) (fun c_263 => ?_) (fun c_263 => ?_)
          · skip
            have hz_266 : (r_258 : Int32).toInt = 1 := by
              have z_1 := congrArg Int32.toInt c_11
              have z_2 : ¬ ((Tv 3) : Int32).toInt = (91 : Int32).toInt := fun z => c_57 (Int32.toInt_inj.mp z)
              have z_3 := congrArg Int32.toInt c_58
              have z_4 : ¬ (r_68 : Int32).toInt = (0 : Int32).toInt := fun z => c_73 (Int32.toInt_inj.mp z)
              have z_5 : ¬ (r_258 : Int32).toInt = (0 : Int32).toInt := fun z => c_263 (Int32.toInt_inj.mp z)
              have y_0 : (0 : Int32).toInt = 0 := by decide
              have y_91 : (91 : Int32).toInt = 91 := by decide
              omega
            obtain ⟨pf_264, pf_265⟩ := hm_261 hz_266
            have pf_264 : Sg (cB (Tf 1) (Tv 0)) (93 : Int) ro_247 := pf_264
            have pf_265 : TpR (Tf 1) (Tv 0) (rNX (cB (Tf 1) (Tv 0)) ro_247) sv_254 sv_255 sv_256 sv_242 := pf_265
            obtain ⟨ro_267, ero_267⟩ : ∃ z : Except Int (Nat × Nat), z = (rNX (cB (Tf 1) (Tv 0)) ro_247) := ⟨_, rfl⟩
            rw [← ero_267] at pf_265
            have tb_268 : TpB (rTE (cB (Tf 1) (Tv 0)) ro_267) sv_255 sv_242 := TpR.tb pf_265
            have cd_269 : Ctd ro_267 sv_237 := by rw [ero_267]; exact (Ctd.nx pf_246)
            have hf_270 : TpR (Tf 1) (Tv 0) (pz_b rr (pz_fact (cB (Tf 1) (Tv 0)) 4)) sv_254 sv_255 sv_256 sv_242 := by
              have hE_271 : (pz_b rr (pz_fact (cB (Tf 1) (Tv 0)) 4)) = ro_267 := by
                rw [ero_267, ero_247, ero_230]
                have hw_272 : NWd (cB (Tf 1) (Tv 0)) pz_not rr := by
                  rw [← wS4]
                  exact pf_55
                have hw_273 : Sg (cB (Tf 1) (Tv 0)) 91 rr := by
                  exact pf_227
                have hw_274 : Sg (cB (Tf 1) (Tv 0)) 93 (pz_b (rNX (cB (Tf 1) (Tv 0)) rr) (pz_tst (cB (Tf 1) (Tv 0)) (pz_fact (cB (Tf 1) (Tv 0)) 3))) := by
                  rw [← ero_230, ← ero_247]
                  exact pf_264
                exact ((fact_br hw_272 hw_273).trans (rb_yes hw_274))
              rw [hE_271]
              exact pf_265
            have hf_275 : Ctd (pz_b rr (pz_fact (cB (Tf 1) (Tv 0)) 4)) sv_237 := by
              have hE_276 : (pz_b rr (pz_fact (cB (Tf 1) (Tv 0)) 4)) = ro_267 := by
                rw [ero_267, ero_247, ero_230]
                have hw_277 : NWd (cB (Tf 1) (Tv 0)) pz_not rr := by
                  rw [← wS4]
                  exact pf_55
                have hw_278 : Sg (cB (Tf 1) (Tv 0)) 91 rr := by
                  exact pf_227
                have hw_279 : Sg (cB (Tf 1) (Tv 0)) 93 (pz_b (rNX (cB (Tf 1) (Tv 0)) rr) (pz_tst (cB (Tf 1) (Tv 0)) (pz_fact (cB (Tf 1) (Tv 0)) 3))) := by
                  rw [← ero_230, ← ero_247]
                  exact pf_264
                exact ((fact_br hw_277 hw_278).trans (rb_yes hw_279))
              rw [hE_276]
              exact cd_269
            exact retV hx hb hr hlk hP hD hS (sv_236, sv_237, sv_238, sv_254, sv_255, sv_256, sv_242) ⟨rfl, pf_257, pf_244, hf_270, hf_275⟩ [0, 1, 2, 3] rfl rfl dX7_readFact_135 (Nat.le_of_ble_eq_true rfl) (Nat.le_of_ble_eq_true rfl) rfl
          · skip
            have hz_282 : (r_258 : Int32).toInt = 0 := by
              have z_1 := congrArg Int32.toInt c_11
              have z_2 : ¬ ((Tv 3) : Int32).toInt = (91 : Int32).toInt := fun z => c_57 (Int32.toInt_inj.mp z)
              have z_3 := congrArg Int32.toInt c_58
              have z_4 : ¬ (r_68 : Int32).toInt = (0 : Int32).toInt := fun z => c_73 (Int32.toInt_inj.mp z)
              have z_5 := congrArg Int32.toInt c_263
              have y_0 : (0 : Int32).toInt = 0 := by decide
              have y_91 : (91 : Int32).toInt = 91 := by decide
              omega
            obtain ⟨pf_280, pf_281⟩ := hm_262 hz_282
            have pf_280 : NSg (cB (Tf 1) (Tv 0)) (93 : Int) ro_247 := pf_280
            have pf_281 : TpR (Tf 1) (Tv 0) ro_247 sv_254 sv_255 sv_256 sv_242 := pf_281
            have tb_283 : TpB (rTE (cB (Tf 1) (Tv 0)) ro_247) sv_255 sv_242 := TpR.tb pf_281
            refine lv_aload_n hx hb dX7_readFact_85 rfl (lv_at hl 2 rfl) ?_
            refine lv_iconst (v := 0) hx hb dX7_readFact_86 (by decide) ?_
            have ha_284 : 0 ≤ (0 : Int32).toInt ∧ (0 : Int32).toInt ≤ 4 := by
              have z_1 := congrArg Int32.toInt c_11
              have z_2 : ¬ ((Tv 3) : Int32).toInt = (91 : Int32).toInt := fun z => c_57 (Int32.toInt_inj.mp z)
              have z_3 := congrArg Int32.toInt c_58
              have z_4 : ¬ (r_68 : Int32).toInt = (0 : Int32).toInt := fun z => c_73 (Int32.toInt_inj.mp z)
              have z_5 := congrArg Int32.toInt c_263
              have y_0 : (0 : Int32).toInt = 0 := by decide
              have y_91 : (91 : Int32).toInt = 91 := by decide
              omega
            have ha_285 : (0 : Int32).toInt = (0 : Int) := by
              have z_1 := congrArg Int32.toInt c_11
              have z_2 : ¬ ((Tv 3) : Int32).toInt = (91 : Int32).toInt := fun z => c_57 (Int32.toInt_inj.mp z)
              have z_3 := congrArg Int32.toInt c_58
              have z_4 : ¬ (r_68 : Int32).toInt = (0 : Int32).toInt := fun z => c_73 (Int32.toInt_inj.mp z)
              have z_5 := congrArg Int32.toInt c_263
              have y_0 : (0 : Int32).toInt = 0 := by decide
              have y_91 : (91 : Int32).toInt = 91 := by decide
              omega
            refine cV (a := (Ta 0)) (As := [.int 0]) (rest := []) (wr := [((Va 0), .inr (7, [.ref (Va 1), .int sv_236, .int sv_237])), ((Va 1), .inl (tc 0, 400, .inl sv_238))]) ⟨hx, hb, hml, hown, hts⟩ hK hX hA (cu_fX10_fail l D tc sk (Ta 0) (Ta 1) (Tv 0) sv_254 sv_255 sv_256 sv_242 (Tf 1) 0 ro_247 0 pf_257 pf_281 ha_284 ha_285) k_557 k_619 k_555 k_556 k_96 pl_X10_fail ⟨Nat.le_of_ble_eq_true rfl, Nat.le_of_ble_eq_true rfl⟩ rfl rfl (va_recv hK hP (ci := 10) (q0 := 2) rfl rfl) hP hD hS [2, 3] [0, 1] rfl rfl rfl rfl rfl (by decide) rfl hl.1 rfl (Nat.le_of_ble_eq_true rfl) dX7_readFact_87 ⟨Nat.le_of_ble_eq_true rfl, Nat.le_of_ble_eq_true rfl⟩ (fun v_286 u_287 H locs hv_288 hP₀ hD₀ hS₀ => ?_)
            obtain ⟨sv_289, sv_290⟩ := u_287
            obtain ⟨rfl, pf_291, pf_292⟩ := hv_288
            have pf_291 : 0 ≤ ((Tv 0) : Int32).toInt ∧ ((Tv 0) : Int32).toInt ≤ 400 ∧ 0 ≤ (sv_254 : Int32).toInt ∧ (sv_254 : Int32).toInt ≤ 400 ∧ 0 ≤ (sv_255 : Int32).toInt ∧ (sv_255 : Int32).toInt ≤ 400 := pf_291
            have pf_292 : TpR (Tf 1) (Tv 0) (rER (0 : Int) ro_247) sv_254 sv_255 sv_289 sv_290 := pf_292
            obtain ⟨ro_293, ero_293⟩ : ∃ z : Except Int (Nat × Nat), z = (rER 0 ro_247) := ⟨_, rfl⟩
            rw [← ero_293] at pf_292
            have tb_294 : TpB (rTE (cB (Tf 1) (Tv 0)) ro_293) sv_255 sv_290 := TpR.tb pf_292
            have cd_295 : Ctd ro_293 sv_237 := by rw [ero_293]; exact (Ctd.er)
            refine W.eq (g2 := F0 m 90 ls []) rfl ?_
            replace hP : va_P D classes [((Va 0), .inr (7, [.ref (Va 1), .int sv_236, .int sv_237])), ((Va 1), .inl (tc 0, 400, .inl sv_238)), ((Ta 0), .inr (10, [.ref (Ta 1), .int (Tv 0), .int sv_254, .int sv_255, .int sv_289, .int sv_290])), ((Ta 1), .inl (tc 0, 400, .inl (Tf 1)))] H := hP₀
            replace hD : va_D A [((Va 0), .inr (7, [.ref (Va 1), .int sv_236, .int sv_237])), ((Va 1), .inl (tc 0, 400, .inl sv_238)), ((Ta 0), .inr (10, [.ref (Ta 1), .int (Tv 0), .int sv_254, .int sv_255, .int sv_289, .int sv_290])), ((Ta 1), .inl (tc 0, 400, .inl (Tf 1)))] := hD₀
            replace hS := hS₀
            clear hP₀ hD₀ hS₀
            refine lv_goto (tgt := 135) hx hb dX7_readFact_90 (by decide) ?_
            have hf_296 : TpR (Tf 1) (Tv 0) (pz_b rr (pz_fact (cB (Tf 1) (Tv 0)) 4)) sv_254 sv_255 sv_289 sv_290 := by
              have hE_297 : (pz_b rr (pz_fact (cB (Tf 1) (Tv 0)) 4)) = ro_293 := by
                rw [ero_293, ero_247, ero_230]
                have hw_298 : NWd (cB (Tf 1) (Tv 0)) pz_not rr := by
                  rw [← wS4]
                  exact pf_55
                have hw_299 : Sg (cB (Tf 1) (Tv 0)) 91 rr := by
                  exact pf_227
                have hw_300 : NSg (cB (Tf 1) (Tv 0)) 93 (pz_b (rNX (cB (Tf 1) (Tv 0)) rr) (pz_tst (cB (Tf 1) (Tv 0)) (pz_fact (cB (Tf 1) (Tv 0)) 3))) := by
                  rw [← ero_230, ← ero_247]
                  exact pf_280
                exact ((fact_br hw_298 hw_299).trans (rb_no hw_300))
              rw [hE_297]
              exact pf_292
            have hf_301 : Ctd (pz_b rr (pz_fact (cB (Tf 1) (Tv 0)) 4)) sv_237 := by
              have hE_302 : (pz_b rr (pz_fact (cB (Tf 1) (Tv 0)) 4)) = ro_293 := by
                rw [ero_293, ero_247, ero_230]
                have hw_303 : NWd (cB (Tf 1) (Tv 0)) pz_not rr := by
                  rw [← wS4]
                  exact pf_55
                have hw_304 : Sg (cB (Tf 1) (Tv 0)) 91 rr := by
                  exact pf_227
                have hw_305 : NSg (cB (Tf 1) (Tv 0)) 93 (pz_b (rNX (cB (Tf 1) (Tv 0)) rr) (pz_tst (cB (Tf 1) (Tv 0)) (pz_fact (cB (Tf 1) (Tv 0)) 3))) := by
                  rw [← ero_230, ← ero_247]
                  exact pf_280
                exact ((fact_br hw_303 hw_304).trans (rb_no hw_305))
              rw [hE_302]
              exact cd_295
            exact retV hx hb hr hlk hP hD hS (sv_236, sv_237, sv_238, sv_254, sv_255, sv_289, sv_290) ⟨rfl, pf_291, pf_244, hf_296, hf_301⟩ [0, 1, 2, 3] rfl rfl dX7_readFact_135 (Nat.le_of_ble_eq_true rfl) (Nat.le_of_ble_eq_true rfl) rfl
      · skip
        exfalso
        have z_1 := congrArg Int32.toInt c_11
        have z_2 : ¬ ((Tv 3) : Int32).toInt = (91 : Int32).toInt := fun z => c_57 (Int32.toInt_inj.mp z)
        have z_3 : ¬ (r_6 : Int32).toInt = (0 : Int32).toInt := fun z => c_58 (Int32.toInt_inj.mp z)
        have y_0 : (0 : Int32).toInt = 0 := by decide
        have y_91 : (91 : Int32).toInt = 91 := by decide
        omega
    · skip
      refine lv_iload_n hx hb dX7_readFact_20 rfl (lv_at hl 3 rfl) ?_
      refine lv_bipush (v := 10) hx hb dX7_readFact_21 (by decide) ?_
      refine lv_icmp_lt (tgt := 34) hx hb dX7_readFact_23 (by decide) (fun c_306 => ?_) (fun c_306 => absurd c_306 (by decide))
      refine lv_iload_n hx hb dX7_readFact_34 rfl (lv_at hl 0 rfl) ?_
      refine lv_if_eq (tgt := 59) hx hb dX7_readFact_35 (by decide) (fun c_307 => ?_) (fun c_307 => ?_)
      · skip
        refine lv_aload_n hx hb dX7_readFact_59 rfl (lv_at hl 2 rfl) ?_
        refine lv_bipush (v := 91) hx hb dX7_readFact_60 (by decide) ?_
        have ha_308 : 0 ≤ (91 : Int32).toInt := by
          have z_1 := congrArg Int32.toInt c_11
          have z_2 := congrArg Int32.toInt c_57
          have z_3 := congrArg Int32.toInt c_307
          have y_0 : (0 : Int32).toInt = 0 := by decide
          have y_91 : (91 : Int32).toInt = 91 := by decide
          omega
        have ha_309 : (91 : Int32).toInt = (91 : Int) := by
          have z_1 := congrArg Int32.toInt c_11
          have z_2 := congrArg Int32.toInt c_57
          have z_3 := congrArg Int32.toInt c_307
          have y_0 : (0 : Int32).toInt = 0 := by decide
          have y_91 : (91 : Int32).toInt = 91 := by decide
          omega
        refine cV (a := (Ta 0)) (As := [.int 91]) (rest := []) (wr := [((Va 0), .inr (7, [.ref (Va 1), .int (Vv 0), .int (Vv 1)])), ((Va 1), .inl (tc 0, 400, .inl (Vf 1)))]) ⟨hx, hb, hml, hown, hts⟩ hK hX hA (cu_fX10_takes l D tc sk (Ta 0) (Ta 1) (Tv 0) (Tv 1) (Tv 2) (Tv 3) (Tv 4) (Tf 1) 91 rr 91 h_tape h_by h_r ha_308 ha_309) k_492 k_613 k_490 k_491 k_96 pl_X10_takes ⟨Nat.le_of_ble_eq_true rfl, Nat.le_of_ble_eq_true rfl⟩ rfl rfl (va_recv hK hP (ci := 10) (q0 := 2) rfl rfl) hP hD hS [2, 3] [0, 1] rfl rfl rfl rfl rfl (by decide) rfl hl.1 rfl (Nat.le_of_ble_eq_true rfl) dX7_readFact_62 ⟨Nat.le_of_ble_eq_true rfl, Nat.le_of_ble_eq_true rfl⟩ (fun v_310 u_311 H locs hv_312 hP₀ hD₀ hS₀ => ?_)
        obtain ⟨sv_313, sv_314, sv_315⟩ := u_311
        obtain ⟨r_317, rfl, he_318, pf_316, hm_320, hm_321⟩ := hv_312
        have he_318 : (r_317.toInt = 0 ∨ r_317.toInt = 1) := he_318
        have pf_316 : 0 ≤ ((Tv 0) : Int32).toInt ∧ ((Tv 0) : Int32).toInt ≤ 400 ∧ 0 ≤ (sv_313 : Int32).toInt ∧ (sv_313 : Int32).toInt ≤ 400 ∧ 0 ≤ (sv_314 : Int32).toInt ∧ (sv_314 : Int32).toInt ≤ 400 := pf_316
        refine W.eq (g2 := F0 m 65 ls [.int r_317]) rfl ?_
        replace hP : va_P D classes [((Va 0), .inr (7, [.ref (Va 1), .int (Vv 0), .int (Vv 1)])), ((Va 1), .inl (tc 0, 400, .inl (Vf 1))), ((Ta 0), .inr (10, [.ref (Ta 1), .int (Tv 0), .int sv_313, .int sv_314, .int sv_315, .int (Tv 4)])), ((Ta 1), .inl (tc 0, 400, .inl (Tf 1)))] H := hP₀
        replace hD : va_D A [((Va 0), .inr (7, [.ref (Va 1), .int (Vv 0), .int (Vv 1)])), ((Va 1), .inl (tc 0, 400, .inl (Vf 1))), ((Ta 0), .inr (10, [.ref (Ta 1), .int (Tv 0), .int sv_313, .int sv_314, .int sv_315, .int (Tv 4)])), ((Ta 1), .inl (tc 0, 400, .inl (Tf 1)))] := hD₀
        replace hS := hS₀
        clear hP₀ hD₀ hS₀
        refine lv_if_eq (tgt := 93) hx hb dX7_readFact_65 (by decide) (fun c_322 => ?_) (fun c_322 => ?_)
        · skip
          have hz_325 : (r_317 : Int32).toInt = 0 := by
            have z_1 := congrArg Int32.toInt c_11
            have z_2 := congrArg Int32.toInt c_57
            have z_3 := congrArg Int32.toInt c_307
            have z_4 := congrArg Int32.toInt c_322
            have y_0 : (0 : Int32).toInt = 0 := by decide
            have y_91 : (91 : Int32).toInt = 91 := by decide
            omega
          obtain ⟨pf_323, pf_324⟩ := hm_321 hz_325
          have pf_323 : NSg (cB (Tf 1) (Tv 0)) (91 : Int) rr := pf_323
          have pf_324 : TpR (Tf 1) (Tv 0) rr sv_313 sv_314 sv_315 (Tv 4) := pf_324
          have tb_326 : TpB (rTE (cB (Tf 1) (Tv 0)) rr) sv_314 (Tv 4) := TpR.tb pf_324
          refine lv_aload_n hx hb dX7_readFact_93 rfl (lv_at hl 1 rfl) ?_
          refine lv_aload_n hx hb dX7_readFact_94 rfl (lv_at hl 2 rfl) ?_
          refine cV (a := (Va 0)) (As := [.ref (Ta 0)]) (rest := []) (wr := []) ⟨hx, hb, hml, hown, hts⟩ hK hX hA (cu_fX7_readSum l D tc sk (Va 0) (Va 1) (Vv 0) (Vv 1) (Vf 1) (Ta 0) (Ta 1) (Tv 0) sv_313 sv_314 sv_315 (Tv 4) (Tf 1) rr pf_316 h_u h_by pf_324 h_ct) k_624 k_621 k_623 k_7 k_99 pl_X7_readSum ⟨Nat.le_of_ble_eq_true rfl, Nat.le_of_ble_eq_true rfl⟩ rfl rfl (va_recv hK hP (ci := 7) (q0 := 0) rfl rfl) hP hD hS [0, 1, 2, 3] [] rfl rfl rfl rfl rfl (by decide) rfl hl.1 rfl (Nat.le_of_ble_eq_true rfl) dX7_readFact_95 ⟨Nat.le_of_ble_eq_true rfl, Nat.le_of_ble_eq_true rfl⟩ (fun v_327 u_328 H locs hv_329 hP₀ hD₀ hS₀ => ?_)
          obtain ⟨sv_330, sv_331, sv_332, sv_333, sv_334, sv_335, sv_336⟩ := u_328
          obtain ⟨rfl, pf_337, pf_338, pf_339, pf_340⟩ := hv_329
          have pf_337 : 0 ≤ ((Tv 0) : Int32).toInt ∧ ((Tv 0) : Int32).toInt ≤ 400 ∧ 0 ≤ (sv_333 : Int32).toInt ∧ (sv_333 : Int32).toInt ≤ 400 ∧ 0 ≤ (sv_334 : Int32).toInt ∧ (sv_334 : Int32).toInt ≤ 400 := pf_337
          have pf_338 : 0 ≤ (sv_330 : Int32).toInt ∧ (sv_330 : Int32).toInt ≤ 400 := pf_338
          have pf_339 : TpR (Tf 1) (Tv 0) (pz_b rr (pz_sum (cB (Tf 1) (Tv 0)))) sv_333 sv_334 sv_335 sv_336 := pf_339
          obtain ⟨ro_341, ero_341⟩ : ∃ z : Except Int (Nat × Nat), z = (pz_b rr (pz_sum (cB (Tf 1) (Tv 0)))) := ⟨_, rfl⟩
          rw [← ero_341] at pf_339
          have tb_342 : TpB (rTE (cB (Tf 1) (Tv 0)) ro_341) sv_334 sv_336 := TpR.tb pf_339
          have pf_340 : Ctd (pz_b rr (pz_sum (cB (Tf 1) (Tv 0)))) sv_331 := pf_340
          rw [← ero_341] at pf_340
          refine W.eq (g2 := F0 m 98 ls []) rfl ?_
          replace hP : va_P D classes [((Va 0), .inr (7, [.ref (Va 1), .int sv_330, .int sv_331])), ((Va 1), .inl (tc 0, 400, .inl sv_332)), ((Ta 0), .inr (10, [.ref (Ta 1), .int (Tv 0), .int sv_333, .int sv_334, .int sv_335, .int sv_336])), ((Ta 1), .inl (tc 0, 400, .inl (Tf 1)))] H := hP₀
          replace hD : va_D A [((Va 0), .inr (7, [.ref (Va 1), .int sv_330, .int sv_331])), ((Va 1), .inl (tc 0, 400, .inl sv_332)), ((Ta 0), .inr (10, [.ref (Ta 1), .int (Tv 0), .int sv_333, .int sv_334, .int sv_335, .int sv_336])), ((Ta 1), .inl (tc 0, 400, .inl (Tf 1)))] := hD₀
          replace hS := hS₀
          clear hP₀ hD₀ hS₀
          refine lv_aload_n hx hb dX7_readFact_98 rfl (lv_at hl 2 rfl) ?_
          refine cS (As := [.ref (Ta 0)]) (rest := []) (wr := [((Va 0), .inr (7, [.ref (Va 1), .int sv_330, .int sv_331])), ((Va 1), .inl (tc 0, 400, .inl sv_332))]) ⟨hx, hb, hml, hown, hts⟩ hK hX hA (cu_fX7_comparison l D tc sk (Ta 0) (Ta 1) (Tv 0) sv_333 sv_334 sv_335 sv_336 (Tf 1) pf_337) k_663 k_661 k_662 k_99 pl_X7_comparison ⟨Nat.le_of_ble_eq_true rfl, Nat.le_of_ble_eq_true rfl⟩ rfl rfl  hP hD hS [2, 3] [0, 1] rfl rfl rfl rfl rfl (by decide) rfl hl.1 rfl (Nat.le_of_ble_eq_true rfl) dX7_readFact_99 ⟨Nat.le_of_ble_eq_true rfl, Nat.le_of_ble_eq_true rfl⟩ (fun v_343 u_344 H locs hv_345 hP₀ hD₀ hS₀ => ?_)
          obtain ⟨r_346, rfl, he_347⟩ := hv_345
          have he_347 : ((r_346.toInt = -1 ∧ ¬ (60 ≤ sv_335.toInt ∧ sv_335.toInt ≤ 62)) ∨ (r_346.toInt ≤ -7 ∧ 60 ≤ sv_335.toInt ∧ sv_335.toInt ≤ 62)) := he_347
          refine W.eq (g2 := F0 m 102 ls [.int r_346]) rfl ?_
          replace hP : va_P D classes [((Va 0), .inr (7, [.ref (Va 1), .int sv_330, .int sv_331])), ((Va 1), .inl (tc 0, 400, .inl sv_332)), ((Ta 0), .inr (10, [.ref (Ta 1), .int (Tv 0), .int sv_333, .int sv_334, .int sv_335, .int sv_336])), ((Ta 1), .inl (tc 0, 400, .inl (Tf 1)))] H := hP₀
          replace hD : va_D A [((Va 0), .inr (7, [.ref (Va 1), .int sv_330, .int sv_331])), ((Va 1), .inl (tc 0, 400, .inl sv_332)), ((Ta 0), .inr (10, [.ref (Ta 1), .int (Tv 0), .int sv_333, .int sv_334, .int sv_335, .int sv_336])), ((Ta 1), .inl (tc 0, 400, .inl (Tf 1)))] := hD₀
          replace hS := hS₀
          clear hP₀ hD₀ hS₀
          refine lv_istore (lv' := [(4, .int r_346), (3, .int r_6), (0, .ref (Va 0)), (1, .ref (Ta 0)), (2, .int 6)]) hx hb dX7_readFact_102 hl (by decide) rfl (fun ls hl₀ => ?_)
          replace hl := hl₀
          clear hl₀
          refine lv_iload hx hb dX7_readFact_104 (lv_at hl 0 rfl) ?_
          refine lv_iconst (v := (-1)) hx hb dX7_readFact_106 (by decide) ?_
          refine lv_icmp_ne (tgt := 115) hx hb dX7_readFact_107 (by decide) (fun c_349 => ?_) (fun c_349 => ?_)
          · skip
            refine lv_aload_n hx hb dX7_readFact_115 rfl (lv_at hl 2 rfl) ?_
            refine lv_aload_n hx hb dX7_readFact_116 rfl (lv_at hl 3 rfl) ?_
            refine cV (a := (Va 0)) (As := [.ref (Ta 0)]) (rest := []) (wr := []) ⟨hx, hb, hml, hown, hts⟩ hK hX hA (cu_fX7_countOne l D tc sk (Va 0) (Va 1) sv_330 sv_331 sv_332 (Ta 0) (Ta 1) (Tv 0) sv_333 sv_334 sv_335 sv_336 (Tf 1) ro_341 pf_337 pf_338 h_by pf_339 pf_340) k_638 k_635 k_637 k_9 k_99 pl_X7_countOne ⟨Nat.le_of_ble_eq_true rfl, Nat.le_of_ble_eq_true rfl⟩ rfl rfl (va_recv hK hP (ci := 7) (q0 := 0) rfl rfl) hP hD hS [0, 1, 2, 3] [] rfl rfl rfl rfl rfl (by decide) rfl hl.1 rfl (Nat.le_of_ble_eq_true rfl) dX7_readFact_117 ⟨Nat.le_of_ble_eq_true rfl, Nat.le_of_ble_eq_true rfl⟩ (fun v_350 u_351 H locs hv_352 hP₀ hD₀ hS₀ => ?_)
            obtain ⟨sv_353, sv_354, sv_355⟩ := u_351
            obtain ⟨rfl, pf_356, pf_357, pf_358, pf_359⟩ := hv_352
            have pf_356 : 0 ≤ ((Tv 0) : Int32).toInt ∧ ((Tv 0) : Int32).toInt ≤ 400 ∧ 0 ≤ (sv_333 : Int32).toInt ∧ (sv_333 : Int32).toInt ≤ 400 ∧ 0 ≤ (sv_334 : Int32).toInt ∧ (sv_334 : Int32).toInt ≤ 400 := pf_356
            have pf_357 : 0 ≤ (sv_330 : Int32).toInt ∧ (sv_330 : Int32).toInt ≤ 400 := pf_357
            have pf_358 : TpR (Tf 1) (Tv 0) (rC1 ro_341) sv_333 sv_334 sv_354 sv_355 := pf_358
            obtain ⟨ro_360, ero_360⟩ : ∃ z : Except Int (Nat × Nat), z = (rC1 ro_341) := ⟨_, rfl⟩
            rw [← ero_360] at pf_358
            have tb_361 : TpB (rTE (cB (Tf 1) (Tv 0)) ro_360) sv_334 sv_355 := TpR.tb pf_358
            have pf_359 : Ctd (rC1 ro_341) sv_353 := pf_359
            rw [← ero_360] at pf_359
            refine W.eq (g2 := F0 m 120 ls []) rfl ?_
            replace hP : va_P D classes [((Va 0), .inr (7, [.ref (Va 1), .int sv_330, .int sv_353])), ((Va 1), .inl (tc 0, 400, .inl sv_332)), ((Ta 0), .inr (10, [.ref (Ta 1), .int (Tv 0), .int sv_333, .int sv_334, .int sv_354, .int sv_355])), ((Ta 1), .inl (tc 0, 400, .inl (Tf 1)))] H := hP₀
            replace hD : va_D A [((Va 0), .inr (7, [.ref (Va 1), .int sv_330, .int sv_353])), ((Va 1), .inl (tc 0, 400, .inl sv_332)), ((Ta 0), .inr (10, [.ref (Ta 1), .int (Tv 0), .int sv_333, .int sv_334, .int sv_354, .int sv_355])), ((Ta 1), .inl (tc 0, 400, .inl (Tf 1)))] := hD₀
            replace hS := hS₀
            clear hP₀ hD₀ hS₀
            refine lv_aload_n hx hb dX7_readFact_120 rfl (lv_at hl 3 rfl) ?_
            refine cV (a := (Ta 0)) (As := []) (rest := []) (wr := [((Va 0), .inr (7, [.ref (Va 1), .int sv_330, .int sv_353])), ((Va 1), .inl (tc 0, 400, .inl sv_332))]) ⟨hx, hb, hml, hown, hts⟩ hK hX hA (cu_fX10_step l D tc sk (Ta 0) (Ta 1) (Tv 0) sv_333 sv_334 sv_354 sv_355 (Tf 1) (rTE (cB (Tf 1) (Tv 0)) ro_360) pf_356 h_by tb_361) k_478 k_620 k_476 k_477 k_96 pl_X10_step ⟨Nat.le_of_ble_eq_true rfl, Nat.le_of_ble_eq_true rfl⟩ rfl rfl (va_recv hK hP (ci := 10) (q0 := 2) rfl rfl) hP hD hS [2, 3] [0, 1] rfl rfl rfl rfl rfl (by decide) rfl hl.1 rfl (Nat.le_of_ble_eq_true rfl) dX7_readFact_121 ⟨Nat.le_of_ble_eq_true rfl, Nat.le_of_ble_eq_true rfl⟩ (fun v_362 u_363 H locs hv_364 hP₀ hD₀ hS₀ => ?_)
            obtain ⟨sv_365, sv_366, sv_367⟩ := u_363
            obtain ⟨rfl, pf_368, pf_369⟩ := hv_364
            have pf_368 : 0 ≤ ((Tv 0) : Int32).toInt ∧ ((Tv 0) : Int32).toInt ≤ 400 ∧ 0 ≤ (sv_365 : Int32).toInt ∧ (sv_365 : Int32).toInt ≤ 400 ∧ 0 ≤ (sv_366 : Int32).toInt ∧ (sv_366 : Int32).toInt ≤ 400 := pf_368
            have pf_369 : TpR (Tf 1) (Tv 0) (rSK (cB (Tf 1) (Tv 0)) (rTE (cB (Tf 1) (Tv 0)) ro_360)) sv_365 sv_366 sv_367 sv_355 := pf_369
            rw [rNX_eq] at pf_369
            obtain ⟨ro_370, ero_370⟩ : ∃ z : Except Int (Nat × Nat), z = (rNX (cB (Tf 1) (Tv 0)) ro_360) := ⟨_, rfl⟩
            rw [← ero_370] at pf_369
            have tb_371 : TpB (rTE (cB (Tf 1) (Tv 0)) ro_370) sv_366 sv_355 := TpR.tb pf_369
            have cd_372 : Ctd ro_370 sv_353 := by rw [ero_370]; exact (Ctd.nx pf_359)
            refine W.eq (g2 := F0 m 124 ls []) rfl ?_
            replace hP : va_P D classes [((Va 0), .inr (7, [.ref (Va 1), .int sv_330, .int sv_353])), ((Va 1), .inl (tc 0, 400, .inl sv_332)), ((Ta 0), .inr (10, [.ref (Ta 1), .int (Tv 0), .int sv_365, .int sv_366, .int sv_367, .int sv_355])), ((Ta 1), .inl (tc 0, 400, .inl (Tf 1)))] H := hP₀
            replace hD : va_D A [((Va 0), .inr (7, [.ref (Va 1), .int sv_330, .int sv_353])), ((Va 1), .inl (tc 0, 400, .inl sv_332)), ((Ta 0), .inr (10, [.ref (Ta 1), .int (Tv 0), .int sv_365, .int sv_366, .int sv_367, .int sv_355])), ((Ta 1), .inl (tc 0, 400, .inl (Tf 1)))] := hD₀
            replace hS := hS₀
            clear hP₀ hD₀ hS₀
            refine lv_aload_n hx hb dX7_readFact_124 rfl (lv_at hl 2 rfl) ?_
            refine lv_aload_n hx hb dX7_readFact_125 rfl (lv_at hl 3 rfl) ?_
            refine cV (a := (Va 0)) (As := [.ref (Ta 0)]) (rest := []) (wr := []) ⟨hx, hb, hml, hown, hts⟩ hK hX hA (cu_fX7_readSum l D tc sk (Va 0) (Va 1) sv_330 sv_353 sv_332 (Ta 0) (Ta 1) (Tv 0) sv_365 sv_366 sv_367 sv_355 (Tf 1) ro_370 pf_368 pf_357 h_by pf_369 cd_372) k_624 k_621 k_623 k_7 k_99 pl_X7_readSum ⟨Nat.le_of_ble_eq_true rfl, Nat.le_of_ble_eq_true rfl⟩ rfl rfl (va_recv hK hP (ci := 7) (q0 := 0) rfl rfl) hP hD hS [0, 1, 2, 3] [] rfl rfl rfl rfl rfl (by decide) rfl hl.1 rfl (Nat.le_of_ble_eq_true rfl) dX7_readFact_126 ⟨Nat.le_of_ble_eq_true rfl, Nat.le_of_ble_eq_true rfl⟩ (fun v_373 u_374 H locs hv_375 hP₀ hD₀ hS₀ => ?_)
            obtain ⟨sv_376, sv_377, sv_378, sv_379, sv_380, sv_381, sv_382⟩ := u_374
            obtain ⟨rfl, pf_383, pf_384, pf_385, pf_386⟩ := hv_375
            have pf_383 : 0 ≤ ((Tv 0) : Int32).toInt ∧ ((Tv 0) : Int32).toInt ≤ 400 ∧ 0 ≤ (sv_379 : Int32).toInt ∧ (sv_379 : Int32).toInt ≤ 400 ∧ 0 ≤ (sv_380 : Int32).toInt ∧ (sv_380 : Int32).toInt ≤ 400 := pf_383
            have pf_384 : 0 ≤ (sv_376 : Int32).toInt ∧ (sv_376 : Int32).toInt ≤ 400 := pf_384
            have pf_385 : TpR (Tf 1) (Tv 0) (pz_b ro_370 (pz_sum (cB (Tf 1) (Tv 0)))) sv_379 sv_380 sv_381 sv_382 := pf_385
            obtain ⟨ro_387, ero_387⟩ : ∃ z : Except Int (Nat × Nat), z = (pz_b ro_370 (pz_sum (cB (Tf 1) (Tv 0)))) := ⟨_, rfl⟩
            rw [← ero_387] at pf_385
            have tb_388 : TpB (rTE (cB (Tf 1) (Tv 0)) ro_387) sv_380 sv_382 := TpR.tb pf_385
            have pf_386 : Ctd (pz_b ro_370 (pz_sum (cB (Tf 1) (Tv 0)))) sv_377 := pf_386
            rw [← ero_387] at pf_386
            refine W.eq (g2 := F0 m 129 ls []) rfl ?_
            replace hP : va_P D classes [((Va 0), .inr (7, [.ref (Va 1), .int sv_376, .int sv_377])), ((Va 1), .inl (tc 0, 400, .inl sv_378)), ((Ta 0), .inr (10, [.ref (Ta 1), .int (Tv 0), .int sv_379, .int sv_380, .int sv_381, .int sv_382])), ((Ta 1), .inl (tc 0, 400, .inl (Tf 1)))] H := hP₀
            replace hD : va_D A [((Va 0), .inr (7, [.ref (Va 1), .int sv_376, .int sv_377])), ((Va 1), .inl (tc 0, 400, .inl sv_378)), ((Ta 0), .inr (10, [.ref (Ta 1), .int (Tv 0), .int sv_379, .int sv_380, .int sv_381, .int sv_382])), ((Ta 1), .inl (tc 0, 400, .inl (Tf 1)))] := hD₀
            replace hS := hS₀
            clear hP₀ hD₀ hS₀
            refine lv_aload_n hx hb dX7_readFact_129 rfl (lv_at hl 2 rfl) ?_
            refine lv_iload hx hb dX7_readFact_130 (lv_at hl 0 rfl) ?_
            refine cV (a := (Va 0)) (As := [.int r_346]) (rest := []) (wr := [((Ta 0), .inr (10, [.ref (Ta 1), .int (Tv 0), .int sv_379, .int sv_380, .int sv_381, .int sv_382])), ((Ta 1), .inl (tc 0, 400, .inl (Tf 1)))]) ⟨hx, hb, hml, hown, hts⟩ hK hX hA (cu_fX7_put l D tc sk (Va 0) (Va 1) sv_376 sv_377 sv_378 r_346 pf_384) k_642 k_639 k_641 k_10 k_99 pl_X7_put ⟨Nat.le_of_ble_eq_true rfl, Nat.le_of_ble_eq_true rfl⟩ rfl rfl (va_recv hK hP (ci := 7) (q0 := 0) rfl rfl) hP hD hS [0, 1] [2, 3] rfl rfl rfl rfl rfl (by decide) rfl hl.1 rfl (Nat.le_of_ble_eq_true rfl) dX7_readFact_132 ⟨Nat.le_of_ble_eq_true rfl, Nat.le_of_ble_eq_true rfl⟩ (fun v_389 u_390 H locs hv_391 hP₀ hD₀ hS₀ => ?_)
            obtain ⟨sv_392, sv_393⟩ := u_390
            obtain ⟨rfl, pf_394⟩ := hv_391
            have pf_394 : 0 ≤ (sv_392 : Int32).toInt ∧ (sv_392 : Int32).toInt ≤ 400 := pf_394
            refine W.eq (g2 := F0 m 135 ls []) rfl ?_
            replace hP : va_P D classes [((Ta 0), .inr (10, [.ref (Ta 1), .int (Tv 0), .int sv_379, .int sv_380, .int sv_381, .int sv_382])), ((Ta 1), .inl (tc 0, 400, .inl (Tf 1))), ((Va 0), .inr (7, [.ref (Va 1), .int sv_392, .int sv_377])), ((Va 1), .inl (tc 0, 400, .inl sv_393))] H := hP₀
            replace hD : va_D A [((Ta 0), .inr (10, [.ref (Ta 1), .int (Tv 0), .int sv_379, .int sv_380, .int sv_381, .int sv_382])), ((Ta 1), .inl (tc 0, 400, .inl (Tf 1))), ((Va 0), .inr (7, [.ref (Va 1), .int sv_392, .int sv_377])), ((Va 1), .inl (tc 0, 400, .inl sv_393))] := hD₀
            replace hS := hS₀
            clear hP₀ hD₀ hS₀
            have hf_395 : TpR (Tf 1) (Tv 0) (pz_b rr (pz_fact (cB (Tf 1) (Tv 0)) 4)) sv_379 sv_380 sv_381 sv_382 := by
              have hE_396 : (pz_b rr (pz_fact (cB (Tf 1) (Tv 0)) 4)) = ro_387 := by
                rw [ero_387, ero_370, ero_360, ero_341]
                have hw_397 : NWd (cB (Tf 1) (Tv 0)) pz_not rr := by
                  rw [← wS4]
                  exact pf_55
                have hw_398 : NSg (cB (Tf 1) (Tv 0)) 91 rr := by
                  exact pf_323
                have hu_399 : TpR (Tf 1) (Tv 0) (pz_b rr (pz_sum (cB (Tf 1) (Tv 0)))) sv_333 sv_334 sv_335 sv_336 := by
                  rw [← ero_341]
                  exact pf_339
                have hr_400 : 60 ≤ (sv_335 : Int32).toInt ∧ (sv_335 : Int32).toInt ≤ 62 := by
                  have z_1 := congrArg Int32.toInt c_11
                  have z_2 := congrArg Int32.toInt c_57
                  have z_3 := congrArg Int32.toInt c_307
                  have z_4 := congrArg Int32.toInt c_322
                  have z_5 : ¬ (r_346 : Int32).toInt = ((-1) : Int32).toInt := fun z => c_349 (Int32.toInt_inj.mp z)
                  have y_m1 : (-1 : Int32).toInt = -1 := by decide
                  have y_0 : (0 : Int32).toInt = 0 := by decide
                  have y_91 : (91 : Int32).toInt = 91 := by decide
                  omega
                exact ((fact_com hw_397 hw_398).trans (congrArg (fun z => pz_b z (pz_sum (cB (Tf 1) (Tv 0)))) (com_yes hu_399 hr_400)))
              rw [hE_396]
              exact pf_385
            have hf_401 : Ctd (pz_b rr (pz_fact (cB (Tf 1) (Tv 0)) 4)) sv_377 := by
              have hE_402 : (pz_b rr (pz_fact (cB (Tf 1) (Tv 0)) 4)) = ro_387 := by
                rw [ero_387, ero_370, ero_360, ero_341]
                have hw_403 : NWd (cB (Tf 1) (Tv 0)) pz_not rr := by
                  rw [← wS4]
                  exact pf_55
                have hw_404 : NSg (cB (Tf 1) (Tv 0)) 91 rr := by
                  exact pf_323
                have hu_405 : TpR (Tf 1) (Tv 0) (pz_b rr (pz_sum (cB (Tf 1) (Tv 0)))) sv_333 sv_334 sv_335 sv_336 := by
                  rw [← ero_341]
                  exact pf_339
                have hr_406 : 60 ≤ (sv_335 : Int32).toInt ∧ (sv_335 : Int32).toInt ≤ 62 := by
                  have z_1 := congrArg Int32.toInt c_11
                  have z_2 := congrArg Int32.toInt c_57
                  have z_3 := congrArg Int32.toInt c_307
                  have z_4 := congrArg Int32.toInt c_322
                  have z_5 : ¬ (r_346 : Int32).toInt = ((-1) : Int32).toInt := fun z => c_349 (Int32.toInt_inj.mp z)
                  have y_m1 : (-1 : Int32).toInt = -1 := by decide
                  have y_0 : (0 : Int32).toInt = 0 := by decide
                  have y_91 : (91 : Int32).toInt = 91 := by decide
                  omega
                exact ((fact_com hw_403 hw_404).trans (congrArg (fun z => pz_b z (pz_sum (cB (Tf 1) (Tv 0)))) (com_yes hu_405 hr_406)))
              rw [hE_402]
              exact pf_386
            exact retV hx hb hr hlk hP hD hS (sv_392, sv_377, sv_393, sv_379, sv_380, sv_381, sv_382) ⟨rfl, pf_383, pf_394, hf_395, hf_401⟩ [2, 3, 0, 1] rfl rfl dX7_readFact_135 (Nat.le_of_ble_eq_true rfl) (Nat.le_of_ble_eq_true rfl) rfl
          · skip
            refine lv_aload_n hx hb dX7_readFact_110 rfl (lv_at hl 3 rfl) ?_
            refine lv_iconst (v := 0) hx hb dX7_readFact_111 (by decide) ?_
            have ha_407 : 0 ≤ (0 : Int32).toInt ∧ (0 : Int32).toInt ≤ 4 := by
              have z_1 := congrArg Int32.toInt c_11
              have z_2 := congrArg Int32.toInt c_57
              have z_3 := congrArg Int32.toInt c_307
              have z_4 := congrArg Int32.toInt c_322
              have z_5 := congrArg Int32.toInt c_349
              have y_m1 : (-1 : Int32).toInt = -1 := by decide
              have y_0 : (0 : Int32).toInt = 0 := by decide
              have y_91 : (91 : Int32).toInt = 91 := by decide
              omega
            have ha_408 : (0 : Int32).toInt = (0 : Int) := by
              have z_1 := congrArg Int32.toInt c_11
              have z_2 := congrArg Int32.toInt c_57
              have z_3 := congrArg Int32.toInt c_307
              have z_4 := congrArg Int32.toInt c_322
              have z_5 := congrArg Int32.toInt c_349
              have y_m1 : (-1 : Int32).toInt = -1 := by decide
              have y_0 : (0 : Int32).toInt = 0 := by decide
              have y_91 : (91 : Int32).toInt = 91 := by decide
              omega
            refine cV (a := (Ta 0)) (As := [.int 0]) (rest := []) (wr := [((Va 0), .inr (7, [.ref (Va 1), .int sv_330, .int sv_331])), ((Va 1), .inl (tc 0, 400, .inl sv_332))]) ⟨hx, hb, hml, hown, hts⟩ hK hX hA (cu_fX10_fail l D tc sk (Ta 0) (Ta 1) (Tv 0) sv_333 sv_334 sv_335 sv_336 (Tf 1) 0 ro_341 0 pf_337 pf_339 ha_407 ha_408) k_557 k_619 k_555 k_556 k_96 pl_X10_fail ⟨Nat.le_of_ble_eq_true rfl, Nat.le_of_ble_eq_true rfl⟩ rfl rfl (va_recv hK hP (ci := 10) (q0 := 2) rfl rfl) hP hD hS [2, 3] [0, 1] rfl rfl rfl rfl rfl (by decide) rfl hl.1 rfl (Nat.le_of_ble_eq_true rfl) dX7_readFact_112 ⟨Nat.le_of_ble_eq_true rfl, Nat.le_of_ble_eq_true rfl⟩ (fun v_409 u_410 H locs hv_411 hP₀ hD₀ hS₀ => ?_)
            obtain ⟨sv_412, sv_413⟩ := u_410
            obtain ⟨rfl, pf_414, pf_415⟩ := hv_411
            have pf_414 : 0 ≤ ((Tv 0) : Int32).toInt ∧ ((Tv 0) : Int32).toInt ≤ 400 ∧ 0 ≤ (sv_333 : Int32).toInt ∧ (sv_333 : Int32).toInt ≤ 400 ∧ 0 ≤ (sv_334 : Int32).toInt ∧ (sv_334 : Int32).toInt ≤ 400 := pf_414
            have pf_415 : TpR (Tf 1) (Tv 0) (rER (0 : Int) ro_341) sv_333 sv_334 sv_412 sv_413 := pf_415
            obtain ⟨ro_416, ero_416⟩ : ∃ z : Except Int (Nat × Nat), z = (rER 0 ro_341) := ⟨_, rfl⟩
            rw [← ero_416] at pf_415
            have tb_417 : TpB (rTE (cB (Tf 1) (Tv 0)) ro_416) sv_334 sv_413 := TpR.tb pf_415
            have cd_418 : Ctd ro_416 sv_331 := by rw [ero_416]; exact (Ctd.er)
            refine W.eq (g2 := F0 m 115 ls []) rfl ?_
            replace hP : va_P D classes [((Va 0), .inr (7, [.ref (Va 1), .int sv_330, .int sv_331])), ((Va 1), .inl (tc 0, 400, .inl sv_332)), ((Ta 0), .inr (10, [.ref (Ta 1), .int (Tv 0), .int sv_333, .int sv_334, .int sv_412, .int sv_413])), ((Ta 1), .inl (tc 0, 400, .inl (Tf 1)))] H := hP₀
            replace hD : va_D A [((Va 0), .inr (7, [.ref (Va 1), .int sv_330, .int sv_331])), ((Va 1), .inl (tc 0, 400, .inl sv_332)), ((Ta 0), .inr (10, [.ref (Ta 1), .int (Tv 0), .int sv_333, .int sv_334, .int sv_412, .int sv_413])), ((Ta 1), .inl (tc 0, 400, .inl (Tf 1)))] := hD₀
            replace hS := hS₀
            clear hP₀ hD₀ hS₀
            refine lv_aload_n hx hb dX7_readFact_115 rfl (lv_at hl 2 rfl) ?_
            refine lv_aload_n hx hb dX7_readFact_116 rfl (lv_at hl 3 rfl) ?_
            refine cV (a := (Va 0)) (As := [.ref (Ta 0)]) (rest := []) (wr := []) ⟨hx, hb, hml, hown, hts⟩ hK hX hA (cu_fX7_countOne l D tc sk (Va 0) (Va 1) sv_330 sv_331 sv_332 (Ta 0) (Ta 1) (Tv 0) sv_333 sv_334 sv_412 sv_413 (Tf 1) ro_416 pf_414 pf_338 h_by pf_415 cd_418) k_638 k_635 k_637 k_9 k_99 pl_X7_countOne ⟨Nat.le_of_ble_eq_true rfl, Nat.le_of_ble_eq_true rfl⟩ rfl rfl (va_recv hK hP (ci := 7) (q0 := 0) rfl rfl) hP hD hS [0, 1, 2, 3] [] rfl rfl rfl rfl rfl (by decide) rfl hl.1 rfl (Nat.le_of_ble_eq_true rfl) dX7_readFact_117 ⟨Nat.le_of_ble_eq_true rfl, Nat.le_of_ble_eq_true rfl⟩ (fun v_419 u_420 H locs hv_421 hP₀ hD₀ hS₀ => ?_)
            obtain ⟨sv_422, sv_423, sv_424⟩ := u_420
            obtain ⟨rfl, pf_425, pf_426, pf_427, pf_428⟩ := hv_421
            have pf_425 : 0 ≤ ((Tv 0) : Int32).toInt ∧ ((Tv 0) : Int32).toInt ≤ 400 ∧ 0 ≤ (sv_333 : Int32).toInt ∧ (sv_333 : Int32).toInt ≤ 400 ∧ 0 ≤ (sv_334 : Int32).toInt ∧ (sv_334 : Int32).toInt ≤ 400 := pf_425
            have pf_426 : 0 ≤ (sv_330 : Int32).toInt ∧ (sv_330 : Int32).toInt ≤ 400 := pf_426
            have pf_427 : TpR (Tf 1) (Tv 0) (rC1 ro_416) sv_333 sv_334 sv_423 sv_424 := pf_427
            obtain ⟨ro_429, ero_429⟩ : ∃ z : Except Int (Nat × Nat), z = (rC1 ro_416) := ⟨_, rfl⟩
            rw [← ero_429] at pf_427
            have tb_430 : TpB (rTE (cB (Tf 1) (Tv 0)) ro_429) sv_334 sv_424 := TpR.tb pf_427
            have pf_428 : Ctd (rC1 ro_416) sv_422 := pf_428
            rw [← ero_429] at pf_428
            refine W.eq (g2 := F0 m 120 ls []) rfl ?_
            replace hP : va_P D classes [((Va 0), .inr (7, [.ref (Va 1), .int sv_330, .int sv_422])), ((Va 1), .inl (tc 0, 400, .inl sv_332)), ((Ta 0), .inr (10, [.ref (Ta 1), .int (Tv 0), .int sv_333, .int sv_334, .int sv_423, .int sv_424])), ((Ta 1), .inl (tc 0, 400, .inl (Tf 1)))] H := hP₀
            replace hD : va_D A [((Va 0), .inr (7, [.ref (Va 1), .int sv_330, .int sv_422])), ((Va 1), .inl (tc 0, 400, .inl sv_332)), ((Ta 0), .inr (10, [.ref (Ta 1), .int (Tv 0), .int sv_333, .int sv_334, .int sv_423, .int sv_424])), ((Ta 1), .inl (tc 0, 400, .inl (Tf 1)))] := hD₀
            replace hS := hS₀
            clear hP₀ hD₀ hS₀
            refine lv_aload_n hx hb dX7_readFact_120 rfl (lv_at hl 3 rfl) ?_
            refine cV (a := (Ta 0)) (As := []) (rest := []) (wr := [((Va 0), .inr (7, [.ref (Va 1), .int sv_330, .int sv_422])), ((Va 1), .inl (tc 0, 400, .inl sv_332))]) ⟨hx, hb, hml, hown, hts⟩ hK hX hA (cu_fX10_step l D tc sk (Ta 0) (Ta 1) (Tv 0) sv_333 sv_334 sv_423 sv_424 (Tf 1) (rTE (cB (Tf 1) (Tv 0)) ro_429) pf_425 h_by tb_430) k_478 k_620 k_476 k_477 k_96 pl_X10_step ⟨Nat.le_of_ble_eq_true rfl, Nat.le_of_ble_eq_true rfl⟩ rfl rfl (va_recv hK hP (ci := 10) (q0 := 2) rfl rfl) hP hD hS [2, 3] [0, 1] rfl rfl rfl rfl rfl (by decide) rfl hl.1 rfl (Nat.le_of_ble_eq_true rfl) dX7_readFact_121 ⟨Nat.le_of_ble_eq_true rfl, Nat.le_of_ble_eq_true rfl⟩ (fun v_431 u_432 H locs hv_433 hP₀ hD₀ hS₀ => ?_)
            obtain ⟨sv_434, sv_435, sv_436⟩ := u_432
            obtain ⟨rfl, pf_437, pf_438⟩ := hv_433
            have pf_437 : 0 ≤ ((Tv 0) : Int32).toInt ∧ ((Tv 0) : Int32).toInt ≤ 400 ∧ 0 ≤ (sv_434 : Int32).toInt ∧ (sv_434 : Int32).toInt ≤ 400 ∧ 0 ≤ (sv_435 : Int32).toInt ∧ (sv_435 : Int32).toInt ≤ 400 := pf_437
            have pf_438 : TpR (Tf 1) (Tv 0) (rSK (cB (Tf 1) (Tv 0)) (rTE (cB (Tf 1) (Tv 0)) ro_429)) sv_434 sv_435 sv_436 sv_424 := pf_438
            rw [rNX_eq] at pf_438
            obtain ⟨ro_439, ero_439⟩ : ∃ z : Except Int (Nat × Nat), z = (rNX (cB (Tf 1) (Tv 0)) ro_429) := ⟨_, rfl⟩
            rw [← ero_439] at pf_438
            have tb_440 : TpB (rTE (cB (Tf 1) (Tv 0)) ro_439) sv_435 sv_424 := TpR.tb pf_438
            have cd_441 : Ctd ro_439 sv_422 := by rw [ero_439]; exact (Ctd.nx pf_428)
            refine W.eq (g2 := F0 m 124 ls []) rfl ?_
            replace hP : va_P D classes [((Va 0), .inr (7, [.ref (Va 1), .int sv_330, .int sv_422])), ((Va 1), .inl (tc 0, 400, .inl sv_332)), ((Ta 0), .inr (10, [.ref (Ta 1), .int (Tv 0), .int sv_434, .int sv_435, .int sv_436, .int sv_424])), ((Ta 1), .inl (tc 0, 400, .inl (Tf 1)))] H := hP₀
            replace hD : va_D A [((Va 0), .inr (7, [.ref (Va 1), .int sv_330, .int sv_422])), ((Va 1), .inl (tc 0, 400, .inl sv_332)), ((Ta 0), .inr (10, [.ref (Ta 1), .int (Tv 0), .int sv_434, .int sv_435, .int sv_436, .int sv_424])), ((Ta 1), .inl (tc 0, 400, .inl (Tf 1)))] := hD₀
            replace hS := hS₀
            clear hP₀ hD₀ hS₀
            refine lv_aload_n hx hb dX7_readFact_124 rfl (lv_at hl 2 rfl) ?_
            refine lv_aload_n hx hb dX7_readFact_125 rfl (lv_at hl 3 rfl) ?_
            refine cV (a := (Va 0)) (As := [.ref (Ta 0)]) (rest := []) (wr := []) ⟨hx, hb, hml, hown, hts⟩ hK hX hA (cu_fX7_readSum l D tc sk (Va 0) (Va 1) sv_330 sv_422 sv_332 (Ta 0) (Ta 1) (Tv 0) sv_434 sv_435 sv_436 sv_424 (Tf 1) ro_439 pf_437 pf_426 h_by pf_438 cd_441) k_624 k_621 k_623 k_7 k_99 pl_X7_readSum ⟨Nat.le_of_ble_eq_true rfl, Nat.le_of_ble_eq_true rfl⟩ rfl rfl (va_recv hK hP (ci := 7) (q0 := 0) rfl rfl) hP hD hS [0, 1, 2, 3] [] rfl rfl rfl rfl rfl (by decide) rfl hl.1 rfl (Nat.le_of_ble_eq_true rfl) dX7_readFact_126 ⟨Nat.le_of_ble_eq_true rfl, Nat.le_of_ble_eq_true rfl⟩ (fun v_442 u_443 H locs hv_444 hP₀ hD₀ hS₀ => ?_)
            obtain ⟨sv_445, sv_446, sv_447, sv_448, sv_449, sv_450, sv_451⟩ := u_443
            obtain ⟨rfl, pf_452, pf_453, pf_454, pf_455⟩ := hv_444
            have pf_452 : 0 ≤ ((Tv 0) : Int32).toInt ∧ ((Tv 0) : Int32).toInt ≤ 400 ∧ 0 ≤ (sv_448 : Int32).toInt ∧ (sv_448 : Int32).toInt ≤ 400 ∧ 0 ≤ (sv_449 : Int32).toInt ∧ (sv_449 : Int32).toInt ≤ 400 := pf_452
            have pf_453 : 0 ≤ (sv_445 : Int32).toInt ∧ (sv_445 : Int32).toInt ≤ 400 := pf_453
            have pf_454 : TpR (Tf 1) (Tv 0) (pz_b ro_439 (pz_sum (cB (Tf 1) (Tv 0)))) sv_448 sv_449 sv_450 sv_451 := pf_454
            obtain ⟨ro_456, ero_456⟩ : ∃ z : Except Int (Nat × Nat), z = (pz_b ro_439 (pz_sum (cB (Tf 1) (Tv 0)))) := ⟨_, rfl⟩
            rw [← ero_456] at pf_454
            have tb_457 : TpB (rTE (cB (Tf 1) (Tv 0)) ro_456) sv_449 sv_451 := TpR.tb pf_454
            have pf_455 : Ctd (pz_b ro_439 (pz_sum (cB (Tf 1) (Tv 0)))) sv_446 := pf_455
            rw [← ero_456] at pf_455
            refine W.eq (g2 := F0 m 129 ls []) rfl ?_
            replace hP : va_P D classes [((Va 0), .inr (7, [.ref (Va 1), .int sv_445, .int sv_446])), ((Va 1), .inl (tc 0, 400, .inl sv_447)), ((Ta 0), .inr (10, [.ref (Ta 1), .int (Tv 0), .int sv_448, .int sv_449, .int sv_450, .int sv_451])), ((Ta 1), .inl (tc 0, 400, .inl (Tf 1)))] H := hP₀
            replace hD : va_D A [((Va 0), .inr (7, [.ref (Va 1), .int sv_445, .int sv_446])), ((Va 1), .inl (tc 0, 400, .inl sv_447)), ((Ta 0), .inr (10, [.ref (Ta 1), .int (Tv 0), .int sv_448, .int sv_449, .int sv_450, .int sv_451])), ((Ta 1), .inl (tc 0, 400, .inl (Tf 1)))] := hD₀
            replace hS := hS₀
            clear hP₀ hD₀ hS₀
            refine lv_aload_n hx hb dX7_readFact_129 rfl (lv_at hl 2 rfl) ?_
            refine lv_iload hx hb dX7_readFact_130 (lv_at hl 0 rfl) ?_
            refine cV (a := (Va 0)) (As := [.int r_346]) (rest := []) (wr := [((Ta 0), .inr (10, [.ref (Ta 1), .int (Tv 0), .int sv_448, .int sv_449, .int sv_450, .int sv_451])), ((Ta 1), .inl (tc 0, 400, .inl (Tf 1)))]) ⟨hx, hb, hml, hown, hts⟩ hK hX hA (cu_fX7_put l D tc sk (Va 0) (Va 1) sv_445 sv_446 sv_447 r_346 pf_453) k_642 k_639 k_641 k_10 k_99 pl_X7_put ⟨Nat.le_of_ble_eq_true rfl, Nat.le_of_ble_eq_true rfl⟩ rfl rfl (va_recv hK hP (ci := 7) (q0 := 0) rfl rfl) hP hD hS [0, 1] [2, 3] rfl rfl rfl rfl rfl (by decide) rfl hl.1 rfl (Nat.le_of_ble_eq_true rfl) dX7_readFact_132 ⟨Nat.le_of_ble_eq_true rfl, Nat.le_of_ble_eq_true rfl⟩ (fun v_458 u_459 H locs hv_460 hP₀ hD₀ hS₀ => ?_)
            obtain ⟨sv_461, sv_462⟩ := u_459
            obtain ⟨rfl, pf_463⟩ := hv_460
            have pf_463 : 0 ≤ (sv_461 : Int32).toInt ∧ (sv_461 : Int32).toInt ≤ 400 := pf_463
            refine W.eq (g2 := F0 m 135 ls []) rfl ?_
            replace hP : va_P D classes [((Ta 0), .inr (10, [.ref (Ta 1), .int (Tv 0), .int sv_448, .int sv_449, .int sv_450, .int sv_451])), ((Ta 1), .inl (tc 0, 400, .inl (Tf 1))), ((Va 0), .inr (7, [.ref (Va 1), .int sv_461, .int sv_446])), ((Va 1), .inl (tc 0, 400, .inl sv_462))] H := hP₀
            replace hD : va_D A [((Ta 0), .inr (10, [.ref (Ta 1), .int (Tv 0), .int sv_448, .int sv_449, .int sv_450, .int sv_451])), ((Ta 1), .inl (tc 0, 400, .inl (Tf 1))), ((Va 0), .inr (7, [.ref (Va 1), .int sv_461, .int sv_446])), ((Va 1), .inl (tc 0, 400, .inl sv_462))] := hD₀
            replace hS := hS₀
            clear hP₀ hD₀ hS₀
            have hf_464 : TpR (Tf 1) (Tv 0) (pz_b rr (pz_fact (cB (Tf 1) (Tv 0)) 4)) sv_448 sv_449 sv_450 sv_451 := by
              have hE_465 : (pz_b rr (pz_fact (cB (Tf 1) (Tv 0)) 4)) = ro_456 := by
                rw [ero_456, ero_439, ero_429, ero_416, ero_341]
                have hw_466 : NWd (cB (Tf 1) (Tv 0)) pz_not rr := by
                  rw [← wS4]
                  exact pf_55
                have hw_467 : NSg (cB (Tf 1) (Tv 0)) 91 rr := by
                  exact pf_323
                have hu_468 : TpR (Tf 1) (Tv 0) (pz_b rr (pz_sum (cB (Tf 1) (Tv 0)))) sv_333 sv_334 sv_335 sv_336 := by
                  rw [← ero_341]
                  exact pf_339
                have hr_469 : ¬ (60 ≤ (sv_335 : Int32).toInt ∧ (sv_335 : Int32).toInt ≤ 62) := by
                  have z_1 := congrArg Int32.toInt c_11
                  have z_2 := congrArg Int32.toInt c_57
                  have z_3 := congrArg Int32.toInt c_307
                  have z_4 := congrArg Int32.toInt c_322
                  have z_5 := congrArg Int32.toInt c_349
                  have y_m1 : (-1 : Int32).toInt = -1 := by decide
                  have y_0 : (0 : Int32).toInt = 0 := by decide
                  have y_91 : (91 : Int32).toInt = 91 := by decide
                  omega
                exact ((fact_com hw_466 hw_467).trans (congrArg (fun z => pz_b z (pz_sum (cB (Tf 1) (Tv 0)))) (com_no hu_468 hr_469)))
              rw [hE_465]
              exact pf_454
            have hf_470 : Ctd (pz_b rr (pz_fact (cB (Tf 1) (Tv 0)) 4)) sv_446 := by
              have hE_471 : (pz_b rr (pz_fact (cB (Tf 1) (Tv 0)) 4)) = ro_456 := by
                rw [ero_456, ero_439, ero_429, ero_416, ero_341]
                have hw_472 : NWd (cB (Tf 1) (Tv 0)) pz_not rr := by
                  rw [← wS4]
                  exact pf_55
                have hw_473 : NSg (cB (Tf 1) (Tv 0)) 91 rr := by
                  exact pf_323
                have hu_474 : TpR (Tf 1) (Tv 0) (pz_b rr (pz_sum (cB (Tf 1) (Tv 0)))) sv_333 sv_334 sv_335 sv_336 := by
                  rw [← ero_341]
                  exact pf_339
                have hr_475 : ¬ (60 ≤ (sv_335 : Int32).toInt ∧ (sv_335 : Int32).toInt ≤ 62) := by
                  have z_1 := congrArg Int32.toInt c_11
                  have z_2 := congrArg Int32.toInt c_57
                  have z_3 := congrArg Int32.toInt c_307
                  have z_4 := congrArg Int32.toInt c_322
                  have z_5 := congrArg Int32.toInt c_349
                  have y_m1 : (-1 : Int32).toInt = -1 := by decide
                  have y_0 : (0 : Int32).toInt = 0 := by decide
                  have y_91 : (91 : Int32).toInt = 91 := by decide
                  omega
                exact ((fact_com hw_472 hw_473).trans (congrArg (fun z => pz_b z (pz_sum (cB (Tf 1) (Tv 0)))) (com_no hu_474 hr_475)))
              rw [hE_471]
              exact pf_455
            exact retV hx hb hr hlk hP hD hS (sv_461, sv_446, sv_462, sv_448, sv_449, sv_450, sv_451) ⟨rfl, pf_452, pf_463, hf_464, hf_470⟩ [2, 3, 0, 1] rfl rfl dX7_readFact_135 (Nat.le_of_ble_eq_true rfl) (Nat.le_of_ble_eq_true rfl) rfl
        · skip
          have hz_478 : (r_317 : Int32).toInt = 1 := by
            have z_1 := congrArg Int32.toInt c_11
            have z_2 := congrArg Int32.toInt c_57
            have z_3 := congrArg Int32.toInt c_307
            have z_4 : ¬ (r_317 : Int32).toInt = (0 : Int32).toInt := fun z => c_322 (Int32.toInt_inj.mp z)
            have y_0 : (0 : Int32).toInt = 0 := by decide
            have y_91 : (91 : Int32).toInt = 91 := by decide
            omega
          obtain ⟨pf_476, pf_477⟩ := hm_320 hz_478
          have pf_476 : Sg (cB (Tf 1) (Tv 0)) (91 : Int) rr := pf_476
          have pf_477 : TpR (Tf 1) (Tv 0) (rNX (cB (Tf 1) (Tv 0)) rr) sv_313 sv_314 sv_315 (Tv 4) := pf_477
          obtain ⟨ro_479, ero_479⟩ : ∃ z : Except Int (Nat × Nat), z = (rNX (cB (Tf 1) (Tv 0)) rr) := ⟨_, rfl⟩
          rw [← ero_479] at pf_477
          have tb_480 : TpB (rTE (cB (Tf 1) (Tv 0)) ro_479) sv_314 (Tv 4) := TpR.tb pf_477
          have cd_481 : Ctd ro_479 (Vv 1) := by rw [ero_479]; exact (Ctd.nx h_ct)
          refine lv_aload_n hx hb dX7_readFact_68 rfl (lv_at hl 1 rfl) ?_
          refine lv_aload_n hx hb dX7_readFact_69 rfl (lv_at hl 2 rfl) ?_
          refine lv_iload_n hx hb dX7_readFact_70 rfl (lv_at hl 3 rfl) ?_
          refine lv_iconst (v := 1) hx hb dX7_readFact_71 (by decide) ?_
          refine lv_iadd hx hb dX7_readFact_72 ?_
          refine lv_lit (v := 7) (by decide) ?_
          refine cV (a := (Va 0)) (As := [.ref (Ta 0), .int 7]) (rest := []) (wr := []) ⟨hx, hb, hml, hown, hts⟩ hK hX hA (cu_fX7_readTest_7 l D tc sk (Va 0) (Va 1) (Vv 0) (Vv 1) (Vf 1) (Ta 0) (Ta 1) (Tv 0) sv_313 sv_314 sv_315 (Tv 4) (Tf 1) ro_479 pf_316 h_u h_by pf_477 cd_481) k_655 k_652 k_654 k_11 k_99 pl_X7_readTest ⟨Nat.le_of_ble_eq_true rfl, Nat.le_of_ble_eq_true rfl⟩ rfl rfl (va_recv hK hP (ci := 7) (q0 := 0) rfl rfl) hP hD hS [0, 1, 2, 3] [] rfl rfl rfl rfl rfl (by decide) rfl hl.1 rfl (Nat.le_of_ble_eq_true rfl) dX7_readFact_73 ⟨Nat.le_of_ble_eq_true rfl, Nat.le_of_ble_eq_true rfl⟩ (fun v_482 u_483 H locs hv_484 hP₀ hD₀ hS₀ => ?_)
          obtain ⟨sv_485, sv_486, sv_487, sv_488, sv_489, sv_490, sv_491⟩ := u_483
          obtain ⟨rfl, pf_492, pf_493, pf_494, pf_495⟩ := hv_484
          have pf_492 : 0 ≤ ((Tv 0) : Int32).toInt ∧ ((Tv 0) : Int32).toInt ≤ 400 ∧ 0 ≤ (sv_488 : Int32).toInt ∧ (sv_488 : Int32).toInt ≤ 400 ∧ 0 ≤ (sv_489 : Int32).toInt ∧ (sv_489 : Int32).toInt ≤ 400 := pf_492
          have pf_493 : 0 ≤ (sv_485 : Int32).toInt ∧ (sv_485 : Int32).toInt ≤ 400 := pf_493
          have pf_494 : TpR (Tf 1) (Tv 0) (pz_b ro_479 (pz_tst (cB (Tf 1) (Tv 0)) (pz_fact (cB (Tf 1) (Tv 0)) 3))) sv_488 sv_489 sv_490 sv_491 := pf_494
          obtain ⟨ro_496, ero_496⟩ : ∃ z : Except Int (Nat × Nat), z = (pz_b ro_479 (pz_tst (cB (Tf 1) (Tv 0)) (pz_fact (cB (Tf 1) (Tv 0)) 3))) := ⟨_, rfl⟩
          rw [← ero_496] at pf_494
          have tb_497 : TpB (rTE (cB (Tf 1) (Tv 0)) ro_496) sv_489 sv_491 := TpR.tb pf_494
          have pf_495 : Ctd (pz_b ro_479 (pz_tst (cB (Tf 1) (Tv 0)) (pz_fact (cB (Tf 1) (Tv 0)) 3))) sv_486 := pf_495
          rw [← ero_496] at pf_495
          refine W.eq (g2 := F0 m 76 ls []) rfl ?_
          replace hP : va_P D classes [((Va 0), .inr (7, [.ref (Va 1), .int sv_485, .int sv_486])), ((Va 1), .inl (tc 0, 400, .inl sv_487)), ((Ta 0), .inr (10, [.ref (Ta 1), .int (Tv 0), .int sv_488, .int sv_489, .int sv_490, .int sv_491])), ((Ta 1), .inl (tc 0, 400, .inl (Tf 1)))] H := hP₀
          replace hD : va_D A [((Va 0), .inr (7, [.ref (Va 1), .int sv_485, .int sv_486])), ((Va 1), .inl (tc 0, 400, .inl sv_487)), ((Ta 0), .inr (10, [.ref (Ta 1), .int (Tv 0), .int sv_488, .int sv_489, .int sv_490, .int sv_491])), ((Ta 1), .inl (tc 0, 400, .inl (Tf 1)))] := hD₀
          replace hS := hS₀
          clear hP₀ hD₀ hS₀
          refine lv_aload_n hx hb dX7_readFact_76 rfl (lv_at hl 2 rfl) ?_
          refine lv_bipush (v := 93) hx hb dX7_readFact_77 (by decide) ?_
          have ha_498 : 0 ≤ (93 : Int32).toInt := by
            have z_1 := congrArg Int32.toInt c_11
            have z_2 := congrArg Int32.toInt c_57
            have z_3 := congrArg Int32.toInt c_307
            have z_4 : ¬ (r_317 : Int32).toInt = (0 : Int32).toInt := fun z => c_322 (Int32.toInt_inj.mp z)
            have y_0 : (0 : Int32).toInt = 0 := by decide
            have y_91 : (91 : Int32).toInt = 91 := by decide
            have y_93 : (93 : Int32).toInt = 93 := by decide
            omega
          have ha_499 : (93 : Int32).toInt = (93 : Int) := by
            have z_1 := congrArg Int32.toInt c_11
            have z_2 := congrArg Int32.toInt c_57
            have z_3 := congrArg Int32.toInt c_307
            have z_4 : ¬ (r_317 : Int32).toInt = (0 : Int32).toInt := fun z => c_322 (Int32.toInt_inj.mp z)
            have y_0 : (0 : Int32).toInt = 0 := by decide
            have y_91 : (91 : Int32).toInt = 91 := by decide
            have y_93 : (93 : Int32).toInt = 93 := by decide
            omega
          refine cV (a := (Ta 0)) (As := [.int 93]) (rest := []) (wr := [((Va 0), .inr (7, [.ref (Va 1), .int sv_485, .int sv_486])), ((Va 1), .inl (tc 0, 400, .inl sv_487))]) ⟨hx, hb, hml, hown, hts⟩ hK hX hA (cu_fX10_takes l D tc sk (Ta 0) (Ta 1) (Tv 0) sv_488 sv_489 sv_490 sv_491 (Tf 1) 93 ro_496 93 pf_492 h_by pf_494 ha_498 ha_499) k_492 k_613 k_490 k_491 k_96 pl_X10_takes ⟨Nat.le_of_ble_eq_true rfl, Nat.le_of_ble_eq_true rfl⟩ rfl rfl (va_recv hK hP (ci := 10) (q0 := 2) rfl rfl) hP hD hS [2, 3] [0, 1] rfl rfl rfl rfl rfl (by decide) rfl hl.1 rfl (Nat.le_of_ble_eq_true rfl) dX7_readFact_79 ⟨Nat.le_of_ble_eq_true rfl, Nat.le_of_ble_eq_true rfl⟩ (fun v_500 u_501 H locs hv_502 hP₀ hD₀ hS₀ => ?_)
          obtain ⟨sv_503, sv_504, sv_505⟩ := u_501
          obtain ⟨r_507, rfl, he_508, pf_506, hm_510, hm_511⟩ := hv_502
          have he_508 : (r_507.toInt = 0 ∨ r_507.toInt = 1) := he_508
          have pf_506 : 0 ≤ ((Tv 0) : Int32).toInt ∧ ((Tv 0) : Int32).toInt ≤ 400 ∧ 0 ≤ (sv_503 : Int32).toInt ∧ (sv_503 : Int32).toInt ≤ 400 ∧ 0 ≤ (sv_504 : Int32).toInt ∧ (sv_504 : Int32).toInt ≤ 400 := pf_506
          refine W.eq (g2 := F0 m 82 ls [.int r_507]) rfl ?_
          replace hP : va_P D classes [((Va 0), .inr (7, [.ref (Va 1), .int sv_485, .int sv_486])), ((Va 1), .inl (tc 0, 400, .inl sv_487)), ((Ta 0), .inr (10, [.ref (Ta 1), .int (Tv 0), .int sv_503, .int sv_504, .int sv_505, .int sv_491])), ((Ta 1), .inl (tc 0, 400, .inl (Tf 1)))] H := hP₀
          replace hD : va_D A [((Va 0), .inr (7, [.ref (Va 1), .int sv_485, .int sv_486])), ((Va 1), .inl (tc 0, 400, .inl sv_487)), ((Ta 0), .inr (10, [.ref (Ta 1), .int (Tv 0), .int sv_503, .int sv_504, .int sv_505, .int sv_491])), ((Ta 1), .inl (tc 0, 400, .inl (Tf 1)))] := hD₀
          replace hS := hS₀
          clear hP₀ hD₀ hS₀
          refine lv_if_ne (tgt := 135) hx hb dX7_readFact_82 (by decide) (fun c_512 => ?_) (fun c_512 => ?_)
          · skip
            have hz_515 : (r_507 : Int32).toInt = 1 := by
              have z_1 := congrArg Int32.toInt c_11
              have z_2 := congrArg Int32.toInt c_57
              have z_3 := congrArg Int32.toInt c_307
              have z_4 : ¬ (r_317 : Int32).toInt = (0 : Int32).toInt := fun z => c_322 (Int32.toInt_inj.mp z)
              have z_5 : ¬ (r_507 : Int32).toInt = (0 : Int32).toInt := fun z => c_512 (Int32.toInt_inj.mp z)
              have y_0 : (0 : Int32).toInt = 0 := by decide
              have y_91 : (91 : Int32).toInt = 91 := by decide
              omega
            obtain ⟨pf_513, pf_514⟩ := hm_510 hz_515
            have pf_513 : Sg (cB (Tf 1) (Tv 0)) (93 : Int) ro_496 := pf_513
            have pf_514 : TpR (Tf 1) (Tv 0) (rNX (cB (Tf 1) (Tv 0)) ro_496) sv_503 sv_504 sv_505 sv_491 := pf_514
            obtain ⟨ro_516, ero_516⟩ : ∃ z : Except Int (Nat × Nat), z = (rNX (cB (Tf 1) (Tv 0)) ro_496) := ⟨_, rfl⟩
            rw [← ero_516] at pf_514
            have tb_517 : TpB (rTE (cB (Tf 1) (Tv 0)) ro_516) sv_504 sv_491 := TpR.tb pf_514
            have cd_518 : Ctd ro_516 sv_486 := by rw [ero_516]; exact (Ctd.nx pf_495)
            have hf_519 : TpR (Tf 1) (Tv 0) (pz_b rr (pz_fact (cB (Tf 1) (Tv 0)) 4)) sv_503 sv_504 sv_505 sv_491 := by
              have hE_520 : (pz_b rr (pz_fact (cB (Tf 1) (Tv 0)) 4)) = ro_516 := by
                rw [ero_516, ero_496, ero_479]
                have hw_521 : NWd (cB (Tf 1) (Tv 0)) pz_not rr := by
                  rw [← wS4]
                  exact pf_55
                have hw_522 : Sg (cB (Tf 1) (Tv 0)) 91 rr := by
                  exact pf_476
                have hw_523 : Sg (cB (Tf 1) (Tv 0)) 93 (pz_b (rNX (cB (Tf 1) (Tv 0)) rr) (pz_tst (cB (Tf 1) (Tv 0)) (pz_fact (cB (Tf 1) (Tv 0)) 3))) := by
                  rw [← ero_479, ← ero_496]
                  exact pf_513
                exact ((fact_br hw_521 hw_522).trans (rb_yes hw_523))
              rw [hE_520]
              exact pf_514
            have hf_524 : Ctd (pz_b rr (pz_fact (cB (Tf 1) (Tv 0)) 4)) sv_486 := by
              have hE_525 : (pz_b rr (pz_fact (cB (Tf 1) (Tv 0)) 4)) = ro_516 := by
                rw [ero_516, ero_496, ero_479]
                have hw_526 : NWd (cB (Tf 1) (Tv 0)) pz_not rr := by
                  rw [← wS4]
                  exact pf_55
                have hw_527 : Sg (cB (Tf 1) (Tv 0)) 91 rr := by
                  exact pf_476
                have hw_528 : Sg (cB (Tf 1) (Tv 0)) 93 (pz_b (rNX (cB (Tf 1) (Tv 0)) rr) (pz_tst (cB (Tf 1) (Tv 0)) (pz_fact (cB (Tf 1) (Tv 0)) 3))) := by
                  rw [← ero_479, ← ero_496]
                  exact pf_513
                exact ((fact_br hw_526 hw_527).trans (rb_yes hw_528))
              rw [hE_525]
              exact cd_518
            exact retV hx hb hr hlk hP hD hS (sv_485, sv_486, sv_487, sv_503, sv_504, sv_505, sv_491) ⟨rfl, pf_506, pf_493, hf_519, hf_524⟩ [0, 1, 2, 3] rfl rfl dX7_readFact_135 (Nat.le_of_ble_eq_true rfl) (Nat.le_of_ble_eq_true rfl) rfl
          · skip
            have hz_531 : (r_507 : Int32).toInt = 0 := by
              have z_1 := congrArg Int32.toInt c_11
              have z_2 := congrArg Int32.toInt c_57
              have z_3 := congrArg Int32.toInt c_307
              have z_4 : ¬ (r_317 : Int32).toInt = (0 : Int32).toInt := fun z => c_322 (Int32.toInt_inj.mp z)
              have z_5 := congrArg Int32.toInt c_512
              have y_0 : (0 : Int32).toInt = 0 := by decide
              have y_91 : (91 : Int32).toInt = 91 := by decide
              omega
            obtain ⟨pf_529, pf_530⟩ := hm_511 hz_531
            have pf_529 : NSg (cB (Tf 1) (Tv 0)) (93 : Int) ro_496 := pf_529
            have pf_530 : TpR (Tf 1) (Tv 0) ro_496 sv_503 sv_504 sv_505 sv_491 := pf_530
            have tb_532 : TpB (rTE (cB (Tf 1) (Tv 0)) ro_496) sv_504 sv_491 := TpR.tb pf_530
            refine lv_aload_n hx hb dX7_readFact_85 rfl (lv_at hl 2 rfl) ?_
            refine lv_iconst (v := 0) hx hb dX7_readFact_86 (by decide) ?_
            have ha_533 : 0 ≤ (0 : Int32).toInt ∧ (0 : Int32).toInt ≤ 4 := by
              have z_1 := congrArg Int32.toInt c_11
              have z_2 := congrArg Int32.toInt c_57
              have z_3 := congrArg Int32.toInt c_307
              have z_4 : ¬ (r_317 : Int32).toInt = (0 : Int32).toInt := fun z => c_322 (Int32.toInt_inj.mp z)
              have z_5 := congrArg Int32.toInt c_512
              have y_0 : (0 : Int32).toInt = 0 := by decide
              have y_91 : (91 : Int32).toInt = 91 := by decide
              omega
            have ha_534 : (0 : Int32).toInt = (0 : Int) := by
              have z_1 := congrArg Int32.toInt c_11
              have z_2 := congrArg Int32.toInt c_57
              have z_3 := congrArg Int32.toInt c_307
              have z_4 : ¬ (r_317 : Int32).toInt = (0 : Int32).toInt := fun z => c_322 (Int32.toInt_inj.mp z)
              have z_5 := congrArg Int32.toInt c_512
              have y_0 : (0 : Int32).toInt = 0 := by decide
              have y_91 : (91 : Int32).toInt = 91 := by decide
              omega
            refine cV (a := (Ta 0)) (As := [.int 0]) (rest := []) (wr := [((Va 0), .inr (7, [.ref (Va 1), .int sv_485, .int sv_486])), ((Va 1), .inl (tc 0, 400, .inl sv_487))]) ⟨hx, hb, hml, hown, hts⟩ hK hX hA (cu_fX10_fail l D tc sk (Ta 0) (Ta 1) (Tv 0) sv_503 sv_504 sv_505 sv_491 (Tf 1) 0 ro_496 0 pf_506 pf_530 ha_533 ha_534) k_557 k_619 k_555 k_556 k_96 pl_X10_fail ⟨Nat.le_of_ble_eq_true rfl, Nat.le_of_ble_eq_true rfl⟩ rfl rfl (va_recv hK hP (ci := 10) (q0 := 2) rfl rfl) hP hD hS [2, 3] [0, 1] rfl rfl rfl rfl rfl (by decide) rfl hl.1 rfl (Nat.le_of_ble_eq_true rfl) dX7_readFact_87 ⟨Nat.le_of_ble_eq_true rfl, Nat.le_of_ble_eq_true rfl⟩ (fun v_535 u_536 H locs hv_537 hP₀ hD₀ hS₀ => ?_)
            obtain ⟨sv_538, sv_539⟩ := u_536
            obtain ⟨rfl, pf_540, pf_541⟩ := hv_537
            have pf_540 : 0 ≤ ((Tv 0) : Int32).toInt ∧ ((Tv 0) : Int32).toInt ≤ 400 ∧ 0 ≤ (sv_503 : Int32).toInt ∧ (sv_503 : Int32).toInt ≤ 400 ∧ 0 ≤ (sv_504 : Int32).toInt ∧ (sv_504 : Int32).toInt ≤ 400 := pf_540
            have pf_541 : TpR (Tf 1) (Tv 0) (rER (0 : Int) ro_496) sv_503 sv_504 sv_538 sv_539 := pf_541
            obtain ⟨ro_542, ero_542⟩ : ∃ z : Except Int (Nat × Nat), z = (rER 0 ro_496) := ⟨_, rfl⟩
            rw [← ero_542] at pf_541
            have tb_543 : TpB (rTE (cB (Tf 1) (Tv 0)) ro_542) sv_504 sv_539 := TpR.tb pf_541
            have cd_544 : Ctd ro_542 sv_486 := by rw [ero_542]; exact (Ctd.er)
            refine W.eq (g2 := F0 m 90 ls []) rfl ?_
            replace hP : va_P D classes [((Va 0), .inr (7, [.ref (Va 1), .int sv_485, .int sv_486])), ((Va 1), .inl (tc 0, 400, .inl sv_487)), ((Ta 0), .inr (10, [.ref (Ta 1), .int (Tv 0), .int sv_503, .int sv_504, .int sv_538, .int sv_539])), ((Ta 1), .inl (tc 0, 400, .inl (Tf 1)))] H := hP₀
            replace hD : va_D A [((Va 0), .inr (7, [.ref (Va 1), .int sv_485, .int sv_486])), ((Va 1), .inl (tc 0, 400, .inl sv_487)), ((Ta 0), .inr (10, [.ref (Ta 1), .int (Tv 0), .int sv_503, .int sv_504, .int sv_538, .int sv_539])), ((Ta 1), .inl (tc 0, 400, .inl (Tf 1)))] := hD₀
            replace hS := hS₀
            clear hP₀ hD₀ hS₀
            refine lv_goto (tgt := 135) hx hb dX7_readFact_90 (by decide) ?_
            have hf_545 : TpR (Tf 1) (Tv 0) (pz_b rr (pz_fact (cB (Tf 1) (Tv 0)) 4)) sv_503 sv_504 sv_538 sv_539 := by
              have hE_546 : (pz_b rr (pz_fact (cB (Tf 1) (Tv 0)) 4)) = ro_542 := by
                rw [ero_542, ero_496, ero_479]
                have hw_547 : NWd (cB (Tf 1) (Tv 0)) pz_not rr := by
                  rw [← wS4]
                  exact pf_55
                have hw_548 : Sg (cB (Tf 1) (Tv 0)) 91 rr := by
                  exact pf_476
                have hw_549 : NSg (cB (Tf 1) (Tv 0)) 93 (pz_b (rNX (cB (Tf 1) (Tv 0)) rr) (pz_tst (cB (Tf 1) (Tv 0)) (pz_fact (cB (Tf 1) (Tv 0)) 3))) := by
                  rw [← ero_479, ← ero_496]
                  exact pf_529
                exact ((fact_br hw_547 hw_548).trans (rb_no hw_549))
              rw [hE_546]
              exact pf_541
            have hf_550 : Ctd (pz_b rr (pz_fact (cB (Tf 1) (Tv 0)) 4)) sv_486 := by
              have hE_551 : (pz_b rr (pz_fact (cB (Tf 1) (Tv 0)) 4)) = ro_542 := by
                rw [ero_542, ero_496, ero_479]
                have hw_552 : NWd (cB (Tf 1) (Tv 0)) pz_not rr := by
                  rw [← wS4]
                  exact pf_55
                have hw_553 : Sg (cB (Tf 1) (Tv 0)) 91 rr := by
                  exact pf_476
                have hw_554 : NSg (cB (Tf 1) (Tv 0)) 93 (pz_b (rNX (cB (Tf 1) (Tv 0)) rr) (pz_tst (cB (Tf 1) (Tv 0)) (pz_fact (cB (Tf 1) (Tv 0)) 3))) := by
                  rw [← ero_479, ← ero_496]
                  exact pf_529
                exact ((fact_br hw_552 hw_553).trans (rb_no hw_554))
              rw [hE_551]
              exact cd_544
            exact retV hx hb hr hlk hP hD hS (sv_485, sv_486, sv_487, sv_503, sv_504, sv_538, sv_539) ⟨rfl, pf_540, pf_493, hf_545, hf_550⟩ [0, 1, 2, 3] rfl rfl dX7_readFact_135 (Nat.le_of_ble_eq_true rfl) (Nat.le_of_ble_eq_true rfl) rfl
      · skip
        exfalso
        have z_1 := congrArg Int32.toInt c_11
        have z_2 := congrArg Int32.toInt c_57
        have z_3 : ¬ (r_6 : Int32).toInt = (0 : Int32).toInt := fun z => c_307 (Int32.toInt_inj.mp z)
        have y_0 : (0 : Int32).toInt = 0 := by decide
        have y_91 : (91 : Int32).toInt = 91 := by decide
        omega
set_option maxRecDepth 100000 in
theorem cu_fX7_readFact_6 (l : Launch) (D : va_G) (tc : Nat → ClassId) (sk : (Nat → Nat) × (Nat → Nat)) (Va_0 : Nat) (Va_1 : Nat) (Vv_0 : Int32) (Vv_1 : Int32) (Vf_1 : Nat → Int32) (Ta_0 : Nat) (Ta_1 : Nat) (Tv_0 : Int32) (Tv_1 : Int32) (Tv_2 : Int32) (Tv_3 : Int32) (Tv_4 : Int32) (Tf_1 : Nat → Int32) (rr : Except Int (Nat × Nat)) (h_tape : 0 ≤ (Tv_0 : Int32).toInt ∧ (Tv_0 : Int32).toInt ≤ 400 ∧ 0 ≤ (Tv_1 : Int32).toInt ∧ (Tv_1 : Int32).toInt ≤ 400 ∧ 0 ≤ (Tv_2 : Int32).toInt ∧ (Tv_2 : Int32).toInt ≤ 400) (h_u : 0 ≤ (Vv_0 : Int32).toInt ∧ (Vv_0 : Int32).toInt ≤ 400) (h_by : Byt Tf_1) (h_r : TpR Tf_1 Tv_0 rr Tv_1 Tv_2 Tv_3 Tv_4) (h_ct : Ctd rr Vv_1) : Ct l yX7_readFact cX7_readFact 5 none { frames := 16, cells := 0, slots := 0, locals := 376 } D tc sk [.ref Va_0, .ref Ta_0, .int 6] [(Va_0, .inr (7, [.ref Va_1, .int Vv_0, .int Vv_1])), (Va_1, .inl (tc 0, 400, .inl Vf_1)), (Ta_0, .inr (10, [.ref Ta_1, .int Tv_0, .int Tv_1, .int Tv_2, .int Tv_3, .int Tv_4])), (Ta_1, .inl (tc 0, 400, .inl Tf_1))] (fun (v : Option Value) (u : (Int32) × (Int32) × (Nat → Int32) × (Int32) × (Int32) × (Int32) × (Int32)) => match u with | (oo0x1, oo0x2, oo0x3, oo0x4, oo0x5, oo0x6, oo0x7) => v = none ∧ (0 ≤ (Tv_0 : Int32).toInt ∧ (Tv_0 : Int32).toInt ≤ 400 ∧ 0 ≤ (oo0x4 : Int32).toInt ∧ (oo0x4 : Int32).toInt ≤ 400 ∧ 0 ≤ (oo0x5 : Int32).toInt ∧ (oo0x5 : Int32).toInt ≤ 400) ∧ (0 ≤ (oo0x1 : Int32).toInt ∧ (oo0x1 : Int32).toInt ≤ 400) ∧ (TpR Tf_1 Tv_0 (pz_b rr (pz_fact (cB Tf_1 Tv_0) 4)) oo0x4 oo0x5 oo0x6 oo0x7) ∧ (Ctd (pz_b rr (pz_fact (cB Tf_1 Tv_0) 4)) oo0x2)) (fun (u : (Int32) × (Int32) × (Nat → Int32) × (Int32) × (Int32) × (Int32) × (Int32)) => match u with | (oo0x1, oo0x2, oo0x3, oo0x4, oo0x5, oo0x6, oo0x7) => [(Va_0, .inr (7, [.ref Va_1, .int oo0x1, .int oo0x2])), (Va_1, .inl (tc 0, 400, .inl oo0x3)), (Ta_0, .inr (10, [.ref Ta_1, .int Tv_0, .int oo0x4, .int oo0x5, .int oo0x6, .int oo0x7])), (Ta_1, .inl (tc 0, 400, .inl Tf_1))]) 0 0 :=
  ct_fX7_readFact_6 l D tc sk (fun k => ([Va_0, Va_1] : List (Nat)).getD k 0) (fun k => ([Vv_0, Vv_1] : List (Int32)).getD k 0) (fun k => ([(fun _ => 0), Vf_1] : List (Nat → Int32)).getD k (fun _ => 0)) (fun k => ([Ta_0, Ta_1] : List (Nat)).getD k 0) (fun k => ([Tv_0, Tv_1, Tv_2, Tv_3, Tv_4] : List (Int32)).getD k 0) (fun k => ([(fun _ => 0), Tf_1] : List (Nat → Int32)).getD k (fun _ => 0)) rr h_tape h_u h_by h_r h_ct
set_option maxHeartbeats 4000000 in
set_option maxRecDepth 100000 in
theorem ct_fX7_readTest_6 (l : Launch) (D : va_G) (tc : Nat → ClassId) (sk : (Nat → Nat) × (Nat → Nat)) (Va : Nat → Nat) (Vv : Nat → Int32) (Vf : Nat → Nat → Int32) (Ta : Nat → Nat) (Tv : Nat → Int32) (Tf : Nat → Nat → Int32) (rr : Except Int (Nat × Nat)) (h_tape : 0 ≤ ((Tv 0) : Int32).toInt ∧ ((Tv 0) : Int32).toInt ≤ 400 ∧ 0 ≤ ((Tv 1) : Int32).toInt ∧ ((Tv 1) : Int32).toInt ≤ 400 ∧ 0 ≤ ((Tv 2) : Int32).toInt ∧ ((Tv 2) : Int32).toInt ≤ 400) (h_u : 0 ≤ ((Vv 0) : Int32).toInt ∧ ((Vv 0) : Int32).toInt ≤ 400) (h_by : Byt (Tf 1)) (h_r : TpR (Tf 1) (Tv 0) rr (Tv 1) (Tv 2) (Tv 3) (Tv 4)) (h_ct : Ctd rr (Vv 1)) : Ct l yX7_readTest cX7_readTest 6 none { frames := 17, cells := 0, slots := 0, locals := 400 } D tc sk [.ref (Va 0), .ref (Ta 0), .int 6] [((Va 0), .inr (7, [.ref (Va 1), .int (Vv 0), .int (Vv 1)])), ((Va 1), .inl (tc 0, 400, .inl (Vf 1))), ((Ta 0), .inr (10, [.ref (Ta 1), .int (Tv 0), .int (Tv 1), .int (Tv 2), .int (Tv 3), .int (Tv 4)])), ((Ta 1), .inl (tc 0, 400, .inl (Tf 1)))] (fun (v : Option Value) (u : (Int32) × (Int32) × (Nat → Int32) × (Int32) × (Int32) × (Int32) × (Int32)) => match u with | (oo0x1, oo0x2, oo0x3, oo0x4, oo0x5, oo0x6, oo0x7) => v = none ∧ (0 ≤ ((Tv 0) : Int32).toInt ∧ ((Tv 0) : Int32).toInt ≤ 400 ∧ 0 ≤ (oo0x4 : Int32).toInt ∧ (oo0x4 : Int32).toInt ≤ 400 ∧ 0 ≤ (oo0x5 : Int32).toInt ∧ (oo0x5 : Int32).toInt ≤ 400) ∧ (0 ≤ (oo0x1 : Int32).toInt ∧ (oo0x1 : Int32).toInt ≤ 400) ∧ (TpR (Tf 1) (Tv 0) (pz_b rr (pz_tst (cB (Tf 1) (Tv 0)) (pz_fact (cB (Tf 1) (Tv 0)) 4))) oo0x4 oo0x5 oo0x6 oo0x7) ∧ (Ctd (pz_b rr (pz_tst (cB (Tf 1) (Tv 0)) (pz_fact (cB (Tf 1) (Tv 0)) 4))) oo0x2)) (fun (u : (Int32) × (Int32) × (Nat → Int32) × (Int32) × (Int32) × (Int32) × (Int32)) => match u with | (oo0x1, oo0x2, oo0x3, oo0x4, oo0x5, oo0x6, oo0x7) => [((Va 0), .inr (7, [.ref (Va 1), .int oo0x1, .int oo0x2])), ((Va 1), .inl (tc 0, 400, .inl oo0x3)), ((Ta 0), .inr (10, [.ref (Ta 1), .int (Tv 0), .int oo0x4, .int oo0x5, .int oo0x6, .int oo0x7])), ((Ta 1), .inl (tc 0, 400, .inl (Tf 1)))]) 0 0 := by
  refine Ct.start (by decide) (Nat.le_of_ble_eq_true rfl) (fun p e s m below meth c A ls hx hb hr hlk hin hml hown hts hK hX hP hD hA hl hS => ?_)
  have hl : lv_has ls 6 [(0, .ref (Va 0)), (1, .ref (Ta 0)), (2, .int 6)] := hl
  have tb_1 : TpB (rTE (cB (Tf 1) (Tv 0)) rr) (Tv 2) (Tv 4) := TpR.tb h_r
  refine lv_aload_n hx hb dX7_readTest_0 rfl (lv_at hl 0 rfl) ?_
  refine lv_aload_n hx hb dX7_readTest_1 rfl (lv_at hl 1 rfl) ?_
  refine lv_iload_n hx hb dX7_readTest_2 rfl (lv_at hl 2 rfl) ?_
  refine cV (a := (Va 0)) (As := [.ref (Ta 0), .int 6]) (rest := []) (wr := []) ⟨hx, hb, hml, hown, hts⟩ hK hX hA (cu_fX7_readFact_6 l D tc sk (Va 0) (Va 1) (Vv 0) (Vv 1) (Vf 1) (Ta 0) (Ta 1) (Tv 0) (Tv 1) (Tv 2) (Tv 3) (Tv 4) (Tf 1) rr h_tape h_u h_by h_r h_ct) k_659 k_656 k_658 k_12 k_99 pl_X7_readFact ⟨Nat.le_of_ble_eq_true rfl, Nat.le_of_ble_eq_true rfl⟩ rfl rfl (va_recv hK hP (ci := 7) (q0 := 0) rfl rfl) hP hD hS [0, 1, 2, 3] [] rfl rfl rfl rfl rfl (by decide) rfl hl.1 rfl (Nat.le_of_ble_eq_true rfl) dX7_readTest_3 ⟨Nat.le_of_ble_eq_true rfl, Nat.le_of_ble_eq_true rfl⟩ (fun v_2 u_3 H locs hv_4 hP₀ hD₀ hS₀ => ?_)
  obtain ⟨sv_5, sv_6, sv_7, sv_8, sv_9, sv_10, sv_11⟩ := u_3
  obtain ⟨rfl, pf_12, pf_13, pf_14, pf_15⟩ := hv_4
  have pf_12 : 0 ≤ ((Tv 0) : Int32).toInt ∧ ((Tv 0) : Int32).toInt ≤ 400 ∧ 0 ≤ (sv_8 : Int32).toInt ∧ (sv_8 : Int32).toInt ≤ 400 ∧ 0 ≤ (sv_9 : Int32).toInt ∧ (sv_9 : Int32).toInt ≤ 400 := pf_12
  have pf_13 : 0 ≤ (sv_5 : Int32).toInt ∧ (sv_5 : Int32).toInt ≤ 400 := pf_13
  have pf_14 : TpR (Tf 1) (Tv 0) (pz_b rr (pz_fact (cB (Tf 1) (Tv 0)) 4)) sv_8 sv_9 sv_10 sv_11 := pf_14
  obtain ⟨ro_16, ero_16⟩ : ∃ z : Except Int (Nat × Nat), z = (pz_b rr (pz_fact (cB (Tf 1) (Tv 0)) 4)) := ⟨_, rfl⟩
  rw [← ero_16] at pf_14
  have tb_17 : TpB (rTE (cB (Tf 1) (Tv 0)) ro_16) sv_9 sv_11 := TpR.tb pf_14
  have pf_15 : Ctd (pz_b rr (pz_fact (cB (Tf 1) (Tv 0)) 4)) sv_6 := pf_15
  rw [← ero_16] at pf_15
  refine W.eq (g2 := F0 m 6 ls []) rfl ?_
  replace hP : va_P D classes [((Va 0), .inr (7, [.ref (Va 1), .int sv_5, .int sv_6])), ((Va 1), .inl (tc 0, 400, .inl sv_7)), ((Ta 0), .inr (10, [.ref (Ta 1), .int (Tv 0), .int sv_8, .int sv_9, .int sv_10, .int sv_11])), ((Ta 1), .inl (tc 0, 400, .inl (Tf 1)))] H := hP₀
  replace hD : va_D A [((Va 0), .inr (7, [.ref (Va 1), .int sv_5, .int sv_6])), ((Va 1), .inl (tc 0, 400, .inl sv_7)), ((Ta 0), .inr (10, [.ref (Ta 1), .int (Tv 0), .int sv_8, .int sv_9, .int sv_10, .int sv_11])), ((Ta 1), .inl (tc 0, 400, .inl (Tf 1)))] := hD₀
  replace hS := hS₀
  clear hP₀ hD₀ hS₀
  refine lv_iconst (v := 0) hx hb dX7_readTest_6 (by decide) ?_
  refine lv_istore_n (lv' := [(3, .int 0), (0, .ref (Va 0)), (1, .ref (Ta 0)), (2, .int 6)]) hx hb dX7_readTest_7 rfl hl (by decide) rfl (fun ls hl₀ => ?_)
  replace hl := hl₀
  clear hl₀
  refine lv_iconst (v := 0) hx hb dX7_readTest_8 (by decide) ?_
  refine lv_istore (lv' := [(4, .int 0), (3, .int 0), (0, .ref (Va 0)), (1, .ref (Ta 0)), (2, .int 6)]) hx hb dX7_readTest_9 hl (by decide) rfl (fun ls hl₀ => ?_)
  replace hl := hl₀
  clear hl₀
  have loop_38 : ∀ (n_36 : Nat) (vy_27 : Int32) (vy_28 : Int32) (vy_29 : Int32) (vy_30 : Nat → Int32) (vy_31 : Int32) (vy_32 : Int32) (vy_33 : Int32) (vy_34 : Int32) (vy_35 : Int32) (H : Heap) (locs : List Loc) (ls : Array Slot), (401 - (vy_27 : Int32).toInt).toNat < n_36 → (0 ≤ (vy_27 : Int32).toInt ∧ (vy_27 : Int32).toInt ≤ 400) → (0 ≤ ((Tv 0) : Int32).toInt ∧ ((Tv 0) : Int32).toInt ≤ 400 ∧ 0 ≤ (vy_31 : Int32).toInt ∧ (vy_31 : Int32).toInt ≤ 400 ∧ 0 ≤ (vy_32 : Int32).toInt ∧ (vy_32 : Int32).toInt ≤ 400) → (0 ≤ (vy_28 : Int32).toInt ∧ (vy_28 : Int32).toInt ≤ 400) → (TeL (Tf 1) (Tv 0) 4 (pz_b rr (pz_tst (cB (Tf 1) (Tv 0)) (pz_fact (cB (Tf 1) (Tv 0)) 4))) vy_31 vy_32 vy_33 vy_34 vy_29 vy_27) → va_P D classes [((Va 0), .inr (7, [.ref (Va 1), .int vy_28, .int vy_29])), ((Va 1), .inl (tc 0, 400, .inl vy_30)), ((Ta 0), .inr (10, [.ref (Ta 1), .int (Tv 0), .int vy_31, .int vy_32, .int vy_33, .int vy_34])), ((Ta 1), .inl (tc 0, 400, .inl (Tf 1)))] H → va_D A [((Va 0), .inr (7, [.ref (Va 1), .int vy_28, .int vy_29])), ((Va 1), .inl (tc 0, 400, .inl vy_30)), ((Ta 0), .inr (10, [.ref (Ta 1), .int (Tv 0), .int vy_31, .int vy_32, .int vy_33, .int vy_34])), ((Ta 1), .inl (tc 0, 400, .inl (Tf 1)))] → va_S A s.heap H locs → lv_has ls 6 [(4, .int vy_27), (3, .int vy_35), (0, .ref (Va 0)), (1, .ref (Ta 0)), (2, .int 6)] → W p l e ({ frames := 17, cells := 0, slots := 0, locals := 400 }) s m ([.ref (Va 0), .ref (Ta 0), .int 6].toArray) below meth c H locs 0 0 (MQ below (QW (fun (v : Option Value) (u : (Int32) × (Int32) × (Nat → Int32) × (Int32) × (Int32) × (Int32) × (Int32)) => match u with | (oo0x1, oo0x2, oo0x3, oo0x4, oo0x5, oo0x6, oo0x7) => v = none ∧ (0 ≤ ((Tv 0) : Int32).toInt ∧ ((Tv 0) : Int32).toInt ≤ 400 ∧ 0 ≤ (oo0x4 : Int32).toInt ∧ (oo0x4 : Int32).toInt ≤ 400 ∧ 0 ≤ (oo0x5 : Int32).toInt ∧ (oo0x5 : Int32).toInt ≤ 400) ∧ (0 ≤ (oo0x1 : Int32).toInt ∧ (oo0x1 : Int32).toInt ≤ 400) ∧ (TpR (Tf 1) (Tv 0) (pz_b rr (pz_tst (cB (Tf 1) (Tv 0)) (pz_fact (cB (Tf 1) (Tv 0)) 4))) oo0x4 oo0x5 oo0x6 oo0x7) ∧ (Ctd (pz_b rr (pz_tst (cB (Tf 1) (Tv 0)) (pz_fact (cB (Tf 1) (Tv 0)) 4))) oo0x2)) (BW D (fun (u : (Int32) × (Int32) × (Nat → Int32) × (Int32) × (Int32) × (Int32) × (Int32)) => match u with | (oo0x1, oo0x2, oo0x3, oo0x4, oo0x5, oo0x6, oo0x7) => [((Va 0), .inr (7, [.ref (Va 1), .int oo0x1, .int oo0x2])), ((Va 1), .inl (tc 0, 400, .inl oo0x3)), ((Ta 0), .inr (10, [.ref (Ta 1), .int (Tv 0), .int oo0x4, .int oo0x5, .int oo0x6, .int oo0x7])), ((Ta 1), .inl (tc 0, 400, .inl (Tf 1)))]) A) A) ([.ref (Va 0), .ref (Ta 0), .int 6].toArray) s 0 0 A) (F0 m 11 ls []) := by
    clear hP hD hS hl
    intro n_36
    induction n_36 with
    | zero =>
      intro vy_27 vy_28 vy_29 vy_30 vy_31 vy_32 vy_33 vy_34 vy_35 H locs ls h1
      exact absurd h1 (Nat.not_lt_zero _)
    | succ n_36 ih_37 =>
      intro vy_27 vy_28 vy_29 vy_30 vy_31 vy_32 vy_33 vy_34 vy_35 H locs ls hn_43 pf_39 pf_40 pf_41 pf_42 hP hD hS hl
      obtain ⟨rq_44, pf_45, pf_46, pf_47, pf_48⟩ := id pf_42
      have tb_49 : TpB (rTE (cB (Tf 1) (Tv 0)) rq_44) vy_32 vy_34 := TpR.tb pf_45
      refine lv_iload hx hb dX7_readTest_11 (lv_at hl 0 rfl) ?_
      refine lv_sipush (v := 400) hx hb dX7_readTest_13 (by decide) ?_
      refine lv_icmp_ge (tgt := 92) hx hb dX7_readTest_16 (by decide) (fun c_50 => ?_) (fun c_50 => ?_)
      · skip
        refine lv_iload_n hx hb dX7_readTest_92 rfl (lv_at hl 1 rfl) ?_
        refine lv_if_eq (tgt := 102) hx hb dX7_readTest_93 (by decide) (fun c_51 => ?_) (fun c_51 => ?_)
        · skip
          have hf_52 : TpR (Tf 1) (Tv 0) (pz_b rr (pz_tst (cB (Tf 1) (Tv 0)) (pz_fact (cB (Tf 1) (Tv 0)) 4))) vy_31 vy_32 vy_33 vy_34 := by
            have hr_53 : 400 ≤ (vy_27 : Int32).toInt := by
              have z_1 := Int32.le_iff_toInt_le.mp c_50
              have z_2 := congrArg Int32.toInt c_51
              have y_0 : (0 : Int32).toInt = 0 := by decide
              have y_400 : (400 : Int32).toInt = 400 := by decide
              omega
            rw [pf_47, tst_end h_tape.2.1 pf_48 (Or.inl hr_53)]
            exact pf_45
          have hf_54 : Ctd (pz_b rr (pz_tst (cB (Tf 1) (Tv 0)) (pz_fact (cB (Tf 1) (Tv 0)) 4))) vy_29 := by
            have hr_55 : 400 ≤ (vy_27 : Int32).toInt := by
              have z_1 := Int32.le_iff_toInt_le.mp c_50
              have z_2 := congrArg Int32.toInt c_51
              have y_0 : (0 : Int32).toInt = 0 := by decide
              have y_400 : (400 : Int32).toInt = 400 := by decide
              omega
            rw [pf_47, tst_end h_tape.2.1 pf_48 (Or.inl hr_55)]
            exact pf_46
          exact retV hx hb hr hlk hP hD hS (vy_28, vy_29, vy_30, vy_31, vy_32, vy_33, vy_34) ⟨rfl, pf_40, pf_41, hf_52, hf_54⟩ [0, 1, 2, 3] rfl rfl dX7_readTest_102 (Nat.le_of_ble_eq_true rfl) (Nat.le_of_ble_eq_true rfl) rfl
        · skip
          refine lv_aload_n hx hb dX7_readTest_96 rfl (lv_at hl 2 rfl) ?_
          refine lv_bipush (v := (-6)) hx hb dX7_readTest_97 (by decide) ?_
          refine cV (a := (Va 0)) (As := [.int (-6)]) (rest := []) (wr := [((Ta 0), .inr (10, [.ref (Ta 1), .int (Tv 0), .int vy_31, .int vy_32, .int vy_33, .int vy_34])), ((Ta 1), .inl (tc 0, 400, .inl (Tf 1)))]) ⟨hx, hb, hml, hown, hts⟩ hK hX hA (cu_fX7_put l D tc sk (Va 0) (Va 1) vy_28 vy_29 vy_30 (-6) pf_41) k_642 k_639 k_641 k_10 k_99 pl_X7_put ⟨Nat.le_of_ble_eq_true rfl, Nat.le_of_ble_eq_true rfl⟩ rfl rfl (va_recv hK hP (ci := 7) (q0 := 0) rfl rfl) hP hD hS [0, 1] [2, 3] rfl rfl rfl rfl rfl (by decide) rfl hl.1 rfl (Nat.le_of_ble_eq_true rfl) dX7_readTest_99 ⟨Nat.le_of_ble_eq_true rfl, Nat.le_of_ble_eq_true rfl⟩ (fun v_56 u_57 H locs hv_58 hP₀ hD₀ hS₀ => ?_)
          obtain ⟨sv_59, sv_60⟩ := u_57
          obtain ⟨rfl, pf_61⟩ := hv_58
          have pf_61 : 0 ≤ (sv_59 : Int32).toInt ∧ (sv_59 : Int32).toInt ≤ 400 := pf_61
          refine W.eq (g2 := F0 m 102 ls []) rfl ?_
          replace hP : va_P D classes [((Ta 0), .inr (10, [.ref (Ta 1), .int (Tv 0), .int vy_31, .int vy_32, .int vy_33, .int vy_34])), ((Ta 1), .inl (tc 0, 400, .inl (Tf 1))), ((Va 0), .inr (7, [.ref (Va 1), .int sv_59, .int vy_29])), ((Va 1), .inl (tc 0, 400, .inl sv_60))] H := hP₀
          replace hD : va_D A [((Ta 0), .inr (10, [.ref (Ta 1), .int (Tv 0), .int vy_31, .int vy_32, .int vy_33, .int vy_34])), ((Ta 1), .inl (tc 0, 400, .inl (Tf 1))), ((Va 0), .inr (7, [.ref (Va 1), .int sv_59, .int vy_29])), ((Va 1), .inl (tc 0, 400, .inl sv_60))] := hD₀
          replace hS := hS₀
          clear hP₀ hD₀ hS₀
          have hf_62 : TpR (Tf 1) (Tv 0) (pz_b rr (pz_tst (cB (Tf 1) (Tv 0)) (pz_fact (cB (Tf 1) (Tv 0)) 4))) vy_31 vy_32 vy_33 vy_34 := by
            have hr_63 : 400 ≤ (vy_27 : Int32).toInt := by
              have z_1 := Int32.le_iff_toInt_le.mp c_50
              have z_2 : ¬ (vy_35 : Int32).toInt = (0 : Int32).toInt := fun z => c_51 (Int32.toInt_inj.mp z)
              have y_0 : (0 : Int32).toInt = 0 := by decide
              have y_400 : (400 : Int32).toInt = 400 := by decide
              omega
            rw [pf_47, tst_end h_tape.2.1 pf_48 (Or.inl hr_63)]
            exact pf_45
          have hf_64 : Ctd (pz_b rr (pz_tst (cB (Tf 1) (Tv 0)) (pz_fact (cB (Tf 1) (Tv 0)) 4))) vy_29 := by
            have hr_65 : 400 ≤ (vy_27 : Int32).toInt := by
              have z_1 := Int32.le_iff_toInt_le.mp c_50
              have z_2 : ¬ (vy_35 : Int32).toInt = (0 : Int32).toInt := fun z => c_51 (Int32.toInt_inj.mp z)
              have y_0 : (0 : Int32).toInt = 0 := by decide
              have y_400 : (400 : Int32).toInt = 400 := by decide
              omega
            rw [pf_47, tst_end h_tape.2.1 pf_48 (Or.inl hr_65)]
            exact pf_46
          exact retV hx hb hr hlk hP hD hS (sv_59, vy_29, sv_60, vy_31, vy_32, vy_33, vy_34) ⟨rfl, pf_40, pf_61, hf_62, hf_64⟩ [2, 3, 0, 1] rfl rfl dX7_readTest_102 (Nat.le_of_ble_eq_true rfl) (Nat.le_of_ble_eq_true rfl) rfl
      · skip
        refine lv_aload_n hx hb dX7_readTest_19 rfl (lv_at hl 3 rfl) ?_
        refine va_ldcS hx hb hown (sx_5 hX) dX7_readTest_20 ?_
        have ha_66 : (5 : Nat) < 7 := by
          have z_1 := Int32.lt_iff_toInt_lt.mp (Int32.not_le.mp c_50)
          have y_400 : (400 : Int32).toInt = 400 := by decide
          have y_5 : (5 : Int32).toInt = 5 := by decide
          omega
        refine cV (a := (Ta 0)) (As := [.ref (sk.1 5)]) (rest := []) (wr := [((Va 0), .inr (7, [.ref (Va 1), .int vy_28, .int vy_29])), ((Va 1), .inl (tc 0, 400, .inl vy_30))]) ⟨hx, hb, hml, hown, hts⟩ hK hX hA (cu_fX10_isWord l D tc sk (Ta 0) (Ta 1) (Tv 0) vy_31 vy_32 vy_33 vy_34 (Tf 1) 5 rq_44 ha_66 pf_40 h_by pf_45) k_618 k_615 k_616 k_617 k_96 pl_X10_isWord ⟨Nat.le_of_ble_eq_true rfl, Nat.le_of_ble_eq_true rfl⟩ rfl rfl (va_recv hK hP (ci := 10) (q0 := 2) rfl rfl) hP hD hS [2, 3] [0, 1] rfl rfl rfl rfl rfl (by decide) rfl hl.1 rfl (Nat.le_of_ble_eq_true rfl) dX7_readTest_22 ⟨Nat.le_of_ble_eq_true rfl, Nat.le_of_ble_eq_true rfl⟩ (fun v_67 u_68 H locs hv_69 hP₀ hD₀ hS₀ => ?_)
        obtain ⟨r_70, rfl, he_71, hm_73, hm_74⟩ := hv_69
        have he_71 : (r_70.toInt = 0 ∨ r_70.toInt = 1) := he_71
        refine W.eq (g2 := F0 m 25 ls [.int r_70]) rfl ?_
        replace hP : va_P D classes [((Va 0), .inr (7, [.ref (Va 1), .int vy_28, .int vy_29])), ((Va 1), .inl (tc 0, 400, .inl vy_30)), ((Ta 0), .inr (10, [.ref (Ta 1), .int (Tv 0), .int vy_31, .int vy_32, .int vy_33, .int vy_34])), ((Ta 1), .inl (tc 0, 400, .inl (Tf 1)))] H := hP₀
        replace hD : va_D A [((Va 0), .inr (7, [.ref (Va 1), .int vy_28, .int vy_29])), ((Va 1), .inl (tc 0, 400, .inl vy_30)), ((Ta 0), .inr (10, [.ref (Ta 1), .int (Tv 0), .int vy_31, .int vy_32, .int vy_33, .int vy_34])), ((Ta 1), .inl (tc 0, 400, .inl (Tf 1)))] := hD₀
        replace hS := hS₀
        clear hP₀ hD₀ hS₀
        refine lv_if_ne (tgt := 37) hx hb dX7_readTest_25 (by decide) (fun c_75 => ?_) (fun c_75 => ?_)
        · skip
          have hz_77 : (r_70 : Int32).toInt = 1 := by
            have z_1 := Int32.lt_iff_toInt_lt.mp (Int32.not_le.mp c_50)
            have z_2 : ¬ (r_70 : Int32).toInt = (0 : Int32).toInt := fun z => c_75 (Int32.toInt_inj.mp z)
            have y_0 : (0 : Int32).toInt = 0 := by decide
            have y_400 : (400 : Int32).toInt = 400 := by decide
            omega
          obtain pf_76 := hm_73 hz_77
          have pf_76 : TWd (cB (Tf 1) (Tv 0)) (wS (5 : Nat)) rq_44 := pf_76
          refine lv_aload_n hx hb dX7_readTest_37 rfl (lv_at hl 3 rfl) ?_
          refine va_ldcS hx hb hown (sx_6 hX) dX7_readTest_38 ?_
          have ha_78 : (6 : Nat) < 7 := by
            have z_1 := Int32.lt_iff_toInt_lt.mp (Int32.not_le.mp c_50)
            have z_2 : ¬ (r_70 : Int32).toInt = (0 : Int32).toInt := fun z => c_75 (Int32.toInt_inj.mp z)
            have y_0 : (0 : Int32).toInt = 0 := by decide
            have y_400 : (400 : Int32).toInt = 400 := by decide
            have y_6 : (6 : Int32).toInt = 6 := by decide
            omega
          refine cV (a := (Ta 0)) (As := [.ref (sk.1 6)]) (rest := []) (wr := [((Va 0), .inr (7, [.ref (Va 1), .int vy_28, .int vy_29])), ((Va 1), .inl (tc 0, 400, .inl vy_30))]) ⟨hx, hb, hml, hown, hts⟩ hK hX hA (cu_fX10_isWord l D tc sk (Ta 0) (Ta 1) (Tv 0) vy_31 vy_32 vy_33 vy_34 (Tf 1) 6 rq_44 ha_78 pf_40 h_by pf_45) k_618 k_615 k_616 k_617 k_96 pl_X10_isWord ⟨Nat.le_of_ble_eq_true rfl, Nat.le_of_ble_eq_true rfl⟩ rfl rfl (va_recv hK hP (ci := 10) (q0 := 2) rfl rfl) hP hD hS [2, 3] [0, 1] rfl rfl rfl rfl rfl (by decide) rfl hl.1 rfl (Nat.le_of_ble_eq_true rfl) dX7_readTest_40 ⟨Nat.le_of_ble_eq_true rfl, Nat.le_of_ble_eq_true rfl⟩ (fun v_79 u_80 H locs hv_81 hP₀ hD₀ hS₀ => ?_)
          obtain ⟨r_82, rfl, he_83, hm_85, hm_86⟩ := hv_81
          have he_83 : (r_82.toInt = 0 ∨ r_82.toInt = 1) := he_83
          refine W.eq (g2 := F0 m 43 ls [.int r_82]) rfl ?_
          replace hP : va_P D classes [((Va 0), .inr (7, [.ref (Va 1), .int vy_28, .int vy_29])), ((Va 1), .inl (tc 0, 400, .inl vy_30)), ((Ta 0), .inr (10, [.ref (Ta 1), .int (Tv 0), .int vy_31, .int vy_32, .int vy_33, .int vy_34])), ((Ta 1), .inl (tc 0, 400, .inl (Tf 1)))] H := hP₀
          replace hD : va_D A [((Va 0), .inr (7, [.ref (Va 1), .int vy_28, .int vy_29])), ((Va 1), .inl (tc 0, 400, .inl vy_30)), ((Ta 0), .inr (10, [.ref (Ta 1), .int (Tv 0), .int vy_31, .int vy_32, .int vy_33, .int vy_34])), ((Ta 1), .inl (tc 0, 400, .inl (Tf 1)))] := hD₀
          replace hS := hS₀
          clear hP₀ hD₀ hS₀
          refine lv_istore (lv' := [(5, .int r_82), (4, .int vy_27), (3, .int vy_35), (0, .ref (Va 0)), (1, .ref (Ta 0)), (2, .int 6)]) hx hb dX7_readTest_43 hl (by decide) rfl (fun ls hl₀ => ?_)
          replace hl := hl₀
          clear hl₀
          refine lv_iload hx hb dX7_readTest_45 (lv_at hl 0 rfl) ?_
          refine lv_if_eq (tgt := 60) hx hb dX7_readTest_47 (by decide) (fun c_87 => ?_) (fun c_87 => ?_)
          · skip
            have hz_89 : (r_82 : Int32).toInt = 0 := by
              have z_1 := Int32.lt_iff_toInt_lt.mp (Int32.not_le.mp c_50)
              have z_2 : ¬ (r_70 : Int32).toInt = (0 : Int32).toInt := fun z => c_75 (Int32.toInt_inj.mp z)
              have z_3 := congrArg Int32.toInt c_87
              have y_0 : (0 : Int32).toInt = 0 := by decide
              have y_400 : (400 : Int32).toInt = 400 := by decide
              omega
            obtain pf_88 := hm_86 hz_89
            have pf_88 : NWd (cB (Tf 1) (Tv 0)) (wS (6 : Nat)) rq_44 := pf_88
            refine lv_aload_n hx hb dX7_readTest_60 rfl (lv_at hl 4 rfl) ?_
            refine cV (a := (Ta 0)) (As := []) (rest := []) (wr := [((Va 0), .inr (7, [.ref (Va 1), .int vy_28, .int vy_29])), ((Va 1), .inl (tc 0, 400, .inl vy_30))]) ⟨hx, hb, hml, hown, hts⟩ hK hX hA (cu_fX10_step l D tc sk (Ta 0) (Ta 1) (Tv 0) vy_31 vy_32 vy_33 vy_34 (Tf 1) (rTE (cB (Tf 1) (Tv 0)) rq_44) pf_40 h_by tb_49) k_478 k_620 k_476 k_477 k_96 pl_X10_step ⟨Nat.le_of_ble_eq_true rfl, Nat.le_of_ble_eq_true rfl⟩ rfl rfl (va_recv hK hP (ci := 10) (q0 := 2) rfl rfl) hP hD hS [2, 3] [0, 1] rfl rfl rfl rfl rfl (by decide) rfl hl.1 rfl (Nat.le_of_ble_eq_true rfl) dX7_readTest_61 ⟨Nat.le_of_ble_eq_true rfl, Nat.le_of_ble_eq_true rfl⟩ (fun v_90 u_91 H locs hv_92 hP₀ hD₀ hS₀ => ?_)
            obtain ⟨sv_93, sv_94, sv_95⟩ := u_91
            obtain ⟨rfl, pf_96, pf_97⟩ := hv_92
            have pf_96 : 0 ≤ ((Tv 0) : Int32).toInt ∧ ((Tv 0) : Int32).toInt ≤ 400 ∧ 0 ≤ (sv_93 : Int32).toInt ∧ (sv_93 : Int32).toInt ≤ 400 ∧ 0 ≤ (sv_94 : Int32).toInt ∧ (sv_94 : Int32).toInt ≤ 400 := pf_96
            have pf_97 : TpR (Tf 1) (Tv 0) (rSK (cB (Tf 1) (Tv 0)) (rTE (cB (Tf 1) (Tv 0)) rq_44)) sv_93 sv_94 sv_95 vy_34 := pf_97
            rw [rNX_eq] at pf_97
            obtain ⟨ro_98, ero_98⟩ : ∃ z : Except Int (Nat × Nat), z = (rNX (cB (Tf 1) (Tv 0)) rq_44) := ⟨_, rfl⟩
            rw [← ero_98] at pf_97
            have tb_99 : TpB (rTE (cB (Tf 1) (Tv 0)) ro_98) sv_94 vy_34 := TpR.tb pf_97
            have cd_100 : Ctd ro_98 vy_29 := by rw [ero_98]; exact (Ctd.nx pf_46)
            refine W.eq (g2 := F0 m 64 ls []) rfl ?_
            replace hP : va_P D classes [((Va 0), .inr (7, [.ref (Va 1), .int vy_28, .int vy_29])), ((Va 1), .inl (tc 0, 400, .inl vy_30)), ((Ta 0), .inr (10, [.ref (Ta 1), .int (Tv 0), .int sv_93, .int sv_94, .int sv_95, .int vy_34])), ((Ta 1), .inl (tc 0, 400, .inl (Tf 1)))] H := hP₀
            replace hD : va_D A [((Va 0), .inr (7, [.ref (Va 1), .int vy_28, .int vy_29])), ((Va 1), .inl (tc 0, 400, .inl vy_30)), ((Ta 0), .inr (10, [.ref (Ta 1), .int (Tv 0), .int sv_93, .int sv_94, .int sv_95, .int vy_34])), ((Ta 1), .inl (tc 0, 400, .inl (Tf 1)))] := hD₀
            replace hS := hS₀
            clear hP₀ hD₀ hS₀
            refine lv_aload_n hx hb dX7_readTest_64 rfl (lv_at hl 3 rfl) ?_
            refine lv_aload_n hx hb dX7_readTest_65 rfl (lv_at hl 4 rfl) ?_
            refine lv_iload_n hx hb dX7_readTest_66 rfl (lv_at hl 5 rfl) ?_
            refine cV (a := (Va 0)) (As := [.ref (Ta 0), .int 6]) (rest := []) (wr := []) ⟨hx, hb, hml, hown, hts⟩ hK hX hA (cu_fX7_readFact_6 l D tc sk (Va 0) (Va 1) vy_28 vy_29 vy_30 (Ta 0) (Ta 1) (Tv 0) sv_93 sv_94 sv_95 vy_34 (Tf 1) ro_98 pf_96 pf_41 h_by pf_97 cd_100) k_659 k_656 k_658 k_12 k_99 pl_X7_readFact ⟨Nat.le_of_ble_eq_true rfl, Nat.le_of_ble_eq_true rfl⟩ rfl rfl (va_recv hK hP (ci := 7) (q0 := 0) rfl rfl) hP hD hS [0, 1, 2, 3] [] rfl rfl rfl rfl rfl (by decide) rfl hl.1 rfl (Nat.le_of_ble_eq_true rfl) dX7_readTest_67 ⟨Nat.le_of_ble_eq_true rfl, Nat.le_of_ble_eq_true rfl⟩ (fun v_101 u_102 H locs hv_103 hP₀ hD₀ hS₀ => ?_)
            obtain ⟨sv_104, sv_105, sv_106, sv_107, sv_108, sv_109, sv_110⟩ := u_102
            obtain ⟨rfl, pf_111, pf_112, pf_113, pf_114⟩ := hv_103
            have pf_111 : 0 ≤ ((Tv 0) : Int32).toInt ∧ ((Tv 0) : Int32).toInt ≤ 400 ∧ 0 ≤ (sv_107 : Int32).toInt ∧ (sv_107 : Int32).toInt ≤ 400 ∧ 0 ≤ (sv_108 : Int32).toInt ∧ (sv_108 : Int32).toInt ≤ 400 := pf_111
            have pf_112 : 0 ≤ (sv_104 : Int32).toInt ∧ (sv_104 : Int32).toInt ≤ 400 := pf_112
            have pf_113 : TpR (Tf 1) (Tv 0) (pz_b ro_98 (pz_fact (cB (Tf 1) (Tv 0)) 4)) sv_107 sv_108 sv_109 sv_110 := pf_113
            obtain ⟨ro_115, ero_115⟩ : ∃ z : Except Int (Nat × Nat), z = (pz_b ro_98 (pz_fact (cB (Tf 1) (Tv 0)) 4)) := ⟨_, rfl⟩
            rw [← ero_115] at pf_113
            have tb_116 : TpB (rTE (cB (Tf 1) (Tv 0)) ro_115) sv_108 sv_110 := TpR.tb pf_113
            have pf_114 : Ctd (pz_b ro_98 (pz_fact (cB (Tf 1) (Tv 0)) 4)) sv_105 := pf_114
            rw [← ero_115] at pf_114
            refine W.eq (g2 := F0 m 70 ls []) rfl ?_
            replace hP : va_P D classes [((Va 0), .inr (7, [.ref (Va 1), .int sv_104, .int sv_105])), ((Va 1), .inl (tc 0, 400, .inl sv_106)), ((Ta 0), .inr (10, [.ref (Ta 1), .int (Tv 0), .int sv_107, .int sv_108, .int sv_109, .int sv_110])), ((Ta 1), .inl (tc 0, 400, .inl (Tf 1)))] H := hP₀
            replace hD : va_D A [((Va 0), .inr (7, [.ref (Va 1), .int sv_104, .int sv_105])), ((Va 1), .inl (tc 0, 400, .inl sv_106)), ((Ta 0), .inr (10, [.ref (Ta 1), .int (Tv 0), .int sv_107, .int sv_108, .int sv_109, .int sv_110])), ((Ta 1), .inl (tc 0, 400, .inl (Tf 1)))] := hD₀
            replace hS := hS₀
            clear hP₀ hD₀ hS₀
            refine lv_iload hx hb dX7_readTest_70 (lv_at hl 0 rfl) ?_
            refine lv_if_eq (tgt := 80) hx hb dX7_readTest_72 (by decide) (fun c_117 => ?_) (fun c_117 => ?_)
            · skip
              refine lv_aload_n hx hb dX7_readTest_80 rfl (lv_at hl 3 rfl) ?_
              refine lv_bipush (v := (-5)) hx hb dX7_readTest_81 (by decide) ?_
              refine cV (a := (Va 0)) (As := [.int (-5)]) (rest := []) (wr := [((Ta 0), .inr (10, [.ref (Ta 1), .int (Tv 0), .int sv_107, .int sv_108, .int sv_109, .int sv_110])), ((Ta 1), .inl (tc 0, 400, .inl (Tf 1)))]) ⟨hx, hb, hml, hown, hts⟩ hK hX hA (cu_fX7_put l D tc sk (Va 0) (Va 1) sv_104 sv_105 sv_106 (-5) pf_112) k_642 k_639 k_641 k_10 k_99 pl_X7_put ⟨Nat.le_of_ble_eq_true rfl, Nat.le_of_ble_eq_true rfl⟩ rfl rfl (va_recv hK hP (ci := 7) (q0 := 0) rfl rfl) hP hD hS [0, 1] [2, 3] rfl rfl rfl rfl rfl (by decide) rfl hl.1 rfl (Nat.le_of_ble_eq_true rfl) dX7_readTest_83 ⟨Nat.le_of_ble_eq_true rfl, Nat.le_of_ble_eq_true rfl⟩ (fun v_118 u_119 H locs hv_120 hP₀ hD₀ hS₀ => ?_)
              obtain ⟨sv_121, sv_122⟩ := u_119
              obtain ⟨rfl, pf_123⟩ := hv_120
              have pf_123 : 0 ≤ (sv_121 : Int32).toInt ∧ (sv_121 : Int32).toInt ≤ 400 := pf_123
              refine W.eq (g2 := F0 m 86 ls []) rfl ?_
              replace hP : va_P D classes [((Ta 0), .inr (10, [.ref (Ta 1), .int (Tv 0), .int sv_107, .int sv_108, .int sv_109, .int sv_110])), ((Ta 1), .inl (tc 0, 400, .inl (Tf 1))), ((Va 0), .inr (7, [.ref (Va 1), .int sv_121, .int sv_105])), ((Va 1), .inl (tc 0, 400, .inl sv_122))] H := hP₀
              replace hD : va_D A [((Ta 0), .inr (10, [.ref (Ta 1), .int (Tv 0), .int sv_107, .int sv_108, .int sv_109, .int sv_110])), ((Ta 1), .inl (tc 0, 400, .inl (Tf 1))), ((Va 0), .inr (7, [.ref (Va 1), .int sv_121, .int sv_105])), ((Va 1), .inl (tc 0, 400, .inl sv_122))] := hD₀
              replace hS := hS₀
              clear hP₀ hD₀ hS₀
              obtain ⟨x_124, ex_124⟩ : ∃ y : Int32, y = vy_27 + 1 := ⟨_, rfl⟩
              refine lv_iinc (v := x_124) (lv' := [(4, .int x_124), (5, .int r_82), (3, .int vy_35), (0, .ref (Va 0)), (1, .ref (Ta 0)), (2, .int 6)]) hx hb dX7_readTest_86 hl (k := 1) rfl (by rw [ex_124]; rfl) (by decide) rfl (fun ls hl₀ => ?_)
              replace hl := hl₀
              clear hl₀
              refine lv_goto (tgt := 11) hx hb dX7_readTest_89 (by decide) ?_
              have hb_125 : 401 - (x_124 : Int32).toInt < 401 - (vy_27 : Int32).toInt ∧ 1 ≤ 401 - (vy_27 : Int32).toInt := by
                have z_1 := Int32.lt_iff_toInt_lt.mp (Int32.not_le.mp c_50)
                have z_2 : ¬ (r_70 : Int32).toInt = (0 : Int32).toInt := fun z => c_75 (Int32.toInt_inj.mp z)
                have z_3 := congrArg Int32.toInt c_87
                have z_4 := congrArg Int32.toInt c_117
                have y_0 : (0 : Int32).toInt = 0 := by decide
                have y_400 : (400 : Int32).toInt = 400 := by decide
                have y_1 : (1 : Int32).toInt = 1 := by decide
                have t_x_124 : x_124.toInt = (vy_27 : Int32).toInt + (1 : Int32).toInt := by rw [ex_124]; exact add_toInt (by omega) (by omega)
                omega
              have ha_126 : 0 ≤ (x_124 : Int32).toInt ∧ (x_124 : Int32).toInt ≤ 400 := by
                have z_1 := Int32.lt_iff_toInt_lt.mp (Int32.not_le.mp c_50)
                have z_2 : ¬ (r_70 : Int32).toInt = (0 : Int32).toInt := fun z => c_75 (Int32.toInt_inj.mp z)
                have z_3 := congrArg Int32.toInt c_87
                have z_4 := congrArg Int32.toInt c_117
                have y_0 : (0 : Int32).toInt = 0 := by decide
                have y_400 : (400 : Int32).toInt = 400 := by decide
                have y_1 : (1 : Int32).toInt = 1 := by decide
                have t_x_124 : x_124.toInt = (vy_27 : Int32).toInt + (1 : Int32).toInt := by rw [ex_124]; exact add_toInt (by omega) (by omega)
                omega
              have hu_127 : TpR (Tf 1) (Tv 0) (pz_b (rNX (cB (Tf 1) (Tv 0)) rq_44) (pz_fact (cB (Tf 1) (Tv 0)) 4)) sv_107 sv_108 sv_109 sv_110 := by
                rw [← ero_98, ← ero_115]
                exact pf_113
              have hu_128 : Ctd (pz_b (rNX (cB (Tf 1) (Tv 0)) rq_44) (pz_fact (cB (Tf 1) (Tv 0)) 4)) sv_105 := by
                rw [← ero_98, ← ero_115]
                exact pf_114
              have hw_129 : TWd (cB (Tf 1) (Tv 0)) pz_and rq_44 := by
                rw [← wS5]
                exact pf_76
              have hi_130 : (x_124 : Int32).toInt = (vy_27 : Int32).toInt + 1 := by
                have z_1 := Int32.lt_iff_toInt_lt.mp (Int32.not_le.mp c_50)
                have z_2 : ¬ (r_70 : Int32).toInt = (0 : Int32).toInt := fun z => c_75 (Int32.toInt_inj.mp z)
                have z_3 := congrArg Int32.toInt c_87
                have z_4 := congrArg Int32.toInt c_117
                have y_0 : (0 : Int32).toInt = 0 := by decide
                have y_400 : (400 : Int32).toInt = 400 := by decide
                have y_1 : (1 : Int32).toInt = 1 := by decide
                have t_x_124 : x_124.toInt = (vy_27 : Int32).toInt + (1 : Int32).toInt := by rw [ex_124]; exact add_toInt (by omega) (by omega)
                omega
              exact ih_37 x_124 sv_121 sv_105 sv_122 sv_107 sv_108 sv_109 sv_110 vy_35 _ _ _ (by omega) ha_126 pf_111 pf_123 (TeL.next h_tape.2.1 pf_47 pf_48 (Or.inl hw_129) hu_127 hu_128 hi_130) (hP.sub [2, 3, 0, 1] rfl) (hD.sub [2, 3, 0, 1] rfl rfl) hS (lv_sub hl [0, 2, 3, 4, 5] rfl)
            · skip
              exfalso
              have z_1 := Int32.lt_iff_toInt_lt.mp (Int32.not_le.mp c_50)
              have z_2 : ¬ (r_70 : Int32).toInt = (0 : Int32).toInt := fun z => c_75 (Int32.toInt_inj.mp z)
              have z_3 := congrArg Int32.toInt c_87
              have z_4 : ¬ (r_82 : Int32).toInt = (0 : Int32).toInt := fun z => c_117 (Int32.toInt_inj.mp z)
              have y_0 : (0 : Int32).toInt = 0 := by decide
              have y_400 : (400 : Int32).toInt = 400 := by decide
              omega
          · skip
            have hz_132 : (r_82 : Int32).toInt = 1 := by
              have z_1 := Int32.lt_iff_toInt_lt.mp (Int32.not_le.mp c_50)
              have z_2 : ¬ (r_70 : Int32).toInt = (0 : Int32).toInt := fun z => c_75 (Int32.toInt_inj.mp z)
              have z_3 : ¬ (r_82 : Int32).toInt = (0 : Int32).toInt := fun z => c_87 (Int32.toInt_inj.mp z)
              have y_0 : (0 : Int32).toInt = 0 := by decide
              have y_400 : (400 : Int32).toInt = 400 := by decide
              omega
            obtain pf_131 := hm_85 hz_132
            have pf_131 : TWd (cB (Tf 1) (Tv 0)) (wS (6 : Nat)) rq_44 := pf_131
            refine lv_iload_n hx hb dX7_readTest_50 rfl (lv_at hl 2 rfl) ?_
            refine lv_if_eq (tgt := 60) hx hb dX7_readTest_51 (by decide) (fun c_133 => ?_) (fun c_133 => ?_)
            · skip
              refine lv_aload_n hx hb dX7_readTest_60 rfl (lv_at hl 4 rfl) ?_
              refine cV (a := (Ta 0)) (As := []) (rest := []) (wr := [((Va 0), .inr (7, [.ref (Va 1), .int vy_28, .int vy_29])), ((Va 1), .inl (tc 0, 400, .inl vy_30))]) ⟨hx, hb, hml, hown, hts⟩ hK hX hA (cu_fX10_step l D tc sk (Ta 0) (Ta 1) (Tv 0) vy_31 vy_32 vy_33 vy_34 (Tf 1) (rTE (cB (Tf 1) (Tv 0)) rq_44) pf_40 h_by tb_49) k_478 k_620 k_476 k_477 k_96 pl_X10_step ⟨Nat.le_of_ble_eq_true rfl, Nat.le_of_ble_eq_true rfl⟩ rfl rfl (va_recv hK hP (ci := 10) (q0 := 2) rfl rfl) hP hD hS [2, 3] [0, 1] rfl rfl rfl rfl rfl (by decide) rfl hl.1 rfl (Nat.le_of_ble_eq_true rfl) dX7_readTest_61 ⟨Nat.le_of_ble_eq_true rfl, Nat.le_of_ble_eq_true rfl⟩ (fun v_134 u_135 H locs hv_136 hP₀ hD₀ hS₀ => ?_)
              obtain ⟨sv_137, sv_138, sv_139⟩ := u_135
              obtain ⟨rfl, pf_140, pf_141⟩ := hv_136
              have pf_140 : 0 ≤ ((Tv 0) : Int32).toInt ∧ ((Tv 0) : Int32).toInt ≤ 400 ∧ 0 ≤ (sv_137 : Int32).toInt ∧ (sv_137 : Int32).toInt ≤ 400 ∧ 0 ≤ (sv_138 : Int32).toInt ∧ (sv_138 : Int32).toInt ≤ 400 := pf_140
              have pf_141 : TpR (Tf 1) (Tv 0) (rSK (cB (Tf 1) (Tv 0)) (rTE (cB (Tf 1) (Tv 0)) rq_44)) sv_137 sv_138 sv_139 vy_34 := pf_141
              rw [rNX_eq] at pf_141
              obtain ⟨ro_142, ero_142⟩ : ∃ z : Except Int (Nat × Nat), z = (rNX (cB (Tf 1) (Tv 0)) rq_44) := ⟨_, rfl⟩
              rw [← ero_142] at pf_141
              have tb_143 : TpB (rTE (cB (Tf 1) (Tv 0)) ro_142) sv_138 vy_34 := TpR.tb pf_141
              have cd_144 : Ctd ro_142 vy_29 := by rw [ero_142]; exact (Ctd.nx pf_46)
              refine W.eq (g2 := F0 m 64 ls []) rfl ?_
              replace hP : va_P D classes [((Va 0), .inr (7, [.ref (Va 1), .int vy_28, .int vy_29])), ((Va 1), .inl (tc 0, 400, .inl vy_30)), ((Ta 0), .inr (10, [.ref (Ta 1), .int (Tv 0), .int sv_137, .int sv_138, .int sv_139, .int vy_34])), ((Ta 1), .inl (tc 0, 400, .inl (Tf 1)))] H := hP₀
              replace hD : va_D A [((Va 0), .inr (7, [.ref (Va 1), .int vy_28, .int vy_29])), ((Va 1), .inl (tc 0, 400, .inl vy_30)), ((Ta 0), .inr (10, [.ref (Ta 1), .int (Tv 0), .int sv_137, .int sv_138, .int sv_139, .int vy_34])), ((Ta 1), .inl (tc 0, 400, .inl (Tf 1)))] := hD₀
              replace hS := hS₀
              clear hP₀ hD₀ hS₀
              refine lv_aload_n hx hb dX7_readTest_64 rfl (lv_at hl 3 rfl) ?_
              refine lv_aload_n hx hb dX7_readTest_65 rfl (lv_at hl 4 rfl) ?_
              refine lv_iload_n hx hb dX7_readTest_66 rfl (lv_at hl 5 rfl) ?_
              refine cV (a := (Va 0)) (As := [.ref (Ta 0), .int 6]) (rest := []) (wr := []) ⟨hx, hb, hml, hown, hts⟩ hK hX hA (cu_fX7_readFact_6 l D tc sk (Va 0) (Va 1) vy_28 vy_29 vy_30 (Ta 0) (Ta 1) (Tv 0) sv_137 sv_138 sv_139 vy_34 (Tf 1) ro_142 pf_140 pf_41 h_by pf_141 cd_144) k_659 k_656 k_658 k_12 k_99 pl_X7_readFact ⟨Nat.le_of_ble_eq_true rfl, Nat.le_of_ble_eq_true rfl⟩ rfl rfl (va_recv hK hP (ci := 7) (q0 := 0) rfl rfl) hP hD hS [0, 1, 2, 3] [] rfl rfl rfl rfl rfl (by decide) rfl hl.1 rfl (Nat.le_of_ble_eq_true rfl) dX7_readTest_67 ⟨Nat.le_of_ble_eq_true rfl, Nat.le_of_ble_eq_true rfl⟩ (fun v_145 u_146 H locs hv_147 hP₀ hD₀ hS₀ => ?_)
              obtain ⟨sv_148, sv_149, sv_150, sv_151, sv_152, sv_153, sv_154⟩ := u_146
              obtain ⟨rfl, pf_155, pf_156, pf_157, pf_158⟩ := hv_147
              have pf_155 : 0 ≤ ((Tv 0) : Int32).toInt ∧ ((Tv 0) : Int32).toInt ≤ 400 ∧ 0 ≤ (sv_151 : Int32).toInt ∧ (sv_151 : Int32).toInt ≤ 400 ∧ 0 ≤ (sv_152 : Int32).toInt ∧ (sv_152 : Int32).toInt ≤ 400 := pf_155
              have pf_156 : 0 ≤ (sv_148 : Int32).toInt ∧ (sv_148 : Int32).toInt ≤ 400 := pf_156
              have pf_157 : TpR (Tf 1) (Tv 0) (pz_b ro_142 (pz_fact (cB (Tf 1) (Tv 0)) 4)) sv_151 sv_152 sv_153 sv_154 := pf_157
              obtain ⟨ro_159, ero_159⟩ : ∃ z : Except Int (Nat × Nat), z = (pz_b ro_142 (pz_fact (cB (Tf 1) (Tv 0)) 4)) := ⟨_, rfl⟩
              rw [← ero_159] at pf_157
              have tb_160 : TpB (rTE (cB (Tf 1) (Tv 0)) ro_159) sv_152 sv_154 := TpR.tb pf_157
              have pf_158 : Ctd (pz_b ro_142 (pz_fact (cB (Tf 1) (Tv 0)) 4)) sv_149 := pf_158
              rw [← ero_159] at pf_158
              refine W.eq (g2 := F0 m 70 ls []) rfl ?_
              replace hP : va_P D classes [((Va 0), .inr (7, [.ref (Va 1), .int sv_148, .int sv_149])), ((Va 1), .inl (tc 0, 400, .inl sv_150)), ((Ta 0), .inr (10, [.ref (Ta 1), .int (Tv 0), .int sv_151, .int sv_152, .int sv_153, .int sv_154])), ((Ta 1), .inl (tc 0, 400, .inl (Tf 1)))] H := hP₀
              replace hD : va_D A [((Va 0), .inr (7, [.ref (Va 1), .int sv_148, .int sv_149])), ((Va 1), .inl (tc 0, 400, .inl sv_150)), ((Ta 0), .inr (10, [.ref (Ta 1), .int (Tv 0), .int sv_151, .int sv_152, .int sv_153, .int sv_154])), ((Ta 1), .inl (tc 0, 400, .inl (Tf 1)))] := hD₀
              replace hS := hS₀
              clear hP₀ hD₀ hS₀
              refine lv_iload hx hb dX7_readTest_70 (lv_at hl 0 rfl) ?_
              refine lv_if_eq (tgt := 80) hx hb dX7_readTest_72 (by decide) (fun c_161 => ?_) (fun c_161 => ?_)
              · skip
                exfalso
                have z_1 := Int32.lt_iff_toInt_lt.mp (Int32.not_le.mp c_50)
                have z_2 : ¬ (r_70 : Int32).toInt = (0 : Int32).toInt := fun z => c_75 (Int32.toInt_inj.mp z)
                have z_3 : ¬ (r_82 : Int32).toInt = (0 : Int32).toInt := fun z => c_87 (Int32.toInt_inj.mp z)
                have z_4 := congrArg Int32.toInt c_133
                have z_5 := congrArg Int32.toInt c_161
                have y_0 : (0 : Int32).toInt = 0 := by decide
                have y_400 : (400 : Int32).toInt = 400 := by decide
                omega
              · skip
                refine lv_iconst (v := 1) hx hb dX7_readTest_75 (by decide) ?_
                refine lv_istore_n (lv' := [(3, .int 1), (5, .int r_82), (4, .int vy_27), (0, .ref (Va 0)), (1, .ref (Ta 0)), (2, .int 6)]) hx hb dX7_readTest_76 rfl hl (by decide) rfl (fun ls hl₀ => ?_)
                replace hl := hl₀
                clear hl₀
                refine lv_goto (tgt := 86) hx hb dX7_readTest_77 (by decide) ?_
                obtain ⟨x_162, ex_162⟩ : ∃ y : Int32, y = vy_27 + 1 := ⟨_, rfl⟩
                refine lv_iinc (v := x_162) (lv' := [(4, .int x_162), (3, .int 1), (5, .int r_82), (0, .ref (Va 0)), (1, .ref (Ta 0)), (2, .int 6)]) hx hb dX7_readTest_86 hl (k := 2) rfl (by rw [ex_162]; rfl) (by decide) rfl (fun ls hl₀ => ?_)
                replace hl := hl₀
                clear hl₀
                refine lv_goto (tgt := 11) hx hb dX7_readTest_89 (by decide) ?_
                have hb_163 : 401 - (x_162 : Int32).toInt < 401 - (vy_27 : Int32).toInt ∧ 1 ≤ 401 - (vy_27 : Int32).toInt := by
                  have z_1 := Int32.lt_iff_toInt_lt.mp (Int32.not_le.mp c_50)
                  have z_2 : ¬ (r_70 : Int32).toInt = (0 : Int32).toInt := fun z => c_75 (Int32.toInt_inj.mp z)
                  have z_3 : ¬ (r_82 : Int32).toInt = (0 : Int32).toInt := fun z => c_87 (Int32.toInt_inj.mp z)
                  have z_4 := congrArg Int32.toInt c_133
                  have z_5 : ¬ (r_82 : Int32).toInt = (0 : Int32).toInt := fun z => c_161 (Int32.toInt_inj.mp z)
                  have y_0 : (0 : Int32).toInt = 0 := by decide
                  have y_400 : (400 : Int32).toInt = 400 := by decide
                  have y_1 : (1 : Int32).toInt = 1 := by decide
                  have t_x_162 : x_162.toInt = (vy_27 : Int32).toInt + (1 : Int32).toInt := by rw [ex_162]; exact add_toInt (by omega) (by omega)
                  omega
                have ha_164 : 0 ≤ (x_162 : Int32).toInt ∧ (x_162 : Int32).toInt ≤ 400 := by
                  have z_1 := Int32.lt_iff_toInt_lt.mp (Int32.not_le.mp c_50)
                  have z_2 : ¬ (r_70 : Int32).toInt = (0 : Int32).toInt := fun z => c_75 (Int32.toInt_inj.mp z)
                  have z_3 : ¬ (r_82 : Int32).toInt = (0 : Int32).toInt := fun z => c_87 (Int32.toInt_inj.mp z)
                  have z_4 := congrArg Int32.toInt c_133
                  have z_5 : ¬ (r_82 : Int32).toInt = (0 : Int32).toInt := fun z => c_161 (Int32.toInt_inj.mp z)
                  have y_0 : (0 : Int32).toInt = 0 := by decide
                  have y_400 : (400 : Int32).toInt = 400 := by decide
                  have y_1 : (1 : Int32).toInt = 1 := by decide
                  have t_x_162 : x_162.toInt = (vy_27 : Int32).toInt + (1 : Int32).toInt := by rw [ex_162]; exact add_toInt (by omega) (by omega)
                  omega
                have hu_165 : TpR (Tf 1) (Tv 0) (pz_b (rNX (cB (Tf 1) (Tv 0)) rq_44) (pz_fact (cB (Tf 1) (Tv 0)) 4)) sv_151 sv_152 sv_153 sv_154 := by
                  rw [← ero_142, ← ero_159]
                  exact pf_157
                have hu_166 : Ctd (pz_b (rNX (cB (Tf 1) (Tv 0)) rq_44) (pz_fact (cB (Tf 1) (Tv 0)) 4)) sv_149 := by
                  rw [← ero_142, ← ero_159]
                  exact pf_158
                have hw_167 : TWd (cB (Tf 1) (Tv 0)) pz_and rq_44 := by
                  rw [← wS5]
                  exact pf_76
                have hi_168 : (x_162 : Int32).toInt = (vy_27 : Int32).toInt + 1 := by
                  have z_1 := Int32.lt_iff_toInt_lt.mp (Int32.not_le.mp c_50)
                  have z_2 : ¬ (r_70 : Int32).toInt = (0 : Int32).toInt := fun z => c_75 (Int32.toInt_inj.mp z)
                  have z_3 : ¬ (r_82 : Int32).toInt = (0 : Int32).toInt := fun z => c_87 (Int32.toInt_inj.mp z)
                  have z_4 := congrArg Int32.toInt c_133
                  have z_5 : ¬ (r_82 : Int32).toInt = (0 : Int32).toInt := fun z => c_161 (Int32.toInt_inj.mp z)
                  have y_0 : (0 : Int32).toInt = 0 := by decide
                  have y_400 : (400 : Int32).toInt = 400 := by decide
                  have y_1 : (1 : Int32).toInt = 1 := by decide
                  have t_x_162 : x_162.toInt = (vy_27 : Int32).toInt + (1 : Int32).toInt := by rw [ex_162]; exact add_toInt (by omega) (by omega)
                  omega
                exact ih_37 x_162 sv_148 sv_149 sv_150 sv_151 sv_152 sv_153 sv_154 1 _ _ _ (by omega) ha_164 pf_155 pf_156 (TeL.next h_tape.2.1 pf_47 pf_48 (Or.inl hw_167) hu_165 hu_166 hi_168) (hP.sub [0, 1, 2, 3] rfl) (hD.sub [0, 1, 2, 3] rfl rfl) hS (lv_sub hl [0, 1, 3, 4, 5] rfl)
            · skip
              refine lv_aload_n hx hb dX7_readTest_54 rfl (lv_at hl 3 rfl) ?_
              refine lv_bipush (v := (-6)) hx hb dX7_readTest_55 (by decide) ?_
              refine cV (a := (Va 0)) (As := [.int (-6)]) (rest := []) (wr := [((Ta 0), .inr (10, [.ref (Ta 1), .int (Tv 0), .int vy_31, .int vy_32, .int vy_33, .int vy_34])), ((Ta 1), .inl (tc 0, 400, .inl (Tf 1)))]) ⟨hx, hb, hml, hown, hts⟩ hK hX hA (cu_fX7_put l D tc sk (Va 0) (Va 1) vy_28 vy_29 vy_30 (-6) pf_41) k_642 k_639 k_641 k_10 k_99 pl_X7_put ⟨Nat.le_of_ble_eq_true rfl, Nat.le_of_ble_eq_true rfl⟩ rfl rfl (va_recv hK hP (ci := 7) (q0 := 0) rfl rfl) hP hD hS [0, 1] [2, 3] rfl rfl rfl rfl rfl (by decide) rfl hl.1 rfl (Nat.le_of_ble_eq_true rfl) dX7_readTest_57 ⟨Nat.le_of_ble_eq_true rfl, Nat.le_of_ble_eq_true rfl⟩ (fun v_169 u_170 H locs hv_171 hP₀ hD₀ hS₀ => ?_)
              obtain ⟨sv_172, sv_173⟩ := u_170
              obtain ⟨rfl, pf_174⟩ := hv_171
              have pf_174 : 0 ≤ (sv_172 : Int32).toInt ∧ (sv_172 : Int32).toInt ≤ 400 := pf_174
              refine W.eq (g2 := F0 m 60 ls []) rfl ?_
              replace hP : va_P D classes [((Ta 0), .inr (10, [.ref (Ta 1), .int (Tv 0), .int vy_31, .int vy_32, .int vy_33, .int vy_34])), ((Ta 1), .inl (tc 0, 400, .inl (Tf 1))), ((Va 0), .inr (7, [.ref (Va 1), .int sv_172, .int vy_29])), ((Va 1), .inl (tc 0, 400, .inl sv_173))] H := hP₀
              replace hD : va_D A [((Ta 0), .inr (10, [.ref (Ta 1), .int (Tv 0), .int vy_31, .int vy_32, .int vy_33, .int vy_34])), ((Ta 1), .inl (tc 0, 400, .inl (Tf 1))), ((Va 0), .inr (7, [.ref (Va 1), .int sv_172, .int vy_29])), ((Va 1), .inl (tc 0, 400, .inl sv_173))] := hD₀
              replace hS := hS₀
              clear hP₀ hD₀ hS₀
              refine lv_aload_n hx hb dX7_readTest_60 rfl (lv_at hl 4 rfl) ?_
              refine cV (a := (Ta 0)) (As := []) (rest := []) (wr := [((Va 0), .inr (7, [.ref (Va 1), .int sv_172, .int vy_29])), ((Va 1), .inl (tc 0, 400, .inl sv_173))]) ⟨hx, hb, hml, hown, hts⟩ hK hX hA (cu_fX10_step l D tc sk (Ta 0) (Ta 1) (Tv 0) vy_31 vy_32 vy_33 vy_34 (Tf 1) (rTE (cB (Tf 1) (Tv 0)) rq_44) pf_40 h_by tb_49) k_478 k_620 k_476 k_477 k_96 pl_X10_step ⟨Nat.le_of_ble_eq_true rfl, Nat.le_of_ble_eq_true rfl⟩ rfl rfl (va_recv hK hP (ci := 10) (q0 := 0) rfl rfl) hP hD hS [0, 1] [2, 3] rfl rfl rfl rfl rfl (by decide) rfl hl.1 rfl (Nat.le_of_ble_eq_true rfl) dX7_readTest_61 ⟨Nat.le_of_ble_eq_true rfl, Nat.le_of_ble_eq_true rfl⟩ (fun v_175 u_176 H locs hv_177 hP₀ hD₀ hS₀ => ?_)
              obtain ⟨sv_178, sv_179, sv_180⟩ := u_176
              obtain ⟨rfl, pf_181, pf_182⟩ := hv_177
              have pf_181 : 0 ≤ ((Tv 0) : Int32).toInt ∧ ((Tv 0) : Int32).toInt ≤ 400 ∧ 0 ≤ (sv_178 : Int32).toInt ∧ (sv_178 : Int32).toInt ≤ 400 ∧ 0 ≤ (sv_179 : Int32).toInt ∧ (sv_179 : Int32).toInt ≤ 400 := pf_181
              have pf_182 : TpR (Tf 1) (Tv 0) (rSK (cB (Tf 1) (Tv 0)) (rTE (cB (Tf 1) (Tv 0)) rq_44)) sv_178 sv_179 sv_180 vy_34 := pf_182
              rw [rNX_eq] at pf_182
              obtain ⟨ro_183, ero_183⟩ : ∃ z : Except Int (Nat × Nat), z = (rNX (cB (Tf 1) (Tv 0)) rq_44) := ⟨_, rfl⟩
              rw [← ero_183] at pf_182
              have tb_184 : TpB (rTE (cB (Tf 1) (Tv 0)) ro_183) sv_179 vy_34 := TpR.tb pf_182
              have cd_185 : Ctd ro_183 vy_29 := by rw [ero_183]; exact (Ctd.nx pf_46)
              refine W.eq (g2 := F0 m 64 ls []) rfl ?_
              replace hP : va_P D classes [((Va 0), .inr (7, [.ref (Va 1), .int sv_172, .int vy_29])), ((Va 1), .inl (tc 0, 400, .inl sv_173)), ((Ta 0), .inr (10, [.ref (Ta 1), .int (Tv 0), .int sv_178, .int sv_179, .int sv_180, .int vy_34])), ((Ta 1), .inl (tc 0, 400, .inl (Tf 1)))] H := hP₀
              replace hD : va_D A [((Va 0), .inr (7, [.ref (Va 1), .int sv_172, .int vy_29])), ((Va 1), .inl (tc 0, 400, .inl sv_173)), ((Ta 0), .inr (10, [.ref (Ta 1), .int (Tv 0), .int sv_178, .int sv_179, .int sv_180, .int vy_34])), ((Ta 1), .inl (tc 0, 400, .inl (Tf 1)))] := hD₀
              replace hS := hS₀
              clear hP₀ hD₀ hS₀
              refine lv_aload_n hx hb dX7_readTest_64 rfl (lv_at hl 3 rfl) ?_
              refine lv_aload_n hx hb dX7_readTest_65 rfl (lv_at hl 4 rfl) ?_
              refine lv_iload_n hx hb dX7_readTest_66 rfl (lv_at hl 5 rfl) ?_
              refine cV (a := (Va 0)) (As := [.ref (Ta 0), .int 6]) (rest := []) (wr := []) ⟨hx, hb, hml, hown, hts⟩ hK hX hA (cu_fX7_readFact_6 l D tc sk (Va 0) (Va 1) sv_172 vy_29 sv_173 (Ta 0) (Ta 1) (Tv 0) sv_178 sv_179 sv_180 vy_34 (Tf 1) ro_183 pf_181 pf_174 h_by pf_182 cd_185) k_659 k_656 k_658 k_12 k_99 pl_X7_readFact ⟨Nat.le_of_ble_eq_true rfl, Nat.le_of_ble_eq_true rfl⟩ rfl rfl (va_recv hK hP (ci := 7) (q0 := 0) rfl rfl) hP hD hS [0, 1, 2, 3] [] rfl rfl rfl rfl rfl (by decide) rfl hl.1 rfl (Nat.le_of_ble_eq_true rfl) dX7_readTest_67 ⟨Nat.le_of_ble_eq_true rfl, Nat.le_of_ble_eq_true rfl⟩ (fun v_186 u_187 H locs hv_188 hP₀ hD₀ hS₀ => ?_)
              obtain ⟨sv_189, sv_190, sv_191, sv_192, sv_193, sv_194, sv_195⟩ := u_187
              obtain ⟨rfl, pf_196, pf_197, pf_198, pf_199⟩ := hv_188
              have pf_196 : 0 ≤ ((Tv 0) : Int32).toInt ∧ ((Tv 0) : Int32).toInt ≤ 400 ∧ 0 ≤ (sv_192 : Int32).toInt ∧ (sv_192 : Int32).toInt ≤ 400 ∧ 0 ≤ (sv_193 : Int32).toInt ∧ (sv_193 : Int32).toInt ≤ 400 := pf_196
              have pf_197 : 0 ≤ (sv_189 : Int32).toInt ∧ (sv_189 : Int32).toInt ≤ 400 := pf_197
              have pf_198 : TpR (Tf 1) (Tv 0) (pz_b ro_183 (pz_fact (cB (Tf 1) (Tv 0)) 4)) sv_192 sv_193 sv_194 sv_195 := pf_198
              obtain ⟨ro_200, ero_200⟩ : ∃ z : Except Int (Nat × Nat), z = (pz_b ro_183 (pz_fact (cB (Tf 1) (Tv 0)) 4)) := ⟨_, rfl⟩
              rw [← ero_200] at pf_198
              have tb_201 : TpB (rTE (cB (Tf 1) (Tv 0)) ro_200) sv_193 sv_195 := TpR.tb pf_198
              have pf_199 : Ctd (pz_b ro_183 (pz_fact (cB (Tf 1) (Tv 0)) 4)) sv_190 := pf_199
              rw [← ero_200] at pf_199
              refine W.eq (g2 := F0 m 70 ls []) rfl ?_
              replace hP : va_P D classes [((Va 0), .inr (7, [.ref (Va 1), .int sv_189, .int sv_190])), ((Va 1), .inl (tc 0, 400, .inl sv_191)), ((Ta 0), .inr (10, [.ref (Ta 1), .int (Tv 0), .int sv_192, .int sv_193, .int sv_194, .int sv_195])), ((Ta 1), .inl (tc 0, 400, .inl (Tf 1)))] H := hP₀
              replace hD : va_D A [((Va 0), .inr (7, [.ref (Va 1), .int sv_189, .int sv_190])), ((Va 1), .inl (tc 0, 400, .inl sv_191)), ((Ta 0), .inr (10, [.ref (Ta 1), .int (Tv 0), .int sv_192, .int sv_193, .int sv_194, .int sv_195])), ((Ta 1), .inl (tc 0, 400, .inl (Tf 1)))] := hD₀
              replace hS := hS₀
              clear hP₀ hD₀ hS₀
              refine lv_iload hx hb dX7_readTest_70 (lv_at hl 0 rfl) ?_
              refine lv_if_eq (tgt := 80) hx hb dX7_readTest_72 (by decide) (fun c_202 => ?_) (fun c_202 => ?_)
              · skip
                exfalso
                have z_1 := Int32.lt_iff_toInt_lt.mp (Int32.not_le.mp c_50)
                have z_2 : ¬ (r_70 : Int32).toInt = (0 : Int32).toInt := fun z => c_75 (Int32.toInt_inj.mp z)
                have z_3 : ¬ (r_82 : Int32).toInt = (0 : Int32).toInt := fun z => c_87 (Int32.toInt_inj.mp z)
                have z_4 : ¬ (vy_35 : Int32).toInt = (0 : Int32).toInt := fun z => c_133 (Int32.toInt_inj.mp z)
                have z_5 := congrArg Int32.toInt c_202
                have y_0 : (0 : Int32).toInt = 0 := by decide
                have y_400 : (400 : Int32).toInt = 400 := by decide
                omega
              · skip
                refine lv_iconst (v := 1) hx hb dX7_readTest_75 (by decide) ?_
                refine lv_istore_n (lv' := [(3, .int 1), (5, .int r_82), (4, .int vy_27), (0, .ref (Va 0)), (1, .ref (Ta 0)), (2, .int 6)]) hx hb dX7_readTest_76 rfl hl (by decide) rfl (fun ls hl₀ => ?_)
                replace hl := hl₀
                clear hl₀
                refine lv_goto (tgt := 86) hx hb dX7_readTest_77 (by decide) ?_
                obtain ⟨x_203, ex_203⟩ : ∃ y : Int32, y = vy_27 + 1 := ⟨_, rfl⟩
                refine lv_iinc (v := x_203) (lv' := [(4, .int x_203), (3, .int 1), (5, .int r_82), (0, .ref (Va 0)), (1, .ref (Ta 0)), (2, .int 6)]) hx hb dX7_readTest_86 hl (k := 2) rfl (by rw [ex_203]; rfl) (by decide) rfl (fun ls hl₀ => ?_)
                replace hl := hl₀
                clear hl₀
                refine lv_goto (tgt := 11) hx hb dX7_readTest_89 (by decide) ?_
                have hb_204 : 401 - (x_203 : Int32).toInt < 401 - (vy_27 : Int32).toInt ∧ 1 ≤ 401 - (vy_27 : Int32).toInt := by
                  have z_1 := Int32.lt_iff_toInt_lt.mp (Int32.not_le.mp c_50)
                  have z_2 : ¬ (r_70 : Int32).toInt = (0 : Int32).toInt := fun z => c_75 (Int32.toInt_inj.mp z)
                  have z_3 : ¬ (r_82 : Int32).toInt = (0 : Int32).toInt := fun z => c_87 (Int32.toInt_inj.mp z)
                  have z_4 : ¬ (vy_35 : Int32).toInt = (0 : Int32).toInt := fun z => c_133 (Int32.toInt_inj.mp z)
                  have z_5 : ¬ (r_82 : Int32).toInt = (0 : Int32).toInt := fun z => c_202 (Int32.toInt_inj.mp z)
                  have y_0 : (0 : Int32).toInt = 0 := by decide
                  have y_400 : (400 : Int32).toInt = 400 := by decide
                  have y_1 : (1 : Int32).toInt = 1 := by decide
                  have t_x_203 : x_203.toInt = (vy_27 : Int32).toInt + (1 : Int32).toInt := by rw [ex_203]; exact add_toInt (by omega) (by omega)
                  omega
                have ha_205 : 0 ≤ (x_203 : Int32).toInt ∧ (x_203 : Int32).toInt ≤ 400 := by
                  have z_1 := Int32.lt_iff_toInt_lt.mp (Int32.not_le.mp c_50)
                  have z_2 : ¬ (r_70 : Int32).toInt = (0 : Int32).toInt := fun z => c_75 (Int32.toInt_inj.mp z)
                  have z_3 : ¬ (r_82 : Int32).toInt = (0 : Int32).toInt := fun z => c_87 (Int32.toInt_inj.mp z)
                  have z_4 : ¬ (vy_35 : Int32).toInt = (0 : Int32).toInt := fun z => c_133 (Int32.toInt_inj.mp z)
                  have z_5 : ¬ (r_82 : Int32).toInt = (0 : Int32).toInt := fun z => c_202 (Int32.toInt_inj.mp z)
                  have y_0 : (0 : Int32).toInt = 0 := by decide
                  have y_400 : (400 : Int32).toInt = 400 := by decide
                  have y_1 : (1 : Int32).toInt = 1 := by decide
                  have t_x_203 : x_203.toInt = (vy_27 : Int32).toInt + (1 : Int32).toInt := by rw [ex_203]; exact add_toInt (by omega) (by omega)
                  omega
                have hu_206 : TpR (Tf 1) (Tv 0) (pz_b (rNX (cB (Tf 1) (Tv 0)) rq_44) (pz_fact (cB (Tf 1) (Tv 0)) 4)) sv_192 sv_193 sv_194 sv_195 := by
                  rw [← ero_183, ← ero_200]
                  exact pf_198
                have hu_207 : Ctd (pz_b (rNX (cB (Tf 1) (Tv 0)) rq_44) (pz_fact (cB (Tf 1) (Tv 0)) 4)) sv_190 := by
                  rw [← ero_183, ← ero_200]
                  exact pf_199
                have hw_208 : TWd (cB (Tf 1) (Tv 0)) pz_and rq_44 := by
                  rw [← wS5]
                  exact pf_76
                have hi_209 : (x_203 : Int32).toInt = (vy_27 : Int32).toInt + 1 := by
                  have z_1 := Int32.lt_iff_toInt_lt.mp (Int32.not_le.mp c_50)
                  have z_2 : ¬ (r_70 : Int32).toInt = (0 : Int32).toInt := fun z => c_75 (Int32.toInt_inj.mp z)
                  have z_3 : ¬ (r_82 : Int32).toInt = (0 : Int32).toInt := fun z => c_87 (Int32.toInt_inj.mp z)
                  have z_4 : ¬ (vy_35 : Int32).toInt = (0 : Int32).toInt := fun z => c_133 (Int32.toInt_inj.mp z)
                  have z_5 : ¬ (r_82 : Int32).toInt = (0 : Int32).toInt := fun z => c_202 (Int32.toInt_inj.mp z)
                  have y_0 : (0 : Int32).toInt = 0 := by decide
                  have y_400 : (400 : Int32).toInt = 400 := by decide
                  have y_1 : (1 : Int32).toInt = 1 := by decide
                  have t_x_203 : x_203.toInt = (vy_27 : Int32).toInt + (1 : Int32).toInt := by rw [ex_203]; exact add_toInt (by omega) (by omega)
                  omega
                exact ih_37 x_203 sv_189 sv_190 sv_191 sv_192 sv_193 sv_194 sv_195 1 _ _ _ (by omega) ha_205 pf_196 pf_197 (TeL.next h_tape.2.1 pf_47 pf_48 (Or.inl hw_208) hu_206 hu_207 hi_209) (hP.sub [0, 1, 2, 3] rfl) (hD.sub [0, 1, 2, 3] rfl rfl) hS (lv_sub hl [0, 1, 3, 4, 5] rfl)
        · skip
          have hz_211 : (r_70 : Int32).toInt = 0 := by
            have z_1 := Int32.lt_iff_toInt_lt.mp (Int32.not_le.mp c_50)
            have z_2 := congrArg Int32.toInt c_75
            have y_0 : (0 : Int32).toInt = 0 := by decide
            have y_400 : (400 : Int32).toInt = 400 := by decide
            omega
          obtain pf_210 := hm_74 hz_211
          have pf_210 : NWd (cB (Tf 1) (Tv 0)) (wS (5 : Nat)) rq_44 := pf_210
          refine lv_aload_n hx hb dX7_readTest_28 rfl (lv_at hl 3 rfl) ?_
          refine va_ldcS hx hb hown (sx_6 hX) dX7_readTest_29 ?_
          have ha_212 : (6 : Nat) < 7 := by
            have z_1 := Int32.lt_iff_toInt_lt.mp (Int32.not_le.mp c_50)
            have z_2 := congrArg Int32.toInt c_75
            have y_0 : (0 : Int32).toInt = 0 := by decide
            have y_400 : (400 : Int32).toInt = 400 := by decide
            have y_6 : (6 : Int32).toInt = 6 := by decide
            omega
          refine cV (a := (Ta 0)) (As := [.ref (sk.1 6)]) (rest := []) (wr := [((Va 0), .inr (7, [.ref (Va 1), .int vy_28, .int vy_29])), ((Va 1), .inl (tc 0, 400, .inl vy_30))]) ⟨hx, hb, hml, hown, hts⟩ hK hX hA (cu_fX10_isWord l D tc sk (Ta 0) (Ta 1) (Tv 0) vy_31 vy_32 vy_33 vy_34 (Tf 1) 6 rq_44 ha_212 pf_40 h_by pf_45) k_618 k_615 k_616 k_617 k_96 pl_X10_isWord ⟨Nat.le_of_ble_eq_true rfl, Nat.le_of_ble_eq_true rfl⟩ rfl rfl (va_recv hK hP (ci := 10) (q0 := 2) rfl rfl) hP hD hS [2, 3] [0, 1] rfl rfl rfl rfl rfl (by decide) rfl hl.1 rfl (Nat.le_of_ble_eq_true rfl) dX7_readTest_31 ⟨Nat.le_of_ble_eq_true rfl, Nat.le_of_ble_eq_true rfl⟩ (fun v_213 u_214 H locs hv_215 hP₀ hD₀ hS₀ => ?_)
          obtain ⟨r_216, rfl, he_217, hm_219, hm_220⟩ := hv_215
          have he_217 : (r_216.toInt = 0 ∨ r_216.toInt = 1) := he_217
          refine W.eq (g2 := F0 m 34 ls [.int r_216]) rfl ?_
          replace hP : va_P D classes [((Va 0), .inr (7, [.ref (Va 1), .int vy_28, .int vy_29])), ((Va 1), .inl (tc 0, 400, .inl vy_30)), ((Ta 0), .inr (10, [.ref (Ta 1), .int (Tv 0), .int vy_31, .int vy_32, .int vy_33, .int vy_34])), ((Ta 1), .inl (tc 0, 400, .inl (Tf 1)))] H := hP₀
          replace hD : va_D A [((Va 0), .inr (7, [.ref (Va 1), .int vy_28, .int vy_29])), ((Va 1), .inl (tc 0, 400, .inl vy_30)), ((Ta 0), .inr (10, [.ref (Ta 1), .int (Tv 0), .int vy_31, .int vy_32, .int vy_33, .int vy_34])), ((Ta 1), .inl (tc 0, 400, .inl (Tf 1)))] := hD₀
          replace hS := hS₀
          clear hP₀ hD₀ hS₀
          refine lv_if_eq (tgt := 92) hx hb dX7_readTest_34 (by decide) (fun c_221 => ?_) (fun c_221 => ?_)
          · skip
            have hz_223 : (r_216 : Int32).toInt = 0 := by
              have z_1 := Int32.lt_iff_toInt_lt.mp (Int32.not_le.mp c_50)
              have z_2 := congrArg Int32.toInt c_75
              have z_3 := congrArg Int32.toInt c_221
              have y_0 : (0 : Int32).toInt = 0 := by decide
              have y_400 : (400 : Int32).toInt = 400 := by decide
              omega
            obtain pf_222 := hm_220 hz_223
            have pf_222 : NWd (cB (Tf 1) (Tv 0)) (wS (6 : Nat)) rq_44 := pf_222
            refine lv_iload_n hx hb dX7_readTest_92 rfl (lv_at hl 1 rfl) ?_
            refine lv_if_eq (tgt := 102) hx hb dX7_readTest_93 (by decide) (fun c_224 => ?_) (fun c_224 => ?_)
            · skip
              have hf_225 : TpR (Tf 1) (Tv 0) (pz_b rr (pz_tst (cB (Tf 1) (Tv 0)) (pz_fact (cB (Tf 1) (Tv 0)) 4))) vy_31 vy_32 vy_33 vy_34 := by
                have hw_226 : NWd (cB (Tf 1) (Tv 0)) pz_and rq_44 := by
                  rw [← wS5]
                  exact pf_210
                have hw_227 : NWd (cB (Tf 1) (Tv 0)) pz_or rq_44 := by
                  rw [← wS6]
                  exact pf_222
                rw [pf_47, tst_end h_tape.2.1 pf_48 (Or.inr ⟨hw_226, hw_227⟩)]
                exact pf_45
              have hf_228 : Ctd (pz_b rr (pz_tst (cB (Tf 1) (Tv 0)) (pz_fact (cB (Tf 1) (Tv 0)) 4))) vy_29 := by
                have hw_229 : NWd (cB (Tf 1) (Tv 0)) pz_and rq_44 := by
                  rw [← wS5]
                  exact pf_210
                have hw_230 : NWd (cB (Tf 1) (Tv 0)) pz_or rq_44 := by
                  rw [← wS6]
                  exact pf_222
                rw [pf_47, tst_end h_tape.2.1 pf_48 (Or.inr ⟨hw_229, hw_230⟩)]
                exact pf_46
              exact retV hx hb hr hlk hP hD hS (vy_28, vy_29, vy_30, vy_31, vy_32, vy_33, vy_34) ⟨rfl, pf_40, pf_41, hf_225, hf_228⟩ [0, 1, 2, 3] rfl rfl dX7_readTest_102 (Nat.le_of_ble_eq_true rfl) (Nat.le_of_ble_eq_true rfl) rfl
            · skip
              refine lv_aload_n hx hb dX7_readTest_96 rfl (lv_at hl 2 rfl) ?_
              refine lv_bipush (v := (-6)) hx hb dX7_readTest_97 (by decide) ?_
              refine cV (a := (Va 0)) (As := [.int (-6)]) (rest := []) (wr := [((Ta 0), .inr (10, [.ref (Ta 1), .int (Tv 0), .int vy_31, .int vy_32, .int vy_33, .int vy_34])), ((Ta 1), .inl (tc 0, 400, .inl (Tf 1)))]) ⟨hx, hb, hml, hown, hts⟩ hK hX hA (cu_fX7_put l D tc sk (Va 0) (Va 1) vy_28 vy_29 vy_30 (-6) pf_41) k_642 k_639 k_641 k_10 k_99 pl_X7_put ⟨Nat.le_of_ble_eq_true rfl, Nat.le_of_ble_eq_true rfl⟩ rfl rfl (va_recv hK hP (ci := 7) (q0 := 0) rfl rfl) hP hD hS [0, 1] [2, 3] rfl rfl rfl rfl rfl (by decide) rfl hl.1 rfl (Nat.le_of_ble_eq_true rfl) dX7_readTest_99 ⟨Nat.le_of_ble_eq_true rfl, Nat.le_of_ble_eq_true rfl⟩ (fun v_231 u_232 H locs hv_233 hP₀ hD₀ hS₀ => ?_)
              obtain ⟨sv_234, sv_235⟩ := u_232
              obtain ⟨rfl, pf_236⟩ := hv_233
              have pf_236 : 0 ≤ (sv_234 : Int32).toInt ∧ (sv_234 : Int32).toInt ≤ 400 := pf_236
              refine W.eq (g2 := F0 m 102 ls []) rfl ?_
              replace hP : va_P D classes [((Ta 0), .inr (10, [.ref (Ta 1), .int (Tv 0), .int vy_31, .int vy_32, .int vy_33, .int vy_34])), ((Ta 1), .inl (tc 0, 400, .inl (Tf 1))), ((Va 0), .inr (7, [.ref (Va 1), .int sv_234, .int vy_29])), ((Va 1), .inl (tc 0, 400, .inl sv_235))] H := hP₀
              replace hD : va_D A [((Ta 0), .inr (10, [.ref (Ta 1), .int (Tv 0), .int vy_31, .int vy_32, .int vy_33, .int vy_34])), ((Ta 1), .inl (tc 0, 400, .inl (Tf 1))), ((Va 0), .inr (7, [.ref (Va 1), .int sv_234, .int vy_29])), ((Va 1), .inl (tc 0, 400, .inl sv_235))] := hD₀
              replace hS := hS₀
              clear hP₀ hD₀ hS₀
              have hf_237 : TpR (Tf 1) (Tv 0) (pz_b rr (pz_tst (cB (Tf 1) (Tv 0)) (pz_fact (cB (Tf 1) (Tv 0)) 4))) vy_31 vy_32 vy_33 vy_34 := by
                have hw_238 : NWd (cB (Tf 1) (Tv 0)) pz_and rq_44 := by
                  rw [← wS5]
                  exact pf_210
                have hw_239 : NWd (cB (Tf 1) (Tv 0)) pz_or rq_44 := by
                  rw [← wS6]
                  exact pf_222
                rw [pf_47, tst_end h_tape.2.1 pf_48 (Or.inr ⟨hw_238, hw_239⟩)]
                exact pf_45
              have hf_240 : Ctd (pz_b rr (pz_tst (cB (Tf 1) (Tv 0)) (pz_fact (cB (Tf 1) (Tv 0)) 4))) vy_29 := by
                have hw_241 : NWd (cB (Tf 1) (Tv 0)) pz_and rq_44 := by
                  rw [← wS5]
                  exact pf_210
                have hw_242 : NWd (cB (Tf 1) (Tv 0)) pz_or rq_44 := by
                  rw [← wS6]
                  exact pf_222
                rw [pf_47, tst_end h_tape.2.1 pf_48 (Or.inr ⟨hw_241, hw_242⟩)]
                exact pf_46
              exact retV hx hb hr hlk hP hD hS (sv_234, vy_29, sv_235, vy_31, vy_32, vy_33, vy_34) ⟨rfl, pf_40, pf_236, hf_237, hf_240⟩ [2, 3, 0, 1] rfl rfl dX7_readTest_102 (Nat.le_of_ble_eq_true rfl) (Nat.le_of_ble_eq_true rfl) rfl
          · skip
            have hz_244 : (r_216 : Int32).toInt = 1 := by
              have z_1 := Int32.lt_iff_toInt_lt.mp (Int32.not_le.mp c_50)
              have z_2 := congrArg Int32.toInt c_75
              have z_3 : ¬ (r_216 : Int32).toInt = (0 : Int32).toInt := fun z => c_221 (Int32.toInt_inj.mp z)
              have y_0 : (0 : Int32).toInt = 0 := by decide
              have y_400 : (400 : Int32).toInt = 400 := by decide
              omega
            obtain pf_243 := hm_219 hz_244
            have pf_243 : TWd (cB (Tf 1) (Tv 0)) (wS (6 : Nat)) rq_44 := pf_243
            refine lv_aload_n hx hb dX7_readTest_37 rfl (lv_at hl 3 rfl) ?_
            refine va_ldcS hx hb hown (sx_6 hX) dX7_readTest_38 ?_
            have ha_245 : (6 : Nat) < 7 := by
              have z_1 := Int32.lt_iff_toInt_lt.mp (Int32.not_le.mp c_50)
              have z_2 := congrArg Int32.toInt c_75
              have z_3 : ¬ (r_216 : Int32).toInt = (0 : Int32).toInt := fun z => c_221 (Int32.toInt_inj.mp z)
              have y_0 : (0 : Int32).toInt = 0 := by decide
              have y_400 : (400 : Int32).toInt = 400 := by decide
              have y_6 : (6 : Int32).toInt = 6 := by decide
              omega
            refine cV (a := (Ta 0)) (As := [.ref (sk.1 6)]) (rest := []) (wr := [((Va 0), .inr (7, [.ref (Va 1), .int vy_28, .int vy_29])), ((Va 1), .inl (tc 0, 400, .inl vy_30))]) ⟨hx, hb, hml, hown, hts⟩ hK hX hA (cu_fX10_isWord l D tc sk (Ta 0) (Ta 1) (Tv 0) vy_31 vy_32 vy_33 vy_34 (Tf 1) 6 rq_44 ha_245 pf_40 h_by pf_45) k_618 k_615 k_616 k_617 k_96 pl_X10_isWord ⟨Nat.le_of_ble_eq_true rfl, Nat.le_of_ble_eq_true rfl⟩ rfl rfl (va_recv hK hP (ci := 10) (q0 := 2) rfl rfl) hP hD hS [2, 3] [0, 1] rfl rfl rfl rfl rfl (by decide) rfl hl.1 rfl (Nat.le_of_ble_eq_true rfl) dX7_readTest_40 ⟨Nat.le_of_ble_eq_true rfl, Nat.le_of_ble_eq_true rfl⟩ (fun v_246 u_247 H locs hv_248 hP₀ hD₀ hS₀ => ?_)
            obtain ⟨r_249, rfl, he_250, hm_252, hm_253⟩ := hv_248
            have he_250 : (r_249.toInt = 0 ∨ r_249.toInt = 1) := he_250
            refine W.eq (g2 := F0 m 43 ls [.int r_249]) rfl ?_
            replace hP : va_P D classes [((Va 0), .inr (7, [.ref (Va 1), .int vy_28, .int vy_29])), ((Va 1), .inl (tc 0, 400, .inl vy_30)), ((Ta 0), .inr (10, [.ref (Ta 1), .int (Tv 0), .int vy_31, .int vy_32, .int vy_33, .int vy_34])), ((Ta 1), .inl (tc 0, 400, .inl (Tf 1)))] H := hP₀
            replace hD : va_D A [((Va 0), .inr (7, [.ref (Va 1), .int vy_28, .int vy_29])), ((Va 1), .inl (tc 0, 400, .inl vy_30)), ((Ta 0), .inr (10, [.ref (Ta 1), .int (Tv 0), .int vy_31, .int vy_32, .int vy_33, .int vy_34])), ((Ta 1), .inl (tc 0, 400, .inl (Tf 1)))] := hD₀
            replace hS := hS₀
            clear hP₀ hD₀ hS₀
            refine lv_istore (lv' := [(5, .int r_249), (4, .int vy_27), (3, .int vy_35), (0, .ref (Va 0)), (1, .ref (Ta 0)), (2, .int 6)]) hx hb dX7_readTest_43 hl (by decide) rfl (fun ls hl₀ => ?_)
            replace hl := hl₀
            clear hl₀
            refine lv_iload hx hb dX7_readTest_45 (lv_at hl 0 rfl) ?_
            refine lv_if_eq (tgt := 60) hx hb dX7_readTest_47 (by decide) (fun c_254 => ?_) (fun c_254 => ?_)
            · skip
              have hz_256 : (r_249 : Int32).toInt = 0 := by
                have z_1 := Int32.lt_iff_toInt_lt.mp (Int32.not_le.mp c_50)
                have z_2 := congrArg Int32.toInt c_75
                have z_3 : ¬ (r_216 : Int32).toInt = (0 : Int32).toInt := fun z => c_221 (Int32.toInt_inj.mp z)
                have z_4 := congrArg Int32.toInt c_254
                have y_0 : (0 : Int32).toInt = 0 := by decide
                have y_400 : (400 : Int32).toInt = 400 := by decide
                omega
              obtain pf_255 := hm_253 hz_256
              have pf_255 : NWd (cB (Tf 1) (Tv 0)) (wS (6 : Nat)) rq_44 := pf_255
              refine lv_aload_n hx hb dX7_readTest_60 rfl (lv_at hl 4 rfl) ?_
              refine cV (a := (Ta 0)) (As := []) (rest := []) (wr := [((Va 0), .inr (7, [.ref (Va 1), .int vy_28, .int vy_29])), ((Va 1), .inl (tc 0, 400, .inl vy_30))]) ⟨hx, hb, hml, hown, hts⟩ hK hX hA (cu_fX10_step l D tc sk (Ta 0) (Ta 1) (Tv 0) vy_31 vy_32 vy_33 vy_34 (Tf 1) (rTE (cB (Tf 1) (Tv 0)) rq_44) pf_40 h_by tb_49) k_478 k_620 k_476 k_477 k_96 pl_X10_step ⟨Nat.le_of_ble_eq_true rfl, Nat.le_of_ble_eq_true rfl⟩ rfl rfl (va_recv hK hP (ci := 10) (q0 := 2) rfl rfl) hP hD hS [2, 3] [0, 1] rfl rfl rfl rfl rfl (by decide) rfl hl.1 rfl (Nat.le_of_ble_eq_true rfl) dX7_readTest_61 ⟨Nat.le_of_ble_eq_true rfl, Nat.le_of_ble_eq_true rfl⟩ (fun v_257 u_258 H locs hv_259 hP₀ hD₀ hS₀ => ?_)
              obtain ⟨sv_260, sv_261, sv_262⟩ := u_258
              obtain ⟨rfl, pf_263, pf_264⟩ := hv_259
              have pf_263 : 0 ≤ ((Tv 0) : Int32).toInt ∧ ((Tv 0) : Int32).toInt ≤ 400 ∧ 0 ≤ (sv_260 : Int32).toInt ∧ (sv_260 : Int32).toInt ≤ 400 ∧ 0 ≤ (sv_261 : Int32).toInt ∧ (sv_261 : Int32).toInt ≤ 400 := pf_263
              have pf_264 : TpR (Tf 1) (Tv 0) (rSK (cB (Tf 1) (Tv 0)) (rTE (cB (Tf 1) (Tv 0)) rq_44)) sv_260 sv_261 sv_262 vy_34 := pf_264
              rw [rNX_eq] at pf_264
              obtain ⟨ro_265, ero_265⟩ : ∃ z : Except Int (Nat × Nat), z = (rNX (cB (Tf 1) (Tv 0)) rq_44) := ⟨_, rfl⟩
              rw [← ero_265] at pf_264
              have tb_266 : TpB (rTE (cB (Tf 1) (Tv 0)) ro_265) sv_261 vy_34 := TpR.tb pf_264
              have cd_267 : Ctd ro_265 vy_29 := by rw [ero_265]; exact (Ctd.nx pf_46)
              refine W.eq (g2 := F0 m 64 ls []) rfl ?_
              replace hP : va_P D classes [((Va 0), .inr (7, [.ref (Va 1), .int vy_28, .int vy_29])), ((Va 1), .inl (tc 0, 400, .inl vy_30)), ((Ta 0), .inr (10, [.ref (Ta 1), .int (Tv 0), .int sv_260, .int sv_261, .int sv_262, .int vy_34])), ((Ta 1), .inl (tc 0, 400, .inl (Tf 1)))] H := hP₀
              replace hD : va_D A [((Va 0), .inr (7, [.ref (Va 1), .int vy_28, .int vy_29])), ((Va 1), .inl (tc 0, 400, .inl vy_30)), ((Ta 0), .inr (10, [.ref (Ta 1), .int (Tv 0), .int sv_260, .int sv_261, .int sv_262, .int vy_34])), ((Ta 1), .inl (tc 0, 400, .inl (Tf 1)))] := hD₀
              replace hS := hS₀
              clear hP₀ hD₀ hS₀
              refine lv_aload_n hx hb dX7_readTest_64 rfl (lv_at hl 3 rfl) ?_
              refine lv_aload_n hx hb dX7_readTest_65 rfl (lv_at hl 4 rfl) ?_
              refine lv_iload_n hx hb dX7_readTest_66 rfl (lv_at hl 5 rfl) ?_
              refine cV (a := (Va 0)) (As := [.ref (Ta 0), .int 6]) (rest := []) (wr := []) ⟨hx, hb, hml, hown, hts⟩ hK hX hA (cu_fX7_readFact_6 l D tc sk (Va 0) (Va 1) vy_28 vy_29 vy_30 (Ta 0) (Ta 1) (Tv 0) sv_260 sv_261 sv_262 vy_34 (Tf 1) ro_265 pf_263 pf_41 h_by pf_264 cd_267) k_659 k_656 k_658 k_12 k_99 pl_X7_readFact ⟨Nat.le_of_ble_eq_true rfl, Nat.le_of_ble_eq_true rfl⟩ rfl rfl (va_recv hK hP (ci := 7) (q0 := 0) rfl rfl) hP hD hS [0, 1, 2, 3] [] rfl rfl rfl rfl rfl (by decide) rfl hl.1 rfl (Nat.le_of_ble_eq_true rfl) dX7_readTest_67 ⟨Nat.le_of_ble_eq_true rfl, Nat.le_of_ble_eq_true rfl⟩ (fun v_268 u_269 H locs hv_270 hP₀ hD₀ hS₀ => ?_)
              obtain ⟨sv_271, sv_272, sv_273, sv_274, sv_275, sv_276, sv_277⟩ := u_269
              obtain ⟨rfl, pf_278, pf_279, pf_280, pf_281⟩ := hv_270
              have pf_278 : 0 ≤ ((Tv 0) : Int32).toInt ∧ ((Tv 0) : Int32).toInt ≤ 400 ∧ 0 ≤ (sv_274 : Int32).toInt ∧ (sv_274 : Int32).toInt ≤ 400 ∧ 0 ≤ (sv_275 : Int32).toInt ∧ (sv_275 : Int32).toInt ≤ 400 := pf_278
              have pf_279 : 0 ≤ (sv_271 : Int32).toInt ∧ (sv_271 : Int32).toInt ≤ 400 := pf_279
              have pf_280 : TpR (Tf 1) (Tv 0) (pz_b ro_265 (pz_fact (cB (Tf 1) (Tv 0)) 4)) sv_274 sv_275 sv_276 sv_277 := pf_280
              obtain ⟨ro_282, ero_282⟩ : ∃ z : Except Int (Nat × Nat), z = (pz_b ro_265 (pz_fact (cB (Tf 1) (Tv 0)) 4)) := ⟨_, rfl⟩
              rw [← ero_282] at pf_280
              have tb_283 : TpB (rTE (cB (Tf 1) (Tv 0)) ro_282) sv_275 sv_277 := TpR.tb pf_280
              have pf_281 : Ctd (pz_b ro_265 (pz_fact (cB (Tf 1) (Tv 0)) 4)) sv_272 := pf_281
              rw [← ero_282] at pf_281
              refine W.eq (g2 := F0 m 70 ls []) rfl ?_
              replace hP : va_P D classes [((Va 0), .inr (7, [.ref (Va 1), .int sv_271, .int sv_272])), ((Va 1), .inl (tc 0, 400, .inl sv_273)), ((Ta 0), .inr (10, [.ref (Ta 1), .int (Tv 0), .int sv_274, .int sv_275, .int sv_276, .int sv_277])), ((Ta 1), .inl (tc 0, 400, .inl (Tf 1)))] H := hP₀
              replace hD : va_D A [((Va 0), .inr (7, [.ref (Va 1), .int sv_271, .int sv_272])), ((Va 1), .inl (tc 0, 400, .inl sv_273)), ((Ta 0), .inr (10, [.ref (Ta 1), .int (Tv 0), .int sv_274, .int sv_275, .int sv_276, .int sv_277])), ((Ta 1), .inl (tc 0, 400, .inl (Tf 1)))] := hD₀
              replace hS := hS₀
              clear hP₀ hD₀ hS₀
              refine lv_iload hx hb dX7_readTest_70 (lv_at hl 0 rfl) ?_
              refine lv_if_eq (tgt := 80) hx hb dX7_readTest_72 (by decide) (fun c_284 => ?_) (fun c_284 => ?_)
              · skip
                refine lv_aload_n hx hb dX7_readTest_80 rfl (lv_at hl 3 rfl) ?_
                refine lv_bipush (v := (-5)) hx hb dX7_readTest_81 (by decide) ?_
                refine cV (a := (Va 0)) (As := [.int (-5)]) (rest := []) (wr := [((Ta 0), .inr (10, [.ref (Ta 1), .int (Tv 0), .int sv_274, .int sv_275, .int sv_276, .int sv_277])), ((Ta 1), .inl (tc 0, 400, .inl (Tf 1)))]) ⟨hx, hb, hml, hown, hts⟩ hK hX hA (cu_fX7_put l D tc sk (Va 0) (Va 1) sv_271 sv_272 sv_273 (-5) pf_279) k_642 k_639 k_641 k_10 k_99 pl_X7_put ⟨Nat.le_of_ble_eq_true rfl, Nat.le_of_ble_eq_true rfl⟩ rfl rfl (va_recv hK hP (ci := 7) (q0 := 0) rfl rfl) hP hD hS [0, 1] [2, 3] rfl rfl rfl rfl rfl (by decide) rfl hl.1 rfl (Nat.le_of_ble_eq_true rfl) dX7_readTest_83 ⟨Nat.le_of_ble_eq_true rfl, Nat.le_of_ble_eq_true rfl⟩ (fun v_285 u_286 H locs hv_287 hP₀ hD₀ hS₀ => ?_)
                obtain ⟨sv_288, sv_289⟩ := u_286
                obtain ⟨rfl, pf_290⟩ := hv_287
                have pf_290 : 0 ≤ (sv_288 : Int32).toInt ∧ (sv_288 : Int32).toInt ≤ 400 := pf_290
                refine W.eq (g2 := F0 m 86 ls []) rfl ?_
                replace hP : va_P D classes [((Ta 0), .inr (10, [.ref (Ta 1), .int (Tv 0), .int sv_274, .int sv_275, .int sv_276, .int sv_277])), ((Ta 1), .inl (tc 0, 400, .inl (Tf 1))), ((Va 0), .inr (7, [.ref (Va 1), .int sv_288, .int sv_272])), ((Va 1), .inl (tc 0, 400, .inl sv_289))] H := hP₀
                replace hD : va_D A [((Ta 0), .inr (10, [.ref (Ta 1), .int (Tv 0), .int sv_274, .int sv_275, .int sv_276, .int sv_277])), ((Ta 1), .inl (tc 0, 400, .inl (Tf 1))), ((Va 0), .inr (7, [.ref (Va 1), .int sv_288, .int sv_272])), ((Va 1), .inl (tc 0, 400, .inl sv_289))] := hD₀
                replace hS := hS₀
                clear hP₀ hD₀ hS₀
                obtain ⟨x_291, ex_291⟩ : ∃ y : Int32, y = vy_27 + 1 := ⟨_, rfl⟩
                refine lv_iinc (v := x_291) (lv' := [(4, .int x_291), (5, .int r_249), (3, .int vy_35), (0, .ref (Va 0)), (1, .ref (Ta 0)), (2, .int 6)]) hx hb dX7_readTest_86 hl (k := 1) rfl (by rw [ex_291]; rfl) (by decide) rfl (fun ls hl₀ => ?_)
                replace hl := hl₀
                clear hl₀
                refine lv_goto (tgt := 11) hx hb dX7_readTest_89 (by decide) ?_
                have hb_292 : 401 - (x_291 : Int32).toInt < 401 - (vy_27 : Int32).toInt ∧ 1 ≤ 401 - (vy_27 : Int32).toInt := by
                  have z_1 := Int32.lt_iff_toInt_lt.mp (Int32.not_le.mp c_50)
                  have z_2 := congrArg Int32.toInt c_75
                  have z_3 : ¬ (r_216 : Int32).toInt = (0 : Int32).toInt := fun z => c_221 (Int32.toInt_inj.mp z)
                  have z_4 := congrArg Int32.toInt c_254
                  have z_5 := congrArg Int32.toInt c_284
                  have y_0 : (0 : Int32).toInt = 0 := by decide
                  have y_400 : (400 : Int32).toInt = 400 := by decide
                  have y_1 : (1 : Int32).toInt = 1 := by decide
                  have t_x_291 : x_291.toInt = (vy_27 : Int32).toInt + (1 : Int32).toInt := by rw [ex_291]; exact add_toInt (by omega) (by omega)
                  omega
                have ha_293 : 0 ≤ (x_291 : Int32).toInt ∧ (x_291 : Int32).toInt ≤ 400 := by
                  have z_1 := Int32.lt_iff_toInt_lt.mp (Int32.not_le.mp c_50)
                  have z_2 := congrArg Int32.toInt c_75
                  have z_3 : ¬ (r_216 : Int32).toInt = (0 : Int32).toInt := fun z => c_221 (Int32.toInt_inj.mp z)
                  have z_4 := congrArg Int32.toInt c_254
                  have z_5 := congrArg Int32.toInt c_284
                  have y_0 : (0 : Int32).toInt = 0 := by decide
                  have y_400 : (400 : Int32).toInt = 400 := by decide
                  have y_1 : (1 : Int32).toInt = 1 := by decide
                  have t_x_291 : x_291.toInt = (vy_27 : Int32).toInt + (1 : Int32).toInt := by rw [ex_291]; exact add_toInt (by omega) (by omega)
                  omega
                have hu_294 : TpR (Tf 1) (Tv 0) (pz_b (rNX (cB (Tf 1) (Tv 0)) rq_44) (pz_fact (cB (Tf 1) (Tv 0)) 4)) sv_274 sv_275 sv_276 sv_277 := by
                  rw [← ero_265, ← ero_282]
                  exact pf_280
                have hu_295 : Ctd (pz_b (rNX (cB (Tf 1) (Tv 0)) rq_44) (pz_fact (cB (Tf 1) (Tv 0)) 4)) sv_272 := by
                  rw [← ero_265, ← ero_282]
                  exact pf_281
                have hw_296 : TWd (cB (Tf 1) (Tv 0)) pz_or rq_44 := by
                  rw [← wS6]
                  exact pf_243
                have hi_297 : (x_291 : Int32).toInt = (vy_27 : Int32).toInt + 1 := by
                  have z_1 := Int32.lt_iff_toInt_lt.mp (Int32.not_le.mp c_50)
                  have z_2 := congrArg Int32.toInt c_75
                  have z_3 : ¬ (r_216 : Int32).toInt = (0 : Int32).toInt := fun z => c_221 (Int32.toInt_inj.mp z)
                  have z_4 := congrArg Int32.toInt c_254
                  have z_5 := congrArg Int32.toInt c_284
                  have y_0 : (0 : Int32).toInt = 0 := by decide
                  have y_400 : (400 : Int32).toInt = 400 := by decide
                  have y_1 : (1 : Int32).toInt = 1 := by decide
                  have t_x_291 : x_291.toInt = (vy_27 : Int32).toInt + (1 : Int32).toInt := by rw [ex_291]; exact add_toInt (by omega) (by omega)
                  omega
                exact ih_37 x_291 sv_288 sv_272 sv_289 sv_274 sv_275 sv_276 sv_277 vy_35 _ _ _ (by omega) ha_293 pf_278 pf_290 (TeL.next h_tape.2.1 pf_47 pf_48 (Or.inr hw_296) hu_294 hu_295 hi_297) (hP.sub [2, 3, 0, 1] rfl) (hD.sub [2, 3, 0, 1] rfl rfl) hS (lv_sub hl [0, 2, 3, 4, 5] rfl)
              · skip
                exfalso
                have z_1 := Int32.lt_iff_toInt_lt.mp (Int32.not_le.mp c_50)
                have z_2 := congrArg Int32.toInt c_75
                have z_3 : ¬ (r_216 : Int32).toInt = (0 : Int32).toInt := fun z => c_221 (Int32.toInt_inj.mp z)
                have z_4 := congrArg Int32.toInt c_254
                have z_5 : ¬ (r_249 : Int32).toInt = (0 : Int32).toInt := fun z => c_284 (Int32.toInt_inj.mp z)
                have y_0 : (0 : Int32).toInt = 0 := by decide
                have y_400 : (400 : Int32).toInt = 400 := by decide
                omega
            · skip
              have hz_299 : (r_249 : Int32).toInt = 1 := by
                have z_1 := Int32.lt_iff_toInt_lt.mp (Int32.not_le.mp c_50)
                have z_2 := congrArg Int32.toInt c_75
                have z_3 : ¬ (r_216 : Int32).toInt = (0 : Int32).toInt := fun z => c_221 (Int32.toInt_inj.mp z)
                have z_4 : ¬ (r_249 : Int32).toInt = (0 : Int32).toInt := fun z => c_254 (Int32.toInt_inj.mp z)
                have y_0 : (0 : Int32).toInt = 0 := by decide
                have y_400 : (400 : Int32).toInt = 400 := by decide
                omega
              obtain pf_298 := hm_252 hz_299
              have pf_298 : TWd (cB (Tf 1) (Tv 0)) (wS (6 : Nat)) rq_44 := pf_298
              refine lv_iload_n hx hb dX7_readTest_50 rfl (lv_at hl 2 rfl) ?_
              refine lv_if_eq (tgt := 60) hx hb dX7_readTest_51 (by decide) (fun c_300 => ?_) (fun c_300 => ?_)
              · skip
                refine lv_aload_n hx hb dX7_readTest_60 rfl (lv_at hl 4 rfl) ?_
                refine cV (a := (Ta 0)) (As := []) (rest := []) (wr := [((Va 0), .inr (7, [.ref (Va 1), .int vy_28, .int vy_29])), ((Va 1), .inl (tc 0, 400, .inl vy_30))]) ⟨hx, hb, hml, hown, hts⟩ hK hX hA (cu_fX10_step l D tc sk (Ta 0) (Ta 1) (Tv 0) vy_31 vy_32 vy_33 vy_34 (Tf 1) (rTE (cB (Tf 1) (Tv 0)) rq_44) pf_40 h_by tb_49) k_478 k_620 k_476 k_477 k_96 pl_X10_step ⟨Nat.le_of_ble_eq_true rfl, Nat.le_of_ble_eq_true rfl⟩ rfl rfl (va_recv hK hP (ci := 10) (q0 := 2) rfl rfl) hP hD hS [2, 3] [0, 1] rfl rfl rfl rfl rfl (by decide) rfl hl.1 rfl (Nat.le_of_ble_eq_true rfl) dX7_readTest_61 ⟨Nat.le_of_ble_eq_true rfl, Nat.le_of_ble_eq_true rfl⟩ (fun v_301 u_302 H locs hv_303 hP₀ hD₀ hS₀ => ?_)
                obtain ⟨sv_304, sv_305, sv_306⟩ := u_302
                obtain ⟨rfl, pf_307, pf_308⟩ := hv_303
                have pf_307 : 0 ≤ ((Tv 0) : Int32).toInt ∧ ((Tv 0) : Int32).toInt ≤ 400 ∧ 0 ≤ (sv_304 : Int32).toInt ∧ (sv_304 : Int32).toInt ≤ 400 ∧ 0 ≤ (sv_305 : Int32).toInt ∧ (sv_305 : Int32).toInt ≤ 400 := pf_307
                have pf_308 : TpR (Tf 1) (Tv 0) (rSK (cB (Tf 1) (Tv 0)) (rTE (cB (Tf 1) (Tv 0)) rq_44)) sv_304 sv_305 sv_306 vy_34 := pf_308
                rw [rNX_eq] at pf_308
                obtain ⟨ro_309, ero_309⟩ : ∃ z : Except Int (Nat × Nat), z = (rNX (cB (Tf 1) (Tv 0)) rq_44) := ⟨_, rfl⟩
                rw [← ero_309] at pf_308
                have tb_310 : TpB (rTE (cB (Tf 1) (Tv 0)) ro_309) sv_305 vy_34 := TpR.tb pf_308
                have cd_311 : Ctd ro_309 vy_29 := by rw [ero_309]; exact (Ctd.nx pf_46)
                refine W.eq (g2 := F0 m 64 ls []) rfl ?_
                replace hP : va_P D classes [((Va 0), .inr (7, [.ref (Va 1), .int vy_28, .int vy_29])), ((Va 1), .inl (tc 0, 400, .inl vy_30)), ((Ta 0), .inr (10, [.ref (Ta 1), .int (Tv 0), .int sv_304, .int sv_305, .int sv_306, .int vy_34])), ((Ta 1), .inl (tc 0, 400, .inl (Tf 1)))] H := hP₀
                replace hD : va_D A [((Va 0), .inr (7, [.ref (Va 1), .int vy_28, .int vy_29])), ((Va 1), .inl (tc 0, 400, .inl vy_30)), ((Ta 0), .inr (10, [.ref (Ta 1), .int (Tv 0), .int sv_304, .int sv_305, .int sv_306, .int vy_34])), ((Ta 1), .inl (tc 0, 400, .inl (Tf 1)))] := hD₀
                replace hS := hS₀
                clear hP₀ hD₀ hS₀
                refine lv_aload_n hx hb dX7_readTest_64 rfl (lv_at hl 3 rfl) ?_
                refine lv_aload_n hx hb dX7_readTest_65 rfl (lv_at hl 4 rfl) ?_
                refine lv_iload_n hx hb dX7_readTest_66 rfl (lv_at hl 5 rfl) ?_
                refine cV (a := (Va 0)) (As := [.ref (Ta 0), .int 6]) (rest := []) (wr := []) ⟨hx, hb, hml, hown, hts⟩ hK hX hA (cu_fX7_readFact_6 l D tc sk (Va 0) (Va 1) vy_28 vy_29 vy_30 (Ta 0) (Ta 1) (Tv 0) sv_304 sv_305 sv_306 vy_34 (Tf 1) ro_309 pf_307 pf_41 h_by pf_308 cd_311) k_659 k_656 k_658 k_12 k_99 pl_X7_readFact ⟨Nat.le_of_ble_eq_true rfl, Nat.le_of_ble_eq_true rfl⟩ rfl rfl (va_recv hK hP (ci := 7) (q0 := 0) rfl rfl) hP hD hS [0, 1, 2, 3] [] rfl rfl rfl rfl rfl (by decide) rfl hl.1 rfl (Nat.le_of_ble_eq_true rfl) dX7_readTest_67 ⟨Nat.le_of_ble_eq_true rfl, Nat.le_of_ble_eq_true rfl⟩ (fun v_312 u_313 H locs hv_314 hP₀ hD₀ hS₀ => ?_)
                obtain ⟨sv_315, sv_316, sv_317, sv_318, sv_319, sv_320, sv_321⟩ := u_313
                obtain ⟨rfl, pf_322, pf_323, pf_324, pf_325⟩ := hv_314
                have pf_322 : 0 ≤ ((Tv 0) : Int32).toInt ∧ ((Tv 0) : Int32).toInt ≤ 400 ∧ 0 ≤ (sv_318 : Int32).toInt ∧ (sv_318 : Int32).toInt ≤ 400 ∧ 0 ≤ (sv_319 : Int32).toInt ∧ (sv_319 : Int32).toInt ≤ 400 := pf_322
                have pf_323 : 0 ≤ (sv_315 : Int32).toInt ∧ (sv_315 : Int32).toInt ≤ 400 := pf_323
                have pf_324 : TpR (Tf 1) (Tv 0) (pz_b ro_309 (pz_fact (cB (Tf 1) (Tv 0)) 4)) sv_318 sv_319 sv_320 sv_321 := pf_324
                obtain ⟨ro_326, ero_326⟩ : ∃ z : Except Int (Nat × Nat), z = (pz_b ro_309 (pz_fact (cB (Tf 1) (Tv 0)) 4)) := ⟨_, rfl⟩
                rw [← ero_326] at pf_324
                have tb_327 : TpB (rTE (cB (Tf 1) (Tv 0)) ro_326) sv_319 sv_321 := TpR.tb pf_324
                have pf_325 : Ctd (pz_b ro_309 (pz_fact (cB (Tf 1) (Tv 0)) 4)) sv_316 := pf_325
                rw [← ero_326] at pf_325
                refine W.eq (g2 := F0 m 70 ls []) rfl ?_
                replace hP : va_P D classes [((Va 0), .inr (7, [.ref (Va 1), .int sv_315, .int sv_316])), ((Va 1), .inl (tc 0, 400, .inl sv_317)), ((Ta 0), .inr (10, [.ref (Ta 1), .int (Tv 0), .int sv_318, .int sv_319, .int sv_320, .int sv_321])), ((Ta 1), .inl (tc 0, 400, .inl (Tf 1)))] H := hP₀
                replace hD : va_D A [((Va 0), .inr (7, [.ref (Va 1), .int sv_315, .int sv_316])), ((Va 1), .inl (tc 0, 400, .inl sv_317)), ((Ta 0), .inr (10, [.ref (Ta 1), .int (Tv 0), .int sv_318, .int sv_319, .int sv_320, .int sv_321])), ((Ta 1), .inl (tc 0, 400, .inl (Tf 1)))] := hD₀
                replace hS := hS₀
                clear hP₀ hD₀ hS₀
                refine lv_iload hx hb dX7_readTest_70 (lv_at hl 0 rfl) ?_
                refine lv_if_eq (tgt := 80) hx hb dX7_readTest_72 (by decide) (fun c_328 => ?_) (fun c_328 => ?_)
                · skip
                  exfalso
                  have z_1 := Int32.lt_iff_toInt_lt.mp (Int32.not_le.mp c_50)
                  have z_2 := congrArg Int32.toInt c_75
                  have z_3 : ¬ (r_216 : Int32).toInt = (0 : Int32).toInt := fun z => c_221 (Int32.toInt_inj.mp z)
                  have z_4 : ¬ (r_249 : Int32).toInt = (0 : Int32).toInt := fun z => c_254 (Int32.toInt_inj.mp z)
                  have z_5 := congrArg Int32.toInt c_300
                  have z_6 := congrArg Int32.toInt c_328
                  have y_0 : (0 : Int32).toInt = 0 := by decide
                  have y_400 : (400 : Int32).toInt = 400 := by decide
                  omega
                · skip
                  refine lv_iconst (v := 1) hx hb dX7_readTest_75 (by decide) ?_
                  refine lv_istore_n (lv' := [(3, .int 1), (5, .int r_249), (4, .int vy_27), (0, .ref (Va 0)), (1, .ref (Ta 0)), (2, .int 6)]) hx hb dX7_readTest_76 rfl hl (by decide) rfl (fun ls hl₀ => ?_)
                  replace hl := hl₀
                  clear hl₀
                  refine lv_goto (tgt := 86) hx hb dX7_readTest_77 (by decide) ?_
                  obtain ⟨x_329, ex_329⟩ : ∃ y : Int32, y = vy_27 + 1 := ⟨_, rfl⟩
                  refine lv_iinc (v := x_329) (lv' := [(4, .int x_329), (3, .int 1), (5, .int r_249), (0, .ref (Va 0)), (1, .ref (Ta 0)), (2, .int 6)]) hx hb dX7_readTest_86 hl (k := 2) rfl (by rw [ex_329]; rfl) (by decide) rfl (fun ls hl₀ => ?_)
                  replace hl := hl₀
                  clear hl₀
                  refine lv_goto (tgt := 11) hx hb dX7_readTest_89 (by decide) ?_
                  have hb_330 : 401 - (x_329 : Int32).toInt < 401 - (vy_27 : Int32).toInt ∧ 1 ≤ 401 - (vy_27 : Int32).toInt := by
                    have z_1 := Int32.lt_iff_toInt_lt.mp (Int32.not_le.mp c_50)
                    have z_2 := congrArg Int32.toInt c_75
                    have z_3 : ¬ (r_216 : Int32).toInt = (0 : Int32).toInt := fun z => c_221 (Int32.toInt_inj.mp z)
                    have z_4 : ¬ (r_249 : Int32).toInt = (0 : Int32).toInt := fun z => c_254 (Int32.toInt_inj.mp z)
                    have z_5 := congrArg Int32.toInt c_300
                    have z_6 : ¬ (r_249 : Int32).toInt = (0 : Int32).toInt := fun z => c_328 (Int32.toInt_inj.mp z)
                    have y_0 : (0 : Int32).toInt = 0 := by decide
                    have y_400 : (400 : Int32).toInt = 400 := by decide
                    have y_1 : (1 : Int32).toInt = 1 := by decide
                    have t_x_329 : x_329.toInt = (vy_27 : Int32).toInt + (1 : Int32).toInt := by rw [ex_329]; exact add_toInt (by omega) (by omega)
                    omega
                  have ha_331 : 0 ≤ (x_329 : Int32).toInt ∧ (x_329 : Int32).toInt ≤ 400 := by
                    have z_1 := Int32.lt_iff_toInt_lt.mp (Int32.not_le.mp c_50)
                    have z_2 := congrArg Int32.toInt c_75
                    have z_3 : ¬ (r_216 : Int32).toInt = (0 : Int32).toInt := fun z => c_221 (Int32.toInt_inj.mp z)
                    have z_4 : ¬ (r_249 : Int32).toInt = (0 : Int32).toInt := fun z => c_254 (Int32.toInt_inj.mp z)
                    have z_5 := congrArg Int32.toInt c_300
                    have z_6 : ¬ (r_249 : Int32).toInt = (0 : Int32).toInt := fun z => c_328 (Int32.toInt_inj.mp z)
                    have y_0 : (0 : Int32).toInt = 0 := by decide
                    have y_400 : (400 : Int32).toInt = 400 := by decide
                    have y_1 : (1 : Int32).toInt = 1 := by decide
                    have t_x_329 : x_329.toInt = (vy_27 : Int32).toInt + (1 : Int32).toInt := by rw [ex_329]; exact add_toInt (by omega) (by omega)
                    omega
                  have hu_332 : TpR (Tf 1) (Tv 0) (pz_b (rNX (cB (Tf 1) (Tv 0)) rq_44) (pz_fact (cB (Tf 1) (Tv 0)) 4)) sv_318 sv_319 sv_320 sv_321 := by
                    rw [← ero_309, ← ero_326]
                    exact pf_324
                  have hu_333 : Ctd (pz_b (rNX (cB (Tf 1) (Tv 0)) rq_44) (pz_fact (cB (Tf 1) (Tv 0)) 4)) sv_316 := by
                    rw [← ero_309, ← ero_326]
                    exact pf_325
                  have hw_334 : TWd (cB (Tf 1) (Tv 0)) pz_or rq_44 := by
                    rw [← wS6]
                    exact pf_298
                  have hi_335 : (x_329 : Int32).toInt = (vy_27 : Int32).toInt + 1 := by
                    have z_1 := Int32.lt_iff_toInt_lt.mp (Int32.not_le.mp c_50)
                    have z_2 := congrArg Int32.toInt c_75
                    have z_3 : ¬ (r_216 : Int32).toInt = (0 : Int32).toInt := fun z => c_221 (Int32.toInt_inj.mp z)
                    have z_4 : ¬ (r_249 : Int32).toInt = (0 : Int32).toInt := fun z => c_254 (Int32.toInt_inj.mp z)
                    have z_5 := congrArg Int32.toInt c_300
                    have z_6 : ¬ (r_249 : Int32).toInt = (0 : Int32).toInt := fun z => c_328 (Int32.toInt_inj.mp z)
                    have y_0 : (0 : Int32).toInt = 0 := by decide
                    have y_400 : (400 : Int32).toInt = 400 := by decide
                    have y_1 : (1 : Int32).toInt = 1 := by decide
                    have t_x_329 : x_329.toInt = (vy_27 : Int32).toInt + (1 : Int32).toInt := by rw [ex_329]; exact add_toInt (by omega) (by omega)
                    omega
                  exact ih_37 x_329 sv_315 sv_316 sv_317 sv_318 sv_319 sv_320 sv_321 1 _ _ _ (by omega) ha_331 pf_322 pf_323 (TeL.next h_tape.2.1 pf_47 pf_48 (Or.inr hw_334) hu_332 hu_333 hi_335) (hP.sub [0, 1, 2, 3] rfl) (hD.sub [0, 1, 2, 3] rfl rfl) hS (lv_sub hl [0, 1, 3, 4, 5] rfl)
              · skip
                refine lv_aload_n hx hb dX7_readTest_54 rfl (lv_at hl 3 rfl) ?_
                refine lv_bipush (v := (-6)) hx hb dX7_readTest_55 (by decide) ?_
                refine cV (a := (Va 0)) (As := [.int (-6)]) (rest := []) (wr := [((Ta 0), .inr (10, [.ref (Ta 1), .int (Tv 0), .int vy_31, .int vy_32, .int vy_33, .int vy_34])), ((Ta 1), .inl (tc 0, 400, .inl (Tf 1)))]) ⟨hx, hb, hml, hown, hts⟩ hK hX hA (cu_fX7_put l D tc sk (Va 0) (Va 1) vy_28 vy_29 vy_30 (-6) pf_41) k_642 k_639 k_641 k_10 k_99 pl_X7_put ⟨Nat.le_of_ble_eq_true rfl, Nat.le_of_ble_eq_true rfl⟩ rfl rfl (va_recv hK hP (ci := 7) (q0 := 0) rfl rfl) hP hD hS [0, 1] [2, 3] rfl rfl rfl rfl rfl (by decide) rfl hl.1 rfl (Nat.le_of_ble_eq_true rfl) dX7_readTest_57 ⟨Nat.le_of_ble_eq_true rfl, Nat.le_of_ble_eq_true rfl⟩ (fun v_336 u_337 H locs hv_338 hP₀ hD₀ hS₀ => ?_)
                obtain ⟨sv_339, sv_340⟩ := u_337
                obtain ⟨rfl, pf_341⟩ := hv_338
                have pf_341 : 0 ≤ (sv_339 : Int32).toInt ∧ (sv_339 : Int32).toInt ≤ 400 := pf_341
                refine W.eq (g2 := F0 m 60 ls []) rfl ?_
                replace hP : va_P D classes [((Ta 0), .inr (10, [.ref (Ta 1), .int (Tv 0), .int vy_31, .int vy_32, .int vy_33, .int vy_34])), ((Ta 1), .inl (tc 0, 400, .inl (Tf 1))), ((Va 0), .inr (7, [.ref (Va 1), .int sv_339, .int vy_29])), ((Va 1), .inl (tc 0, 400, .inl sv_340))] H := hP₀
                replace hD : va_D A [((Ta 0), .inr (10, [.ref (Ta 1), .int (Tv 0), .int vy_31, .int vy_32, .int vy_33, .int vy_34])), ((Ta 1), .inl (tc 0, 400, .inl (Tf 1))), ((Va 0), .inr (7, [.ref (Va 1), .int sv_339, .int vy_29])), ((Va 1), .inl (tc 0, 400, .inl sv_340))] := hD₀
                replace hS := hS₀
                clear hP₀ hD₀ hS₀
                refine lv_aload_n hx hb dX7_readTest_60 rfl (lv_at hl 4 rfl) ?_
                refine cV (a := (Ta 0)) (As := []) (rest := []) (wr := [((Va 0), .inr (7, [.ref (Va 1), .int sv_339, .int vy_29])), ((Va 1), .inl (tc 0, 400, .inl sv_340))]) ⟨hx, hb, hml, hown, hts⟩ hK hX hA (cu_fX10_step l D tc sk (Ta 0) (Ta 1) (Tv 0) vy_31 vy_32 vy_33 vy_34 (Tf 1) (rTE (cB (Tf 1) (Tv 0)) rq_44) pf_40 h_by tb_49) k_478 k_620 k_476 k_477 k_96 pl_X10_step ⟨Nat.le_of_ble_eq_true rfl, Nat.le_of_ble_eq_true rfl⟩ rfl rfl (va_recv hK hP (ci := 10) (q0 := 0) rfl rfl) hP hD hS [0, 1] [2, 3] rfl rfl rfl rfl rfl (by decide) rfl hl.1 rfl (Nat.le_of_ble_eq_true rfl) dX7_readTest_61 ⟨Nat.le_of_ble_eq_true rfl, Nat.le_of_ble_eq_true rfl⟩ (fun v_342 u_343 H locs hv_344 hP₀ hD₀ hS₀ => ?_)
                obtain ⟨sv_345, sv_346, sv_347⟩ := u_343
                obtain ⟨rfl, pf_348, pf_349⟩ := hv_344
                have pf_348 : 0 ≤ ((Tv 0) : Int32).toInt ∧ ((Tv 0) : Int32).toInt ≤ 400 ∧ 0 ≤ (sv_345 : Int32).toInt ∧ (sv_345 : Int32).toInt ≤ 400 ∧ 0 ≤ (sv_346 : Int32).toInt ∧ (sv_346 : Int32).toInt ≤ 400 := pf_348
                have pf_349 : TpR (Tf 1) (Tv 0) (rSK (cB (Tf 1) (Tv 0)) (rTE (cB (Tf 1) (Tv 0)) rq_44)) sv_345 sv_346 sv_347 vy_34 := pf_349
                rw [rNX_eq] at pf_349
                obtain ⟨ro_350, ero_350⟩ : ∃ z : Except Int (Nat × Nat), z = (rNX (cB (Tf 1) (Tv 0)) rq_44) := ⟨_, rfl⟩
                rw [← ero_350] at pf_349
                have tb_351 : TpB (rTE (cB (Tf 1) (Tv 0)) ro_350) sv_346 vy_34 := TpR.tb pf_349
                have cd_352 : Ctd ro_350 vy_29 := by rw [ero_350]; exact (Ctd.nx pf_46)
                refine W.eq (g2 := F0 m 64 ls []) rfl ?_
                replace hP : va_P D classes [((Va 0), .inr (7, [.ref (Va 1), .int sv_339, .int vy_29])), ((Va 1), .inl (tc 0, 400, .inl sv_340)), ((Ta 0), .inr (10, [.ref (Ta 1), .int (Tv 0), .int sv_345, .int sv_346, .int sv_347, .int vy_34])), ((Ta 1), .inl (tc 0, 400, .inl (Tf 1)))] H := hP₀
                replace hD : va_D A [((Va 0), .inr (7, [.ref (Va 1), .int sv_339, .int vy_29])), ((Va 1), .inl (tc 0, 400, .inl sv_340)), ((Ta 0), .inr (10, [.ref (Ta 1), .int (Tv 0), .int sv_345, .int sv_346, .int sv_347, .int vy_34])), ((Ta 1), .inl (tc 0, 400, .inl (Tf 1)))] := hD₀
                replace hS := hS₀
                clear hP₀ hD₀ hS₀
                refine lv_aload_n hx hb dX7_readTest_64 rfl (lv_at hl 3 rfl) ?_
                refine lv_aload_n hx hb dX7_readTest_65 rfl (lv_at hl 4 rfl) ?_
                refine lv_iload_n hx hb dX7_readTest_66 rfl (lv_at hl 5 rfl) ?_
                refine cV (a := (Va 0)) (As := [.ref (Ta 0), .int 6]) (rest := []) (wr := []) ⟨hx, hb, hml, hown, hts⟩ hK hX hA (cu_fX7_readFact_6 l D tc sk (Va 0) (Va 1) sv_339 vy_29 sv_340 (Ta 0) (Ta 1) (Tv 0) sv_345 sv_346 sv_347 vy_34 (Tf 1) ro_350 pf_348 pf_341 h_by pf_349 cd_352) k_659 k_656 k_658 k_12 k_99 pl_X7_readFact ⟨Nat.le_of_ble_eq_true rfl, Nat.le_of_ble_eq_true rfl⟩ rfl rfl (va_recv hK hP (ci := 7) (q0 := 0) rfl rfl) hP hD hS [0, 1, 2, 3] [] rfl rfl rfl rfl rfl (by decide) rfl hl.1 rfl (Nat.le_of_ble_eq_true rfl) dX7_readTest_67 ⟨Nat.le_of_ble_eq_true rfl, Nat.le_of_ble_eq_true rfl⟩ (fun v_353 u_354 H locs hv_355 hP₀ hD₀ hS₀ => ?_)
                obtain ⟨sv_356, sv_357, sv_358, sv_359, sv_360, sv_361, sv_362⟩ := u_354
                obtain ⟨rfl, pf_363, pf_364, pf_365, pf_366⟩ := hv_355
                have pf_363 : 0 ≤ ((Tv 0) : Int32).toInt ∧ ((Tv 0) : Int32).toInt ≤ 400 ∧ 0 ≤ (sv_359 : Int32).toInt ∧ (sv_359 : Int32).toInt ≤ 400 ∧ 0 ≤ (sv_360 : Int32).toInt ∧ (sv_360 : Int32).toInt ≤ 400 := pf_363
                have pf_364 : 0 ≤ (sv_356 : Int32).toInt ∧ (sv_356 : Int32).toInt ≤ 400 := pf_364
                have pf_365 : TpR (Tf 1) (Tv 0) (pz_b ro_350 (pz_fact (cB (Tf 1) (Tv 0)) 4)) sv_359 sv_360 sv_361 sv_362 := pf_365
                obtain ⟨ro_367, ero_367⟩ : ∃ z : Except Int (Nat × Nat), z = (pz_b ro_350 (pz_fact (cB (Tf 1) (Tv 0)) 4)) := ⟨_, rfl⟩
                rw [← ero_367] at pf_365
                have tb_368 : TpB (rTE (cB (Tf 1) (Tv 0)) ro_367) sv_360 sv_362 := TpR.tb pf_365
                have pf_366 : Ctd (pz_b ro_350 (pz_fact (cB (Tf 1) (Tv 0)) 4)) sv_357 := pf_366
                rw [← ero_367] at pf_366
                refine W.eq (g2 := F0 m 70 ls []) rfl ?_
                replace hP : va_P D classes [((Va 0), .inr (7, [.ref (Va 1), .int sv_356, .int sv_357])), ((Va 1), .inl (tc 0, 400, .inl sv_358)), ((Ta 0), .inr (10, [.ref (Ta 1), .int (Tv 0), .int sv_359, .int sv_360, .int sv_361, .int sv_362])), ((Ta 1), .inl (tc 0, 400, .inl (Tf 1)))] H := hP₀
                replace hD : va_D A [((Va 0), .inr (7, [.ref (Va 1), .int sv_356, .int sv_357])), ((Va 1), .inl (tc 0, 400, .inl sv_358)), ((Ta 0), .inr (10, [.ref (Ta 1), .int (Tv 0), .int sv_359, .int sv_360, .int sv_361, .int sv_362])), ((Ta 1), .inl (tc 0, 400, .inl (Tf 1)))] := hD₀
                replace hS := hS₀
                clear hP₀ hD₀ hS₀
                refine lv_iload hx hb dX7_readTest_70 (lv_at hl 0 rfl) ?_
                refine lv_if_eq (tgt := 80) hx hb dX7_readTest_72 (by decide) (fun c_369 => ?_) (fun c_369 => ?_)
                · skip
                  exfalso
                  have z_1 := Int32.lt_iff_toInt_lt.mp (Int32.not_le.mp c_50)
                  have z_2 := congrArg Int32.toInt c_75
                  have z_3 : ¬ (r_216 : Int32).toInt = (0 : Int32).toInt := fun z => c_221 (Int32.toInt_inj.mp z)
                  have z_4 : ¬ (r_249 : Int32).toInt = (0 : Int32).toInt := fun z => c_254 (Int32.toInt_inj.mp z)
                  have z_5 : ¬ (vy_35 : Int32).toInt = (0 : Int32).toInt := fun z => c_300 (Int32.toInt_inj.mp z)
                  have z_6 := congrArg Int32.toInt c_369
                  have y_0 : (0 : Int32).toInt = 0 := by decide
                  have y_400 : (400 : Int32).toInt = 400 := by decide
                  omega
                · skip
                  refine lv_iconst (v := 1) hx hb dX7_readTest_75 (by decide) ?_
                  refine lv_istore_n (lv' := [(3, .int 1), (5, .int r_249), (4, .int vy_27), (0, .ref (Va 0)), (1, .ref (Ta 0)), (2, .int 6)]) hx hb dX7_readTest_76 rfl hl (by decide) rfl (fun ls hl₀ => ?_)
                  replace hl := hl₀
                  clear hl₀
                  refine lv_goto (tgt := 86) hx hb dX7_readTest_77 (by decide) ?_
                  obtain ⟨x_370, ex_370⟩ : ∃ y : Int32, y = vy_27 + 1 := ⟨_, rfl⟩
                  refine lv_iinc (v := x_370) (lv' := [(4, .int x_370), (3, .int 1), (5, .int r_249), (0, .ref (Va 0)), (1, .ref (Ta 0)), (2, .int 6)]) hx hb dX7_readTest_86 hl (k := 2) rfl (by rw [ex_370]; rfl) (by decide) rfl (fun ls hl₀ => ?_)
                  replace hl := hl₀
                  clear hl₀
                  refine lv_goto (tgt := 11) hx hb dX7_readTest_89 (by decide) ?_
                  have hb_371 : 401 - (x_370 : Int32).toInt < 401 - (vy_27 : Int32).toInt ∧ 1 ≤ 401 - (vy_27 : Int32).toInt := by
                    have z_1 := Int32.lt_iff_toInt_lt.mp (Int32.not_le.mp c_50)
                    have z_2 := congrArg Int32.toInt c_75
                    have z_3 : ¬ (r_216 : Int32).toInt = (0 : Int32).toInt := fun z => c_221 (Int32.toInt_inj.mp z)
                    have z_4 : ¬ (r_249 : Int32).toInt = (0 : Int32).toInt := fun z => c_254 (Int32.toInt_inj.mp z)
                    have z_5 : ¬ (vy_35 : Int32).toInt = (0 : Int32).toInt := fun z => c_300 (Int32.toInt_inj.mp z)
                    have z_6 : ¬ (r_249 : Int32).toInt = (0 : Int32).toInt := fun z => c_369 (Int32.toInt_inj.mp z)
                    have y_0 : (0 : Int32).toInt = 0 := by decide
                    have y_400 : (400 : Int32).toInt = 400 := by decide
                    have y_1 : (1 : Int32).toInt = 1 := by decide
                    have t_x_370 : x_370.toInt = (vy_27 : Int32).toInt + (1 : Int32).toInt := by rw [ex_370]; exact add_toInt (by omega) (by omega)
                    omega
                  have ha_372 : 0 ≤ (x_370 : Int32).toInt ∧ (x_370 : Int32).toInt ≤ 400 := by
                    have z_1 := Int32.lt_iff_toInt_lt.mp (Int32.not_le.mp c_50)
                    have z_2 := congrArg Int32.toInt c_75
                    have z_3 : ¬ (r_216 : Int32).toInt = (0 : Int32).toInt := fun z => c_221 (Int32.toInt_inj.mp z)
                    have z_4 : ¬ (r_249 : Int32).toInt = (0 : Int32).toInt := fun z => c_254 (Int32.toInt_inj.mp z)
                    have z_5 : ¬ (vy_35 : Int32).toInt = (0 : Int32).toInt := fun z => c_300 (Int32.toInt_inj.mp z)
                    have z_6 : ¬ (r_249 : Int32).toInt = (0 : Int32).toInt := fun z => c_369 (Int32.toInt_inj.mp z)
                    have y_0 : (0 : Int32).toInt = 0 := by decide
                    have y_400 : (400 : Int32).toInt = 400 := by decide
                    have y_1 : (1 : Int32).toInt = 1 := by decide
                    have t_x_370 : x_370.toInt = (vy_27 : Int32).toInt + (1 : Int32).toInt := by rw [ex_370]; exact add_toInt (by omega) (by omega)
                    omega
                  have hu_373 : TpR (Tf 1) (Tv 0) (pz_b (rNX (cB (Tf 1) (Tv 0)) rq_44) (pz_fact (cB (Tf 1) (Tv 0)) 4)) sv_359 sv_360 sv_361 sv_362 := by
                    rw [← ero_350, ← ero_367]
                    exact pf_365
                  have hu_374 : Ctd (pz_b (rNX (cB (Tf 1) (Tv 0)) rq_44) (pz_fact (cB (Tf 1) (Tv 0)) 4)) sv_357 := by
                    rw [← ero_350, ← ero_367]
                    exact pf_366
                  have hw_375 : TWd (cB (Tf 1) (Tv 0)) pz_or rq_44 := by
                    rw [← wS6]
                    exact pf_298
                  have hi_376 : (x_370 : Int32).toInt = (vy_27 : Int32).toInt + 1 := by
                    have z_1 := Int32.lt_iff_toInt_lt.mp (Int32.not_le.mp c_50)
                    have z_2 := congrArg Int32.toInt c_75
                    have z_3 : ¬ (r_216 : Int32).toInt = (0 : Int32).toInt := fun z => c_221 (Int32.toInt_inj.mp z)
                    have z_4 : ¬ (r_249 : Int32).toInt = (0 : Int32).toInt := fun z => c_254 (Int32.toInt_inj.mp z)
                    have z_5 : ¬ (vy_35 : Int32).toInt = (0 : Int32).toInt := fun z => c_300 (Int32.toInt_inj.mp z)
                    have z_6 : ¬ (r_249 : Int32).toInt = (0 : Int32).toInt := fun z => c_369 (Int32.toInt_inj.mp z)
                    have y_0 : (0 : Int32).toInt = 0 := by decide
                    have y_400 : (400 : Int32).toInt = 400 := by decide
                    have y_1 : (1 : Int32).toInt = 1 := by decide
                    have t_x_370 : x_370.toInt = (vy_27 : Int32).toInt + (1 : Int32).toInt := by rw [ex_370]; exact add_toInt (by omega) (by omega)
                    omega
                  exact ih_37 x_370 sv_356 sv_357 sv_358 sv_359 sv_360 sv_361 sv_362 1 _ _ _ (by omega) ha_372 pf_363 pf_364 (TeL.next h_tape.2.1 pf_47 pf_48 (Or.inr hw_375) hu_373 hu_374 hi_376) (hP.sub [0, 1, 2, 3] rfl) (hD.sub [0, 1, 2, 3] rfl rfl) hS (lv_sub hl [0, 1, 3, 4, 5] rfl)
  have ha_377 : 0 ≤ (0 : Int32).toInt ∧ (0 : Int32).toInt ≤ 400 := by
    have y_0 : (0 : Int32).toInt = 0 := by decide
    omega
  have hu_378 : TpR (Tf 1) (Tv 0) (pz_b rr (pz_fact (cB (Tf 1) (Tv 0)) 4)) sv_8 sv_9 sv_10 sv_11 := by
    rw [← ero_16]
    exact pf_14
  have hu_379 : Ctd (pz_b rr (pz_fact (cB (Tf 1) (Tv 0)) 4)) sv_6 := by
    rw [← ero_16]
    exact pf_15
  exact loop_38 _ 0 sv_5 sv_6 sv_7 sv_8 sv_9 sv_10 sv_11 0 _ _ _ (Nat.lt_succ_self _) ha_377 pf_12 pf_13 (TeL.first hu_378 hu_379) hP hD hS hl
set_option maxRecDepth 100000 in
theorem cu_fX7_readTest_6 (l : Launch) (D : va_G) (tc : Nat → ClassId) (sk : (Nat → Nat) × (Nat → Nat)) (Va_0 : Nat) (Va_1 : Nat) (Vv_0 : Int32) (Vv_1 : Int32) (Vf_1 : Nat → Int32) (Ta_0 : Nat) (Ta_1 : Nat) (Tv_0 : Int32) (Tv_1 : Int32) (Tv_2 : Int32) (Tv_3 : Int32) (Tv_4 : Int32) (Tf_1 : Nat → Int32) (rr : Except Int (Nat × Nat)) (h_tape : 0 ≤ (Tv_0 : Int32).toInt ∧ (Tv_0 : Int32).toInt ≤ 400 ∧ 0 ≤ (Tv_1 : Int32).toInt ∧ (Tv_1 : Int32).toInt ≤ 400 ∧ 0 ≤ (Tv_2 : Int32).toInt ∧ (Tv_2 : Int32).toInt ≤ 400) (h_u : 0 ≤ (Vv_0 : Int32).toInt ∧ (Vv_0 : Int32).toInt ≤ 400) (h_by : Byt Tf_1) (h_r : TpR Tf_1 Tv_0 rr Tv_1 Tv_2 Tv_3 Tv_4) (h_ct : Ctd rr Vv_1) : Ct l yX7_readTest cX7_readTest 6 none { frames := 17, cells := 0, slots := 0, locals := 400 } D tc sk [.ref Va_0, .ref Ta_0, .int 6] [(Va_0, .inr (7, [.ref Va_1, .int Vv_0, .int Vv_1])), (Va_1, .inl (tc 0, 400, .inl Vf_1)), (Ta_0, .inr (10, [.ref Ta_1, .int Tv_0, .int Tv_1, .int Tv_2, .int Tv_3, .int Tv_4])), (Ta_1, .inl (tc 0, 400, .inl Tf_1))] (fun (v : Option Value) (u : (Int32) × (Int32) × (Nat → Int32) × (Int32) × (Int32) × (Int32) × (Int32)) => match u with | (oo0x1, oo0x2, oo0x3, oo0x4, oo0x5, oo0x6, oo0x7) => v = none ∧ (0 ≤ (Tv_0 : Int32).toInt ∧ (Tv_0 : Int32).toInt ≤ 400 ∧ 0 ≤ (oo0x4 : Int32).toInt ∧ (oo0x4 : Int32).toInt ≤ 400 ∧ 0 ≤ (oo0x5 : Int32).toInt ∧ (oo0x5 : Int32).toInt ≤ 400) ∧ (0 ≤ (oo0x1 : Int32).toInt ∧ (oo0x1 : Int32).toInt ≤ 400) ∧ (TpR Tf_1 Tv_0 (pz_b rr (pz_tst (cB Tf_1 Tv_0) (pz_fact (cB Tf_1 Tv_0) 4))) oo0x4 oo0x5 oo0x6 oo0x7) ∧ (Ctd (pz_b rr (pz_tst (cB Tf_1 Tv_0) (pz_fact (cB Tf_1 Tv_0) 4))) oo0x2)) (fun (u : (Int32) × (Int32) × (Nat → Int32) × (Int32) × (Int32) × (Int32) × (Int32)) => match u with | (oo0x1, oo0x2, oo0x3, oo0x4, oo0x5, oo0x6, oo0x7) => [(Va_0, .inr (7, [.ref Va_1, .int oo0x1, .int oo0x2])), (Va_1, .inl (tc 0, 400, .inl oo0x3)), (Ta_0, .inr (10, [.ref Ta_1, .int Tv_0, .int oo0x4, .int oo0x5, .int oo0x6, .int oo0x7])), (Ta_1, .inl (tc 0, 400, .inl Tf_1))]) 0 0 :=
  ct_fX7_readTest_6 l D tc sk (fun k => ([Va_0, Va_1] : List (Nat)).getD k 0) (fun k => ([Vv_0, Vv_1] : List (Int32)).getD k 0) (fun k => ([(fun _ => 0), Vf_1] : List (Nat → Int32)).getD k (fun _ => 0)) (fun k => ([Ta_0, Ta_1] : List (Nat)).getD k 0) (fun k => ([Tv_0, Tv_1, Tv_2, Tv_3, Tv_4] : List (Int32)).getD k 0) (fun k => ([(fun _ => 0), Tf_1] : List (Nat → Int32)).getD k (fun _ => 0)) rr h_tape h_u h_by h_r h_ct
set_option maxHeartbeats 4000000 in
set_option maxRecDepth 100000 in
theorem ct_fX7_readFact_5 (l : Launch) (D : va_G) (tc : Nat → ClassId) (sk : (Nat → Nat) × (Nat → Nat)) (Va : Nat → Nat) (Vv : Nat → Int32) (Vf : Nat → Nat → Int32) (Ta : Nat → Nat) (Tv : Nat → Int32) (Tf : Nat → Nat → Int32) (rr : Except Int (Nat × Nat)) (h_tape : 0 ≤ ((Tv 0) : Int32).toInt ∧ ((Tv 0) : Int32).toInt ≤ 400 ∧ 0 ≤ ((Tv 1) : Int32).toInt ∧ ((Tv 1) : Int32).toInt ≤ 400 ∧ 0 ≤ ((Tv 2) : Int32).toInt ∧ ((Tv 2) : Int32).toInt ≤ 400) (h_u : 0 ≤ ((Vv 0) : Int32).toInt ∧ ((Vv 0) : Int32).toInt ≤ 400) (h_by : Byt (Tf 1)) (h_r : TpR (Tf 1) (Tv 0) rr (Tv 1) (Tv 2) (Tv 3) (Tv 4)) (h_ct : Ctd rr (Vv 1)) : Ct l yX7_readFact cX7_readFact 5 none { frames := 18, cells := 0, slots := 0, locals := 425 } D tc sk [.ref (Va 0), .ref (Ta 0), .int 5] [((Va 0), .inr (7, [.ref (Va 1), .int (Vv 0), .int (Vv 1)])), ((Va 1), .inl (tc 0, 400, .inl (Vf 1))), ((Ta 0), .inr (10, [.ref (Ta 1), .int (Tv 0), .int (Tv 1), .int (Tv 2), .int (Tv 3), .int (Tv 4)])), ((Ta 1), .inl (tc 0, 400, .inl (Tf 1)))] (fun (v : Option Value) (u : (Int32) × (Int32) × (Nat → Int32) × (Int32) × (Int32) × (Int32) × (Int32)) => match u with | (oo0x1, oo0x2, oo0x3, oo0x4, oo0x5, oo0x6, oo0x7) => v = none ∧ (0 ≤ ((Tv 0) : Int32).toInt ∧ ((Tv 0) : Int32).toInt ≤ 400 ∧ 0 ≤ (oo0x4 : Int32).toInt ∧ (oo0x4 : Int32).toInt ≤ 400 ∧ 0 ≤ (oo0x5 : Int32).toInt ∧ (oo0x5 : Int32).toInt ≤ 400) ∧ (0 ≤ (oo0x1 : Int32).toInt ∧ (oo0x1 : Int32).toInt ≤ 400) ∧ (TpR (Tf 1) (Tv 0) (pz_b rr (pz_fact (cB (Tf 1) (Tv 0)) 5)) oo0x4 oo0x5 oo0x6 oo0x7) ∧ (Ctd (pz_b rr (pz_fact (cB (Tf 1) (Tv 0)) 5)) oo0x2)) (fun (u : (Int32) × (Int32) × (Nat → Int32) × (Int32) × (Int32) × (Int32) × (Int32)) => match u with | (oo0x1, oo0x2, oo0x3, oo0x4, oo0x5, oo0x6, oo0x7) => [((Va 0), .inr (7, [.ref (Va 1), .int oo0x1, .int oo0x2])), ((Va 1), .inl (tc 0, 400, .inl oo0x3)), ((Ta 0), .inr (10, [.ref (Ta 1), .int (Tv 0), .int oo0x4, .int oo0x5, .int oo0x6, .int oo0x7])), ((Ta 1), .inl (tc 0, 400, .inl (Tf 1)))]) 0 0 := by
  refine Ct.start (by decide) (Nat.le_of_ble_eq_true rfl) (fun p e s m below meth c A ls hx hb hr hlk hin hml hown hts hK hX hP hD hA hl hS => ?_)
  have hl : lv_has ls 5 [(0, .ref (Va 0)), (1, .ref (Ta 0)), (2, .int 5)] := hl
  have tb_1 : TpB (rTE (cB (Tf 1) (Tv 0)) rr) (Tv 2) (Tv 4) := TpR.tb h_r
  refine lv_aload_n hx hb dX7_readFact_0 rfl (lv_at hl 1 rfl) ?_
  refine va_ldcS hx hb hown (sx_4 hX) dX7_readFact_1 ?_
  have ha_2 : (4 : Nat) < 7 := by
    have y_4 : (4 : Int32).toInt = 4 := by decide
    omega
  refine cV (a := (Ta 0)) (As := [.ref (sk.1 4)]) (rest := []) (wr := [((Va 0), .inr (7, [.ref (Va 1), .int (Vv 0), .int (Vv 1)])), ((Va 1), .inl (tc 0, 400, .inl (Vf 1)))]) ⟨hx, hb, hml, hown, hts⟩ hK hX hA (cu_fX10_isWord l D tc sk (Ta 0) (Ta 1) (Tv 0) (Tv 1) (Tv 2) (Tv 3) (Tv 4) (Tf 1) 4 rr ha_2 h_tape h_by h_r) k_618 k_615 k_616 k_617 k_96 pl_X10_isWord ⟨Nat.le_of_ble_eq_true rfl, Nat.le_of_ble_eq_true rfl⟩ rfl rfl (va_recv hK hP (ci := 10) (q0 := 2) rfl rfl) hP hD hS [2, 3] [0, 1] rfl rfl rfl rfl rfl (by decide) rfl hl.1 rfl (Nat.le_of_ble_eq_true rfl) dX7_readFact_3 ⟨Nat.le_of_ble_eq_true rfl, Nat.le_of_ble_eq_true rfl⟩ (fun v_3 u_4 H locs hv_5 hP₀ hD₀ hS₀ => ?_)
  obtain ⟨r_6, rfl, he_7, hm_9, hm_10⟩ := hv_5
  have he_7 : (r_6.toInt = 0 ∨ r_6.toInt = 1) := he_7
  refine W.eq (g2 := F0 m 6 ls [.int r_6]) rfl ?_
  replace hP : va_P D classes [((Va 0), .inr (7, [.ref (Va 1), .int (Vv 0), .int (Vv 1)])), ((Va 1), .inl (tc 0, 400, .inl (Vf 1))), ((Ta 0), .inr (10, [.ref (Ta 1), .int (Tv 0), .int (Tv 1), .int (Tv 2), .int (Tv 3), .int (Tv 4)])), ((Ta 1), .inl (tc 0, 400, .inl (Tf 1)))] H := hP₀
  replace hD : va_D A [((Va 0), .inr (7, [.ref (Va 1), .int (Vv 0), .int (Vv 1)])), ((Va 1), .inl (tc 0, 400, .inl (Vf 1))), ((Ta 0), .inr (10, [.ref (Ta 1), .int (Tv 0), .int (Tv 1), .int (Tv 2), .int (Tv 3), .int (Tv 4)])), ((Ta 1), .inl (tc 0, 400, .inl (Tf 1)))] := hD₀
  replace hS := hS₀
  clear hP₀ hD₀ hS₀
  refine lv_istore_n (lv' := [(3, .int r_6), (0, .ref (Va 0)), (1, .ref (Ta 0)), (2, .int 5)]) hx hb dX7_readFact_6 rfl hl (by decide) rfl (fun ls hl₀ => ?_)
  replace hl := hl₀
  clear hl₀
  refine lv_iload_n hx hb dX7_readFact_7 rfl (lv_at hl 0 rfl) ?_
  refine lv_if_ne (tgt := 20) hx hb dX7_readFact_8 (by decide) (fun c_11 => ?_) (fun c_11 => ?_)
  · skip
    have hz_13 : (r_6 : Int32).toInt = 1 := by
      have z_1 : ¬ (r_6 : Int32).toInt = (0 : Int32).toInt := fun z => c_11 (Int32.toInt_inj.mp z)
      have y_0 : (0 : Int32).toInt = 0 := by decide
      omega
    obtain pf_12 := hm_9 hz_13
    have pf_12 : TWd (cB (Tf 1) (Tv 0)) (wS (4 : Nat)) rr := pf_12
    refine lv_iload_n hx hb dX7_readFact_20 rfl (lv_at hl 3 rfl) ?_
    refine lv_bipush (v := 10) hx hb dX7_readFact_21 (by decide) ?_
    refine lv_icmp_lt (tgt := 34) hx hb dX7_readFact_23 (by decide) (fun c_14 => ?_) (fun c_14 => absurd c_14 (by decide))
    refine lv_iload_n hx hb dX7_readFact_34 rfl (lv_at hl 0 rfl) ?_
    refine lv_if_eq (tgt := 59) hx hb dX7_readFact_35 (by decide) (fun c_15 => ?_) (fun c_15 => ?_)
    · skip
      exfalso
      have z_1 : ¬ (r_6 : Int32).toInt = (0 : Int32).toInt := fun z => c_11 (Int32.toInt_inj.mp z)
      have z_2 := congrArg Int32.toInt c_15
      have y_0 : (0 : Int32).toInt = 0 := by decide
      omega
    · skip
      refine lv_aload_n hx hb dX7_readFact_38 rfl (lv_at hl 2 rfl) ?_
      refine cV (a := (Ta 0)) (As := []) (rest := []) (wr := [((Va 0), .inr (7, [.ref (Va 1), .int (Vv 0), .int (Vv 1)])), ((Va 1), .inl (tc 0, 400, .inl (Vf 1)))]) ⟨hx, hb, hml, hown, hts⟩ hK hX hA (cu_fX10_step l D tc sk (Ta 0) (Ta 1) (Tv 0) (Tv 1) (Tv 2) (Tv 3) (Tv 4) (Tf 1) (rTE (cB (Tf 1) (Tv 0)) rr) h_tape h_by tb_1) k_478 k_620 k_476 k_477 k_96 pl_X10_step ⟨Nat.le_of_ble_eq_true rfl, Nat.le_of_ble_eq_true rfl⟩ rfl rfl (va_recv hK hP (ci := 10) (q0 := 2) rfl rfl) hP hD hS [2, 3] [0, 1] rfl rfl rfl rfl rfl (by decide) rfl hl.1 rfl (Nat.le_of_ble_eq_true rfl) dX7_readFact_39 ⟨Nat.le_of_ble_eq_true rfl, Nat.le_of_ble_eq_true rfl⟩ (fun v_16 u_17 H locs hv_18 hP₀ hD₀ hS₀ => ?_)
      obtain ⟨sv_19, sv_20, sv_21⟩ := u_17
      obtain ⟨rfl, pf_22, pf_23⟩ := hv_18
      have pf_22 : 0 ≤ ((Tv 0) : Int32).toInt ∧ ((Tv 0) : Int32).toInt ≤ 400 ∧ 0 ≤ (sv_19 : Int32).toInt ∧ (sv_19 : Int32).toInt ≤ 400 ∧ 0 ≤ (sv_20 : Int32).toInt ∧ (sv_20 : Int32).toInt ≤ 400 := pf_22
      have pf_23 : TpR (Tf 1) (Tv 0) (rSK (cB (Tf 1) (Tv 0)) (rTE (cB (Tf 1) (Tv 0)) rr)) sv_19 sv_20 sv_21 (Tv 4) := pf_23
      rw [rNX_eq] at pf_23
      obtain ⟨ro_24, ero_24⟩ : ∃ z : Except Int (Nat × Nat), z = (rNX (cB (Tf 1) (Tv 0)) rr) := ⟨_, rfl⟩
      rw [← ero_24] at pf_23
      have tb_25 : TpB (rTE (cB (Tf 1) (Tv 0)) ro_24) sv_20 (Tv 4) := TpR.tb pf_23
      have cd_26 : Ctd ro_24 (Vv 1) := by rw [ero_24]; exact (Ctd.nx h_ct)
      refine W.eq (g2 := F0 m 42 ls []) rfl ?_
      replace hP : va_P D classes [((Va 0), .inr (7, [.ref (Va 1), .int (Vv 0), .int (Vv 1)])), ((Va 1), .inl (tc 0, 400, .inl (Vf 1))), ((Ta 0), .inr (10, [.ref (Ta 1), .int (Tv 0), .int sv_19, .int sv_20, .int sv_21, .int (Tv 4)])), ((Ta 1), .inl (tc 0, 400, .inl (Tf 1)))] H := hP₀
      replace hD : va_D A [((Va 0), .inr (7, [.ref (Va 1), .int (Vv 0), .int (Vv 1)])), ((Va 1), .inl (tc 0, 400, .inl (Vf 1))), ((Ta 0), .inr (10, [.ref (Ta 1), .int (Tv 0), .int sv_19, .int sv_20, .int sv_21, .int (Tv 4)])), ((Ta 1), .inl (tc 0, 400, .inl (Tf 1)))] := hD₀
      replace hS := hS₀
      clear hP₀ hD₀ hS₀
      refine lv_aload_n hx hb dX7_readFact_42 rfl (lv_at hl 1 rfl) ?_
      refine lv_aload_n hx hb dX7_readFact_43 rfl (lv_at hl 2 rfl) ?_
      refine lv_iload_n hx hb dX7_readFact_44 rfl (lv_at hl 3 rfl) ?_
      refine lv_iconst (v := 1) hx hb dX7_readFact_45 (by decide) ?_
      refine lv_iadd hx hb dX7_readFact_46 ?_
      refine lv_lit (v := 6) (by decide) ?_
      refine cV (a := (Va 0)) (As := [.ref (Ta 0), .int 6]) (rest := []) (wr := []) ⟨hx, hb, hml, hown, hts⟩ hK hX hA (cu_fX7_readFact_6 l D tc sk (Va 0) (Va 1) (Vv 0) (Vv 1) (Vf 1) (Ta 0) (Ta 1) (Tv 0) sv_19 sv_20 sv_21 (Tv 4) (Tf 1) ro_24 pf_22 h_u h_by pf_23 cd_26) k_659 k_656 k_658 k_12 k_99 pl_X7_readFact ⟨Nat.le_of_ble_eq_true rfl, Nat.le_of_ble_eq_true rfl⟩ rfl rfl (va_recv hK hP (ci := 7) (q0 := 0) rfl rfl) hP hD hS [0, 1, 2, 3] [] rfl rfl rfl rfl rfl (by decide) rfl hl.1 rfl (Nat.le_of_ble_eq_true rfl) dX7_readFact_47 ⟨Nat.le_of_ble_eq_true rfl, Nat.le_of_ble_eq_true rfl⟩ (fun v_27 u_28 H locs hv_29 hP₀ hD₀ hS₀ => ?_)
      obtain ⟨sv_30, sv_31, sv_32, sv_33, sv_34, sv_35, sv_36⟩ := u_28
      obtain ⟨rfl, pf_37, pf_38, pf_39, pf_40⟩ := hv_29
      have pf_37 : 0 ≤ ((Tv 0) : Int32).toInt ∧ ((Tv 0) : Int32).toInt ≤ 400 ∧ 0 ≤ (sv_33 : Int32).toInt ∧ (sv_33 : Int32).toInt ≤ 400 ∧ 0 ≤ (sv_34 : Int32).toInt ∧ (sv_34 : Int32).toInt ≤ 400 := pf_37
      have pf_38 : 0 ≤ (sv_30 : Int32).toInt ∧ (sv_30 : Int32).toInt ≤ 400 := pf_38
      have pf_39 : TpR (Tf 1) (Tv 0) (pz_b ro_24 (pz_fact (cB (Tf 1) (Tv 0)) 4)) sv_33 sv_34 sv_35 sv_36 := pf_39
      obtain ⟨ro_41, ero_41⟩ : ∃ z : Except Int (Nat × Nat), z = (pz_b ro_24 (pz_fact (cB (Tf 1) (Tv 0)) 4)) := ⟨_, rfl⟩
      rw [← ero_41] at pf_39
      have tb_42 : TpB (rTE (cB (Tf 1) (Tv 0)) ro_41) sv_34 sv_36 := TpR.tb pf_39
      have pf_40 : Ctd (pz_b ro_24 (pz_fact (cB (Tf 1) (Tv 0)) 4)) sv_31 := pf_40
      rw [← ero_41] at pf_40
      refine W.eq (g2 := F0 m 50 ls []) rfl ?_
      replace hP : va_P D classes [((Va 0), .inr (7, [.ref (Va 1), .int sv_30, .int sv_31])), ((Va 1), .inl (tc 0, 400, .inl sv_32)), ((Ta 0), .inr (10, [.ref (Ta 1), .int (Tv 0), .int sv_33, .int sv_34, .int sv_35, .int sv_36])), ((Ta 1), .inl (tc 0, 400, .inl (Tf 1)))] H := hP₀
      replace hD : va_D A [((Va 0), .inr (7, [.ref (Va 1), .int sv_30, .int sv_31])), ((Va 1), .inl (tc 0, 400, .inl sv_32)), ((Ta 0), .inr (10, [.ref (Ta 1), .int (Tv 0), .int sv_33, .int sv_34, .int sv_35, .int sv_36])), ((Ta 1), .inl (tc 0, 400, .inl (Tf 1)))] := hD₀
      replace hS := hS₀
      clear hP₀ hD₀ hS₀
      refine lv_aload_n hx hb dX7_readFact_50 rfl (lv_at hl 1 rfl) ?_
      refine lv_bipush (v := (-4)) hx hb dX7_readFact_51 (by decide) ?_
      refine cV (a := (Va 0)) (As := [.int (-4)]) (rest := []) (wr := [((Ta 0), .inr (10, [.ref (Ta 1), .int (Tv 0), .int sv_33, .int sv_34, .int sv_35, .int sv_36])), ((Ta 1), .inl (tc 0, 400, .inl (Tf 1)))]) ⟨hx, hb, hml, hown, hts⟩ hK hX hA (cu_fX7_put l D tc sk (Va 0) (Va 1) sv_30 sv_31 sv_32 (-4) pf_38) k_642 k_639 k_641 k_10 k_99 pl_X7_put ⟨Nat.le_of_ble_eq_true rfl, Nat.le_of_ble_eq_true rfl⟩ rfl rfl (va_recv hK hP (ci := 7) (q0 := 0) rfl rfl) hP hD hS [0, 1] [2, 3] rfl rfl rfl rfl rfl (by decide) rfl hl.1 rfl (Nat.le_of_ble_eq_true rfl) dX7_readFact_53 ⟨Nat.le_of_ble_eq_true rfl, Nat.le_of_ble_eq_true rfl⟩ (fun v_43 u_44 H locs hv_45 hP₀ hD₀ hS₀ => ?_)
      obtain ⟨sv_46, sv_47⟩ := u_44
      obtain ⟨rfl, pf_48⟩ := hv_45
      have pf_48 : 0 ≤ (sv_46 : Int32).toInt ∧ (sv_46 : Int32).toInt ≤ 400 := pf_48
      refine W.eq (g2 := F0 m 56 ls []) rfl ?_
      replace hP : va_P D classes [((Ta 0), .inr (10, [.ref (Ta 1), .int (Tv 0), .int sv_33, .int sv_34, .int sv_35, .int sv_36])), ((Ta 1), .inl (tc 0, 400, .inl (Tf 1))), ((Va 0), .inr (7, [.ref (Va 1), .int sv_46, .int sv_31])), ((Va 1), .inl (tc 0, 400, .inl sv_47))] H := hP₀
      replace hD : va_D A [((Ta 0), .inr (10, [.ref (Ta 1), .int (Tv 0), .int sv_33, .int sv_34, .int sv_35, .int sv_36])), ((Ta 1), .inl (tc 0, 400, .inl (Tf 1))), ((Va 0), .inr (7, [.ref (Va 1), .int sv_46, .int sv_31])), ((Va 1), .inl (tc 0, 400, .inl sv_47))] := hD₀
      replace hS := hS₀
      clear hP₀ hD₀ hS₀
      refine lv_goto (tgt := 135) hx hb dX7_readFact_56 (by decide) ?_
      have hf_49 : TpR (Tf 1) (Tv 0) (pz_b rr (pz_fact (cB (Tf 1) (Tv 0)) 5)) sv_33 sv_34 sv_35 sv_36 := by
        have hE_50 : (pz_b rr (pz_fact (cB (Tf 1) (Tv 0)) 5)) = ro_41 := by
          rw [ero_41, ero_24]
          have hw_51 : TWd (cB (Tf 1) (Tv 0)) pz_not rr := by
            rw [← wS4]
            exact pf_12
          exact (fact_not hw_51)
        rw [hE_50]
        exact pf_39
      have hf_52 : Ctd (pz_b rr (pz_fact (cB (Tf 1) (Tv 0)) 5)) sv_31 := by
        have hE_53 : (pz_b rr (pz_fact (cB (Tf 1) (Tv 0)) 5)) = ro_41 := by
          rw [ero_41, ero_24]
          have hw_54 : TWd (cB (Tf 1) (Tv 0)) pz_not rr := by
            rw [← wS4]
            exact pf_12
          exact (fact_not hw_54)
        rw [hE_53]
        exact pf_40
      exact retV hx hb hr hlk hP hD hS (sv_46, sv_31, sv_47, sv_33, sv_34, sv_35, sv_36) ⟨rfl, pf_37, pf_48, hf_49, hf_52⟩ [2, 3, 0, 1] rfl rfl dX7_readFact_135 (Nat.le_of_ble_eq_true rfl) (Nat.le_of_ble_eq_true rfl) rfl
  · skip
    have hz_56 : (r_6 : Int32).toInt = 0 := by
      have z_1 := congrArg Int32.toInt c_11
      have y_0 : (0 : Int32).toInt = 0 := by decide
      omega
    obtain pf_55 := hm_10 hz_56
    have pf_55 : NWd (cB (Tf 1) (Tv 0)) (wS (4 : Nat)) rr := pf_55
    refine lv_aload_n hx hb dX7_readFact_11 rfl (lv_at hl 2 rfl) ?_
    refine gf_X7_86 hx hb hts hown hK hP 2 rfl rfl dX7_readFact_12 ?_
    refine lv_bipush (v := 91) hx hb dX7_readFact_15 (by decide) ?_
    refine lv_icmp_ne (tgt := 34) hx hb dX7_readFact_17 (by decide) (fun c_57 => ?_) (fun c_57 => ?_)
    · skip
      refine lv_iload_n hx hb dX7_readFact_34 rfl (lv_at hl 0 rfl) ?_
      refine lv_if_eq (tgt := 59) hx hb dX7_readFact_35 (by decide) (fun c_58 => ?_) (fun c_58 => ?_)
      · skip
        refine lv_aload_n hx hb dX7_readFact_59 rfl (lv_at hl 2 rfl) ?_
        refine lv_bipush (v := 91) hx hb dX7_readFact_60 (by decide) ?_
        have ha_59 : 0 ≤ (91 : Int32).toInt := by
          have z_1 := congrArg Int32.toInt c_11
          have z_2 : ¬ ((Tv 3) : Int32).toInt = (91 : Int32).toInt := fun z => c_57 (Int32.toInt_inj.mp z)
          have z_3 := congrArg Int32.toInt c_58
          have y_0 : (0 : Int32).toInt = 0 := by decide
          have y_91 : (91 : Int32).toInt = 91 := by decide
          omega
        have ha_60 : (91 : Int32).toInt = (91 : Int) := by
          have z_1 := congrArg Int32.toInt c_11
          have z_2 : ¬ ((Tv 3) : Int32).toInt = (91 : Int32).toInt := fun z => c_57 (Int32.toInt_inj.mp z)
          have z_3 := congrArg Int32.toInt c_58
          have y_0 : (0 : Int32).toInt = 0 := by decide
          have y_91 : (91 : Int32).toInt = 91 := by decide
          omega
        refine cV (a := (Ta 0)) (As := [.int 91]) (rest := []) (wr := [((Va 0), .inr (7, [.ref (Va 1), .int (Vv 0), .int (Vv 1)])), ((Va 1), .inl (tc 0, 400, .inl (Vf 1)))]) ⟨hx, hb, hml, hown, hts⟩ hK hX hA (cu_fX10_takes l D tc sk (Ta 0) (Ta 1) (Tv 0) (Tv 1) (Tv 2) (Tv 3) (Tv 4) (Tf 1) 91 rr 91 h_tape h_by h_r ha_59 ha_60) k_492 k_613 k_490 k_491 k_96 pl_X10_takes ⟨Nat.le_of_ble_eq_true rfl, Nat.le_of_ble_eq_true rfl⟩ rfl rfl (va_recv hK hP (ci := 10) (q0 := 2) rfl rfl) hP hD hS [2, 3] [0, 1] rfl rfl rfl rfl rfl (by decide) rfl hl.1 rfl (Nat.le_of_ble_eq_true rfl) dX7_readFact_62 ⟨Nat.le_of_ble_eq_true rfl, Nat.le_of_ble_eq_true rfl⟩ (fun v_61 u_62 H locs hv_63 hP₀ hD₀ hS₀ => ?_)
        obtain ⟨sv_64, sv_65, sv_66⟩ := u_62
        obtain ⟨r_68, rfl, he_69, pf_67, hm_71, hm_72⟩ := hv_63
        have he_69 : (r_68.toInt = 0 ∨ r_68.toInt = 1) := he_69
        have pf_67 : 0 ≤ ((Tv 0) : Int32).toInt ∧ ((Tv 0) : Int32).toInt ≤ 400 ∧ 0 ≤ (sv_64 : Int32).toInt ∧ (sv_64 : Int32).toInt ≤ 400 ∧ 0 ≤ (sv_65 : Int32).toInt ∧ (sv_65 : Int32).toInt ≤ 400 := pf_67
        refine W.eq (g2 := F0 m 65 ls [.int r_68]) rfl ?_
        replace hP : va_P D classes [((Va 0), .inr (7, [.ref (Va 1), .int (Vv 0), .int (Vv 1)])), ((Va 1), .inl (tc 0, 400, .inl (Vf 1))), ((Ta 0), .inr (10, [.ref (Ta 1), .int (Tv 0), .int sv_64, .int sv_65, .int sv_66, .int (Tv 4)])), ((Ta 1), .inl (tc 0, 400, .inl (Tf 1)))] H := hP₀
        replace hD : va_D A [((Va 0), .inr (7, [.ref (Va 1), .int (Vv 0), .int (Vv 1)])), ((Va 1), .inl (tc 0, 400, .inl (Vf 1))), ((Ta 0), .inr (10, [.ref (Ta 1), .int (Tv 0), .int sv_64, .int sv_65, .int sv_66, .int (Tv 4)])), ((Ta 1), .inl (tc 0, 400, .inl (Tf 1)))] := hD₀
        replace hS := hS₀
        clear hP₀ hD₀ hS₀
        refine lv_if_eq (tgt := 93) hx hb dX7_readFact_65 (by decide) (fun c_73 => ?_) (fun c_73 => ?_)
        · skip
          have hz_76 : (r_68 : Int32).toInt = 0 := by
            have z_1 := congrArg Int32.toInt c_11
            have z_2 : ¬ ((Tv 3) : Int32).toInt = (91 : Int32).toInt := fun z => c_57 (Int32.toInt_inj.mp z)
            have z_3 := congrArg Int32.toInt c_58
            have z_4 := congrArg Int32.toInt c_73
            have y_0 : (0 : Int32).toInt = 0 := by decide
            have y_91 : (91 : Int32).toInt = 91 := by decide
            omega
          obtain ⟨pf_74, pf_75⟩ := hm_72 hz_76
          have pf_74 : NSg (cB (Tf 1) (Tv 0)) (91 : Int) rr := pf_74
          have pf_75 : TpR (Tf 1) (Tv 0) rr sv_64 sv_65 sv_66 (Tv 4) := pf_75
          have tb_77 : TpB (rTE (cB (Tf 1) (Tv 0)) rr) sv_65 (Tv 4) := TpR.tb pf_75
          refine lv_aload_n hx hb dX7_readFact_93 rfl (lv_at hl 1 rfl) ?_
          refine lv_aload_n hx hb dX7_readFact_94 rfl (lv_at hl 2 rfl) ?_
          refine cV (a := (Va 0)) (As := [.ref (Ta 0)]) (rest := []) (wr := []) ⟨hx, hb, hml, hown, hts⟩ hK hX hA (cu_fX7_readSum l D tc sk (Va 0) (Va 1) (Vv 0) (Vv 1) (Vf 1) (Ta 0) (Ta 1) (Tv 0) sv_64 sv_65 sv_66 (Tv 4) (Tf 1) rr pf_67 h_u h_by pf_75 h_ct) k_624 k_621 k_623 k_7 k_99 pl_X7_readSum ⟨Nat.le_of_ble_eq_true rfl, Nat.le_of_ble_eq_true rfl⟩ rfl rfl (va_recv hK hP (ci := 7) (q0 := 0) rfl rfl) hP hD hS [0, 1, 2, 3] [] rfl rfl rfl rfl rfl (by decide) rfl hl.1 rfl (Nat.le_of_ble_eq_true rfl) dX7_readFact_95 ⟨Nat.le_of_ble_eq_true rfl, Nat.le_of_ble_eq_true rfl⟩ (fun v_78 u_79 H locs hv_80 hP₀ hD₀ hS₀ => ?_)
          obtain ⟨sv_81, sv_82, sv_83, sv_84, sv_85, sv_86, sv_87⟩ := u_79
          obtain ⟨rfl, pf_88, pf_89, pf_90, pf_91⟩ := hv_80
          have pf_88 : 0 ≤ ((Tv 0) : Int32).toInt ∧ ((Tv 0) : Int32).toInt ≤ 400 ∧ 0 ≤ (sv_84 : Int32).toInt ∧ (sv_84 : Int32).toInt ≤ 400 ∧ 0 ≤ (sv_85 : Int32).toInt ∧ (sv_85 : Int32).toInt ≤ 400 := pf_88
          have pf_89 : 0 ≤ (sv_81 : Int32).toInt ∧ (sv_81 : Int32).toInt ≤ 400 := pf_89
          have pf_90 : TpR (Tf 1) (Tv 0) (pz_b rr (pz_sum (cB (Tf 1) (Tv 0)))) sv_84 sv_85 sv_86 sv_87 := pf_90
          obtain ⟨ro_92, ero_92⟩ : ∃ z : Except Int (Nat × Nat), z = (pz_b rr (pz_sum (cB (Tf 1) (Tv 0)))) := ⟨_, rfl⟩
          rw [← ero_92] at pf_90
          have tb_93 : TpB (rTE (cB (Tf 1) (Tv 0)) ro_92) sv_85 sv_87 := TpR.tb pf_90
          have pf_91 : Ctd (pz_b rr (pz_sum (cB (Tf 1) (Tv 0)))) sv_82 := pf_91
          rw [← ero_92] at pf_91
          refine W.eq (g2 := F0 m 98 ls []) rfl ?_
          replace hP : va_P D classes [((Va 0), .inr (7, [.ref (Va 1), .int sv_81, .int sv_82])), ((Va 1), .inl (tc 0, 400, .inl sv_83)), ((Ta 0), .inr (10, [.ref (Ta 1), .int (Tv 0), .int sv_84, .int sv_85, .int sv_86, .int sv_87])), ((Ta 1), .inl (tc 0, 400, .inl (Tf 1)))] H := hP₀
          replace hD : va_D A [((Va 0), .inr (7, [.ref (Va 1), .int sv_81, .int sv_82])), ((Va 1), .inl (tc 0, 400, .inl sv_83)), ((Ta 0), .inr (10, [.ref (Ta 1), .int (Tv 0), .int sv_84, .int sv_85, .int sv_86, .int sv_87])), ((Ta 1), .inl (tc 0, 400, .inl (Tf 1)))] := hD₀
          replace hS := hS₀
          clear hP₀ hD₀ hS₀
          refine lv_aload_n hx hb dX7_readFact_98 rfl (lv_at hl 2 rfl) ?_
          refine cS (As := [.ref (Ta 0)]) (rest := []) (wr := [((Va 0), .inr (7, [.ref (Va 1), .int sv_81, .int sv_82])), ((Va 1), .inl (tc 0, 400, .inl sv_83))]) ⟨hx, hb, hml, hown, hts⟩ hK hX hA (cu_fX7_comparison l D tc sk (Ta 0) (Ta 1) (Tv 0) sv_84 sv_85 sv_86 sv_87 (Tf 1) pf_88) k_663 k_661 k_662 k_99 pl_X7_comparison ⟨Nat.le_of_ble_eq_true rfl, Nat.le_of_ble_eq_true rfl⟩ rfl rfl  hP hD hS [2, 3] [0, 1] rfl rfl rfl rfl rfl (by decide) rfl hl.1 rfl (Nat.le_of_ble_eq_true rfl) dX7_readFact_99 ⟨Nat.le_of_ble_eq_true rfl, Nat.le_of_ble_eq_true rfl⟩ (fun v_94 u_95 H locs hv_96 hP₀ hD₀ hS₀ => ?_)
          obtain ⟨r_97, rfl, he_98⟩ := hv_96
          have he_98 : ((r_97.toInt = -1 ∧ ¬ (60 ≤ sv_86.toInt ∧ sv_86.toInt ≤ 62)) ∨ (r_97.toInt ≤ -7 ∧ 60 ≤ sv_86.toInt ∧ sv_86.toInt ≤ 62)) := he_98
          refine W.eq (g2 := F0 m 102 ls [.int r_97]) rfl ?_
          replace hP : va_P D classes [((Va 0), .inr (7, [.ref (Va 1), .int sv_81, .int sv_82])), ((Va 1), .inl (tc 0, 400, .inl sv_83)), ((Ta 0), .inr (10, [.ref (Ta 1), .int (Tv 0), .int sv_84, .int sv_85, .int sv_86, .int sv_87])), ((Ta 1), .inl (tc 0, 400, .inl (Tf 1)))] H := hP₀
          replace hD : va_D A [((Va 0), .inr (7, [.ref (Va 1), .int sv_81, .int sv_82])), ((Va 1), .inl (tc 0, 400, .inl sv_83)), ((Ta 0), .inr (10, [.ref (Ta 1), .int (Tv 0), .int sv_84, .int sv_85, .int sv_86, .int sv_87])), ((Ta 1), .inl (tc 0, 400, .inl (Tf 1)))] := hD₀
          replace hS := hS₀
          clear hP₀ hD₀ hS₀
          refine lv_istore (lv' := [(4, .int r_97), (3, .int r_6), (0, .ref (Va 0)), (1, .ref (Ta 0)), (2, .int 5)]) hx hb dX7_readFact_102 hl (by decide) rfl (fun ls hl₀ => ?_)
          replace hl := hl₀
          clear hl₀
          refine lv_iload hx hb dX7_readFact_104 (lv_at hl 0 rfl) ?_
          refine lv_iconst (v := (-1)) hx hb dX7_readFact_106 (by decide) ?_
          refine lv_icmp_ne (tgt := 115) hx hb dX7_readFact_107 (by decide) (fun c_100 => ?_) (fun c_100 => ?_)
          · skip
            refine lv_aload_n hx hb dX7_readFact_115 rfl (lv_at hl 2 rfl) ?_
            refine lv_aload_n hx hb dX7_readFact_116 rfl (lv_at hl 3 rfl) ?_
            refine cV (a := (Va 0)) (As := [.ref (Ta 0)]) (rest := []) (wr := []) ⟨hx, hb, hml, hown, hts⟩ hK hX hA (cu_fX7_countOne l D tc sk (Va 0) (Va 1) sv_81 sv_82 sv_83 (Ta 0) (Ta 1) (Tv 0) sv_84 sv_85 sv_86 sv_87 (Tf 1) ro_92 pf_88 pf_89 h_by pf_90 pf_91) k_638 k_635 k_637 k_9 k_99 pl_X7_countOne ⟨Nat.le_of_ble_eq_true rfl, Nat.le_of_ble_eq_true rfl⟩ rfl rfl (va_recv hK hP (ci := 7) (q0 := 0) rfl rfl) hP hD hS [0, 1, 2, 3] [] rfl rfl rfl rfl rfl (by decide) rfl hl.1 rfl (Nat.le_of_ble_eq_true rfl) dX7_readFact_117 ⟨Nat.le_of_ble_eq_true rfl, Nat.le_of_ble_eq_true rfl⟩ (fun v_101 u_102 H locs hv_103 hP₀ hD₀ hS₀ => ?_)
            obtain ⟨sv_104, sv_105, sv_106⟩ := u_102
            obtain ⟨rfl, pf_107, pf_108, pf_109, pf_110⟩ := hv_103
            have pf_107 : 0 ≤ ((Tv 0) : Int32).toInt ∧ ((Tv 0) : Int32).toInt ≤ 400 ∧ 0 ≤ (sv_84 : Int32).toInt ∧ (sv_84 : Int32).toInt ≤ 400 ∧ 0 ≤ (sv_85 : Int32).toInt ∧ (sv_85 : Int32).toInt ≤ 400 := pf_107
            have pf_108 : 0 ≤ (sv_81 : Int32).toInt ∧ (sv_81 : Int32).toInt ≤ 400 := pf_108
            have pf_109 : TpR (Tf 1) (Tv 0) (rC1 ro_92) sv_84 sv_85 sv_105 sv_106 := pf_109
            obtain ⟨ro_111, ero_111⟩ : ∃ z : Except Int (Nat × Nat), z = (rC1 ro_92) := ⟨_, rfl⟩
            rw [← ero_111] at pf_109
            have tb_112 : TpB (rTE (cB (Tf 1) (Tv 0)) ro_111) sv_85 sv_106 := TpR.tb pf_109
            have pf_110 : Ctd (rC1 ro_92) sv_104 := pf_110
            rw [← ero_111] at pf_110
            refine W.eq (g2 := F0 m 120 ls []) rfl ?_
            replace hP : va_P D classes [((Va 0), .inr (7, [.ref (Va 1), .int sv_81, .int sv_104])), ((Va 1), .inl (tc 0, 400, .inl sv_83)), ((Ta 0), .inr (10, [.ref (Ta 1), .int (Tv 0), .int sv_84, .int sv_85, .int sv_105, .int sv_106])), ((Ta 1), .inl (tc 0, 400, .inl (Tf 1)))] H := hP₀
            replace hD : va_D A [((Va 0), .inr (7, [.ref (Va 1), .int sv_81, .int sv_104])), ((Va 1), .inl (tc 0, 400, .inl sv_83)), ((Ta 0), .inr (10, [.ref (Ta 1), .int (Tv 0), .int sv_84, .int sv_85, .int sv_105, .int sv_106])), ((Ta 1), .inl (tc 0, 400, .inl (Tf 1)))] := hD₀
            replace hS := hS₀
            clear hP₀ hD₀ hS₀
            refine lv_aload_n hx hb dX7_readFact_120 rfl (lv_at hl 3 rfl) ?_
            refine cV (a := (Ta 0)) (As := []) (rest := []) (wr := [((Va 0), .inr (7, [.ref (Va 1), .int sv_81, .int sv_104])), ((Va 1), .inl (tc 0, 400, .inl sv_83))]) ⟨hx, hb, hml, hown, hts⟩ hK hX hA (cu_fX10_step l D tc sk (Ta 0) (Ta 1) (Tv 0) sv_84 sv_85 sv_105 sv_106 (Tf 1) (rTE (cB (Tf 1) (Tv 0)) ro_111) pf_107 h_by tb_112) k_478 k_620 k_476 k_477 k_96 pl_X10_step ⟨Nat.le_of_ble_eq_true rfl, Nat.le_of_ble_eq_true rfl⟩ rfl rfl (va_recv hK hP (ci := 10) (q0 := 2) rfl rfl) hP hD hS [2, 3] [0, 1] rfl rfl rfl rfl rfl (by decide) rfl hl.1 rfl (Nat.le_of_ble_eq_true rfl) dX7_readFact_121 ⟨Nat.le_of_ble_eq_true rfl, Nat.le_of_ble_eq_true rfl⟩ (fun v_113 u_114 H locs hv_115 hP₀ hD₀ hS₀ => ?_)
            obtain ⟨sv_116, sv_117, sv_118⟩ := u_114
            obtain ⟨rfl, pf_119, pf_120⟩ := hv_115
            have pf_119 : 0 ≤ ((Tv 0) : Int32).toInt ∧ ((Tv 0) : Int32).toInt ≤ 400 ∧ 0 ≤ (sv_116 : Int32).toInt ∧ (sv_116 : Int32).toInt ≤ 400 ∧ 0 ≤ (sv_117 : Int32).toInt ∧ (sv_117 : Int32).toInt ≤ 400 := pf_119
            have pf_120 : TpR (Tf 1) (Tv 0) (rSK (cB (Tf 1) (Tv 0)) (rTE (cB (Tf 1) (Tv 0)) ro_111)) sv_116 sv_117 sv_118 sv_106 := pf_120
            rw [rNX_eq] at pf_120
            obtain ⟨ro_121, ero_121⟩ : ∃ z : Except Int (Nat × Nat), z = (rNX (cB (Tf 1) (Tv 0)) ro_111) := ⟨_, rfl⟩
            rw [← ero_121] at pf_120
            have tb_122 : TpB (rTE (cB (Tf 1) (Tv 0)) ro_121) sv_117 sv_106 := TpR.tb pf_120
            have cd_123 : Ctd ro_121 sv_104 := by rw [ero_121]; exact (Ctd.nx pf_110)
            refine W.eq (g2 := F0 m 124 ls []) rfl ?_
            replace hP : va_P D classes [((Va 0), .inr (7, [.ref (Va 1), .int sv_81, .int sv_104])), ((Va 1), .inl (tc 0, 400, .inl sv_83)), ((Ta 0), .inr (10, [.ref (Ta 1), .int (Tv 0), .int sv_116, .int sv_117, .int sv_118, .int sv_106])), ((Ta 1), .inl (tc 0, 400, .inl (Tf 1)))] H := hP₀
            replace hD : va_D A [((Va 0), .inr (7, [.ref (Va 1), .int sv_81, .int sv_104])), ((Va 1), .inl (tc 0, 400, .inl sv_83)), ((Ta 0), .inr (10, [.ref (Ta 1), .int (Tv 0), .int sv_116, .int sv_117, .int sv_118, .int sv_106])), ((Ta 1), .inl (tc 0, 400, .inl (Tf 1)))] := hD₀
            replace hS := hS₀
            clear hP₀ hD₀ hS₀
            refine lv_aload_n hx hb dX7_readFact_124 rfl (lv_at hl 2 rfl) ?_
            refine lv_aload_n hx hb dX7_readFact_125 rfl (lv_at hl 3 rfl) ?_
            refine cV (a := (Va 0)) (As := [.ref (Ta 0)]) (rest := []) (wr := []) ⟨hx, hb, hml, hown, hts⟩ hK hX hA (cu_fX7_readSum l D tc sk (Va 0) (Va 1) sv_81 sv_104 sv_83 (Ta 0) (Ta 1) (Tv 0) sv_116 sv_117 sv_118 sv_106 (Tf 1) ro_121 pf_119 pf_108 h_by pf_120 cd_123) k_624 k_621 k_623 k_7 k_99 pl_X7_readSum ⟨Nat.le_of_ble_eq_true rfl, Nat.le_of_ble_eq_true rfl⟩ rfl rfl (va_recv hK hP (ci := 7) (q0 := 0) rfl rfl) hP hD hS [0, 1, 2, 3] [] rfl rfl rfl rfl rfl (by decide) rfl hl.1 rfl (Nat.le_of_ble_eq_true rfl) dX7_readFact_126 ⟨Nat.le_of_ble_eq_true rfl, Nat.le_of_ble_eq_true rfl⟩ (fun v_124 u_125 H locs hv_126 hP₀ hD₀ hS₀ => ?_)
            obtain ⟨sv_127, sv_128, sv_129, sv_130, sv_131, sv_132, sv_133⟩ := u_125
            obtain ⟨rfl, pf_134, pf_135, pf_136, pf_137⟩ := hv_126
            have pf_134 : 0 ≤ ((Tv 0) : Int32).toInt ∧ ((Tv 0) : Int32).toInt ≤ 400 ∧ 0 ≤ (sv_130 : Int32).toInt ∧ (sv_130 : Int32).toInt ≤ 400 ∧ 0 ≤ (sv_131 : Int32).toInt ∧ (sv_131 : Int32).toInt ≤ 400 := pf_134
            have pf_135 : 0 ≤ (sv_127 : Int32).toInt ∧ (sv_127 : Int32).toInt ≤ 400 := pf_135
            have pf_136 : TpR (Tf 1) (Tv 0) (pz_b ro_121 (pz_sum (cB (Tf 1) (Tv 0)))) sv_130 sv_131 sv_132 sv_133 := pf_136
            obtain ⟨ro_138, ero_138⟩ : ∃ z : Except Int (Nat × Nat), z = (pz_b ro_121 (pz_sum (cB (Tf 1) (Tv 0)))) := ⟨_, rfl⟩
            rw [← ero_138] at pf_136
            have tb_139 : TpB (rTE (cB (Tf 1) (Tv 0)) ro_138) sv_131 sv_133 := TpR.tb pf_136
            have pf_137 : Ctd (pz_b ro_121 (pz_sum (cB (Tf 1) (Tv 0)))) sv_128 := pf_137
            rw [← ero_138] at pf_137
            refine W.eq (g2 := F0 m 129 ls []) rfl ?_
            replace hP : va_P D classes [((Va 0), .inr (7, [.ref (Va 1), .int sv_127, .int sv_128])), ((Va 1), .inl (tc 0, 400, .inl sv_129)), ((Ta 0), .inr (10, [.ref (Ta 1), .int (Tv 0), .int sv_130, .int sv_131, .int sv_132, .int sv_133])), ((Ta 1), .inl (tc 0, 400, .inl (Tf 1)))] H := hP₀
            replace hD : va_D A [((Va 0), .inr (7, [.ref (Va 1), .int sv_127, .int sv_128])), ((Va 1), .inl (tc 0, 400, .inl sv_129)), ((Ta 0), .inr (10, [.ref (Ta 1), .int (Tv 0), .int sv_130, .int sv_131, .int sv_132, .int sv_133])), ((Ta 1), .inl (tc 0, 400, .inl (Tf 1)))] := hD₀
            replace hS := hS₀
            clear hP₀ hD₀ hS₀
            refine lv_aload_n hx hb dX7_readFact_129 rfl (lv_at hl 2 rfl) ?_
            refine lv_iload hx hb dX7_readFact_130 (lv_at hl 0 rfl) ?_
            refine cV (a := (Va 0)) (As := [.int r_97]) (rest := []) (wr := [((Ta 0), .inr (10, [.ref (Ta 1), .int (Tv 0), .int sv_130, .int sv_131, .int sv_132, .int sv_133])), ((Ta 1), .inl (tc 0, 400, .inl (Tf 1)))]) ⟨hx, hb, hml, hown, hts⟩ hK hX hA (cu_fX7_put l D tc sk (Va 0) (Va 1) sv_127 sv_128 sv_129 r_97 pf_135) k_642 k_639 k_641 k_10 k_99 pl_X7_put ⟨Nat.le_of_ble_eq_true rfl, Nat.le_of_ble_eq_true rfl⟩ rfl rfl (va_recv hK hP (ci := 7) (q0 := 0) rfl rfl) hP hD hS [0, 1] [2, 3] rfl rfl rfl rfl rfl (by decide) rfl hl.1 rfl (Nat.le_of_ble_eq_true rfl) dX7_readFact_132 ⟨Nat.le_of_ble_eq_true rfl, Nat.le_of_ble_eq_true rfl⟩ (fun v_140 u_141 H locs hv_142 hP₀ hD₀ hS₀ => ?_)
            obtain ⟨sv_143, sv_144⟩ := u_141
            obtain ⟨rfl, pf_145⟩ := hv_142
            have pf_145 : 0 ≤ (sv_143 : Int32).toInt ∧ (sv_143 : Int32).toInt ≤ 400 := pf_145
            refine W.eq (g2 := F0 m 135 ls []) rfl ?_
            replace hP : va_P D classes [((Ta 0), .inr (10, [.ref (Ta 1), .int (Tv 0), .int sv_130, .int sv_131, .int sv_132, .int sv_133])), ((Ta 1), .inl (tc 0, 400, .inl (Tf 1))), ((Va 0), .inr (7, [.ref (Va 1), .int sv_143, .int sv_128])), ((Va 1), .inl (tc 0, 400, .inl sv_144))] H := hP₀
            replace hD : va_D A [((Ta 0), .inr (10, [.ref (Ta 1), .int (Tv 0), .int sv_130, .int sv_131, .int sv_132, .int sv_133])), ((Ta 1), .inl (tc 0, 400, .inl (Tf 1))), ((Va 0), .inr (7, [.ref (Va 1), .int sv_143, .int sv_128])), ((Va 1), .inl (tc 0, 400, .inl sv_144))] := hD₀
            replace hS := hS₀
            clear hP₀ hD₀ hS₀
            have hf_146 : TpR (Tf 1) (Tv 0) (pz_b rr (pz_fact (cB (Tf 1) (Tv 0)) 5)) sv_130 sv_131 sv_132 sv_133 := by
              have hE_147 : (pz_b rr (pz_fact (cB (Tf 1) (Tv 0)) 5)) = ro_138 := by
                rw [ero_138, ero_121, ero_111, ero_92]
                have hw_148 : NWd (cB (Tf 1) (Tv 0)) pz_not rr := by
                  rw [← wS4]
                  exact pf_55
                have hw_149 : NSg (cB (Tf 1) (Tv 0)) 91 rr := by
                  exact pf_74
                have hu_150 : TpR (Tf 1) (Tv 0) (pz_b rr (pz_sum (cB (Tf 1) (Tv 0)))) sv_84 sv_85 sv_86 sv_87 := by
                  rw [← ero_92]
                  exact pf_90
                have hr_151 : 60 ≤ (sv_86 : Int32).toInt ∧ (sv_86 : Int32).toInt ≤ 62 := by
                  have z_1 := congrArg Int32.toInt c_11
                  have z_2 : ¬ ((Tv 3) : Int32).toInt = (91 : Int32).toInt := fun z => c_57 (Int32.toInt_inj.mp z)
                  have z_3 := congrArg Int32.toInt c_58
                  have z_4 := congrArg Int32.toInt c_73
                  have z_5 : ¬ (r_97 : Int32).toInt = ((-1) : Int32).toInt := fun z => c_100 (Int32.toInt_inj.mp z)
                  have y_m1 : (-1 : Int32).toInt = -1 := by decide
                  have y_0 : (0 : Int32).toInt = 0 := by decide
                  have y_91 : (91 : Int32).toInt = 91 := by decide
                  omega
                exact ((fact_com hw_148 hw_149).trans (congrArg (fun z => pz_b z (pz_sum (cB (Tf 1) (Tv 0)))) (com_yes hu_150 hr_151)))
              rw [hE_147]
              exact pf_136
            have hf_152 : Ctd (pz_b rr (pz_fact (cB (Tf 1) (Tv 0)) 5)) sv_128 := by
              have hE_153 : (pz_b rr (pz_fact (cB (Tf 1) (Tv 0)) 5)) = ro_138 := by
                rw [ero_138, ero_121, ero_111, ero_92]
                have hw_154 : NWd (cB (Tf 1) (Tv 0)) pz_not rr := by
                  rw [← wS4]
                  exact pf_55
                have hw_155 : NSg (cB (Tf 1) (Tv 0)) 91 rr := by
                  exact pf_74
                have hu_156 : TpR (Tf 1) (Tv 0) (pz_b rr (pz_sum (cB (Tf 1) (Tv 0)))) sv_84 sv_85 sv_86 sv_87 := by
                  rw [← ero_92]
                  exact pf_90
                have hr_157 : 60 ≤ (sv_86 : Int32).toInt ∧ (sv_86 : Int32).toInt ≤ 62 := by
                  have z_1 := congrArg Int32.toInt c_11
                  have z_2 : ¬ ((Tv 3) : Int32).toInt = (91 : Int32).toInt := fun z => c_57 (Int32.toInt_inj.mp z)
                  have z_3 := congrArg Int32.toInt c_58
                  have z_4 := congrArg Int32.toInt c_73
                  have z_5 : ¬ (r_97 : Int32).toInt = ((-1) : Int32).toInt := fun z => c_100 (Int32.toInt_inj.mp z)
                  have y_m1 : (-1 : Int32).toInt = -1 := by decide
                  have y_0 : (0 : Int32).toInt = 0 := by decide
                  have y_91 : (91 : Int32).toInt = 91 := by decide
                  omega
                exact ((fact_com hw_154 hw_155).trans (congrArg (fun z => pz_b z (pz_sum (cB (Tf 1) (Tv 0)))) (com_yes hu_156 hr_157)))
              rw [hE_153]
              exact pf_137
            exact retV hx hb hr hlk hP hD hS (sv_143, sv_128, sv_144, sv_130, sv_131, sv_132, sv_133) ⟨rfl, pf_134, pf_145, hf_146, hf_152⟩ [2, 3, 0, 1] rfl rfl dX7_readFact_135 (Nat.le_of_ble_eq_true rfl) (Nat.le_of_ble_eq_true rfl) rfl
          · skip
            refine lv_aload_n hx hb dX7_readFact_110 rfl (lv_at hl 3 rfl) ?_
            refine lv_iconst (v := 0) hx hb dX7_readFact_111 (by decide) ?_
            have ha_158 : 0 ≤ (0 : Int32).toInt ∧ (0 : Int32).toInt ≤ 4 := by
              have z_1 := congrArg Int32.toInt c_11
              have z_2 : ¬ ((Tv 3) : Int32).toInt = (91 : Int32).toInt := fun z => c_57 (Int32.toInt_inj.mp z)
              have z_3 := congrArg Int32.toInt c_58
              have z_4 := congrArg Int32.toInt c_73
              have z_5 := congrArg Int32.toInt c_100
              have y_m1 : (-1 : Int32).toInt = -1 := by decide
              have y_0 : (0 : Int32).toInt = 0 := by decide
              have y_91 : (91 : Int32).toInt = 91 := by decide
              omega
            have ha_159 : (0 : Int32).toInt = (0 : Int) := by
              have z_1 := congrArg Int32.toInt c_11
              have z_2 : ¬ ((Tv 3) : Int32).toInt = (91 : Int32).toInt := fun z => c_57 (Int32.toInt_inj.mp z)
              have z_3 := congrArg Int32.toInt c_58
              have z_4 := congrArg Int32.toInt c_73
              have z_5 := congrArg Int32.toInt c_100
              have y_m1 : (-1 : Int32).toInt = -1 := by decide
              have y_0 : (0 : Int32).toInt = 0 := by decide
              have y_91 : (91 : Int32).toInt = 91 := by decide
              omega
            refine cV (a := (Ta 0)) (As := [.int 0]) (rest := []) (wr := [((Va 0), .inr (7, [.ref (Va 1), .int sv_81, .int sv_82])), ((Va 1), .inl (tc 0, 400, .inl sv_83))]) ⟨hx, hb, hml, hown, hts⟩ hK hX hA (cu_fX10_fail l D tc sk (Ta 0) (Ta 1) (Tv 0) sv_84 sv_85 sv_86 sv_87 (Tf 1) 0 ro_92 0 pf_88 pf_90 ha_158 ha_159) k_557 k_619 k_555 k_556 k_96 pl_X10_fail ⟨Nat.le_of_ble_eq_true rfl, Nat.le_of_ble_eq_true rfl⟩ rfl rfl (va_recv hK hP (ci := 10) (q0 := 2) rfl rfl) hP hD hS [2, 3] [0, 1] rfl rfl rfl rfl rfl (by decide) rfl hl.1 rfl (Nat.le_of_ble_eq_true rfl) dX7_readFact_112 ⟨Nat.le_of_ble_eq_true rfl, Nat.le_of_ble_eq_true rfl⟩ (fun v_160 u_161 H locs hv_162 hP₀ hD₀ hS₀ => ?_)
            obtain ⟨sv_163, sv_164⟩ := u_161
            obtain ⟨rfl, pf_165, pf_166⟩ := hv_162
            have pf_165 : 0 ≤ ((Tv 0) : Int32).toInt ∧ ((Tv 0) : Int32).toInt ≤ 400 ∧ 0 ≤ (sv_84 : Int32).toInt ∧ (sv_84 : Int32).toInt ≤ 400 ∧ 0 ≤ (sv_85 : Int32).toInt ∧ (sv_85 : Int32).toInt ≤ 400 := pf_165
            have pf_166 : TpR (Tf 1) (Tv 0) (rER (0 : Int) ro_92) sv_84 sv_85 sv_163 sv_164 := pf_166
            obtain ⟨ro_167, ero_167⟩ : ∃ z : Except Int (Nat × Nat), z = (rER 0 ro_92) := ⟨_, rfl⟩
            rw [← ero_167] at pf_166
            have tb_168 : TpB (rTE (cB (Tf 1) (Tv 0)) ro_167) sv_85 sv_164 := TpR.tb pf_166
            have cd_169 : Ctd ro_167 sv_82 := by rw [ero_167]; exact (Ctd.er)
            refine W.eq (g2 := F0 m 115 ls []) rfl ?_
            replace hP : va_P D classes [((Va 0), .inr (7, [.ref (Va 1), .int sv_81, .int sv_82])), ((Va 1), .inl (tc 0, 400, .inl sv_83)), ((Ta 0), .inr (10, [.ref (Ta 1), .int (Tv 0), .int sv_84, .int sv_85, .int sv_163, .int sv_164])), ((Ta 1), .inl (tc 0, 400, .inl (Tf 1)))] H := hP₀
            replace hD : va_D A [((Va 0), .inr (7, [.ref (Va 1), .int sv_81, .int sv_82])), ((Va 1), .inl (tc 0, 400, .inl sv_83)), ((Ta 0), .inr (10, [.ref (Ta 1), .int (Tv 0), .int sv_84, .int sv_85, .int sv_163, .int sv_164])), ((Ta 1), .inl (tc 0, 400, .inl (Tf 1)))] := hD₀
            replace hS := hS₀
            clear hP₀ hD₀ hS₀
            refine lv_aload_n hx hb dX7_readFact_115 rfl (lv_at hl 2 rfl) ?_
            refine lv_aload_n hx hb dX7_readFact_116 rfl (lv_at hl 3 rfl) ?_
            refine cV (a := (Va 0)) (As := [.ref (Ta 0)]) (rest := []) (wr := []) ⟨hx, hb, hml, hown, hts⟩ hK hX hA (cu_fX7_countOne l D tc sk (Va 0) (Va 1) sv_81 sv_82 sv_83 (Ta 0) (Ta 1) (Tv 0) sv_84 sv_85 sv_163 sv_164 (Tf 1) ro_167 pf_165 pf_89 h_by pf_166 cd_169) k_638 k_635 k_637 k_9 k_99 pl_X7_countOne ⟨Nat.le_of_ble_eq_true rfl, Nat.le_of_ble_eq_true rfl⟩ rfl rfl (va_recv hK hP (ci := 7) (q0 := 0) rfl rfl) hP hD hS [0, 1, 2, 3] [] rfl rfl rfl rfl rfl (by decide) rfl hl.1 rfl (Nat.le_of_ble_eq_true rfl) dX7_readFact_117 ⟨Nat.le_of_ble_eq_true rfl, Nat.le_of_ble_eq_true rfl⟩ (fun v_170 u_171 H locs hv_172 hP₀ hD₀ hS₀ => ?_)
            obtain ⟨sv_173, sv_174, sv_175⟩ := u_171
            obtain ⟨rfl, pf_176, pf_177, pf_178, pf_179⟩ := hv_172
            have pf_176 : 0 ≤ ((Tv 0) : Int32).toInt ∧ ((Tv 0) : Int32).toInt ≤ 400 ∧ 0 ≤ (sv_84 : Int32).toInt ∧ (sv_84 : Int32).toInt ≤ 400 ∧ 0 ≤ (sv_85 : Int32).toInt ∧ (sv_85 : Int32).toInt ≤ 400 := pf_176
            have pf_177 : 0 ≤ (sv_81 : Int32).toInt ∧ (sv_81 : Int32).toInt ≤ 400 := pf_177
            have pf_178 : TpR (Tf 1) (Tv 0) (rC1 ro_167) sv_84 sv_85 sv_174 sv_175 := pf_178
            obtain ⟨ro_180, ero_180⟩ : ∃ z : Except Int (Nat × Nat), z = (rC1 ro_167) := ⟨_, rfl⟩
            rw [← ero_180] at pf_178
            have tb_181 : TpB (rTE (cB (Tf 1) (Tv 0)) ro_180) sv_85 sv_175 := TpR.tb pf_178
            have pf_179 : Ctd (rC1 ro_167) sv_173 := pf_179
            rw [← ero_180] at pf_179
            refine W.eq (g2 := F0 m 120 ls []) rfl ?_
            replace hP : va_P D classes [((Va 0), .inr (7, [.ref (Va 1), .int sv_81, .int sv_173])), ((Va 1), .inl (tc 0, 400, .inl sv_83)), ((Ta 0), .inr (10, [.ref (Ta 1), .int (Tv 0), .int sv_84, .int sv_85, .int sv_174, .int sv_175])), ((Ta 1), .inl (tc 0, 400, .inl (Tf 1)))] H := hP₀
            replace hD : va_D A [((Va 0), .inr (7, [.ref (Va 1), .int sv_81, .int sv_173])), ((Va 1), .inl (tc 0, 400, .inl sv_83)), ((Ta 0), .inr (10, [.ref (Ta 1), .int (Tv 0), .int sv_84, .int sv_85, .int sv_174, .int sv_175])), ((Ta 1), .inl (tc 0, 400, .inl (Tf 1)))] := hD₀
            replace hS := hS₀
            clear hP₀ hD₀ hS₀
            refine lv_aload_n hx hb dX7_readFact_120 rfl (lv_at hl 3 rfl) ?_
            refine cV (a := (Ta 0)) (As := []) (rest := []) (wr := [((Va 0), .inr (7, [.ref (Va 1), .int sv_81, .int sv_173])), ((Va 1), .inl (tc 0, 400, .inl sv_83))]) ⟨hx, hb, hml, hown, hts⟩ hK hX hA (cu_fX10_step l D tc sk (Ta 0) (Ta 1) (Tv 0) sv_84 sv_85 sv_174 sv_175 (Tf 1) (rTE (cB (Tf 1) (Tv 0)) ro_180) pf_176 h_by tb_181) k_478 k_620 k_476 k_477 k_96 pl_X10_step ⟨Nat.le_of_ble_eq_true rfl, Nat.le_of_ble_eq_true rfl⟩ rfl rfl (va_recv hK hP (ci := 10) (q0 := 2) rfl rfl) hP hD hS [2, 3] [0, 1] rfl rfl rfl rfl rfl (by decide) rfl hl.1 rfl (Nat.le_of_ble_eq_true rfl) dX7_readFact_121 ⟨Nat.le_of_ble_eq_true rfl, Nat.le_of_ble_eq_true rfl⟩ (fun v_182 u_183 H locs hv_184 hP₀ hD₀ hS₀ => ?_)
            obtain ⟨sv_185, sv_186, sv_187⟩ := u_183
            obtain ⟨rfl, pf_188, pf_189⟩ := hv_184
            have pf_188 : 0 ≤ ((Tv 0) : Int32).toInt ∧ ((Tv 0) : Int32).toInt ≤ 400 ∧ 0 ≤ (sv_185 : Int32).toInt ∧ (sv_185 : Int32).toInt ≤ 400 ∧ 0 ≤ (sv_186 : Int32).toInt ∧ (sv_186 : Int32).toInt ≤ 400 := pf_188
            have pf_189 : TpR (Tf 1) (Tv 0) (rSK (cB (Tf 1) (Tv 0)) (rTE (cB (Tf 1) (Tv 0)) ro_180)) sv_185 sv_186 sv_187 sv_175 := pf_189
            rw [rNX_eq] at pf_189
            obtain ⟨ro_190, ero_190⟩ : ∃ z : Except Int (Nat × Nat), z = (rNX (cB (Tf 1) (Tv 0)) ro_180) := ⟨_, rfl⟩
            rw [← ero_190] at pf_189
            have tb_191 : TpB (rTE (cB (Tf 1) (Tv 0)) ro_190) sv_186 sv_175 := TpR.tb pf_189
            have cd_192 : Ctd ro_190 sv_173 := by rw [ero_190]; exact (Ctd.nx pf_179)
            refine W.eq (g2 := F0 m 124 ls []) rfl ?_
            replace hP : va_P D classes [((Va 0), .inr (7, [.ref (Va 1), .int sv_81, .int sv_173])), ((Va 1), .inl (tc 0, 400, .inl sv_83)), ((Ta 0), .inr (10, [.ref (Ta 1), .int (Tv 0), .int sv_185, .int sv_186, .int sv_187, .int sv_175])), ((Ta 1), .inl (tc 0, 400, .inl (Tf 1)))] H := hP₀
            replace hD : va_D A [((Va 0), .inr (7, [.ref (Va 1), .int sv_81, .int sv_173])), ((Va 1), .inl (tc 0, 400, .inl sv_83)), ((Ta 0), .inr (10, [.ref (Ta 1), .int (Tv 0), .int sv_185, .int sv_186, .int sv_187, .int sv_175])), ((Ta 1), .inl (tc 0, 400, .inl (Tf 1)))] := hD₀
            replace hS := hS₀
            clear hP₀ hD₀ hS₀
            refine lv_aload_n hx hb dX7_readFact_124 rfl (lv_at hl 2 rfl) ?_
            refine lv_aload_n hx hb dX7_readFact_125 rfl (lv_at hl 3 rfl) ?_
            refine cV (a := (Va 0)) (As := [.ref (Ta 0)]) (rest := []) (wr := []) ⟨hx, hb, hml, hown, hts⟩ hK hX hA (cu_fX7_readSum l D tc sk (Va 0) (Va 1) sv_81 sv_173 sv_83 (Ta 0) (Ta 1) (Tv 0) sv_185 sv_186 sv_187 sv_175 (Tf 1) ro_190 pf_188 pf_177 h_by pf_189 cd_192) k_624 k_621 k_623 k_7 k_99 pl_X7_readSum ⟨Nat.le_of_ble_eq_true rfl, Nat.le_of_ble_eq_true rfl⟩ rfl rfl (va_recv hK hP (ci := 7) (q0 := 0) rfl rfl) hP hD hS [0, 1, 2, 3] [] rfl rfl rfl rfl rfl (by decide) rfl hl.1 rfl (Nat.le_of_ble_eq_true rfl) dX7_readFact_126 ⟨Nat.le_of_ble_eq_true rfl, Nat.le_of_ble_eq_true rfl⟩ (fun v_193 u_194 H locs hv_195 hP₀ hD₀ hS₀ => ?_)
            obtain ⟨sv_196, sv_197, sv_198, sv_199, sv_200, sv_201, sv_202⟩ := u_194
            obtain ⟨rfl, pf_203, pf_204, pf_205, pf_206⟩ := hv_195
            have pf_203 : 0 ≤ ((Tv 0) : Int32).toInt ∧ ((Tv 0) : Int32).toInt ≤ 400 ∧ 0 ≤ (sv_199 : Int32).toInt ∧ (sv_199 : Int32).toInt ≤ 400 ∧ 0 ≤ (sv_200 : Int32).toInt ∧ (sv_200 : Int32).toInt ≤ 400 := pf_203
            have pf_204 : 0 ≤ (sv_196 : Int32).toInt ∧ (sv_196 : Int32).toInt ≤ 400 := pf_204
            have pf_205 : TpR (Tf 1) (Tv 0) (pz_b ro_190 (pz_sum (cB (Tf 1) (Tv 0)))) sv_199 sv_200 sv_201 sv_202 := pf_205
            obtain ⟨ro_207, ero_207⟩ : ∃ z : Except Int (Nat × Nat), z = (pz_b ro_190 (pz_sum (cB (Tf 1) (Tv 0)))) := ⟨_, rfl⟩
            rw [← ero_207] at pf_205
            have tb_208 : TpB (rTE (cB (Tf 1) (Tv 0)) ro_207) sv_200 sv_202 := TpR.tb pf_205
            have pf_206 : Ctd (pz_b ro_190 (pz_sum (cB (Tf 1) (Tv 0)))) sv_197 := pf_206
            rw [← ero_207] at pf_206
            refine W.eq (g2 := F0 m 129 ls []) rfl ?_
            replace hP : va_P D classes [((Va 0), .inr (7, [.ref (Va 1), .int sv_196, .int sv_197])), ((Va 1), .inl (tc 0, 400, .inl sv_198)), ((Ta 0), .inr (10, [.ref (Ta 1), .int (Tv 0), .int sv_199, .int sv_200, .int sv_201, .int sv_202])), ((Ta 1), .inl (tc 0, 400, .inl (Tf 1)))] H := hP₀
            replace hD : va_D A [((Va 0), .inr (7, [.ref (Va 1), .int sv_196, .int sv_197])), ((Va 1), .inl (tc 0, 400, .inl sv_198)), ((Ta 0), .inr (10, [.ref (Ta 1), .int (Tv 0), .int sv_199, .int sv_200, .int sv_201, .int sv_202])), ((Ta 1), .inl (tc 0, 400, .inl (Tf 1)))] := hD₀
            replace hS := hS₀
            clear hP₀ hD₀ hS₀
            refine lv_aload_n hx hb dX7_readFact_129 rfl (lv_at hl 2 rfl) ?_
            refine lv_iload hx hb dX7_readFact_130 (lv_at hl 0 rfl) ?_
            refine cV (a := (Va 0)) (As := [.int r_97]) (rest := []) (wr := [((Ta 0), .inr (10, [.ref (Ta 1), .int (Tv 0), .int sv_199, .int sv_200, .int sv_201, .int sv_202])), ((Ta 1), .inl (tc 0, 400, .inl (Tf 1)))]) ⟨hx, hb, hml, hown, hts⟩ hK hX hA (cu_fX7_put l D tc sk (Va 0) (Va 1) sv_196 sv_197 sv_198 r_97 pf_204) k_642 k_639 k_641 k_10 k_99 pl_X7_put ⟨Nat.le_of_ble_eq_true rfl, Nat.le_of_ble_eq_true rfl⟩ rfl rfl (va_recv hK hP (ci := 7) (q0 := 0) rfl rfl) hP hD hS [0, 1] [2, 3] rfl rfl rfl rfl rfl (by decide) rfl hl.1 rfl (Nat.le_of_ble_eq_true rfl) dX7_readFact_132 ⟨Nat.le_of_ble_eq_true rfl, Nat.le_of_ble_eq_true rfl⟩ (fun v_209 u_210 H locs hv_211 hP₀ hD₀ hS₀ => ?_)
            obtain ⟨sv_212, sv_213⟩ := u_210
            obtain ⟨rfl, pf_214⟩ := hv_211
            have pf_214 : 0 ≤ (sv_212 : Int32).toInt ∧ (sv_212 : Int32).toInt ≤ 400 := pf_214
            refine W.eq (g2 := F0 m 135 ls []) rfl ?_
            replace hP : va_P D classes [((Ta 0), .inr (10, [.ref (Ta 1), .int (Tv 0), .int sv_199, .int sv_200, .int sv_201, .int sv_202])), ((Ta 1), .inl (tc 0, 400, .inl (Tf 1))), ((Va 0), .inr (7, [.ref (Va 1), .int sv_212, .int sv_197])), ((Va 1), .inl (tc 0, 400, .inl sv_213))] H := hP₀
            replace hD : va_D A [((Ta 0), .inr (10, [.ref (Ta 1), .int (Tv 0), .int sv_199, .int sv_200, .int sv_201, .int sv_202])), ((Ta 1), .inl (tc 0, 400, .inl (Tf 1))), ((Va 0), .inr (7, [.ref (Va 1), .int sv_212, .int sv_197])), ((Va 1), .inl (tc 0, 400, .inl sv_213))] := hD₀
            replace hS := hS₀
            clear hP₀ hD₀ hS₀
            have hf_215 : TpR (Tf 1) (Tv 0) (pz_b rr (pz_fact (cB (Tf 1) (Tv 0)) 5)) sv_199 sv_200 sv_201 sv_202 := by
              have hE_216 : (pz_b rr (pz_fact (cB (Tf 1) (Tv 0)) 5)) = ro_207 := by
                rw [ero_207, ero_190, ero_180, ero_167, ero_92]
                have hw_217 : NWd (cB (Tf 1) (Tv 0)) pz_not rr := by
                  rw [← wS4]
                  exact pf_55
                have hw_218 : NSg (cB (Tf 1) (Tv 0)) 91 rr := by
                  exact pf_74
                have hu_219 : TpR (Tf 1) (Tv 0) (pz_b rr (pz_sum (cB (Tf 1) (Tv 0)))) sv_84 sv_85 sv_86 sv_87 := by
                  rw [← ero_92]
                  exact pf_90
                have hr_220 : ¬ (60 ≤ (sv_86 : Int32).toInt ∧ (sv_86 : Int32).toInt ≤ 62) := by
                  have z_1 := congrArg Int32.toInt c_11
                  have z_2 : ¬ ((Tv 3) : Int32).toInt = (91 : Int32).toInt := fun z => c_57 (Int32.toInt_inj.mp z)
                  have z_3 := congrArg Int32.toInt c_58
                  have z_4 := congrArg Int32.toInt c_73
                  have z_5 := congrArg Int32.toInt c_100
                  have y_m1 : (-1 : Int32).toInt = -1 := by decide
                  have y_0 : (0 : Int32).toInt = 0 := by decide
                  have y_91 : (91 : Int32).toInt = 91 := by decide
                  omega
                exact ((fact_com hw_217 hw_218).trans (congrArg (fun z => pz_b z (pz_sum (cB (Tf 1) (Tv 0)))) (com_no hu_219 hr_220)))
              rw [hE_216]
              exact pf_205
            have hf_221 : Ctd (pz_b rr (pz_fact (cB (Tf 1) (Tv 0)) 5)) sv_197 := by
              have hE_222 : (pz_b rr (pz_fact (cB (Tf 1) (Tv 0)) 5)) = ro_207 := by
                rw [ero_207, ero_190, ero_180, ero_167, ero_92]
                have hw_223 : NWd (cB (Tf 1) (Tv 0)) pz_not rr := by
                  rw [← wS4]
                  exact pf_55
                have hw_224 : NSg (cB (Tf 1) (Tv 0)) 91 rr := by
                  exact pf_74
                have hu_225 : TpR (Tf 1) (Tv 0) (pz_b rr (pz_sum (cB (Tf 1) (Tv 0)))) sv_84 sv_85 sv_86 sv_87 := by
                  rw [← ero_92]
                  exact pf_90
                have hr_226 : ¬ (60 ≤ (sv_86 : Int32).toInt ∧ (sv_86 : Int32).toInt ≤ 62) := by
                  have z_1 := congrArg Int32.toInt c_11
                  have z_2 : ¬ ((Tv 3) : Int32).toInt = (91 : Int32).toInt := fun z => c_57 (Int32.toInt_inj.mp z)
                  have z_3 := congrArg Int32.toInt c_58
                  have z_4 := congrArg Int32.toInt c_73
                  have z_5 := congrArg Int32.toInt c_100
                  have y_m1 : (-1 : Int32).toInt = -1 := by decide
                  have y_0 : (0 : Int32).toInt = 0 := by decide
                  have y_91 : (91 : Int32).toInt = 91 := by decide
                  omega
                exact ((fact_com hw_223 hw_224).trans (congrArg (fun z => pz_b z (pz_sum (cB (Tf 1) (Tv 0)))) (com_no hu_225 hr_226)))
              rw [hE_222]
              exact pf_206
            exact retV hx hb hr hlk hP hD hS (sv_212, sv_197, sv_213, sv_199, sv_200, sv_201, sv_202) ⟨rfl, pf_203, pf_214, hf_215, hf_221⟩ [2, 3, 0, 1] rfl rfl dX7_readFact_135 (Nat.le_of_ble_eq_true rfl) (Nat.le_of_ble_eq_true rfl) rfl
        · skip
          have hz_229 : (r_68 : Int32).toInt = 1 := by
            have z_1 := congrArg Int32.toInt c_11
            have z_2 : ¬ ((Tv 3) : Int32).toInt = (91 : Int32).toInt := fun z => c_57 (Int32.toInt_inj.mp z)
            have z_3 := congrArg Int32.toInt c_58
            have z_4 : ¬ (r_68 : Int32).toInt = (0 : Int32).toInt := fun z => c_73 (Int32.toInt_inj.mp z)
            have y_0 : (0 : Int32).toInt = 0 := by decide
            have y_91 : (91 : Int32).toInt = 91 := by decide
            omega
          obtain ⟨pf_227, pf_228⟩ := hm_71 hz_229
          have pf_227 : Sg (cB (Tf 1) (Tv 0)) (91 : Int) rr := pf_227
          have pf_228 : TpR (Tf 1) (Tv 0) (rNX (cB (Tf 1) (Tv 0)) rr) sv_64 sv_65 sv_66 (Tv 4) := pf_228
          obtain ⟨ro_230, ero_230⟩ : ∃ z : Except Int (Nat × Nat), z = (rNX (cB (Tf 1) (Tv 0)) rr) := ⟨_, rfl⟩
          rw [← ero_230] at pf_228
          have tb_231 : TpB (rTE (cB (Tf 1) (Tv 0)) ro_230) sv_65 (Tv 4) := TpR.tb pf_228
          have cd_232 : Ctd ro_230 (Vv 1) := by rw [ero_230]; exact (Ctd.nx h_ct)
          refine lv_aload_n hx hb dX7_readFact_68 rfl (lv_at hl 1 rfl) ?_
          refine lv_aload_n hx hb dX7_readFact_69 rfl (lv_at hl 2 rfl) ?_
          refine lv_iload_n hx hb dX7_readFact_70 rfl (lv_at hl 3 rfl) ?_
          refine lv_iconst (v := 1) hx hb dX7_readFact_71 (by decide) ?_
          refine lv_iadd hx hb dX7_readFact_72 ?_
          refine lv_lit (v := 6) (by decide) ?_
          refine cV (a := (Va 0)) (As := [.ref (Ta 0), .int 6]) (rest := []) (wr := []) ⟨hx, hb, hml, hown, hts⟩ hK hX hA (cu_fX7_readTest_6 l D tc sk (Va 0) (Va 1) (Vv 0) (Vv 1) (Vf 1) (Ta 0) (Ta 1) (Tv 0) sv_64 sv_65 sv_66 (Tv 4) (Tf 1) ro_230 pf_67 h_u h_by pf_228 cd_232) k_655 k_652 k_654 k_11 k_99 pl_X7_readTest ⟨Nat.le_of_ble_eq_true rfl, Nat.le_of_ble_eq_true rfl⟩ rfl rfl (va_recv hK hP (ci := 7) (q0 := 0) rfl rfl) hP hD hS [0, 1, 2, 3] [] rfl rfl rfl rfl rfl (by decide) rfl hl.1 rfl (Nat.le_of_ble_eq_true rfl) dX7_readFact_73 ⟨Nat.le_of_ble_eq_true rfl, Nat.le_of_ble_eq_true rfl⟩ (fun v_233 u_234 H locs hv_235 hP₀ hD₀ hS₀ => ?_)
          obtain ⟨sv_236, sv_237, sv_238, sv_239, sv_240, sv_241, sv_242⟩ := u_234
          obtain ⟨rfl, pf_243, pf_244, pf_245, pf_246⟩ := hv_235
          have pf_243 : 0 ≤ ((Tv 0) : Int32).toInt ∧ ((Tv 0) : Int32).toInt ≤ 400 ∧ 0 ≤ (sv_239 : Int32).toInt ∧ (sv_239 : Int32).toInt ≤ 400 ∧ 0 ≤ (sv_240 : Int32).toInt ∧ (sv_240 : Int32).toInt ≤ 400 := pf_243
          have pf_244 : 0 ≤ (sv_236 : Int32).toInt ∧ (sv_236 : Int32).toInt ≤ 400 := pf_244
          have pf_245 : TpR (Tf 1) (Tv 0) (pz_b ro_230 (pz_tst (cB (Tf 1) (Tv 0)) (pz_fact (cB (Tf 1) (Tv 0)) 4))) sv_239 sv_240 sv_241 sv_242 := pf_245
          obtain ⟨ro_247, ero_247⟩ : ∃ z : Except Int (Nat × Nat), z = (pz_b ro_230 (pz_tst (cB (Tf 1) (Tv 0)) (pz_fact (cB (Tf 1) (Tv 0)) 4))) := ⟨_, rfl⟩
          rw [← ero_247] at pf_245
          have tb_248 : TpB (rTE (cB (Tf 1) (Tv 0)) ro_247) sv_240 sv_242 := TpR.tb pf_245
          have pf_246 : Ctd (pz_b ro_230 (pz_tst (cB (Tf 1) (Tv 0)) (pz_fact (cB (Tf 1) (Tv 0)) 4))) sv_237 := pf_246
          rw [← ero_247] at pf_246
          refine W.eq (g2 := F0 m 76 ls []) rfl ?_
          replace hP : va_P D classes [((Va 0), .inr (7, [.ref (Va 1), .int sv_236, .int sv_237])), ((Va 1), .inl (tc 0, 400, .inl sv_238)), ((Ta 0), .inr (10, [.ref (Ta 1), .int (Tv 0), .int sv_239, .int sv_240, .int sv_241, .int sv_242])), ((Ta 1), .inl (tc 0, 400, .inl (Tf 1)))] H := hP₀
          replace hD : va_D A [((Va 0), .inr (7, [.ref (Va 1), .int sv_236, .int sv_237])), ((Va 1), .inl (tc 0, 400, .inl sv_238)), ((Ta 0), .inr (10, [.ref (Ta 1), .int (Tv 0), .int sv_239, .int sv_240, .int sv_241, .int sv_242])), ((Ta 1), .inl (tc 0, 400, .inl (Tf 1)))] := hD₀
          replace hS := hS₀
          clear hP₀ hD₀ hS₀
          refine lv_aload_n hx hb dX7_readFact_76 rfl (lv_at hl 2 rfl) ?_
          refine lv_bipush (v := 93) hx hb dX7_readFact_77 (by decide) ?_
          have ha_249 : 0 ≤ (93 : Int32).toInt := by
            have z_1 := congrArg Int32.toInt c_11
            have z_2 : ¬ ((Tv 3) : Int32).toInt = (91 : Int32).toInt := fun z => c_57 (Int32.toInt_inj.mp z)
            have z_3 := congrArg Int32.toInt c_58
            have z_4 : ¬ (r_68 : Int32).toInt = (0 : Int32).toInt := fun z => c_73 (Int32.toInt_inj.mp z)
            have y_0 : (0 : Int32).toInt = 0 := by decide
            have y_91 : (91 : Int32).toInt = 91 := by decide
            have y_93 : (93 : Int32).toInt = 93 := by decide
            omega
          have ha_250 : (93 : Int32).toInt = (93 : Int) := by
            have z_1 := congrArg Int32.toInt c_11
            have z_2 : ¬ ((Tv 3) : Int32).toInt = (91 : Int32).toInt := fun z => c_57 (Int32.toInt_inj.mp z)
            have z_3 := congrArg Int32.toInt c_58
            have z_4 : ¬ (r_68 : Int32).toInt = (0 : Int32).toInt := fun z => c_73 (Int32.toInt_inj.mp z)
            have y_0 : (0 : Int32).toInt = 0 := by decide
            have y_91 : (91 : Int32).toInt = 91 := by decide
            have y_93 : (93 : Int32).toInt = 93 := by decide
            omega
          refine cV (a := (Ta 0)) (As := [.int 93]) (rest := []) (wr := [((Va 0), .inr (7, [.ref (Va 1), .int sv_236, .int sv_237])), ((Va 1), .inl (tc 0, 400, .inl sv_238))]) ⟨hx, hb, hml, hown, hts⟩ hK hX hA (cu_fX10_takes l D tc sk (Ta 0) (Ta 1) (Tv 0) sv_239 sv_240 sv_241 sv_242 (Tf 1) 93 ro_247 93 pf_243 h_by pf_245 ha_249 ha_250) k_492 k_613 k_490 k_491 k_96 pl_X10_takes ⟨Nat.le_of_ble_eq_true rfl, Nat.le_of_ble_eq_true rfl⟩ rfl rfl (va_recv hK hP (ci := 10) (q0 := 2) rfl rfl) hP hD hS [2, 3] [0, 1] rfl rfl rfl rfl rfl (by decide) rfl hl.1 rfl (Nat.le_of_ble_eq_true rfl) dX7_readFact_79 ⟨Nat.le_of_ble_eq_true rfl, Nat.le_of_ble_eq_true rfl⟩ (fun v_251 u_252 H locs hv_253 hP₀ hD₀ hS₀ => ?_)
          obtain ⟨sv_254, sv_255, sv_256⟩ := u_252
          obtain ⟨r_258, rfl, he_259, pf_257, hm_261, hm_262⟩ := hv_253
          have he_259 : (r_258.toInt = 0 ∨ r_258.toInt = 1) := he_259
          have pf_257 : 0 ≤ ((Tv 0) : Int32).toInt ∧ ((Tv 0) : Int32).toInt ≤ 400 ∧ 0 ≤ (sv_254 : Int32).toInt ∧ (sv_254 : Int32).toInt ≤ 400 ∧ 0 ≤ (sv_255 : Int32).toInt ∧ (sv_255 : Int32).toInt ≤ 400 := pf_257
          refine W.eq (g2 := F0 m 82 ls [.int r_258]) rfl ?_
          replace hP : va_P D classes [((Va 0), .inr (7, [.ref (Va 1), .int sv_236, .int sv_237])), ((Va 1), .inl (tc 0, 400, .inl sv_238)), ((Ta 0), .inr (10, [.ref (Ta 1), .int (Tv 0), .int sv_254, .int sv_255, .int sv_256, .int sv_242])), ((Ta 1), .inl (tc 0, 400, .inl (Tf 1)))] H := hP₀
          replace hD : va_D A [((Va 0), .inr (7, [.ref (Va 1), .int sv_236, .int sv_237])), ((Va 1), .inl (tc 0, 400, .inl sv_238)), ((Ta 0), .inr (10, [.ref (Ta 1), .int (Tv 0), .int sv_254, .int sv_255, .int sv_256, .int sv_242])), ((Ta 1), .inl (tc 0, 400, .inl (Tf 1)))] := hD₀
          replace hS := hS₀
          clear hP₀ hD₀ hS₀
          refine lv_if_ne (tgt := 135) hx hb dX7_readFact_82 (by decide) (fun c_263 => ?_) (fun c_263 => ?_)
          · skip
            have hz_266 : (r_258 : Int32).toInt = 1 := by
              have z_1 := congrArg Int32.toInt c_11
              have z_2 : ¬ ((Tv 3) : Int32).toInt = (91 : Int32).toInt := fun z => c_57 (Int32.toInt_inj.mp z)
              have z_3 := congrArg Int32.toInt c_58
              have z_4 : ¬ (r_68 : Int32).toInt = (0 : Int32).toInt := fun z => c_73 (Int32.toInt_inj.mp z)
              have z_5 : ¬ (r_258 : Int32).toInt = (0 : Int32).toInt := fun z => c_263 (Int32.toInt_inj.mp z)
              have y_0 : (0 : Int32).toInt = 0 := by decide
              have y_91 : (91 : Int32).toInt = 91 := by decide
              omega
            obtain ⟨pf_264, pf_265⟩ := hm_261 hz_266
            have pf_264 : Sg (cB (Tf 1) (Tv 0)) (93 : Int) ro_247 := pf_264
            have pf_265 : TpR (Tf 1) (Tv 0) (rNX (cB (Tf 1) (Tv 0)) ro_247) sv_254 sv_255 sv_256 sv_242 := pf_265
            obtain ⟨ro_267, ero_267⟩ : ∃ z : Except Int (Nat × Nat), z = (rNX (cB (Tf 1) (Tv 0)) ro_247) := ⟨_, rfl⟩
            rw [← ero_267] at pf_265
            have tb_268 : TpB (rTE (cB (Tf 1) (Tv 0)) ro_267) sv_255 sv_242 := TpR.tb pf_265
            have cd_269 : Ctd ro_267 sv_237 := by rw [ero_267]; exact (Ctd.nx pf_246)
            have hf_270 : TpR (Tf 1) (Tv 0) (pz_b rr (pz_fact (cB (Tf 1) (Tv 0)) 5)) sv_254 sv_255 sv_256 sv_242 := by
              have hE_271 : (pz_b rr (pz_fact (cB (Tf 1) (Tv 0)) 5)) = ro_267 := by
                rw [ero_267, ero_247, ero_230]
                have hw_272 : NWd (cB (Tf 1) (Tv 0)) pz_not rr := by
                  rw [← wS4]
                  exact pf_55
                have hw_273 : Sg (cB (Tf 1) (Tv 0)) 91 rr := by
                  exact pf_227
                have hw_274 : Sg (cB (Tf 1) (Tv 0)) 93 (pz_b (rNX (cB (Tf 1) (Tv 0)) rr) (pz_tst (cB (Tf 1) (Tv 0)) (pz_fact (cB (Tf 1) (Tv 0)) 4))) := by
                  rw [← ero_230, ← ero_247]
                  exact pf_264
                exact ((fact_br hw_272 hw_273).trans (rb_yes hw_274))
              rw [hE_271]
              exact pf_265
            have hf_275 : Ctd (pz_b rr (pz_fact (cB (Tf 1) (Tv 0)) 5)) sv_237 := by
              have hE_276 : (pz_b rr (pz_fact (cB (Tf 1) (Tv 0)) 5)) = ro_267 := by
                rw [ero_267, ero_247, ero_230]
                have hw_277 : NWd (cB (Tf 1) (Tv 0)) pz_not rr := by
                  rw [← wS4]
                  exact pf_55
                have hw_278 : Sg (cB (Tf 1) (Tv 0)) 91 rr := by
                  exact pf_227
                have hw_279 : Sg (cB (Tf 1) (Tv 0)) 93 (pz_b (rNX (cB (Tf 1) (Tv 0)) rr) (pz_tst (cB (Tf 1) (Tv 0)) (pz_fact (cB (Tf 1) (Tv 0)) 4))) := by
                  rw [← ero_230, ← ero_247]
                  exact pf_264
                exact ((fact_br hw_277 hw_278).trans (rb_yes hw_279))
              rw [hE_276]
              exact cd_269
            exact retV hx hb hr hlk hP hD hS (sv_236, sv_237, sv_238, sv_254, sv_255, sv_256, sv_242) ⟨rfl, pf_257, pf_244, hf_270, hf_275⟩ [0, 1, 2, 3] rfl rfl dX7_readFact_135 (Nat.le_of_ble_eq_true rfl) (Nat.le_of_ble_eq_true rfl) rfl
          · skip
            have hz_282 : (r_258 : Int32).toInt = 0 := by
              have z_1 := congrArg Int32.toInt c_11
              have z_2 : ¬ ((Tv 3) : Int32).toInt = (91 : Int32).toInt := fun z => c_57 (Int32.toInt_inj.mp z)
              have z_3 := congrArg Int32.toInt c_58
              have z_4 : ¬ (r_68 : Int32).toInt = (0 : Int32).toInt := fun z => c_73 (Int32.toInt_inj.mp z)
              have z_5 := congrArg Int32.toInt c_263
              have y_0 : (0 : Int32).toInt = 0 := by decide
              have y_91 : (91 : Int32).toInt = 91 := by decide
              omega
            obtain ⟨pf_280, pf_281⟩ := hm_262 hz_282
            have pf_280 : NSg (cB (Tf 1) (Tv 0)) (93 : Int) ro_247 := pf_280
            have pf_281 : TpR (Tf 1) (Tv 0) ro_247 sv_254 sv_255 sv_256 sv_242 := pf_281
            have tb_283 : TpB (rTE (cB (Tf 1) (Tv 0)) ro_247) sv_255 sv_242 := TpR.tb pf_281
            refine lv_aload_n hx hb dX7_readFact_85 rfl (lv_at hl 2 rfl) ?_
            refine lv_iconst (v := 0) hx hb dX7_readFact_86 (by decide) ?_
            have ha_284 : 0 ≤ (0 : Int32).toInt ∧ (0 : Int32).toInt ≤ 4 := by
              have z_1 := congrArg Int32.toInt c_11
              have z_2 : ¬ ((Tv 3) : Int32).toInt = (91 : Int32).toInt := fun z => c_57 (Int32.toInt_inj.mp z)
              have z_3 := congrArg Int32.toInt c_58
              have z_4 : ¬ (r_68 : Int32).toInt = (0 : Int32).toInt := fun z => c_73 (Int32.toInt_inj.mp z)
              have z_5 := congrArg Int32.toInt c_263
              have y_0 : (0 : Int32).toInt = 0 := by decide
              have y_91 : (91 : Int32).toInt = 91 := by decide
              omega
            have ha_285 : (0 : Int32).toInt = (0 : Int) := by
              have z_1 := congrArg Int32.toInt c_11
              have z_2 : ¬ ((Tv 3) : Int32).toInt = (91 : Int32).toInt := fun z => c_57 (Int32.toInt_inj.mp z)
              have z_3 := congrArg Int32.toInt c_58
              have z_4 : ¬ (r_68 : Int32).toInt = (0 : Int32).toInt := fun z => c_73 (Int32.toInt_inj.mp z)
              have z_5 := congrArg Int32.toInt c_263
              have y_0 : (0 : Int32).toInt = 0 := by decide
              have y_91 : (91 : Int32).toInt = 91 := by decide
              omega
            refine cV (a := (Ta 0)) (As := [.int 0]) (rest := []) (wr := [((Va 0), .inr (7, [.ref (Va 1), .int sv_236, .int sv_237])), ((Va 1), .inl (tc 0, 400, .inl sv_238))]) ⟨hx, hb, hml, hown, hts⟩ hK hX hA (cu_fX10_fail l D tc sk (Ta 0) (Ta 1) (Tv 0) sv_254 sv_255 sv_256 sv_242 (Tf 1) 0 ro_247 0 pf_257 pf_281 ha_284 ha_285) k_557 k_619 k_555 k_556 k_96 pl_X10_fail ⟨Nat.le_of_ble_eq_true rfl, Nat.le_of_ble_eq_true rfl⟩ rfl rfl (va_recv hK hP (ci := 10) (q0 := 2) rfl rfl) hP hD hS [2, 3] [0, 1] rfl rfl rfl rfl rfl (by decide) rfl hl.1 rfl (Nat.le_of_ble_eq_true rfl) dX7_readFact_87 ⟨Nat.le_of_ble_eq_true rfl, Nat.le_of_ble_eq_true rfl⟩ (fun v_286 u_287 H locs hv_288 hP₀ hD₀ hS₀ => ?_)
            obtain ⟨sv_289, sv_290⟩ := u_287
            obtain ⟨rfl, pf_291, pf_292⟩ := hv_288
            have pf_291 : 0 ≤ ((Tv 0) : Int32).toInt ∧ ((Tv 0) : Int32).toInt ≤ 400 ∧ 0 ≤ (sv_254 : Int32).toInt ∧ (sv_254 : Int32).toInt ≤ 400 ∧ 0 ≤ (sv_255 : Int32).toInt ∧ (sv_255 : Int32).toInt ≤ 400 := pf_291
            have pf_292 : TpR (Tf 1) (Tv 0) (rER (0 : Int) ro_247) sv_254 sv_255 sv_289 sv_290 := pf_292
            obtain ⟨ro_293, ero_293⟩ : ∃ z : Except Int (Nat × Nat), z = (rER 0 ro_247) := ⟨_, rfl⟩
            rw [← ero_293] at pf_292
            have tb_294 : TpB (rTE (cB (Tf 1) (Tv 0)) ro_293) sv_255 sv_290 := TpR.tb pf_292
            have cd_295 : Ctd ro_293 sv_237 := by rw [ero_293]; exact (Ctd.er)
            refine W.eq (g2 := F0 m 90 ls []) rfl ?_
            replace hP : va_P D classes [((Va 0), .inr (7, [.ref (Va 1), .int sv_236, .int sv_237])), ((Va 1), .inl (tc 0, 400, .inl sv_238)), ((Ta 0), .inr (10, [.ref (Ta 1), .int (Tv 0), .int sv_254, .int sv_255, .int sv_289, .int sv_290])), ((Ta 1), .inl (tc 0, 400, .inl (Tf 1)))] H := hP₀
            replace hD : va_D A [((Va 0), .inr (7, [.ref (Va 1), .int sv_236, .int sv_237])), ((Va 1), .inl (tc 0, 400, .inl sv_238)), ((Ta 0), .inr (10, [.ref (Ta 1), .int (Tv 0), .int sv_254, .int sv_255, .int sv_289, .int sv_290])), ((Ta 1), .inl (tc 0, 400, .inl (Tf 1)))] := hD₀
            replace hS := hS₀
            clear hP₀ hD₀ hS₀
            refine lv_goto (tgt := 135) hx hb dX7_readFact_90 (by decide) ?_
            have hf_296 : TpR (Tf 1) (Tv 0) (pz_b rr (pz_fact (cB (Tf 1) (Tv 0)) 5)) sv_254 sv_255 sv_289 sv_290 := by
              have hE_297 : (pz_b rr (pz_fact (cB (Tf 1) (Tv 0)) 5)) = ro_293 := by
                rw [ero_293, ero_247, ero_230]
                have hw_298 : NWd (cB (Tf 1) (Tv 0)) pz_not rr := by
                  rw [← wS4]
                  exact pf_55
                have hw_299 : Sg (cB (Tf 1) (Tv 0)) 91 rr := by
                  exact pf_227
                have hw_300 : NSg (cB (Tf 1) (Tv 0)) 93 (pz_b (rNX (cB (Tf 1) (Tv 0)) rr) (pz_tst (cB (Tf 1) (Tv 0)) (pz_fact (cB (Tf 1) (Tv 0)) 4))) := by
                  rw [← ero_230, ← ero_247]
                  exact pf_280
                exact ((fact_br hw_298 hw_299).trans (rb_no hw_300))
              rw [hE_297]
              exact pf_292
            have hf_301 : Ctd (pz_b rr (pz_fact (cB (Tf 1) (Tv 0)) 5)) sv_237 := by
              have hE_302 : (pz_b rr (pz_fact (cB (Tf 1) (Tv 0)) 5)) = ro_293 := by
                rw [ero_293, ero_247, ero_230]
                have hw_303 : NWd (cB (Tf 1) (Tv 0)) pz_not rr := by
                  rw [← wS4]
                  exact pf_55
                have hw_304 : Sg (cB (Tf 1) (Tv 0)) 91 rr := by
                  exact pf_227
                have hw_305 : NSg (cB (Tf 1) (Tv 0)) 93 (pz_b (rNX (cB (Tf 1) (Tv 0)) rr) (pz_tst (cB (Tf 1) (Tv 0)) (pz_fact (cB (Tf 1) (Tv 0)) 4))) := by
                  rw [← ero_230, ← ero_247]
                  exact pf_280
                exact ((fact_br hw_303 hw_304).trans (rb_no hw_305))
              rw [hE_302]
              exact cd_295
            exact retV hx hb hr hlk hP hD hS (sv_236, sv_237, sv_238, sv_254, sv_255, sv_289, sv_290) ⟨rfl, pf_291, pf_244, hf_296, hf_301⟩ [0, 1, 2, 3] rfl rfl dX7_readFact_135 (Nat.le_of_ble_eq_true rfl) (Nat.le_of_ble_eq_true rfl) rfl
      · skip
        exfalso
        have z_1 := congrArg Int32.toInt c_11
        have z_2 : ¬ ((Tv 3) : Int32).toInt = (91 : Int32).toInt := fun z => c_57 (Int32.toInt_inj.mp z)
        have z_3 : ¬ (r_6 : Int32).toInt = (0 : Int32).toInt := fun z => c_58 (Int32.toInt_inj.mp z)
        have y_0 : (0 : Int32).toInt = 0 := by decide
        have y_91 : (91 : Int32).toInt = 91 := by decide
        omega
    · skip
      refine lv_iload_n hx hb dX7_readFact_20 rfl (lv_at hl 3 rfl) ?_
      refine lv_bipush (v := 10) hx hb dX7_readFact_21 (by decide) ?_
      refine lv_icmp_lt (tgt := 34) hx hb dX7_readFact_23 (by decide) (fun c_306 => ?_) (fun c_306 => absurd c_306 (by decide))
      refine lv_iload_n hx hb dX7_readFact_34 rfl (lv_at hl 0 rfl) ?_
      refine lv_if_eq (tgt := 59) hx hb dX7_readFact_35 (by decide) (fun c_307 => ?_) (fun c_307 => ?_)
      · skip
        refine lv_aload_n hx hb dX7_readFact_59 rfl (lv_at hl 2 rfl) ?_
        refine lv_bipush (v := 91) hx hb dX7_readFact_60 (by decide) ?_
        have ha_308 : 0 ≤ (91 : Int32).toInt := by
          have z_1 := congrArg Int32.toInt c_11
          have z_2 := congrArg Int32.toInt c_57
          have z_3 := congrArg Int32.toInt c_307
          have y_0 : (0 : Int32).toInt = 0 := by decide
          have y_91 : (91 : Int32).toInt = 91 := by decide
          omega
        have ha_309 : (91 : Int32).toInt = (91 : Int) := by
          have z_1 := congrArg Int32.toInt c_11
          have z_2 := congrArg Int32.toInt c_57
          have z_3 := congrArg Int32.toInt c_307
          have y_0 : (0 : Int32).toInt = 0 := by decide
          have y_91 : (91 : Int32).toInt = 91 := by decide
          omega
        refine cV (a := (Ta 0)) (As := [.int 91]) (rest := []) (wr := [((Va 0), .inr (7, [.ref (Va 1), .int (Vv 0), .int (Vv 1)])), ((Va 1), .inl (tc 0, 400, .inl (Vf 1)))]) ⟨hx, hb, hml, hown, hts⟩ hK hX hA (cu_fX10_takes l D tc sk (Ta 0) (Ta 1) (Tv 0) (Tv 1) (Tv 2) (Tv 3) (Tv 4) (Tf 1) 91 rr 91 h_tape h_by h_r ha_308 ha_309) k_492 k_613 k_490 k_491 k_96 pl_X10_takes ⟨Nat.le_of_ble_eq_true rfl, Nat.le_of_ble_eq_true rfl⟩ rfl rfl (va_recv hK hP (ci := 10) (q0 := 2) rfl rfl) hP hD hS [2, 3] [0, 1] rfl rfl rfl rfl rfl (by decide) rfl hl.1 rfl (Nat.le_of_ble_eq_true rfl) dX7_readFact_62 ⟨Nat.le_of_ble_eq_true rfl, Nat.le_of_ble_eq_true rfl⟩ (fun v_310 u_311 H locs hv_312 hP₀ hD₀ hS₀ => ?_)
        obtain ⟨sv_313, sv_314, sv_315⟩ := u_311
        obtain ⟨r_317, rfl, he_318, pf_316, hm_320, hm_321⟩ := hv_312
        have he_318 : (r_317.toInt = 0 ∨ r_317.toInt = 1) := he_318
        have pf_316 : 0 ≤ ((Tv 0) : Int32).toInt ∧ ((Tv 0) : Int32).toInt ≤ 400 ∧ 0 ≤ (sv_313 : Int32).toInt ∧ (sv_313 : Int32).toInt ≤ 400 ∧ 0 ≤ (sv_314 : Int32).toInt ∧ (sv_314 : Int32).toInt ≤ 400 := pf_316
        refine W.eq (g2 := F0 m 65 ls [.int r_317]) rfl ?_
        replace hP : va_P D classes [((Va 0), .inr (7, [.ref (Va 1), .int (Vv 0), .int (Vv 1)])), ((Va 1), .inl (tc 0, 400, .inl (Vf 1))), ((Ta 0), .inr (10, [.ref (Ta 1), .int (Tv 0), .int sv_313, .int sv_314, .int sv_315, .int (Tv 4)])), ((Ta 1), .inl (tc 0, 400, .inl (Tf 1)))] H := hP₀
        replace hD : va_D A [((Va 0), .inr (7, [.ref (Va 1), .int (Vv 0), .int (Vv 1)])), ((Va 1), .inl (tc 0, 400, .inl (Vf 1))), ((Ta 0), .inr (10, [.ref (Ta 1), .int (Tv 0), .int sv_313, .int sv_314, .int sv_315, .int (Tv 4)])), ((Ta 1), .inl (tc 0, 400, .inl (Tf 1)))] := hD₀
        replace hS := hS₀
        clear hP₀ hD₀ hS₀
        refine lv_if_eq (tgt := 93) hx hb dX7_readFact_65 (by decide) (fun c_322 => ?_) (fun c_322 => ?_)
        · skip
          have hz_325 : (r_317 : Int32).toInt = 0 := by
            have z_1 := congrArg Int32.toInt c_11
            have z_2 := congrArg Int32.toInt c_57
            have z_3 := congrArg Int32.toInt c_307
            have z_4 := congrArg Int32.toInt c_322
            have y_0 : (0 : Int32).toInt = 0 := by decide
            have y_91 : (91 : Int32).toInt = 91 := by decide
            omega
          obtain ⟨pf_323, pf_324⟩ := hm_321 hz_325
          have pf_323 : NSg (cB (Tf 1) (Tv 0)) (91 : Int) rr := pf_323
          have pf_324 : TpR (Tf 1) (Tv 0) rr sv_313 sv_314 sv_315 (Tv 4) := pf_324
          have tb_326 : TpB (rTE (cB (Tf 1) (Tv 0)) rr) sv_314 (Tv 4) := TpR.tb pf_324
          refine lv_aload_n hx hb dX7_readFact_93 rfl (lv_at hl 1 rfl) ?_
          refine lv_aload_n hx hb dX7_readFact_94 rfl (lv_at hl 2 rfl) ?_
          refine cV (a := (Va 0)) (As := [.ref (Ta 0)]) (rest := []) (wr := []) ⟨hx, hb, hml, hown, hts⟩ hK hX hA (cu_fX7_readSum l D tc sk (Va 0) (Va 1) (Vv 0) (Vv 1) (Vf 1) (Ta 0) (Ta 1) (Tv 0) sv_313 sv_314 sv_315 (Tv 4) (Tf 1) rr pf_316 h_u h_by pf_324 h_ct) k_624 k_621 k_623 k_7 k_99 pl_X7_readSum ⟨Nat.le_of_ble_eq_true rfl, Nat.le_of_ble_eq_true rfl⟩ rfl rfl (va_recv hK hP (ci := 7) (q0 := 0) rfl rfl) hP hD hS [0, 1, 2, 3] [] rfl rfl rfl rfl rfl (by decide) rfl hl.1 rfl (Nat.le_of_ble_eq_true rfl) dX7_readFact_95 ⟨Nat.le_of_ble_eq_true rfl, Nat.le_of_ble_eq_true rfl⟩ (fun v_327 u_328 H locs hv_329 hP₀ hD₀ hS₀ => ?_)
          obtain ⟨sv_330, sv_331, sv_332, sv_333, sv_334, sv_335, sv_336⟩ := u_328
          obtain ⟨rfl, pf_337, pf_338, pf_339, pf_340⟩ := hv_329
          have pf_337 : 0 ≤ ((Tv 0) : Int32).toInt ∧ ((Tv 0) : Int32).toInt ≤ 400 ∧ 0 ≤ (sv_333 : Int32).toInt ∧ (sv_333 : Int32).toInt ≤ 400 ∧ 0 ≤ (sv_334 : Int32).toInt ∧ (sv_334 : Int32).toInt ≤ 400 := pf_337
          have pf_338 : 0 ≤ (sv_330 : Int32).toInt ∧ (sv_330 : Int32).toInt ≤ 400 := pf_338
          have pf_339 : TpR (Tf 1) (Tv 0) (pz_b rr (pz_sum (cB (Tf 1) (Tv 0)))) sv_333 sv_334 sv_335 sv_336 := pf_339
          obtain ⟨ro_341, ero_341⟩ : ∃ z : Except Int (Nat × Nat), z = (pz_b rr (pz_sum (cB (Tf 1) (Tv 0)))) := ⟨_, rfl⟩
          rw [← ero_341] at pf_339
          have tb_342 : TpB (rTE (cB (Tf 1) (Tv 0)) ro_341) sv_334 sv_336 := TpR.tb pf_339
          have pf_340 : Ctd (pz_b rr (pz_sum (cB (Tf 1) (Tv 0)))) sv_331 := pf_340
          rw [← ero_341] at pf_340
          refine W.eq (g2 := F0 m 98 ls []) rfl ?_
          replace hP : va_P D classes [((Va 0), .inr (7, [.ref (Va 1), .int sv_330, .int sv_331])), ((Va 1), .inl (tc 0, 400, .inl sv_332)), ((Ta 0), .inr (10, [.ref (Ta 1), .int (Tv 0), .int sv_333, .int sv_334, .int sv_335, .int sv_336])), ((Ta 1), .inl (tc 0, 400, .inl (Tf 1)))] H := hP₀
          replace hD : va_D A [((Va 0), .inr (7, [.ref (Va 1), .int sv_330, .int sv_331])), ((Va 1), .inl (tc 0, 400, .inl sv_332)), ((Ta 0), .inr (10, [.ref (Ta 1), .int (Tv 0), .int sv_333, .int sv_334, .int sv_335, .int sv_336])), ((Ta 1), .inl (tc 0, 400, .inl (Tf 1)))] := hD₀
          replace hS := hS₀
          clear hP₀ hD₀ hS₀
          refine lv_aload_n hx hb dX7_readFact_98 rfl (lv_at hl 2 rfl) ?_
          refine cS (As := [.ref (Ta 0)]) (rest := []) (wr := [((Va 0), .inr (7, [.ref (Va 1), .int sv_330, .int sv_331])), ((Va 1), .inl (tc 0, 400, .inl sv_332))]) ⟨hx, hb, hml, hown, hts⟩ hK hX hA (cu_fX7_comparison l D tc sk (Ta 0) (Ta 1) (Tv 0) sv_333 sv_334 sv_335 sv_336 (Tf 1) pf_337) k_663 k_661 k_662 k_99 pl_X7_comparison ⟨Nat.le_of_ble_eq_true rfl, Nat.le_of_ble_eq_true rfl⟩ rfl rfl  hP hD hS [2, 3] [0, 1] rfl rfl rfl rfl rfl (by decide) rfl hl.1 rfl (Nat.le_of_ble_eq_true rfl) dX7_readFact_99 ⟨Nat.le_of_ble_eq_true rfl, Nat.le_of_ble_eq_true rfl⟩ (fun v_343 u_344 H locs hv_345 hP₀ hD₀ hS₀ => ?_)
          obtain ⟨r_346, rfl, he_347⟩ := hv_345
          have he_347 : ((r_346.toInt = -1 ∧ ¬ (60 ≤ sv_335.toInt ∧ sv_335.toInt ≤ 62)) ∨ (r_346.toInt ≤ -7 ∧ 60 ≤ sv_335.toInt ∧ sv_335.toInt ≤ 62)) := he_347
          refine W.eq (g2 := F0 m 102 ls [.int r_346]) rfl ?_
          replace hP : va_P D classes [((Va 0), .inr (7, [.ref (Va 1), .int sv_330, .int sv_331])), ((Va 1), .inl (tc 0, 400, .inl sv_332)), ((Ta 0), .inr (10, [.ref (Ta 1), .int (Tv 0), .int sv_333, .int sv_334, .int sv_335, .int sv_336])), ((Ta 1), .inl (tc 0, 400, .inl (Tf 1)))] H := hP₀
          replace hD : va_D A [((Va 0), .inr (7, [.ref (Va 1), .int sv_330, .int sv_331])), ((Va 1), .inl (tc 0, 400, .inl sv_332)), ((Ta 0), .inr (10, [.ref (Ta 1), .int (Tv 0), .int sv_333, .int sv_334, .int sv_335, .int sv_336])), ((Ta 1), .inl (tc 0, 400, .inl (Tf 1)))] := hD₀
          replace hS := hS₀
          clear hP₀ hD₀ hS₀
          refine lv_istore (lv' := [(4, .int r_346), (3, .int r_6), (0, .ref (Va 0)), (1, .ref (Ta 0)), (2, .int 5)]) hx hb dX7_readFact_102 hl (by decide) rfl (fun ls hl₀ => ?_)
          replace hl := hl₀
          clear hl₀
          refine lv_iload hx hb dX7_readFact_104 (lv_at hl 0 rfl) ?_
          refine lv_iconst (v := (-1)) hx hb dX7_readFact_106 (by decide) ?_
          refine lv_icmp_ne (tgt := 115) hx hb dX7_readFact_107 (by decide) (fun c_349 => ?_) (fun c_349 => ?_)
          · skip
            refine lv_aload_n hx hb dX7_readFact_115 rfl (lv_at hl 2 rfl) ?_
            refine lv_aload_n hx hb dX7_readFact_116 rfl (lv_at hl 3 rfl) ?_
            refine cV (a := (Va 0)) (As := [.ref (Ta 0)]) (rest := []) (wr := []) ⟨hx, hb, hml, hown, hts⟩ hK hX hA (cu_fX7_countOne l D tc sk (Va 0) (Va 1) sv_330 sv_331 sv_332 (Ta 0) (Ta 1) (Tv 0) sv_333 sv_334 sv_335 sv_336 (Tf 1) ro_341 pf_337 pf_338 h_by pf_339 pf_340) k_638 k_635 k_637 k_9 k_99 pl_X7_countOne ⟨Nat.le_of_ble_eq_true rfl, Nat.le_of_ble_eq_true rfl⟩ rfl rfl (va_recv hK hP (ci := 7) (q0 := 0) rfl rfl) hP hD hS [0, 1, 2, 3] [] rfl rfl rfl rfl rfl (by decide) rfl hl.1 rfl (Nat.le_of_ble_eq_true rfl) dX7_readFact_117 ⟨Nat.le_of_ble_eq_true rfl, Nat.le_of_ble_eq_true rfl⟩ (fun v_350 u_351 H locs hv_352 hP₀ hD₀ hS₀ => ?_)
            obtain ⟨sv_353, sv_354, sv_355⟩ := u_351
            obtain ⟨rfl, pf_356, pf_357, pf_358, pf_359⟩ := hv_352
            have pf_356 : 0 ≤ ((Tv 0) : Int32).toInt ∧ ((Tv 0) : Int32).toInt ≤ 400 ∧ 0 ≤ (sv_333 : Int32).toInt ∧ (sv_333 : Int32).toInt ≤ 400 ∧ 0 ≤ (sv_334 : Int32).toInt ∧ (sv_334 : Int32).toInt ≤ 400 := pf_356
            have pf_357 : 0 ≤ (sv_330 : Int32).toInt ∧ (sv_330 : Int32).toInt ≤ 400 := pf_357
            have pf_358 : TpR (Tf 1) (Tv 0) (rC1 ro_341) sv_333 sv_334 sv_354 sv_355 := pf_358
            obtain ⟨ro_360, ero_360⟩ : ∃ z : Except Int (Nat × Nat), z = (rC1 ro_341) := ⟨_, rfl⟩
            rw [← ero_360] at pf_358
            have tb_361 : TpB (rTE (cB (Tf 1) (Tv 0)) ro_360) sv_334 sv_355 := TpR.tb pf_358
            have pf_359 : Ctd (rC1 ro_341) sv_353 := pf_359
            rw [← ero_360] at pf_359
            refine W.eq (g2 := F0 m 120 ls []) rfl ?_
            replace hP : va_P D classes [((Va 0), .inr (7, [.ref (Va 1), .int sv_330, .int sv_353])), ((Va 1), .inl (tc 0, 400, .inl sv_332)), ((Ta 0), .inr (10, [.ref (Ta 1), .int (Tv 0), .int sv_333, .int sv_334, .int sv_354, .int sv_355])), ((Ta 1), .inl (tc 0, 400, .inl (Tf 1)))] H := hP₀
            replace hD : va_D A [((Va 0), .inr (7, [.ref (Va 1), .int sv_330, .int sv_353])), ((Va 1), .inl (tc 0, 400, .inl sv_332)), ((Ta 0), .inr (10, [.ref (Ta 1), .int (Tv 0), .int sv_333, .int sv_334, .int sv_354, .int sv_355])), ((Ta 1), .inl (tc 0, 400, .inl (Tf 1)))] := hD₀
            replace hS := hS₀
            clear hP₀ hD₀ hS₀
            refine lv_aload_n hx hb dX7_readFact_120 rfl (lv_at hl 3 rfl) ?_
            refine cV (a := (Ta 0)) (As := []) (rest := []) (wr := [((Va 0), .inr (7, [.ref (Va 1), .int sv_330, .int sv_353])), ((Va 1), .inl (tc 0, 400, .inl sv_332))]) ⟨hx, hb, hml, hown, hts⟩ hK hX hA (cu_fX10_step l D tc sk (Ta 0) (Ta 1) (Tv 0) sv_333 sv_334 sv_354 sv_355 (Tf 1) (rTE (cB (Tf 1) (Tv 0)) ro_360) pf_356 h_by tb_361) k_478 k_620 k_476 k_477 k_96 pl_X10_step ⟨Nat.le_of_ble_eq_true rfl, Nat.le_of_ble_eq_true rfl⟩ rfl rfl (va_recv hK hP (ci := 10) (q0 := 2) rfl rfl) hP hD hS [2, 3] [0, 1] rfl rfl rfl rfl rfl (by decide) rfl hl.1 rfl (Nat.le_of_ble_eq_true rfl) dX7_readFact_121 ⟨Nat.le_of_ble_eq_true rfl, Nat.le_of_ble_eq_true rfl⟩ (fun v_362 u_363 H locs hv_364 hP₀ hD₀ hS₀ => ?_)
            obtain ⟨sv_365, sv_366, sv_367⟩ := u_363
            obtain ⟨rfl, pf_368, pf_369⟩ := hv_364
            have pf_368 : 0 ≤ ((Tv 0) : Int32).toInt ∧ ((Tv 0) : Int32).toInt ≤ 400 ∧ 0 ≤ (sv_365 : Int32).toInt ∧ (sv_365 : Int32).toInt ≤ 400 ∧ 0 ≤ (sv_366 : Int32).toInt ∧ (sv_366 : Int32).toInt ≤ 400 := pf_368
            have pf_369 : TpR (Tf 1) (Tv 0) (rSK (cB (Tf 1) (Tv 0)) (rTE (cB (Tf 1) (Tv 0)) ro_360)) sv_365 sv_366 sv_367 sv_355 := pf_369
            rw [rNX_eq] at pf_369
            obtain ⟨ro_370, ero_370⟩ : ∃ z : Except Int (Nat × Nat), z = (rNX (cB (Tf 1) (Tv 0)) ro_360) := ⟨_, rfl⟩
            rw [← ero_370] at pf_369
            have tb_371 : TpB (rTE (cB (Tf 1) (Tv 0)) ro_370) sv_366 sv_355 := TpR.tb pf_369
            have cd_372 : Ctd ro_370 sv_353 := by rw [ero_370]; exact (Ctd.nx pf_359)
            refine W.eq (g2 := F0 m 124 ls []) rfl ?_
            replace hP : va_P D classes [((Va 0), .inr (7, [.ref (Va 1), .int sv_330, .int sv_353])), ((Va 1), .inl (tc 0, 400, .inl sv_332)), ((Ta 0), .inr (10, [.ref (Ta 1), .int (Tv 0), .int sv_365, .int sv_366, .int sv_367, .int sv_355])), ((Ta 1), .inl (tc 0, 400, .inl (Tf 1)))] H := hP₀
            replace hD : va_D A [((Va 0), .inr (7, [.ref (Va 1), .int sv_330, .int sv_353])), ((Va 1), .inl (tc 0, 400, .inl sv_332)), ((Ta 0), .inr (10, [.ref (Ta 1), .int (Tv 0), .int sv_365, .int sv_366, .int sv_367, .int sv_355])), ((Ta 1), .inl (tc 0, 400, .inl (Tf 1)))] := hD₀
            replace hS := hS₀
            clear hP₀ hD₀ hS₀
            refine lv_aload_n hx hb dX7_readFact_124 rfl (lv_at hl 2 rfl) ?_
            refine lv_aload_n hx hb dX7_readFact_125 rfl (lv_at hl 3 rfl) ?_
            refine cV (a := (Va 0)) (As := [.ref (Ta 0)]) (rest := []) (wr := []) ⟨hx, hb, hml, hown, hts⟩ hK hX hA (cu_fX7_readSum l D tc sk (Va 0) (Va 1) sv_330 sv_353 sv_332 (Ta 0) (Ta 1) (Tv 0) sv_365 sv_366 sv_367 sv_355 (Tf 1) ro_370 pf_368 pf_357 h_by pf_369 cd_372) k_624 k_621 k_623 k_7 k_99 pl_X7_readSum ⟨Nat.le_of_ble_eq_true rfl, Nat.le_of_ble_eq_true rfl⟩ rfl rfl (va_recv hK hP (ci := 7) (q0 := 0) rfl rfl) hP hD hS [0, 1, 2, 3] [] rfl rfl rfl rfl rfl (by decide) rfl hl.1 rfl (Nat.le_of_ble_eq_true rfl) dX7_readFact_126 ⟨Nat.le_of_ble_eq_true rfl, Nat.le_of_ble_eq_true rfl⟩ (fun v_373 u_374 H locs hv_375 hP₀ hD₀ hS₀ => ?_)
            obtain ⟨sv_376, sv_377, sv_378, sv_379, sv_380, sv_381, sv_382⟩ := u_374
            obtain ⟨rfl, pf_383, pf_384, pf_385, pf_386⟩ := hv_375
            have pf_383 : 0 ≤ ((Tv 0) : Int32).toInt ∧ ((Tv 0) : Int32).toInt ≤ 400 ∧ 0 ≤ (sv_379 : Int32).toInt ∧ (sv_379 : Int32).toInt ≤ 400 ∧ 0 ≤ (sv_380 : Int32).toInt ∧ (sv_380 : Int32).toInt ≤ 400 := pf_383
            have pf_384 : 0 ≤ (sv_376 : Int32).toInt ∧ (sv_376 : Int32).toInt ≤ 400 := pf_384
            have pf_385 : TpR (Tf 1) (Tv 0) (pz_b ro_370 (pz_sum (cB (Tf 1) (Tv 0)))) sv_379 sv_380 sv_381 sv_382 := pf_385
            obtain ⟨ro_387, ero_387⟩ : ∃ z : Except Int (Nat × Nat), z = (pz_b ro_370 (pz_sum (cB (Tf 1) (Tv 0)))) := ⟨_, rfl⟩
            rw [← ero_387] at pf_385
            have tb_388 : TpB (rTE (cB (Tf 1) (Tv 0)) ro_387) sv_380 sv_382 := TpR.tb pf_385
            have pf_386 : Ctd (pz_b ro_370 (pz_sum (cB (Tf 1) (Tv 0)))) sv_377 := pf_386
            rw [← ero_387] at pf_386
            refine W.eq (g2 := F0 m 129 ls []) rfl ?_
            replace hP : va_P D classes [((Va 0), .inr (7, [.ref (Va 1), .int sv_376, .int sv_377])), ((Va 1), .inl (tc 0, 400, .inl sv_378)), ((Ta 0), .inr (10, [.ref (Ta 1), .int (Tv 0), .int sv_379, .int sv_380, .int sv_381, .int sv_382])), ((Ta 1), .inl (tc 0, 400, .inl (Tf 1)))] H := hP₀
            replace hD : va_D A [((Va 0), .inr (7, [.ref (Va 1), .int sv_376, .int sv_377])), ((Va 1), .inl (tc 0, 400, .inl sv_378)), ((Ta 0), .inr (10, [.ref (Ta 1), .int (Tv 0), .int sv_379, .int sv_380, .int sv_381, .int sv_382])), ((Ta 1), .inl (tc 0, 400, .inl (Tf 1)))] := hD₀
            replace hS := hS₀
            clear hP₀ hD₀ hS₀
            refine lv_aload_n hx hb dX7_readFact_129 rfl (lv_at hl 2 rfl) ?_
            refine lv_iload hx hb dX7_readFact_130 (lv_at hl 0 rfl) ?_
            refine cV (a := (Va 0)) (As := [.int r_346]) (rest := []) (wr := [((Ta 0), .inr (10, [.ref (Ta 1), .int (Tv 0), .int sv_379, .int sv_380, .int sv_381, .int sv_382])), ((Ta 1), .inl (tc 0, 400, .inl (Tf 1)))]) ⟨hx, hb, hml, hown, hts⟩ hK hX hA (cu_fX7_put l D tc sk (Va 0) (Va 1) sv_376 sv_377 sv_378 r_346 pf_384) k_642 k_639 k_641 k_10 k_99 pl_X7_put ⟨Nat.le_of_ble_eq_true rfl, Nat.le_of_ble_eq_true rfl⟩ rfl rfl (va_recv hK hP (ci := 7) (q0 := 0) rfl rfl) hP hD hS [0, 1] [2, 3] rfl rfl rfl rfl rfl (by decide) rfl hl.1 rfl (Nat.le_of_ble_eq_true rfl) dX7_readFact_132 ⟨Nat.le_of_ble_eq_true rfl, Nat.le_of_ble_eq_true rfl⟩ (fun v_389 u_390 H locs hv_391 hP₀ hD₀ hS₀ => ?_)
            obtain ⟨sv_392, sv_393⟩ := u_390
            obtain ⟨rfl, pf_394⟩ := hv_391
            have pf_394 : 0 ≤ (sv_392 : Int32).toInt ∧ (sv_392 : Int32).toInt ≤ 400 := pf_394
            refine W.eq (g2 := F0 m 135 ls []) rfl ?_
            replace hP : va_P D classes [((Ta 0), .inr (10, [.ref (Ta 1), .int (Tv 0), .int sv_379, .int sv_380, .int sv_381, .int sv_382])), ((Ta 1), .inl (tc 0, 400, .inl (Tf 1))), ((Va 0), .inr (7, [.ref (Va 1), .int sv_392, .int sv_377])), ((Va 1), .inl (tc 0, 400, .inl sv_393))] H := hP₀
            replace hD : va_D A [((Ta 0), .inr (10, [.ref (Ta 1), .int (Tv 0), .int sv_379, .int sv_380, .int sv_381, .int sv_382])), ((Ta 1), .inl (tc 0, 400, .inl (Tf 1))), ((Va 0), .inr (7, [.ref (Va 1), .int sv_392, .int sv_377])), ((Va 1), .inl (tc 0, 400, .inl sv_393))] := hD₀
            replace hS := hS₀
            clear hP₀ hD₀ hS₀
            have hf_395 : TpR (Tf 1) (Tv 0) (pz_b rr (pz_fact (cB (Tf 1) (Tv 0)) 5)) sv_379 sv_380 sv_381 sv_382 := by
              have hE_396 : (pz_b rr (pz_fact (cB (Tf 1) (Tv 0)) 5)) = ro_387 := by
                rw [ero_387, ero_370, ero_360, ero_341]
                have hw_397 : NWd (cB (Tf 1) (Tv 0)) pz_not rr := by
                  rw [← wS4]
                  exact pf_55
                have hw_398 : NSg (cB (Tf 1) (Tv 0)) 91 rr := by
                  exact pf_323
                have hu_399 : TpR (Tf 1) (Tv 0) (pz_b rr (pz_sum (cB (Tf 1) (Tv 0)))) sv_333 sv_334 sv_335 sv_336 := by
                  rw [← ero_341]
                  exact pf_339
                have hr_400 : 60 ≤ (sv_335 : Int32).toInt ∧ (sv_335 : Int32).toInt ≤ 62 := by
                  have z_1 := congrArg Int32.toInt c_11
                  have z_2 := congrArg Int32.toInt c_57
                  have z_3 := congrArg Int32.toInt c_307
                  have z_4 := congrArg Int32.toInt c_322
                  have z_5 : ¬ (r_346 : Int32).toInt = ((-1) : Int32).toInt := fun z => c_349 (Int32.toInt_inj.mp z)
                  have y_m1 : (-1 : Int32).toInt = -1 := by decide
                  have y_0 : (0 : Int32).toInt = 0 := by decide
                  have y_91 : (91 : Int32).toInt = 91 := by decide
                  omega
                exact ((fact_com hw_397 hw_398).trans (congrArg (fun z => pz_b z (pz_sum (cB (Tf 1) (Tv 0)))) (com_yes hu_399 hr_400)))
              rw [hE_396]
              exact pf_385
            have hf_401 : Ctd (pz_b rr (pz_fact (cB (Tf 1) (Tv 0)) 5)) sv_377 := by
              have hE_402 : (pz_b rr (pz_fact (cB (Tf 1) (Tv 0)) 5)) = ro_387 := by
                rw [ero_387, ero_370, ero_360, ero_341]
                have hw_403 : NWd (cB (Tf 1) (Tv 0)) pz_not rr := by
                  rw [← wS4]
                  exact pf_55
                have hw_404 : NSg (cB (Tf 1) (Tv 0)) 91 rr := by
                  exact pf_323
                have hu_405 : TpR (Tf 1) (Tv 0) (pz_b rr (pz_sum (cB (Tf 1) (Tv 0)))) sv_333 sv_334 sv_335 sv_336 := by
                  rw [← ero_341]
                  exact pf_339
                have hr_406 : 60 ≤ (sv_335 : Int32).toInt ∧ (sv_335 : Int32).toInt ≤ 62 := by
                  have z_1 := congrArg Int32.toInt c_11
                  have z_2 := congrArg Int32.toInt c_57
                  have z_3 := congrArg Int32.toInt c_307
                  have z_4 := congrArg Int32.toInt c_322
                  have z_5 : ¬ (r_346 : Int32).toInt = ((-1) : Int32).toInt := fun z => c_349 (Int32.toInt_inj.mp z)
                  have y_m1 : (-1 : Int32).toInt = -1 := by decide
                  have y_0 : (0 : Int32).toInt = 0 := by decide
                  have y_91 : (91 : Int32).toInt = 91 := by decide
                  omega
                exact ((fact_com hw_403 hw_404).trans (congrArg (fun z => pz_b z (pz_sum (cB (Tf 1) (Tv 0)))) (com_yes hu_405 hr_406)))
              rw [hE_402]
              exact pf_386
            exact retV hx hb hr hlk hP hD hS (sv_392, sv_377, sv_393, sv_379, sv_380, sv_381, sv_382) ⟨rfl, pf_383, pf_394, hf_395, hf_401⟩ [2, 3, 0, 1] rfl rfl dX7_readFact_135 (Nat.le_of_ble_eq_true rfl) (Nat.le_of_ble_eq_true rfl) rfl
          · skip
            refine lv_aload_n hx hb dX7_readFact_110 rfl (lv_at hl 3 rfl) ?_
            refine lv_iconst (v := 0) hx hb dX7_readFact_111 (by decide) ?_
            have ha_407 : 0 ≤ (0 : Int32).toInt ∧ (0 : Int32).toInt ≤ 4 := by
              have z_1 := congrArg Int32.toInt c_11
              have z_2 := congrArg Int32.toInt c_57
              have z_3 := congrArg Int32.toInt c_307
              have z_4 := congrArg Int32.toInt c_322
              have z_5 := congrArg Int32.toInt c_349
              have y_m1 : (-1 : Int32).toInt = -1 := by decide
              have y_0 : (0 : Int32).toInt = 0 := by decide
              have y_91 : (91 : Int32).toInt = 91 := by decide
              omega
            have ha_408 : (0 : Int32).toInt = (0 : Int) := by
              have z_1 := congrArg Int32.toInt c_11
              have z_2 := congrArg Int32.toInt c_57
              have z_3 := congrArg Int32.toInt c_307
              have z_4 := congrArg Int32.toInt c_322
              have z_5 := congrArg Int32.toInt c_349
              have y_m1 : (-1 : Int32).toInt = -1 := by decide
              have y_0 : (0 : Int32).toInt = 0 := by decide
              have y_91 : (91 : Int32).toInt = 91 := by decide
              omega
            refine cV (a := (Ta 0)) (As := [.int 0]) (rest := []) (wr := [((Va 0), .inr (7, [.ref (Va 1), .int sv_330, .int sv_331])), ((Va 1), .inl (tc 0, 400, .inl sv_332))]) ⟨hx, hb, hml, hown, hts⟩ hK hX hA (cu_fX10_fail l D tc sk (Ta 0) (Ta 1) (Tv 0) sv_333 sv_334 sv_335 sv_336 (Tf 1) 0 ro_341 0 pf_337 pf_339 ha_407 ha_408) k_557 k_619 k_555 k_556 k_96 pl_X10_fail ⟨Nat.le_of_ble_eq_true rfl, Nat.le_of_ble_eq_true rfl⟩ rfl rfl (va_recv hK hP (ci := 10) (q0 := 2) rfl rfl) hP hD hS [2, 3] [0, 1] rfl rfl rfl rfl rfl (by decide) rfl hl.1 rfl (Nat.le_of_ble_eq_true rfl) dX7_readFact_112 ⟨Nat.le_of_ble_eq_true rfl, Nat.le_of_ble_eq_true rfl⟩ (fun v_409 u_410 H locs hv_411 hP₀ hD₀ hS₀ => ?_)
            obtain ⟨sv_412, sv_413⟩ := u_410
            obtain ⟨rfl, pf_414, pf_415⟩ := hv_411
            have pf_414 : 0 ≤ ((Tv 0) : Int32).toInt ∧ ((Tv 0) : Int32).toInt ≤ 400 ∧ 0 ≤ (sv_333 : Int32).toInt ∧ (sv_333 : Int32).toInt ≤ 400 ∧ 0 ≤ (sv_334 : Int32).toInt ∧ (sv_334 : Int32).toInt ≤ 400 := pf_414
            have pf_415 : TpR (Tf 1) (Tv 0) (rER (0 : Int) ro_341) sv_333 sv_334 sv_412 sv_413 := pf_415
            obtain ⟨ro_416, ero_416⟩ : ∃ z : Except Int (Nat × Nat), z = (rER 0 ro_341) := ⟨_, rfl⟩
            rw [← ero_416] at pf_415
            have tb_417 : TpB (rTE (cB (Tf 1) (Tv 0)) ro_416) sv_334 sv_413 := TpR.tb pf_415
            have cd_418 : Ctd ro_416 sv_331 := by rw [ero_416]; exact (Ctd.er)
            refine W.eq (g2 := F0 m 115 ls []) rfl ?_
            replace hP : va_P D classes [((Va 0), .inr (7, [.ref (Va 1), .int sv_330, .int sv_331])), ((Va 1), .inl (tc 0, 400, .inl sv_332)), ((Ta 0), .inr (10, [.ref (Ta 1), .int (Tv 0), .int sv_333, .int sv_334, .int sv_412, .int sv_413])), ((Ta 1), .inl (tc 0, 400, .inl (Tf 1)))] H := hP₀
            replace hD : va_D A [((Va 0), .inr (7, [.ref (Va 1), .int sv_330, .int sv_331])), ((Va 1), .inl (tc 0, 400, .inl sv_332)), ((Ta 0), .inr (10, [.ref (Ta 1), .int (Tv 0), .int sv_333, .int sv_334, .int sv_412, .int sv_413])), ((Ta 1), .inl (tc 0, 400, .inl (Tf 1)))] := hD₀
            replace hS := hS₀
            clear hP₀ hD₀ hS₀
            refine lv_aload_n hx hb dX7_readFact_115 rfl (lv_at hl 2 rfl) ?_
            refine lv_aload_n hx hb dX7_readFact_116 rfl (lv_at hl 3 rfl) ?_
            refine cV (a := (Va 0)) (As := [.ref (Ta 0)]) (rest := []) (wr := []) ⟨hx, hb, hml, hown, hts⟩ hK hX hA (cu_fX7_countOne l D tc sk (Va 0) (Va 1) sv_330 sv_331 sv_332 (Ta 0) (Ta 1) (Tv 0) sv_333 sv_334 sv_412 sv_413 (Tf 1) ro_416 pf_414 pf_338 h_by pf_415 cd_418) k_638 k_635 k_637 k_9 k_99 pl_X7_countOne ⟨Nat.le_of_ble_eq_true rfl, Nat.le_of_ble_eq_true rfl⟩ rfl rfl (va_recv hK hP (ci := 7) (q0 := 0) rfl rfl) hP hD hS [0, 1, 2, 3] [] rfl rfl rfl rfl rfl (by decide) rfl hl.1 rfl (Nat.le_of_ble_eq_true rfl) dX7_readFact_117 ⟨Nat.le_of_ble_eq_true rfl, Nat.le_of_ble_eq_true rfl⟩ (fun v_419 u_420 H locs hv_421 hP₀ hD₀ hS₀ => ?_)
            obtain ⟨sv_422, sv_423, sv_424⟩ := u_420
            obtain ⟨rfl, pf_425, pf_426, pf_427, pf_428⟩ := hv_421
            have pf_425 : 0 ≤ ((Tv 0) : Int32).toInt ∧ ((Tv 0) : Int32).toInt ≤ 400 ∧ 0 ≤ (sv_333 : Int32).toInt ∧ (sv_333 : Int32).toInt ≤ 400 ∧ 0 ≤ (sv_334 : Int32).toInt ∧ (sv_334 : Int32).toInt ≤ 400 := pf_425
            have pf_426 : 0 ≤ (sv_330 : Int32).toInt ∧ (sv_330 : Int32).toInt ≤ 400 := pf_426
            have pf_427 : TpR (Tf 1) (Tv 0) (rC1 ro_416) sv_333 sv_334 sv_423 sv_424 := pf_427
            obtain ⟨ro_429, ero_429⟩ : ∃ z : Except Int (Nat × Nat), z = (rC1 ro_416) := ⟨_, rfl⟩
            rw [← ero_429] at pf_427
            have tb_430 : TpB (rTE (cB (Tf 1) (Tv 0)) ro_429) sv_334 sv_424 := TpR.tb pf_427
            have pf_428 : Ctd (rC1 ro_416) sv_422 := pf_428
            rw [← ero_429] at pf_428
            refine W.eq (g2 := F0 m 120 ls []) rfl ?_
            replace hP : va_P D classes [((Va 0), .inr (7, [.ref (Va 1), .int sv_330, .int sv_422])), ((Va 1), .inl (tc 0, 400, .inl sv_332)), ((Ta 0), .inr (10, [.ref (Ta 1), .int (Tv 0), .int sv_333, .int sv_334, .int sv_423, .int sv_424])), ((Ta 1), .inl (tc 0, 400, .inl (Tf 1)))] H := hP₀
            replace hD : va_D A [((Va 0), .inr (7, [.ref (Va 1), .int sv_330, .int sv_422])), ((Va 1), .inl (tc 0, 400, .inl sv_332)), ((Ta 0), .inr (10, [.ref (Ta 1), .int (Tv 0), .int sv_333, .int sv_334, .int sv_423, .int sv_424])), ((Ta 1), .inl (tc 0, 400, .inl (Tf 1)))] := hD₀
            replace hS := hS₀
            clear hP₀ hD₀ hS₀
            refine lv_aload_n hx hb dX7_readFact_120 rfl (lv_at hl 3 rfl) ?_
            refine cV (a := (Ta 0)) (As := []) (rest := []) (wr := [((Va 0), .inr (7, [.ref (Va 1), .int sv_330, .int sv_422])), ((Va 1), .inl (tc 0, 400, .inl sv_332))]) ⟨hx, hb, hml, hown, hts⟩ hK hX hA (cu_fX10_step l D tc sk (Ta 0) (Ta 1) (Tv 0) sv_333 sv_334 sv_423 sv_424 (Tf 1) (rTE (cB (Tf 1) (Tv 0)) ro_429) pf_425 h_by tb_430) k_478 k_620 k_476 k_477 k_96 pl_X10_step ⟨Nat.le_of_ble_eq_true rfl, Nat.le_of_ble_eq_true rfl⟩ rfl rfl (va_recv hK hP (ci := 10) (q0 := 2) rfl rfl) hP hD hS [2, 3] [0, 1] rfl rfl rfl rfl rfl (by decide) rfl hl.1 rfl (Nat.le_of_ble_eq_true rfl) dX7_readFact_121 ⟨Nat.le_of_ble_eq_true rfl, Nat.le_of_ble_eq_true rfl⟩ (fun v_431 u_432 H locs hv_433 hP₀ hD₀ hS₀ => ?_)
            obtain ⟨sv_434, sv_435, sv_436⟩ := u_432
            obtain ⟨rfl, pf_437, pf_438⟩ := hv_433
            have pf_437 : 0 ≤ ((Tv 0) : Int32).toInt ∧ ((Tv 0) : Int32).toInt ≤ 400 ∧ 0 ≤ (sv_434 : Int32).toInt ∧ (sv_434 : Int32).toInt ≤ 400 ∧ 0 ≤ (sv_435 : Int32).toInt ∧ (sv_435 : Int32).toInt ≤ 400 := pf_437
            have pf_438 : TpR (Tf 1) (Tv 0) (rSK (cB (Tf 1) (Tv 0)) (rTE (cB (Tf 1) (Tv 0)) ro_429)) sv_434 sv_435 sv_436 sv_424 := pf_438
            rw [rNX_eq] at pf_438
            obtain ⟨ro_439, ero_439⟩ : ∃ z : Except Int (Nat × Nat), z = (rNX (cB (Tf 1) (Tv 0)) ro_429) := ⟨_, rfl⟩
            rw [← ero_439] at pf_438
            have tb_440 : TpB (rTE (cB (Tf 1) (Tv 0)) ro_439) sv_435 sv_424 := TpR.tb pf_438
            have cd_441 : Ctd ro_439 sv_422 := by rw [ero_439]; exact (Ctd.nx pf_428)
            refine W.eq (g2 := F0 m 124 ls []) rfl ?_
            replace hP : va_P D classes [((Va 0), .inr (7, [.ref (Va 1), .int sv_330, .int sv_422])), ((Va 1), .inl (tc 0, 400, .inl sv_332)), ((Ta 0), .inr (10, [.ref (Ta 1), .int (Tv 0), .int sv_434, .int sv_435, .int sv_436, .int sv_424])), ((Ta 1), .inl (tc 0, 400, .inl (Tf 1)))] H := hP₀
            replace hD : va_D A [((Va 0), .inr (7, [.ref (Va 1), .int sv_330, .int sv_422])), ((Va 1), .inl (tc 0, 400, .inl sv_332)), ((Ta 0), .inr (10, [.ref (Ta 1), .int (Tv 0), .int sv_434, .int sv_435, .int sv_436, .int sv_424])), ((Ta 1), .inl (tc 0, 400, .inl (Tf 1)))] := hD₀
            replace hS := hS₀
            clear hP₀ hD₀ hS₀
            refine lv_aload_n hx hb dX7_readFact_124 rfl (lv_at hl 2 rfl) ?_
            refine lv_aload_n hx hb dX7_readFact_125 rfl (lv_at hl 3 rfl) ?_
            refine cV (a := (Va 0)) (As := [.ref (Ta 0)]) (rest := []) (wr := []) ⟨hx, hb, hml, hown, hts⟩ hK hX hA (cu_fX7_readSum l D tc sk (Va 0) (Va 1) sv_330 sv_422 sv_332 (Ta 0) (Ta 1) (Tv 0) sv_434 sv_435 sv_436 sv_424 (Tf 1) ro_439 pf_437 pf_426 h_by pf_438 cd_441) k_624 k_621 k_623 k_7 k_99 pl_X7_readSum ⟨Nat.le_of_ble_eq_true rfl, Nat.le_of_ble_eq_true rfl⟩ rfl rfl (va_recv hK hP (ci := 7) (q0 := 0) rfl rfl) hP hD hS [0, 1, 2, 3] [] rfl rfl rfl rfl rfl (by decide) rfl hl.1 rfl (Nat.le_of_ble_eq_true rfl) dX7_readFact_126 ⟨Nat.le_of_ble_eq_true rfl, Nat.le_of_ble_eq_true rfl⟩ (fun v_442 u_443 H locs hv_444 hP₀ hD₀ hS₀ => ?_)
            obtain ⟨sv_445, sv_446, sv_447, sv_448, sv_449, sv_450, sv_451⟩ := u_443
            obtain ⟨rfl, pf_452, pf_453, pf_454, pf_455⟩ := hv_444
            have pf_452 : 0 ≤ ((Tv 0) : Int32).toInt ∧ ((Tv 0) : Int32).toInt ≤ 400 ∧ 0 ≤ (sv_448 : Int32).toInt ∧ (sv_448 : Int32).toInt ≤ 400 ∧ 0 ≤ (sv_449 : Int32).toInt ∧ (sv_449 : Int32).toInt ≤ 400 := pf_452
            have pf_453 : 0 ≤ (sv_445 : Int32).toInt ∧ (sv_445 : Int32).toInt ≤ 400 := pf_453
            have pf_454 : TpR (Tf 1) (Tv 0) (pz_b ro_439 (pz_sum (cB (Tf 1) (Tv 0)))) sv_448 sv_449 sv_450 sv_451 := pf_454
            obtain ⟨ro_456, ero_456⟩ : ∃ z : Except Int (Nat × Nat), z = (pz_b ro_439 (pz_sum (cB (Tf 1) (Tv 0)))) := ⟨_, rfl⟩
            rw [← ero_456] at pf_454
            have tb_457 : TpB (rTE (cB (Tf 1) (Tv 0)) ro_456) sv_449 sv_451 := TpR.tb pf_454
            have pf_455 : Ctd (pz_b ro_439 (pz_sum (cB (Tf 1) (Tv 0)))) sv_446 := pf_455
            rw [← ero_456] at pf_455
            refine W.eq (g2 := F0 m 129 ls []) rfl ?_
            replace hP : va_P D classes [((Va 0), .inr (7, [.ref (Va 1), .int sv_445, .int sv_446])), ((Va 1), .inl (tc 0, 400, .inl sv_447)), ((Ta 0), .inr (10, [.ref (Ta 1), .int (Tv 0), .int sv_448, .int sv_449, .int sv_450, .int sv_451])), ((Ta 1), .inl (tc 0, 400, .inl (Tf 1)))] H := hP₀
            replace hD : va_D A [((Va 0), .inr (7, [.ref (Va 1), .int sv_445, .int sv_446])), ((Va 1), .inl (tc 0, 400, .inl sv_447)), ((Ta 0), .inr (10, [.ref (Ta 1), .int (Tv 0), .int sv_448, .int sv_449, .int sv_450, .int sv_451])), ((Ta 1), .inl (tc 0, 400, .inl (Tf 1)))] := hD₀
            replace hS := hS₀
            clear hP₀ hD₀ hS₀
            refine lv_aload_n hx hb dX7_readFact_129 rfl (lv_at hl 2 rfl) ?_
            refine lv_iload hx hb dX7_readFact_130 (lv_at hl 0 rfl) ?_
            refine cV (a := (Va 0)) (As := [.int r_346]) (rest := []) (wr := [((Ta 0), .inr (10, [.ref (Ta 1), .int (Tv 0), .int sv_448, .int sv_449, .int sv_450, .int sv_451])), ((Ta 1), .inl (tc 0, 400, .inl (Tf 1)))]) ⟨hx, hb, hml, hown, hts⟩ hK hX hA (cu_fX7_put l D tc sk (Va 0) (Va 1) sv_445 sv_446 sv_447 r_346 pf_453) k_642 k_639 k_641 k_10 k_99 pl_X7_put ⟨Nat.le_of_ble_eq_true rfl, Nat.le_of_ble_eq_true rfl⟩ rfl rfl (va_recv hK hP (ci := 7) (q0 := 0) rfl rfl) hP hD hS [0, 1] [2, 3] rfl rfl rfl rfl rfl (by decide) rfl hl.1 rfl (Nat.le_of_ble_eq_true rfl) dX7_readFact_132 ⟨Nat.le_of_ble_eq_true rfl, Nat.le_of_ble_eq_true rfl⟩ (fun v_458 u_459 H locs hv_460 hP₀ hD₀ hS₀ => ?_)
            obtain ⟨sv_461, sv_462⟩ := u_459
            obtain ⟨rfl, pf_463⟩ := hv_460
            have pf_463 : 0 ≤ (sv_461 : Int32).toInt ∧ (sv_461 : Int32).toInt ≤ 400 := pf_463
            refine W.eq (g2 := F0 m 135 ls []) rfl ?_
            replace hP : va_P D classes [((Ta 0), .inr (10, [.ref (Ta 1), .int (Tv 0), .int sv_448, .int sv_449, .int sv_450, .int sv_451])), ((Ta 1), .inl (tc 0, 400, .inl (Tf 1))), ((Va 0), .inr (7, [.ref (Va 1), .int sv_461, .int sv_446])), ((Va 1), .inl (tc 0, 400, .inl sv_462))] H := hP₀
            replace hD : va_D A [((Ta 0), .inr (10, [.ref (Ta 1), .int (Tv 0), .int sv_448, .int sv_449, .int sv_450, .int sv_451])), ((Ta 1), .inl (tc 0, 400, .inl (Tf 1))), ((Va 0), .inr (7, [.ref (Va 1), .int sv_461, .int sv_446])), ((Va 1), .inl (tc 0, 400, .inl sv_462))] := hD₀
            replace hS := hS₀
            clear hP₀ hD₀ hS₀
            have hf_464 : TpR (Tf 1) (Tv 0) (pz_b rr (pz_fact (cB (Tf 1) (Tv 0)) 5)) sv_448 sv_449 sv_450 sv_451 := by
              have hE_465 : (pz_b rr (pz_fact (cB (Tf 1) (Tv 0)) 5)) = ro_456 := by
                rw [ero_456, ero_439, ero_429, ero_416, ero_341]
                have hw_466 : NWd (cB (Tf 1) (Tv 0)) pz_not rr := by
                  rw [← wS4]
                  exact pf_55
                have hw_467 : NSg (cB (Tf 1) (Tv 0)) 91 rr := by
                  exact pf_323
                have hu_468 : TpR (Tf 1) (Tv 0) (pz_b rr (pz_sum (cB (Tf 1) (Tv 0)))) sv_333 sv_334 sv_335 sv_336 := by
                  rw [← ero_341]
                  exact pf_339
                have hr_469 : ¬ (60 ≤ (sv_335 : Int32).toInt ∧ (sv_335 : Int32).toInt ≤ 62) := by
                  have z_1 := congrArg Int32.toInt c_11
                  have z_2 := congrArg Int32.toInt c_57
                  have z_3 := congrArg Int32.toInt c_307
                  have z_4 := congrArg Int32.toInt c_322
                  have z_5 := congrArg Int32.toInt c_349
                  have y_m1 : (-1 : Int32).toInt = -1 := by decide
                  have y_0 : (0 : Int32).toInt = 0 := by decide
                  have y_91 : (91 : Int32).toInt = 91 := by decide
                  omega
                exact ((fact_com hw_466 hw_467).trans (congrArg (fun z => pz_b z (pz_sum (cB (Tf 1) (Tv 0)))) (com_no hu_468 hr_469)))
              rw [hE_465]
              exact pf_454
            have hf_470 : Ctd (pz_b rr (pz_fact (cB (Tf 1) (Tv 0)) 5)) sv_446 := by
              have hE_471 : (pz_b rr (pz_fact (cB (Tf 1) (Tv 0)) 5)) = ro_456 := by
                rw [ero_456, ero_439, ero_429, ero_416, ero_341]
                have hw_472 : NWd (cB (Tf 1) (Tv 0)) pz_not rr := by
                  rw [← wS4]
                  exact pf_55
                have hw_473 : NSg (cB (Tf 1) (Tv 0)) 91 rr := by
                  exact pf_323
                have hu_474 : TpR (Tf 1) (Tv 0) (pz_b rr (pz_sum (cB (Tf 1) (Tv 0)))) sv_333 sv_334 sv_335 sv_336 := by
                  rw [← ero_341]
                  exact pf_339
                have hr_475 : ¬ (60 ≤ (sv_335 : Int32).toInt ∧ (sv_335 : Int32).toInt ≤ 62) := by
                  have z_1 := congrArg Int32.toInt c_11
                  have z_2 := congrArg Int32.toInt c_57
                  have z_3 := congrArg Int32.toInt c_307
                  have z_4 := congrArg Int32.toInt c_322
                  have z_5 := congrArg Int32.toInt c_349
                  have y_m1 : (-1 : Int32).toInt = -1 := by decide
                  have y_0 : (0 : Int32).toInt = 0 := by decide
                  have y_91 : (91 : Int32).toInt = 91 := by decide
                  omega
                exact ((fact_com hw_472 hw_473).trans (congrArg (fun z => pz_b z (pz_sum (cB (Tf 1) (Tv 0)))) (com_no hu_474 hr_475)))
              rw [hE_471]
              exact pf_455
            exact retV hx hb hr hlk hP hD hS (sv_461, sv_446, sv_462, sv_448, sv_449, sv_450, sv_451) ⟨rfl, pf_452, pf_463, hf_464, hf_470⟩ [2, 3, 0, 1] rfl rfl dX7_readFact_135 (Nat.le_of_ble_eq_true rfl) (Nat.le_of_ble_eq_true rfl) rfl
        · skip
          have hz_478 : (r_317 : Int32).toInt = 1 := by
            have z_1 := congrArg Int32.toInt c_11
            have z_2 := congrArg Int32.toInt c_57
            have z_3 := congrArg Int32.toInt c_307
            have z_4 : ¬ (r_317 : Int32).toInt = (0 : Int32).toInt := fun z => c_322 (Int32.toInt_inj.mp z)
            have y_0 : (0 : Int32).toInt = 0 := by decide
            have y_91 : (91 : Int32).toInt = 91 := by decide
            omega
          obtain ⟨pf_476, pf_477⟩ := hm_320 hz_478
          have pf_476 : Sg (cB (Tf 1) (Tv 0)) (91 : Int) rr := pf_476
          have pf_477 : TpR (Tf 1) (Tv 0) (rNX (cB (Tf 1) (Tv 0)) rr) sv_313 sv_314 sv_315 (Tv 4) := pf_477
          obtain ⟨ro_479, ero_479⟩ : ∃ z : Except Int (Nat × Nat), z = (rNX (cB (Tf 1) (Tv 0)) rr) := ⟨_, rfl⟩
          rw [← ero_479] at pf_477
          have tb_480 : TpB (rTE (cB (Tf 1) (Tv 0)) ro_479) sv_314 (Tv 4) := TpR.tb pf_477
          have cd_481 : Ctd ro_479 (Vv 1) := by rw [ero_479]; exact (Ctd.nx h_ct)
          refine lv_aload_n hx hb dX7_readFact_68 rfl (lv_at hl 1 rfl) ?_
          refine lv_aload_n hx hb dX7_readFact_69 rfl (lv_at hl 2 rfl) ?_
          refine lv_iload_n hx hb dX7_readFact_70 rfl (lv_at hl 3 rfl) ?_
          refine lv_iconst (v := 1) hx hb dX7_readFact_71 (by decide) ?_
          refine lv_iadd hx hb dX7_readFact_72 ?_
          refine lv_lit (v := 6) (by decide) ?_
          refine cV (a := (Va 0)) (As := [.ref (Ta 0), .int 6]) (rest := []) (wr := []) ⟨hx, hb, hml, hown, hts⟩ hK hX hA (cu_fX7_readTest_6 l D tc sk (Va 0) (Va 1) (Vv 0) (Vv 1) (Vf 1) (Ta 0) (Ta 1) (Tv 0) sv_313 sv_314 sv_315 (Tv 4) (Tf 1) ro_479 pf_316 h_u h_by pf_477 cd_481) k_655 k_652 k_654 k_11 k_99 pl_X7_readTest ⟨Nat.le_of_ble_eq_true rfl, Nat.le_of_ble_eq_true rfl⟩ rfl rfl (va_recv hK hP (ci := 7) (q0 := 0) rfl rfl) hP hD hS [0, 1, 2, 3] [] rfl rfl rfl rfl rfl (by decide) rfl hl.1 rfl (Nat.le_of_ble_eq_true rfl) dX7_readFact_73 ⟨Nat.le_of_ble_eq_true rfl, Nat.le_of_ble_eq_true rfl⟩ (fun v_482 u_483 H locs hv_484 hP₀ hD₀ hS₀ => ?_)
          obtain ⟨sv_485, sv_486, sv_487, sv_488, sv_489, sv_490, sv_491⟩ := u_483
          obtain ⟨rfl, pf_492, pf_493, pf_494, pf_495⟩ := hv_484
          have pf_492 : 0 ≤ ((Tv 0) : Int32).toInt ∧ ((Tv 0) : Int32).toInt ≤ 400 ∧ 0 ≤ (sv_488 : Int32).toInt ∧ (sv_488 : Int32).toInt ≤ 400 ∧ 0 ≤ (sv_489 : Int32).toInt ∧ (sv_489 : Int32).toInt ≤ 400 := pf_492
          have pf_493 : 0 ≤ (sv_485 : Int32).toInt ∧ (sv_485 : Int32).toInt ≤ 400 := pf_493
          have pf_494 : TpR (Tf 1) (Tv 0) (pz_b ro_479 (pz_tst (cB (Tf 1) (Tv 0)) (pz_fact (cB (Tf 1) (Tv 0)) 4))) sv_488 sv_489 sv_490 sv_491 := pf_494
          obtain ⟨ro_496, ero_496⟩ : ∃ z : Except Int (Nat × Nat), z = (pz_b ro_479 (pz_tst (cB (Tf 1) (Tv 0)) (pz_fact (cB (Tf 1) (Tv 0)) 4))) := ⟨_, rfl⟩
          rw [← ero_496] at pf_494
          have tb_497 : TpB (rTE (cB (Tf 1) (Tv 0)) ro_496) sv_489 sv_491 := TpR.tb pf_494
          have pf_495 : Ctd (pz_b ro_479 (pz_tst (cB (Tf 1) (Tv 0)) (pz_fact (cB (Tf 1) (Tv 0)) 4))) sv_486 := pf_495
          rw [← ero_496] at pf_495
          refine W.eq (g2 := F0 m 76 ls []) rfl ?_
          replace hP : va_P D classes [((Va 0), .inr (7, [.ref (Va 1), .int sv_485, .int sv_486])), ((Va 1), .inl (tc 0, 400, .inl sv_487)), ((Ta 0), .inr (10, [.ref (Ta 1), .int (Tv 0), .int sv_488, .int sv_489, .int sv_490, .int sv_491])), ((Ta 1), .inl (tc 0, 400, .inl (Tf 1)))] H := hP₀
          replace hD : va_D A [((Va 0), .inr (7, [.ref (Va 1), .int sv_485, .int sv_486])), ((Va 1), .inl (tc 0, 400, .inl sv_487)), ((Ta 0), .inr (10, [.ref (Ta 1), .int (Tv 0), .int sv_488, .int sv_489, .int sv_490, .int sv_491])), ((Ta 1), .inl (tc 0, 400, .inl (Tf 1)))] := hD₀
          replace hS := hS₀
          clear hP₀ hD₀ hS₀
          refine lv_aload_n hx hb dX7_readFact_76 rfl (lv_at hl 2 rfl) ?_
          refine lv_bipush (v := 93) hx hb dX7_readFact_77 (by decide) ?_
          have ha_498 : 0 ≤ (93 : Int32).toInt := by
            have z_1 := congrArg Int32.toInt c_11
            have z_2 := congrArg Int32.toInt c_57
            have z_3 := congrArg Int32.toInt c_307
            have z_4 : ¬ (r_317 : Int32).toInt = (0 : Int32).toInt := fun z => c_322 (Int32.toInt_inj.mp z)
            have y_0 : (0 : Int32).toInt = 0 := by decide
            have y_91 : (91 : Int32).toInt = 91 := by decide
            have y_93 : (93 : Int32).toInt = 93 := by decide
            omega
          have ha_499 : (93 : Int32).toInt = (93 : Int) := by
            have z_1 := congrArg Int32.toInt c_11
            have z_2 := congrArg Int32.toInt c_57
            have z_3 := congrArg Int32.toInt c_307
            have z_4 : ¬ (r_317 : Int32).toInt = (0 : Int32).toInt := fun z => c_322 (Int32.toInt_inj.mp z)
            have y_0 : (0 : Int32).toInt = 0 := by decide
            have y_91 : (91 : Int32).toInt = 91 := by decide
            have y_93 : (93 : Int32).toInt = 93 := by decide
            omega
          refine cV (a := (Ta 0)) (As := [.int 93]) (rest := []) (wr := [((Va 0), .inr (7, [.ref (Va 1), .int sv_485, .int sv_486])), ((Va 1), .inl (tc 0, 400, .inl sv_487))]) ⟨hx, hb, hml, hown, hts⟩ hK hX hA (cu_fX10_takes l D tc sk (Ta 0) (Ta 1) (Tv 0) sv_488 sv_489 sv_490 sv_491 (Tf 1) 93 ro_496 93 pf_492 h_by pf_494 ha_498 ha_499) k_492 k_613 k_490 k_491 k_96 pl_X10_takes ⟨Nat.le_of_ble_eq_true rfl, Nat.le_of_ble_eq_true rfl⟩ rfl rfl (va_recv hK hP (ci := 10) (q0 := 2) rfl rfl) hP hD hS [2, 3] [0, 1] rfl rfl rfl rfl rfl (by decide) rfl hl.1 rfl (Nat.le_of_ble_eq_true rfl) dX7_readFact_79 ⟨Nat.le_of_ble_eq_true rfl, Nat.le_of_ble_eq_true rfl⟩ (fun v_500 u_501 H locs hv_502 hP₀ hD₀ hS₀ => ?_)
          obtain ⟨sv_503, sv_504, sv_505⟩ := u_501
          obtain ⟨r_507, rfl, he_508, pf_506, hm_510, hm_511⟩ := hv_502
          have he_508 : (r_507.toInt = 0 ∨ r_507.toInt = 1) := he_508
          have pf_506 : 0 ≤ ((Tv 0) : Int32).toInt ∧ ((Tv 0) : Int32).toInt ≤ 400 ∧ 0 ≤ (sv_503 : Int32).toInt ∧ (sv_503 : Int32).toInt ≤ 400 ∧ 0 ≤ (sv_504 : Int32).toInt ∧ (sv_504 : Int32).toInt ≤ 400 := pf_506
          refine W.eq (g2 := F0 m 82 ls [.int r_507]) rfl ?_
          replace hP : va_P D classes [((Va 0), .inr (7, [.ref (Va 1), .int sv_485, .int sv_486])), ((Va 1), .inl (tc 0, 400, .inl sv_487)), ((Ta 0), .inr (10, [.ref (Ta 1), .int (Tv 0), .int sv_503, .int sv_504, .int sv_505, .int sv_491])), ((Ta 1), .inl (tc 0, 400, .inl (Tf 1)))] H := hP₀
          replace hD : va_D A [((Va 0), .inr (7, [.ref (Va 1), .int sv_485, .int sv_486])), ((Va 1), .inl (tc 0, 400, .inl sv_487)), ((Ta 0), .inr (10, [.ref (Ta 1), .int (Tv 0), .int sv_503, .int sv_504, .int sv_505, .int sv_491])), ((Ta 1), .inl (tc 0, 400, .inl (Tf 1)))] := hD₀
          replace hS := hS₀
          clear hP₀ hD₀ hS₀
          refine lv_if_ne (tgt := 135) hx hb dX7_readFact_82 (by decide) (fun c_512 => ?_) (fun c_512 => ?_)
          · skip
            have hz_515 : (r_507 : Int32).toInt = 1 := by
              have z_1 := congrArg Int32.toInt c_11
              have z_2 := congrArg Int32.toInt c_57
              have z_3 := congrArg Int32.toInt c_307
              have z_4 : ¬ (r_317 : Int32).toInt = (0 : Int32).toInt := fun z => c_322 (Int32.toInt_inj.mp z)
              have z_5 : ¬ (r_507 : Int32).toInt = (0 : Int32).toInt := fun z => c_512 (Int32.toInt_inj.mp z)
              have y_0 : (0 : Int32).toInt = 0 := by decide
              have y_91 : (91 : Int32).toInt = 91 := by decide
              omega
            obtain ⟨pf_513, pf_514⟩ := hm_510 hz_515
            have pf_513 : Sg (cB (Tf 1) (Tv 0)) (93 : Int) ro_496 := pf_513
            have pf_514 : TpR (Tf 1) (Tv 0) (rNX (cB (Tf 1) (Tv 0)) ro_496) sv_503 sv_504 sv_505 sv_491 := pf_514
            obtain ⟨ro_516, ero_516⟩ : ∃ z : Except Int (Nat × Nat), z = (rNX (cB (Tf 1) (Tv 0)) ro_496) := ⟨_, rfl⟩
            rw [← ero_516] at pf_514
            have tb_517 : TpB (rTE (cB (Tf 1) (Tv 0)) ro_516) sv_504 sv_491 := TpR.tb pf_514
            have cd_518 : Ctd ro_516 sv_486 := by rw [ero_516]; exact (Ctd.nx pf_495)
            have hf_519 : TpR (Tf 1) (Tv 0) (pz_b rr (pz_fact (cB (Tf 1) (Tv 0)) 5)) sv_503 sv_504 sv_505 sv_491 := by
              have hE_520 : (pz_b rr (pz_fact (cB (Tf 1) (Tv 0)) 5)) = ro_516 := by
                rw [ero_516, ero_496, ero_479]
                have hw_521 : NWd (cB (Tf 1) (Tv 0)) pz_not rr := by
                  rw [← wS4]
                  exact pf_55
                have hw_522 : Sg (cB (Tf 1) (Tv 0)) 91 rr := by
                  exact pf_476
                have hw_523 : Sg (cB (Tf 1) (Tv 0)) 93 (pz_b (rNX (cB (Tf 1) (Tv 0)) rr) (pz_tst (cB (Tf 1) (Tv 0)) (pz_fact (cB (Tf 1) (Tv 0)) 4))) := by
                  rw [← ero_479, ← ero_496]
                  exact pf_513
                exact ((fact_br hw_521 hw_522).trans (rb_yes hw_523))
              rw [hE_520]
              exact pf_514
            have hf_524 : Ctd (pz_b rr (pz_fact (cB (Tf 1) (Tv 0)) 5)) sv_486 := by
              have hE_525 : (pz_b rr (pz_fact (cB (Tf 1) (Tv 0)) 5)) = ro_516 := by
                rw [ero_516, ero_496, ero_479]
                have hw_526 : NWd (cB (Tf 1) (Tv 0)) pz_not rr := by
                  rw [← wS4]
                  exact pf_55
                have hw_527 : Sg (cB (Tf 1) (Tv 0)) 91 rr := by
                  exact pf_476
                have hw_528 : Sg (cB (Tf 1) (Tv 0)) 93 (pz_b (rNX (cB (Tf 1) (Tv 0)) rr) (pz_tst (cB (Tf 1) (Tv 0)) (pz_fact (cB (Tf 1) (Tv 0)) 4))) := by
                  rw [← ero_479, ← ero_496]
                  exact pf_513
                exact ((fact_br hw_526 hw_527).trans (rb_yes hw_528))
              rw [hE_525]
              exact cd_518
            exact retV hx hb hr hlk hP hD hS (sv_485, sv_486, sv_487, sv_503, sv_504, sv_505, sv_491) ⟨rfl, pf_506, pf_493, hf_519, hf_524⟩ [0, 1, 2, 3] rfl rfl dX7_readFact_135 (Nat.le_of_ble_eq_true rfl) (Nat.le_of_ble_eq_true rfl) rfl
          · skip
            have hz_531 : (r_507 : Int32).toInt = 0 := by
              have z_1 := congrArg Int32.toInt c_11
              have z_2 := congrArg Int32.toInt c_57
              have z_3 := congrArg Int32.toInt c_307
              have z_4 : ¬ (r_317 : Int32).toInt = (0 : Int32).toInt := fun z => c_322 (Int32.toInt_inj.mp z)
              have z_5 := congrArg Int32.toInt c_512
              have y_0 : (0 : Int32).toInt = 0 := by decide
              have y_91 : (91 : Int32).toInt = 91 := by decide
              omega
            obtain ⟨pf_529, pf_530⟩ := hm_511 hz_531
            have pf_529 : NSg (cB (Tf 1) (Tv 0)) (93 : Int) ro_496 := pf_529
            have pf_530 : TpR (Tf 1) (Tv 0) ro_496 sv_503 sv_504 sv_505 sv_491 := pf_530
            have tb_532 : TpB (rTE (cB (Tf 1) (Tv 0)) ro_496) sv_504 sv_491 := TpR.tb pf_530
            refine lv_aload_n hx hb dX7_readFact_85 rfl (lv_at hl 2 rfl) ?_
            refine lv_iconst (v := 0) hx hb dX7_readFact_86 (by decide) ?_
            have ha_533 : 0 ≤ (0 : Int32).toInt ∧ (0 : Int32).toInt ≤ 4 := by
              have z_1 := congrArg Int32.toInt c_11
              have z_2 := congrArg Int32.toInt c_57
              have z_3 := congrArg Int32.toInt c_307
              have z_4 : ¬ (r_317 : Int32).toInt = (0 : Int32).toInt := fun z => c_322 (Int32.toInt_inj.mp z)
              have z_5 := congrArg Int32.toInt c_512
              have y_0 : (0 : Int32).toInt = 0 := by decide
              have y_91 : (91 : Int32).toInt = 91 := by decide
              omega
            have ha_534 : (0 : Int32).toInt = (0 : Int) := by
              have z_1 := congrArg Int32.toInt c_11
              have z_2 := congrArg Int32.toInt c_57
              have z_3 := congrArg Int32.toInt c_307
              have z_4 : ¬ (r_317 : Int32).toInt = (0 : Int32).toInt := fun z => c_322 (Int32.toInt_inj.mp z)
              have z_5 := congrArg Int32.toInt c_512
              have y_0 : (0 : Int32).toInt = 0 := by decide
              have y_91 : (91 : Int32).toInt = 91 := by decide
              omega
            refine cV (a := (Ta 0)) (As := [.int 0]) (rest := []) (wr := [((Va 0), .inr (7, [.ref (Va 1), .int sv_485, .int sv_486])), ((Va 1), .inl (tc 0, 400, .inl sv_487))]) ⟨hx, hb, hml, hown, hts⟩ hK hX hA (cu_fX10_fail l D tc sk (Ta 0) (Ta 1) (Tv 0) sv_503 sv_504 sv_505 sv_491 (Tf 1) 0 ro_496 0 pf_506 pf_530 ha_533 ha_534) k_557 k_619 k_555 k_556 k_96 pl_X10_fail ⟨Nat.le_of_ble_eq_true rfl, Nat.le_of_ble_eq_true rfl⟩ rfl rfl (va_recv hK hP (ci := 10) (q0 := 2) rfl rfl) hP hD hS [2, 3] [0, 1] rfl rfl rfl rfl rfl (by decide) rfl hl.1 rfl (Nat.le_of_ble_eq_true rfl) dX7_readFact_87 ⟨Nat.le_of_ble_eq_true rfl, Nat.le_of_ble_eq_true rfl⟩ (fun v_535 u_536 H locs hv_537 hP₀ hD₀ hS₀ => ?_)
            obtain ⟨sv_538, sv_539⟩ := u_536
            obtain ⟨rfl, pf_540, pf_541⟩ := hv_537
            have pf_540 : 0 ≤ ((Tv 0) : Int32).toInt ∧ ((Tv 0) : Int32).toInt ≤ 400 ∧ 0 ≤ (sv_503 : Int32).toInt ∧ (sv_503 : Int32).toInt ≤ 400 ∧ 0 ≤ (sv_504 : Int32).toInt ∧ (sv_504 : Int32).toInt ≤ 400 := pf_540
            have pf_541 : TpR (Tf 1) (Tv 0) (rER (0 : Int) ro_496) sv_503 sv_504 sv_538 sv_539 := pf_541
            obtain ⟨ro_542, ero_542⟩ : ∃ z : Except Int (Nat × Nat), z = (rER 0 ro_496) := ⟨_, rfl⟩
            rw [← ero_542] at pf_541
            have tb_543 : TpB (rTE (cB (Tf 1) (Tv 0)) ro_542) sv_504 sv_539 := TpR.tb pf_541
            have cd_544 : Ctd ro_542 sv_486 := by rw [ero_542]; exact (Ctd.er)
            refine W.eq (g2 := F0 m 90 ls []) rfl ?_
            replace hP : va_P D classes [((Va 0), .inr (7, [.ref (Va 1), .int sv_485, .int sv_486])), ((Va 1), .inl (tc 0, 400, .inl sv_487)), ((Ta 0), .inr (10, [.ref (Ta 1), .int (Tv 0), .int sv_503, .int sv_504, .int sv_538, .int sv_539])), ((Ta 1), .inl (tc 0, 400, .inl (Tf 1)))] H := hP₀
            replace hD : va_D A [((Va 0), .inr (7, [.ref (Va 1), .int sv_485, .int sv_486])), ((Va 1), .inl (tc 0, 400, .inl sv_487)), ((Ta 0), .inr (10, [.ref (Ta 1), .int (Tv 0), .int sv_503, .int sv_504, .int sv_538, .int sv_539])), ((Ta 1), .inl (tc 0, 400, .inl (Tf 1)))] := hD₀
            replace hS := hS₀
            clear hP₀ hD₀ hS₀
            refine lv_goto (tgt := 135) hx hb dX7_readFact_90 (by decide) ?_
            have hf_545 : TpR (Tf 1) (Tv 0) (pz_b rr (pz_fact (cB (Tf 1) (Tv 0)) 5)) sv_503 sv_504 sv_538 sv_539 := by
              have hE_546 : (pz_b rr (pz_fact (cB (Tf 1) (Tv 0)) 5)) = ro_542 := by
                rw [ero_542, ero_496, ero_479]
                have hw_547 : NWd (cB (Tf 1) (Tv 0)) pz_not rr := by
                  rw [← wS4]
                  exact pf_55
                have hw_548 : Sg (cB (Tf 1) (Tv 0)) 91 rr := by
                  exact pf_476
                have hw_549 : NSg (cB (Tf 1) (Tv 0)) 93 (pz_b (rNX (cB (Tf 1) (Tv 0)) rr) (pz_tst (cB (Tf 1) (Tv 0)) (pz_fact (cB (Tf 1) (Tv 0)) 4))) := by
                  rw [← ero_479, ← ero_496]
                  exact pf_529
                exact ((fact_br hw_547 hw_548).trans (rb_no hw_549))
              rw [hE_546]
              exact pf_541
            have hf_550 : Ctd (pz_b rr (pz_fact (cB (Tf 1) (Tv 0)) 5)) sv_486 := by
              have hE_551 : (pz_b rr (pz_fact (cB (Tf 1) (Tv 0)) 5)) = ro_542 := by
                rw [ero_542, ero_496, ero_479]
                have hw_552 : NWd (cB (Tf 1) (Tv 0)) pz_not rr := by
                  rw [← wS4]
                  exact pf_55
                have hw_553 : Sg (cB (Tf 1) (Tv 0)) 91 rr := by
                  exact pf_476
                have hw_554 : NSg (cB (Tf 1) (Tv 0)) 93 (pz_b (rNX (cB (Tf 1) (Tv 0)) rr) (pz_tst (cB (Tf 1) (Tv 0)) (pz_fact (cB (Tf 1) (Tv 0)) 4))) := by
                  rw [← ero_479, ← ero_496]
                  exact pf_529
                exact ((fact_br hw_552 hw_553).trans (rb_no hw_554))
              rw [hE_551]
              exact cd_544
            exact retV hx hb hr hlk hP hD hS (sv_485, sv_486, sv_487, sv_503, sv_504, sv_538, sv_539) ⟨rfl, pf_540, pf_493, hf_545, hf_550⟩ [0, 1, 2, 3] rfl rfl dX7_readFact_135 (Nat.le_of_ble_eq_true rfl) (Nat.le_of_ble_eq_true rfl) rfl
      · skip
        exfalso
        have z_1 := congrArg Int32.toInt c_11
        have z_2 := congrArg Int32.toInt c_57
        have z_3 : ¬ (r_6 : Int32).toInt = (0 : Int32).toInt := fun z => c_307 (Int32.toInt_inj.mp z)
        have y_0 : (0 : Int32).toInt = 0 := by decide
        have y_91 : (91 : Int32).toInt = 91 := by decide
        omega
set_option maxRecDepth 100000 in
theorem cu_fX7_readFact_5 (l : Launch) (D : va_G) (tc : Nat → ClassId) (sk : (Nat → Nat) × (Nat → Nat)) (Va_0 : Nat) (Va_1 : Nat) (Vv_0 : Int32) (Vv_1 : Int32) (Vf_1 : Nat → Int32) (Ta_0 : Nat) (Ta_1 : Nat) (Tv_0 : Int32) (Tv_1 : Int32) (Tv_2 : Int32) (Tv_3 : Int32) (Tv_4 : Int32) (Tf_1 : Nat → Int32) (rr : Except Int (Nat × Nat)) (h_tape : 0 ≤ (Tv_0 : Int32).toInt ∧ (Tv_0 : Int32).toInt ≤ 400 ∧ 0 ≤ (Tv_1 : Int32).toInt ∧ (Tv_1 : Int32).toInt ≤ 400 ∧ 0 ≤ (Tv_2 : Int32).toInt ∧ (Tv_2 : Int32).toInt ≤ 400) (h_u : 0 ≤ (Vv_0 : Int32).toInt ∧ (Vv_0 : Int32).toInt ≤ 400) (h_by : Byt Tf_1) (h_r : TpR Tf_1 Tv_0 rr Tv_1 Tv_2 Tv_3 Tv_4) (h_ct : Ctd rr Vv_1) : Ct l yX7_readFact cX7_readFact 5 none { frames := 18, cells := 0, slots := 0, locals := 425 } D tc sk [.ref Va_0, .ref Ta_0, .int 5] [(Va_0, .inr (7, [.ref Va_1, .int Vv_0, .int Vv_1])), (Va_1, .inl (tc 0, 400, .inl Vf_1)), (Ta_0, .inr (10, [.ref Ta_1, .int Tv_0, .int Tv_1, .int Tv_2, .int Tv_3, .int Tv_4])), (Ta_1, .inl (tc 0, 400, .inl Tf_1))] (fun (v : Option Value) (u : (Int32) × (Int32) × (Nat → Int32) × (Int32) × (Int32) × (Int32) × (Int32)) => match u with | (oo0x1, oo0x2, oo0x3, oo0x4, oo0x5, oo0x6, oo0x7) => v = none ∧ (0 ≤ (Tv_0 : Int32).toInt ∧ (Tv_0 : Int32).toInt ≤ 400 ∧ 0 ≤ (oo0x4 : Int32).toInt ∧ (oo0x4 : Int32).toInt ≤ 400 ∧ 0 ≤ (oo0x5 : Int32).toInt ∧ (oo0x5 : Int32).toInt ≤ 400) ∧ (0 ≤ (oo0x1 : Int32).toInt ∧ (oo0x1 : Int32).toInt ≤ 400) ∧ (TpR Tf_1 Tv_0 (pz_b rr (pz_fact (cB Tf_1 Tv_0) 5)) oo0x4 oo0x5 oo0x6 oo0x7) ∧ (Ctd (pz_b rr (pz_fact (cB Tf_1 Tv_0) 5)) oo0x2)) (fun (u : (Int32) × (Int32) × (Nat → Int32) × (Int32) × (Int32) × (Int32) × (Int32)) => match u with | (oo0x1, oo0x2, oo0x3, oo0x4, oo0x5, oo0x6, oo0x7) => [(Va_0, .inr (7, [.ref Va_1, .int oo0x1, .int oo0x2])), (Va_1, .inl (tc 0, 400, .inl oo0x3)), (Ta_0, .inr (10, [.ref Ta_1, .int Tv_0, .int oo0x4, .int oo0x5, .int oo0x6, .int oo0x7])), (Ta_1, .inl (tc 0, 400, .inl Tf_1))]) 0 0 :=
  ct_fX7_readFact_5 l D tc sk (fun k => ([Va_0, Va_1] : List (Nat)).getD k 0) (fun k => ([Vv_0, Vv_1] : List (Int32)).getD k 0) (fun k => ([(fun _ => 0), Vf_1] : List (Nat → Int32)).getD k (fun _ => 0)) (fun k => ([Ta_0, Ta_1] : List (Nat)).getD k 0) (fun k => ([Tv_0, Tv_1, Tv_2, Tv_3, Tv_4] : List (Int32)).getD k 0) (fun k => ([(fun _ => 0), Tf_1] : List (Nat → Int32)).getD k (fun _ => 0)) rr h_tape h_u h_by h_r h_ct
set_option maxHeartbeats 4000000 in
set_option maxRecDepth 100000 in
theorem ct_fX7_readTest_5 (l : Launch) (D : va_G) (tc : Nat → ClassId) (sk : (Nat → Nat) × (Nat → Nat)) (Va : Nat → Nat) (Vv : Nat → Int32) (Vf : Nat → Nat → Int32) (Ta : Nat → Nat) (Tv : Nat → Int32) (Tf : Nat → Nat → Int32) (rr : Except Int (Nat × Nat)) (h_tape : 0 ≤ ((Tv 0) : Int32).toInt ∧ ((Tv 0) : Int32).toInt ≤ 400 ∧ 0 ≤ ((Tv 1) : Int32).toInt ∧ ((Tv 1) : Int32).toInt ≤ 400 ∧ 0 ≤ ((Tv 2) : Int32).toInt ∧ ((Tv 2) : Int32).toInt ≤ 400) (h_u : 0 ≤ ((Vv 0) : Int32).toInt ∧ ((Vv 0) : Int32).toInt ≤ 400) (h_by : Byt (Tf 1)) (h_r : TpR (Tf 1) (Tv 0) rr (Tv 1) (Tv 2) (Tv 3) (Tv 4)) (h_ct : Ctd rr (Vv 1)) : Ct l yX7_readTest cX7_readTest 6 none { frames := 19, cells := 0, slots := 0, locals := 449 } D tc sk [.ref (Va 0), .ref (Ta 0), .int 5] [((Va 0), .inr (7, [.ref (Va 1), .int (Vv 0), .int (Vv 1)])), ((Va 1), .inl (tc 0, 400, .inl (Vf 1))), ((Ta 0), .inr (10, [.ref (Ta 1), .int (Tv 0), .int (Tv 1), .int (Tv 2), .int (Tv 3), .int (Tv 4)])), ((Ta 1), .inl (tc 0, 400, .inl (Tf 1)))] (fun (v : Option Value) (u : (Int32) × (Int32) × (Nat → Int32) × (Int32) × (Int32) × (Int32) × (Int32)) => match u with | (oo0x1, oo0x2, oo0x3, oo0x4, oo0x5, oo0x6, oo0x7) => v = none ∧ (0 ≤ ((Tv 0) : Int32).toInt ∧ ((Tv 0) : Int32).toInt ≤ 400 ∧ 0 ≤ (oo0x4 : Int32).toInt ∧ (oo0x4 : Int32).toInt ≤ 400 ∧ 0 ≤ (oo0x5 : Int32).toInt ∧ (oo0x5 : Int32).toInt ≤ 400) ∧ (0 ≤ (oo0x1 : Int32).toInt ∧ (oo0x1 : Int32).toInt ≤ 400) ∧ (TpR (Tf 1) (Tv 0) (pz_b rr (pz_tst (cB (Tf 1) (Tv 0)) (pz_fact (cB (Tf 1) (Tv 0)) 5))) oo0x4 oo0x5 oo0x6 oo0x7) ∧ (Ctd (pz_b rr (pz_tst (cB (Tf 1) (Tv 0)) (pz_fact (cB (Tf 1) (Tv 0)) 5))) oo0x2)) (fun (u : (Int32) × (Int32) × (Nat → Int32) × (Int32) × (Int32) × (Int32) × (Int32)) => match u with | (oo0x1, oo0x2, oo0x3, oo0x4, oo0x5, oo0x6, oo0x7) => [((Va 0), .inr (7, [.ref (Va 1), .int oo0x1, .int oo0x2])), ((Va 1), .inl (tc 0, 400, .inl oo0x3)), ((Ta 0), .inr (10, [.ref (Ta 1), .int (Tv 0), .int oo0x4, .int oo0x5, .int oo0x6, .int oo0x7])), ((Ta 1), .inl (tc 0, 400, .inl (Tf 1)))]) 0 0 := by
  refine Ct.start (by decide) (Nat.le_of_ble_eq_true rfl) (fun p e s m below meth c A ls hx hb hr hlk hin hml hown hts hK hX hP hD hA hl hS => ?_)
  have hl : lv_has ls 6 [(0, .ref (Va 0)), (1, .ref (Ta 0)), (2, .int 5)] := hl
  have tb_1 : TpB (rTE (cB (Tf 1) (Tv 0)) rr) (Tv 2) (Tv 4) := TpR.tb h_r
  refine lv_aload_n hx hb dX7_readTest_0 rfl (lv_at hl 0 rfl) ?_
  refine lv_aload_n hx hb dX7_readTest_1 rfl (lv_at hl 1 rfl) ?_
  refine lv_iload_n hx hb dX7_readTest_2 rfl (lv_at hl 2 rfl) ?_
  refine cV (a := (Va 0)) (As := [.ref (Ta 0), .int 5]) (rest := []) (wr := []) ⟨hx, hb, hml, hown, hts⟩ hK hX hA (cu_fX7_readFact_5 l D tc sk (Va 0) (Va 1) (Vv 0) (Vv 1) (Vf 1) (Ta 0) (Ta 1) (Tv 0) (Tv 1) (Tv 2) (Tv 3) (Tv 4) (Tf 1) rr h_tape h_u h_by h_r h_ct) k_659 k_656 k_658 k_12 k_99 pl_X7_readFact ⟨Nat.le_of_ble_eq_true rfl, Nat.le_of_ble_eq_true rfl⟩ rfl rfl (va_recv hK hP (ci := 7) (q0 := 0) rfl rfl) hP hD hS [0, 1, 2, 3] [] rfl rfl rfl rfl rfl (by decide) rfl hl.1 rfl (Nat.le_of_ble_eq_true rfl) dX7_readTest_3 ⟨Nat.le_of_ble_eq_true rfl, Nat.le_of_ble_eq_true rfl⟩ (fun v_2 u_3 H locs hv_4 hP₀ hD₀ hS₀ => ?_)
  obtain ⟨sv_5, sv_6, sv_7, sv_8, sv_9, sv_10, sv_11⟩ := u_3
  obtain ⟨rfl, pf_12, pf_13, pf_14, pf_15⟩ := hv_4
  have pf_12 : 0 ≤ ((Tv 0) : Int32).toInt ∧ ((Tv 0) : Int32).toInt ≤ 400 ∧ 0 ≤ (sv_8 : Int32).toInt ∧ (sv_8 : Int32).toInt ≤ 400 ∧ 0 ≤ (sv_9 : Int32).toInt ∧ (sv_9 : Int32).toInt ≤ 400 := pf_12
  have pf_13 : 0 ≤ (sv_5 : Int32).toInt ∧ (sv_5 : Int32).toInt ≤ 400 := pf_13
  have pf_14 : TpR (Tf 1) (Tv 0) (pz_b rr (pz_fact (cB (Tf 1) (Tv 0)) 5)) sv_8 sv_9 sv_10 sv_11 := pf_14
  obtain ⟨ro_16, ero_16⟩ : ∃ z : Except Int (Nat × Nat), z = (pz_b rr (pz_fact (cB (Tf 1) (Tv 0)) 5)) := ⟨_, rfl⟩
  rw [← ero_16] at pf_14
  have tb_17 : TpB (rTE (cB (Tf 1) (Tv 0)) ro_16) sv_9 sv_11 := TpR.tb pf_14
  have pf_15 : Ctd (pz_b rr (pz_fact (cB (Tf 1) (Tv 0)) 5)) sv_6 := pf_15
  rw [← ero_16] at pf_15
  refine W.eq (g2 := F0 m 6 ls []) rfl ?_
  replace hP : va_P D classes [((Va 0), .inr (7, [.ref (Va 1), .int sv_5, .int sv_6])), ((Va 1), .inl (tc 0, 400, .inl sv_7)), ((Ta 0), .inr (10, [.ref (Ta 1), .int (Tv 0), .int sv_8, .int sv_9, .int sv_10, .int sv_11])), ((Ta 1), .inl (tc 0, 400, .inl (Tf 1)))] H := hP₀
  replace hD : va_D A [((Va 0), .inr (7, [.ref (Va 1), .int sv_5, .int sv_6])), ((Va 1), .inl (tc 0, 400, .inl sv_7)), ((Ta 0), .inr (10, [.ref (Ta 1), .int (Tv 0), .int sv_8, .int sv_9, .int sv_10, .int sv_11])), ((Ta 1), .inl (tc 0, 400, .inl (Tf 1)))] := hD₀
  replace hS := hS₀
  clear hP₀ hD₀ hS₀
  refine lv_iconst (v := 0) hx hb dX7_readTest_6 (by decide) ?_
  refine lv_istore_n (lv' := [(3, .int 0), (0, .ref (Va 0)), (1, .ref (Ta 0)), (2, .int 5)]) hx hb dX7_readTest_7 rfl hl (by decide) rfl (fun ls hl₀ => ?_)
  replace hl := hl₀
  clear hl₀
  refine lv_iconst (v := 0) hx hb dX7_readTest_8 (by decide) ?_
  refine lv_istore (lv' := [(4, .int 0), (3, .int 0), (0, .ref (Va 0)), (1, .ref (Ta 0)), (2, .int 5)]) hx hb dX7_readTest_9 hl (by decide) rfl (fun ls hl₀ => ?_)
  replace hl := hl₀
  clear hl₀
  have loop_38 : ∀ (n_36 : Nat) (vy_27 : Int32) (vy_28 : Int32) (vy_29 : Int32) (vy_30 : Nat → Int32) (vy_31 : Int32) (vy_32 : Int32) (vy_33 : Int32) (vy_34 : Int32) (vy_35 : Int32) (H : Heap) (locs : List Loc) (ls : Array Slot), (401 - (vy_27 : Int32).toInt).toNat < n_36 → (0 ≤ (vy_27 : Int32).toInt ∧ (vy_27 : Int32).toInt ≤ 400) → (0 ≤ ((Tv 0) : Int32).toInt ∧ ((Tv 0) : Int32).toInt ≤ 400 ∧ 0 ≤ (vy_31 : Int32).toInt ∧ (vy_31 : Int32).toInt ≤ 400 ∧ 0 ≤ (vy_32 : Int32).toInt ∧ (vy_32 : Int32).toInt ≤ 400) → (0 ≤ (vy_28 : Int32).toInt ∧ (vy_28 : Int32).toInt ≤ 400) → (TeL (Tf 1) (Tv 0) 5 (pz_b rr (pz_tst (cB (Tf 1) (Tv 0)) (pz_fact (cB (Tf 1) (Tv 0)) 5))) vy_31 vy_32 vy_33 vy_34 vy_29 vy_27) → va_P D classes [((Va 0), .inr (7, [.ref (Va 1), .int vy_28, .int vy_29])), ((Va 1), .inl (tc 0, 400, .inl vy_30)), ((Ta 0), .inr (10, [.ref (Ta 1), .int (Tv 0), .int vy_31, .int vy_32, .int vy_33, .int vy_34])), ((Ta 1), .inl (tc 0, 400, .inl (Tf 1)))] H → va_D A [((Va 0), .inr (7, [.ref (Va 1), .int vy_28, .int vy_29])), ((Va 1), .inl (tc 0, 400, .inl vy_30)), ((Ta 0), .inr (10, [.ref (Ta 1), .int (Tv 0), .int vy_31, .int vy_32, .int vy_33, .int vy_34])), ((Ta 1), .inl (tc 0, 400, .inl (Tf 1)))] → va_S A s.heap H locs → lv_has ls 6 [(4, .int vy_27), (3, .int vy_35), (0, .ref (Va 0)), (1, .ref (Ta 0)), (2, .int 5)] → W p l e ({ frames := 19, cells := 0, slots := 0, locals := 449 }) s m ([.ref (Va 0), .ref (Ta 0), .int 5].toArray) below meth c H locs 0 0 (MQ below (QW (fun (v : Option Value) (u : (Int32) × (Int32) × (Nat → Int32) × (Int32) × (Int32) × (Int32) × (Int32)) => match u with | (oo0x1, oo0x2, oo0x3, oo0x4, oo0x5, oo0x6, oo0x7) => v = none ∧ (0 ≤ ((Tv 0) : Int32).toInt ∧ ((Tv 0) : Int32).toInt ≤ 400 ∧ 0 ≤ (oo0x4 : Int32).toInt ∧ (oo0x4 : Int32).toInt ≤ 400 ∧ 0 ≤ (oo0x5 : Int32).toInt ∧ (oo0x5 : Int32).toInt ≤ 400) ∧ (0 ≤ (oo0x1 : Int32).toInt ∧ (oo0x1 : Int32).toInt ≤ 400) ∧ (TpR (Tf 1) (Tv 0) (pz_b rr (pz_tst (cB (Tf 1) (Tv 0)) (pz_fact (cB (Tf 1) (Tv 0)) 5))) oo0x4 oo0x5 oo0x6 oo0x7) ∧ (Ctd (pz_b rr (pz_tst (cB (Tf 1) (Tv 0)) (pz_fact (cB (Tf 1) (Tv 0)) 5))) oo0x2)) (BW D (fun (u : (Int32) × (Int32) × (Nat → Int32) × (Int32) × (Int32) × (Int32) × (Int32)) => match u with | (oo0x1, oo0x2, oo0x3, oo0x4, oo0x5, oo0x6, oo0x7) => [((Va 0), .inr (7, [.ref (Va 1), .int oo0x1, .int oo0x2])), ((Va 1), .inl (tc 0, 400, .inl oo0x3)), ((Ta 0), .inr (10, [.ref (Ta 1), .int (Tv 0), .int oo0x4, .int oo0x5, .int oo0x6, .int oo0x7])), ((Ta 1), .inl (tc 0, 400, .inl (Tf 1)))]) A) A) ([.ref (Va 0), .ref (Ta 0), .int 5].toArray) s 0 0 A) (F0 m 11 ls []) := by
    clear hP hD hS hl
    intro n_36
    induction n_36 with
    | zero =>
      intro vy_27 vy_28 vy_29 vy_30 vy_31 vy_32 vy_33 vy_34 vy_35 H locs ls h1
      exact absurd h1 (Nat.not_lt_zero _)
    | succ n_36 ih_37 =>
      intro vy_27 vy_28 vy_29 vy_30 vy_31 vy_32 vy_33 vy_34 vy_35 H locs ls hn_43 pf_39 pf_40 pf_41 pf_42 hP hD hS hl
      obtain ⟨rq_44, pf_45, pf_46, pf_47, pf_48⟩ := id pf_42
      have tb_49 : TpB (rTE (cB (Tf 1) (Tv 0)) rq_44) vy_32 vy_34 := TpR.tb pf_45
      refine lv_iload hx hb dX7_readTest_11 (lv_at hl 0 rfl) ?_
      refine lv_sipush (v := 400) hx hb dX7_readTest_13 (by decide) ?_
      refine lv_icmp_ge (tgt := 92) hx hb dX7_readTest_16 (by decide) (fun c_50 => ?_) (fun c_50 => ?_)
      · skip
        refine lv_iload_n hx hb dX7_readTest_92 rfl (lv_at hl 1 rfl) ?_
        refine lv_if_eq (tgt := 102) hx hb dX7_readTest_93 (by decide) (fun c_51 => ?_) (fun c_51 => ?_)
        · skip
          have hf_52 : TpR (Tf 1) (Tv 0) (pz_b rr (pz_tst (cB (Tf 1) (Tv 0)) (pz_fact (cB (Tf 1) (Tv 0)) 5))) vy_31 vy_32 vy_33 vy_34 := by
            have hr_53 : 400 ≤ (vy_27 : Int32).toInt := by
              have z_1 := Int32.le_iff_toInt_le.mp c_50
              have z_2 := congrArg Int32.toInt c_51
              have y_0 : (0 : Int32).toInt = 0 := by decide
              have y_400 : (400 : Int32).toInt = 400 := by decide
              omega
            rw [pf_47, tst_end h_tape.2.1 pf_48 (Or.inl hr_53)]
            exact pf_45
          have hf_54 : Ctd (pz_b rr (pz_tst (cB (Tf 1) (Tv 0)) (pz_fact (cB (Tf 1) (Tv 0)) 5))) vy_29 := by
            have hr_55 : 400 ≤ (vy_27 : Int32).toInt := by
              have z_1 := Int32.le_iff_toInt_le.mp c_50
              have z_2 := congrArg Int32.toInt c_51
              have y_0 : (0 : Int32).toInt = 0 := by decide
              have y_400 : (400 : Int32).toInt = 400 := by decide
              omega
            rw [pf_47, tst_end h_tape.2.1 pf_48 (Or.inl hr_55)]
            exact pf_46
          exact retV hx hb hr hlk hP hD hS (vy_28, vy_29, vy_30, vy_31, vy_32, vy_33, vy_34) ⟨rfl, pf_40, pf_41, hf_52, hf_54⟩ [0, 1, 2, 3] rfl rfl dX7_readTest_102 (Nat.le_of_ble_eq_true rfl) (Nat.le_of_ble_eq_true rfl) rfl
        · skip
          refine lv_aload_n hx hb dX7_readTest_96 rfl (lv_at hl 2 rfl) ?_
          refine lv_bipush (v := (-6)) hx hb dX7_readTest_97 (by decide) ?_
          refine cV (a := (Va 0)) (As := [.int (-6)]) (rest := []) (wr := [((Ta 0), .inr (10, [.ref (Ta 1), .int (Tv 0), .int vy_31, .int vy_32, .int vy_33, .int vy_34])), ((Ta 1), .inl (tc 0, 400, .inl (Tf 1)))]) ⟨hx, hb, hml, hown, hts⟩ hK hX hA (cu_fX7_put l D tc sk (Va 0) (Va 1) vy_28 vy_29 vy_30 (-6) pf_41) k_642 k_639 k_641 k_10 k_99 pl_X7_put ⟨Nat.le_of_ble_eq_true rfl, Nat.le_of_ble_eq_true rfl⟩ rfl rfl (va_recv hK hP (ci := 7) (q0 := 0) rfl rfl) hP hD hS [0, 1] [2, 3] rfl rfl rfl rfl rfl (by decide) rfl hl.1 rfl (Nat.le_of_ble_eq_true rfl) dX7_readTest_99 ⟨Nat.le_of_ble_eq_true rfl, Nat.le_of_ble_eq_true rfl⟩ (fun v_56 u_57 H locs hv_58 hP₀ hD₀ hS₀ => ?_)
          obtain ⟨sv_59, sv_60⟩ := u_57
          obtain ⟨rfl, pf_61⟩ := hv_58
          have pf_61 : 0 ≤ (sv_59 : Int32).toInt ∧ (sv_59 : Int32).toInt ≤ 400 := pf_61
          refine W.eq (g2 := F0 m 102 ls []) rfl ?_
          replace hP : va_P D classes [((Ta 0), .inr (10, [.ref (Ta 1), .int (Tv 0), .int vy_31, .int vy_32, .int vy_33, .int vy_34])), ((Ta 1), .inl (tc 0, 400, .inl (Tf 1))), ((Va 0), .inr (7, [.ref (Va 1), .int sv_59, .int vy_29])), ((Va 1), .inl (tc 0, 400, .inl sv_60))] H := hP₀
          replace hD : va_D A [((Ta 0), .inr (10, [.ref (Ta 1), .int (Tv 0), .int vy_31, .int vy_32, .int vy_33, .int vy_34])), ((Ta 1), .inl (tc 0, 400, .inl (Tf 1))), ((Va 0), .inr (7, [.ref (Va 1), .int sv_59, .int vy_29])), ((Va 1), .inl (tc 0, 400, .inl sv_60))] := hD₀
          replace hS := hS₀
          clear hP₀ hD₀ hS₀
          have hf_62 : TpR (Tf 1) (Tv 0) (pz_b rr (pz_tst (cB (Tf 1) (Tv 0)) (pz_fact (cB (Tf 1) (Tv 0)) 5))) vy_31 vy_32 vy_33 vy_34 := by
            have hr_63 : 400 ≤ (vy_27 : Int32).toInt := by
              have z_1 := Int32.le_iff_toInt_le.mp c_50
              have z_2 : ¬ (vy_35 : Int32).toInt = (0 : Int32).toInt := fun z => c_51 (Int32.toInt_inj.mp z)
              have y_0 : (0 : Int32).toInt = 0 := by decide
              have y_400 : (400 : Int32).toInt = 400 := by decide
              omega
            rw [pf_47, tst_end h_tape.2.1 pf_48 (Or.inl hr_63)]
            exact pf_45
          have hf_64 : Ctd (pz_b rr (pz_tst (cB (Tf 1) (Tv 0)) (pz_fact (cB (Tf 1) (Tv 0)) 5))) vy_29 := by
            have hr_65 : 400 ≤ (vy_27 : Int32).toInt := by
              have z_1 := Int32.le_iff_toInt_le.mp c_50
              have z_2 : ¬ (vy_35 : Int32).toInt = (0 : Int32).toInt := fun z => c_51 (Int32.toInt_inj.mp z)
              have y_0 : (0 : Int32).toInt = 0 := by decide
              have y_400 : (400 : Int32).toInt = 400 := by decide
              omega
            rw [pf_47, tst_end h_tape.2.1 pf_48 (Or.inl hr_65)]
            exact pf_46
          exact retV hx hb hr hlk hP hD hS (sv_59, vy_29, sv_60, vy_31, vy_32, vy_33, vy_34) ⟨rfl, pf_40, pf_61, hf_62, hf_64⟩ [2, 3, 0, 1] rfl rfl dX7_readTest_102 (Nat.le_of_ble_eq_true rfl) (Nat.le_of_ble_eq_true rfl) rfl
      · skip
        refine lv_aload_n hx hb dX7_readTest_19 rfl (lv_at hl 3 rfl) ?_
        refine va_ldcS hx hb hown (sx_5 hX) dX7_readTest_20 ?_
        have ha_66 : (5 : Nat) < 7 := by
          have z_1 := Int32.lt_iff_toInt_lt.mp (Int32.not_le.mp c_50)
          have y_400 : (400 : Int32).toInt = 400 := by decide
          have y_5 : (5 : Int32).toInt = 5 := by decide
          omega
        refine cV (a := (Ta 0)) (As := [.ref (sk.1 5)]) (rest := []) (wr := [((Va 0), .inr (7, [.ref (Va 1), .int vy_28, .int vy_29])), ((Va 1), .inl (tc 0, 400, .inl vy_30))]) ⟨hx, hb, hml, hown, hts⟩ hK hX hA (cu_fX10_isWord l D tc sk (Ta 0) (Ta 1) (Tv 0) vy_31 vy_32 vy_33 vy_34 (Tf 1) 5 rq_44 ha_66 pf_40 h_by pf_45) k_618 k_615 k_616 k_617 k_96 pl_X10_isWord ⟨Nat.le_of_ble_eq_true rfl, Nat.le_of_ble_eq_true rfl⟩ rfl rfl (va_recv hK hP (ci := 10) (q0 := 2) rfl rfl) hP hD hS [2, 3] [0, 1] rfl rfl rfl rfl rfl (by decide) rfl hl.1 rfl (Nat.le_of_ble_eq_true rfl) dX7_readTest_22 ⟨Nat.le_of_ble_eq_true rfl, Nat.le_of_ble_eq_true rfl⟩ (fun v_67 u_68 H locs hv_69 hP₀ hD₀ hS₀ => ?_)
        obtain ⟨r_70, rfl, he_71, hm_73, hm_74⟩ := hv_69
        have he_71 : (r_70.toInt = 0 ∨ r_70.toInt = 1) := he_71
        refine W.eq (g2 := F0 m 25 ls [.int r_70]) rfl ?_
        replace hP : va_P D classes [((Va 0), .inr (7, [.ref (Va 1), .int vy_28, .int vy_29])), ((Va 1), .inl (tc 0, 400, .inl vy_30)), ((Ta 0), .inr (10, [.ref (Ta 1), .int (Tv 0), .int vy_31, .int vy_32, .int vy_33, .int vy_34])), ((Ta 1), .inl (tc 0, 400, .inl (Tf 1)))] H := hP₀
        replace hD : va_D A [((Va 0), .inr (7, [.ref (Va 1), .int vy_28, .int vy_29])), ((Va 1), .inl (tc 0, 400, .inl vy_30)), ((Ta 0), .inr (10, [.ref (Ta 1), .int (Tv 0), .int vy_31, .int vy_32, .int vy_33, .int vy_34])), ((Ta 1), .inl (tc 0, 400, .inl (Tf 1)))] := hD₀
        replace hS := hS₀
        clear hP₀ hD₀ hS₀
        refine lv_if_ne (tgt := 37) hx hb dX7_readTest_25 (by decide) (fun c_75 => ?_) (fun c_75 => ?_)
        · skip
          have hz_77 : (r_70 : Int32).toInt = 1 := by
            have z_1 := Int32.lt_iff_toInt_lt.mp (Int32.not_le.mp c_50)
            have z_2 : ¬ (r_70 : Int32).toInt = (0 : Int32).toInt := fun z => c_75 (Int32.toInt_inj.mp z)
            have y_0 : (0 : Int32).toInt = 0 := by decide
            have y_400 : (400 : Int32).toInt = 400 := by decide
            omega
          obtain pf_76 := hm_73 hz_77
          have pf_76 : TWd (cB (Tf 1) (Tv 0)) (wS (5 : Nat)) rq_44 := pf_76
          refine lv_aload_n hx hb dX7_readTest_37 rfl (lv_at hl 3 rfl) ?_
          refine va_ldcS hx hb hown (sx_6 hX) dX7_readTest_38 ?_
          have ha_78 : (6 : Nat) < 7 := by
            have z_1 := Int32.lt_iff_toInt_lt.mp (Int32.not_le.mp c_50)
            have z_2 : ¬ (r_70 : Int32).toInt = (0 : Int32).toInt := fun z => c_75 (Int32.toInt_inj.mp z)
            have y_0 : (0 : Int32).toInt = 0 := by decide
            have y_400 : (400 : Int32).toInt = 400 := by decide
            have y_6 : (6 : Int32).toInt = 6 := by decide
            omega
          refine cV (a := (Ta 0)) (As := [.ref (sk.1 6)]) (rest := []) (wr := [((Va 0), .inr (7, [.ref (Va 1), .int vy_28, .int vy_29])), ((Va 1), .inl (tc 0, 400, .inl vy_30))]) ⟨hx, hb, hml, hown, hts⟩ hK hX hA (cu_fX10_isWord l D tc sk (Ta 0) (Ta 1) (Tv 0) vy_31 vy_32 vy_33 vy_34 (Tf 1) 6 rq_44 ha_78 pf_40 h_by pf_45) k_618 k_615 k_616 k_617 k_96 pl_X10_isWord ⟨Nat.le_of_ble_eq_true rfl, Nat.le_of_ble_eq_true rfl⟩ rfl rfl (va_recv hK hP (ci := 10) (q0 := 2) rfl rfl) hP hD hS [2, 3] [0, 1] rfl rfl rfl rfl rfl (by decide) rfl hl.1 rfl (Nat.le_of_ble_eq_true rfl) dX7_readTest_40 ⟨Nat.le_of_ble_eq_true rfl, Nat.le_of_ble_eq_true rfl⟩ (fun v_79 u_80 H locs hv_81 hP₀ hD₀ hS₀ => ?_)
          obtain ⟨r_82, rfl, he_83, hm_85, hm_86⟩ := hv_81
          have he_83 : (r_82.toInt = 0 ∨ r_82.toInt = 1) := he_83
          refine W.eq (g2 := F0 m 43 ls [.int r_82]) rfl ?_
          replace hP : va_P D classes [((Va 0), .inr (7, [.ref (Va 1), .int vy_28, .int vy_29])), ((Va 1), .inl (tc 0, 400, .inl vy_30)), ((Ta 0), .inr (10, [.ref (Ta 1), .int (Tv 0), .int vy_31, .int vy_32, .int vy_33, .int vy_34])), ((Ta 1), .inl (tc 0, 400, .inl (Tf 1)))] H := hP₀
          replace hD : va_D A [((Va 0), .inr (7, [.ref (Va 1), .int vy_28, .int vy_29])), ((Va 1), .inl (tc 0, 400, .inl vy_30)), ((Ta 0), .inr (10, [.ref (Ta 1), .int (Tv 0), .int vy_31, .int vy_32, .int vy_33, .int vy_34])), ((Ta 1), .inl (tc 0, 400, .inl (Tf 1)))] := hD₀
          replace hS := hS₀
          clear hP₀ hD₀ hS₀
          refine lv_istore (lv' := [(5, .int r_82), (4, .int vy_27), (3, .int vy_35), (0, .ref (Va 0)), (1, .ref (Ta 0)), (2, .int 5)]) hx hb dX7_readTest_43 hl (by decide) rfl (fun ls hl₀ => ?_)
          replace hl := hl₀
          clear hl₀
          refine lv_iload hx hb dX7_readTest_45 (lv_at hl 0 rfl) ?_
          refine lv_if_eq (tgt := 60) hx hb dX7_readTest_47 (by decide) (fun c_87 => ?_) (fun c_87 => ?_)
          · skip
            have hz_89 : (r_82 : Int32).toInt = 0 := by
              have z_1 := Int32.lt_iff_toInt_lt.mp (Int32.not_le.mp c_50)
              have z_2 : ¬ (r_70 : Int32).toInt = (0 : Int32).toInt := fun z => c_75 (Int32.toInt_inj.mp z)
              have z_3 := congrArg Int32.toInt c_87
              have y_0 : (0 : Int32).toInt = 0 := by decide
              have y_400 : (400 : Int32).toInt = 400 := by decide
              omega
            obtain pf_88 := hm_86 hz_89
            have pf_88 : NWd (cB (Tf 1) (Tv 0)) (wS (6 : Nat)) rq_44 := pf_88
            refine lv_aload_n hx hb dX7_readTest_60 rfl (lv_at hl 4 rfl) ?_
            refine cV (a := (Ta 0)) (As := []) (rest := []) (wr := [((Va 0), .inr (7, [.ref (Va 1), .int vy_28, .int vy_29])), ((Va 1), .inl (tc 0, 400, .inl vy_30))]) ⟨hx, hb, hml, hown, hts⟩ hK hX hA (cu_fX10_step l D tc sk (Ta 0) (Ta 1) (Tv 0) vy_31 vy_32 vy_33 vy_34 (Tf 1) (rTE (cB (Tf 1) (Tv 0)) rq_44) pf_40 h_by tb_49) k_478 k_620 k_476 k_477 k_96 pl_X10_step ⟨Nat.le_of_ble_eq_true rfl, Nat.le_of_ble_eq_true rfl⟩ rfl rfl (va_recv hK hP (ci := 10) (q0 := 2) rfl rfl) hP hD hS [2, 3] [0, 1] rfl rfl rfl rfl rfl (by decide) rfl hl.1 rfl (Nat.le_of_ble_eq_true rfl) dX7_readTest_61 ⟨Nat.le_of_ble_eq_true rfl, Nat.le_of_ble_eq_true rfl⟩ (fun v_90 u_91 H locs hv_92 hP₀ hD₀ hS₀ => ?_)
            obtain ⟨sv_93, sv_94, sv_95⟩ := u_91
            obtain ⟨rfl, pf_96, pf_97⟩ := hv_92
            have pf_96 : 0 ≤ ((Tv 0) : Int32).toInt ∧ ((Tv 0) : Int32).toInt ≤ 400 ∧ 0 ≤ (sv_93 : Int32).toInt ∧ (sv_93 : Int32).toInt ≤ 400 ∧ 0 ≤ (sv_94 : Int32).toInt ∧ (sv_94 : Int32).toInt ≤ 400 := pf_96
            have pf_97 : TpR (Tf 1) (Tv 0) (rSK (cB (Tf 1) (Tv 0)) (rTE (cB (Tf 1) (Tv 0)) rq_44)) sv_93 sv_94 sv_95 vy_34 := pf_97
            rw [rNX_eq] at pf_97
            obtain ⟨ro_98, ero_98⟩ : ∃ z : Except Int (Nat × Nat), z = (rNX (cB (Tf 1) (Tv 0)) rq_44) := ⟨_, rfl⟩
            rw [← ero_98] at pf_97
            have tb_99 : TpB (rTE (cB (Tf 1) (Tv 0)) ro_98) sv_94 vy_34 := TpR.tb pf_97
            have cd_100 : Ctd ro_98 vy_29 := by rw [ero_98]; exact (Ctd.nx pf_46)
            refine W.eq (g2 := F0 m 64 ls []) rfl ?_
            replace hP : va_P D classes [((Va 0), .inr (7, [.ref (Va 1), .int vy_28, .int vy_29])), ((Va 1), .inl (tc 0, 400, .inl vy_30)), ((Ta 0), .inr (10, [.ref (Ta 1), .int (Tv 0), .int sv_93, .int sv_94, .int sv_95, .int vy_34])), ((Ta 1), .inl (tc 0, 400, .inl (Tf 1)))] H := hP₀
            replace hD : va_D A [((Va 0), .inr (7, [.ref (Va 1), .int vy_28, .int vy_29])), ((Va 1), .inl (tc 0, 400, .inl vy_30)), ((Ta 0), .inr (10, [.ref (Ta 1), .int (Tv 0), .int sv_93, .int sv_94, .int sv_95, .int vy_34])), ((Ta 1), .inl (tc 0, 400, .inl (Tf 1)))] := hD₀
            replace hS := hS₀
            clear hP₀ hD₀ hS₀
            refine lv_aload_n hx hb dX7_readTest_64 rfl (lv_at hl 3 rfl) ?_
            refine lv_aload_n hx hb dX7_readTest_65 rfl (lv_at hl 4 rfl) ?_
            refine lv_iload_n hx hb dX7_readTest_66 rfl (lv_at hl 5 rfl) ?_
            refine cV (a := (Va 0)) (As := [.ref (Ta 0), .int 5]) (rest := []) (wr := []) ⟨hx, hb, hml, hown, hts⟩ hK hX hA (cu_fX7_readFact_5 l D tc sk (Va 0) (Va 1) vy_28 vy_29 vy_30 (Ta 0) (Ta 1) (Tv 0) sv_93 sv_94 sv_95 vy_34 (Tf 1) ro_98 pf_96 pf_41 h_by pf_97 cd_100) k_659 k_656 k_658 k_12 k_99 pl_X7_readFact ⟨Nat.le_of_ble_eq_true rfl, Nat.le_of_ble_eq_true rfl⟩ rfl rfl (va_recv hK hP (ci := 7) (q0 := 0) rfl rfl) hP hD hS [0, 1, 2, 3] [] rfl rfl rfl rfl rfl (by decide) rfl hl.1 rfl (Nat.le_of_ble_eq_true rfl) dX7_readTest_67 ⟨Nat.le_of_ble_eq_true rfl, Nat.le_of_ble_eq_true rfl⟩ (fun v_101 u_102 H locs hv_103 hP₀ hD₀ hS₀ => ?_)
            obtain ⟨sv_104, sv_105, sv_106, sv_107, sv_108, sv_109, sv_110⟩ := u_102
            obtain ⟨rfl, pf_111, pf_112, pf_113, pf_114⟩ := hv_103
            have pf_111 : 0 ≤ ((Tv 0) : Int32).toInt ∧ ((Tv 0) : Int32).toInt ≤ 400 ∧ 0 ≤ (sv_107 : Int32).toInt ∧ (sv_107 : Int32).toInt ≤ 400 ∧ 0 ≤ (sv_108 : Int32).toInt ∧ (sv_108 : Int32).toInt ≤ 400 := pf_111
            have pf_112 : 0 ≤ (sv_104 : Int32).toInt ∧ (sv_104 : Int32).toInt ≤ 400 := pf_112
            have pf_113 : TpR (Tf 1) (Tv 0) (pz_b ro_98 (pz_fact (cB (Tf 1) (Tv 0)) 5)) sv_107 sv_108 sv_109 sv_110 := pf_113
            obtain ⟨ro_115, ero_115⟩ : ∃ z : Except Int (Nat × Nat), z = (pz_b ro_98 (pz_fact (cB (Tf 1) (Tv 0)) 5)) := ⟨_, rfl⟩
            rw [← ero_115] at pf_113
            have tb_116 : TpB (rTE (cB (Tf 1) (Tv 0)) ro_115) sv_108 sv_110 := TpR.tb pf_113
            have pf_114 : Ctd (pz_b ro_98 (pz_fact (cB (Tf 1) (Tv 0)) 5)) sv_105 := pf_114
            rw [← ero_115] at pf_114
            refine W.eq (g2 := F0 m 70 ls []) rfl ?_
            replace hP : va_P D classes [((Va 0), .inr (7, [.ref (Va 1), .int sv_104, .int sv_105])), ((Va 1), .inl (tc 0, 400, .inl sv_106)), ((Ta 0), .inr (10, [.ref (Ta 1), .int (Tv 0), .int sv_107, .int sv_108, .int sv_109, .int sv_110])), ((Ta 1), .inl (tc 0, 400, .inl (Tf 1)))] H := hP₀
            replace hD : va_D A [((Va 0), .inr (7, [.ref (Va 1), .int sv_104, .int sv_105])), ((Va 1), .inl (tc 0, 400, .inl sv_106)), ((Ta 0), .inr (10, [.ref (Ta 1), .int (Tv 0), .int sv_107, .int sv_108, .int sv_109, .int sv_110])), ((Ta 1), .inl (tc 0, 400, .inl (Tf 1)))] := hD₀
            replace hS := hS₀
            clear hP₀ hD₀ hS₀
            refine lv_iload hx hb dX7_readTest_70 (lv_at hl 0 rfl) ?_
            refine lv_if_eq (tgt := 80) hx hb dX7_readTest_72 (by decide) (fun c_117 => ?_) (fun c_117 => ?_)
            · skip
              refine lv_aload_n hx hb dX7_readTest_80 rfl (lv_at hl 3 rfl) ?_
              refine lv_bipush (v := (-5)) hx hb dX7_readTest_81 (by decide) ?_
              refine cV (a := (Va 0)) (As := [.int (-5)]) (rest := []) (wr := [((Ta 0), .inr (10, [.ref (Ta 1), .int (Tv 0), .int sv_107, .int sv_108, .int sv_109, .int sv_110])), ((Ta 1), .inl (tc 0, 400, .inl (Tf 1)))]) ⟨hx, hb, hml, hown, hts⟩ hK hX hA (cu_fX7_put l D tc sk (Va 0) (Va 1) sv_104 sv_105 sv_106 (-5) pf_112) k_642 k_639 k_641 k_10 k_99 pl_X7_put ⟨Nat.le_of_ble_eq_true rfl, Nat.le_of_ble_eq_true rfl⟩ rfl rfl (va_recv hK hP (ci := 7) (q0 := 0) rfl rfl) hP hD hS [0, 1] [2, 3] rfl rfl rfl rfl rfl (by decide) rfl hl.1 rfl (Nat.le_of_ble_eq_true rfl) dX7_readTest_83 ⟨Nat.le_of_ble_eq_true rfl, Nat.le_of_ble_eq_true rfl⟩ (fun v_118 u_119 H locs hv_120 hP₀ hD₀ hS₀ => ?_)
              obtain ⟨sv_121, sv_122⟩ := u_119
              obtain ⟨rfl, pf_123⟩ := hv_120
              have pf_123 : 0 ≤ (sv_121 : Int32).toInt ∧ (sv_121 : Int32).toInt ≤ 400 := pf_123
              refine W.eq (g2 := F0 m 86 ls []) rfl ?_
              replace hP : va_P D classes [((Ta 0), .inr (10, [.ref (Ta 1), .int (Tv 0), .int sv_107, .int sv_108, .int sv_109, .int sv_110])), ((Ta 1), .inl (tc 0, 400, .inl (Tf 1))), ((Va 0), .inr (7, [.ref (Va 1), .int sv_121, .int sv_105])), ((Va 1), .inl (tc 0, 400, .inl sv_122))] H := hP₀
              replace hD : va_D A [((Ta 0), .inr (10, [.ref (Ta 1), .int (Tv 0), .int sv_107, .int sv_108, .int sv_109, .int sv_110])), ((Ta 1), .inl (tc 0, 400, .inl (Tf 1))), ((Va 0), .inr (7, [.ref (Va 1), .int sv_121, .int sv_105])), ((Va 1), .inl (tc 0, 400, .inl sv_122))] := hD₀
              replace hS := hS₀
              clear hP₀ hD₀ hS₀
              obtain ⟨x_124, ex_124⟩ : ∃ y : Int32, y = vy_27 + 1 := ⟨_, rfl⟩
              refine lv_iinc (v := x_124) (lv' := [(4, .int x_124), (5, .int r_82), (3, .int vy_35), (0, .ref (Va 0)), (1, .ref (Ta 0)), (2, .int 5)]) hx hb dX7_readTest_86 hl (k := 1) rfl (by rw [ex_124]; rfl) (by decide) rfl (fun ls hl₀ => ?_)
              replace hl := hl₀
              clear hl₀
              refine lv_goto (tgt := 11) hx hb dX7_readTest_89 (by decide) ?_
              have hb_125 : 401 - (x_124 : Int32).toInt < 401 - (vy_27 : Int32).toInt ∧ 1 ≤ 401 - (vy_27 : Int32).toInt := by
                have z_1 := Int32.lt_iff_toInt_lt.mp (Int32.not_le.mp c_50)
                have z_2 : ¬ (r_70 : Int32).toInt = (0 : Int32).toInt := fun z => c_75 (Int32.toInt_inj.mp z)
                have z_3 := congrArg Int32.toInt c_87
                have z_4 := congrArg Int32.toInt c_117
                have y_0 : (0 : Int32).toInt = 0 := by decide
                have y_400 : (400 : Int32).toInt = 400 := by decide
                have y_1 : (1 : Int32).toInt = 1 := by decide
                have t_x_124 : x_124.toInt = (vy_27 : Int32).toInt + (1 : Int32).toInt := by rw [ex_124]; exact add_toInt (by omega) (by omega)
                omega
              have ha_126 : 0 ≤ (x_124 : Int32).toInt ∧ (x_124 : Int32).toInt ≤ 400 := by
                have z_1 := Int32.lt_iff_toInt_lt.mp (Int32.not_le.mp c_50)
                have z_2 : ¬ (r_70 : Int32).toInt = (0 : Int32).toInt := fun z => c_75 (Int32.toInt_inj.mp z)
                have z_3 := congrArg Int32.toInt c_87
                have z_4 := congrArg Int32.toInt c_117
                have y_0 : (0 : Int32).toInt = 0 := by decide
                have y_400 : (400 : Int32).toInt = 400 := by decide
                have y_1 : (1 : Int32).toInt = 1 := by decide
                have t_x_124 : x_124.toInt = (vy_27 : Int32).toInt + (1 : Int32).toInt := by rw [ex_124]; exact add_toInt (by omega) (by omega)
                omega
              have hu_127 : TpR (Tf 1) (Tv 0) (pz_b (rNX (cB (Tf 1) (Tv 0)) rq_44) (pz_fact (cB (Tf 1) (Tv 0)) 5)) sv_107 sv_108 sv_109 sv_110 := by
                rw [← ero_98, ← ero_115]
                exact pf_113
              have hu_128 : Ctd (pz_b (rNX (cB (Tf 1) (Tv 0)) rq_44) (pz_fact (cB (Tf 1) (Tv 0)) 5)) sv_105 := by
                rw [← ero_98, ← ero_115]
                exact pf_114
              have hw_129 : TWd (cB (Tf 1) (Tv 0)) pz_and rq_44 := by
                rw [← wS5]
                exact pf_76
              have hi_130 : (x_124 : Int32).toInt = (vy_27 : Int32).toInt + 1 := by
                have z_1 := Int32.lt_iff_toInt_lt.mp (Int32.not_le.mp c_50)
                have z_2 : ¬ (r_70 : Int32).toInt = (0 : Int32).toInt := fun z => c_75 (Int32.toInt_inj.mp z)
                have z_3 := congrArg Int32.toInt c_87
                have z_4 := congrArg Int32.toInt c_117
                have y_0 : (0 : Int32).toInt = 0 := by decide
                have y_400 : (400 : Int32).toInt = 400 := by decide
                have y_1 : (1 : Int32).toInt = 1 := by decide
                have t_x_124 : x_124.toInt = (vy_27 : Int32).toInt + (1 : Int32).toInt := by rw [ex_124]; exact add_toInt (by omega) (by omega)
                omega
              exact ih_37 x_124 sv_121 sv_105 sv_122 sv_107 sv_108 sv_109 sv_110 vy_35 _ _ _ (by omega) ha_126 pf_111 pf_123 (TeL.next h_tape.2.1 pf_47 pf_48 (Or.inl hw_129) hu_127 hu_128 hi_130) (hP.sub [2, 3, 0, 1] rfl) (hD.sub [2, 3, 0, 1] rfl rfl) hS (lv_sub hl [0, 2, 3, 4, 5] rfl)
            · skip
              exfalso
              have z_1 := Int32.lt_iff_toInt_lt.mp (Int32.not_le.mp c_50)
              have z_2 : ¬ (r_70 : Int32).toInt = (0 : Int32).toInt := fun z => c_75 (Int32.toInt_inj.mp z)
              have z_3 := congrArg Int32.toInt c_87
              have z_4 : ¬ (r_82 : Int32).toInt = (0 : Int32).toInt := fun z => c_117 (Int32.toInt_inj.mp z)
              have y_0 : (0 : Int32).toInt = 0 := by decide
              have y_400 : (400 : Int32).toInt = 400 := by decide
              omega
          · skip
            have hz_132 : (r_82 : Int32).toInt = 1 := by
              have z_1 := Int32.lt_iff_toInt_lt.mp (Int32.not_le.mp c_50)
              have z_2 : ¬ (r_70 : Int32).toInt = (0 : Int32).toInt := fun z => c_75 (Int32.toInt_inj.mp z)
              have z_3 : ¬ (r_82 : Int32).toInt = (0 : Int32).toInt := fun z => c_87 (Int32.toInt_inj.mp z)
              have y_0 : (0 : Int32).toInt = 0 := by decide
              have y_400 : (400 : Int32).toInt = 400 := by decide
              omega
            obtain pf_131 := hm_85 hz_132
            have pf_131 : TWd (cB (Tf 1) (Tv 0)) (wS (6 : Nat)) rq_44 := pf_131
            refine lv_iload_n hx hb dX7_readTest_50 rfl (lv_at hl 2 rfl) ?_
            refine lv_if_eq (tgt := 60) hx hb dX7_readTest_51 (by decide) (fun c_133 => ?_) (fun c_133 => ?_)
            · skip
              refine lv_aload_n hx hb dX7_readTest_60 rfl (lv_at hl 4 rfl) ?_
              refine cV (a := (Ta 0)) (As := []) (rest := []) (wr := [((Va 0), .inr (7, [.ref (Va 1), .int vy_28, .int vy_29])), ((Va 1), .inl (tc 0, 400, .inl vy_30))]) ⟨hx, hb, hml, hown, hts⟩ hK hX hA (cu_fX10_step l D tc sk (Ta 0) (Ta 1) (Tv 0) vy_31 vy_32 vy_33 vy_34 (Tf 1) (rTE (cB (Tf 1) (Tv 0)) rq_44) pf_40 h_by tb_49) k_478 k_620 k_476 k_477 k_96 pl_X10_step ⟨Nat.le_of_ble_eq_true rfl, Nat.le_of_ble_eq_true rfl⟩ rfl rfl (va_recv hK hP (ci := 10) (q0 := 2) rfl rfl) hP hD hS [2, 3] [0, 1] rfl rfl rfl rfl rfl (by decide) rfl hl.1 rfl (Nat.le_of_ble_eq_true rfl) dX7_readTest_61 ⟨Nat.le_of_ble_eq_true rfl, Nat.le_of_ble_eq_true rfl⟩ (fun v_134 u_135 H locs hv_136 hP₀ hD₀ hS₀ => ?_)
              obtain ⟨sv_137, sv_138, sv_139⟩ := u_135
              obtain ⟨rfl, pf_140, pf_141⟩ := hv_136
              have pf_140 : 0 ≤ ((Tv 0) : Int32).toInt ∧ ((Tv 0) : Int32).toInt ≤ 400 ∧ 0 ≤ (sv_137 : Int32).toInt ∧ (sv_137 : Int32).toInt ≤ 400 ∧ 0 ≤ (sv_138 : Int32).toInt ∧ (sv_138 : Int32).toInt ≤ 400 := pf_140
              have pf_141 : TpR (Tf 1) (Tv 0) (rSK (cB (Tf 1) (Tv 0)) (rTE (cB (Tf 1) (Tv 0)) rq_44)) sv_137 sv_138 sv_139 vy_34 := pf_141
              rw [rNX_eq] at pf_141
              obtain ⟨ro_142, ero_142⟩ : ∃ z : Except Int (Nat × Nat), z = (rNX (cB (Tf 1) (Tv 0)) rq_44) := ⟨_, rfl⟩
              rw [← ero_142] at pf_141
              have tb_143 : TpB (rTE (cB (Tf 1) (Tv 0)) ro_142) sv_138 vy_34 := TpR.tb pf_141
              have cd_144 : Ctd ro_142 vy_29 := by rw [ero_142]; exact (Ctd.nx pf_46)
              refine W.eq (g2 := F0 m 64 ls []) rfl ?_
              replace hP : va_P D classes [((Va 0), .inr (7, [.ref (Va 1), .int vy_28, .int vy_29])), ((Va 1), .inl (tc 0, 400, .inl vy_30)), ((Ta 0), .inr (10, [.ref (Ta 1), .int (Tv 0), .int sv_137, .int sv_138, .int sv_139, .int vy_34])), ((Ta 1), .inl (tc 0, 400, .inl (Tf 1)))] H := hP₀
              replace hD : va_D A [((Va 0), .inr (7, [.ref (Va 1), .int vy_28, .int vy_29])), ((Va 1), .inl (tc 0, 400, .inl vy_30)), ((Ta 0), .inr (10, [.ref (Ta 1), .int (Tv 0), .int sv_137, .int sv_138, .int sv_139, .int vy_34])), ((Ta 1), .inl (tc 0, 400, .inl (Tf 1)))] := hD₀
              replace hS := hS₀
              clear hP₀ hD₀ hS₀
              refine lv_aload_n hx hb dX7_readTest_64 rfl (lv_at hl 3 rfl) ?_
              refine lv_aload_n hx hb dX7_readTest_65 rfl (lv_at hl 4 rfl) ?_
              refine lv_iload_n hx hb dX7_readTest_66 rfl (lv_at hl 5 rfl) ?_
              refine cV (a := (Va 0)) (As := [.ref (Ta 0), .int 5]) (rest := []) (wr := []) ⟨hx, hb, hml, hown, hts⟩ hK hX hA (cu_fX7_readFact_5 l D tc sk (Va 0) (Va 1) vy_28 vy_29 vy_30 (Ta 0) (Ta 1) (Tv 0) sv_137 sv_138 sv_139 vy_34 (Tf 1) ro_142 pf_140 pf_41 h_by pf_141 cd_144) k_659 k_656 k_658 k_12 k_99 pl_X7_readFact ⟨Nat.le_of_ble_eq_true rfl, Nat.le_of_ble_eq_true rfl⟩ rfl rfl (va_recv hK hP (ci := 7) (q0 := 0) rfl rfl) hP hD hS [0, 1, 2, 3] [] rfl rfl rfl rfl rfl (by decide) rfl hl.1 rfl (Nat.le_of_ble_eq_true rfl) dX7_readTest_67 ⟨Nat.le_of_ble_eq_true rfl, Nat.le_of_ble_eq_true rfl⟩ (fun v_145 u_146 H locs hv_147 hP₀ hD₀ hS₀ => ?_)
              obtain ⟨sv_148, sv_149, sv_150, sv_151, sv_152, sv_153, sv_154⟩ := u_146
              obtain ⟨rfl, pf_155, pf_156, pf_157, pf_158⟩ := hv_147
              have pf_155 : 0 ≤ ((Tv 0) : Int32).toInt ∧ ((Tv 0) : Int32).toInt ≤ 400 ∧ 0 ≤ (sv_151 : Int32).toInt ∧ (sv_151 : Int32).toInt ≤ 400 ∧ 0 ≤ (sv_152 : Int32).toInt ∧ (sv_152 : Int32).toInt ≤ 400 := pf_155
              have pf_156 : 0 ≤ (sv_148 : Int32).toInt ∧ (sv_148 : Int32).toInt ≤ 400 := pf_156
              have pf_157 : TpR (Tf 1) (Tv 0) (pz_b ro_142 (pz_fact (cB (Tf 1) (Tv 0)) 5)) sv_151 sv_152 sv_153 sv_154 := pf_157
              obtain ⟨ro_159, ero_159⟩ : ∃ z : Except Int (Nat × Nat), z = (pz_b ro_142 (pz_fact (cB (Tf 1) (Tv 0)) 5)) := ⟨_, rfl⟩
              rw [← ero_159] at pf_157
              have tb_160 : TpB (rTE (cB (Tf 1) (Tv 0)) ro_159) sv_152 sv_154 := TpR.tb pf_157
              have pf_158 : Ctd (pz_b ro_142 (pz_fact (cB (Tf 1) (Tv 0)) 5)) sv_149 := pf_158
              rw [← ero_159] at pf_158
              refine W.eq (g2 := F0 m 70 ls []) rfl ?_
              replace hP : va_P D classes [((Va 0), .inr (7, [.ref (Va 1), .int sv_148, .int sv_149])), ((Va 1), .inl (tc 0, 400, .inl sv_150)), ((Ta 0), .inr (10, [.ref (Ta 1), .int (Tv 0), .int sv_151, .int sv_152, .int sv_153, .int sv_154])), ((Ta 1), .inl (tc 0, 400, .inl (Tf 1)))] H := hP₀
              replace hD : va_D A [((Va 0), .inr (7, [.ref (Va 1), .int sv_148, .int sv_149])), ((Va 1), .inl (tc 0, 400, .inl sv_150)), ((Ta 0), .inr (10, [.ref (Ta 1), .int (Tv 0), .int sv_151, .int sv_152, .int sv_153, .int sv_154])), ((Ta 1), .inl (tc 0, 400, .inl (Tf 1)))] := hD₀
              replace hS := hS₀
              clear hP₀ hD₀ hS₀
              refine lv_iload hx hb dX7_readTest_70 (lv_at hl 0 rfl) ?_
              refine lv_if_eq (tgt := 80) hx hb dX7_readTest_72 (by decide) (fun c_161 => ?_) (fun c_161 => ?_)
              · skip
                exfalso
                have z_1 := Int32.lt_iff_toInt_lt.mp (Int32.not_le.mp c_50)
                have z_2 : ¬ (r_70 : Int32).toInt = (0 : Int32).toInt := fun z => c_75 (Int32.toInt_inj.mp z)
                have z_3 : ¬ (r_82 : Int32).toInt = (0 : Int32).toInt := fun z => c_87 (Int32.toInt_inj.mp z)
                have z_4 := congrArg Int32.toInt c_133
                have z_5 := congrArg Int32.toInt c_161
                have y_0 : (0 : Int32).toInt = 0 := by decide
                have y_400 : (400 : Int32).toInt = 400 := by decide
                omega
              · skip
                refine lv_iconst (v := 1) hx hb dX7_readTest_75 (by decide) ?_
                refine lv_istore_n (lv' := [(3, .int 1), (5, .int r_82), (4, .int vy_27), (0, .ref (Va 0)), (1, .ref (Ta 0)), (2, .int 5)]) hx hb dX7_readTest_76 rfl hl (by decide) rfl (fun ls hl₀ => ?_)
                replace hl := hl₀
                clear hl₀
                refine lv_goto (tgt := 86) hx hb dX7_readTest_77 (by decide) ?_
                obtain ⟨x_162, ex_162⟩ : ∃ y : Int32, y = vy_27 + 1 := ⟨_, rfl⟩
                refine lv_iinc (v := x_162) (lv' := [(4, .int x_162), (3, .int 1), (5, .int r_82), (0, .ref (Va 0)), (1, .ref (Ta 0)), (2, .int 5)]) hx hb dX7_readTest_86 hl (k := 2) rfl (by rw [ex_162]; rfl) (by decide) rfl (fun ls hl₀ => ?_)
                replace hl := hl₀
                clear hl₀
                refine lv_goto (tgt := 11) hx hb dX7_readTest_89 (by decide) ?_
                have hb_163 : 401 - (x_162 : Int32).toInt < 401 - (vy_27 : Int32).toInt ∧ 1 ≤ 401 - (vy_27 : Int32).toInt := by
                  have z_1 := Int32.lt_iff_toInt_lt.mp (Int32.not_le.mp c_50)
                  have z_2 : ¬ (r_70 : Int32).toInt = (0 : Int32).toInt := fun z => c_75 (Int32.toInt_inj.mp z)
                  have z_3 : ¬ (r_82 : Int32).toInt = (0 : Int32).toInt := fun z => c_87 (Int32.toInt_inj.mp z)
                  have z_4 := congrArg Int32.toInt c_133
                  have z_5 : ¬ (r_82 : Int32).toInt = (0 : Int32).toInt := fun z => c_161 (Int32.toInt_inj.mp z)
                  have y_0 : (0 : Int32).toInt = 0 := by decide
                  have y_400 : (400 : Int32).toInt = 400 := by decide
                  have y_1 : (1 : Int32).toInt = 1 := by decide
                  have t_x_162 : x_162.toInt = (vy_27 : Int32).toInt + (1 : Int32).toInt := by rw [ex_162]; exact add_toInt (by omega) (by omega)
                  omega
                have ha_164 : 0 ≤ (x_162 : Int32).toInt ∧ (x_162 : Int32).toInt ≤ 400 := by
                  have z_1 := Int32.lt_iff_toInt_lt.mp (Int32.not_le.mp c_50)
                  have z_2 : ¬ (r_70 : Int32).toInt = (0 : Int32).toInt := fun z => c_75 (Int32.toInt_inj.mp z)
                  have z_3 : ¬ (r_82 : Int32).toInt = (0 : Int32).toInt := fun z => c_87 (Int32.toInt_inj.mp z)
                  have z_4 := congrArg Int32.toInt c_133
                  have z_5 : ¬ (r_82 : Int32).toInt = (0 : Int32).toInt := fun z => c_161 (Int32.toInt_inj.mp z)
                  have y_0 : (0 : Int32).toInt = 0 := by decide
                  have y_400 : (400 : Int32).toInt = 400 := by decide
                  have y_1 : (1 : Int32).toInt = 1 := by decide
                  have t_x_162 : x_162.toInt = (vy_27 : Int32).toInt + (1 : Int32).toInt := by rw [ex_162]; exact add_toInt (by omega) (by omega)
                  omega
                have hu_165 : TpR (Tf 1) (Tv 0) (pz_b (rNX (cB (Tf 1) (Tv 0)) rq_44) (pz_fact (cB (Tf 1) (Tv 0)) 5)) sv_151 sv_152 sv_153 sv_154 := by
                  rw [← ero_142, ← ero_159]
                  exact pf_157
                have hu_166 : Ctd (pz_b (rNX (cB (Tf 1) (Tv 0)) rq_44) (pz_fact (cB (Tf 1) (Tv 0)) 5)) sv_149 := by
                  rw [← ero_142, ← ero_159]
                  exact pf_158
                have hw_167 : TWd (cB (Tf 1) (Tv 0)) pz_and rq_44 := by
                  rw [← wS5]
                  exact pf_76
                have hi_168 : (x_162 : Int32).toInt = (vy_27 : Int32).toInt + 1 := by
                  have z_1 := Int32.lt_iff_toInt_lt.mp (Int32.not_le.mp c_50)
                  have z_2 : ¬ (r_70 : Int32).toInt = (0 : Int32).toInt := fun z => c_75 (Int32.toInt_inj.mp z)
                  have z_3 : ¬ (r_82 : Int32).toInt = (0 : Int32).toInt := fun z => c_87 (Int32.toInt_inj.mp z)
                  have z_4 := congrArg Int32.toInt c_133
                  have z_5 : ¬ (r_82 : Int32).toInt = (0 : Int32).toInt := fun z => c_161 (Int32.toInt_inj.mp z)
                  have y_0 : (0 : Int32).toInt = 0 := by decide
                  have y_400 : (400 : Int32).toInt = 400 := by decide
                  have y_1 : (1 : Int32).toInt = 1 := by decide
                  have t_x_162 : x_162.toInt = (vy_27 : Int32).toInt + (1 : Int32).toInt := by rw [ex_162]; exact add_toInt (by omega) (by omega)
                  omega
                exact ih_37 x_162 sv_148 sv_149 sv_150 sv_151 sv_152 sv_153 sv_154 1 _ _ _ (by omega) ha_164 pf_155 pf_156 (TeL.next h_tape.2.1 pf_47 pf_48 (Or.inl hw_167) hu_165 hu_166 hi_168) (hP.sub [0, 1, 2, 3] rfl) (hD.sub [0, 1, 2, 3] rfl rfl) hS (lv_sub hl [0, 1, 3, 4, 5] rfl)
            · skip
              refine lv_aload_n hx hb dX7_readTest_54 rfl (lv_at hl 3 rfl) ?_
              refine lv_bipush (v := (-6)) hx hb dX7_readTest_55 (by decide) ?_
              refine cV (a := (Va 0)) (As := [.int (-6)]) (rest := []) (wr := [((Ta 0), .inr (10, [.ref (Ta 1), .int (Tv 0), .int vy_31, .int vy_32, .int vy_33, .int vy_34])), ((Ta 1), .inl (tc 0, 400, .inl (Tf 1)))]) ⟨hx, hb, hml, hown, hts⟩ hK hX hA (cu_fX7_put l D tc sk (Va 0) (Va 1) vy_28 vy_29 vy_30 (-6) pf_41) k_642 k_639 k_641 k_10 k_99 pl_X7_put ⟨Nat.le_of_ble_eq_true rfl, Nat.le_of_ble_eq_true rfl⟩ rfl rfl (va_recv hK hP (ci := 7) (q0 := 0) rfl rfl) hP hD hS [0, 1] [2, 3] rfl rfl rfl rfl rfl (by decide) rfl hl.1 rfl (Nat.le_of_ble_eq_true rfl) dX7_readTest_57 ⟨Nat.le_of_ble_eq_true rfl, Nat.le_of_ble_eq_true rfl⟩ (fun v_169 u_170 H locs hv_171 hP₀ hD₀ hS₀ => ?_)
              obtain ⟨sv_172, sv_173⟩ := u_170
              obtain ⟨rfl, pf_174⟩ := hv_171
              have pf_174 : 0 ≤ (sv_172 : Int32).toInt ∧ (sv_172 : Int32).toInt ≤ 400 := pf_174
              refine W.eq (g2 := F0 m 60 ls []) rfl ?_
              replace hP : va_P D classes [((Ta 0), .inr (10, [.ref (Ta 1), .int (Tv 0), .int vy_31, .int vy_32, .int vy_33, .int vy_34])), ((Ta 1), .inl (tc 0, 400, .inl (Tf 1))), ((Va 0), .inr (7, [.ref (Va 1), .int sv_172, .int vy_29])), ((Va 1), .inl (tc 0, 400, .inl sv_173))] H := hP₀
              replace hD : va_D A [((Ta 0), .inr (10, [.ref (Ta 1), .int (Tv 0), .int vy_31, .int vy_32, .int vy_33, .int vy_34])), ((Ta 1), .inl (tc 0, 400, .inl (Tf 1))), ((Va 0), .inr (7, [.ref (Va 1), .int sv_172, .int vy_29])), ((Va 1), .inl (tc 0, 400, .inl sv_173))] := hD₀
              replace hS := hS₀
              clear hP₀ hD₀ hS₀
              refine lv_aload_n hx hb dX7_readTest_60 rfl (lv_at hl 4 rfl) ?_
              refine cV (a := (Ta 0)) (As := []) (rest := []) (wr := [((Va 0), .inr (7, [.ref (Va 1), .int sv_172, .int vy_29])), ((Va 1), .inl (tc 0, 400, .inl sv_173))]) ⟨hx, hb, hml, hown, hts⟩ hK hX hA (cu_fX10_step l D tc sk (Ta 0) (Ta 1) (Tv 0) vy_31 vy_32 vy_33 vy_34 (Tf 1) (rTE (cB (Tf 1) (Tv 0)) rq_44) pf_40 h_by tb_49) k_478 k_620 k_476 k_477 k_96 pl_X10_step ⟨Nat.le_of_ble_eq_true rfl, Nat.le_of_ble_eq_true rfl⟩ rfl rfl (va_recv hK hP (ci := 10) (q0 := 0) rfl rfl) hP hD hS [0, 1] [2, 3] rfl rfl rfl rfl rfl (by decide) rfl hl.1 rfl (Nat.le_of_ble_eq_true rfl) dX7_readTest_61 ⟨Nat.le_of_ble_eq_true rfl, Nat.le_of_ble_eq_true rfl⟩ (fun v_175 u_176 H locs hv_177 hP₀ hD₀ hS₀ => ?_)
              obtain ⟨sv_178, sv_179, sv_180⟩ := u_176
              obtain ⟨rfl, pf_181, pf_182⟩ := hv_177
              have pf_181 : 0 ≤ ((Tv 0) : Int32).toInt ∧ ((Tv 0) : Int32).toInt ≤ 400 ∧ 0 ≤ (sv_178 : Int32).toInt ∧ (sv_178 : Int32).toInt ≤ 400 ∧ 0 ≤ (sv_179 : Int32).toInt ∧ (sv_179 : Int32).toInt ≤ 400 := pf_181
              have pf_182 : TpR (Tf 1) (Tv 0) (rSK (cB (Tf 1) (Tv 0)) (rTE (cB (Tf 1) (Tv 0)) rq_44)) sv_178 sv_179 sv_180 vy_34 := pf_182
              rw [rNX_eq] at pf_182
              obtain ⟨ro_183, ero_183⟩ : ∃ z : Except Int (Nat × Nat), z = (rNX (cB (Tf 1) (Tv 0)) rq_44) := ⟨_, rfl⟩
              rw [← ero_183] at pf_182
              have tb_184 : TpB (rTE (cB (Tf 1) (Tv 0)) ro_183) sv_179 vy_34 := TpR.tb pf_182
              have cd_185 : Ctd ro_183 vy_29 := by rw [ero_183]; exact (Ctd.nx pf_46)
              refine W.eq (g2 := F0 m 64 ls []) rfl ?_
              replace hP : va_P D classes [((Va 0), .inr (7, [.ref (Va 1), .int sv_172, .int vy_29])), ((Va 1), .inl (tc 0, 400, .inl sv_173)), ((Ta 0), .inr (10, [.ref (Ta 1), .int (Tv 0), .int sv_178, .int sv_179, .int sv_180, .int vy_34])), ((Ta 1), .inl (tc 0, 400, .inl (Tf 1)))] H := hP₀
              replace hD : va_D A [((Va 0), .inr (7, [.ref (Va 1), .int sv_172, .int vy_29])), ((Va 1), .inl (tc 0, 400, .inl sv_173)), ((Ta 0), .inr (10, [.ref (Ta 1), .int (Tv 0), .int sv_178, .int sv_179, .int sv_180, .int vy_34])), ((Ta 1), .inl (tc 0, 400, .inl (Tf 1)))] := hD₀
              replace hS := hS₀
              clear hP₀ hD₀ hS₀
              refine lv_aload_n hx hb dX7_readTest_64 rfl (lv_at hl 3 rfl) ?_
              refine lv_aload_n hx hb dX7_readTest_65 rfl (lv_at hl 4 rfl) ?_
              refine lv_iload_n hx hb dX7_readTest_66 rfl (lv_at hl 5 rfl) ?_
              refine cV (a := (Va 0)) (As := [.ref (Ta 0), .int 5]) (rest := []) (wr := []) ⟨hx, hb, hml, hown, hts⟩ hK hX hA (cu_fX7_readFact_5 l D tc sk (Va 0) (Va 1) sv_172 vy_29 sv_173 (Ta 0) (Ta 1) (Tv 0) sv_178 sv_179 sv_180 vy_34 (Tf 1) ro_183 pf_181 pf_174 h_by pf_182 cd_185) k_659 k_656 k_658 k_12 k_99 pl_X7_readFact ⟨Nat.le_of_ble_eq_true rfl, Nat.le_of_ble_eq_true rfl⟩ rfl rfl (va_recv hK hP (ci := 7) (q0 := 0) rfl rfl) hP hD hS [0, 1, 2, 3] [] rfl rfl rfl rfl rfl (by decide) rfl hl.1 rfl (Nat.le_of_ble_eq_true rfl) dX7_readTest_67 ⟨Nat.le_of_ble_eq_true rfl, Nat.le_of_ble_eq_true rfl⟩ (fun v_186 u_187 H locs hv_188 hP₀ hD₀ hS₀ => ?_)
              obtain ⟨sv_189, sv_190, sv_191, sv_192, sv_193, sv_194, sv_195⟩ := u_187
              obtain ⟨rfl, pf_196, pf_197, pf_198, pf_199⟩ := hv_188
              have pf_196 : 0 ≤ ((Tv 0) : Int32).toInt ∧ ((Tv 0) : Int32).toInt ≤ 400 ∧ 0 ≤ (sv_192 : Int32).toInt ∧ (sv_192 : Int32).toInt ≤ 400 ∧ 0 ≤ (sv_193 : Int32).toInt ∧ (sv_193 : Int32).toInt ≤ 400 := pf_196
              have pf_197 : 0 ≤ (sv_189 : Int32).toInt ∧ (sv_189 : Int32).toInt ≤ 400 := pf_197
              have pf_198 : TpR (Tf 1) (Tv 0) (pz_b ro_183 (pz_fact (cB (Tf 1) (Tv 0)) 5)) sv_192 sv_193 sv_194 sv_195 := pf_198
              obtain ⟨ro_200, ero_200⟩ : ∃ z : Except Int (Nat × Nat), z = (pz_b ro_183 (pz_fact (cB (Tf 1) (Tv 0)) 5)) := ⟨_, rfl⟩
              rw [← ero_200] at pf_198
              have tb_201 : TpB (rTE (cB (Tf 1) (Tv 0)) ro_200) sv_193 sv_195 := TpR.tb pf_198
              have pf_199 : Ctd (pz_b ro_183 (pz_fact (cB (Tf 1) (Tv 0)) 5)) sv_190 := pf_199
              rw [← ero_200] at pf_199
              refine W.eq (g2 := F0 m 70 ls []) rfl ?_
              replace hP : va_P D classes [((Va 0), .inr (7, [.ref (Va 1), .int sv_189, .int sv_190])), ((Va 1), .inl (tc 0, 400, .inl sv_191)), ((Ta 0), .inr (10, [.ref (Ta 1), .int (Tv 0), .int sv_192, .int sv_193, .int sv_194, .int sv_195])), ((Ta 1), .inl (tc 0, 400, .inl (Tf 1)))] H := hP₀
              replace hD : va_D A [((Va 0), .inr (7, [.ref (Va 1), .int sv_189, .int sv_190])), ((Va 1), .inl (tc 0, 400, .inl sv_191)), ((Ta 0), .inr (10, [.ref (Ta 1), .int (Tv 0), .int sv_192, .int sv_193, .int sv_194, .int sv_195])), ((Ta 1), .inl (tc 0, 400, .inl (Tf 1)))] := hD₀
              replace hS := hS₀
              clear hP₀ hD₀ hS₀
              refine lv_iload hx hb dX7_readTest_70 (lv_at hl 0 rfl) ?_
              refine lv_if_eq (tgt := 80) hx hb dX7_readTest_72 (by decide) (fun c_202 => ?_) (fun c_202 => ?_)
              · skip
                exfalso
                have z_1 := Int32.lt_iff_toInt_lt.mp (Int32.not_le.mp c_50)
                have z_2 : ¬ (r_70 : Int32).toInt = (0 : Int32).toInt := fun z => c_75 (Int32.toInt_inj.mp z)
                have z_3 : ¬ (r_82 : Int32).toInt = (0 : Int32).toInt := fun z => c_87 (Int32.toInt_inj.mp z)
                have z_4 : ¬ (vy_35 : Int32).toInt = (0 : Int32).toInt := fun z => c_133 (Int32.toInt_inj.mp z)
                have z_5 := congrArg Int32.toInt c_202
                have y_0 : (0 : Int32).toInt = 0 := by decide
                have y_400 : (400 : Int32).toInt = 400 := by decide
                omega
              · skip
                refine lv_iconst (v := 1) hx hb dX7_readTest_75 (by decide) ?_
                refine lv_istore_n (lv' := [(3, .int 1), (5, .int r_82), (4, .int vy_27), (0, .ref (Va 0)), (1, .ref (Ta 0)), (2, .int 5)]) hx hb dX7_readTest_76 rfl hl (by decide) rfl (fun ls hl₀ => ?_)
                replace hl := hl₀
                clear hl₀
                refine lv_goto (tgt := 86) hx hb dX7_readTest_77 (by decide) ?_
                obtain ⟨x_203, ex_203⟩ : ∃ y : Int32, y = vy_27 + 1 := ⟨_, rfl⟩
                refine lv_iinc (v := x_203) (lv' := [(4, .int x_203), (3, .int 1), (5, .int r_82), (0, .ref (Va 0)), (1, .ref (Ta 0)), (2, .int 5)]) hx hb dX7_readTest_86 hl (k := 2) rfl (by rw [ex_203]; rfl) (by decide) rfl (fun ls hl₀ => ?_)
                replace hl := hl₀
                clear hl₀
                refine lv_goto (tgt := 11) hx hb dX7_readTest_89 (by decide) ?_
                have hb_204 : 401 - (x_203 : Int32).toInt < 401 - (vy_27 : Int32).toInt ∧ 1 ≤ 401 - (vy_27 : Int32).toInt := by
                  have z_1 := Int32.lt_iff_toInt_lt.mp (Int32.not_le.mp c_50)
                  have z_2 : ¬ (r_70 : Int32).toInt = (0 : Int32).toInt := fun z => c_75 (Int32.toInt_inj.mp z)
                  have z_3 : ¬ (r_82 : Int32).toInt = (0 : Int32).toInt := fun z => c_87 (Int32.toInt_inj.mp z)
                  have z_4 : ¬ (vy_35 : Int32).toInt = (0 : Int32).toInt := fun z => c_133 (Int32.toInt_inj.mp z)
                  have z_5 : ¬ (r_82 : Int32).toInt = (0 : Int32).toInt := fun z => c_202 (Int32.toInt_inj.mp z)
                  have y_0 : (0 : Int32).toInt = 0 := by decide
                  have y_400 : (400 : Int32).toInt = 400 := by decide
                  have y_1 : (1 : Int32).toInt = 1 := by decide
                  have t_x_203 : x_203.toInt = (vy_27 : Int32).toInt + (1 : Int32).toInt := by rw [ex_203]; exact add_toInt (by omega) (by omega)
                  omega
                have ha_205 : 0 ≤ (x_203 : Int32).toInt ∧ (x_203 : Int32).toInt ≤ 400 := by
                  have z_1 := Int32.lt_iff_toInt_lt.mp (Int32.not_le.mp c_50)
                  have z_2 : ¬ (r_70 : Int32).toInt = (0 : Int32).toInt := fun z => c_75 (Int32.toInt_inj.mp z)
                  have z_3 : ¬ (r_82 : Int32).toInt = (0 : Int32).toInt := fun z => c_87 (Int32.toInt_inj.mp z)
                  have z_4 : ¬ (vy_35 : Int32).toInt = (0 : Int32).toInt := fun z => c_133 (Int32.toInt_inj.mp z)
                  have z_5 : ¬ (r_82 : Int32).toInt = (0 : Int32).toInt := fun z => c_202 (Int32.toInt_inj.mp z)
                  have y_0 : (0 : Int32).toInt = 0 := by decide
                  have y_400 : (400 : Int32).toInt = 400 := by decide
                  have y_1 : (1 : Int32).toInt = 1 := by decide
                  have t_x_203 : x_203.toInt = (vy_27 : Int32).toInt + (1 : Int32).toInt := by rw [ex_203]; exact add_toInt (by omega) (by omega)
                  omega
                have hu_206 : TpR (Tf 1) (Tv 0) (pz_b (rNX (cB (Tf 1) (Tv 0)) rq_44) (pz_fact (cB (Tf 1) (Tv 0)) 5)) sv_192 sv_193 sv_194 sv_195 := by
                  rw [← ero_183, ← ero_200]
                  exact pf_198
                have hu_207 : Ctd (pz_b (rNX (cB (Tf 1) (Tv 0)) rq_44) (pz_fact (cB (Tf 1) (Tv 0)) 5)) sv_190 := by
                  rw [← ero_183, ← ero_200]
                  exact pf_199
                have hw_208 : TWd (cB (Tf 1) (Tv 0)) pz_and rq_44 := by
                  rw [← wS5]
                  exact pf_76
                have hi_209 : (x_203 : Int32).toInt = (vy_27 : Int32).toInt + 1 := by
                  have z_1 := Int32.lt_iff_toInt_lt.mp (Int32.not_le.mp c_50)
                  have z_2 : ¬ (r_70 : Int32).toInt = (0 : Int32).toInt := fun z => c_75 (Int32.toInt_inj.mp z)
                  have z_3 : ¬ (r_82 : Int32).toInt = (0 : Int32).toInt := fun z => c_87 (Int32.toInt_inj.mp z)
                  have z_4 : ¬ (vy_35 : Int32).toInt = (0 : Int32).toInt := fun z => c_133 (Int32.toInt_inj.mp z)
                  have z_5 : ¬ (r_82 : Int32).toInt = (0 : Int32).toInt := fun z => c_202 (Int32.toInt_inj.mp z)
                  have y_0 : (0 : Int32).toInt = 0 := by decide
                  have y_400 : (400 : Int32).toInt = 400 := by decide
                  have y_1 : (1 : Int32).toInt = 1 := by decide
                  have t_x_203 : x_203.toInt = (vy_27 : Int32).toInt + (1 : Int32).toInt := by rw [ex_203]; exact add_toInt (by omega) (by omega)
                  omega
                exact ih_37 x_203 sv_189 sv_190 sv_191 sv_192 sv_193 sv_194 sv_195 1 _ _ _ (by omega) ha_205 pf_196 pf_197 (TeL.next h_tape.2.1 pf_47 pf_48 (Or.inl hw_208) hu_206 hu_207 hi_209) (hP.sub [0, 1, 2, 3] rfl) (hD.sub [0, 1, 2, 3] rfl rfl) hS (lv_sub hl [0, 1, 3, 4, 5] rfl)
        · skip
          have hz_211 : (r_70 : Int32).toInt = 0 := by
            have z_1 := Int32.lt_iff_toInt_lt.mp (Int32.not_le.mp c_50)
            have z_2 := congrArg Int32.toInt c_75
            have y_0 : (0 : Int32).toInt = 0 := by decide
            have y_400 : (400 : Int32).toInt = 400 := by decide
            omega
          obtain pf_210 := hm_74 hz_211
          have pf_210 : NWd (cB (Tf 1) (Tv 0)) (wS (5 : Nat)) rq_44 := pf_210
          refine lv_aload_n hx hb dX7_readTest_28 rfl (lv_at hl 3 rfl) ?_
          refine va_ldcS hx hb hown (sx_6 hX) dX7_readTest_29 ?_
          have ha_212 : (6 : Nat) < 7 := by
            have z_1 := Int32.lt_iff_toInt_lt.mp (Int32.not_le.mp c_50)
            have z_2 := congrArg Int32.toInt c_75
            have y_0 : (0 : Int32).toInt = 0 := by decide
            have y_400 : (400 : Int32).toInt = 400 := by decide
            have y_6 : (6 : Int32).toInt = 6 := by decide
            omega
          refine cV (a := (Ta 0)) (As := [.ref (sk.1 6)]) (rest := []) (wr := [((Va 0), .inr (7, [.ref (Va 1), .int vy_28, .int vy_29])), ((Va 1), .inl (tc 0, 400, .inl vy_30))]) ⟨hx, hb, hml, hown, hts⟩ hK hX hA (cu_fX10_isWord l D tc sk (Ta 0) (Ta 1) (Tv 0) vy_31 vy_32 vy_33 vy_34 (Tf 1) 6 rq_44 ha_212 pf_40 h_by pf_45) k_618 k_615 k_616 k_617 k_96 pl_X10_isWord ⟨Nat.le_of_ble_eq_true rfl, Nat.le_of_ble_eq_true rfl⟩ rfl rfl (va_recv hK hP (ci := 10) (q0 := 2) rfl rfl) hP hD hS [2, 3] [0, 1] rfl rfl rfl rfl rfl (by decide) rfl hl.1 rfl (Nat.le_of_ble_eq_true rfl) dX7_readTest_31 ⟨Nat.le_of_ble_eq_true rfl, Nat.le_of_ble_eq_true rfl⟩ (fun v_213 u_214 H locs hv_215 hP₀ hD₀ hS₀ => ?_)
          obtain ⟨r_216, rfl, he_217, hm_219, hm_220⟩ := hv_215
          have he_217 : (r_216.toInt = 0 ∨ r_216.toInt = 1) := he_217
          refine W.eq (g2 := F0 m 34 ls [.int r_216]) rfl ?_
          replace hP : va_P D classes [((Va 0), .inr (7, [.ref (Va 1), .int vy_28, .int vy_29])), ((Va 1), .inl (tc 0, 400, .inl vy_30)), ((Ta 0), .inr (10, [.ref (Ta 1), .int (Tv 0), .int vy_31, .int vy_32, .int vy_33, .int vy_34])), ((Ta 1), .inl (tc 0, 400, .inl (Tf 1)))] H := hP₀
          replace hD : va_D A [((Va 0), .inr (7, [.ref (Va 1), .int vy_28, .int vy_29])), ((Va 1), .inl (tc 0, 400, .inl vy_30)), ((Ta 0), .inr (10, [.ref (Ta 1), .int (Tv 0), .int vy_31, .int vy_32, .int vy_33, .int vy_34])), ((Ta 1), .inl (tc 0, 400, .inl (Tf 1)))] := hD₀
          replace hS := hS₀
          clear hP₀ hD₀ hS₀
          refine lv_if_eq (tgt := 92) hx hb dX7_readTest_34 (by decide) (fun c_221 => ?_) (fun c_221 => ?_)
          · skip
            have hz_223 : (r_216 : Int32).toInt = 0 := by
              have z_1 := Int32.lt_iff_toInt_lt.mp (Int32.not_le.mp c_50)
              have z_2 := congrArg Int32.toInt c_75
              have z_3 := congrArg Int32.toInt c_221
              have y_0 : (0 : Int32).toInt = 0 := by decide
              have y_400 : (400 : Int32).toInt = 400 := by decide
              omega
            obtain pf_222 := hm_220 hz_223
            have pf_222 : NWd (cB (Tf 1) (Tv 0)) (wS (6 : Nat)) rq_44 := pf_222
            refine lv_iload_n hx hb dX7_readTest_92 rfl (lv_at hl 1 rfl) ?_
            refine lv_if_eq (tgt := 102) hx hb dX7_readTest_93 (by decide) (fun c_224 => ?_) (fun c_224 => ?_)
            · skip
              have hf_225 : TpR (Tf 1) (Tv 0) (pz_b rr (pz_tst (cB (Tf 1) (Tv 0)) (pz_fact (cB (Tf 1) (Tv 0)) 5))) vy_31 vy_32 vy_33 vy_34 := by
                have hw_226 : NWd (cB (Tf 1) (Tv 0)) pz_and rq_44 := by
                  rw [← wS5]
                  exact pf_210
                have hw_227 : NWd (cB (Tf 1) (Tv 0)) pz_or rq_44 := by
                  rw [← wS6]
                  exact pf_222
                rw [pf_47, tst_end h_tape.2.1 pf_48 (Or.inr ⟨hw_226, hw_227⟩)]
                exact pf_45
              have hf_228 : Ctd (pz_b rr (pz_tst (cB (Tf 1) (Tv 0)) (pz_fact (cB (Tf 1) (Tv 0)) 5))) vy_29 := by
                have hw_229 : NWd (cB (Tf 1) (Tv 0)) pz_and rq_44 := by
                  rw [← wS5]
                  exact pf_210
                have hw_230 : NWd (cB (Tf 1) (Tv 0)) pz_or rq_44 := by
                  rw [← wS6]
                  exact pf_222
                rw [pf_47, tst_end h_tape.2.1 pf_48 (Or.inr ⟨hw_229, hw_230⟩)]
                exact pf_46
              exact retV hx hb hr hlk hP hD hS (vy_28, vy_29, vy_30, vy_31, vy_32, vy_33, vy_34) ⟨rfl, pf_40, pf_41, hf_225, hf_228⟩ [0, 1, 2, 3] rfl rfl dX7_readTest_102 (Nat.le_of_ble_eq_true rfl) (Nat.le_of_ble_eq_true rfl) rfl
            · skip
              refine lv_aload_n hx hb dX7_readTest_96 rfl (lv_at hl 2 rfl) ?_
              refine lv_bipush (v := (-6)) hx hb dX7_readTest_97 (by decide) ?_
              refine cV (a := (Va 0)) (As := [.int (-6)]) (rest := []) (wr := [((Ta 0), .inr (10, [.ref (Ta 1), .int (Tv 0), .int vy_31, .int vy_32, .int vy_33, .int vy_34])), ((Ta 1), .inl (tc 0, 400, .inl (Tf 1)))]) ⟨hx, hb, hml, hown, hts⟩ hK hX hA (cu_fX7_put l D tc sk (Va 0) (Va 1) vy_28 vy_29 vy_30 (-6) pf_41) k_642 k_639 k_641 k_10 k_99 pl_X7_put ⟨Nat.le_of_ble_eq_true rfl, Nat.le_of_ble_eq_true rfl⟩ rfl rfl (va_recv hK hP (ci := 7) (q0 := 0) rfl rfl) hP hD hS [0, 1] [2, 3] rfl rfl rfl rfl rfl (by decide) rfl hl.1 rfl (Nat.le_of_ble_eq_true rfl) dX7_readTest_99 ⟨Nat.le_of_ble_eq_true rfl, Nat.le_of_ble_eq_true rfl⟩ (fun v_231 u_232 H locs hv_233 hP₀ hD₀ hS₀ => ?_)
              obtain ⟨sv_234, sv_235⟩ := u_232
              obtain ⟨rfl, pf_236⟩ := hv_233
              have pf_236 : 0 ≤ (sv_234 : Int32).toInt ∧ (sv_234 : Int32).toInt ≤ 400 := pf_236
              refine W.eq (g2 := F0 m 102 ls []) rfl ?_
              replace hP : va_P D classes [((Ta 0), .inr (10, [.ref (Ta 1), .int (Tv 0), .int vy_31, .int vy_32, .int vy_33, .int vy_34])), ((Ta 1), .inl (tc 0, 400, .inl (Tf 1))), ((Va 0), .inr (7, [.ref (Va 1), .int sv_234, .int vy_29])), ((Va 1), .inl (tc 0, 400, .inl sv_235))] H := hP₀
              replace hD : va_D A [((Ta 0), .inr (10, [.ref (Ta 1), .int (Tv 0), .int vy_31, .int vy_32, .int vy_33, .int vy_34])), ((Ta 1), .inl (tc 0, 400, .inl (Tf 1))), ((Va 0), .inr (7, [.ref (Va 1), .int sv_234, .int vy_29])), ((Va 1), .inl (tc 0, 400, .inl sv_235))] := hD₀
              replace hS := hS₀
              clear hP₀ hD₀ hS₀
              have hf_237 : TpR (Tf 1) (Tv 0) (pz_b rr (pz_tst (cB (Tf 1) (Tv 0)) (pz_fact (cB (Tf 1) (Tv 0)) 5))) vy_31 vy_32 vy_33 vy_34 := by
                have hw_238 : NWd (cB (Tf 1) (Tv 0)) pz_and rq_44 := by
                  rw [← wS5]
                  exact pf_210
                have hw_239 : NWd (cB (Tf 1) (Tv 0)) pz_or rq_44 := by
                  rw [← wS6]
                  exact pf_222
                rw [pf_47, tst_end h_tape.2.1 pf_48 (Or.inr ⟨hw_238, hw_239⟩)]
                exact pf_45
              have hf_240 : Ctd (pz_b rr (pz_tst (cB (Tf 1) (Tv 0)) (pz_fact (cB (Tf 1) (Tv 0)) 5))) vy_29 := by
                have hw_241 : NWd (cB (Tf 1) (Tv 0)) pz_and rq_44 := by
                  rw [← wS5]
                  exact pf_210
                have hw_242 : NWd (cB (Tf 1) (Tv 0)) pz_or rq_44 := by
                  rw [← wS6]
                  exact pf_222
                rw [pf_47, tst_end h_tape.2.1 pf_48 (Or.inr ⟨hw_241, hw_242⟩)]
                exact pf_46
              exact retV hx hb hr hlk hP hD hS (sv_234, vy_29, sv_235, vy_31, vy_32, vy_33, vy_34) ⟨rfl, pf_40, pf_236, hf_237, hf_240⟩ [2, 3, 0, 1] rfl rfl dX7_readTest_102 (Nat.le_of_ble_eq_true rfl) (Nat.le_of_ble_eq_true rfl) rfl
          · skip
            have hz_244 : (r_216 : Int32).toInt = 1 := by
              have z_1 := Int32.lt_iff_toInt_lt.mp (Int32.not_le.mp c_50)
              have z_2 := congrArg Int32.toInt c_75
              have z_3 : ¬ (r_216 : Int32).toInt = (0 : Int32).toInt := fun z => c_221 (Int32.toInt_inj.mp z)
              have y_0 : (0 : Int32).toInt = 0 := by decide
              have y_400 : (400 : Int32).toInt = 400 := by decide
              omega
            obtain pf_243 := hm_219 hz_244
            have pf_243 : TWd (cB (Tf 1) (Tv 0)) (wS (6 : Nat)) rq_44 := pf_243
            refine lv_aload_n hx hb dX7_readTest_37 rfl (lv_at hl 3 rfl) ?_
            refine va_ldcS hx hb hown (sx_6 hX) dX7_readTest_38 ?_
            have ha_245 : (6 : Nat) < 7 := by
              have z_1 := Int32.lt_iff_toInt_lt.mp (Int32.not_le.mp c_50)
              have z_2 := congrArg Int32.toInt c_75
              have z_3 : ¬ (r_216 : Int32).toInt = (0 : Int32).toInt := fun z => c_221 (Int32.toInt_inj.mp z)
              have y_0 : (0 : Int32).toInt = 0 := by decide
              have y_400 : (400 : Int32).toInt = 400 := by decide
              have y_6 : (6 : Int32).toInt = 6 := by decide
              omega
            refine cV (a := (Ta 0)) (As := [.ref (sk.1 6)]) (rest := []) (wr := [((Va 0), .inr (7, [.ref (Va 1), .int vy_28, .int vy_29])), ((Va 1), .inl (tc 0, 400, .inl vy_30))]) ⟨hx, hb, hml, hown, hts⟩ hK hX hA (cu_fX10_isWord l D tc sk (Ta 0) (Ta 1) (Tv 0) vy_31 vy_32 vy_33 vy_34 (Tf 1) 6 rq_44 ha_245 pf_40 h_by pf_45) k_618 k_615 k_616 k_617 k_96 pl_X10_isWord ⟨Nat.le_of_ble_eq_true rfl, Nat.le_of_ble_eq_true rfl⟩ rfl rfl (va_recv hK hP (ci := 10) (q0 := 2) rfl rfl) hP hD hS [2, 3] [0, 1] rfl rfl rfl rfl rfl (by decide) rfl hl.1 rfl (Nat.le_of_ble_eq_true rfl) dX7_readTest_40 ⟨Nat.le_of_ble_eq_true rfl, Nat.le_of_ble_eq_true rfl⟩ (fun v_246 u_247 H locs hv_248 hP₀ hD₀ hS₀ => ?_)
            obtain ⟨r_249, rfl, he_250, hm_252, hm_253⟩ := hv_248
            have he_250 : (r_249.toInt = 0 ∨ r_249.toInt = 1) := he_250
            refine W.eq (g2 := F0 m 43 ls [.int r_249]) rfl ?_
            replace hP : va_P D classes [((Va 0), .inr (7, [.ref (Va 1), .int vy_28, .int vy_29])), ((Va 1), .inl (tc 0, 400, .inl vy_30)), ((Ta 0), .inr (10, [.ref (Ta 1), .int (Tv 0), .int vy_31, .int vy_32, .int vy_33, .int vy_34])), ((Ta 1), .inl (tc 0, 400, .inl (Tf 1)))] H := hP₀
            replace hD : va_D A [((Va 0), .inr (7, [.ref (Va 1), .int vy_28, .int vy_29])), ((Va 1), .inl (tc 0, 400, .inl vy_30)), ((Ta 0), .inr (10, [.ref (Ta 1), .int (Tv 0), .int vy_31, .int vy_32, .int vy_33, .int vy_34])), ((Ta 1), .inl (tc 0, 400, .inl (Tf 1)))] := hD₀
            replace hS := hS₀
            clear hP₀ hD₀ hS₀
            refine lv_istore (lv' := [(5, .int r_249), (4, .int vy_27), (3, .int vy_35), (0, .ref (Va 0)), (1, .ref (Ta 0)), (2, .int 5)]) hx hb dX7_readTest_43 hl (by decide) rfl (fun ls hl₀ => ?_)
            replace hl := hl₀
            clear hl₀
            refine lv_iload hx hb dX7_readTest_45 (lv_at hl 0 rfl) ?_
            refine lv_if_eq (tgt := 60) hx hb dX7_readTest_47 (by decide) (fun c_254 => ?_) (fun c_254 => ?_)
            · skip
              have hz_256 : (r_249 : Int32).toInt = 0 := by
                have z_1 := Int32.lt_iff_toInt_lt.mp (Int32.not_le.mp c_50)
                have z_2 := congrArg Int32.toInt c_75
                have z_3 : ¬ (r_216 : Int32).toInt = (0 : Int32).toInt := fun z => c_221 (Int32.toInt_inj.mp z)
                have z_4 := congrArg Int32.toInt c_254
                have y_0 : (0 : Int32).toInt = 0 := by decide
                have y_400 : (400 : Int32).toInt = 400 := by decide
                omega
              obtain pf_255 := hm_253 hz_256
              have pf_255 : NWd (cB (Tf 1) (Tv 0)) (wS (6 : Nat)) rq_44 := pf_255
              refine lv_aload_n hx hb dX7_readTest_60 rfl (lv_at hl 4 rfl) ?_
              refine cV (a := (Ta 0)) (As := []) (rest := []) (wr := [((Va 0), .inr (7, [.ref (Va 1), .int vy_28, .int vy_29])), ((Va 1), .inl (tc 0, 400, .inl vy_30))]) ⟨hx, hb, hml, hown, hts⟩ hK hX hA (cu_fX10_step l D tc sk (Ta 0) (Ta 1) (Tv 0) vy_31 vy_32 vy_33 vy_34 (Tf 1) (rTE (cB (Tf 1) (Tv 0)) rq_44) pf_40 h_by tb_49) k_478 k_620 k_476 k_477 k_96 pl_X10_step ⟨Nat.le_of_ble_eq_true rfl, Nat.le_of_ble_eq_true rfl⟩ rfl rfl (va_recv hK hP (ci := 10) (q0 := 2) rfl rfl) hP hD hS [2, 3] [0, 1] rfl rfl rfl rfl rfl (by decide) rfl hl.1 rfl (Nat.le_of_ble_eq_true rfl) dX7_readTest_61 ⟨Nat.le_of_ble_eq_true rfl, Nat.le_of_ble_eq_true rfl⟩ (fun v_257 u_258 H locs hv_259 hP₀ hD₀ hS₀ => ?_)
              obtain ⟨sv_260, sv_261, sv_262⟩ := u_258
              obtain ⟨rfl, pf_263, pf_264⟩ := hv_259
              have pf_263 : 0 ≤ ((Tv 0) : Int32).toInt ∧ ((Tv 0) : Int32).toInt ≤ 400 ∧ 0 ≤ (sv_260 : Int32).toInt ∧ (sv_260 : Int32).toInt ≤ 400 ∧ 0 ≤ (sv_261 : Int32).toInt ∧ (sv_261 : Int32).toInt ≤ 400 := pf_263
              have pf_264 : TpR (Tf 1) (Tv 0) (rSK (cB (Tf 1) (Tv 0)) (rTE (cB (Tf 1) (Tv 0)) rq_44)) sv_260 sv_261 sv_262 vy_34 := pf_264
              rw [rNX_eq] at pf_264
              obtain ⟨ro_265, ero_265⟩ : ∃ z : Except Int (Nat × Nat), z = (rNX (cB (Tf 1) (Tv 0)) rq_44) := ⟨_, rfl⟩
              rw [← ero_265] at pf_264
              have tb_266 : TpB (rTE (cB (Tf 1) (Tv 0)) ro_265) sv_261 vy_34 := TpR.tb pf_264
              have cd_267 : Ctd ro_265 vy_29 := by rw [ero_265]; exact (Ctd.nx pf_46)
              refine W.eq (g2 := F0 m 64 ls []) rfl ?_
              replace hP : va_P D classes [((Va 0), .inr (7, [.ref (Va 1), .int vy_28, .int vy_29])), ((Va 1), .inl (tc 0, 400, .inl vy_30)), ((Ta 0), .inr (10, [.ref (Ta 1), .int (Tv 0), .int sv_260, .int sv_261, .int sv_262, .int vy_34])), ((Ta 1), .inl (tc 0, 400, .inl (Tf 1)))] H := hP₀
              replace hD : va_D A [((Va 0), .inr (7, [.ref (Va 1), .int vy_28, .int vy_29])), ((Va 1), .inl (tc 0, 400, .inl vy_30)), ((Ta 0), .inr (10, [.ref (Ta 1), .int (Tv 0), .int sv_260, .int sv_261, .int sv_262, .int vy_34])), ((Ta 1), .inl (tc 0, 400, .inl (Tf 1)))] := hD₀
              replace hS := hS₀
              clear hP₀ hD₀ hS₀
              refine lv_aload_n hx hb dX7_readTest_64 rfl (lv_at hl 3 rfl) ?_
              refine lv_aload_n hx hb dX7_readTest_65 rfl (lv_at hl 4 rfl) ?_
              refine lv_iload_n hx hb dX7_readTest_66 rfl (lv_at hl 5 rfl) ?_
              refine cV (a := (Va 0)) (As := [.ref (Ta 0), .int 5]) (rest := []) (wr := []) ⟨hx, hb, hml, hown, hts⟩ hK hX hA (cu_fX7_readFact_5 l D tc sk (Va 0) (Va 1) vy_28 vy_29 vy_30 (Ta 0) (Ta 1) (Tv 0) sv_260 sv_261 sv_262 vy_34 (Tf 1) ro_265 pf_263 pf_41 h_by pf_264 cd_267) k_659 k_656 k_658 k_12 k_99 pl_X7_readFact ⟨Nat.le_of_ble_eq_true rfl, Nat.le_of_ble_eq_true rfl⟩ rfl rfl (va_recv hK hP (ci := 7) (q0 := 0) rfl rfl) hP hD hS [0, 1, 2, 3] [] rfl rfl rfl rfl rfl (by decide) rfl hl.1 rfl (Nat.le_of_ble_eq_true rfl) dX7_readTest_67 ⟨Nat.le_of_ble_eq_true rfl, Nat.le_of_ble_eq_true rfl⟩ (fun v_268 u_269 H locs hv_270 hP₀ hD₀ hS₀ => ?_)
              obtain ⟨sv_271, sv_272, sv_273, sv_274, sv_275, sv_276, sv_277⟩ := u_269
              obtain ⟨rfl, pf_278, pf_279, pf_280, pf_281⟩ := hv_270
              have pf_278 : 0 ≤ ((Tv 0) : Int32).toInt ∧ ((Tv 0) : Int32).toInt ≤ 400 ∧ 0 ≤ (sv_274 : Int32).toInt ∧ (sv_274 : Int32).toInt ≤ 400 ∧ 0 ≤ (sv_275 : Int32).toInt ∧ (sv_275 : Int32).toInt ≤ 400 := pf_278
              have pf_279 : 0 ≤ (sv_271 : Int32).toInt ∧ (sv_271 : Int32).toInt ≤ 400 := pf_279
              have pf_280 : TpR (Tf 1) (Tv 0) (pz_b ro_265 (pz_fact (cB (Tf 1) (Tv 0)) 5)) sv_274 sv_275 sv_276 sv_277 := pf_280
              obtain ⟨ro_282, ero_282⟩ : ∃ z : Except Int (Nat × Nat), z = (pz_b ro_265 (pz_fact (cB (Tf 1) (Tv 0)) 5)) := ⟨_, rfl⟩
              rw [← ero_282] at pf_280
              have tb_283 : TpB (rTE (cB (Tf 1) (Tv 0)) ro_282) sv_275 sv_277 := TpR.tb pf_280
              have pf_281 : Ctd (pz_b ro_265 (pz_fact (cB (Tf 1) (Tv 0)) 5)) sv_272 := pf_281
              rw [← ero_282] at pf_281
              refine W.eq (g2 := F0 m 70 ls []) rfl ?_
              replace hP : va_P D classes [((Va 0), .inr (7, [.ref (Va 1), .int sv_271, .int sv_272])), ((Va 1), .inl (tc 0, 400, .inl sv_273)), ((Ta 0), .inr (10, [.ref (Ta 1), .int (Tv 0), .int sv_274, .int sv_275, .int sv_276, .int sv_277])), ((Ta 1), .inl (tc 0, 400, .inl (Tf 1)))] H := hP₀
              replace hD : va_D A [((Va 0), .inr (7, [.ref (Va 1), .int sv_271, .int sv_272])), ((Va 1), .inl (tc 0, 400, .inl sv_273)), ((Ta 0), .inr (10, [.ref (Ta 1), .int (Tv 0), .int sv_274, .int sv_275, .int sv_276, .int sv_277])), ((Ta 1), .inl (tc 0, 400, .inl (Tf 1)))] := hD₀
              replace hS := hS₀
              clear hP₀ hD₀ hS₀
              refine lv_iload hx hb dX7_readTest_70 (lv_at hl 0 rfl) ?_
              refine lv_if_eq (tgt := 80) hx hb dX7_readTest_72 (by decide) (fun c_284 => ?_) (fun c_284 => ?_)
              · skip
                refine lv_aload_n hx hb dX7_readTest_80 rfl (lv_at hl 3 rfl) ?_
                refine lv_bipush (v := (-5)) hx hb dX7_readTest_81 (by decide) ?_
                refine cV (a := (Va 0)) (As := [.int (-5)]) (rest := []) (wr := [((Ta 0), .inr (10, [.ref (Ta 1), .int (Tv 0), .int sv_274, .int sv_275, .int sv_276, .int sv_277])), ((Ta 1), .inl (tc 0, 400, .inl (Tf 1)))]) ⟨hx, hb, hml, hown, hts⟩ hK hX hA (cu_fX7_put l D tc sk (Va 0) (Va 1) sv_271 sv_272 sv_273 (-5) pf_279) k_642 k_639 k_641 k_10 k_99 pl_X7_put ⟨Nat.le_of_ble_eq_true rfl, Nat.le_of_ble_eq_true rfl⟩ rfl rfl (va_recv hK hP (ci := 7) (q0 := 0) rfl rfl) hP hD hS [0, 1] [2, 3] rfl rfl rfl rfl rfl (by decide) rfl hl.1 rfl (Nat.le_of_ble_eq_true rfl) dX7_readTest_83 ⟨Nat.le_of_ble_eq_true rfl, Nat.le_of_ble_eq_true rfl⟩ (fun v_285 u_286 H locs hv_287 hP₀ hD₀ hS₀ => ?_)
                obtain ⟨sv_288, sv_289⟩ := u_286
                obtain ⟨rfl, pf_290⟩ := hv_287
                have pf_290 : 0 ≤ (sv_288 : Int32).toInt ∧ (sv_288 : Int32).toInt ≤ 400 := pf_290
                refine W.eq (g2 := F0 m 86 ls []) rfl ?_
                replace hP : va_P D classes [((Ta 0), .inr (10, [.ref (Ta 1), .int (Tv 0), .int sv_274, .int sv_275, .int sv_276, .int sv_277])), ((Ta 1), .inl (tc 0, 400, .inl (Tf 1))), ((Va 0), .inr (7, [.ref (Va 1), .int sv_288, .int sv_272])), ((Va 1), .inl (tc 0, 400, .inl sv_289))] H := hP₀
                replace hD : va_D A [((Ta 0), .inr (10, [.ref (Ta 1), .int (Tv 0), .int sv_274, .int sv_275, .int sv_276, .int sv_277])), ((Ta 1), .inl (tc 0, 400, .inl (Tf 1))), ((Va 0), .inr (7, [.ref (Va 1), .int sv_288, .int sv_272])), ((Va 1), .inl (tc 0, 400, .inl sv_289))] := hD₀
                replace hS := hS₀
                clear hP₀ hD₀ hS₀
                obtain ⟨x_291, ex_291⟩ : ∃ y : Int32, y = vy_27 + 1 := ⟨_, rfl⟩
                refine lv_iinc (v := x_291) (lv' := [(4, .int x_291), (5, .int r_249), (3, .int vy_35), (0, .ref (Va 0)), (1, .ref (Ta 0)), (2, .int 5)]) hx hb dX7_readTest_86 hl (k := 1) rfl (by rw [ex_291]; rfl) (by decide) rfl (fun ls hl₀ => ?_)
                replace hl := hl₀
                clear hl₀
                refine lv_goto (tgt := 11) hx hb dX7_readTest_89 (by decide) ?_
                have hb_292 : 401 - (x_291 : Int32).toInt < 401 - (vy_27 : Int32).toInt ∧ 1 ≤ 401 - (vy_27 : Int32).toInt := by
                  have z_1 := Int32.lt_iff_toInt_lt.mp (Int32.not_le.mp c_50)
                  have z_2 := congrArg Int32.toInt c_75
                  have z_3 : ¬ (r_216 : Int32).toInt = (0 : Int32).toInt := fun z => c_221 (Int32.toInt_inj.mp z)
                  have z_4 := congrArg Int32.toInt c_254
                  have z_5 := congrArg Int32.toInt c_284
                  have y_0 : (0 : Int32).toInt = 0 := by decide
                  have y_400 : (400 : Int32).toInt = 400 := by decide
                  have y_1 : (1 : Int32).toInt = 1 := by decide
                  have t_x_291 : x_291.toInt = (vy_27 : Int32).toInt + (1 : Int32).toInt := by rw [ex_291]; exact add_toInt (by omega) (by omega)
                  omega
                have ha_293 : 0 ≤ (x_291 : Int32).toInt ∧ (x_291 : Int32).toInt ≤ 400 := by
                  have z_1 := Int32.lt_iff_toInt_lt.mp (Int32.not_le.mp c_50)
                  have z_2 := congrArg Int32.toInt c_75
                  have z_3 : ¬ (r_216 : Int32).toInt = (0 : Int32).toInt := fun z => c_221 (Int32.toInt_inj.mp z)
                  have z_4 := congrArg Int32.toInt c_254
                  have z_5 := congrArg Int32.toInt c_284
                  have y_0 : (0 : Int32).toInt = 0 := by decide
                  have y_400 : (400 : Int32).toInt = 400 := by decide
                  have y_1 : (1 : Int32).toInt = 1 := by decide
                  have t_x_291 : x_291.toInt = (vy_27 : Int32).toInt + (1 : Int32).toInt := by rw [ex_291]; exact add_toInt (by omega) (by omega)
                  omega
                have hu_294 : TpR (Tf 1) (Tv 0) (pz_b (rNX (cB (Tf 1) (Tv 0)) rq_44) (pz_fact (cB (Tf 1) (Tv 0)) 5)) sv_274 sv_275 sv_276 sv_277 := by
                  rw [← ero_265, ← ero_282]
                  exact pf_280
                have hu_295 : Ctd (pz_b (rNX (cB (Tf 1) (Tv 0)) rq_44) (pz_fact (cB (Tf 1) (Tv 0)) 5)) sv_272 := by
                  rw [← ero_265, ← ero_282]
                  exact pf_281
                have hw_296 : TWd (cB (Tf 1) (Tv 0)) pz_or rq_44 := by
                  rw [← wS6]
                  exact pf_243
                have hi_297 : (x_291 : Int32).toInt = (vy_27 : Int32).toInt + 1 := by
                  have z_1 := Int32.lt_iff_toInt_lt.mp (Int32.not_le.mp c_50)
                  have z_2 := congrArg Int32.toInt c_75
                  have z_3 : ¬ (r_216 : Int32).toInt = (0 : Int32).toInt := fun z => c_221 (Int32.toInt_inj.mp z)
                  have z_4 := congrArg Int32.toInt c_254
                  have z_5 := congrArg Int32.toInt c_284
                  have y_0 : (0 : Int32).toInt = 0 := by decide
                  have y_400 : (400 : Int32).toInt = 400 := by decide
                  have y_1 : (1 : Int32).toInt = 1 := by decide
                  have t_x_291 : x_291.toInt = (vy_27 : Int32).toInt + (1 : Int32).toInt := by rw [ex_291]; exact add_toInt (by omega) (by omega)
                  omega
                exact ih_37 x_291 sv_288 sv_272 sv_289 sv_274 sv_275 sv_276 sv_277 vy_35 _ _ _ (by omega) ha_293 pf_278 pf_290 (TeL.next h_tape.2.1 pf_47 pf_48 (Or.inr hw_296) hu_294 hu_295 hi_297) (hP.sub [2, 3, 0, 1] rfl) (hD.sub [2, 3, 0, 1] rfl rfl) hS (lv_sub hl [0, 2, 3, 4, 5] rfl)
              · skip
                exfalso
                have z_1 := Int32.lt_iff_toInt_lt.mp (Int32.not_le.mp c_50)
                have z_2 := congrArg Int32.toInt c_75
                have z_3 : ¬ (r_216 : Int32).toInt = (0 : Int32).toInt := fun z => c_221 (Int32.toInt_inj.mp z)
                have z_4 := congrArg Int32.toInt c_254
                have z_5 : ¬ (r_249 : Int32).toInt = (0 : Int32).toInt := fun z => c_284 (Int32.toInt_inj.mp z)
                have y_0 : (0 : Int32).toInt = 0 := by decide
                have y_400 : (400 : Int32).toInt = 400 := by decide
                omega
            · skip
              have hz_299 : (r_249 : Int32).toInt = 1 := by
                have z_1 := Int32.lt_iff_toInt_lt.mp (Int32.not_le.mp c_50)
                have z_2 := congrArg Int32.toInt c_75
                have z_3 : ¬ (r_216 : Int32).toInt = (0 : Int32).toInt := fun z => c_221 (Int32.toInt_inj.mp z)
                have z_4 : ¬ (r_249 : Int32).toInt = (0 : Int32).toInt := fun z => c_254 (Int32.toInt_inj.mp z)
                have y_0 : (0 : Int32).toInt = 0 := by decide
                have y_400 : (400 : Int32).toInt = 400 := by decide
                omega
              obtain pf_298 := hm_252 hz_299
              have pf_298 : TWd (cB (Tf 1) (Tv 0)) (wS (6 : Nat)) rq_44 := pf_298
              refine lv_iload_n hx hb dX7_readTest_50 rfl (lv_at hl 2 rfl) ?_
              refine lv_if_eq (tgt := 60) hx hb dX7_readTest_51 (by decide) (fun c_300 => ?_) (fun c_300 => ?_)
              · skip
                refine lv_aload_n hx hb dX7_readTest_60 rfl (lv_at hl 4 rfl) ?_
                refine cV (a := (Ta 0)) (As := []) (rest := []) (wr := [((Va 0), .inr (7, [.ref (Va 1), .int vy_28, .int vy_29])), ((Va 1), .inl (tc 0, 400, .inl vy_30))]) ⟨hx, hb, hml, hown, hts⟩ hK hX hA (cu_fX10_step l D tc sk (Ta 0) (Ta 1) (Tv 0) vy_31 vy_32 vy_33 vy_34 (Tf 1) (rTE (cB (Tf 1) (Tv 0)) rq_44) pf_40 h_by tb_49) k_478 k_620 k_476 k_477 k_96 pl_X10_step ⟨Nat.le_of_ble_eq_true rfl, Nat.le_of_ble_eq_true rfl⟩ rfl rfl (va_recv hK hP (ci := 10) (q0 := 2) rfl rfl) hP hD hS [2, 3] [0, 1] rfl rfl rfl rfl rfl (by decide) rfl hl.1 rfl (Nat.le_of_ble_eq_true rfl) dX7_readTest_61 ⟨Nat.le_of_ble_eq_true rfl, Nat.le_of_ble_eq_true rfl⟩ (fun v_301 u_302 H locs hv_303 hP₀ hD₀ hS₀ => ?_)
                obtain ⟨sv_304, sv_305, sv_306⟩ := u_302
                obtain ⟨rfl, pf_307, pf_308⟩ := hv_303
                have pf_307 : 0 ≤ ((Tv 0) : Int32).toInt ∧ ((Tv 0) : Int32).toInt ≤ 400 ∧ 0 ≤ (sv_304 : Int32).toInt ∧ (sv_304 : Int32).toInt ≤ 400 ∧ 0 ≤ (sv_305 : Int32).toInt ∧ (sv_305 : Int32).toInt ≤ 400 := pf_307
                have pf_308 : TpR (Tf 1) (Tv 0) (rSK (cB (Tf 1) (Tv 0)) (rTE (cB (Tf 1) (Tv 0)) rq_44)) sv_304 sv_305 sv_306 vy_34 := pf_308
                rw [rNX_eq] at pf_308
                obtain ⟨ro_309, ero_309⟩ : ∃ z : Except Int (Nat × Nat), z = (rNX (cB (Tf 1) (Tv 0)) rq_44) := ⟨_, rfl⟩
                rw [← ero_309] at pf_308
                have tb_310 : TpB (rTE (cB (Tf 1) (Tv 0)) ro_309) sv_305 vy_34 := TpR.tb pf_308
                have cd_311 : Ctd ro_309 vy_29 := by rw [ero_309]; exact (Ctd.nx pf_46)
                refine W.eq (g2 := F0 m 64 ls []) rfl ?_
                replace hP : va_P D classes [((Va 0), .inr (7, [.ref (Va 1), .int vy_28, .int vy_29])), ((Va 1), .inl (tc 0, 400, .inl vy_30)), ((Ta 0), .inr (10, [.ref (Ta 1), .int (Tv 0), .int sv_304, .int sv_305, .int sv_306, .int vy_34])), ((Ta 1), .inl (tc 0, 400, .inl (Tf 1)))] H := hP₀
                replace hD : va_D A [((Va 0), .inr (7, [.ref (Va 1), .int vy_28, .int vy_29])), ((Va 1), .inl (tc 0, 400, .inl vy_30)), ((Ta 0), .inr (10, [.ref (Ta 1), .int (Tv 0), .int sv_304, .int sv_305, .int sv_306, .int vy_34])), ((Ta 1), .inl (tc 0, 400, .inl (Tf 1)))] := hD₀
                replace hS := hS₀
                clear hP₀ hD₀ hS₀
                refine lv_aload_n hx hb dX7_readTest_64 rfl (lv_at hl 3 rfl) ?_
                refine lv_aload_n hx hb dX7_readTest_65 rfl (lv_at hl 4 rfl) ?_
                refine lv_iload_n hx hb dX7_readTest_66 rfl (lv_at hl 5 rfl) ?_
                refine cV (a := (Va 0)) (As := [.ref (Ta 0), .int 5]) (rest := []) (wr := []) ⟨hx, hb, hml, hown, hts⟩ hK hX hA (cu_fX7_readFact_5 l D tc sk (Va 0) (Va 1) vy_28 vy_29 vy_30 (Ta 0) (Ta 1) (Tv 0) sv_304 sv_305 sv_306 vy_34 (Tf 1) ro_309 pf_307 pf_41 h_by pf_308 cd_311) k_659 k_656 k_658 k_12 k_99 pl_X7_readFact ⟨Nat.le_of_ble_eq_true rfl, Nat.le_of_ble_eq_true rfl⟩ rfl rfl (va_recv hK hP (ci := 7) (q0 := 0) rfl rfl) hP hD hS [0, 1, 2, 3] [] rfl rfl rfl rfl rfl (by decide) rfl hl.1 rfl (Nat.le_of_ble_eq_true rfl) dX7_readTest_67 ⟨Nat.le_of_ble_eq_true rfl, Nat.le_of_ble_eq_true rfl⟩ (fun v_312 u_313 H locs hv_314 hP₀ hD₀ hS₀ => ?_)
                obtain ⟨sv_315, sv_316, sv_317, sv_318, sv_319, sv_320, sv_321⟩ := u_313
                obtain ⟨rfl, pf_322, pf_323, pf_324, pf_325⟩ := hv_314
                have pf_322 : 0 ≤ ((Tv 0) : Int32).toInt ∧ ((Tv 0) : Int32).toInt ≤ 400 ∧ 0 ≤ (sv_318 : Int32).toInt ∧ (sv_318 : Int32).toInt ≤ 400 ∧ 0 ≤ (sv_319 : Int32).toInt ∧ (sv_319 : Int32).toInt ≤ 400 := pf_322
                have pf_323 : 0 ≤ (sv_315 : Int32).toInt ∧ (sv_315 : Int32).toInt ≤ 400 := pf_323
                have pf_324 : TpR (Tf 1) (Tv 0) (pz_b ro_309 (pz_fact (cB (Tf 1) (Tv 0)) 5)) sv_318 sv_319 sv_320 sv_321 := pf_324
                obtain ⟨ro_326, ero_326⟩ : ∃ z : Except Int (Nat × Nat), z = (pz_b ro_309 (pz_fact (cB (Tf 1) (Tv 0)) 5)) := ⟨_, rfl⟩
                rw [← ero_326] at pf_324
                have tb_327 : TpB (rTE (cB (Tf 1) (Tv 0)) ro_326) sv_319 sv_321 := TpR.tb pf_324
                have pf_325 : Ctd (pz_b ro_309 (pz_fact (cB (Tf 1) (Tv 0)) 5)) sv_316 := pf_325
                rw [← ero_326] at pf_325
                refine W.eq (g2 := F0 m 70 ls []) rfl ?_
                replace hP : va_P D classes [((Va 0), .inr (7, [.ref (Va 1), .int sv_315, .int sv_316])), ((Va 1), .inl (tc 0, 400, .inl sv_317)), ((Ta 0), .inr (10, [.ref (Ta 1), .int (Tv 0), .int sv_318, .int sv_319, .int sv_320, .int sv_321])), ((Ta 1), .inl (tc 0, 400, .inl (Tf 1)))] H := hP₀
                replace hD : va_D A [((Va 0), .inr (7, [.ref (Va 1), .int sv_315, .int sv_316])), ((Va 1), .inl (tc 0, 400, .inl sv_317)), ((Ta 0), .inr (10, [.ref (Ta 1), .int (Tv 0), .int sv_318, .int sv_319, .int sv_320, .int sv_321])), ((Ta 1), .inl (tc 0, 400, .inl (Tf 1)))] := hD₀
                replace hS := hS₀
                clear hP₀ hD₀ hS₀
                refine lv_iload hx hb dX7_readTest_70 (lv_at hl 0 rfl) ?_
                refine lv_if_eq (tgt := 80) hx hb dX7_readTest_72 (by decide) (fun c_328 => ?_) (fun c_328 => ?_)
                · skip
                  exfalso
                  have z_1 := Int32.lt_iff_toInt_lt.mp (Int32.not_le.mp c_50)
                  have z_2 := congrArg Int32.toInt c_75
                  have z_3 : ¬ (r_216 : Int32).toInt = (0 : Int32).toInt := fun z => c_221 (Int32.toInt_inj.mp z)
                  have z_4 : ¬ (r_249 : Int32).toInt = (0 : Int32).toInt := fun z => c_254 (Int32.toInt_inj.mp z)
                  have z_5 := congrArg Int32.toInt c_300
                  have z_6 := congrArg Int32.toInt c_328
                  have y_0 : (0 : Int32).toInt = 0 := by decide
                  have y_400 : (400 : Int32).toInt = 400 := by decide
                  omega
                · skip
                  refine lv_iconst (v := 1) hx hb dX7_readTest_75 (by decide) ?_
                  refine lv_istore_n (lv' := [(3, .int 1), (5, .int r_249), (4, .int vy_27), (0, .ref (Va 0)), (1, .ref (Ta 0)), (2, .int 5)]) hx hb dX7_readTest_76 rfl hl (by decide) rfl (fun ls hl₀ => ?_)
                  replace hl := hl₀
                  clear hl₀
                  refine lv_goto (tgt := 86) hx hb dX7_readTest_77 (by decide) ?_
                  obtain ⟨x_329, ex_329⟩ : ∃ y : Int32, y = vy_27 + 1 := ⟨_, rfl⟩
                  refine lv_iinc (v := x_329) (lv' := [(4, .int x_329), (3, .int 1), (5, .int r_249), (0, .ref (Va 0)), (1, .ref (Ta 0)), (2, .int 5)]) hx hb dX7_readTest_86 hl (k := 2) rfl (by rw [ex_329]; rfl) (by decide) rfl (fun ls hl₀ => ?_)
                  replace hl := hl₀
                  clear hl₀
                  refine lv_goto (tgt := 11) hx hb dX7_readTest_89 (by decide) ?_
                  have hb_330 : 401 - (x_329 : Int32).toInt < 401 - (vy_27 : Int32).toInt ∧ 1 ≤ 401 - (vy_27 : Int32).toInt := by
                    have z_1 := Int32.lt_iff_toInt_lt.mp (Int32.not_le.mp c_50)
                    have z_2 := congrArg Int32.toInt c_75
                    have z_3 : ¬ (r_216 : Int32).toInt = (0 : Int32).toInt := fun z => c_221 (Int32.toInt_inj.mp z)
                    have z_4 : ¬ (r_249 : Int32).toInt = (0 : Int32).toInt := fun z => c_254 (Int32.toInt_inj.mp z)
                    have z_5 := congrArg Int32.toInt c_300
                    have z_6 : ¬ (r_249 : Int32).toInt = (0 : Int32).toInt := fun z => c_328 (Int32.toInt_inj.mp z)
                    have y_0 : (0 : Int32).toInt = 0 := by decide
                    have y_400 : (400 : Int32).toInt = 400 := by decide
                    have y_1 : (1 : Int32).toInt = 1 := by decide
                    have t_x_329 : x_329.toInt = (vy_27 : Int32).toInt + (1 : Int32).toInt := by rw [ex_329]; exact add_toInt (by omega) (by omega)
                    omega
                  have ha_331 : 0 ≤ (x_329 : Int32).toInt ∧ (x_329 : Int32).toInt ≤ 400 := by
                    have z_1 := Int32.lt_iff_toInt_lt.mp (Int32.not_le.mp c_50)
                    have z_2 := congrArg Int32.toInt c_75
                    have z_3 : ¬ (r_216 : Int32).toInt = (0 : Int32).toInt := fun z => c_221 (Int32.toInt_inj.mp z)
                    have z_4 : ¬ (r_249 : Int32).toInt = (0 : Int32).toInt := fun z => c_254 (Int32.toInt_inj.mp z)
                    have z_5 := congrArg Int32.toInt c_300
                    have z_6 : ¬ (r_249 : Int32).toInt = (0 : Int32).toInt := fun z => c_328 (Int32.toInt_inj.mp z)
                    have y_0 : (0 : Int32).toInt = 0 := by decide
                    have y_400 : (400 : Int32).toInt = 400 := by decide
                    have y_1 : (1 : Int32).toInt = 1 := by decide
                    have t_x_329 : x_329.toInt = (vy_27 : Int32).toInt + (1 : Int32).toInt := by rw [ex_329]; exact add_toInt (by omega) (by omega)
                    omega
                  have hu_332 : TpR (Tf 1) (Tv 0) (pz_b (rNX (cB (Tf 1) (Tv 0)) rq_44) (pz_fact (cB (Tf 1) (Tv 0)) 5)) sv_318 sv_319 sv_320 sv_321 := by
                    rw [← ero_309, ← ero_326]
                    exact pf_324
                  have hu_333 : Ctd (pz_b (rNX (cB (Tf 1) (Tv 0)) rq_44) (pz_fact (cB (Tf 1) (Tv 0)) 5)) sv_316 := by
                    rw [← ero_309, ← ero_326]
                    exact pf_325
                  have hw_334 : TWd (cB (Tf 1) (Tv 0)) pz_or rq_44 := by
                    rw [← wS6]
                    exact pf_298
                  have hi_335 : (x_329 : Int32).toInt = (vy_27 : Int32).toInt + 1 := by
                    have z_1 := Int32.lt_iff_toInt_lt.mp (Int32.not_le.mp c_50)
                    have z_2 := congrArg Int32.toInt c_75
                    have z_3 : ¬ (r_216 : Int32).toInt = (0 : Int32).toInt := fun z => c_221 (Int32.toInt_inj.mp z)
                    have z_4 : ¬ (r_249 : Int32).toInt = (0 : Int32).toInt := fun z => c_254 (Int32.toInt_inj.mp z)
                    have z_5 := congrArg Int32.toInt c_300
                    have z_6 : ¬ (r_249 : Int32).toInt = (0 : Int32).toInt := fun z => c_328 (Int32.toInt_inj.mp z)
                    have y_0 : (0 : Int32).toInt = 0 := by decide
                    have y_400 : (400 : Int32).toInt = 400 := by decide
                    have y_1 : (1 : Int32).toInt = 1 := by decide
                    have t_x_329 : x_329.toInt = (vy_27 : Int32).toInt + (1 : Int32).toInt := by rw [ex_329]; exact add_toInt (by omega) (by omega)
                    omega
                  exact ih_37 x_329 sv_315 sv_316 sv_317 sv_318 sv_319 sv_320 sv_321 1 _ _ _ (by omega) ha_331 pf_322 pf_323 (TeL.next h_tape.2.1 pf_47 pf_48 (Or.inr hw_334) hu_332 hu_333 hi_335) (hP.sub [0, 1, 2, 3] rfl) (hD.sub [0, 1, 2, 3] rfl rfl) hS (lv_sub hl [0, 1, 3, 4, 5] rfl)
              · skip
                refine lv_aload_n hx hb dX7_readTest_54 rfl (lv_at hl 3 rfl) ?_
                refine lv_bipush (v := (-6)) hx hb dX7_readTest_55 (by decide) ?_
                refine cV (a := (Va 0)) (As := [.int (-6)]) (rest := []) (wr := [((Ta 0), .inr (10, [.ref (Ta 1), .int (Tv 0), .int vy_31, .int vy_32, .int vy_33, .int vy_34])), ((Ta 1), .inl (tc 0, 400, .inl (Tf 1)))]) ⟨hx, hb, hml, hown, hts⟩ hK hX hA (cu_fX7_put l D tc sk (Va 0) (Va 1) vy_28 vy_29 vy_30 (-6) pf_41) k_642 k_639 k_641 k_10 k_99 pl_X7_put ⟨Nat.le_of_ble_eq_true rfl, Nat.le_of_ble_eq_true rfl⟩ rfl rfl (va_recv hK hP (ci := 7) (q0 := 0) rfl rfl) hP hD hS [0, 1] [2, 3] rfl rfl rfl rfl rfl (by decide) rfl hl.1 rfl (Nat.le_of_ble_eq_true rfl) dX7_readTest_57 ⟨Nat.le_of_ble_eq_true rfl, Nat.le_of_ble_eq_true rfl⟩ (fun v_336 u_337 H locs hv_338 hP₀ hD₀ hS₀ => ?_)
                obtain ⟨sv_339, sv_340⟩ := u_337
                obtain ⟨rfl, pf_341⟩ := hv_338
                have pf_341 : 0 ≤ (sv_339 : Int32).toInt ∧ (sv_339 : Int32).toInt ≤ 400 := pf_341
                refine W.eq (g2 := F0 m 60 ls []) rfl ?_
                replace hP : va_P D classes [((Ta 0), .inr (10, [.ref (Ta 1), .int (Tv 0), .int vy_31, .int vy_32, .int vy_33, .int vy_34])), ((Ta 1), .inl (tc 0, 400, .inl (Tf 1))), ((Va 0), .inr (7, [.ref (Va 1), .int sv_339, .int vy_29])), ((Va 1), .inl (tc 0, 400, .inl sv_340))] H := hP₀
                replace hD : va_D A [((Ta 0), .inr (10, [.ref (Ta 1), .int (Tv 0), .int vy_31, .int vy_32, .int vy_33, .int vy_34])), ((Ta 1), .inl (tc 0, 400, .inl (Tf 1))), ((Va 0), .inr (7, [.ref (Va 1), .int sv_339, .int vy_29])), ((Va 1), .inl (tc 0, 400, .inl sv_340))] := hD₀
                replace hS := hS₀
                clear hP₀ hD₀ hS₀
                refine lv_aload_n hx hb dX7_readTest_60 rfl (lv_at hl 4 rfl) ?_
                refine cV (a := (Ta 0)) (As := []) (rest := []) (wr := [((Va 0), .inr (7, [.ref (Va 1), .int sv_339, .int vy_29])), ((Va 1), .inl (tc 0, 400, .inl sv_340))]) ⟨hx, hb, hml, hown, hts⟩ hK hX hA (cu_fX10_step l D tc sk (Ta 0) (Ta 1) (Tv 0) vy_31 vy_32 vy_33 vy_34 (Tf 1) (rTE (cB (Tf 1) (Tv 0)) rq_44) pf_40 h_by tb_49) k_478 k_620 k_476 k_477 k_96 pl_X10_step ⟨Nat.le_of_ble_eq_true rfl, Nat.le_of_ble_eq_true rfl⟩ rfl rfl (va_recv hK hP (ci := 10) (q0 := 0) rfl rfl) hP hD hS [0, 1] [2, 3] rfl rfl rfl rfl rfl (by decide) rfl hl.1 rfl (Nat.le_of_ble_eq_true rfl) dX7_readTest_61 ⟨Nat.le_of_ble_eq_true rfl, Nat.le_of_ble_eq_true rfl⟩ (fun v_342 u_343 H locs hv_344 hP₀ hD₀ hS₀ => ?_)
                obtain ⟨sv_345, sv_346, sv_347⟩ := u_343
                obtain ⟨rfl, pf_348, pf_349⟩ := hv_344
                have pf_348 : 0 ≤ ((Tv 0) : Int32).toInt ∧ ((Tv 0) : Int32).toInt ≤ 400 ∧ 0 ≤ (sv_345 : Int32).toInt ∧ (sv_345 : Int32).toInt ≤ 400 ∧ 0 ≤ (sv_346 : Int32).toInt ∧ (sv_346 : Int32).toInt ≤ 400 := pf_348
                have pf_349 : TpR (Tf 1) (Tv 0) (rSK (cB (Tf 1) (Tv 0)) (rTE (cB (Tf 1) (Tv 0)) rq_44)) sv_345 sv_346 sv_347 vy_34 := pf_349
                rw [rNX_eq] at pf_349
                obtain ⟨ro_350, ero_350⟩ : ∃ z : Except Int (Nat × Nat), z = (rNX (cB (Tf 1) (Tv 0)) rq_44) := ⟨_, rfl⟩
                rw [← ero_350] at pf_349
                have tb_351 : TpB (rTE (cB (Tf 1) (Tv 0)) ro_350) sv_346 vy_34 := TpR.tb pf_349
                have cd_352 : Ctd ro_350 vy_29 := by rw [ero_350]; exact (Ctd.nx pf_46)
                refine W.eq (g2 := F0 m 64 ls []) rfl ?_
                replace hP : va_P D classes [((Va 0), .inr (7, [.ref (Va 1), .int sv_339, .int vy_29])), ((Va 1), .inl (tc 0, 400, .inl sv_340)), ((Ta 0), .inr (10, [.ref (Ta 1), .int (Tv 0), .int sv_345, .int sv_346, .int sv_347, .int vy_34])), ((Ta 1), .inl (tc 0, 400, .inl (Tf 1)))] H := hP₀
                replace hD : va_D A [((Va 0), .inr (7, [.ref (Va 1), .int sv_339, .int vy_29])), ((Va 1), .inl (tc 0, 400, .inl sv_340)), ((Ta 0), .inr (10, [.ref (Ta 1), .int (Tv 0), .int sv_345, .int sv_346, .int sv_347, .int vy_34])), ((Ta 1), .inl (tc 0, 400, .inl (Tf 1)))] := hD₀
                replace hS := hS₀
                clear hP₀ hD₀ hS₀
                refine lv_aload_n hx hb dX7_readTest_64 rfl (lv_at hl 3 rfl) ?_
                refine lv_aload_n hx hb dX7_readTest_65 rfl (lv_at hl 4 rfl) ?_
                refine lv_iload_n hx hb dX7_readTest_66 rfl (lv_at hl 5 rfl) ?_
                refine cV (a := (Va 0)) (As := [.ref (Ta 0), .int 5]) (rest := []) (wr := []) ⟨hx, hb, hml, hown, hts⟩ hK hX hA (cu_fX7_readFact_5 l D tc sk (Va 0) (Va 1) sv_339 vy_29 sv_340 (Ta 0) (Ta 1) (Tv 0) sv_345 sv_346 sv_347 vy_34 (Tf 1) ro_350 pf_348 pf_341 h_by pf_349 cd_352) k_659 k_656 k_658 k_12 k_99 pl_X7_readFact ⟨Nat.le_of_ble_eq_true rfl, Nat.le_of_ble_eq_true rfl⟩ rfl rfl (va_recv hK hP (ci := 7) (q0 := 0) rfl rfl) hP hD hS [0, 1, 2, 3] [] rfl rfl rfl rfl rfl (by decide) rfl hl.1 rfl (Nat.le_of_ble_eq_true rfl) dX7_readTest_67 ⟨Nat.le_of_ble_eq_true rfl, Nat.le_of_ble_eq_true rfl⟩ (fun v_353 u_354 H locs hv_355 hP₀ hD₀ hS₀ => ?_)
                obtain ⟨sv_356, sv_357, sv_358, sv_359, sv_360, sv_361, sv_362⟩ := u_354
                obtain ⟨rfl, pf_363, pf_364, pf_365, pf_366⟩ := hv_355
                have pf_363 : 0 ≤ ((Tv 0) : Int32).toInt ∧ ((Tv 0) : Int32).toInt ≤ 400 ∧ 0 ≤ (sv_359 : Int32).toInt ∧ (sv_359 : Int32).toInt ≤ 400 ∧ 0 ≤ (sv_360 : Int32).toInt ∧ (sv_360 : Int32).toInt ≤ 400 := pf_363
                have pf_364 : 0 ≤ (sv_356 : Int32).toInt ∧ (sv_356 : Int32).toInt ≤ 400 := pf_364
                have pf_365 : TpR (Tf 1) (Tv 0) (pz_b ro_350 (pz_fact (cB (Tf 1) (Tv 0)) 5)) sv_359 sv_360 sv_361 sv_362 := pf_365
                obtain ⟨ro_367, ero_367⟩ : ∃ z : Except Int (Nat × Nat), z = (pz_b ro_350 (pz_fact (cB (Tf 1) (Tv 0)) 5)) := ⟨_, rfl⟩
                rw [← ero_367] at pf_365
                have tb_368 : TpB (rTE (cB (Tf 1) (Tv 0)) ro_367) sv_360 sv_362 := TpR.tb pf_365
                have pf_366 : Ctd (pz_b ro_350 (pz_fact (cB (Tf 1) (Tv 0)) 5)) sv_357 := pf_366
                rw [← ero_367] at pf_366
                refine W.eq (g2 := F0 m 70 ls []) rfl ?_
                replace hP : va_P D classes [((Va 0), .inr (7, [.ref (Va 1), .int sv_356, .int sv_357])), ((Va 1), .inl (tc 0, 400, .inl sv_358)), ((Ta 0), .inr (10, [.ref (Ta 1), .int (Tv 0), .int sv_359, .int sv_360, .int sv_361, .int sv_362])), ((Ta 1), .inl (tc 0, 400, .inl (Tf 1)))] H := hP₀
                replace hD : va_D A [((Va 0), .inr (7, [.ref (Va 1), .int sv_356, .int sv_357])), ((Va 1), .inl (tc 0, 400, .inl sv_358)), ((Ta 0), .inr (10, [.ref (Ta 1), .int (Tv 0), .int sv_359, .int sv_360, .int sv_361, .int sv_362])), ((Ta 1), .inl (tc 0, 400, .inl (Tf 1)))] := hD₀
                replace hS := hS₀
                clear hP₀ hD₀ hS₀
                refine lv_iload hx hb dX7_readTest_70 (lv_at hl 0 rfl) ?_
                refine lv_if_eq (tgt := 80) hx hb dX7_readTest_72 (by decide) (fun c_369 => ?_) (fun c_369 => ?_)
                · skip
                  exfalso
                  have z_1 := Int32.lt_iff_toInt_lt.mp (Int32.not_le.mp c_50)
                  have z_2 := congrArg Int32.toInt c_75
                  have z_3 : ¬ (r_216 : Int32).toInt = (0 : Int32).toInt := fun z => c_221 (Int32.toInt_inj.mp z)
                  have z_4 : ¬ (r_249 : Int32).toInt = (0 : Int32).toInt := fun z => c_254 (Int32.toInt_inj.mp z)
                  have z_5 : ¬ (vy_35 : Int32).toInt = (0 : Int32).toInt := fun z => c_300 (Int32.toInt_inj.mp z)
                  have z_6 := congrArg Int32.toInt c_369
                  have y_0 : (0 : Int32).toInt = 0 := by decide
                  have y_400 : (400 : Int32).toInt = 400 := by decide
                  omega
                · skip
                  refine lv_iconst (v := 1) hx hb dX7_readTest_75 (by decide) ?_
                  refine lv_istore_n (lv' := [(3, .int 1), (5, .int r_249), (4, .int vy_27), (0, .ref (Va 0)), (1, .ref (Ta 0)), (2, .int 5)]) hx hb dX7_readTest_76 rfl hl (by decide) rfl (fun ls hl₀ => ?_)
                  replace hl := hl₀
                  clear hl₀
                  refine lv_goto (tgt := 86) hx hb dX7_readTest_77 (by decide) ?_
                  obtain ⟨x_370, ex_370⟩ : ∃ y : Int32, y = vy_27 + 1 := ⟨_, rfl⟩
                  refine lv_iinc (v := x_370) (lv' := [(4, .int x_370), (3, .int 1), (5, .int r_249), (0, .ref (Va 0)), (1, .ref (Ta 0)), (2, .int 5)]) hx hb dX7_readTest_86 hl (k := 2) rfl (by rw [ex_370]; rfl) (by decide) rfl (fun ls hl₀ => ?_)
                  replace hl := hl₀
                  clear hl₀
                  refine lv_goto (tgt := 11) hx hb dX7_readTest_89 (by decide) ?_
                  have hb_371 : 401 - (x_370 : Int32).toInt < 401 - (vy_27 : Int32).toInt ∧ 1 ≤ 401 - (vy_27 : Int32).toInt := by
                    have z_1 := Int32.lt_iff_toInt_lt.mp (Int32.not_le.mp c_50)
                    have z_2 := congrArg Int32.toInt c_75
                    have z_3 : ¬ (r_216 : Int32).toInt = (0 : Int32).toInt := fun z => c_221 (Int32.toInt_inj.mp z)
                    have z_4 : ¬ (r_249 : Int32).toInt = (0 : Int32).toInt := fun z => c_254 (Int32.toInt_inj.mp z)
                    have z_5 : ¬ (vy_35 : Int32).toInt = (0 : Int32).toInt := fun z => c_300 (Int32.toInt_inj.mp z)
                    have z_6 : ¬ (r_249 : Int32).toInt = (0 : Int32).toInt := fun z => c_369 (Int32.toInt_inj.mp z)
                    have y_0 : (0 : Int32).toInt = 0 := by decide
                    have y_400 : (400 : Int32).toInt = 400 := by decide
                    have y_1 : (1 : Int32).toInt = 1 := by decide
                    have t_x_370 : x_370.toInt = (vy_27 : Int32).toInt + (1 : Int32).toInt := by rw [ex_370]; exact add_toInt (by omega) (by omega)
                    omega
                  have ha_372 : 0 ≤ (x_370 : Int32).toInt ∧ (x_370 : Int32).toInt ≤ 400 := by
                    have z_1 := Int32.lt_iff_toInt_lt.mp (Int32.not_le.mp c_50)
                    have z_2 := congrArg Int32.toInt c_75
                    have z_3 : ¬ (r_216 : Int32).toInt = (0 : Int32).toInt := fun z => c_221 (Int32.toInt_inj.mp z)
                    have z_4 : ¬ (r_249 : Int32).toInt = (0 : Int32).toInt := fun z => c_254 (Int32.toInt_inj.mp z)
                    have z_5 : ¬ (vy_35 : Int32).toInt = (0 : Int32).toInt := fun z => c_300 (Int32.toInt_inj.mp z)
                    have z_6 : ¬ (r_249 : Int32).toInt = (0 : Int32).toInt := fun z => c_369 (Int32.toInt_inj.mp z)
                    have y_0 : (0 : Int32).toInt = 0 := by decide
                    have y_400 : (400 : Int32).toInt = 400 := by decide
                    have y_1 : (1 : Int32).toInt = 1 := by decide
                    have t_x_370 : x_370.toInt = (vy_27 : Int32).toInt + (1 : Int32).toInt := by rw [ex_370]; exact add_toInt (by omega) (by omega)
                    omega
                  have hu_373 : TpR (Tf 1) (Tv 0) (pz_b (rNX (cB (Tf 1) (Tv 0)) rq_44) (pz_fact (cB (Tf 1) (Tv 0)) 5)) sv_359 sv_360 sv_361 sv_362 := by
                    rw [← ero_350, ← ero_367]
                    exact pf_365
                  have hu_374 : Ctd (pz_b (rNX (cB (Tf 1) (Tv 0)) rq_44) (pz_fact (cB (Tf 1) (Tv 0)) 5)) sv_357 := by
                    rw [← ero_350, ← ero_367]
                    exact pf_366
                  have hw_375 : TWd (cB (Tf 1) (Tv 0)) pz_or rq_44 := by
                    rw [← wS6]
                    exact pf_298
                  have hi_376 : (x_370 : Int32).toInt = (vy_27 : Int32).toInt + 1 := by
                    have z_1 := Int32.lt_iff_toInt_lt.mp (Int32.not_le.mp c_50)
                    have z_2 := congrArg Int32.toInt c_75
                    have z_3 : ¬ (r_216 : Int32).toInt = (0 : Int32).toInt := fun z => c_221 (Int32.toInt_inj.mp z)
                    have z_4 : ¬ (r_249 : Int32).toInt = (0 : Int32).toInt := fun z => c_254 (Int32.toInt_inj.mp z)
                    have z_5 : ¬ (vy_35 : Int32).toInt = (0 : Int32).toInt := fun z => c_300 (Int32.toInt_inj.mp z)
                    have z_6 : ¬ (r_249 : Int32).toInt = (0 : Int32).toInt := fun z => c_369 (Int32.toInt_inj.mp z)
                    have y_0 : (0 : Int32).toInt = 0 := by decide
                    have y_400 : (400 : Int32).toInt = 400 := by decide
                    have y_1 : (1 : Int32).toInt = 1 := by decide
                    have t_x_370 : x_370.toInt = (vy_27 : Int32).toInt + (1 : Int32).toInt := by rw [ex_370]; exact add_toInt (by omega) (by omega)
                    omega
                  exact ih_37 x_370 sv_356 sv_357 sv_358 sv_359 sv_360 sv_361 sv_362 1 _ _ _ (by omega) ha_372 pf_363 pf_364 (TeL.next h_tape.2.1 pf_47 pf_48 (Or.inr hw_375) hu_373 hu_374 hi_376) (hP.sub [0, 1, 2, 3] rfl) (hD.sub [0, 1, 2, 3] rfl rfl) hS (lv_sub hl [0, 1, 3, 4, 5] rfl)
  have ha_377 : 0 ≤ (0 : Int32).toInt ∧ (0 : Int32).toInt ≤ 400 := by
    have y_0 : (0 : Int32).toInt = 0 := by decide
    omega
  have hu_378 : TpR (Tf 1) (Tv 0) (pz_b rr (pz_fact (cB (Tf 1) (Tv 0)) 5)) sv_8 sv_9 sv_10 sv_11 := by
    rw [← ero_16]
    exact pf_14
  have hu_379 : Ctd (pz_b rr (pz_fact (cB (Tf 1) (Tv 0)) 5)) sv_6 := by
    rw [← ero_16]
    exact pf_15
  exact loop_38 _ 0 sv_5 sv_6 sv_7 sv_8 sv_9 sv_10 sv_11 0 _ _ _ (Nat.lt_succ_self _) ha_377 pf_12 pf_13 (TeL.first hu_378 hu_379) hP hD hS hl
set_option maxRecDepth 100000 in
theorem cu_fX7_readTest_5 (l : Launch) (D : va_G) (tc : Nat → ClassId) (sk : (Nat → Nat) × (Nat → Nat)) (Va_0 : Nat) (Va_1 : Nat) (Vv_0 : Int32) (Vv_1 : Int32) (Vf_1 : Nat → Int32) (Ta_0 : Nat) (Ta_1 : Nat) (Tv_0 : Int32) (Tv_1 : Int32) (Tv_2 : Int32) (Tv_3 : Int32) (Tv_4 : Int32) (Tf_1 : Nat → Int32) (rr : Except Int (Nat × Nat)) (h_tape : 0 ≤ (Tv_0 : Int32).toInt ∧ (Tv_0 : Int32).toInt ≤ 400 ∧ 0 ≤ (Tv_1 : Int32).toInt ∧ (Tv_1 : Int32).toInt ≤ 400 ∧ 0 ≤ (Tv_2 : Int32).toInt ∧ (Tv_2 : Int32).toInt ≤ 400) (h_u : 0 ≤ (Vv_0 : Int32).toInt ∧ (Vv_0 : Int32).toInt ≤ 400) (h_by : Byt Tf_1) (h_r : TpR Tf_1 Tv_0 rr Tv_1 Tv_2 Tv_3 Tv_4) (h_ct : Ctd rr Vv_1) : Ct l yX7_readTest cX7_readTest 6 none { frames := 19, cells := 0, slots := 0, locals := 449 } D tc sk [.ref Va_0, .ref Ta_0, .int 5] [(Va_0, .inr (7, [.ref Va_1, .int Vv_0, .int Vv_1])), (Va_1, .inl (tc 0, 400, .inl Vf_1)), (Ta_0, .inr (10, [.ref Ta_1, .int Tv_0, .int Tv_1, .int Tv_2, .int Tv_3, .int Tv_4])), (Ta_1, .inl (tc 0, 400, .inl Tf_1))] (fun (v : Option Value) (u : (Int32) × (Int32) × (Nat → Int32) × (Int32) × (Int32) × (Int32) × (Int32)) => match u with | (oo0x1, oo0x2, oo0x3, oo0x4, oo0x5, oo0x6, oo0x7) => v = none ∧ (0 ≤ (Tv_0 : Int32).toInt ∧ (Tv_0 : Int32).toInt ≤ 400 ∧ 0 ≤ (oo0x4 : Int32).toInt ∧ (oo0x4 : Int32).toInt ≤ 400 ∧ 0 ≤ (oo0x5 : Int32).toInt ∧ (oo0x5 : Int32).toInt ≤ 400) ∧ (0 ≤ (oo0x1 : Int32).toInt ∧ (oo0x1 : Int32).toInt ≤ 400) ∧ (TpR Tf_1 Tv_0 (pz_b rr (pz_tst (cB Tf_1 Tv_0) (pz_fact (cB Tf_1 Tv_0) 5))) oo0x4 oo0x5 oo0x6 oo0x7) ∧ (Ctd (pz_b rr (pz_tst (cB Tf_1 Tv_0) (pz_fact (cB Tf_1 Tv_0) 5))) oo0x2)) (fun (u : (Int32) × (Int32) × (Nat → Int32) × (Int32) × (Int32) × (Int32) × (Int32)) => match u with | (oo0x1, oo0x2, oo0x3, oo0x4, oo0x5, oo0x6, oo0x7) => [(Va_0, .inr (7, [.ref Va_1, .int oo0x1, .int oo0x2])), (Va_1, .inl (tc 0, 400, .inl oo0x3)), (Ta_0, .inr (10, [.ref Ta_1, .int Tv_0, .int oo0x4, .int oo0x5, .int oo0x6, .int oo0x7])), (Ta_1, .inl (tc 0, 400, .inl Tf_1))]) 0 0 :=
  ct_fX7_readTest_5 l D tc sk (fun k => ([Va_0, Va_1] : List (Nat)).getD k 0) (fun k => ([Vv_0, Vv_1] : List (Int32)).getD k 0) (fun k => ([(fun _ => 0), Vf_1] : List (Nat → Int32)).getD k (fun _ => 0)) (fun k => ([Ta_0, Ta_1] : List (Nat)).getD k 0) (fun k => ([Tv_0, Tv_1, Tv_2, Tv_3, Tv_4] : List (Int32)).getD k 0) (fun k => ([(fun _ => 0), Tf_1] : List (Nat → Int32)).getD k (fun _ => 0)) rr h_tape h_u h_by h_r h_ct
set_option maxHeartbeats 4000000 in
set_option maxRecDepth 100000 in
theorem ct_fX7_readFact_4 (l : Launch) (D : va_G) (tc : Nat → ClassId) (sk : (Nat → Nat) × (Nat → Nat)) (Va : Nat → Nat) (Vv : Nat → Int32) (Vf : Nat → Nat → Int32) (Ta : Nat → Nat) (Tv : Nat → Int32) (Tf : Nat → Nat → Int32) (rr : Except Int (Nat × Nat)) (h_tape : 0 ≤ ((Tv 0) : Int32).toInt ∧ ((Tv 0) : Int32).toInt ≤ 400 ∧ 0 ≤ ((Tv 1) : Int32).toInt ∧ ((Tv 1) : Int32).toInt ≤ 400 ∧ 0 ≤ ((Tv 2) : Int32).toInt ∧ ((Tv 2) : Int32).toInt ≤ 400) (h_u : 0 ≤ ((Vv 0) : Int32).toInt ∧ ((Vv 0) : Int32).toInt ≤ 400) (h_by : Byt (Tf 1)) (h_r : TpR (Tf 1) (Tv 0) rr (Tv 1) (Tv 2) (Tv 3) (Tv 4)) (h_ct : Ctd rr (Vv 1)) : Ct l yX7_readFact cX7_readFact 5 none { frames := 20, cells := 0, slots := 0, locals := 474 } D tc sk [.ref (Va 0), .ref (Ta 0), .int 4] [((Va 0), .inr (7, [.ref (Va 1), .int (Vv 0), .int (Vv 1)])), ((Va 1), .inl (tc 0, 400, .inl (Vf 1))), ((Ta 0), .inr (10, [.ref (Ta 1), .int (Tv 0), .int (Tv 1), .int (Tv 2), .int (Tv 3), .int (Tv 4)])), ((Ta 1), .inl (tc 0, 400, .inl (Tf 1)))] (fun (v : Option Value) (u : (Int32) × (Int32) × (Nat → Int32) × (Int32) × (Int32) × (Int32) × (Int32)) => match u with | (oo0x1, oo0x2, oo0x3, oo0x4, oo0x5, oo0x6, oo0x7) => v = none ∧ (0 ≤ ((Tv 0) : Int32).toInt ∧ ((Tv 0) : Int32).toInt ≤ 400 ∧ 0 ≤ (oo0x4 : Int32).toInt ∧ (oo0x4 : Int32).toInt ≤ 400 ∧ 0 ≤ (oo0x5 : Int32).toInt ∧ (oo0x5 : Int32).toInt ≤ 400) ∧ (0 ≤ (oo0x1 : Int32).toInt ∧ (oo0x1 : Int32).toInt ≤ 400) ∧ (TpR (Tf 1) (Tv 0) (pz_b rr (pz_fact (cB (Tf 1) (Tv 0)) 6)) oo0x4 oo0x5 oo0x6 oo0x7) ∧ (Ctd (pz_b rr (pz_fact (cB (Tf 1) (Tv 0)) 6)) oo0x2)) (fun (u : (Int32) × (Int32) × (Nat → Int32) × (Int32) × (Int32) × (Int32) × (Int32)) => match u with | (oo0x1, oo0x2, oo0x3, oo0x4, oo0x5, oo0x6, oo0x7) => [((Va 0), .inr (7, [.ref (Va 1), .int oo0x1, .int oo0x2])), ((Va 1), .inl (tc 0, 400, .inl oo0x3)), ((Ta 0), .inr (10, [.ref (Ta 1), .int (Tv 0), .int oo0x4, .int oo0x5, .int oo0x6, .int oo0x7])), ((Ta 1), .inl (tc 0, 400, .inl (Tf 1)))]) 0 0 := by
  refine Ct.start (by decide) (Nat.le_of_ble_eq_true rfl) (fun p e s m below meth c A ls hx hb hr hlk hin hml hown hts hK hX hP hD hA hl hS => ?_)
  have hl : lv_has ls 5 [(0, .ref (Va 0)), (1, .ref (Ta 0)), (2, .int 4)] := hl
  have tb_1 : TpB (rTE (cB (Tf 1) (Tv 0)) rr) (Tv 2) (Tv 4) := TpR.tb h_r
  refine lv_aload_n hx hb dX7_readFact_0 rfl (lv_at hl 1 rfl) ?_
  refine va_ldcS hx hb hown (sx_4 hX) dX7_readFact_1 ?_
  have ha_2 : (4 : Nat) < 7 := by
    have y_4 : (4 : Int32).toInt = 4 := by decide
    omega
  refine cV (a := (Ta 0)) (As := [.ref (sk.1 4)]) (rest := []) (wr := [((Va 0), .inr (7, [.ref (Va 1), .int (Vv 0), .int (Vv 1)])), ((Va 1), .inl (tc 0, 400, .inl (Vf 1)))]) ⟨hx, hb, hml, hown, hts⟩ hK hX hA (cu_fX10_isWord l D tc sk (Ta 0) (Ta 1) (Tv 0) (Tv 1) (Tv 2) (Tv 3) (Tv 4) (Tf 1) 4 rr ha_2 h_tape h_by h_r) k_618 k_615 k_616 k_617 k_96 pl_X10_isWord ⟨Nat.le_of_ble_eq_true rfl, Nat.le_of_ble_eq_true rfl⟩ rfl rfl (va_recv hK hP (ci := 10) (q0 := 2) rfl rfl) hP hD hS [2, 3] [0, 1] rfl rfl rfl rfl rfl (by decide) rfl hl.1 rfl (Nat.le_of_ble_eq_true rfl) dX7_readFact_3 ⟨Nat.le_of_ble_eq_true rfl, Nat.le_of_ble_eq_true rfl⟩ (fun v_3 u_4 H locs hv_5 hP₀ hD₀ hS₀ => ?_)
  obtain ⟨r_6, rfl, he_7, hm_9, hm_10⟩ := hv_5
  have he_7 : (r_6.toInt = 0 ∨ r_6.toInt = 1) := he_7
  refine W.eq (g2 := F0 m 6 ls [.int r_6]) rfl ?_
  replace hP : va_P D classes [((Va 0), .inr (7, [.ref (Va 1), .int (Vv 0), .int (Vv 1)])), ((Va 1), .inl (tc 0, 400, .inl (Vf 1))), ((Ta 0), .inr (10, [.ref (Ta 1), .int (Tv 0), .int (Tv 1), .int (Tv 2), .int (Tv 3), .int (Tv 4)])), ((Ta 1), .inl (tc 0, 400, .inl (Tf 1)))] H := hP₀
  replace hD : va_D A [((Va 0), .inr (7, [.ref (Va 1), .int (Vv 0), .int (Vv 1)])), ((Va 1), .inl (tc 0, 400, .inl (Vf 1))), ((Ta 0), .inr (10, [.ref (Ta 1), .int (Tv 0), .int (Tv 1), .int (Tv 2), .int (Tv 3), .int (Tv 4)])), ((Ta 1), .inl (tc 0, 400, .inl (Tf 1)))] := hD₀
  replace hS := hS₀
  clear hP₀ hD₀ hS₀
  refine lv_istore_n (lv' := [(3, .int r_6), (0, .ref (Va 0)), (1, .ref (Ta 0)), (2, .int 4)]) hx hb dX7_readFact_6 rfl hl (by decide) rfl (fun ls hl₀ => ?_)
  replace hl := hl₀
  clear hl₀
  refine lv_iload_n hx hb dX7_readFact_7 rfl (lv_at hl 0 rfl) ?_
  refine lv_if_ne (tgt := 20) hx hb dX7_readFact_8 (by decide) (fun c_11 => ?_) (fun c_11 => ?_)
  · skip
    have hz_13 : (r_6 : Int32).toInt = 1 := by
      have z_1 : ¬ (r_6 : Int32).toInt = (0 : Int32).toInt := fun z => c_11 (Int32.toInt_inj.mp z)
      have y_0 : (0 : Int32).toInt = 0 := by decide
      omega
    obtain pf_12 := hm_9 hz_13
    have pf_12 : TWd (cB (Tf 1) (Tv 0)) (wS (4 : Nat)) rr := pf_12
    refine lv_iload_n hx hb dX7_readFact_20 rfl (lv_at hl 3 rfl) ?_
    refine lv_bipush (v := 10) hx hb dX7_readFact_21 (by decide) ?_
    refine lv_icmp_lt (tgt := 34) hx hb dX7_readFact_23 (by decide) (fun c_14 => ?_) (fun c_14 => absurd c_14 (by decide))
    refine lv_iload_n hx hb dX7_readFact_34 rfl (lv_at hl 0 rfl) ?_
    refine lv_if_eq (tgt := 59) hx hb dX7_readFact_35 (by decide) (fun c_15 => ?_) (fun c_15 => ?_)
    · skip
      exfalso
      have z_1 : ¬ (r_6 : Int32).toInt = (0 : Int32).toInt := fun z => c_11 (Int32.toInt_inj.mp z)
      have z_2 := congrArg Int32.toInt c_15
      have y_0 : (0 : Int32).toInt = 0 := by decide
      omega
    · skip
      refine lv_aload_n hx hb dX7_readFact_38 rfl (lv_at hl 2 rfl) ?_
      refine cV (a := (Ta 0)) (As := []) (rest := []) (wr := [((Va 0), .inr (7, [.ref (Va 1), .int (Vv 0), .int (Vv 1)])), ((Va 1), .inl (tc 0, 400, .inl (Vf 1)))]) ⟨hx, hb, hml, hown, hts⟩ hK hX hA (cu_fX10_step l D tc sk (Ta 0) (Ta 1) (Tv 0) (Tv 1) (Tv 2) (Tv 3) (Tv 4) (Tf 1) (rTE (cB (Tf 1) (Tv 0)) rr) h_tape h_by tb_1) k_478 k_620 k_476 k_477 k_96 pl_X10_step ⟨Nat.le_of_ble_eq_true rfl, Nat.le_of_ble_eq_true rfl⟩ rfl rfl (va_recv hK hP (ci := 10) (q0 := 2) rfl rfl) hP hD hS [2, 3] [0, 1] rfl rfl rfl rfl rfl (by decide) rfl hl.1 rfl (Nat.le_of_ble_eq_true rfl) dX7_readFact_39 ⟨Nat.le_of_ble_eq_true rfl, Nat.le_of_ble_eq_true rfl⟩ (fun v_16 u_17 H locs hv_18 hP₀ hD₀ hS₀ => ?_)
      obtain ⟨sv_19, sv_20, sv_21⟩ := u_17
      obtain ⟨rfl, pf_22, pf_23⟩ := hv_18
      have pf_22 : 0 ≤ ((Tv 0) : Int32).toInt ∧ ((Tv 0) : Int32).toInt ≤ 400 ∧ 0 ≤ (sv_19 : Int32).toInt ∧ (sv_19 : Int32).toInt ≤ 400 ∧ 0 ≤ (sv_20 : Int32).toInt ∧ (sv_20 : Int32).toInt ≤ 400 := pf_22
      have pf_23 : TpR (Tf 1) (Tv 0) (rSK (cB (Tf 1) (Tv 0)) (rTE (cB (Tf 1) (Tv 0)) rr)) sv_19 sv_20 sv_21 (Tv 4) := pf_23
      rw [rNX_eq] at pf_23
      obtain ⟨ro_24, ero_24⟩ : ∃ z : Except Int (Nat × Nat), z = (rNX (cB (Tf 1) (Tv 0)) rr) := ⟨_, rfl⟩
      rw [← ero_24] at pf_23
      have tb_25 : TpB (rTE (cB (Tf 1) (Tv 0)) ro_24) sv_20 (Tv 4) := TpR.tb pf_23
      have cd_26 : Ctd ro_24 (Vv 1) := by rw [ero_24]; exact (Ctd.nx h_ct)
      refine W.eq (g2 := F0 m 42 ls []) rfl ?_
      replace hP : va_P D classes [((Va 0), .inr (7, [.ref (Va 1), .int (Vv 0), .int (Vv 1)])), ((Va 1), .inl (tc 0, 400, .inl (Vf 1))), ((Ta 0), .inr (10, [.ref (Ta 1), .int (Tv 0), .int sv_19, .int sv_20, .int sv_21, .int (Tv 4)])), ((Ta 1), .inl (tc 0, 400, .inl (Tf 1)))] H := hP₀
      replace hD : va_D A [((Va 0), .inr (7, [.ref (Va 1), .int (Vv 0), .int (Vv 1)])), ((Va 1), .inl (tc 0, 400, .inl (Vf 1))), ((Ta 0), .inr (10, [.ref (Ta 1), .int (Tv 0), .int sv_19, .int sv_20, .int sv_21, .int (Tv 4)])), ((Ta 1), .inl (tc 0, 400, .inl (Tf 1)))] := hD₀
      replace hS := hS₀
      clear hP₀ hD₀ hS₀
      refine lv_aload_n hx hb dX7_readFact_42 rfl (lv_at hl 1 rfl) ?_
      refine lv_aload_n hx hb dX7_readFact_43 rfl (lv_at hl 2 rfl) ?_
      refine lv_iload_n hx hb dX7_readFact_44 rfl (lv_at hl 3 rfl) ?_
      refine lv_iconst (v := 1) hx hb dX7_readFact_45 (by decide) ?_
      refine lv_iadd hx hb dX7_readFact_46 ?_
      refine lv_lit (v := 5) (by decide) ?_
      refine cV (a := (Va 0)) (As := [.ref (Ta 0), .int 5]) (rest := []) (wr := []) ⟨hx, hb, hml, hown, hts⟩ hK hX hA (cu_fX7_readFact_5 l D tc sk (Va 0) (Va 1) (Vv 0) (Vv 1) (Vf 1) (Ta 0) (Ta 1) (Tv 0) sv_19 sv_20 sv_21 (Tv 4) (Tf 1) ro_24 pf_22 h_u h_by pf_23 cd_26) k_659 k_656 k_658 k_12 k_99 pl_X7_readFact ⟨Nat.le_of_ble_eq_true rfl, Nat.le_of_ble_eq_true rfl⟩ rfl rfl (va_recv hK hP (ci := 7) (q0 := 0) rfl rfl) hP hD hS [0, 1, 2, 3] [] rfl rfl rfl rfl rfl (by decide) rfl hl.1 rfl (Nat.le_of_ble_eq_true rfl) dX7_readFact_47 ⟨Nat.le_of_ble_eq_true rfl, Nat.le_of_ble_eq_true rfl⟩ (fun v_27 u_28 H locs hv_29 hP₀ hD₀ hS₀ => ?_)
      obtain ⟨sv_30, sv_31, sv_32, sv_33, sv_34, sv_35, sv_36⟩ := u_28
      obtain ⟨rfl, pf_37, pf_38, pf_39, pf_40⟩ := hv_29
      have pf_37 : 0 ≤ ((Tv 0) : Int32).toInt ∧ ((Tv 0) : Int32).toInt ≤ 400 ∧ 0 ≤ (sv_33 : Int32).toInt ∧ (sv_33 : Int32).toInt ≤ 400 ∧ 0 ≤ (sv_34 : Int32).toInt ∧ (sv_34 : Int32).toInt ≤ 400 := pf_37
      have pf_38 : 0 ≤ (sv_30 : Int32).toInt ∧ (sv_30 : Int32).toInt ≤ 400 := pf_38
      have pf_39 : TpR (Tf 1) (Tv 0) (pz_b ro_24 (pz_fact (cB (Tf 1) (Tv 0)) 5)) sv_33 sv_34 sv_35 sv_36 := pf_39
      obtain ⟨ro_41, ero_41⟩ : ∃ z : Except Int (Nat × Nat), z = (pz_b ro_24 (pz_fact (cB (Tf 1) (Tv 0)) 5)) := ⟨_, rfl⟩
      rw [← ero_41] at pf_39
      have tb_42 : TpB (rTE (cB (Tf 1) (Tv 0)) ro_41) sv_34 sv_36 := TpR.tb pf_39
      have pf_40 : Ctd (pz_b ro_24 (pz_fact (cB (Tf 1) (Tv 0)) 5)) sv_31 := pf_40
      rw [← ero_41] at pf_40
      refine W.eq (g2 := F0 m 50 ls []) rfl ?_
      replace hP : va_P D classes [((Va 0), .inr (7, [.ref (Va 1), .int sv_30, .int sv_31])), ((Va 1), .inl (tc 0, 400, .inl sv_32)), ((Ta 0), .inr (10, [.ref (Ta 1), .int (Tv 0), .int sv_33, .int sv_34, .int sv_35, .int sv_36])), ((Ta 1), .inl (tc 0, 400, .inl (Tf 1)))] H := hP₀
      replace hD : va_D A [((Va 0), .inr (7, [.ref (Va 1), .int sv_30, .int sv_31])), ((Va 1), .inl (tc 0, 400, .inl sv_32)), ((Ta 0), .inr (10, [.ref (Ta 1), .int (Tv 0), .int sv_33, .int sv_34, .int sv_35, .int sv_36])), ((Ta 1), .inl (tc 0, 400, .inl (Tf 1)))] := hD₀
      replace hS := hS₀
      clear hP₀ hD₀ hS₀
      refine lv_aload_n hx hb dX7_readFact_50 rfl (lv_at hl 1 rfl) ?_
      refine lv_bipush (v := (-4)) hx hb dX7_readFact_51 (by decide) ?_
      refine cV (a := (Va 0)) (As := [.int (-4)]) (rest := []) (wr := [((Ta 0), .inr (10, [.ref (Ta 1), .int (Tv 0), .int sv_33, .int sv_34, .int sv_35, .int sv_36])), ((Ta 1), .inl (tc 0, 400, .inl (Tf 1)))]) ⟨hx, hb, hml, hown, hts⟩ hK hX hA (cu_fX7_put l D tc sk (Va 0) (Va 1) sv_30 sv_31 sv_32 (-4) pf_38) k_642 k_639 k_641 k_10 k_99 pl_X7_put ⟨Nat.le_of_ble_eq_true rfl, Nat.le_of_ble_eq_true rfl⟩ rfl rfl (va_recv hK hP (ci := 7) (q0 := 0) rfl rfl) hP hD hS [0, 1] [2, 3] rfl rfl rfl rfl rfl (by decide) rfl hl.1 rfl (Nat.le_of_ble_eq_true rfl) dX7_readFact_53 ⟨Nat.le_of_ble_eq_true rfl, Nat.le_of_ble_eq_true rfl⟩ (fun v_43 u_44 H locs hv_45 hP₀ hD₀ hS₀ => ?_)
      obtain ⟨sv_46, sv_47⟩ := u_44
      obtain ⟨rfl, pf_48⟩ := hv_45
      have pf_48 : 0 ≤ (sv_46 : Int32).toInt ∧ (sv_46 : Int32).toInt ≤ 400 := pf_48
      refine W.eq (g2 := F0 m 56 ls []) rfl ?_
      replace hP : va_P D classes [((Ta 0), .inr (10, [.ref (Ta 1), .int (Tv 0), .int sv_33, .int sv_34, .int sv_35, .int sv_36])), ((Ta 1), .inl (tc 0, 400, .inl (Tf 1))), ((Va 0), .inr (7, [.ref (Va 1), .int sv_46, .int sv_31])), ((Va 1), .inl (tc 0, 400, .inl sv_47))] H := hP₀
      replace hD : va_D A [((Ta 0), .inr (10, [.ref (Ta 1), .int (Tv 0), .int sv_33, .int sv_34, .int sv_35, .int sv_36])), ((Ta 1), .inl (tc 0, 400, .inl (Tf 1))), ((Va 0), .inr (7, [.ref (Va 1), .int sv_46, .int sv_31])), ((Va 1), .inl (tc 0, 400, .inl sv_47))] := hD₀
      replace hS := hS₀
      clear hP₀ hD₀ hS₀
      refine lv_goto (tgt := 135) hx hb dX7_readFact_56 (by decide) ?_
      have hf_49 : TpR (Tf 1) (Tv 0) (pz_b rr (pz_fact (cB (Tf 1) (Tv 0)) 6)) sv_33 sv_34 sv_35 sv_36 := by
        have hE_50 : (pz_b rr (pz_fact (cB (Tf 1) (Tv 0)) 6)) = ro_41 := by
          rw [ero_41, ero_24]
          have hw_51 : TWd (cB (Tf 1) (Tv 0)) pz_not rr := by
            rw [← wS4]
            exact pf_12
          exact (fact_not hw_51)
        rw [hE_50]
        exact pf_39
      have hf_52 : Ctd (pz_b rr (pz_fact (cB (Tf 1) (Tv 0)) 6)) sv_31 := by
        have hE_53 : (pz_b rr (pz_fact (cB (Tf 1) (Tv 0)) 6)) = ro_41 := by
          rw [ero_41, ero_24]
          have hw_54 : TWd (cB (Tf 1) (Tv 0)) pz_not rr := by
            rw [← wS4]
            exact pf_12
          exact (fact_not hw_54)
        rw [hE_53]
        exact pf_40
      exact retV hx hb hr hlk hP hD hS (sv_46, sv_31, sv_47, sv_33, sv_34, sv_35, sv_36) ⟨rfl, pf_37, pf_48, hf_49, hf_52⟩ [2, 3, 0, 1] rfl rfl dX7_readFact_135 (Nat.le_of_ble_eq_true rfl) (Nat.le_of_ble_eq_true rfl) rfl
  · skip
    have hz_56 : (r_6 : Int32).toInt = 0 := by
      have z_1 := congrArg Int32.toInt c_11
      have y_0 : (0 : Int32).toInt = 0 := by decide
      omega
    obtain pf_55 := hm_10 hz_56
    have pf_55 : NWd (cB (Tf 1) (Tv 0)) (wS (4 : Nat)) rr := pf_55
    refine lv_aload_n hx hb dX7_readFact_11 rfl (lv_at hl 2 rfl) ?_
    refine gf_X7_86 hx hb hts hown hK hP 2 rfl rfl dX7_readFact_12 ?_
    refine lv_bipush (v := 91) hx hb dX7_readFact_15 (by decide) ?_
    refine lv_icmp_ne (tgt := 34) hx hb dX7_readFact_17 (by decide) (fun c_57 => ?_) (fun c_57 => ?_)
    · skip
      refine lv_iload_n hx hb dX7_readFact_34 rfl (lv_at hl 0 rfl) ?_
      refine lv_if_eq (tgt := 59) hx hb dX7_readFact_35 (by decide) (fun c_58 => ?_) (fun c_58 => ?_)
      · skip
        refine lv_aload_n hx hb dX7_readFact_59 rfl (lv_at hl 2 rfl) ?_
        refine lv_bipush (v := 91) hx hb dX7_readFact_60 (by decide) ?_
        have ha_59 : 0 ≤ (91 : Int32).toInt := by
          have z_1 := congrArg Int32.toInt c_11
          have z_2 : ¬ ((Tv 3) : Int32).toInt = (91 : Int32).toInt := fun z => c_57 (Int32.toInt_inj.mp z)
          have z_3 := congrArg Int32.toInt c_58
          have y_0 : (0 : Int32).toInt = 0 := by decide
          have y_91 : (91 : Int32).toInt = 91 := by decide
          omega
        have ha_60 : (91 : Int32).toInt = (91 : Int) := by
          have z_1 := congrArg Int32.toInt c_11
          have z_2 : ¬ ((Tv 3) : Int32).toInt = (91 : Int32).toInt := fun z => c_57 (Int32.toInt_inj.mp z)
          have z_3 := congrArg Int32.toInt c_58
          have y_0 : (0 : Int32).toInt = 0 := by decide
          have y_91 : (91 : Int32).toInt = 91 := by decide
          omega
        refine cV (a := (Ta 0)) (As := [.int 91]) (rest := []) (wr := [((Va 0), .inr (7, [.ref (Va 1), .int (Vv 0), .int (Vv 1)])), ((Va 1), .inl (tc 0, 400, .inl (Vf 1)))]) ⟨hx, hb, hml, hown, hts⟩ hK hX hA (cu_fX10_takes l D tc sk (Ta 0) (Ta 1) (Tv 0) (Tv 1) (Tv 2) (Tv 3) (Tv 4) (Tf 1) 91 rr 91 h_tape h_by h_r ha_59 ha_60) k_492 k_613 k_490 k_491 k_96 pl_X10_takes ⟨Nat.le_of_ble_eq_true rfl, Nat.le_of_ble_eq_true rfl⟩ rfl rfl (va_recv hK hP (ci := 10) (q0 := 2) rfl rfl) hP hD hS [2, 3] [0, 1] rfl rfl rfl rfl rfl (by decide) rfl hl.1 rfl (Nat.le_of_ble_eq_true rfl) dX7_readFact_62 ⟨Nat.le_of_ble_eq_true rfl, Nat.le_of_ble_eq_true rfl⟩ (fun v_61 u_62 H locs hv_63 hP₀ hD₀ hS₀ => ?_)
        obtain ⟨sv_64, sv_65, sv_66⟩ := u_62
        obtain ⟨r_68, rfl, he_69, pf_67, hm_71, hm_72⟩ := hv_63
        have he_69 : (r_68.toInt = 0 ∨ r_68.toInt = 1) := he_69
        have pf_67 : 0 ≤ ((Tv 0) : Int32).toInt ∧ ((Tv 0) : Int32).toInt ≤ 400 ∧ 0 ≤ (sv_64 : Int32).toInt ∧ (sv_64 : Int32).toInt ≤ 400 ∧ 0 ≤ (sv_65 : Int32).toInt ∧ (sv_65 : Int32).toInt ≤ 400 := pf_67
        refine W.eq (g2 := F0 m 65 ls [.int r_68]) rfl ?_
        replace hP : va_P D classes [((Va 0), .inr (7, [.ref (Va 1), .int (Vv 0), .int (Vv 1)])), ((Va 1), .inl (tc 0, 400, .inl (Vf 1))), ((Ta 0), .inr (10, [.ref (Ta 1), .int (Tv 0), .int sv_64, .int sv_65, .int sv_66, .int (Tv 4)])), ((Ta 1), .inl (tc 0, 400, .inl (Tf 1)))] H := hP₀
        replace hD : va_D A [((Va 0), .inr (7, [.ref (Va 1), .int (Vv 0), .int (Vv 1)])), ((Va 1), .inl (tc 0, 400, .inl (Vf 1))), ((Ta 0), .inr (10, [.ref (Ta 1), .int (Tv 0), .int sv_64, .int sv_65, .int sv_66, .int (Tv 4)])), ((Ta 1), .inl (tc 0, 400, .inl (Tf 1)))] := hD₀
        replace hS := hS₀
        clear hP₀ hD₀ hS₀
        refine lv_if_eq (tgt := 93) hx hb dX7_readFact_65 (by decide) (fun c_73 => ?_) (fun c_73 => ?_)
        · skip
          have hz_76 : (r_68 : Int32).toInt = 0 := by
            have z_1 := congrArg Int32.toInt c_11
            have z_2 : ¬ ((Tv 3) : Int32).toInt = (91 : Int32).toInt := fun z => c_57 (Int32.toInt_inj.mp z)
            have z_3 := congrArg Int32.toInt c_58
            have z_4 := congrArg Int32.toInt c_73
            have y_0 : (0 : Int32).toInt = 0 := by decide
            have y_91 : (91 : Int32).toInt = 91 := by decide
            omega
          obtain ⟨pf_74, pf_75⟩ := hm_72 hz_76
          have pf_74 : NSg (cB (Tf 1) (Tv 0)) (91 : Int) rr := pf_74
          have pf_75 : TpR (Tf 1) (Tv 0) rr sv_64 sv_65 sv_66 (Tv 4) := pf_75
          have tb_77 : TpB (rTE (cB (Tf 1) (Tv 0)) rr) sv_65 (Tv 4) := TpR.tb pf_75
          refine lv_aload_n hx hb dX7_readFact_93 rfl (lv_at hl 1 rfl) ?_
          refine lv_aload_n hx hb dX7_readFact_94 rfl (lv_at hl 2 rfl) ?_
          refine cV (a := (Va 0)) (As := [.ref (Ta 0)]) (rest := []) (wr := []) ⟨hx, hb, hml, hown, hts⟩ hK hX hA (cu_fX7_readSum l D tc sk (Va 0) (Va 1) (Vv 0) (Vv 1) (Vf 1) (Ta 0) (Ta 1) (Tv 0) sv_64 sv_65 sv_66 (Tv 4) (Tf 1) rr pf_67 h_u h_by pf_75 h_ct) k_624 k_621 k_623 k_7 k_99 pl_X7_readSum ⟨Nat.le_of_ble_eq_true rfl, Nat.le_of_ble_eq_true rfl⟩ rfl rfl (va_recv hK hP (ci := 7) (q0 := 0) rfl rfl) hP hD hS [0, 1, 2, 3] [] rfl rfl rfl rfl rfl (by decide) rfl hl.1 rfl (Nat.le_of_ble_eq_true rfl) dX7_readFact_95 ⟨Nat.le_of_ble_eq_true rfl, Nat.le_of_ble_eq_true rfl⟩ (fun v_78 u_79 H locs hv_80 hP₀ hD₀ hS₀ => ?_)
          obtain ⟨sv_81, sv_82, sv_83, sv_84, sv_85, sv_86, sv_87⟩ := u_79
          obtain ⟨rfl, pf_88, pf_89, pf_90, pf_91⟩ := hv_80
          have pf_88 : 0 ≤ ((Tv 0) : Int32).toInt ∧ ((Tv 0) : Int32).toInt ≤ 400 ∧ 0 ≤ (sv_84 : Int32).toInt ∧ (sv_84 : Int32).toInt ≤ 400 ∧ 0 ≤ (sv_85 : Int32).toInt ∧ (sv_85 : Int32).toInt ≤ 400 := pf_88
          have pf_89 : 0 ≤ (sv_81 : Int32).toInt ∧ (sv_81 : Int32).toInt ≤ 400 := pf_89
          have pf_90 : TpR (Tf 1) (Tv 0) (pz_b rr (pz_sum (cB (Tf 1) (Tv 0)))) sv_84 sv_85 sv_86 sv_87 := pf_90
          obtain ⟨ro_92, ero_92⟩ : ∃ z : Except Int (Nat × Nat), z = (pz_b rr (pz_sum (cB (Tf 1) (Tv 0)))) := ⟨_, rfl⟩
          rw [← ero_92] at pf_90
          have tb_93 : TpB (rTE (cB (Tf 1) (Tv 0)) ro_92) sv_85 sv_87 := TpR.tb pf_90
          have pf_91 : Ctd (pz_b rr (pz_sum (cB (Tf 1) (Tv 0)))) sv_82 := pf_91
          rw [← ero_92] at pf_91
          refine W.eq (g2 := F0 m 98 ls []) rfl ?_
          replace hP : va_P D classes [((Va 0), .inr (7, [.ref (Va 1), .int sv_81, .int sv_82])), ((Va 1), .inl (tc 0, 400, .inl sv_83)), ((Ta 0), .inr (10, [.ref (Ta 1), .int (Tv 0), .int sv_84, .int sv_85, .int sv_86, .int sv_87])), ((Ta 1), .inl (tc 0, 400, .inl (Tf 1)))] H := hP₀
          replace hD : va_D A [((Va 0), .inr (7, [.ref (Va 1), .int sv_81, .int sv_82])), ((Va 1), .inl (tc 0, 400, .inl sv_83)), ((Ta 0), .inr (10, [.ref (Ta 1), .int (Tv 0), .int sv_84, .int sv_85, .int sv_86, .int sv_87])), ((Ta 1), .inl (tc 0, 400, .inl (Tf 1)))] := hD₀
          replace hS := hS₀
          clear hP₀ hD₀ hS₀
          refine lv_aload_n hx hb dX7_readFact_98 rfl (lv_at hl 2 rfl) ?_
          refine cS (As := [.ref (Ta 0)]) (rest := []) (wr := [((Va 0), .inr (7, [.ref (Va 1), .int sv_81, .int sv_82])), ((Va 1), .inl (tc 0, 400, .inl sv_83))]) ⟨hx, hb, hml, hown, hts⟩ hK hX hA (cu_fX7_comparison l D tc sk (Ta 0) (Ta 1) (Tv 0) sv_84 sv_85 sv_86 sv_87 (Tf 1) pf_88) k_663 k_661 k_662 k_99 pl_X7_comparison ⟨Nat.le_of_ble_eq_true rfl, Nat.le_of_ble_eq_true rfl⟩ rfl rfl  hP hD hS [2, 3] [0, 1] rfl rfl rfl rfl rfl (by decide) rfl hl.1 rfl (Nat.le_of_ble_eq_true rfl) dX7_readFact_99 ⟨Nat.le_of_ble_eq_true rfl, Nat.le_of_ble_eq_true rfl⟩ (fun v_94 u_95 H locs hv_96 hP₀ hD₀ hS₀ => ?_)
          obtain ⟨r_97, rfl, he_98⟩ := hv_96
          have he_98 : ((r_97.toInt = -1 ∧ ¬ (60 ≤ sv_86.toInt ∧ sv_86.toInt ≤ 62)) ∨ (r_97.toInt ≤ -7 ∧ 60 ≤ sv_86.toInt ∧ sv_86.toInt ≤ 62)) := he_98
          refine W.eq (g2 := F0 m 102 ls [.int r_97]) rfl ?_
          replace hP : va_P D classes [((Va 0), .inr (7, [.ref (Va 1), .int sv_81, .int sv_82])), ((Va 1), .inl (tc 0, 400, .inl sv_83)), ((Ta 0), .inr (10, [.ref (Ta 1), .int (Tv 0), .int sv_84, .int sv_85, .int sv_86, .int sv_87])), ((Ta 1), .inl (tc 0, 400, .inl (Tf 1)))] H := hP₀
          replace hD : va_D A [((Va 0), .inr (7, [.ref (Va 1), .int sv_81, .int sv_82])), ((Va 1), .inl (tc 0, 400, .inl sv_83)), ((Ta 0), .inr (10, [.ref (Ta 1), .int (Tv 0), .int sv_84, .int sv_85, .int sv_86, .int sv_87])), ((Ta 1), .inl (tc 0, 400, .inl (Tf 1)))] := hD₀
          replace hS := hS₀
          clear hP₀ hD₀ hS₀
          refine lv_istore (lv' := [(4, .int r_97), (3, .int r_6), (0, .ref (Va 0)), (1, .ref (Ta 0)), (2, .int 4)]) hx hb dX7_readFact_102 hl (by decide) rfl (fun ls hl₀ => ?_)
          replace hl := hl₀
          clear hl₀
          refine lv_iload hx hb dX7_readFact_104 (lv_at hl 0 rfl) ?_
          refine lv_iconst (v := (-1)) hx hb dX7_readFact_106 (by decide) ?_
          refine lv_icmp_ne (tgt := 115) hx hb dX7_readFact_107 (by decide) (fun c_100 => ?_) (fun c_100 => ?_)
          · skip
            refine lv_aload_n hx hb dX7_readFact_115 rfl (lv_at hl 2 rfl) ?_
            refine lv_aload_n hx hb dX7_readFact_116 rfl (lv_at hl 3 rfl) ?_
            refine cV (a := (Va 0)) (As := [.ref (Ta 0)]) (rest := []) (wr := []) ⟨hx, hb, hml, hown, hts⟩ hK hX hA (cu_fX7_countOne l D tc sk (Va 0) (Va 1) sv_81 sv_82 sv_83 (Ta 0) (Ta 1) (Tv 0) sv_84 sv_85 sv_86 sv_87 (Tf 1) ro_92 pf_88 pf_89 h_by pf_90 pf_91) k_638 k_635 k_637 k_9 k_99 pl_X7_countOne ⟨Nat.le_of_ble_eq_true rfl, Nat.le_of_ble_eq_true rfl⟩ rfl rfl (va_recv hK hP (ci := 7) (q0 := 0) rfl rfl) hP hD hS [0, 1, 2, 3] [] rfl rfl rfl rfl rfl (by decide) rfl hl.1 rfl (Nat.le_of_ble_eq_true rfl) dX7_readFact_117 ⟨Nat.le_of_ble_eq_true rfl, Nat.le_of_ble_eq_true rfl⟩ (fun v_101 u_102 H locs hv_103 hP₀ hD₀ hS₀ => ?_)
            obtain ⟨sv_104, sv_105, sv_106⟩ := u_102
            obtain ⟨rfl, pf_107, pf_108, pf_109, pf_110⟩ := hv_103
            have pf_107 : 0 ≤ ((Tv 0) : Int32).toInt ∧ ((Tv 0) : Int32).toInt ≤ 400 ∧ 0 ≤ (sv_84 : Int32).toInt ∧ (sv_84 : Int32).toInt ≤ 400 ∧ 0 ≤ (sv_85 : Int32).toInt ∧ (sv_85 : Int32).toInt ≤ 400 := pf_107
            have pf_108 : 0 ≤ (sv_81 : Int32).toInt ∧ (sv_81 : Int32).toInt ≤ 400 := pf_108
            have pf_109 : TpR (Tf 1) (Tv 0) (rC1 ro_92) sv_84 sv_85 sv_105 sv_106 := pf_109
            obtain ⟨ro_111, ero_111⟩ : ∃ z : Except Int (Nat × Nat), z = (rC1 ro_92) := ⟨_, rfl⟩
            rw [← ero_111] at pf_109
            have tb_112 : TpB (rTE (cB (Tf 1) (Tv 0)) ro_111) sv_85 sv_106 := TpR.tb pf_109
            have pf_110 : Ctd (rC1 ro_92) sv_104 := pf_110
            rw [← ero_111] at pf_110
            refine W.eq (g2 := F0 m 120 ls []) rfl ?_
            replace hP : va_P D classes [((Va 0), .inr (7, [.ref (Va 1), .int sv_81, .int sv_104])), ((Va 1), .inl (tc 0, 400, .inl sv_83)), ((Ta 0), .inr (10, [.ref (Ta 1), .int (Tv 0), .int sv_84, .int sv_85, .int sv_105, .int sv_106])), ((Ta 1), .inl (tc 0, 400, .inl (Tf 1)))] H := hP₀
            replace hD : va_D A [((Va 0), .inr (7, [.ref (Va 1), .int sv_81, .int sv_104])), ((Va 1), .inl (tc 0, 400, .inl sv_83)), ((Ta 0), .inr (10, [.ref (Ta 1), .int (Tv 0), .int sv_84, .int sv_85, .int sv_105, .int sv_106])), ((Ta 1), .inl (tc 0, 400, .inl (Tf 1)))] := hD₀
            replace hS := hS₀
            clear hP₀ hD₀ hS₀
            refine lv_aload_n hx hb dX7_readFact_120 rfl (lv_at hl 3 rfl) ?_
            refine cV (a := (Ta 0)) (As := []) (rest := []) (wr := [((Va 0), .inr (7, [.ref (Va 1), .int sv_81, .int sv_104])), ((Va 1), .inl (tc 0, 400, .inl sv_83))]) ⟨hx, hb, hml, hown, hts⟩ hK hX hA (cu_fX10_step l D tc sk (Ta 0) (Ta 1) (Tv 0) sv_84 sv_85 sv_105 sv_106 (Tf 1) (rTE (cB (Tf 1) (Tv 0)) ro_111) pf_107 h_by tb_112) k_478 k_620 k_476 k_477 k_96 pl_X10_step ⟨Nat.le_of_ble_eq_true rfl, Nat.le_of_ble_eq_true rfl⟩ rfl rfl (va_recv hK hP (ci := 10) (q0 := 2) rfl rfl) hP hD hS [2, 3] [0, 1] rfl rfl rfl rfl rfl (by decide) rfl hl.1 rfl (Nat.le_of_ble_eq_true rfl) dX7_readFact_121 ⟨Nat.le_of_ble_eq_true rfl, Nat.le_of_ble_eq_true rfl⟩ (fun v_113 u_114 H locs hv_115 hP₀ hD₀ hS₀ => ?_)
            obtain ⟨sv_116, sv_117, sv_118⟩ := u_114
            obtain ⟨rfl, pf_119, pf_120⟩ := hv_115
            have pf_119 : 0 ≤ ((Tv 0) : Int32).toInt ∧ ((Tv 0) : Int32).toInt ≤ 400 ∧ 0 ≤ (sv_116 : Int32).toInt ∧ (sv_116 : Int32).toInt ≤ 400 ∧ 0 ≤ (sv_117 : Int32).toInt ∧ (sv_117 : Int32).toInt ≤ 400 := pf_119
            have pf_120 : TpR (Tf 1) (Tv 0) (rSK (cB (Tf 1) (Tv 0)) (rTE (cB (Tf 1) (Tv 0)) ro_111)) sv_116 sv_117 sv_118 sv_106 := pf_120
            rw [rNX_eq] at pf_120
            obtain ⟨ro_121, ero_121⟩ : ∃ z : Except Int (Nat × Nat), z = (rNX (cB (Tf 1) (Tv 0)) ro_111) := ⟨_, rfl⟩
            rw [← ero_121] at pf_120
            have tb_122 : TpB (rTE (cB (Tf 1) (Tv 0)) ro_121) sv_117 sv_106 := TpR.tb pf_120
            have cd_123 : Ctd ro_121 sv_104 := by rw [ero_121]; exact (Ctd.nx pf_110)
            refine W.eq (g2 := F0 m 124 ls []) rfl ?_
            replace hP : va_P D classes [((Va 0), .inr (7, [.ref (Va 1), .int sv_81, .int sv_104])), ((Va 1), .inl (tc 0, 400, .inl sv_83)), ((Ta 0), .inr (10, [.ref (Ta 1), .int (Tv 0), .int sv_116, .int sv_117, .int sv_118, .int sv_106])), ((Ta 1), .inl (tc 0, 400, .inl (Tf 1)))] H := hP₀
            replace hD : va_D A [((Va 0), .inr (7, [.ref (Va 1), .int sv_81, .int sv_104])), ((Va 1), .inl (tc 0, 400, .inl sv_83)), ((Ta 0), .inr (10, [.ref (Ta 1), .int (Tv 0), .int sv_116, .int sv_117, .int sv_118, .int sv_106])), ((Ta 1), .inl (tc 0, 400, .inl (Tf 1)))] := hD₀
            replace hS := hS₀
            clear hP₀ hD₀ hS₀
            refine lv_aload_n hx hb dX7_readFact_124 rfl (lv_at hl 2 rfl) ?_
            refine lv_aload_n hx hb dX7_readFact_125 rfl (lv_at hl 3 rfl) ?_
            refine cV (a := (Va 0)) (As := [.ref (Ta 0)]) (rest := []) (wr := []) ⟨hx, hb, hml, hown, hts⟩ hK hX hA (cu_fX7_readSum l D tc sk (Va 0) (Va 1) sv_81 sv_104 sv_83 (Ta 0) (Ta 1) (Tv 0) sv_116 sv_117 sv_118 sv_106 (Tf 1) ro_121 pf_119 pf_108 h_by pf_120 cd_123) k_624 k_621 k_623 k_7 k_99 pl_X7_readSum ⟨Nat.le_of_ble_eq_true rfl, Nat.le_of_ble_eq_true rfl⟩ rfl rfl (va_recv hK hP (ci := 7) (q0 := 0) rfl rfl) hP hD hS [0, 1, 2, 3] [] rfl rfl rfl rfl rfl (by decide) rfl hl.1 rfl (Nat.le_of_ble_eq_true rfl) dX7_readFact_126 ⟨Nat.le_of_ble_eq_true rfl, Nat.le_of_ble_eq_true rfl⟩ (fun v_124 u_125 H locs hv_126 hP₀ hD₀ hS₀ => ?_)
            obtain ⟨sv_127, sv_128, sv_129, sv_130, sv_131, sv_132, sv_133⟩ := u_125
            obtain ⟨rfl, pf_134, pf_135, pf_136, pf_137⟩ := hv_126
            have pf_134 : 0 ≤ ((Tv 0) : Int32).toInt ∧ ((Tv 0) : Int32).toInt ≤ 400 ∧ 0 ≤ (sv_130 : Int32).toInt ∧ (sv_130 : Int32).toInt ≤ 400 ∧ 0 ≤ (sv_131 : Int32).toInt ∧ (sv_131 : Int32).toInt ≤ 400 := pf_134
            have pf_135 : 0 ≤ (sv_127 : Int32).toInt ∧ (sv_127 : Int32).toInt ≤ 400 := pf_135
            have pf_136 : TpR (Tf 1) (Tv 0) (pz_b ro_121 (pz_sum (cB (Tf 1) (Tv 0)))) sv_130 sv_131 sv_132 sv_133 := pf_136
            obtain ⟨ro_138, ero_138⟩ : ∃ z : Except Int (Nat × Nat), z = (pz_b ro_121 (pz_sum (cB (Tf 1) (Tv 0)))) := ⟨_, rfl⟩
            rw [← ero_138] at pf_136
            have tb_139 : TpB (rTE (cB (Tf 1) (Tv 0)) ro_138) sv_131 sv_133 := TpR.tb pf_136
            have pf_137 : Ctd (pz_b ro_121 (pz_sum (cB (Tf 1) (Tv 0)))) sv_128 := pf_137
            rw [← ero_138] at pf_137
            refine W.eq (g2 := F0 m 129 ls []) rfl ?_
            replace hP : va_P D classes [((Va 0), .inr (7, [.ref (Va 1), .int sv_127, .int sv_128])), ((Va 1), .inl (tc 0, 400, .inl sv_129)), ((Ta 0), .inr (10, [.ref (Ta 1), .int (Tv 0), .int sv_130, .int sv_131, .int sv_132, .int sv_133])), ((Ta 1), .inl (tc 0, 400, .inl (Tf 1)))] H := hP₀
            replace hD : va_D A [((Va 0), .inr (7, [.ref (Va 1), .int sv_127, .int sv_128])), ((Va 1), .inl (tc 0, 400, .inl sv_129)), ((Ta 0), .inr (10, [.ref (Ta 1), .int (Tv 0), .int sv_130, .int sv_131, .int sv_132, .int sv_133])), ((Ta 1), .inl (tc 0, 400, .inl (Tf 1)))] := hD₀
            replace hS := hS₀
            clear hP₀ hD₀ hS₀
            refine lv_aload_n hx hb dX7_readFact_129 rfl (lv_at hl 2 rfl) ?_
            refine lv_iload hx hb dX7_readFact_130 (lv_at hl 0 rfl) ?_
            refine cV (a := (Va 0)) (As := [.int r_97]) (rest := []) (wr := [((Ta 0), .inr (10, [.ref (Ta 1), .int (Tv 0), .int sv_130, .int sv_131, .int sv_132, .int sv_133])), ((Ta 1), .inl (tc 0, 400, .inl (Tf 1)))]) ⟨hx, hb, hml, hown, hts⟩ hK hX hA (cu_fX7_put l D tc sk (Va 0) (Va 1) sv_127 sv_128 sv_129 r_97 pf_135) k_642 k_639 k_641 k_10 k_99 pl_X7_put ⟨Nat.le_of_ble_eq_true rfl, Nat.le_of_ble_eq_true rfl⟩ rfl rfl (va_recv hK hP (ci := 7) (q0 := 0) rfl rfl) hP hD hS [0, 1] [2, 3] rfl rfl rfl rfl rfl (by decide) rfl hl.1 rfl (Nat.le_of_ble_eq_true rfl) dX7_readFact_132 ⟨Nat.le_of_ble_eq_true rfl, Nat.le_of_ble_eq_true rfl⟩ (fun v_140 u_141 H locs hv_142 hP₀ hD₀ hS₀ => ?_)
            obtain ⟨sv_143, sv_144⟩ := u_141
            obtain ⟨rfl, pf_145⟩ := hv_142
            have pf_145 : 0 ≤ (sv_143 : Int32).toInt ∧ (sv_143 : Int32).toInt ≤ 400 := pf_145
            refine W.eq (g2 := F0 m 135 ls []) rfl ?_
            replace hP : va_P D classes [((Ta 0), .inr (10, [.ref (Ta 1), .int (Tv 0), .int sv_130, .int sv_131, .int sv_132, .int sv_133])), ((Ta 1), .inl (tc 0, 400, .inl (Tf 1))), ((Va 0), .inr (7, [.ref (Va 1), .int sv_143, .int sv_128])), ((Va 1), .inl (tc 0, 400, .inl sv_144))] H := hP₀
            replace hD : va_D A [((Ta 0), .inr (10, [.ref (Ta 1), .int (Tv 0), .int sv_130, .int sv_131, .int sv_132, .int sv_133])), ((Ta 1), .inl (tc 0, 400, .inl (Tf 1))), ((Va 0), .inr (7, [.ref (Va 1), .int sv_143, .int sv_128])), ((Va 1), .inl (tc 0, 400, .inl sv_144))] := hD₀
            replace hS := hS₀
            clear hP₀ hD₀ hS₀
            have hf_146 : TpR (Tf 1) (Tv 0) (pz_b rr (pz_fact (cB (Tf 1) (Tv 0)) 6)) sv_130 sv_131 sv_132 sv_133 := by
              have hE_147 : (pz_b rr (pz_fact (cB (Tf 1) (Tv 0)) 6)) = ro_138 := by
                rw [ero_138, ero_121, ero_111, ero_92]
                have hw_148 : NWd (cB (Tf 1) (Tv 0)) pz_not rr := by
                  rw [← wS4]
                  exact pf_55
                have hw_149 : NSg (cB (Tf 1) (Tv 0)) 91 rr := by
                  exact pf_74
                have hu_150 : TpR (Tf 1) (Tv 0) (pz_b rr (pz_sum (cB (Tf 1) (Tv 0)))) sv_84 sv_85 sv_86 sv_87 := by
                  rw [← ero_92]
                  exact pf_90
                have hr_151 : 60 ≤ (sv_86 : Int32).toInt ∧ (sv_86 : Int32).toInt ≤ 62 := by
                  have z_1 := congrArg Int32.toInt c_11
                  have z_2 : ¬ ((Tv 3) : Int32).toInt = (91 : Int32).toInt := fun z => c_57 (Int32.toInt_inj.mp z)
                  have z_3 := congrArg Int32.toInt c_58
                  have z_4 := congrArg Int32.toInt c_73
                  have z_5 : ¬ (r_97 : Int32).toInt = ((-1) : Int32).toInt := fun z => c_100 (Int32.toInt_inj.mp z)
                  have y_m1 : (-1 : Int32).toInt = -1 := by decide
                  have y_0 : (0 : Int32).toInt = 0 := by decide
                  have y_91 : (91 : Int32).toInt = 91 := by decide
                  omega
                exact ((fact_com hw_148 hw_149).trans (congrArg (fun z => pz_b z (pz_sum (cB (Tf 1) (Tv 0)))) (com_yes hu_150 hr_151)))
              rw [hE_147]
              exact pf_136
            have hf_152 : Ctd (pz_b rr (pz_fact (cB (Tf 1) (Tv 0)) 6)) sv_128 := by
              have hE_153 : (pz_b rr (pz_fact (cB (Tf 1) (Tv 0)) 6)) = ro_138 := by
                rw [ero_138, ero_121, ero_111, ero_92]
                have hw_154 : NWd (cB (Tf 1) (Tv 0)) pz_not rr := by
                  rw [← wS4]
                  exact pf_55
                have hw_155 : NSg (cB (Tf 1) (Tv 0)) 91 rr := by
                  exact pf_74
                have hu_156 : TpR (Tf 1) (Tv 0) (pz_b rr (pz_sum (cB (Tf 1) (Tv 0)))) sv_84 sv_85 sv_86 sv_87 := by
                  rw [← ero_92]
                  exact pf_90
                have hr_157 : 60 ≤ (sv_86 : Int32).toInt ∧ (sv_86 : Int32).toInt ≤ 62 := by
                  have z_1 := congrArg Int32.toInt c_11
                  have z_2 : ¬ ((Tv 3) : Int32).toInt = (91 : Int32).toInt := fun z => c_57 (Int32.toInt_inj.mp z)
                  have z_3 := congrArg Int32.toInt c_58
                  have z_4 := congrArg Int32.toInt c_73
                  have z_5 : ¬ (r_97 : Int32).toInt = ((-1) : Int32).toInt := fun z => c_100 (Int32.toInt_inj.mp z)
                  have y_m1 : (-1 : Int32).toInt = -1 := by decide
                  have y_0 : (0 : Int32).toInt = 0 := by decide
                  have y_91 : (91 : Int32).toInt = 91 := by decide
                  omega
                exact ((fact_com hw_154 hw_155).trans (congrArg (fun z => pz_b z (pz_sum (cB (Tf 1) (Tv 0)))) (com_yes hu_156 hr_157)))
              rw [hE_153]
              exact pf_137
            exact retV hx hb hr hlk hP hD hS (sv_143, sv_128, sv_144, sv_130, sv_131, sv_132, sv_133) ⟨rfl, pf_134, pf_145, hf_146, hf_152⟩ [2, 3, 0, 1] rfl rfl dX7_readFact_135 (Nat.le_of_ble_eq_true rfl) (Nat.le_of_ble_eq_true rfl) rfl
          · skip
            refine lv_aload_n hx hb dX7_readFact_110 rfl (lv_at hl 3 rfl) ?_
            refine lv_iconst (v := 0) hx hb dX7_readFact_111 (by decide) ?_
            have ha_158 : 0 ≤ (0 : Int32).toInt ∧ (0 : Int32).toInt ≤ 4 := by
              have z_1 := congrArg Int32.toInt c_11
              have z_2 : ¬ ((Tv 3) : Int32).toInt = (91 : Int32).toInt := fun z => c_57 (Int32.toInt_inj.mp z)
              have z_3 := congrArg Int32.toInt c_58
              have z_4 := congrArg Int32.toInt c_73
              have z_5 := congrArg Int32.toInt c_100
              have y_m1 : (-1 : Int32).toInt = -1 := by decide
              have y_0 : (0 : Int32).toInt = 0 := by decide
              have y_91 : (91 : Int32).toInt = 91 := by decide
              omega
            have ha_159 : (0 : Int32).toInt = (0 : Int) := by
              have z_1 := congrArg Int32.toInt c_11
              have z_2 : ¬ ((Tv 3) : Int32).toInt = (91 : Int32).toInt := fun z => c_57 (Int32.toInt_inj.mp z)
              have z_3 := congrArg Int32.toInt c_58
              have z_4 := congrArg Int32.toInt c_73
              have z_5 := congrArg Int32.toInt c_100
              have y_m1 : (-1 : Int32).toInt = -1 := by decide
              have y_0 : (0 : Int32).toInt = 0 := by decide
              have y_91 : (91 : Int32).toInt = 91 := by decide
              omega
            refine cV (a := (Ta 0)) (As := [.int 0]) (rest := []) (wr := [((Va 0), .inr (7, [.ref (Va 1), .int sv_81, .int sv_82])), ((Va 1), .inl (tc 0, 400, .inl sv_83))]) ⟨hx, hb, hml, hown, hts⟩ hK hX hA (cu_fX10_fail l D tc sk (Ta 0) (Ta 1) (Tv 0) sv_84 sv_85 sv_86 sv_87 (Tf 1) 0 ro_92 0 pf_88 pf_90 ha_158 ha_159) k_557 k_619 k_555 k_556 k_96 pl_X10_fail ⟨Nat.le_of_ble_eq_true rfl, Nat.le_of_ble_eq_true rfl⟩ rfl rfl (va_recv hK hP (ci := 10) (q0 := 2) rfl rfl) hP hD hS [2, 3] [0, 1] rfl rfl rfl rfl rfl (by decide) rfl hl.1 rfl (Nat.le_of_ble_eq_true rfl) dX7_readFact_112 ⟨Nat.le_of_ble_eq_true rfl, Nat.le_of_ble_eq_true rfl⟩ (fun v_160 u_161 H locs hv_162 hP₀ hD₀ hS₀ => ?_)
            obtain ⟨sv_163, sv_164⟩ := u_161
            obtain ⟨rfl, pf_165, pf_166⟩ := hv_162
            have pf_165 : 0 ≤ ((Tv 0) : Int32).toInt ∧ ((Tv 0) : Int32).toInt ≤ 400 ∧ 0 ≤ (sv_84 : Int32).toInt ∧ (sv_84 : Int32).toInt ≤ 400 ∧ 0 ≤ (sv_85 : Int32).toInt ∧ (sv_85 : Int32).toInt ≤ 400 := pf_165
            have pf_166 : TpR (Tf 1) (Tv 0) (rER (0 : Int) ro_92) sv_84 sv_85 sv_163 sv_164 := pf_166
            obtain ⟨ro_167, ero_167⟩ : ∃ z : Except Int (Nat × Nat), z = (rER 0 ro_92) := ⟨_, rfl⟩
            rw [← ero_167] at pf_166
            have tb_168 : TpB (rTE (cB (Tf 1) (Tv 0)) ro_167) sv_85 sv_164 := TpR.tb pf_166
            have cd_169 : Ctd ro_167 sv_82 := by rw [ero_167]; exact (Ctd.er)
            refine W.eq (g2 := F0 m 115 ls []) rfl ?_
            replace hP : va_P D classes [((Va 0), .inr (7, [.ref (Va 1), .int sv_81, .int sv_82])), ((Va 1), .inl (tc 0, 400, .inl sv_83)), ((Ta 0), .inr (10, [.ref (Ta 1), .int (Tv 0), .int sv_84, .int sv_85, .int sv_163, .int sv_164])), ((Ta 1), .inl (tc 0, 400, .inl (Tf 1)))] H := hP₀
            replace hD : va_D A [((Va 0), .inr (7, [.ref (Va 1), .int sv_81, .int sv_82])), ((Va 1), .inl (tc 0, 400, .inl sv_83)), ((Ta 0), .inr (10, [.ref (Ta 1), .int (Tv 0), .int sv_84, .int sv_85, .int sv_163, .int sv_164])), ((Ta 1), .inl (tc 0, 400, .inl (Tf 1)))] := hD₀
            replace hS := hS₀
            clear hP₀ hD₀ hS₀
            refine lv_aload_n hx hb dX7_readFact_115 rfl (lv_at hl 2 rfl) ?_
            refine lv_aload_n hx hb dX7_readFact_116 rfl (lv_at hl 3 rfl) ?_
            refine cV (a := (Va 0)) (As := [.ref (Ta 0)]) (rest := []) (wr := []) ⟨hx, hb, hml, hown, hts⟩ hK hX hA (cu_fX7_countOne l D tc sk (Va 0) (Va 1) sv_81 sv_82 sv_83 (Ta 0) (Ta 1) (Tv 0) sv_84 sv_85 sv_163 sv_164 (Tf 1) ro_167 pf_165 pf_89 h_by pf_166 cd_169) k_638 k_635 k_637 k_9 k_99 pl_X7_countOne ⟨Nat.le_of_ble_eq_true rfl, Nat.le_of_ble_eq_true rfl⟩ rfl rfl (va_recv hK hP (ci := 7) (q0 := 0) rfl rfl) hP hD hS [0, 1, 2, 3] [] rfl rfl rfl rfl rfl (by decide) rfl hl.1 rfl (Nat.le_of_ble_eq_true rfl) dX7_readFact_117 ⟨Nat.le_of_ble_eq_true rfl, Nat.le_of_ble_eq_true rfl⟩ (fun v_170 u_171 H locs hv_172 hP₀ hD₀ hS₀ => ?_)
            obtain ⟨sv_173, sv_174, sv_175⟩ := u_171
            obtain ⟨rfl, pf_176, pf_177, pf_178, pf_179⟩ := hv_172
            have pf_176 : 0 ≤ ((Tv 0) : Int32).toInt ∧ ((Tv 0) : Int32).toInt ≤ 400 ∧ 0 ≤ (sv_84 : Int32).toInt ∧ (sv_84 : Int32).toInt ≤ 400 ∧ 0 ≤ (sv_85 : Int32).toInt ∧ (sv_85 : Int32).toInt ≤ 400 := pf_176
            have pf_177 : 0 ≤ (sv_81 : Int32).toInt ∧ (sv_81 : Int32).toInt ≤ 400 := pf_177
            have pf_178 : TpR (Tf 1) (Tv 0) (rC1 ro_167) sv_84 sv_85 sv_174 sv_175 := pf_178
            obtain ⟨ro_180, ero_180⟩ : ∃ z : Except Int (Nat × Nat), z = (rC1 ro_167) := ⟨_, rfl⟩
            rw [← ero_180] at pf_178
            have tb_181 : TpB (rTE (cB (Tf 1) (Tv 0)) ro_180) sv_85 sv_175 := TpR.tb pf_178
            have pf_179 : Ctd (rC1 ro_167) sv_173 := pf_179
            rw [← ero_180] at pf_179
            refine W.eq (g2 := F0 m 120 ls []) rfl ?_
            replace hP : va_P D classes [((Va 0), .inr (7, [.ref (Va 1), .int sv_81, .int sv_173])), ((Va 1), .inl (tc 0, 400, .inl sv_83)), ((Ta 0), .inr (10, [.ref (Ta 1), .int (Tv 0), .int sv_84, .int sv_85, .int sv_174, .int sv_175])), ((Ta 1), .inl (tc 0, 400, .inl (Tf 1)))] H := hP₀
            replace hD : va_D A [((Va 0), .inr (7, [.ref (Va 1), .int sv_81, .int sv_173])), ((Va 1), .inl (tc 0, 400, .inl sv_83)), ((Ta 0), .inr (10, [.ref (Ta 1), .int (Tv 0), .int sv_84, .int sv_85, .int sv_174, .int sv_175])), ((Ta 1), .inl (tc 0, 400, .inl (Tf 1)))] := hD₀
            replace hS := hS₀
            clear hP₀ hD₀ hS₀
            refine lv_aload_n hx hb dX7_readFact_120 rfl (lv_at hl 3 rfl) ?_
            refine cV (a := (Ta 0)) (As := []) (rest := []) (wr := [((Va 0), .inr (7, [.ref (Va 1), .int sv_81, .int sv_173])), ((Va 1), .inl (tc 0, 400, .inl sv_83))]) ⟨hx, hb, hml, hown, hts⟩ hK hX hA (cu_fX10_step l D tc sk (Ta 0) (Ta 1) (Tv 0) sv_84 sv_85 sv_174 sv_175 (Tf 1) (rTE (cB (Tf 1) (Tv 0)) ro_180) pf_176 h_by tb_181) k_478 k_620 k_476 k_477 k_96 pl_X10_step ⟨Nat.le_of_ble_eq_true rfl, Nat.le_of_ble_eq_true rfl⟩ rfl rfl (va_recv hK hP (ci := 10) (q0 := 2) rfl rfl) hP hD hS [2, 3] [0, 1] rfl rfl rfl rfl rfl (by decide) rfl hl.1 rfl (Nat.le_of_ble_eq_true rfl) dX7_readFact_121 ⟨Nat.le_of_ble_eq_true rfl, Nat.le_of_ble_eq_true rfl⟩ (fun v_182 u_183 H locs hv_184 hP₀ hD₀ hS₀ => ?_)
            obtain ⟨sv_185, sv_186, sv_187⟩ := u_183
            obtain ⟨rfl, pf_188, pf_189⟩ := hv_184
            have pf_188 : 0 ≤ ((Tv 0) : Int32).toInt ∧ ((Tv 0) : Int32).toInt ≤ 400 ∧ 0 ≤ (sv_185 : Int32).toInt ∧ (sv_185 : Int32).toInt ≤ 400 ∧ 0 ≤ (sv_186 : Int32).toInt ∧ (sv_186 : Int32).toInt ≤ 400 := pf_188
            have pf_189 : TpR (Tf 1) (Tv 0) (rSK (cB (Tf 1) (Tv 0)) (rTE (cB (Tf 1) (Tv 0)) ro_180)) sv_185 sv_186 sv_187 sv_175 := pf_189
            rw [rNX_eq] at pf_189
            obtain ⟨ro_190, ero_190⟩ : ∃ z : Except Int (Nat × Nat), z = (rNX (cB (Tf 1) (Tv 0)) ro_180) := ⟨_, rfl⟩
            rw [← ero_190] at pf_189
            have tb_191 : TpB (rTE (cB (Tf 1) (Tv 0)) ro_190) sv_186 sv_175 := TpR.tb pf_189
            have cd_192 : Ctd ro_190 sv_173 := by rw [ero_190]; exact (Ctd.nx pf_179)
            refine W.eq (g2 := F0 m 124 ls []) rfl ?_
            replace hP : va_P D classes [((Va 0), .inr (7, [.ref (Va 1), .int sv_81, .int sv_173])), ((Va 1), .inl (tc 0, 400, .inl sv_83)), ((Ta 0), .inr (10, [.ref (Ta 1), .int (Tv 0), .int sv_185, .int sv_186, .int sv_187, .int sv_175])), ((Ta 1), .inl (tc 0, 400, .inl (Tf 1)))] H := hP₀
            replace hD : va_D A [((Va 0), .inr (7, [.ref (Va 1), .int sv_81, .int sv_173])), ((Va 1), .inl (tc 0, 400, .inl sv_83)), ((Ta 0), .inr (10, [.ref (Ta 1), .int (Tv 0), .int sv_185, .int sv_186, .int sv_187, .int sv_175])), ((Ta 1), .inl (tc 0, 400, .inl (Tf 1)))] := hD₀
            replace hS := hS₀
            clear hP₀ hD₀ hS₀
            refine lv_aload_n hx hb dX7_readFact_124 rfl (lv_at hl 2 rfl) ?_
            refine lv_aload_n hx hb dX7_readFact_125 rfl (lv_at hl 3 rfl) ?_
            refine cV (a := (Va 0)) (As := [.ref (Ta 0)]) (rest := []) (wr := []) ⟨hx, hb, hml, hown, hts⟩ hK hX hA (cu_fX7_readSum l D tc sk (Va 0) (Va 1) sv_81 sv_173 sv_83 (Ta 0) (Ta 1) (Tv 0) sv_185 sv_186 sv_187 sv_175 (Tf 1) ro_190 pf_188 pf_177 h_by pf_189 cd_192) k_624 k_621 k_623 k_7 k_99 pl_X7_readSum ⟨Nat.le_of_ble_eq_true rfl, Nat.le_of_ble_eq_true rfl⟩ rfl rfl (va_recv hK hP (ci := 7) (q0 := 0) rfl rfl) hP hD hS [0, 1, 2, 3] [] rfl rfl rfl rfl rfl (by decide) rfl hl.1 rfl (Nat.le_of_ble_eq_true rfl) dX7_readFact_126 ⟨Nat.le_of_ble_eq_true rfl, Nat.le_of_ble_eq_true rfl⟩ (fun v_193 u_194 H locs hv_195 hP₀ hD₀ hS₀ => ?_)
            obtain ⟨sv_196, sv_197, sv_198, sv_199, sv_200, sv_201, sv_202⟩ := u_194
            obtain ⟨rfl, pf_203, pf_204, pf_205, pf_206⟩ := hv_195
            have pf_203 : 0 ≤ ((Tv 0) : Int32).toInt ∧ ((Tv 0) : Int32).toInt ≤ 400 ∧ 0 ≤ (sv_199 : Int32).toInt ∧ (sv_199 : Int32).toInt ≤ 400 ∧ 0 ≤ (sv_200 : Int32).toInt ∧ (sv_200 : Int32).toInt ≤ 400 := pf_203
            have pf_204 : 0 ≤ (sv_196 : Int32).toInt ∧ (sv_196 : Int32).toInt ≤ 400 := pf_204
            have pf_205 : TpR (Tf 1) (Tv 0) (pz_b ro_190 (pz_sum (cB (Tf 1) (Tv 0)))) sv_199 sv_200 sv_201 sv_202 := pf_205
            obtain ⟨ro_207, ero_207⟩ : ∃ z : Except Int (Nat × Nat), z = (pz_b ro_190 (pz_sum (cB (Tf 1) (Tv 0)))) := ⟨_, rfl⟩
            rw [← ero_207] at pf_205
            have tb_208 : TpB (rTE (cB (Tf 1) (Tv 0)) ro_207) sv_200 sv_202 := TpR.tb pf_205
            have pf_206 : Ctd (pz_b ro_190 (pz_sum (cB (Tf 1) (Tv 0)))) sv_197 := pf_206
            rw [← ero_207] at pf_206
            refine W.eq (g2 := F0 m 129 ls []) rfl ?_
            replace hP : va_P D classes [((Va 0), .inr (7, [.ref (Va 1), .int sv_196, .int sv_197])), ((Va 1), .inl (tc 0, 400, .inl sv_198)), ((Ta 0), .inr (10, [.ref (Ta 1), .int (Tv 0), .int sv_199, .int sv_200, .int sv_201, .int sv_202])), ((Ta 1), .inl (tc 0, 400, .inl (Tf 1)))] H := hP₀
            replace hD : va_D A [((Va 0), .inr (7, [.ref (Va 1), .int sv_196, .int sv_197])), ((Va 1), .inl (tc 0, 400, .inl sv_198)), ((Ta 0), .inr (10, [.ref (Ta 1), .int (Tv 0), .int sv_199, .int sv_200, .int sv_201, .int sv_202])), ((Ta 1), .inl (tc 0, 400, .inl (Tf 1)))] := hD₀
            replace hS := hS₀
            clear hP₀ hD₀ hS₀
            refine lv_aload_n hx hb dX7_readFact_129 rfl (lv_at hl 2 rfl) ?_
            refine lv_iload hx hb dX7_readFact_130 (lv_at hl 0 rfl) ?_
            refine cV (a := (Va 0)) (As := [.int r_97]) (rest := []) (wr := [((Ta 0), .inr (10, [.ref (Ta 1), .int (Tv 0), .int sv_199, .int sv_200, .int sv_201, .int sv_202])), ((Ta 1), .inl (tc 0, 400, .inl (Tf 1)))]) ⟨hx, hb, hml, hown, hts⟩ hK hX hA (cu_fX7_put l D tc sk (Va 0) (Va 1) sv_196 sv_197 sv_198 r_97 pf_204) k_642 k_639 k_641 k_10 k_99 pl_X7_put ⟨Nat.le_of_ble_eq_true rfl, Nat.le_of_ble_eq_true rfl⟩ rfl rfl (va_recv hK hP (ci := 7) (q0 := 0) rfl rfl) hP hD hS [0, 1] [2, 3] rfl rfl rfl rfl rfl (by decide) rfl hl.1 rfl (Nat.le_of_ble_eq_true rfl) dX7_readFact_132 ⟨Nat.le_of_ble_eq_true rfl, Nat.le_of_ble_eq_true rfl⟩ (fun v_209 u_210 H locs hv_211 hP₀ hD₀ hS₀ => ?_)
            obtain ⟨sv_212, sv_213⟩ := u_210
            obtain ⟨rfl, pf_214⟩ := hv_211
            have pf_214 : 0 ≤ (sv_212 : Int32).toInt ∧ (sv_212 : Int32).toInt ≤ 400 := pf_214
            refine W.eq (g2 := F0 m 135 ls []) rfl ?_
            replace hP : va_P D classes [((Ta 0), .inr (10, [.ref (Ta 1), .int (Tv 0), .int sv_199, .int sv_200, .int sv_201, .int sv_202])), ((Ta 1), .inl (tc 0, 400, .inl (Tf 1))), ((Va 0), .inr (7, [.ref (Va 1), .int sv_212, .int sv_197])), ((Va 1), .inl (tc 0, 400, .inl sv_213))] H := hP₀
            replace hD : va_D A [((Ta 0), .inr (10, [.ref (Ta 1), .int (Tv 0), .int sv_199, .int sv_200, .int sv_201, .int sv_202])), ((Ta 1), .inl (tc 0, 400, .inl (Tf 1))), ((Va 0), .inr (7, [.ref (Va 1), .int sv_212, .int sv_197])), ((Va 1), .inl (tc 0, 400, .inl sv_213))] := hD₀
            replace hS := hS₀
            clear hP₀ hD₀ hS₀
            have hf_215 : TpR (Tf 1) (Tv 0) (pz_b rr (pz_fact (cB (Tf 1) (Tv 0)) 6)) sv_199 sv_200 sv_201 sv_202 := by
              have hE_216 : (pz_b rr (pz_fact (cB (Tf 1) (Tv 0)) 6)) = ro_207 := by
                rw [ero_207, ero_190, ero_180, ero_167, ero_92]
                have hw_217 : NWd (cB (Tf 1) (Tv 0)) pz_not rr := by
                  rw [← wS4]
                  exact pf_55
                have hw_218 : NSg (cB (Tf 1) (Tv 0)) 91 rr := by
                  exact pf_74
                have hu_219 : TpR (Tf 1) (Tv 0) (pz_b rr (pz_sum (cB (Tf 1) (Tv 0)))) sv_84 sv_85 sv_86 sv_87 := by
                  rw [← ero_92]
                  exact pf_90
                have hr_220 : ¬ (60 ≤ (sv_86 : Int32).toInt ∧ (sv_86 : Int32).toInt ≤ 62) := by
                  have z_1 := congrArg Int32.toInt c_11
                  have z_2 : ¬ ((Tv 3) : Int32).toInt = (91 : Int32).toInt := fun z => c_57 (Int32.toInt_inj.mp z)
                  have z_3 := congrArg Int32.toInt c_58
                  have z_4 := congrArg Int32.toInt c_73
                  have z_5 := congrArg Int32.toInt c_100
                  have y_m1 : (-1 : Int32).toInt = -1 := by decide
                  have y_0 : (0 : Int32).toInt = 0 := by decide
                  have y_91 : (91 : Int32).toInt = 91 := by decide
                  omega
                exact ((fact_com hw_217 hw_218).trans (congrArg (fun z => pz_b z (pz_sum (cB (Tf 1) (Tv 0)))) (com_no hu_219 hr_220)))
              rw [hE_216]
              exact pf_205
            have hf_221 : Ctd (pz_b rr (pz_fact (cB (Tf 1) (Tv 0)) 6)) sv_197 := by
              have hE_222 : (pz_b rr (pz_fact (cB (Tf 1) (Tv 0)) 6)) = ro_207 := by
                rw [ero_207, ero_190, ero_180, ero_167, ero_92]
                have hw_223 : NWd (cB (Tf 1) (Tv 0)) pz_not rr := by
                  rw [← wS4]
                  exact pf_55
                have hw_224 : NSg (cB (Tf 1) (Tv 0)) 91 rr := by
                  exact pf_74
                have hu_225 : TpR (Tf 1) (Tv 0) (pz_b rr (pz_sum (cB (Tf 1) (Tv 0)))) sv_84 sv_85 sv_86 sv_87 := by
                  rw [← ero_92]
                  exact pf_90
                have hr_226 : ¬ (60 ≤ (sv_86 : Int32).toInt ∧ (sv_86 : Int32).toInt ≤ 62) := by
                  have z_1 := congrArg Int32.toInt c_11
                  have z_2 : ¬ ((Tv 3) : Int32).toInt = (91 : Int32).toInt := fun z => c_57 (Int32.toInt_inj.mp z)
                  have z_3 := congrArg Int32.toInt c_58
                  have z_4 := congrArg Int32.toInt c_73
                  have z_5 := congrArg Int32.toInt c_100
                  have y_m1 : (-1 : Int32).toInt = -1 := by decide
                  have y_0 : (0 : Int32).toInt = 0 := by decide
                  have y_91 : (91 : Int32).toInt = 91 := by decide
                  omega
                exact ((fact_com hw_223 hw_224).trans (congrArg (fun z => pz_b z (pz_sum (cB (Tf 1) (Tv 0)))) (com_no hu_225 hr_226)))
              rw [hE_222]
              exact pf_206
            exact retV hx hb hr hlk hP hD hS (sv_212, sv_197, sv_213, sv_199, sv_200, sv_201, sv_202) ⟨rfl, pf_203, pf_214, hf_215, hf_221⟩ [2, 3, 0, 1] rfl rfl dX7_readFact_135 (Nat.le_of_ble_eq_true rfl) (Nat.le_of_ble_eq_true rfl) rfl
        · skip
          have hz_229 : (r_68 : Int32).toInt = 1 := by
            have z_1 := congrArg Int32.toInt c_11
            have z_2 : ¬ ((Tv 3) : Int32).toInt = (91 : Int32).toInt := fun z => c_57 (Int32.toInt_inj.mp z)
            have z_3 := congrArg Int32.toInt c_58
            have z_4 : ¬ (r_68 : Int32).toInt = (0 : Int32).toInt := fun z => c_73 (Int32.toInt_inj.mp z)
            have y_0 : (0 : Int32).toInt = 0 := by decide
            have y_91 : (91 : Int32).toInt = 91 := by decide
            omega
          obtain ⟨pf_227, pf_228⟩ := hm_71 hz_229
          have pf_227 : Sg (cB (Tf 1) (Tv 0)) (91 : Int) rr := pf_227
          have pf_228 : TpR (Tf 1) (Tv 0) (rNX (cB (Tf 1) (Tv 0)) rr) sv_64 sv_65 sv_66 (Tv 4) := pf_228
          obtain ⟨ro_230, ero_230⟩ : ∃ z : Except Int (Nat × Nat), z = (rNX (cB (Tf 1) (Tv 0)) rr) := ⟨_, rfl⟩
          rw [← ero_230] at pf_228
          have tb_231 : TpB (rTE (cB (Tf 1) (Tv 0)) ro_230) sv_65 (Tv 4) := TpR.tb pf_228
          have cd_232 : Ctd ro_230 (Vv 1) := by rw [ero_230]; exact (Ctd.nx h_ct)
          refine lv_aload_n hx hb dX7_readFact_68 rfl (lv_at hl 1 rfl) ?_
          refine lv_aload_n hx hb dX7_readFact_69 rfl (lv_at hl 2 rfl) ?_
          refine lv_iload_n hx hb dX7_readFact_70 rfl (lv_at hl 3 rfl) ?_
          refine lv_iconst (v := 1) hx hb dX7_readFact_71 (by decide) ?_
          refine lv_iadd hx hb dX7_readFact_72 ?_
          refine lv_lit (v := 5) (by decide) ?_
          refine cV (a := (Va 0)) (As := [.ref (Ta 0), .int 5]) (rest := []) (wr := []) ⟨hx, hb, hml, hown, hts⟩ hK hX hA (cu_fX7_readTest_5 l D tc sk (Va 0) (Va 1) (Vv 0) (Vv 1) (Vf 1) (Ta 0) (Ta 1) (Tv 0) sv_64 sv_65 sv_66 (Tv 4) (Tf 1) ro_230 pf_67 h_u h_by pf_228 cd_232) k_655 k_652 k_654 k_11 k_99 pl_X7_readTest ⟨Nat.le_of_ble_eq_true rfl, Nat.le_of_ble_eq_true rfl⟩ rfl rfl (va_recv hK hP (ci := 7) (q0 := 0) rfl rfl) hP hD hS [0, 1, 2, 3] [] rfl rfl rfl rfl rfl (by decide) rfl hl.1 rfl (Nat.le_of_ble_eq_true rfl) dX7_readFact_73 ⟨Nat.le_of_ble_eq_true rfl, Nat.le_of_ble_eq_true rfl⟩ (fun v_233 u_234 H locs hv_235 hP₀ hD₀ hS₀ => ?_)
          obtain ⟨sv_236, sv_237, sv_238, sv_239, sv_240, sv_241, sv_242⟩ := u_234
          obtain ⟨rfl, pf_243, pf_244, pf_245, pf_246⟩ := hv_235
          have pf_243 : 0 ≤ ((Tv 0) : Int32).toInt ∧ ((Tv 0) : Int32).toInt ≤ 400 ∧ 0 ≤ (sv_239 : Int32).toInt ∧ (sv_239 : Int32).toInt ≤ 400 ∧ 0 ≤ (sv_240 : Int32).toInt ∧ (sv_240 : Int32).toInt ≤ 400 := pf_243
          have pf_244 : 0 ≤ (sv_236 : Int32).toInt ∧ (sv_236 : Int32).toInt ≤ 400 := pf_244
          have pf_245 : TpR (Tf 1) (Tv 0) (pz_b ro_230 (pz_tst (cB (Tf 1) (Tv 0)) (pz_fact (cB (Tf 1) (Tv 0)) 5))) sv_239 sv_240 sv_241 sv_242 := pf_245
          obtain ⟨ro_247, ero_247⟩ : ∃ z : Except Int (Nat × Nat), z = (pz_b ro_230 (pz_tst (cB (Tf 1) (Tv 0)) (pz_fact (cB (Tf 1) (Tv 0)) 5))) := ⟨_, rfl⟩
          rw [← ero_247] at pf_245
          have tb_248 : TpB (rTE (cB (Tf 1) (Tv 0)) ro_247) sv_240 sv_242 := TpR.tb pf_245
          have pf_246 : Ctd (pz_b ro_230 (pz_tst (cB (Tf 1) (Tv 0)) (pz_fact (cB (Tf 1) (Tv 0)) 5))) sv_237 := pf_246
          rw [← ero_247] at pf_246
          refine W.eq (g2 := F0 m 76 ls []) rfl ?_
          replace hP : va_P D classes [((Va 0), .inr (7, [.ref (Va 1), .int sv_236, .int sv_237])), ((Va 1), .inl (tc 0, 400, .inl sv_238)), ((Ta 0), .inr (10, [.ref (Ta 1), .int (Tv 0), .int sv_239, .int sv_240, .int sv_241, .int sv_242])), ((Ta 1), .inl (tc 0, 400, .inl (Tf 1)))] H := hP₀
          replace hD : va_D A [((Va 0), .inr (7, [.ref (Va 1), .int sv_236, .int sv_237])), ((Va 1), .inl (tc 0, 400, .inl sv_238)), ((Ta 0), .inr (10, [.ref (Ta 1), .int (Tv 0), .int sv_239, .int sv_240, .int sv_241, .int sv_242])), ((Ta 1), .inl (tc 0, 400, .inl (Tf 1)))] := hD₀
          replace hS := hS₀
          clear hP₀ hD₀ hS₀
          refine lv_aload_n hx hb dX7_readFact_76 rfl (lv_at hl 2 rfl) ?_
          refine lv_bipush (v := 93) hx hb dX7_readFact_77 (by decide) ?_
          have ha_249 : 0 ≤ (93 : Int32).toInt := by
            have z_1 := congrArg Int32.toInt c_11
            have z_2 : ¬ ((Tv 3) : Int32).toInt = (91 : Int32).toInt := fun z => c_57 (Int32.toInt_inj.mp z)
            have z_3 := congrArg Int32.toInt c_58
            have z_4 : ¬ (r_68 : Int32).toInt = (0 : Int32).toInt := fun z => c_73 (Int32.toInt_inj.mp z)
            have y_0 : (0 : Int32).toInt = 0 := by decide
            have y_91 : (91 : Int32).toInt = 91 := by decide
            have y_93 : (93 : Int32).toInt = 93 := by decide
            omega
          have ha_250 : (93 : Int32).toInt = (93 : Int) := by
            have z_1 := congrArg Int32.toInt c_11
            have z_2 : ¬ ((Tv 3) : Int32).toInt = (91 : Int32).toInt := fun z => c_57 (Int32.toInt_inj.mp z)
            have z_3 := congrArg Int32.toInt c_58
            have z_4 : ¬ (r_68 : Int32).toInt = (0 : Int32).toInt := fun z => c_73 (Int32.toInt_inj.mp z)
            have y_0 : (0 : Int32).toInt = 0 := by decide
            have y_91 : (91 : Int32).toInt = 91 := by decide
            have y_93 : (93 : Int32).toInt = 93 := by decide
            omega
          refine cV (a := (Ta 0)) (As := [.int 93]) (rest := []) (wr := [((Va 0), .inr (7, [.ref (Va 1), .int sv_236, .int sv_237])), ((Va 1), .inl (tc 0, 400, .inl sv_238))]) ⟨hx, hb, hml, hown, hts⟩ hK hX hA (cu_fX10_takes l D tc sk (Ta 0) (Ta 1) (Tv 0) sv_239 sv_240 sv_241 sv_242 (Tf 1) 93 ro_247 93 pf_243 h_by pf_245 ha_249 ha_250) k_492 k_613 k_490 k_491 k_96 pl_X10_takes ⟨Nat.le_of_ble_eq_true rfl, Nat.le_of_ble_eq_true rfl⟩ rfl rfl (va_recv hK hP (ci := 10) (q0 := 2) rfl rfl) hP hD hS [2, 3] [0, 1] rfl rfl rfl rfl rfl (by decide) rfl hl.1 rfl (Nat.le_of_ble_eq_true rfl) dX7_readFact_79 ⟨Nat.le_of_ble_eq_true rfl, Nat.le_of_ble_eq_true rfl⟩ (fun v_251 u_252 H locs hv_253 hP₀ hD₀ hS₀ => ?_)
          obtain ⟨sv_254, sv_255, sv_256⟩ := u_252
          obtain ⟨r_258, rfl, he_259, pf_257, hm_261, hm_262⟩ := hv_253
          have he_259 : (r_258.toInt = 0 ∨ r_258.toInt = 1) := he_259
          have pf_257 : 0 ≤ ((Tv 0) : Int32).toInt ∧ ((Tv 0) : Int32).toInt ≤ 400 ∧ 0 ≤ (sv_254 : Int32).toInt ∧ (sv_254 : Int32).toInt ≤ 400 ∧ 0 ≤ (sv_255 : Int32).toInt ∧ (sv_255 : Int32).toInt ≤ 400 := pf_257
          refine W.eq (g2 := F0 m 82 ls [.int r_258]) rfl ?_
          replace hP : va_P D classes [((Va 0), .inr (7, [.ref (Va 1), .int sv_236, .int sv_237])), ((Va 1), .inl (tc 0, 400, .inl sv_238)), ((Ta 0), .inr (10, [.ref (Ta 1), .int (Tv 0), .int sv_254, .int sv_255, .int sv_256, .int sv_242])), ((Ta 1), .inl (tc 0, 400, .inl (Tf 1)))] H := hP₀
          replace hD : va_D A [((Va 0), .inr (7, [.ref (Va 1), .int sv_236, .int sv_237])), ((Va 1), .inl (tc 0, 400, .inl sv_238)), ((Ta 0), .inr (10, [.ref (Ta 1), .int (Tv 0), .int sv_254, .int sv_255, .int sv_256, .int sv_242])), ((Ta 1), .inl (tc 0, 400, .inl (Tf 1)))] := hD₀
          replace hS := hS₀
          clear hP₀ hD₀ hS₀
          refine lv_if_ne (tgt := 135) hx hb dX7_readFact_82 (by decide) (fun c_263 => ?_) (fun c_263 => ?_)
          · skip
            have hz_266 : (r_258 : Int32).toInt = 1 := by
              have z_1 := congrArg Int32.toInt c_11
              have z_2 : ¬ ((Tv 3) : Int32).toInt = (91 : Int32).toInt := fun z => c_57 (Int32.toInt_inj.mp z)
              have z_3 := congrArg Int32.toInt c_58
              have z_4 : ¬ (r_68 : Int32).toInt = (0 : Int32).toInt := fun z => c_73 (Int32.toInt_inj.mp z)
              have z_5 : ¬ (r_258 : Int32).toInt = (0 : Int32).toInt := fun z => c_263 (Int32.toInt_inj.mp z)
              have y_0 : (0 : Int32).toInt = 0 := by decide
              have y_91 : (91 : Int32).toInt = 91 := by decide
              omega
            obtain ⟨pf_264, pf_265⟩ := hm_261 hz_266
            have pf_264 : Sg (cB (Tf 1) (Tv 0)) (93 : Int) ro_247 := pf_264
            have pf_265 : TpR (Tf 1) (Tv 0) (rNX (cB (Tf 1) (Tv 0)) ro_247) sv_254 sv_255 sv_256 sv_242 := pf_265
            obtain ⟨ro_267, ero_267⟩ : ∃ z : Except Int (Nat × Nat), z = (rNX (cB (Tf 1) (Tv 0)) ro_247) := ⟨_, rfl⟩
            rw [← ero_267] at pf_265
            have tb_268 : TpB (rTE (cB (Tf 1) (Tv 0)) ro_267) sv_255 sv_242 := TpR.tb pf_265
            have cd_269 : Ctd ro_267 sv_237 := by rw [ero_267]; exact (Ctd.nx pf_246)
            have hf_270 : TpR (Tf 1) (Tv 0) (pz_b rr (pz_fact (cB (Tf 1) (Tv 0)) 6)) sv_254 sv_255 sv_256 sv_242 := by
              have hE_271 : (pz_b rr (pz_fact (cB (Tf 1) (Tv 0)) 6)) = ro_267 := by
                rw [ero_267, ero_247, ero_230]
                have hw_272 : NWd (cB (Tf 1) (Tv 0)) pz_not rr := by
                  rw [← wS4]
                  exact pf_55
                have hw_273 : Sg (cB (Tf 1) (Tv 0)) 91 rr := by
                  exact pf_227
                have hw_274 : Sg (cB (Tf 1) (Tv 0)) 93 (pz_b (rNX (cB (Tf 1) (Tv 0)) rr) (pz_tst (cB (Tf 1) (Tv 0)) (pz_fact (cB (Tf 1) (Tv 0)) 5))) := by
                  rw [← ero_230, ← ero_247]
                  exact pf_264
                exact ((fact_br hw_272 hw_273).trans (rb_yes hw_274))
              rw [hE_271]
              exact pf_265
            have hf_275 : Ctd (pz_b rr (pz_fact (cB (Tf 1) (Tv 0)) 6)) sv_237 := by
              have hE_276 : (pz_b rr (pz_fact (cB (Tf 1) (Tv 0)) 6)) = ro_267 := by
                rw [ero_267, ero_247, ero_230]
                have hw_277 : NWd (cB (Tf 1) (Tv 0)) pz_not rr := by
                  rw [← wS4]
                  exact pf_55
                have hw_278 : Sg (cB (Tf 1) (Tv 0)) 91 rr := by
                  exact pf_227
                have hw_279 : Sg (cB (Tf 1) (Tv 0)) 93 (pz_b (rNX (cB (Tf 1) (Tv 0)) rr) (pz_tst (cB (Tf 1) (Tv 0)) (pz_fact (cB (Tf 1) (Tv 0)) 5))) := by
                  rw [← ero_230, ← ero_247]
                  exact pf_264
                exact ((fact_br hw_277 hw_278).trans (rb_yes hw_279))
              rw [hE_276]
              exact cd_269
            exact retV hx hb hr hlk hP hD hS (sv_236, sv_237, sv_238, sv_254, sv_255, sv_256, sv_242) ⟨rfl, pf_257, pf_244, hf_270, hf_275⟩ [0, 1, 2, 3] rfl rfl dX7_readFact_135 (Nat.le_of_ble_eq_true rfl) (Nat.le_of_ble_eq_true rfl) rfl
          · skip
            have hz_282 : (r_258 : Int32).toInt = 0 := by
              have z_1 := congrArg Int32.toInt c_11
              have z_2 : ¬ ((Tv 3) : Int32).toInt = (91 : Int32).toInt := fun z => c_57 (Int32.toInt_inj.mp z)
              have z_3 := congrArg Int32.toInt c_58
              have z_4 : ¬ (r_68 : Int32).toInt = (0 : Int32).toInt := fun z => c_73 (Int32.toInt_inj.mp z)
              have z_5 := congrArg Int32.toInt c_263
              have y_0 : (0 : Int32).toInt = 0 := by decide
              have y_91 : (91 : Int32).toInt = 91 := by decide
              omega
            obtain ⟨pf_280, pf_281⟩ := hm_262 hz_282
            have pf_280 : NSg (cB (Tf 1) (Tv 0)) (93 : Int) ro_247 := pf_280
            have pf_281 : TpR (Tf 1) (Tv 0) ro_247 sv_254 sv_255 sv_256 sv_242 := pf_281
            have tb_283 : TpB (rTE (cB (Tf 1) (Tv 0)) ro_247) sv_255 sv_242 := TpR.tb pf_281
            refine lv_aload_n hx hb dX7_readFact_85 rfl (lv_at hl 2 rfl) ?_
            refine lv_iconst (v := 0) hx hb dX7_readFact_86 (by decide) ?_
            have ha_284 : 0 ≤ (0 : Int32).toInt ∧ (0 : Int32).toInt ≤ 4 := by
              have z_1 := congrArg Int32.toInt c_11
              have z_2 : ¬ ((Tv 3) : Int32).toInt = (91 : Int32).toInt := fun z => c_57 (Int32.toInt_inj.mp z)
              have z_3 := congrArg Int32.toInt c_58
              have z_4 : ¬ (r_68 : Int32).toInt = (0 : Int32).toInt := fun z => c_73 (Int32.toInt_inj.mp z)
              have z_5 := congrArg Int32.toInt c_263
              have y_0 : (0 : Int32).toInt = 0 := by decide
              have y_91 : (91 : Int32).toInt = 91 := by decide
              omega
            have ha_285 : (0 : Int32).toInt = (0 : Int) := by
              have z_1 := congrArg Int32.toInt c_11
              have z_2 : ¬ ((Tv 3) : Int32).toInt = (91 : Int32).toInt := fun z => c_57 (Int32.toInt_inj.mp z)
              have z_3 := congrArg Int32.toInt c_58
              have z_4 : ¬ (r_68 : Int32).toInt = (0 : Int32).toInt := fun z => c_73 (Int32.toInt_inj.mp z)
              have z_5 := congrArg Int32.toInt c_263
              have y_0 : (0 : Int32).toInt = 0 := by decide
              have y_91 : (91 : Int32).toInt = 91 := by decide
              omega
            refine cV (a := (Ta 0)) (As := [.int 0]) (rest := []) (wr := [((Va 0), .inr (7, [.ref (Va 1), .int sv_236, .int sv_237])), ((Va 1), .inl (tc 0, 400, .inl sv_238))]) ⟨hx, hb, hml, hown, hts⟩ hK hX hA (cu_fX10_fail l D tc sk (Ta 0) (Ta 1) (Tv 0) sv_254 sv_255 sv_256 sv_242 (Tf 1) 0 ro_247 0 pf_257 pf_281 ha_284 ha_285) k_557 k_619 k_555 k_556 k_96 pl_X10_fail ⟨Nat.le_of_ble_eq_true rfl, Nat.le_of_ble_eq_true rfl⟩ rfl rfl (va_recv hK hP (ci := 10) (q0 := 2) rfl rfl) hP hD hS [2, 3] [0, 1] rfl rfl rfl rfl rfl (by decide) rfl hl.1 rfl (Nat.le_of_ble_eq_true rfl) dX7_readFact_87 ⟨Nat.le_of_ble_eq_true rfl, Nat.le_of_ble_eq_true rfl⟩ (fun v_286 u_287 H locs hv_288 hP₀ hD₀ hS₀ => ?_)
            obtain ⟨sv_289, sv_290⟩ := u_287
            obtain ⟨rfl, pf_291, pf_292⟩ := hv_288
            have pf_291 : 0 ≤ ((Tv 0) : Int32).toInt ∧ ((Tv 0) : Int32).toInt ≤ 400 ∧ 0 ≤ (sv_254 : Int32).toInt ∧ (sv_254 : Int32).toInt ≤ 400 ∧ 0 ≤ (sv_255 : Int32).toInt ∧ (sv_255 : Int32).toInt ≤ 400 := pf_291
            have pf_292 : TpR (Tf 1) (Tv 0) (rER (0 : Int) ro_247) sv_254 sv_255 sv_289 sv_290 := pf_292
            obtain ⟨ro_293, ero_293⟩ : ∃ z : Except Int (Nat × Nat), z = (rER 0 ro_247) := ⟨_, rfl⟩
            rw [← ero_293] at pf_292
            have tb_294 : TpB (rTE (cB (Tf 1) (Tv 0)) ro_293) sv_255 sv_290 := TpR.tb pf_292
            have cd_295 : Ctd ro_293 sv_237 := by rw [ero_293]; exact (Ctd.er)
            refine W.eq (g2 := F0 m 90 ls []) rfl ?_
            replace hP : va_P D classes [((Va 0), .inr (7, [.ref (Va 1), .int sv_236, .int sv_237])), ((Va 1), .inl (tc 0, 400, .inl sv_238)), ((Ta 0), .inr (10, [.ref (Ta 1), .int (Tv 0), .int sv_254, .int sv_255, .int sv_289, .int sv_290])), ((Ta 1), .inl (tc 0, 400, .inl (Tf 1)))] H := hP₀
            replace hD : va_D A [((Va 0), .inr (7, [.ref (Va 1), .int sv_236, .int sv_237])), ((Va 1), .inl (tc 0, 400, .inl sv_238)), ((Ta 0), .inr (10, [.ref (Ta 1), .int (Tv 0), .int sv_254, .int sv_255, .int sv_289, .int sv_290])), ((Ta 1), .inl (tc 0, 400, .inl (Tf 1)))] := hD₀
            replace hS := hS₀
            clear hP₀ hD₀ hS₀
            refine lv_goto (tgt := 135) hx hb dX7_readFact_90 (by decide) ?_
            have hf_296 : TpR (Tf 1) (Tv 0) (pz_b rr (pz_fact (cB (Tf 1) (Tv 0)) 6)) sv_254 sv_255 sv_289 sv_290 := by
              have hE_297 : (pz_b rr (pz_fact (cB (Tf 1) (Tv 0)) 6)) = ro_293 := by
                rw [ero_293, ero_247, ero_230]
                have hw_298 : NWd (cB (Tf 1) (Tv 0)) pz_not rr := by
                  rw [← wS4]
                  exact pf_55
                have hw_299 : Sg (cB (Tf 1) (Tv 0)) 91 rr := by
                  exact pf_227
                have hw_300 : NSg (cB (Tf 1) (Tv 0)) 93 (pz_b (rNX (cB (Tf 1) (Tv 0)) rr) (pz_tst (cB (Tf 1) (Tv 0)) (pz_fact (cB (Tf 1) (Tv 0)) 5))) := by
                  rw [← ero_230, ← ero_247]
                  exact pf_280
                exact ((fact_br hw_298 hw_299).trans (rb_no hw_300))
              rw [hE_297]
              exact pf_292
            have hf_301 : Ctd (pz_b rr (pz_fact (cB (Tf 1) (Tv 0)) 6)) sv_237 := by
              have hE_302 : (pz_b rr (pz_fact (cB (Tf 1) (Tv 0)) 6)) = ro_293 := by
                rw [ero_293, ero_247, ero_230]
                have hw_303 : NWd (cB (Tf 1) (Tv 0)) pz_not rr := by
                  rw [← wS4]
                  exact pf_55
                have hw_304 : Sg (cB (Tf 1) (Tv 0)) 91 rr := by
                  exact pf_227
                have hw_305 : NSg (cB (Tf 1) (Tv 0)) 93 (pz_b (rNX (cB (Tf 1) (Tv 0)) rr) (pz_tst (cB (Tf 1) (Tv 0)) (pz_fact (cB (Tf 1) (Tv 0)) 5))) := by
                  rw [← ero_230, ← ero_247]
                  exact pf_280
                exact ((fact_br hw_303 hw_304).trans (rb_no hw_305))
              rw [hE_302]
              exact cd_295
            exact retV hx hb hr hlk hP hD hS (sv_236, sv_237, sv_238, sv_254, sv_255, sv_289, sv_290) ⟨rfl, pf_291, pf_244, hf_296, hf_301⟩ [0, 1, 2, 3] rfl rfl dX7_readFact_135 (Nat.le_of_ble_eq_true rfl) (Nat.le_of_ble_eq_true rfl) rfl
      · skip
        exfalso
        have z_1 := congrArg Int32.toInt c_11
        have z_2 : ¬ ((Tv 3) : Int32).toInt = (91 : Int32).toInt := fun z => c_57 (Int32.toInt_inj.mp z)
        have z_3 : ¬ (r_6 : Int32).toInt = (0 : Int32).toInt := fun z => c_58 (Int32.toInt_inj.mp z)
        have y_0 : (0 : Int32).toInt = 0 := by decide
        have y_91 : (91 : Int32).toInt = 91 := by decide
        omega
    · skip
      refine lv_iload_n hx hb dX7_readFact_20 rfl (lv_at hl 3 rfl) ?_
      refine lv_bipush (v := 10) hx hb dX7_readFact_21 (by decide) ?_
      refine lv_icmp_lt (tgt := 34) hx hb dX7_readFact_23 (by decide) (fun c_306 => ?_) (fun c_306 => absurd c_306 (by decide))
      refine lv_iload_n hx hb dX7_readFact_34 rfl (lv_at hl 0 rfl) ?_
      refine lv_if_eq (tgt := 59) hx hb dX7_readFact_35 (by decide) (fun c_307 => ?_) (fun c_307 => ?_)
      · skip
        refine lv_aload_n hx hb dX7_readFact_59 rfl (lv_at hl 2 rfl) ?_
        refine lv_bipush (v := 91) hx hb dX7_readFact_60 (by decide) ?_
        have ha_308 : 0 ≤ (91 : Int32).toInt := by
          have z_1 := congrArg Int32.toInt c_11
          have z_2 := congrArg Int32.toInt c_57
          have z_3 := congrArg Int32.toInt c_307
          have y_0 : (0 : Int32).toInt = 0 := by decide
          have y_91 : (91 : Int32).toInt = 91 := by decide
          omega
        have ha_309 : (91 : Int32).toInt = (91 : Int) := by
          have z_1 := congrArg Int32.toInt c_11
          have z_2 := congrArg Int32.toInt c_57
          have z_3 := congrArg Int32.toInt c_307
          have y_0 : (0 : Int32).toInt = 0 := by decide
          have y_91 : (91 : Int32).toInt = 91 := by decide
          omega
        refine cV (a := (Ta 0)) (As := [.int 91]) (rest := []) (wr := [((Va 0), .inr (7, [.ref (Va 1), .int (Vv 0), .int (Vv 1)])), ((Va 1), .inl (tc 0, 400, .inl (Vf 1)))]) ⟨hx, hb, hml, hown, hts⟩ hK hX hA (cu_fX10_takes l D tc sk (Ta 0) (Ta 1) (Tv 0) (Tv 1) (Tv 2) (Tv 3) (Tv 4) (Tf 1) 91 rr 91 h_tape h_by h_r ha_308 ha_309) k_492 k_613 k_490 k_491 k_96 pl_X10_takes ⟨Nat.le_of_ble_eq_true rfl, Nat.le_of_ble_eq_true rfl⟩ rfl rfl (va_recv hK hP (ci := 10) (q0 := 2) rfl rfl) hP hD hS [2, 3] [0, 1] rfl rfl rfl rfl rfl (by decide) rfl hl.1 rfl (Nat.le_of_ble_eq_true rfl) dX7_readFact_62 ⟨Nat.le_of_ble_eq_true rfl, Nat.le_of_ble_eq_true rfl⟩ (fun v_310 u_311 H locs hv_312 hP₀ hD₀ hS₀ => ?_)
        obtain ⟨sv_313, sv_314, sv_315⟩ := u_311
        obtain ⟨r_317, rfl, he_318, pf_316, hm_320, hm_321⟩ := hv_312
        have he_318 : (r_317.toInt = 0 ∨ r_317.toInt = 1) := he_318
        have pf_316 : 0 ≤ ((Tv 0) : Int32).toInt ∧ ((Tv 0) : Int32).toInt ≤ 400 ∧ 0 ≤ (sv_313 : Int32).toInt ∧ (sv_313 : Int32).toInt ≤ 400 ∧ 0 ≤ (sv_314 : Int32).toInt ∧ (sv_314 : Int32).toInt ≤ 400 := pf_316
        refine W.eq (g2 := F0 m 65 ls [.int r_317]) rfl ?_
        replace hP : va_P D classes [((Va 0), .inr (7, [.ref (Va 1), .int (Vv 0), .int (Vv 1)])), ((Va 1), .inl (tc 0, 400, .inl (Vf 1))), ((Ta 0), .inr (10, [.ref (Ta 1), .int (Tv 0), .int sv_313, .int sv_314, .int sv_315, .int (Tv 4)])), ((Ta 1), .inl (tc 0, 400, .inl (Tf 1)))] H := hP₀
        replace hD : va_D A [((Va 0), .inr (7, [.ref (Va 1), .int (Vv 0), .int (Vv 1)])), ((Va 1), .inl (tc 0, 400, .inl (Vf 1))), ((Ta 0), .inr (10, [.ref (Ta 1), .int (Tv 0), .int sv_313, .int sv_314, .int sv_315, .int (Tv 4)])), ((Ta 1), .inl (tc 0, 400, .inl (Tf 1)))] := hD₀
        replace hS := hS₀
        clear hP₀ hD₀ hS₀
        refine lv_if_eq (tgt := 93) hx hb dX7_readFact_65 (by decide) (fun c_322 => ?_) (fun c_322 => ?_)
        · skip
          have hz_325 : (r_317 : Int32).toInt = 0 := by
            have z_1 := congrArg Int32.toInt c_11
            have z_2 := congrArg Int32.toInt c_57
            have z_3 := congrArg Int32.toInt c_307
            have z_4 := congrArg Int32.toInt c_322
            have y_0 : (0 : Int32).toInt = 0 := by decide
            have y_91 : (91 : Int32).toInt = 91 := by decide
            omega
          obtain ⟨pf_323, pf_324⟩ := hm_321 hz_325
          have pf_323 : NSg (cB (Tf 1) (Tv 0)) (91 : Int) rr := pf_323
          have pf_324 : TpR (Tf 1) (Tv 0) rr sv_313 sv_314 sv_315 (Tv 4) := pf_324
          have tb_326 : TpB (rTE (cB (Tf 1) (Tv 0)) rr) sv_314 (Tv 4) := TpR.tb pf_324
          refine lv_aload_n hx hb dX7_readFact_93 rfl (lv_at hl 1 rfl) ?_
          refine lv_aload_n hx hb dX7_readFact_94 rfl (lv_at hl 2 rfl) ?_
          refine cV (a := (Va 0)) (As := [.ref (Ta 0)]) (rest := []) (wr := []) ⟨hx, hb, hml, hown, hts⟩ hK hX hA (cu_fX7_readSum l D tc sk (Va 0) (Va 1) (Vv 0) (Vv 1) (Vf 1) (Ta 0) (Ta 1) (Tv 0) sv_313 sv_314 sv_315 (Tv 4) (Tf 1) rr pf_316 h_u h_by pf_324 h_ct) k_624 k_621 k_623 k_7 k_99 pl_X7_readSum ⟨Nat.le_of_ble_eq_true rfl, Nat.le_of_ble_eq_true rfl⟩ rfl rfl (va_recv hK hP (ci := 7) (q0 := 0) rfl rfl) hP hD hS [0, 1, 2, 3] [] rfl rfl rfl rfl rfl (by decide) rfl hl.1 rfl (Nat.le_of_ble_eq_true rfl) dX7_readFact_95 ⟨Nat.le_of_ble_eq_true rfl, Nat.le_of_ble_eq_true rfl⟩ (fun v_327 u_328 H locs hv_329 hP₀ hD₀ hS₀ => ?_)
          obtain ⟨sv_330, sv_331, sv_332, sv_333, sv_334, sv_335, sv_336⟩ := u_328
          obtain ⟨rfl, pf_337, pf_338, pf_339, pf_340⟩ := hv_329
          have pf_337 : 0 ≤ ((Tv 0) : Int32).toInt ∧ ((Tv 0) : Int32).toInt ≤ 400 ∧ 0 ≤ (sv_333 : Int32).toInt ∧ (sv_333 : Int32).toInt ≤ 400 ∧ 0 ≤ (sv_334 : Int32).toInt ∧ (sv_334 : Int32).toInt ≤ 400 := pf_337
          have pf_338 : 0 ≤ (sv_330 : Int32).toInt ∧ (sv_330 : Int32).toInt ≤ 400 := pf_338
          have pf_339 : TpR (Tf 1) (Tv 0) (pz_b rr (pz_sum (cB (Tf 1) (Tv 0)))) sv_333 sv_334 sv_335 sv_336 := pf_339
          obtain ⟨ro_341, ero_341⟩ : ∃ z : Except Int (Nat × Nat), z = (pz_b rr (pz_sum (cB (Tf 1) (Tv 0)))) := ⟨_, rfl⟩
          rw [← ero_341] at pf_339
          have tb_342 : TpB (rTE (cB (Tf 1) (Tv 0)) ro_341) sv_334 sv_336 := TpR.tb pf_339
          have pf_340 : Ctd (pz_b rr (pz_sum (cB (Tf 1) (Tv 0)))) sv_331 := pf_340
          rw [← ero_341] at pf_340
          refine W.eq (g2 := F0 m 98 ls []) rfl ?_
          replace hP : va_P D classes [((Va 0), .inr (7, [.ref (Va 1), .int sv_330, .int sv_331])), ((Va 1), .inl (tc 0, 400, .inl sv_332)), ((Ta 0), .inr (10, [.ref (Ta 1), .int (Tv 0), .int sv_333, .int sv_334, .int sv_335, .int sv_336])), ((Ta 1), .inl (tc 0, 400, .inl (Tf 1)))] H := hP₀
          replace hD : va_D A [((Va 0), .inr (7, [.ref (Va 1), .int sv_330, .int sv_331])), ((Va 1), .inl (tc 0, 400, .inl sv_332)), ((Ta 0), .inr (10, [.ref (Ta 1), .int (Tv 0), .int sv_333, .int sv_334, .int sv_335, .int sv_336])), ((Ta 1), .inl (tc 0, 400, .inl (Tf 1)))] := hD₀
          replace hS := hS₀
          clear hP₀ hD₀ hS₀
          refine lv_aload_n hx hb dX7_readFact_98 rfl (lv_at hl 2 rfl) ?_
          refine cS (As := [.ref (Ta 0)]) (rest := []) (wr := [((Va 0), .inr (7, [.ref (Va 1), .int sv_330, .int sv_331])), ((Va 1), .inl (tc 0, 400, .inl sv_332))]) ⟨hx, hb, hml, hown, hts⟩ hK hX hA (cu_fX7_comparison l D tc sk (Ta 0) (Ta 1) (Tv 0) sv_333 sv_334 sv_335 sv_336 (Tf 1) pf_337) k_663 k_661 k_662 k_99 pl_X7_comparison ⟨Nat.le_of_ble_eq_true rfl, Nat.le_of_ble_eq_true rfl⟩ rfl rfl  hP hD hS [2, 3] [0, 1] rfl rfl rfl rfl rfl (by decide) rfl hl.1 rfl (Nat.le_of_ble_eq_true rfl) dX7_readFact_99 ⟨Nat.le_of_ble_eq_true rfl, Nat.le_of_ble_eq_true rfl⟩ (fun v_343 u_344 H locs hv_345 hP₀ hD₀ hS₀ => ?_)
          obtain ⟨r_346, rfl, he_347⟩ := hv_345
          have he_347 : ((r_346.toInt = -1 ∧ ¬ (60 ≤ sv_335.toInt ∧ sv_335.toInt ≤ 62)) ∨ (r_346.toInt ≤ -7 ∧ 60 ≤ sv_335.toInt ∧ sv_335.toInt ≤ 62)) := he_347
          refine W.eq (g2 := F0 m 102 ls [.int r_346]) rfl ?_
          replace hP : va_P D classes [((Va 0), .inr (7, [.ref (Va 1), .int sv_330, .int sv_331])), ((Va 1), .inl (tc 0, 400, .inl sv_332)), ((Ta 0), .inr (10, [.ref (Ta 1), .int (Tv 0), .int sv_333, .int sv_334, .int sv_335, .int sv_336])), ((Ta 1), .inl (tc 0, 400, .inl (Tf 1)))] H := hP₀
          replace hD : va_D A [((Va 0), .inr (7, [.ref (Va 1), .int sv_330, .int sv_331])), ((Va 1), .inl (tc 0, 400, .inl sv_332)), ((Ta 0), .inr (10, [.ref (Ta 1), .int (Tv 0), .int sv_333, .int sv_334, .int sv_335, .int sv_336])), ((Ta 1), .inl (tc 0, 400, .inl (Tf 1)))] := hD₀
          replace hS := hS₀
          clear hP₀ hD₀ hS₀
          refine lv_istore (lv' := [(4, .int r_346), (3, .int r_6), (0, .ref (Va 0)), (1, .ref (Ta 0)), (2, .int 4)]) hx hb dX7_readFact_102 hl (by decide) rfl (fun ls hl₀ => ?_)
          replace hl := hl₀
          clear hl₀
          refine lv_iload hx hb dX7_readFact_104 (lv_at hl 0 rfl) ?_
          refine lv_iconst (v := (-1)) hx hb dX7_readFact_106 (by decide) ?_
          refine lv_icmp_ne (tgt := 115) hx hb dX7_readFact_107 (by decide) (fun c_349 => ?_) (fun c_349 => ?_)
          · skip
            refine lv_aload_n hx hb dX7_readFact_115 rfl (lv_at hl 2 rfl) ?_
            refine lv_aload_n hx hb dX7_readFact_116 rfl (lv_at hl 3 rfl) ?_
            refine cV (a := (Va 0)) (As := [.ref (Ta 0)]) (rest := []) (wr := []) ⟨hx, hb, hml, hown, hts⟩ hK hX hA (cu_fX7_countOne l D tc sk (Va 0) (Va 1) sv_330 sv_331 sv_332 (Ta 0) (Ta 1) (Tv 0) sv_333 sv_334 sv_335 sv_336 (Tf 1) ro_341 pf_337 pf_338 h_by pf_339 pf_340) k_638 k_635 k_637 k_9 k_99 pl_X7_countOne ⟨Nat.le_of_ble_eq_true rfl, Nat.le_of_ble_eq_true rfl⟩ rfl rfl (va_recv hK hP (ci := 7) (q0 := 0) rfl rfl) hP hD hS [0, 1, 2, 3] [] rfl rfl rfl rfl rfl (by decide) rfl hl.1 rfl (Nat.le_of_ble_eq_true rfl) dX7_readFact_117 ⟨Nat.le_of_ble_eq_true rfl, Nat.le_of_ble_eq_true rfl⟩ (fun v_350 u_351 H locs hv_352 hP₀ hD₀ hS₀ => ?_)
            obtain ⟨sv_353, sv_354, sv_355⟩ := u_351
            obtain ⟨rfl, pf_356, pf_357, pf_358, pf_359⟩ := hv_352
            have pf_356 : 0 ≤ ((Tv 0) : Int32).toInt ∧ ((Tv 0) : Int32).toInt ≤ 400 ∧ 0 ≤ (sv_333 : Int32).toInt ∧ (sv_333 : Int32).toInt ≤ 400 ∧ 0 ≤ (sv_334 : Int32).toInt ∧ (sv_334 : Int32).toInt ≤ 400 := pf_356
            have pf_357 : 0 ≤ (sv_330 : Int32).toInt ∧ (sv_330 : Int32).toInt ≤ 400 := pf_357
            have pf_358 : TpR (Tf 1) (Tv 0) (rC1 ro_341) sv_333 sv_334 sv_354 sv_355 := pf_358
            obtain ⟨ro_360, ero_360⟩ : ∃ z : Except Int (Nat × Nat), z = (rC1 ro_341) := ⟨_, rfl⟩
            rw [← ero_360] at pf_358
            have tb_361 : TpB (rTE (cB (Tf 1) (Tv 0)) ro_360) sv_334 sv_355 := TpR.tb pf_358
            have pf_359 : Ctd (rC1 ro_341) sv_353 := pf_359
            rw [← ero_360] at pf_359
            refine W.eq (g2 := F0 m 120 ls []) rfl ?_
            replace hP : va_P D classes [((Va 0), .inr (7, [.ref (Va 1), .int sv_330, .int sv_353])), ((Va 1), .inl (tc 0, 400, .inl sv_332)), ((Ta 0), .inr (10, [.ref (Ta 1), .int (Tv 0), .int sv_333, .int sv_334, .int sv_354, .int sv_355])), ((Ta 1), .inl (tc 0, 400, .inl (Tf 1)))] H := hP₀
            replace hD : va_D A [((Va 0), .inr (7, [.ref (Va 1), .int sv_330, .int sv_353])), ((Va 1), .inl (tc 0, 400, .inl sv_332)), ((Ta 0), .inr (10, [.ref (Ta 1), .int (Tv 0), .int sv_333, .int sv_334, .int sv_354, .int sv_355])), ((Ta 1), .inl (tc 0, 400, .inl (Tf 1)))] := hD₀
            replace hS := hS₀
            clear hP₀ hD₀ hS₀
            refine lv_aload_n hx hb dX7_readFact_120 rfl (lv_at hl 3 rfl) ?_
            refine cV (a := (Ta 0)) (As := []) (rest := []) (wr := [((Va 0), .inr (7, [.ref (Va 1), .int sv_330, .int sv_353])), ((Va 1), .inl (tc 0, 400, .inl sv_332))]) ⟨hx, hb, hml, hown, hts⟩ hK hX hA (cu_fX10_step l D tc sk (Ta 0) (Ta 1) (Tv 0) sv_333 sv_334 sv_354 sv_355 (Tf 1) (rTE (cB (Tf 1) (Tv 0)) ro_360) pf_356 h_by tb_361) k_478 k_620 k_476 k_477 k_96 pl_X10_step ⟨Nat.le_of_ble_eq_true rfl, Nat.le_of_ble_eq_true rfl⟩ rfl rfl (va_recv hK hP (ci := 10) (q0 := 2) rfl rfl) hP hD hS [2, 3] [0, 1] rfl rfl rfl rfl rfl (by decide) rfl hl.1 rfl (Nat.le_of_ble_eq_true rfl) dX7_readFact_121 ⟨Nat.le_of_ble_eq_true rfl, Nat.le_of_ble_eq_true rfl⟩ (fun v_362 u_363 H locs hv_364 hP₀ hD₀ hS₀ => ?_)
            obtain ⟨sv_365, sv_366, sv_367⟩ := u_363
            obtain ⟨rfl, pf_368, pf_369⟩ := hv_364
            have pf_368 : 0 ≤ ((Tv 0) : Int32).toInt ∧ ((Tv 0) : Int32).toInt ≤ 400 ∧ 0 ≤ (sv_365 : Int32).toInt ∧ (sv_365 : Int32).toInt ≤ 400 ∧ 0 ≤ (sv_366 : Int32).toInt ∧ (sv_366 : Int32).toInt ≤ 400 := pf_368
            have pf_369 : TpR (Tf 1) (Tv 0) (rSK (cB (Tf 1) (Tv 0)) (rTE (cB (Tf 1) (Tv 0)) ro_360)) sv_365 sv_366 sv_367 sv_355 := pf_369
            rw [rNX_eq] at pf_369
            obtain ⟨ro_370, ero_370⟩ : ∃ z : Except Int (Nat × Nat), z = (rNX (cB (Tf 1) (Tv 0)) ro_360) := ⟨_, rfl⟩
            rw [← ero_370] at pf_369
            have tb_371 : TpB (rTE (cB (Tf 1) (Tv 0)) ro_370) sv_366 sv_355 := TpR.tb pf_369
            have cd_372 : Ctd ro_370 sv_353 := by rw [ero_370]; exact (Ctd.nx pf_359)
            refine W.eq (g2 := F0 m 124 ls []) rfl ?_
            replace hP : va_P D classes [((Va 0), .inr (7, [.ref (Va 1), .int sv_330, .int sv_353])), ((Va 1), .inl (tc 0, 400, .inl sv_332)), ((Ta 0), .inr (10, [.ref (Ta 1), .int (Tv 0), .int sv_365, .int sv_366, .int sv_367, .int sv_355])), ((Ta 1), .inl (tc 0, 400, .inl (Tf 1)))] H := hP₀
            replace hD : va_D A [((Va 0), .inr (7, [.ref (Va 1), .int sv_330, .int sv_353])), ((Va 1), .inl (tc 0, 400, .inl sv_332)), ((Ta 0), .inr (10, [.ref (Ta 1), .int (Tv 0), .int sv_365, .int sv_366, .int sv_367, .int sv_355])), ((Ta 1), .inl (tc 0, 400, .inl (Tf 1)))] := hD₀
            replace hS := hS₀
            clear hP₀ hD₀ hS₀
            refine lv_aload_n hx hb dX7_readFact_124 rfl (lv_at hl 2 rfl) ?_
            refine lv_aload_n hx hb dX7_readFact_125 rfl (lv_at hl 3 rfl) ?_
            refine cV (a := (Va 0)) (As := [.ref (Ta 0)]) (rest := []) (wr := []) ⟨hx, hb, hml, hown, hts⟩ hK hX hA (cu_fX7_readSum l D tc sk (Va 0) (Va 1) sv_330 sv_353 sv_332 (Ta 0) (Ta 1) (Tv 0) sv_365 sv_366 sv_367 sv_355 (Tf 1) ro_370 pf_368 pf_357 h_by pf_369 cd_372) k_624 k_621 k_623 k_7 k_99 pl_X7_readSum ⟨Nat.le_of_ble_eq_true rfl, Nat.le_of_ble_eq_true rfl⟩ rfl rfl (va_recv hK hP (ci := 7) (q0 := 0) rfl rfl) hP hD hS [0, 1, 2, 3] [] rfl rfl rfl rfl rfl (by decide) rfl hl.1 rfl (Nat.le_of_ble_eq_true rfl) dX7_readFact_126 ⟨Nat.le_of_ble_eq_true rfl, Nat.le_of_ble_eq_true rfl⟩ (fun v_373 u_374 H locs hv_375 hP₀ hD₀ hS₀ => ?_)
            obtain ⟨sv_376, sv_377, sv_378, sv_379, sv_380, sv_381, sv_382⟩ := u_374
            obtain ⟨rfl, pf_383, pf_384, pf_385, pf_386⟩ := hv_375
            have pf_383 : 0 ≤ ((Tv 0) : Int32).toInt ∧ ((Tv 0) : Int32).toInt ≤ 400 ∧ 0 ≤ (sv_379 : Int32).toInt ∧ (sv_379 : Int32).toInt ≤ 400 ∧ 0 ≤ (sv_380 : Int32).toInt ∧ (sv_380 : Int32).toInt ≤ 400 := pf_383
            have pf_384 : 0 ≤ (sv_376 : Int32).toInt ∧ (sv_376 : Int32).toInt ≤ 400 := pf_384
            have pf_385 : TpR (Tf 1) (Tv 0) (pz_b ro_370 (pz_sum (cB (Tf 1) (Tv 0)))) sv_379 sv_380 sv_381 sv_382 := pf_385
            obtain ⟨ro_387, ero_387⟩ : ∃ z : Except Int (Nat × Nat), z = (pz_b ro_370 (pz_sum (cB (Tf 1) (Tv 0)))) := ⟨_, rfl⟩
            rw [← ero_387] at pf_385
            have tb_388 : TpB (rTE (cB (Tf 1) (Tv 0)) ro_387) sv_380 sv_382 := TpR.tb pf_385
            have pf_386 : Ctd (pz_b ro_370 (pz_sum (cB (Tf 1) (Tv 0)))) sv_377 := pf_386
            rw [← ero_387] at pf_386
            refine W.eq (g2 := F0 m 129 ls []) rfl ?_
            replace hP : va_P D classes [((Va 0), .inr (7, [.ref (Va 1), .int sv_376, .int sv_377])), ((Va 1), .inl (tc 0, 400, .inl sv_378)), ((Ta 0), .inr (10, [.ref (Ta 1), .int (Tv 0), .int sv_379, .int sv_380, .int sv_381, .int sv_382])), ((Ta 1), .inl (tc 0, 400, .inl (Tf 1)))] H := hP₀
            replace hD : va_D A [((Va 0), .inr (7, [.ref (Va 1), .int sv_376, .int sv_377])), ((Va 1), .inl (tc 0, 400, .inl sv_378)), ((Ta 0), .inr (10, [.ref (Ta 1), .int (Tv 0), .int sv_379, .int sv_380, .int sv_381, .int sv_382])), ((Ta 1), .inl (tc 0, 400, .inl (Tf 1)))] := hD₀
            replace hS := hS₀
            clear hP₀ hD₀ hS₀
            refine lv_aload_n hx hb dX7_readFact_129 rfl (lv_at hl 2 rfl) ?_
            refine lv_iload hx hb dX7_readFact_130 (lv_at hl 0 rfl) ?_
            refine cV (a := (Va 0)) (As := [.int r_346]) (rest := []) (wr := [((Ta 0), .inr (10, [.ref (Ta 1), .int (Tv 0), .int sv_379, .int sv_380, .int sv_381, .int sv_382])), ((Ta 1), .inl (tc 0, 400, .inl (Tf 1)))]) ⟨hx, hb, hml, hown, hts⟩ hK hX hA (cu_fX7_put l D tc sk (Va 0) (Va 1) sv_376 sv_377 sv_378 r_346 pf_384) k_642 k_639 k_641 k_10 k_99 pl_X7_put ⟨Nat.le_of_ble_eq_true rfl, Nat.le_of_ble_eq_true rfl⟩ rfl rfl (va_recv hK hP (ci := 7) (q0 := 0) rfl rfl) hP hD hS [0, 1] [2, 3] rfl rfl rfl rfl rfl (by decide) rfl hl.1 rfl (Nat.le_of_ble_eq_true rfl) dX7_readFact_132 ⟨Nat.le_of_ble_eq_true rfl, Nat.le_of_ble_eq_true rfl⟩ (fun v_389 u_390 H locs hv_391 hP₀ hD₀ hS₀ => ?_)
            obtain ⟨sv_392, sv_393⟩ := u_390
            obtain ⟨rfl, pf_394⟩ := hv_391
            have pf_394 : 0 ≤ (sv_392 : Int32).toInt ∧ (sv_392 : Int32).toInt ≤ 400 := pf_394
            refine W.eq (g2 := F0 m 135 ls []) rfl ?_
            replace hP : va_P D classes [((Ta 0), .inr (10, [.ref (Ta 1), .int (Tv 0), .int sv_379, .int sv_380, .int sv_381, .int sv_382])), ((Ta 1), .inl (tc 0, 400, .inl (Tf 1))), ((Va 0), .inr (7, [.ref (Va 1), .int sv_392, .int sv_377])), ((Va 1), .inl (tc 0, 400, .inl sv_393))] H := hP₀
            replace hD : va_D A [((Ta 0), .inr (10, [.ref (Ta 1), .int (Tv 0), .int sv_379, .int sv_380, .int sv_381, .int sv_382])), ((Ta 1), .inl (tc 0, 400, .inl (Tf 1))), ((Va 0), .inr (7, [.ref (Va 1), .int sv_392, .int sv_377])), ((Va 1), .inl (tc 0, 400, .inl sv_393))] := hD₀
            replace hS := hS₀
            clear hP₀ hD₀ hS₀
            have hf_395 : TpR (Tf 1) (Tv 0) (pz_b rr (pz_fact (cB (Tf 1) (Tv 0)) 6)) sv_379 sv_380 sv_381 sv_382 := by
              have hE_396 : (pz_b rr (pz_fact (cB (Tf 1) (Tv 0)) 6)) = ro_387 := by
                rw [ero_387, ero_370, ero_360, ero_341]
                have hw_397 : NWd (cB (Tf 1) (Tv 0)) pz_not rr := by
                  rw [← wS4]
                  exact pf_55
                have hw_398 : NSg (cB (Tf 1) (Tv 0)) 91 rr := by
                  exact pf_323
                have hu_399 : TpR (Tf 1) (Tv 0) (pz_b rr (pz_sum (cB (Tf 1) (Tv 0)))) sv_333 sv_334 sv_335 sv_336 := by
                  rw [← ero_341]
                  exact pf_339
                have hr_400 : 60 ≤ (sv_335 : Int32).toInt ∧ (sv_335 : Int32).toInt ≤ 62 := by
                  have z_1 := congrArg Int32.toInt c_11
                  have z_2 := congrArg Int32.toInt c_57
                  have z_3 := congrArg Int32.toInt c_307
                  have z_4 := congrArg Int32.toInt c_322
                  have z_5 : ¬ (r_346 : Int32).toInt = ((-1) : Int32).toInt := fun z => c_349 (Int32.toInt_inj.mp z)
                  have y_m1 : (-1 : Int32).toInt = -1 := by decide
                  have y_0 : (0 : Int32).toInt = 0 := by decide
                  have y_91 : (91 : Int32).toInt = 91 := by decide
                  omega
                exact ((fact_com hw_397 hw_398).trans (congrArg (fun z => pz_b z (pz_sum (cB (Tf 1) (Tv 0)))) (com_yes hu_399 hr_400)))
              rw [hE_396]
              exact pf_385
            have hf_401 : Ctd (pz_b rr (pz_fact (cB (Tf 1) (Tv 0)) 6)) sv_377 := by
              have hE_402 : (pz_b rr (pz_fact (cB (Tf 1) (Tv 0)) 6)) = ro_387 := by
                rw [ero_387, ero_370, ero_360, ero_341]
                have hw_403 : NWd (cB (Tf 1) (Tv 0)) pz_not rr := by
                  rw [← wS4]
                  exact pf_55
                have hw_404 : NSg (cB (Tf 1) (Tv 0)) 91 rr := by
                  exact pf_323
                have hu_405 : TpR (Tf 1) (Tv 0) (pz_b rr (pz_sum (cB (Tf 1) (Tv 0)))) sv_333 sv_334 sv_335 sv_336 := by
                  rw [← ero_341]
                  exact pf_339
                have hr_406 : 60 ≤ (sv_335 : Int32).toInt ∧ (sv_335 : Int32).toInt ≤ 62 := by
                  have z_1 := congrArg Int32.toInt c_11
                  have z_2 := congrArg Int32.toInt c_57
                  have z_3 := congrArg Int32.toInt c_307
                  have z_4 := congrArg Int32.toInt c_322
                  have z_5 : ¬ (r_346 : Int32).toInt = ((-1) : Int32).toInt := fun z => c_349 (Int32.toInt_inj.mp z)
                  have y_m1 : (-1 : Int32).toInt = -1 := by decide
                  have y_0 : (0 : Int32).toInt = 0 := by decide
                  have y_91 : (91 : Int32).toInt = 91 := by decide
                  omega
                exact ((fact_com hw_403 hw_404).trans (congrArg (fun z => pz_b z (pz_sum (cB (Tf 1) (Tv 0)))) (com_yes hu_405 hr_406)))
              rw [hE_402]
              exact pf_386
            exact retV hx hb hr hlk hP hD hS (sv_392, sv_377, sv_393, sv_379, sv_380, sv_381, sv_382) ⟨rfl, pf_383, pf_394, hf_395, hf_401⟩ [2, 3, 0, 1] rfl rfl dX7_readFact_135 (Nat.le_of_ble_eq_true rfl) (Nat.le_of_ble_eq_true rfl) rfl
          · skip
            refine lv_aload_n hx hb dX7_readFact_110 rfl (lv_at hl 3 rfl) ?_
            refine lv_iconst (v := 0) hx hb dX7_readFact_111 (by decide) ?_
            have ha_407 : 0 ≤ (0 : Int32).toInt ∧ (0 : Int32).toInt ≤ 4 := by
              have z_1 := congrArg Int32.toInt c_11
              have z_2 := congrArg Int32.toInt c_57
              have z_3 := congrArg Int32.toInt c_307
              have z_4 := congrArg Int32.toInt c_322
              have z_5 := congrArg Int32.toInt c_349
              have y_m1 : (-1 : Int32).toInt = -1 := by decide
              have y_0 : (0 : Int32).toInt = 0 := by decide
              have y_91 : (91 : Int32).toInt = 91 := by decide
              omega
            have ha_408 : (0 : Int32).toInt = (0 : Int) := by
              have z_1 := congrArg Int32.toInt c_11
              have z_2 := congrArg Int32.toInt c_57
              have z_3 := congrArg Int32.toInt c_307
              have z_4 := congrArg Int32.toInt c_322
              have z_5 := congrArg Int32.toInt c_349
              have y_m1 : (-1 : Int32).toInt = -1 := by decide
              have y_0 : (0 : Int32).toInt = 0 := by decide
              have y_91 : (91 : Int32).toInt = 91 := by decide
              omega
            refine cV (a := (Ta 0)) (As := [.int 0]) (rest := []) (wr := [((Va 0), .inr (7, [.ref (Va 1), .int sv_330, .int sv_331])), ((Va 1), .inl (tc 0, 400, .inl sv_332))]) ⟨hx, hb, hml, hown, hts⟩ hK hX hA (cu_fX10_fail l D tc sk (Ta 0) (Ta 1) (Tv 0) sv_333 sv_334 sv_335 sv_336 (Tf 1) 0 ro_341 0 pf_337 pf_339 ha_407 ha_408) k_557 k_619 k_555 k_556 k_96 pl_X10_fail ⟨Nat.le_of_ble_eq_true rfl, Nat.le_of_ble_eq_true rfl⟩ rfl rfl (va_recv hK hP (ci := 10) (q0 := 2) rfl rfl) hP hD hS [2, 3] [0, 1] rfl rfl rfl rfl rfl (by decide) rfl hl.1 rfl (Nat.le_of_ble_eq_true rfl) dX7_readFact_112 ⟨Nat.le_of_ble_eq_true rfl, Nat.le_of_ble_eq_true rfl⟩ (fun v_409 u_410 H locs hv_411 hP₀ hD₀ hS₀ => ?_)
            obtain ⟨sv_412, sv_413⟩ := u_410
            obtain ⟨rfl, pf_414, pf_415⟩ := hv_411
            have pf_414 : 0 ≤ ((Tv 0) : Int32).toInt ∧ ((Tv 0) : Int32).toInt ≤ 400 ∧ 0 ≤ (sv_333 : Int32).toInt ∧ (sv_333 : Int32).toInt ≤ 400 ∧ 0 ≤ (sv_334 : Int32).toInt ∧ (sv_334 : Int32).toInt ≤ 400 := pf_414
            have pf_415 : TpR (Tf 1) (Tv 0) (rER (0 : Int) ro_341) sv_333 sv_334 sv_412 sv_413 := pf_415
            obtain ⟨ro_416, ero_416⟩ : ∃ z : Except Int (Nat × Nat), z = (rER 0 ro_341) := ⟨_, rfl⟩
            rw [← ero_416] at pf_415
            have tb_417 : TpB (rTE (cB (Tf 1) (Tv 0)) ro_416) sv_334 sv_413 := TpR.tb pf_415
            have cd_418 : Ctd ro_416 sv_331 := by rw [ero_416]; exact (Ctd.er)
            refine W.eq (g2 := F0 m 115 ls []) rfl ?_
            replace hP : va_P D classes [((Va 0), .inr (7, [.ref (Va 1), .int sv_330, .int sv_331])), ((Va 1), .inl (tc 0, 400, .inl sv_332)), ((Ta 0), .inr (10, [.ref (Ta 1), .int (Tv 0), .int sv_333, .int sv_334, .int sv_412, .int sv_413])), ((Ta 1), .inl (tc 0, 400, .inl (Tf 1)))] H := hP₀
            replace hD : va_D A [((Va 0), .inr (7, [.ref (Va 1), .int sv_330, .int sv_331])), ((Va 1), .inl (tc 0, 400, .inl sv_332)), ((Ta 0), .inr (10, [.ref (Ta 1), .int (Tv 0), .int sv_333, .int sv_334, .int sv_412, .int sv_413])), ((Ta 1), .inl (tc 0, 400, .inl (Tf 1)))] := hD₀
            replace hS := hS₀
            clear hP₀ hD₀ hS₀
            refine lv_aload_n hx hb dX7_readFact_115 rfl (lv_at hl 2 rfl) ?_
            refine lv_aload_n hx hb dX7_readFact_116 rfl (lv_at hl 3 rfl) ?_
            refine cV (a := (Va 0)) (As := [.ref (Ta 0)]) (rest := []) (wr := []) ⟨hx, hb, hml, hown, hts⟩ hK hX hA (cu_fX7_countOne l D tc sk (Va 0) (Va 1) sv_330 sv_331 sv_332 (Ta 0) (Ta 1) (Tv 0) sv_333 sv_334 sv_412 sv_413 (Tf 1) ro_416 pf_414 pf_338 h_by pf_415 cd_418) k_638 k_635 k_637 k_9 k_99 pl_X7_countOne ⟨Nat.le_of_ble_eq_true rfl, Nat.le_of_ble_eq_true rfl⟩ rfl rfl (va_recv hK hP (ci := 7) (q0 := 0) rfl rfl) hP hD hS [0, 1, 2, 3] [] rfl rfl rfl rfl rfl (by decide) rfl hl.1 rfl (Nat.le_of_ble_eq_true rfl) dX7_readFact_117 ⟨Nat.le_of_ble_eq_true rfl, Nat.le_of_ble_eq_true rfl⟩ (fun v_419 u_420 H locs hv_421 hP₀ hD₀ hS₀ => ?_)
            obtain ⟨sv_422, sv_423, sv_424⟩ := u_420
            obtain ⟨rfl, pf_425, pf_426, pf_427, pf_428⟩ := hv_421
            have pf_425 : 0 ≤ ((Tv 0) : Int32).toInt ∧ ((Tv 0) : Int32).toInt ≤ 400 ∧ 0 ≤ (sv_333 : Int32).toInt ∧ (sv_333 : Int32).toInt ≤ 400 ∧ 0 ≤ (sv_334 : Int32).toInt ∧ (sv_334 : Int32).toInt ≤ 400 := pf_425
            have pf_426 : 0 ≤ (sv_330 : Int32).toInt ∧ (sv_330 : Int32).toInt ≤ 400 := pf_426
            have pf_427 : TpR (Tf 1) (Tv 0) (rC1 ro_416) sv_333 sv_334 sv_423 sv_424 := pf_427
            obtain ⟨ro_429, ero_429⟩ : ∃ z : Except Int (Nat × Nat), z = (rC1 ro_416) := ⟨_, rfl⟩
            rw [← ero_429] at pf_427
            have tb_430 : TpB (rTE (cB (Tf 1) (Tv 0)) ro_429) sv_334 sv_424 := TpR.tb pf_427
            have pf_428 : Ctd (rC1 ro_416) sv_422 := pf_428
            rw [← ero_429] at pf_428
            refine W.eq (g2 := F0 m 120 ls []) rfl ?_
            replace hP : va_P D classes [((Va 0), .inr (7, [.ref (Va 1), .int sv_330, .int sv_422])), ((Va 1), .inl (tc 0, 400, .inl sv_332)), ((Ta 0), .inr (10, [.ref (Ta 1), .int (Tv 0), .int sv_333, .int sv_334, .int sv_423, .int sv_424])), ((Ta 1), .inl (tc 0, 400, .inl (Tf 1)))] H := hP₀
            replace hD : va_D A [((Va 0), .inr (7, [.ref (Va 1), .int sv_330, .int sv_422])), ((Va 1), .inl (tc 0, 400, .inl sv_332)), ((Ta 0), .inr (10, [.ref (Ta 1), .int (Tv 0), .int sv_333, .int sv_334, .int sv_423, .int sv_424])), ((Ta 1), .inl (tc 0, 400, .inl (Tf 1)))] := hD₀
            replace hS := hS₀
            clear hP₀ hD₀ hS₀
            refine lv_aload_n hx hb dX7_readFact_120 rfl (lv_at hl 3 rfl) ?_
            refine cV (a := (Ta 0)) (As := []) (rest := []) (wr := [((Va 0), .inr (7, [.ref (Va 1), .int sv_330, .int sv_422])), ((Va 1), .inl (tc 0, 400, .inl sv_332))]) ⟨hx, hb, hml, hown, hts⟩ hK hX hA (cu_fX10_step l D tc sk (Ta 0) (Ta 1) (Tv 0) sv_333 sv_334 sv_423 sv_424 (Tf 1) (rTE (cB (Tf 1) (Tv 0)) ro_429) pf_425 h_by tb_430) k_478 k_620 k_476 k_477 k_96 pl_X10_step ⟨Nat.le_of_ble_eq_true rfl, Nat.le_of_ble_eq_true rfl⟩ rfl rfl (va_recv hK hP (ci := 10) (q0 := 2) rfl rfl) hP hD hS [2, 3] [0, 1] rfl rfl rfl rfl rfl (by decide) rfl hl.1 rfl (Nat.le_of_ble_eq_true rfl) dX7_readFact_121 ⟨Nat.le_of_ble_eq_true rfl, Nat.le_of_ble_eq_true rfl⟩ (fun v_431 u_432 H locs hv_433 hP₀ hD₀ hS₀ => ?_)
            obtain ⟨sv_434, sv_435, sv_436⟩ := u_432
            obtain ⟨rfl, pf_437, pf_438⟩ := hv_433
            have pf_437 : 0 ≤ ((Tv 0) : Int32).toInt ∧ ((Tv 0) : Int32).toInt ≤ 400 ∧ 0 ≤ (sv_434 : Int32).toInt ∧ (sv_434 : Int32).toInt ≤ 400 ∧ 0 ≤ (sv_435 : Int32).toInt ∧ (sv_435 : Int32).toInt ≤ 400 := pf_437
            have pf_438 : TpR (Tf 1) (Tv 0) (rSK (cB (Tf 1) (Tv 0)) (rTE (cB (Tf 1) (Tv 0)) ro_429)) sv_434 sv_435 sv_436 sv_424 := pf_438
            rw [rNX_eq] at pf_438
            obtain ⟨ro_439, ero_439⟩ : ∃ z : Except Int (Nat × Nat), z = (rNX (cB (Tf 1) (Tv 0)) ro_429) := ⟨_, rfl⟩
            rw [← ero_439] at pf_438
            have tb_440 : TpB (rTE (cB (Tf 1) (Tv 0)) ro_439) sv_435 sv_424 := TpR.tb pf_438
            have cd_441 : Ctd ro_439 sv_422 := by rw [ero_439]; exact (Ctd.nx pf_428)
            refine W.eq (g2 := F0 m 124 ls []) rfl ?_
            replace hP : va_P D classes [((Va 0), .inr (7, [.ref (Va 1), .int sv_330, .int sv_422])), ((Va 1), .inl (tc 0, 400, .inl sv_332)), ((Ta 0), .inr (10, [.ref (Ta 1), .int (Tv 0), .int sv_434, .int sv_435, .int sv_436, .int sv_424])), ((Ta 1), .inl (tc 0, 400, .inl (Tf 1)))] H := hP₀
            replace hD : va_D A [((Va 0), .inr (7, [.ref (Va 1), .int sv_330, .int sv_422])), ((Va 1), .inl (tc 0, 400, .inl sv_332)), ((Ta 0), .inr (10, [.ref (Ta 1), .int (Tv 0), .int sv_434, .int sv_435, .int sv_436, .int sv_424])), ((Ta 1), .inl (tc 0, 400, .inl (Tf 1)))] := hD₀
            replace hS := hS₀
            clear hP₀ hD₀ hS₀
            refine lv_aload_n hx hb dX7_readFact_124 rfl (lv_at hl 2 rfl) ?_
            refine lv_aload_n hx hb dX7_readFact_125 rfl (lv_at hl 3 rfl) ?_
            refine cV (a := (Va 0)) (As := [.ref (Ta 0)]) (rest := []) (wr := []) ⟨hx, hb, hml, hown, hts⟩ hK hX hA (cu_fX7_readSum l D tc sk (Va 0) (Va 1) sv_330 sv_422 sv_332 (Ta 0) (Ta 1) (Tv 0) sv_434 sv_435 sv_436 sv_424 (Tf 1) ro_439 pf_437 pf_426 h_by pf_438 cd_441) k_624 k_621 k_623 k_7 k_99 pl_X7_readSum ⟨Nat.le_of_ble_eq_true rfl, Nat.le_of_ble_eq_true rfl⟩ rfl rfl (va_recv hK hP (ci := 7) (q0 := 0) rfl rfl) hP hD hS [0, 1, 2, 3] [] rfl rfl rfl rfl rfl (by decide) rfl hl.1 rfl (Nat.le_of_ble_eq_true rfl) dX7_readFact_126 ⟨Nat.le_of_ble_eq_true rfl, Nat.le_of_ble_eq_true rfl⟩ (fun v_442 u_443 H locs hv_444 hP₀ hD₀ hS₀ => ?_)
            obtain ⟨sv_445, sv_446, sv_447, sv_448, sv_449, sv_450, sv_451⟩ := u_443
            obtain ⟨rfl, pf_452, pf_453, pf_454, pf_455⟩ := hv_444
            have pf_452 : 0 ≤ ((Tv 0) : Int32).toInt ∧ ((Tv 0) : Int32).toInt ≤ 400 ∧ 0 ≤ (sv_448 : Int32).toInt ∧ (sv_448 : Int32).toInt ≤ 400 ∧ 0 ≤ (sv_449 : Int32).toInt ∧ (sv_449 : Int32).toInt ≤ 400 := pf_452
            have pf_453 : 0 ≤ (sv_445 : Int32).toInt ∧ (sv_445 : Int32).toInt ≤ 400 := pf_453
            have pf_454 : TpR (Tf 1) (Tv 0) (pz_b ro_439 (pz_sum (cB (Tf 1) (Tv 0)))) sv_448 sv_449 sv_450 sv_451 := pf_454
            obtain ⟨ro_456, ero_456⟩ : ∃ z : Except Int (Nat × Nat), z = (pz_b ro_439 (pz_sum (cB (Tf 1) (Tv 0)))) := ⟨_, rfl⟩
            rw [← ero_456] at pf_454
            have tb_457 : TpB (rTE (cB (Tf 1) (Tv 0)) ro_456) sv_449 sv_451 := TpR.tb pf_454
            have pf_455 : Ctd (pz_b ro_439 (pz_sum (cB (Tf 1) (Tv 0)))) sv_446 := pf_455
            rw [← ero_456] at pf_455
            refine W.eq (g2 := F0 m 129 ls []) rfl ?_
            replace hP : va_P D classes [((Va 0), .inr (7, [.ref (Va 1), .int sv_445, .int sv_446])), ((Va 1), .inl (tc 0, 400, .inl sv_447)), ((Ta 0), .inr (10, [.ref (Ta 1), .int (Tv 0), .int sv_448, .int sv_449, .int sv_450, .int sv_451])), ((Ta 1), .inl (tc 0, 400, .inl (Tf 1)))] H := hP₀
            replace hD : va_D A [((Va 0), .inr (7, [.ref (Va 1), .int sv_445, .int sv_446])), ((Va 1), .inl (tc 0, 400, .inl sv_447)), ((Ta 0), .inr (10, [.ref (Ta 1), .int (Tv 0), .int sv_448, .int sv_449, .int sv_450, .int sv_451])), ((Ta 1), .inl (tc 0, 400, .inl (Tf 1)))] := hD₀
            replace hS := hS₀
            clear hP₀ hD₀ hS₀
            refine lv_aload_n hx hb dX7_readFact_129 rfl (lv_at hl 2 rfl) ?_
            refine lv_iload hx hb dX7_readFact_130 (lv_at hl 0 rfl) ?_
            refine cV (a := (Va 0)) (As := [.int r_346]) (rest := []) (wr := [((Ta 0), .inr (10, [.ref (Ta 1), .int (Tv 0), .int sv_448, .int sv_449, .int sv_450, .int sv_451])), ((Ta 1), .inl (tc 0, 400, .inl (Tf 1)))]) ⟨hx, hb, hml, hown, hts⟩ hK hX hA (cu_fX7_put l D tc sk (Va 0) (Va 1) sv_445 sv_446 sv_447 r_346 pf_453) k_642 k_639 k_641 k_10 k_99 pl_X7_put ⟨Nat.le_of_ble_eq_true rfl, Nat.le_of_ble_eq_true rfl⟩ rfl rfl (va_recv hK hP (ci := 7) (q0 := 0) rfl rfl) hP hD hS [0, 1] [2, 3] rfl rfl rfl rfl rfl (by decide) rfl hl.1 rfl (Nat.le_of_ble_eq_true rfl) dX7_readFact_132 ⟨Nat.le_of_ble_eq_true rfl, Nat.le_of_ble_eq_true rfl⟩ (fun v_458 u_459 H locs hv_460 hP₀ hD₀ hS₀ => ?_)
            obtain ⟨sv_461, sv_462⟩ := u_459
            obtain ⟨rfl, pf_463⟩ := hv_460
            have pf_463 : 0 ≤ (sv_461 : Int32).toInt ∧ (sv_461 : Int32).toInt ≤ 400 := pf_463
            refine W.eq (g2 := F0 m 135 ls []) rfl ?_
            replace hP : va_P D classes [((Ta 0), .inr (10, [.ref (Ta 1), .int (Tv 0), .int sv_448, .int sv_449, .int sv_450, .int sv_451])), ((Ta 1), .inl (tc 0, 400, .inl (Tf 1))), ((Va 0), .inr (7, [.ref (Va 1), .int sv_461, .int sv_446])), ((Va 1), .inl (tc 0, 400, .inl sv_462))] H := hP₀
            replace hD : va_D A [((Ta 0), .inr (10, [.ref (Ta 1), .int (Tv 0), .int sv_448, .int sv_449, .int sv_450, .int sv_451])), ((Ta 1), .inl (tc 0, 400, .inl (Tf 1))), ((Va 0), .inr (7, [.ref (Va 1), .int sv_461, .int sv_446])), ((Va 1), .inl (tc 0, 400, .inl sv_462))] := hD₀
            replace hS := hS₀
            clear hP₀ hD₀ hS₀
            have hf_464 : TpR (Tf 1) (Tv 0) (pz_b rr (pz_fact (cB (Tf 1) (Tv 0)) 6)) sv_448 sv_449 sv_450 sv_451 := by
              have hE_465 : (pz_b rr (pz_fact (cB (Tf 1) (Tv 0)) 6)) = ro_456 := by
                rw [ero_456, ero_439, ero_429, ero_416, ero_341]
                have hw_466 : NWd (cB (Tf 1) (Tv 0)) pz_not rr := by
                  rw [← wS4]
                  exact pf_55
                have hw_467 : NSg (cB (Tf 1) (Tv 0)) 91 rr := by
                  exact pf_323
                have hu_468 : TpR (Tf 1) (Tv 0) (pz_b rr (pz_sum (cB (Tf 1) (Tv 0)))) sv_333 sv_334 sv_335 sv_336 := by
                  rw [← ero_341]
                  exact pf_339
                have hr_469 : ¬ (60 ≤ (sv_335 : Int32).toInt ∧ (sv_335 : Int32).toInt ≤ 62) := by
                  have z_1 := congrArg Int32.toInt c_11
                  have z_2 := congrArg Int32.toInt c_57
                  have z_3 := congrArg Int32.toInt c_307
                  have z_4 := congrArg Int32.toInt c_322
                  have z_5 := congrArg Int32.toInt c_349
                  have y_m1 : (-1 : Int32).toInt = -1 := by decide
                  have y_0 : (0 : Int32).toInt = 0 := by decide
                  have y_91 : (91 : Int32).toInt = 91 := by decide
                  omega
                exact ((fact_com hw_466 hw_467).trans (congrArg (fun z => pz_b z (pz_sum (cB (Tf 1) (Tv 0)))) (com_no hu_468 hr_469)))
              rw [hE_465]
              exact pf_454
            have hf_470 : Ctd (pz_b rr (pz_fact (cB (Tf 1) (Tv 0)) 6)) sv_446 := by
              have hE_471 : (pz_b rr (pz_fact (cB (Tf 1) (Tv 0)) 6)) = ro_456 := by
                rw [ero_456, ero_439, ero_429, ero_416, ero_341]
                have hw_472 : NWd (cB (Tf 1) (Tv 0)) pz_not rr := by
                  rw [← wS4]
                  exact pf_55
                have hw_473 : NSg (cB (Tf 1) (Tv 0)) 91 rr := by
                  exact pf_323
                have hu_474 : TpR (Tf 1) (Tv 0) (pz_b rr (pz_sum (cB (Tf 1) (Tv 0)))) sv_333 sv_334 sv_335 sv_336 := by
                  rw [← ero_341]
                  exact pf_339
                have hr_475 : ¬ (60 ≤ (sv_335 : Int32).toInt ∧ (sv_335 : Int32).toInt ≤ 62) := by
                  have z_1 := congrArg Int32.toInt c_11
                  have z_2 := congrArg Int32.toInt c_57
                  have z_3 := congrArg Int32.toInt c_307
                  have z_4 := congrArg Int32.toInt c_322
                  have z_5 := congrArg Int32.toInt c_349
                  have y_m1 : (-1 : Int32).toInt = -1 := by decide
                  have y_0 : (0 : Int32).toInt = 0 := by decide
                  have y_91 : (91 : Int32).toInt = 91 := by decide
                  omega
                exact ((fact_com hw_472 hw_473).trans (congrArg (fun z => pz_b z (pz_sum (cB (Tf 1) (Tv 0)))) (com_no hu_474 hr_475)))
              rw [hE_471]
              exact pf_455
            exact retV hx hb hr hlk hP hD hS (sv_461, sv_446, sv_462, sv_448, sv_449, sv_450, sv_451) ⟨rfl, pf_452, pf_463, hf_464, hf_470⟩ [2, 3, 0, 1] rfl rfl dX7_readFact_135 (Nat.le_of_ble_eq_true rfl) (Nat.le_of_ble_eq_true rfl) rfl
        · skip
          have hz_478 : (r_317 : Int32).toInt = 1 := by
            have z_1 := congrArg Int32.toInt c_11
            have z_2 := congrArg Int32.toInt c_57
            have z_3 := congrArg Int32.toInt c_307
            have z_4 : ¬ (r_317 : Int32).toInt = (0 : Int32).toInt := fun z => c_322 (Int32.toInt_inj.mp z)
            have y_0 : (0 : Int32).toInt = 0 := by decide
            have y_91 : (91 : Int32).toInt = 91 := by decide
            omega
          obtain ⟨pf_476, pf_477⟩ := hm_320 hz_478
          have pf_476 : Sg (cB (Tf 1) (Tv 0)) (91 : Int) rr := pf_476
          have pf_477 : TpR (Tf 1) (Tv 0) (rNX (cB (Tf 1) (Tv 0)) rr) sv_313 sv_314 sv_315 (Tv 4) := pf_477
          obtain ⟨ro_479, ero_479⟩ : ∃ z : Except Int (Nat × Nat), z = (rNX (cB (Tf 1) (Tv 0)) rr) := ⟨_, rfl⟩
          rw [← ero_479] at pf_477
          have tb_480 : TpB (rTE (cB (Tf 1) (Tv 0)) ro_479) sv_314 (Tv 4) := TpR.tb pf_477
          have cd_481 : Ctd ro_479 (Vv 1) := by rw [ero_479]; exact (Ctd.nx h_ct)
          refine lv_aload_n hx hb dX7_readFact_68 rfl (lv_at hl 1 rfl) ?_
          refine lv_aload_n hx hb dX7_readFact_69 rfl (lv_at hl 2 rfl) ?_
          refine lv_iload_n hx hb dX7_readFact_70 rfl (lv_at hl 3 rfl) ?_
          refine lv_iconst (v := 1) hx hb dX7_readFact_71 (by decide) ?_
          refine lv_iadd hx hb dX7_readFact_72 ?_
          refine lv_lit (v := 5) (by decide) ?_
          refine cV (a := (Va 0)) (As := [.ref (Ta 0), .int 5]) (rest := []) (wr := []) ⟨hx, hb, hml, hown, hts⟩ hK hX hA (cu_fX7_readTest_5 l D tc sk (Va 0) (Va 1) (Vv 0) (Vv 1) (Vf 1) (Ta 0) (Ta 1) (Tv 0) sv_313 sv_314 sv_315 (Tv 4) (Tf 1) ro_479 pf_316 h_u h_by pf_477 cd_481) k_655 k_652 k_654 k_11 k_99 pl_X7_readTest ⟨Nat.le_of_ble_eq_true rfl, Nat.le_of_ble_eq_true rfl⟩ rfl rfl (va_recv hK hP (ci := 7) (q0 := 0) rfl rfl) hP hD hS [0, 1, 2, 3] [] rfl rfl rfl rfl rfl (by decide) rfl hl.1 rfl (Nat.le_of_ble_eq_true rfl) dX7_readFact_73 ⟨Nat.le_of_ble_eq_true rfl, Nat.le_of_ble_eq_true rfl⟩ (fun v_482 u_483 H locs hv_484 hP₀ hD₀ hS₀ => ?_)
          obtain ⟨sv_485, sv_486, sv_487, sv_488, sv_489, sv_490, sv_491⟩ := u_483
          obtain ⟨rfl, pf_492, pf_493, pf_494, pf_495⟩ := hv_484
          have pf_492 : 0 ≤ ((Tv 0) : Int32).toInt ∧ ((Tv 0) : Int32).toInt ≤ 400 ∧ 0 ≤ (sv_488 : Int32).toInt ∧ (sv_488 : Int32).toInt ≤ 400 ∧ 0 ≤ (sv_489 : Int32).toInt ∧ (sv_489 : Int32).toInt ≤ 400 := pf_492
          have pf_493 : 0 ≤ (sv_485 : Int32).toInt ∧ (sv_485 : Int32).toInt ≤ 400 := pf_493
          have pf_494 : TpR (Tf 1) (Tv 0) (pz_b ro_479 (pz_tst (cB (Tf 1) (Tv 0)) (pz_fact (cB (Tf 1) (Tv 0)) 5))) sv_488 sv_489 sv_490 sv_491 := pf_494
          obtain ⟨ro_496, ero_496⟩ : ∃ z : Except Int (Nat × Nat), z = (pz_b ro_479 (pz_tst (cB (Tf 1) (Tv 0)) (pz_fact (cB (Tf 1) (Tv 0)) 5))) := ⟨_, rfl⟩
          rw [← ero_496] at pf_494
          have tb_497 : TpB (rTE (cB (Tf 1) (Tv 0)) ro_496) sv_489 sv_491 := TpR.tb pf_494
          have pf_495 : Ctd (pz_b ro_479 (pz_tst (cB (Tf 1) (Tv 0)) (pz_fact (cB (Tf 1) (Tv 0)) 5))) sv_486 := pf_495
          rw [← ero_496] at pf_495
          refine W.eq (g2 := F0 m 76 ls []) rfl ?_
          replace hP : va_P D classes [((Va 0), .inr (7, [.ref (Va 1), .int sv_485, .int sv_486])), ((Va 1), .inl (tc 0, 400, .inl sv_487)), ((Ta 0), .inr (10, [.ref (Ta 1), .int (Tv 0), .int sv_488, .int sv_489, .int sv_490, .int sv_491])), ((Ta 1), .inl (tc 0, 400, .inl (Tf 1)))] H := hP₀
          replace hD : va_D A [((Va 0), .inr (7, [.ref (Va 1), .int sv_485, .int sv_486])), ((Va 1), .inl (tc 0, 400, .inl sv_487)), ((Ta 0), .inr (10, [.ref (Ta 1), .int (Tv 0), .int sv_488, .int sv_489, .int sv_490, .int sv_491])), ((Ta 1), .inl (tc 0, 400, .inl (Tf 1)))] := hD₀
          replace hS := hS₀
          clear hP₀ hD₀ hS₀
          refine lv_aload_n hx hb dX7_readFact_76 rfl (lv_at hl 2 rfl) ?_
          refine lv_bipush (v := 93) hx hb dX7_readFact_77 (by decide) ?_
          have ha_498 : 0 ≤ (93 : Int32).toInt := by
            have z_1 := congrArg Int32.toInt c_11
            have z_2 := congrArg Int32.toInt c_57
            have z_3 := congrArg Int32.toInt c_307
            have z_4 : ¬ (r_317 : Int32).toInt = (0 : Int32).toInt := fun z => c_322 (Int32.toInt_inj.mp z)
            have y_0 : (0 : Int32).toInt = 0 := by decide
            have y_91 : (91 : Int32).toInt = 91 := by decide
            have y_93 : (93 : Int32).toInt = 93 := by decide
            omega
          have ha_499 : (93 : Int32).toInt = (93 : Int) := by
            have z_1 := congrArg Int32.toInt c_11
            have z_2 := congrArg Int32.toInt c_57
            have z_3 := congrArg Int32.toInt c_307
            have z_4 : ¬ (r_317 : Int32).toInt = (0 : Int32).toInt := fun z => c_322 (Int32.toInt_inj.mp z)
            have y_0 : (0 : Int32).toInt = 0 := by decide
            have y_91 : (91 : Int32).toInt = 91 := by decide
            have y_93 : (93 : Int32).toInt = 93 := by decide
            omega
          refine cV (a := (Ta 0)) (As := [.int 93]) (rest := []) (wr := [((Va 0), .inr (7, [.ref (Va 1), .int sv_485, .int sv_486])), ((Va 1), .inl (tc 0, 400, .inl sv_487))]) ⟨hx, hb, hml, hown, hts⟩ hK hX hA (cu_fX10_takes l D tc sk (Ta 0) (Ta 1) (Tv 0) sv_488 sv_489 sv_490 sv_491 (Tf 1) 93 ro_496 93 pf_492 h_by pf_494 ha_498 ha_499) k_492 k_613 k_490 k_491 k_96 pl_X10_takes ⟨Nat.le_of_ble_eq_true rfl, Nat.le_of_ble_eq_true rfl⟩ rfl rfl (va_recv hK hP (ci := 10) (q0 := 2) rfl rfl) hP hD hS [2, 3] [0, 1] rfl rfl rfl rfl rfl (by decide) rfl hl.1 rfl (Nat.le_of_ble_eq_true rfl) dX7_readFact_79 ⟨Nat.le_of_ble_eq_true rfl, Nat.le_of_ble_eq_true rfl⟩ (fun v_500 u_501 H locs hv_502 hP₀ hD₀ hS₀ => ?_)
          obtain ⟨sv_503, sv_504, sv_505⟩ := u_501
          obtain ⟨r_507, rfl, he_508, pf_506, hm_510, hm_511⟩ := hv_502
          have he_508 : (r_507.toInt = 0 ∨ r_507.toInt = 1) := he_508
          have pf_506 : 0 ≤ ((Tv 0) : Int32).toInt ∧ ((Tv 0) : Int32).toInt ≤ 400 ∧ 0 ≤ (sv_503 : Int32).toInt ∧ (sv_503 : Int32).toInt ≤ 400 ∧ 0 ≤ (sv_504 : Int32).toInt ∧ (sv_504 : Int32).toInt ≤ 400 := pf_506
          refine W.eq (g2 := F0 m 82 ls [.int r_507]) rfl ?_
          replace hP : va_P D classes [((Va 0), .inr (7, [.ref (Va 1), .int sv_485, .int sv_486])), ((Va 1), .inl (tc 0, 400, .inl sv_487)), ((Ta 0), .inr (10, [.ref (Ta 1), .int (Tv 0), .int sv_503, .int sv_504, .int sv_505, .int sv_491])), ((Ta 1), .inl (tc 0, 400, .inl (Tf 1)))] H := hP₀
          replace hD : va_D A [((Va 0), .inr (7, [.ref (Va 1), .int sv_485, .int sv_486])), ((Va 1), .inl (tc 0, 400, .inl sv_487)), ((Ta 0), .inr (10, [.ref (Ta 1), .int (Tv 0), .int sv_503, .int sv_504, .int sv_505, .int sv_491])), ((Ta 1), .inl (tc 0, 400, .inl (Tf 1)))] := hD₀
          replace hS := hS₀
          clear hP₀ hD₀ hS₀
          refine lv_if_ne (tgt := 135) hx hb dX7_readFact_82 (by decide) (fun c_512 => ?_) (fun c_512 => ?_)
          · skip
            have hz_515 : (r_507 : Int32).toInt = 1 := by
              have z_1 := congrArg Int32.toInt c_11
              have z_2 := congrArg Int32.toInt c_57
              have z_3 := congrArg Int32.toInt c_307
              have z_4 : ¬ (r_317 : Int32).toInt = (0 : Int32).toInt := fun z => c_322 (Int32.toInt_inj.mp z)
              have z_5 : ¬ (r_507 : Int32).toInt = (0 : Int32).toInt := fun z => c_512 (Int32.toInt_inj.mp z)
              have y_0 : (0 : Int32).toInt = 0 := by decide
              have y_91 : (91 : Int32).toInt = 91 := by decide
              omega
            obtain ⟨pf_513, pf_514⟩ := hm_510 hz_515
            have pf_513 : Sg (cB (Tf 1) (Tv 0)) (93 : Int) ro_496 := pf_513
            have pf_514 : TpR (Tf 1) (Tv 0) (rNX (cB (Tf 1) (Tv 0)) ro_496) sv_503 sv_504 sv_505 sv_491 := pf_514
            obtain ⟨ro_516, ero_516⟩ : ∃ z : Except Int (Nat × Nat), z = (rNX (cB (Tf 1) (Tv 0)) ro_496) := ⟨_, rfl⟩
            rw [← ero_516] at pf_514
            have tb_517 : TpB (rTE (cB (Tf 1) (Tv 0)) ro_516) sv_504 sv_491 := TpR.tb pf_514
            have cd_518 : Ctd ro_516 sv_486 := by rw [ero_516]; exact (Ctd.nx pf_495)
            have hf_519 : TpR (Tf 1) (Tv 0) (pz_b rr (pz_fact (cB (Tf 1) (Tv 0)) 6)) sv_503 sv_504 sv_505 sv_491 := by
              have hE_520 : (pz_b rr (pz_fact (cB (Tf 1) (Tv 0)) 6)) = ro_516 := by
                rw [ero_516, ero_496, ero_479]
                have hw_521 : NWd (cB (Tf 1) (Tv 0)) pz_not rr := by
                  rw [← wS4]
                  exact pf_55
                have hw_522 : Sg (cB (Tf 1) (Tv 0)) 91 rr := by
                  exact pf_476
                have hw_523 : Sg (cB (Tf 1) (Tv 0)) 93 (pz_b (rNX (cB (Tf 1) (Tv 0)) rr) (pz_tst (cB (Tf 1) (Tv 0)) (pz_fact (cB (Tf 1) (Tv 0)) 5))) := by
                  rw [← ero_479, ← ero_496]
                  exact pf_513
                exact ((fact_br hw_521 hw_522).trans (rb_yes hw_523))
              rw [hE_520]
              exact pf_514
            have hf_524 : Ctd (pz_b rr (pz_fact (cB (Tf 1) (Tv 0)) 6)) sv_486 := by
              have hE_525 : (pz_b rr (pz_fact (cB (Tf 1) (Tv 0)) 6)) = ro_516 := by
                rw [ero_516, ero_496, ero_479]
                have hw_526 : NWd (cB (Tf 1) (Tv 0)) pz_not rr := by
                  rw [← wS4]
                  exact pf_55
                have hw_527 : Sg (cB (Tf 1) (Tv 0)) 91 rr := by
                  exact pf_476
                have hw_528 : Sg (cB (Tf 1) (Tv 0)) 93 (pz_b (rNX (cB (Tf 1) (Tv 0)) rr) (pz_tst (cB (Tf 1) (Tv 0)) (pz_fact (cB (Tf 1) (Tv 0)) 5))) := by
                  rw [← ero_479, ← ero_496]
                  exact pf_513
                exact ((fact_br hw_526 hw_527).trans (rb_yes hw_528))
              rw [hE_525]
              exact cd_518
            exact retV hx hb hr hlk hP hD hS (sv_485, sv_486, sv_487, sv_503, sv_504, sv_505, sv_491) ⟨rfl, pf_506, pf_493, hf_519, hf_524⟩ [0, 1, 2, 3] rfl rfl dX7_readFact_135 (Nat.le_of_ble_eq_true rfl) (Nat.le_of_ble_eq_true rfl) rfl
          · skip
            have hz_531 : (r_507 : Int32).toInt = 0 := by
              have z_1 := congrArg Int32.toInt c_11
              have z_2 := congrArg Int32.toInt c_57
              have z_3 := congrArg Int32.toInt c_307
              have z_4 : ¬ (r_317 : Int32).toInt = (0 : Int32).toInt := fun z => c_322 (Int32.toInt_inj.mp z)
              have z_5 := congrArg Int32.toInt c_512
              have y_0 : (0 : Int32).toInt = 0 := by decide
              have y_91 : (91 : Int32).toInt = 91 := by decide
              omega
            obtain ⟨pf_529, pf_530⟩ := hm_511 hz_531
            have pf_529 : NSg (cB (Tf 1) (Tv 0)) (93 : Int) ro_496 := pf_529
            have pf_530 : TpR (Tf 1) (Tv 0) ro_496 sv_503 sv_504 sv_505 sv_491 := pf_530
            have tb_532 : TpB (rTE (cB (Tf 1) (Tv 0)) ro_496) sv_504 sv_491 := TpR.tb pf_530
            refine lv_aload_n hx hb dX7_readFact_85 rfl (lv_at hl 2 rfl) ?_
            refine lv_iconst (v := 0) hx hb dX7_readFact_86 (by decide) ?_
            have ha_533 : 0 ≤ (0 : Int32).toInt ∧ (0 : Int32).toInt ≤ 4 := by
              have z_1 := congrArg Int32.toInt c_11
              have z_2 := congrArg Int32.toInt c_57
              have z_3 := congrArg Int32.toInt c_307
              have z_4 : ¬ (r_317 : Int32).toInt = (0 : Int32).toInt := fun z => c_322 (Int32.toInt_inj.mp z)
              have z_5 := congrArg Int32.toInt c_512
              have y_0 : (0 : Int32).toInt = 0 := by decide
              have y_91 : (91 : Int32).toInt = 91 := by decide
              omega
            have ha_534 : (0 : Int32).toInt = (0 : Int) := by
              have z_1 := congrArg Int32.toInt c_11
              have z_2 := congrArg Int32.toInt c_57
              have z_3 := congrArg Int32.toInt c_307
              have z_4 : ¬ (r_317 : Int32).toInt = (0 : Int32).toInt := fun z => c_322 (Int32.toInt_inj.mp z)
              have z_5 := congrArg Int32.toInt c_512
              have y_0 : (0 : Int32).toInt = 0 := by decide
              have y_91 : (91 : Int32).toInt = 91 := by decide
              omega
            refine cV (a := (Ta 0)) (As := [.int 0]) (rest := []) (wr := [((Va 0), .inr (7, [.ref (Va 1), .int sv_485, .int sv_486])), ((Va 1), .inl (tc 0, 400, .inl sv_487))]) ⟨hx, hb, hml, hown, hts⟩ hK hX hA (cu_fX10_fail l D tc sk (Ta 0) (Ta 1) (Tv 0) sv_503 sv_504 sv_505 sv_491 (Tf 1) 0 ro_496 0 pf_506 pf_530 ha_533 ha_534) k_557 k_619 k_555 k_556 k_96 pl_X10_fail ⟨Nat.le_of_ble_eq_true rfl, Nat.le_of_ble_eq_true rfl⟩ rfl rfl (va_recv hK hP (ci := 10) (q0 := 2) rfl rfl) hP hD hS [2, 3] [0, 1] rfl rfl rfl rfl rfl (by decide) rfl hl.1 rfl (Nat.le_of_ble_eq_true rfl) dX7_readFact_87 ⟨Nat.le_of_ble_eq_true rfl, Nat.le_of_ble_eq_true rfl⟩ (fun v_535 u_536 H locs hv_537 hP₀ hD₀ hS₀ => ?_)
            obtain ⟨sv_538, sv_539⟩ := u_536
            obtain ⟨rfl, pf_540, pf_541⟩ := hv_537
            have pf_540 : 0 ≤ ((Tv 0) : Int32).toInt ∧ ((Tv 0) : Int32).toInt ≤ 400 ∧ 0 ≤ (sv_503 : Int32).toInt ∧ (sv_503 : Int32).toInt ≤ 400 ∧ 0 ≤ (sv_504 : Int32).toInt ∧ (sv_504 : Int32).toInt ≤ 400 := pf_540
            have pf_541 : TpR (Tf 1) (Tv 0) (rER (0 : Int) ro_496) sv_503 sv_504 sv_538 sv_539 := pf_541
            obtain ⟨ro_542, ero_542⟩ : ∃ z : Except Int (Nat × Nat), z = (rER 0 ro_496) := ⟨_, rfl⟩
            rw [← ero_542] at pf_541
            have tb_543 : TpB (rTE (cB (Tf 1) (Tv 0)) ro_542) sv_504 sv_539 := TpR.tb pf_541
            have cd_544 : Ctd ro_542 sv_486 := by rw [ero_542]; exact (Ctd.er)
            refine W.eq (g2 := F0 m 90 ls []) rfl ?_
            replace hP : va_P D classes [((Va 0), .inr (7, [.ref (Va 1), .int sv_485, .int sv_486])), ((Va 1), .inl (tc 0, 400, .inl sv_487)), ((Ta 0), .inr (10, [.ref (Ta 1), .int (Tv 0), .int sv_503, .int sv_504, .int sv_538, .int sv_539])), ((Ta 1), .inl (tc 0, 400, .inl (Tf 1)))] H := hP₀
            replace hD : va_D A [((Va 0), .inr (7, [.ref (Va 1), .int sv_485, .int sv_486])), ((Va 1), .inl (tc 0, 400, .inl sv_487)), ((Ta 0), .inr (10, [.ref (Ta 1), .int (Tv 0), .int sv_503, .int sv_504, .int sv_538, .int sv_539])), ((Ta 1), .inl (tc 0, 400, .inl (Tf 1)))] := hD₀
            replace hS := hS₀
            clear hP₀ hD₀ hS₀
            refine lv_goto (tgt := 135) hx hb dX7_readFact_90 (by decide) ?_
            have hf_545 : TpR (Tf 1) (Tv 0) (pz_b rr (pz_fact (cB (Tf 1) (Tv 0)) 6)) sv_503 sv_504 sv_538 sv_539 := by
              have hE_546 : (pz_b rr (pz_fact (cB (Tf 1) (Tv 0)) 6)) = ro_542 := by
                rw [ero_542, ero_496, ero_479]
                have hw_547 : NWd (cB (Tf 1) (Tv 0)) pz_not rr := by
                  rw [← wS4]
                  exact pf_55
                have hw_548 : Sg (cB (Tf 1) (Tv 0)) 91 rr := by
                  exact pf_476
                have hw_549 : NSg (cB (Tf 1) (Tv 0)) 93 (pz_b (rNX (cB (Tf 1) (Tv 0)) rr) (pz_tst (cB (Tf 1) (Tv 0)) (pz_fact (cB (Tf 1) (Tv 0)) 5))) := by
                  rw [← ero_479, ← ero_496]
                  exact pf_529
                exact ((fact_br hw_547 hw_548).trans (rb_no hw_549))
              rw [hE_546]
              exact pf_541
            have hf_550 : Ctd (pz_b rr (pz_fact (cB (Tf 1) (Tv 0)) 6)) sv_486 := by
              have hE_551 : (pz_b rr (pz_fact (cB (Tf 1) (Tv 0)) 6)) = ro_542 := by
                rw [ero_542, ero_496, ero_479]
                have hw_552 : NWd (cB (Tf 1) (Tv 0)) pz_not rr := by
                  rw [← wS4]
                  exact pf_55
                have hw_553 : Sg (cB (Tf 1) (Tv 0)) 91 rr := by
                  exact pf_476
                have hw_554 : NSg (cB (Tf 1) (Tv 0)) 93 (pz_b (rNX (cB (Tf 1) (Tv 0)) rr) (pz_tst (cB (Tf 1) (Tv 0)) (pz_fact (cB (Tf 1) (Tv 0)) 5))) := by
                  rw [← ero_479, ← ero_496]
                  exact pf_529
                exact ((fact_br hw_552 hw_553).trans (rb_no hw_554))
              rw [hE_551]
              exact cd_544
            exact retV hx hb hr hlk hP hD hS (sv_485, sv_486, sv_487, sv_503, sv_504, sv_538, sv_539) ⟨rfl, pf_540, pf_493, hf_545, hf_550⟩ [0, 1, 2, 3] rfl rfl dX7_readFact_135 (Nat.le_of_ble_eq_true rfl) (Nat.le_of_ble_eq_true rfl) rfl
      · skip
        exfalso
        have z_1 := congrArg Int32.toInt c_11
        have z_2 := congrArg Int32.toInt c_57
        have z_3 : ¬ (r_6 : Int32).toInt = (0 : Int32).toInt := fun z => c_307 (Int32.toInt_inj.mp z)
        have y_0 : (0 : Int32).toInt = 0 := by decide
        have y_91 : (91 : Int32).toInt = 91 := by decide
        omega
set_option maxRecDepth 100000 in
theorem cu_fX7_readFact_4 (l : Launch) (D : va_G) (tc : Nat → ClassId) (sk : (Nat → Nat) × (Nat → Nat)) (Va_0 : Nat) (Va_1 : Nat) (Vv_0 : Int32) (Vv_1 : Int32) (Vf_1 : Nat → Int32) (Ta_0 : Nat) (Ta_1 : Nat) (Tv_0 : Int32) (Tv_1 : Int32) (Tv_2 : Int32) (Tv_3 : Int32) (Tv_4 : Int32) (Tf_1 : Nat → Int32) (rr : Except Int (Nat × Nat)) (h_tape : 0 ≤ (Tv_0 : Int32).toInt ∧ (Tv_0 : Int32).toInt ≤ 400 ∧ 0 ≤ (Tv_1 : Int32).toInt ∧ (Tv_1 : Int32).toInt ≤ 400 ∧ 0 ≤ (Tv_2 : Int32).toInt ∧ (Tv_2 : Int32).toInt ≤ 400) (h_u : 0 ≤ (Vv_0 : Int32).toInt ∧ (Vv_0 : Int32).toInt ≤ 400) (h_by : Byt Tf_1) (h_r : TpR Tf_1 Tv_0 rr Tv_1 Tv_2 Tv_3 Tv_4) (h_ct : Ctd rr Vv_1) : Ct l yX7_readFact cX7_readFact 5 none { frames := 20, cells := 0, slots := 0, locals := 474 } D tc sk [.ref Va_0, .ref Ta_0, .int 4] [(Va_0, .inr (7, [.ref Va_1, .int Vv_0, .int Vv_1])), (Va_1, .inl (tc 0, 400, .inl Vf_1)), (Ta_0, .inr (10, [.ref Ta_1, .int Tv_0, .int Tv_1, .int Tv_2, .int Tv_3, .int Tv_4])), (Ta_1, .inl (tc 0, 400, .inl Tf_1))] (fun (v : Option Value) (u : (Int32) × (Int32) × (Nat → Int32) × (Int32) × (Int32) × (Int32) × (Int32)) => match u with | (oo0x1, oo0x2, oo0x3, oo0x4, oo0x5, oo0x6, oo0x7) => v = none ∧ (0 ≤ (Tv_0 : Int32).toInt ∧ (Tv_0 : Int32).toInt ≤ 400 ∧ 0 ≤ (oo0x4 : Int32).toInt ∧ (oo0x4 : Int32).toInt ≤ 400 ∧ 0 ≤ (oo0x5 : Int32).toInt ∧ (oo0x5 : Int32).toInt ≤ 400) ∧ (0 ≤ (oo0x1 : Int32).toInt ∧ (oo0x1 : Int32).toInt ≤ 400) ∧ (TpR Tf_1 Tv_0 (pz_b rr (pz_fact (cB Tf_1 Tv_0) 6)) oo0x4 oo0x5 oo0x6 oo0x7) ∧ (Ctd (pz_b rr (pz_fact (cB Tf_1 Tv_0) 6)) oo0x2)) (fun (u : (Int32) × (Int32) × (Nat → Int32) × (Int32) × (Int32) × (Int32) × (Int32)) => match u with | (oo0x1, oo0x2, oo0x3, oo0x4, oo0x5, oo0x6, oo0x7) => [(Va_0, .inr (7, [.ref Va_1, .int oo0x1, .int oo0x2])), (Va_1, .inl (tc 0, 400, .inl oo0x3)), (Ta_0, .inr (10, [.ref Ta_1, .int Tv_0, .int oo0x4, .int oo0x5, .int oo0x6, .int oo0x7])), (Ta_1, .inl (tc 0, 400, .inl Tf_1))]) 0 0 :=
  ct_fX7_readFact_4 l D tc sk (fun k => ([Va_0, Va_1] : List (Nat)).getD k 0) (fun k => ([Vv_0, Vv_1] : List (Int32)).getD k 0) (fun k => ([(fun _ => 0), Vf_1] : List (Nat → Int32)).getD k (fun _ => 0)) (fun k => ([Ta_0, Ta_1] : List (Nat)).getD k 0) (fun k => ([Tv_0, Tv_1, Tv_2, Tv_3, Tv_4] : List (Int32)).getD k 0) (fun k => ([(fun _ => 0), Tf_1] : List (Nat → Int32)).getD k (fun _ => 0)) rr h_tape h_u h_by h_r h_ct
set_option maxHeartbeats 4000000 in
set_option maxRecDepth 100000 in
theorem ct_fX7_readTest_4 (l : Launch) (D : va_G) (tc : Nat → ClassId) (sk : (Nat → Nat) × (Nat → Nat)) (Va : Nat → Nat) (Vv : Nat → Int32) (Vf : Nat → Nat → Int32) (Ta : Nat → Nat) (Tv : Nat → Int32) (Tf : Nat → Nat → Int32) (rr : Except Int (Nat × Nat)) (h_tape : 0 ≤ ((Tv 0) : Int32).toInt ∧ ((Tv 0) : Int32).toInt ≤ 400 ∧ 0 ≤ ((Tv 1) : Int32).toInt ∧ ((Tv 1) : Int32).toInt ≤ 400 ∧ 0 ≤ ((Tv 2) : Int32).toInt ∧ ((Tv 2) : Int32).toInt ≤ 400) (h_u : 0 ≤ ((Vv 0) : Int32).toInt ∧ ((Vv 0) : Int32).toInt ≤ 400) (h_by : Byt (Tf 1)) (h_r : TpR (Tf 1) (Tv 0) rr (Tv 1) (Tv 2) (Tv 3) (Tv 4)) (h_ct : Ctd rr (Vv 1)) : Ct l yX7_readTest cX7_readTest 6 none { frames := 21, cells := 0, slots := 0, locals := 498 } D tc sk [.ref (Va 0), .ref (Ta 0), .int 4] [((Va 0), .inr (7, [.ref (Va 1), .int (Vv 0), .int (Vv 1)])), ((Va 1), .inl (tc 0, 400, .inl (Vf 1))), ((Ta 0), .inr (10, [.ref (Ta 1), .int (Tv 0), .int (Tv 1), .int (Tv 2), .int (Tv 3), .int (Tv 4)])), ((Ta 1), .inl (tc 0, 400, .inl (Tf 1)))] (fun (v : Option Value) (u : (Int32) × (Int32) × (Nat → Int32) × (Int32) × (Int32) × (Int32) × (Int32)) => match u with | (oo0x1, oo0x2, oo0x3, oo0x4, oo0x5, oo0x6, oo0x7) => v = none ∧ (0 ≤ ((Tv 0) : Int32).toInt ∧ ((Tv 0) : Int32).toInt ≤ 400 ∧ 0 ≤ (oo0x4 : Int32).toInt ∧ (oo0x4 : Int32).toInt ≤ 400 ∧ 0 ≤ (oo0x5 : Int32).toInt ∧ (oo0x5 : Int32).toInt ≤ 400) ∧ (0 ≤ (oo0x1 : Int32).toInt ∧ (oo0x1 : Int32).toInt ≤ 400) ∧ (TpR (Tf 1) (Tv 0) (pz_b rr (pz_tst (cB (Tf 1) (Tv 0)) (pz_fact (cB (Tf 1) (Tv 0)) 6))) oo0x4 oo0x5 oo0x6 oo0x7) ∧ (Ctd (pz_b rr (pz_tst (cB (Tf 1) (Tv 0)) (pz_fact (cB (Tf 1) (Tv 0)) 6))) oo0x2)) (fun (u : (Int32) × (Int32) × (Nat → Int32) × (Int32) × (Int32) × (Int32) × (Int32)) => match u with | (oo0x1, oo0x2, oo0x3, oo0x4, oo0x5, oo0x6, oo0x7) => [((Va 0), .inr (7, [.ref (Va 1), .int oo0x1, .int oo0x2])), ((Va 1), .inl (tc 0, 400, .inl oo0x3)), ((Ta 0), .inr (10, [.ref (Ta 1), .int (Tv 0), .int oo0x4, .int oo0x5, .int oo0x6, .int oo0x7])), ((Ta 1), .inl (tc 0, 400, .inl (Tf 1)))]) 0 0 := by
  refine Ct.start (by decide) (Nat.le_of_ble_eq_true rfl) (fun p e s m below meth c A ls hx hb hr hlk hin hml hown hts hK hX hP hD hA hl hS => ?_)
  have hl : lv_has ls 6 [(0, .ref (Va 0)), (1, .ref (Ta 0)), (2, .int 4)] := hl
  have tb_1 : TpB (rTE (cB (Tf 1) (Tv 0)) rr) (Tv 2) (Tv 4) := TpR.tb h_r
  refine lv_aload_n hx hb dX7_readTest_0 rfl (lv_at hl 0 rfl) ?_
  refine lv_aload_n hx hb dX7_readTest_1 rfl (lv_at hl 1 rfl) ?_
  refine lv_iload_n hx hb dX7_readTest_2 rfl (lv_at hl 2 rfl) ?_
  refine cV (a := (Va 0)) (As := [.ref (Ta 0), .int 4]) (rest := []) (wr := []) ⟨hx, hb, hml, hown, hts⟩ hK hX hA (cu_fX7_readFact_4 l D tc sk (Va 0) (Va 1) (Vv 0) (Vv 1) (Vf 1) (Ta 0) (Ta 1) (Tv 0) (Tv 1) (Tv 2) (Tv 3) (Tv 4) (Tf 1) rr h_tape h_u h_by h_r h_ct) k_659 k_656 k_658 k_12 k_99 pl_X7_readFact ⟨Nat.le_of_ble_eq_true rfl, Nat.le_of_ble_eq_true rfl⟩ rfl rfl (va_recv hK hP (ci := 7) (q0 := 0) rfl rfl) hP hD hS [0, 1, 2, 3] [] rfl rfl rfl rfl rfl (by decide) rfl hl.1 rfl (Nat.le_of_ble_eq_true rfl) dX7_readTest_3 ⟨Nat.le_of_ble_eq_true rfl, Nat.le_of_ble_eq_true rfl⟩ (fun v_2 u_3 H locs hv_4 hP₀ hD₀ hS₀ => ?_)
  obtain ⟨sv_5, sv_6, sv_7, sv_8, sv_9, sv_10, sv_11⟩ := u_3
  obtain ⟨rfl, pf_12, pf_13, pf_14, pf_15⟩ := hv_4
  have pf_12 : 0 ≤ ((Tv 0) : Int32).toInt ∧ ((Tv 0) : Int32).toInt ≤ 400 ∧ 0 ≤ (sv_8 : Int32).toInt ∧ (sv_8 : Int32).toInt ≤ 400 ∧ 0 ≤ (sv_9 : Int32).toInt ∧ (sv_9 : Int32).toInt ≤ 400 := pf_12
  have pf_13 : 0 ≤ (sv_5 : Int32).toInt ∧ (sv_5 : Int32).toInt ≤ 400 := pf_13
  have pf_14 : TpR (Tf 1) (Tv 0) (pz_b rr (pz_fact (cB (Tf 1) (Tv 0)) 6)) sv_8 sv_9 sv_10 sv_11 := pf_14
  obtain ⟨ro_16, ero_16⟩ : ∃ z : Except Int (Nat × Nat), z = (pz_b rr (pz_fact (cB (Tf 1) (Tv 0)) 6)) := ⟨_, rfl⟩
  rw [← ero_16] at pf_14
  have tb_17 : TpB (rTE (cB (Tf 1) (Tv 0)) ro_16) sv_9 sv_11 := TpR.tb pf_14
  have pf_15 : Ctd (pz_b rr (pz_fact (cB (Tf 1) (Tv 0)) 6)) sv_6 := pf_15
  rw [← ero_16] at pf_15
  refine W.eq (g2 := F0 m 6 ls []) rfl ?_
  replace hP : va_P D classes [((Va 0), .inr (7, [.ref (Va 1), .int sv_5, .int sv_6])), ((Va 1), .inl (tc 0, 400, .inl sv_7)), ((Ta 0), .inr (10, [.ref (Ta 1), .int (Tv 0), .int sv_8, .int sv_9, .int sv_10, .int sv_11])), ((Ta 1), .inl (tc 0, 400, .inl (Tf 1)))] H := hP₀
  replace hD : va_D A [((Va 0), .inr (7, [.ref (Va 1), .int sv_5, .int sv_6])), ((Va 1), .inl (tc 0, 400, .inl sv_7)), ((Ta 0), .inr (10, [.ref (Ta 1), .int (Tv 0), .int sv_8, .int sv_9, .int sv_10, .int sv_11])), ((Ta 1), .inl (tc 0, 400, .inl (Tf 1)))] := hD₀
  replace hS := hS₀
  clear hP₀ hD₀ hS₀
  refine lv_iconst (v := 0) hx hb dX7_readTest_6 (by decide) ?_
  refine lv_istore_n (lv' := [(3, .int 0), (0, .ref (Va 0)), (1, .ref (Ta 0)), (2, .int 4)]) hx hb dX7_readTest_7 rfl hl (by decide) rfl (fun ls hl₀ => ?_)
  replace hl := hl₀
  clear hl₀
  refine lv_iconst (v := 0) hx hb dX7_readTest_8 (by decide) ?_
  refine lv_istore (lv' := [(4, .int 0), (3, .int 0), (0, .ref (Va 0)), (1, .ref (Ta 0)), (2, .int 4)]) hx hb dX7_readTest_9 hl (by decide) rfl (fun ls hl₀ => ?_)
  replace hl := hl₀
  clear hl₀
  have loop_38 : ∀ (n_36 : Nat) (vy_27 : Int32) (vy_28 : Int32) (vy_29 : Int32) (vy_30 : Nat → Int32) (vy_31 : Int32) (vy_32 : Int32) (vy_33 : Int32) (vy_34 : Int32) (vy_35 : Int32) (H : Heap) (locs : List Loc) (ls : Array Slot), (401 - (vy_27 : Int32).toInt).toNat < n_36 → (0 ≤ (vy_27 : Int32).toInt ∧ (vy_27 : Int32).toInt ≤ 400) → (0 ≤ ((Tv 0) : Int32).toInt ∧ ((Tv 0) : Int32).toInt ≤ 400 ∧ 0 ≤ (vy_31 : Int32).toInt ∧ (vy_31 : Int32).toInt ≤ 400 ∧ 0 ≤ (vy_32 : Int32).toInt ∧ (vy_32 : Int32).toInt ≤ 400) → (0 ≤ (vy_28 : Int32).toInt ∧ (vy_28 : Int32).toInt ≤ 400) → (TeL (Tf 1) (Tv 0) 6 (pz_b rr (pz_tst (cB (Tf 1) (Tv 0)) (pz_fact (cB (Tf 1) (Tv 0)) 6))) vy_31 vy_32 vy_33 vy_34 vy_29 vy_27) → va_P D classes [((Va 0), .inr (7, [.ref (Va 1), .int vy_28, .int vy_29])), ((Va 1), .inl (tc 0, 400, .inl vy_30)), ((Ta 0), .inr (10, [.ref (Ta 1), .int (Tv 0), .int vy_31, .int vy_32, .int vy_33, .int vy_34])), ((Ta 1), .inl (tc 0, 400, .inl (Tf 1)))] H → va_D A [((Va 0), .inr (7, [.ref (Va 1), .int vy_28, .int vy_29])), ((Va 1), .inl (tc 0, 400, .inl vy_30)), ((Ta 0), .inr (10, [.ref (Ta 1), .int (Tv 0), .int vy_31, .int vy_32, .int vy_33, .int vy_34])), ((Ta 1), .inl (tc 0, 400, .inl (Tf 1)))] → va_S A s.heap H locs → lv_has ls 6 [(4, .int vy_27), (3, .int vy_35), (0, .ref (Va 0)), (1, .ref (Ta 0)), (2, .int 4)] → W p l e ({ frames := 21, cells := 0, slots := 0, locals := 498 }) s m ([.ref (Va 0), .ref (Ta 0), .int 4].toArray) below meth c H locs 0 0 (MQ below (QW (fun (v : Option Value) (u : (Int32) × (Int32) × (Nat → Int32) × (Int32) × (Int32) × (Int32) × (Int32)) => match u with | (oo0x1, oo0x2, oo0x3, oo0x4, oo0x5, oo0x6, oo0x7) => v = none ∧ (0 ≤ ((Tv 0) : Int32).toInt ∧ ((Tv 0) : Int32).toInt ≤ 400 ∧ 0 ≤ (oo0x4 : Int32).toInt ∧ (oo0x4 : Int32).toInt ≤ 400 ∧ 0 ≤ (oo0x5 : Int32).toInt ∧ (oo0x5 : Int32).toInt ≤ 400) ∧ (0 ≤ (oo0x1 : Int32).toInt ∧ (oo0x1 : Int32).toInt ≤ 400) ∧ (TpR (Tf 1) (Tv 0) (pz_b rr (pz_tst (cB (Tf 1) (Tv 0)) (pz_fact (cB (Tf 1) (Tv 0)) 6))) oo0x4 oo0x5 oo0x6 oo0x7) ∧ (Ctd (pz_b rr (pz_tst (cB (Tf 1) (Tv 0)) (pz_fact (cB (Tf 1) (Tv 0)) 6))) oo0x2)) (BW D (fun (u : (Int32) × (Int32) × (Nat → Int32) × (Int32) × (Int32) × (Int32) × (Int32)) => match u with | (oo0x1, oo0x2, oo0x3, oo0x4, oo0x5, oo0x6, oo0x7) => [((Va 0), .inr (7, [.ref (Va 1), .int oo0x1, .int oo0x2])), ((Va 1), .inl (tc 0, 400, .inl oo0x3)), ((Ta 0), .inr (10, [.ref (Ta 1), .int (Tv 0), .int oo0x4, .int oo0x5, .int oo0x6, .int oo0x7])), ((Ta 1), .inl (tc 0, 400, .inl (Tf 1)))]) A) A) ([.ref (Va 0), .ref (Ta 0), .int 4].toArray) s 0 0 A) (F0 m 11 ls []) := by
    clear hP hD hS hl
    intro n_36
    induction n_36 with
    | zero =>
      intro vy_27 vy_28 vy_29 vy_30 vy_31 vy_32 vy_33 vy_34 vy_35 H locs ls h1
      exact absurd h1 (Nat.not_lt_zero _)
    | succ n_36 ih_37 =>
      intro vy_27 vy_28 vy_29 vy_30 vy_31 vy_32 vy_33 vy_34 vy_35 H locs ls hn_43 pf_39 pf_40 pf_41 pf_42 hP hD hS hl
      obtain ⟨rq_44, pf_45, pf_46, pf_47, pf_48⟩ := id pf_42
      have tb_49 : TpB (rTE (cB (Tf 1) (Tv 0)) rq_44) vy_32 vy_34 := TpR.tb pf_45
      refine lv_iload hx hb dX7_readTest_11 (lv_at hl 0 rfl) ?_
      refine lv_sipush (v := 400) hx hb dX7_readTest_13 (by decide) ?_
      refine lv_icmp_ge (tgt := 92) hx hb dX7_readTest_16 (by decide) (fun c_50 => ?_) (fun c_50 => ?_)
      · skip
        refine lv_iload_n hx hb dX7_readTest_92 rfl (lv_at hl 1 rfl) ?_
        refine lv_if_eq (tgt := 102) hx hb dX7_readTest_93 (by decide) (fun c_51 => ?_) (fun c_51 => ?_)
        · skip
          have hf_52 : TpR (Tf 1) (Tv 0) (pz_b rr (pz_tst (cB (Tf 1) (Tv 0)) (pz_fact (cB (Tf 1) (Tv 0)) 6))) vy_31 vy_32 vy_33 vy_34 := by
            have hr_53 : 400 ≤ (vy_27 : Int32).toInt := by
              have z_1 := Int32.le_iff_toInt_le.mp c_50
              have z_2 := congrArg Int32.toInt c_51
              have y_0 : (0 : Int32).toInt = 0 := by decide
              have y_400 : (400 : Int32).toInt = 400 := by decide
              omega
            rw [pf_47, tst_end h_tape.2.1 pf_48 (Or.inl hr_53)]
            exact pf_45
          have hf_54 : Ctd (pz_b rr (pz_tst (cB (Tf 1) (Tv 0)) (pz_fact (cB (Tf 1) (Tv 0)) 6))) vy_29 := by
            have hr_55 : 400 ≤ (vy_27 : Int32).toInt := by
              have z_1 := Int32.le_iff_toInt_le.mp c_50
              have z_2 := congrArg Int32.toInt c_51
              have y_0 : (0 : Int32).toInt = 0 := by decide
              have y_400 : (400 : Int32).toInt = 400 := by decide
              omega
            rw [pf_47, tst_end h_tape.2.1 pf_48 (Or.inl hr_55)]
            exact pf_46
          exact retV hx hb hr hlk hP hD hS (vy_28, vy_29, vy_30, vy_31, vy_32, vy_33, vy_34) ⟨rfl, pf_40, pf_41, hf_52, hf_54⟩ [0, 1, 2, 3] rfl rfl dX7_readTest_102 (Nat.le_of_ble_eq_true rfl) (Nat.le_of_ble_eq_true rfl) rfl
        · skip
          refine lv_aload_n hx hb dX7_readTest_96 rfl (lv_at hl 2 rfl) ?_
          refine lv_bipush (v := (-6)) hx hb dX7_readTest_97 (by decide) ?_
          refine cV (a := (Va 0)) (As := [.int (-6)]) (rest := []) (wr := [((Ta 0), .inr (10, [.ref (Ta 1), .int (Tv 0), .int vy_31, .int vy_32, .int vy_33, .int vy_34])), ((Ta 1), .inl (tc 0, 400, .inl (Tf 1)))]) ⟨hx, hb, hml, hown, hts⟩ hK hX hA (cu_fX7_put l D tc sk (Va 0) (Va 1) vy_28 vy_29 vy_30 (-6) pf_41) k_642 k_639 k_641 k_10 k_99 pl_X7_put ⟨Nat.le_of_ble_eq_true rfl, Nat.le_of_ble_eq_true rfl⟩ rfl rfl (va_recv hK hP (ci := 7) (q0 := 0) rfl rfl) hP hD hS [0, 1] [2, 3] rfl rfl rfl rfl rfl (by decide) rfl hl.1 rfl (Nat.le_of_ble_eq_true rfl) dX7_readTest_99 ⟨Nat.le_of_ble_eq_true rfl, Nat.le_of_ble_eq_true rfl⟩ (fun v_56 u_57 H locs hv_58 hP₀ hD₀ hS₀ => ?_)
          obtain ⟨sv_59, sv_60⟩ := u_57
          obtain ⟨rfl, pf_61⟩ := hv_58
          have pf_61 : 0 ≤ (sv_59 : Int32).toInt ∧ (sv_59 : Int32).toInt ≤ 400 := pf_61
          refine W.eq (g2 := F0 m 102 ls []) rfl ?_
          replace hP : va_P D classes [((Ta 0), .inr (10, [.ref (Ta 1), .int (Tv 0), .int vy_31, .int vy_32, .int vy_33, .int vy_34])), ((Ta 1), .inl (tc 0, 400, .inl (Tf 1))), ((Va 0), .inr (7, [.ref (Va 1), .int sv_59, .int vy_29])), ((Va 1), .inl (tc 0, 400, .inl sv_60))] H := hP₀
          replace hD : va_D A [((Ta 0), .inr (10, [.ref (Ta 1), .int (Tv 0), .int vy_31, .int vy_32, .int vy_33, .int vy_34])), ((Ta 1), .inl (tc 0, 400, .inl (Tf 1))), ((Va 0), .inr (7, [.ref (Va 1), .int sv_59, .int vy_29])), ((Va 1), .inl (tc 0, 400, .inl sv_60))] := hD₀
          replace hS := hS₀
          clear hP₀ hD₀ hS₀
          have hf_62 : TpR (Tf 1) (Tv 0) (pz_b rr (pz_tst (cB (Tf 1) (Tv 0)) (pz_fact (cB (Tf 1) (Tv 0)) 6))) vy_31 vy_32 vy_33 vy_34 := by
            have hr_63 : 400 ≤ (vy_27 : Int32).toInt := by
              have z_1 := Int32.le_iff_toInt_le.mp c_50
              have z_2 : ¬ (vy_35 : Int32).toInt = (0 : Int32).toInt := fun z => c_51 (Int32.toInt_inj.mp z)
              have y_0 : (0 : Int32).toInt = 0 := by decide
              have y_400 : (400 : Int32).toInt = 400 := by decide
              omega
            rw [pf_47, tst_end h_tape.2.1 pf_48 (Or.inl hr_63)]
            exact pf_45
          have hf_64 : Ctd (pz_b rr (pz_tst (cB (Tf 1) (Tv 0)) (pz_fact (cB (Tf 1) (Tv 0)) 6))) vy_29 := by
            have hr_65 : 400 ≤ (vy_27 : Int32).toInt := by
              have z_1 := Int32.le_iff_toInt_le.mp c_50
              have z_2 : ¬ (vy_35 : Int32).toInt = (0 : Int32).toInt := fun z => c_51 (Int32.toInt_inj.mp z)
              have y_0 : (0 : Int32).toInt = 0 := by decide
              have y_400 : (400 : Int32).toInt = 400 := by decide
              omega
            rw [pf_47, tst_end h_tape.2.1 pf_48 (Or.inl hr_65)]
            exact pf_46
          exact retV hx hb hr hlk hP hD hS (sv_59, vy_29, sv_60, vy_31, vy_32, vy_33, vy_34) ⟨rfl, pf_40, pf_61, hf_62, hf_64⟩ [2, 3, 0, 1] rfl rfl dX7_readTest_102 (Nat.le_of_ble_eq_true rfl) (Nat.le_of_ble_eq_true rfl) rfl
      · skip
        refine lv_aload_n hx hb dX7_readTest_19 rfl (lv_at hl 3 rfl) ?_
        refine va_ldcS hx hb hown (sx_5 hX) dX7_readTest_20 ?_
        have ha_66 : (5 : Nat) < 7 := by
          have z_1 := Int32.lt_iff_toInt_lt.mp (Int32.not_le.mp c_50)
          have y_400 : (400 : Int32).toInt = 400 := by decide
          have y_5 : (5 : Int32).toInt = 5 := by decide
          omega
        refine cV (a := (Ta 0)) (As := [.ref (sk.1 5)]) (rest := []) (wr := [((Va 0), .inr (7, [.ref (Va 1), .int vy_28, .int vy_29])), ((Va 1), .inl (tc 0, 400, .inl vy_30))]) ⟨hx, hb, hml, hown, hts⟩ hK hX hA (cu_fX10_isWord l D tc sk (Ta 0) (Ta 1) (Tv 0) vy_31 vy_32 vy_33 vy_34 (Tf 1) 5 rq_44 ha_66 pf_40 h_by pf_45) k_618 k_615 k_616 k_617 k_96 pl_X10_isWord ⟨Nat.le_of_ble_eq_true rfl, Nat.le_of_ble_eq_true rfl⟩ rfl rfl (va_recv hK hP (ci := 10) (q0 := 2) rfl rfl) hP hD hS [2, 3] [0, 1] rfl rfl rfl rfl rfl (by decide) rfl hl.1 rfl (Nat.le_of_ble_eq_true rfl) dX7_readTest_22 ⟨Nat.le_of_ble_eq_true rfl, Nat.le_of_ble_eq_true rfl⟩ (fun v_67 u_68 H locs hv_69 hP₀ hD₀ hS₀ => ?_)
        obtain ⟨r_70, rfl, he_71, hm_73, hm_74⟩ := hv_69
        have he_71 : (r_70.toInt = 0 ∨ r_70.toInt = 1) := he_71
        refine W.eq (g2 := F0 m 25 ls [.int r_70]) rfl ?_
        replace hP : va_P D classes [((Va 0), .inr (7, [.ref (Va 1), .int vy_28, .int vy_29])), ((Va 1), .inl (tc 0, 400, .inl vy_30)), ((Ta 0), .inr (10, [.ref (Ta 1), .int (Tv 0), .int vy_31, .int vy_32, .int vy_33, .int vy_34])), ((Ta 1), .inl (tc 0, 400, .inl (Tf 1)))] H := hP₀
        replace hD : va_D A [((Va 0), .inr (7, [.ref (Va 1), .int vy_28, .int vy_29])), ((Va 1), .inl (tc 0, 400, .inl vy_30)), ((Ta 0), .inr (10, [.ref (Ta 1), .int (Tv 0), .int vy_31, .int vy_32, .int vy_33, .int vy_34])), ((Ta 1), .inl (tc 0, 400, .inl (Tf 1)))] := hD₀
        replace hS := hS₀
        clear hP₀ hD₀ hS₀
        refine lv_if_ne (tgt := 37) hx hb dX7_readTest_25 (by decide) (fun c_75 => ?_) (fun c_75 => ?_)
        · skip
          have hz_77 : (r_70 : Int32).toInt = 1 := by
            have z_1 := Int32.lt_iff_toInt_lt.mp (Int32.not_le.mp c_50)
            have z_2 : ¬ (r_70 : Int32).toInt = (0 : Int32).toInt := fun z => c_75 (Int32.toInt_inj.mp z)
            have y_0 : (0 : Int32).toInt = 0 := by decide
            have y_400 : (400 : Int32).toInt = 400 := by decide
            omega
          obtain pf_76 := hm_73 hz_77
          have pf_76 : TWd (cB (Tf 1) (Tv 0)) (wS (5 : Nat)) rq_44 := pf_76
          refine lv_aload_n hx hb dX7_readTest_37 rfl (lv_at hl 3 rfl) ?_
          refine va_ldcS hx hb hown (sx_6 hX) dX7_readTest_38 ?_
          have ha_78 : (6 : Nat) < 7 := by
            have z_1 := Int32.lt_iff_toInt_lt.mp (Int32.not_le.mp c_50)
            have z_2 : ¬ (r_70 : Int32).toInt = (0 : Int32).toInt := fun z => c_75 (Int32.toInt_inj.mp z)
            have y_0 : (0 : Int32).toInt = 0 := by decide
            have y_400 : (400 : Int32).toInt = 400 := by decide
            have y_6 : (6 : Int32).toInt = 6 := by decide
            omega
          refine cV (a := (Ta 0)) (As := [.ref (sk.1 6)]) (rest := []) (wr := [((Va 0), .inr (7, [.ref (Va 1), .int vy_28, .int vy_29])), ((Va 1), .inl (tc 0, 400, .inl vy_30))]) ⟨hx, hb, hml, hown, hts⟩ hK hX hA (cu_fX10_isWord l D tc sk (Ta 0) (Ta 1) (Tv 0) vy_31 vy_32 vy_33 vy_34 (Tf 1) 6 rq_44 ha_78 pf_40 h_by pf_45) k_618 k_615 k_616 k_617 k_96 pl_X10_isWord ⟨Nat.le_of_ble_eq_true rfl, Nat.le_of_ble_eq_true rfl⟩ rfl rfl (va_recv hK hP (ci := 10) (q0 := 2) rfl rfl) hP hD hS [2, 3] [0, 1] rfl rfl rfl rfl rfl (by decide) rfl hl.1 rfl (Nat.le_of_ble_eq_true rfl) dX7_readTest_40 ⟨Nat.le_of_ble_eq_true rfl, Nat.le_of_ble_eq_true rfl⟩ (fun v_79 u_80 H locs hv_81 hP₀ hD₀ hS₀ => ?_)
          obtain ⟨r_82, rfl, he_83, hm_85, hm_86⟩ := hv_81
          have he_83 : (r_82.toInt = 0 ∨ r_82.toInt = 1) := he_83
          refine W.eq (g2 := F0 m 43 ls [.int r_82]) rfl ?_
          replace hP : va_P D classes [((Va 0), .inr (7, [.ref (Va 1), .int vy_28, .int vy_29])), ((Va 1), .inl (tc 0, 400, .inl vy_30)), ((Ta 0), .inr (10, [.ref (Ta 1), .int (Tv 0), .int vy_31, .int vy_32, .int vy_33, .int vy_34])), ((Ta 1), .inl (tc 0, 400, .inl (Tf 1)))] H := hP₀
          replace hD : va_D A [((Va 0), .inr (7, [.ref (Va 1), .int vy_28, .int vy_29])), ((Va 1), .inl (tc 0, 400, .inl vy_30)), ((Ta 0), .inr (10, [.ref (Ta 1), .int (Tv 0), .int vy_31, .int vy_32, .int vy_33, .int vy_34])), ((Ta 1), .inl (tc 0, 400, .inl (Tf 1)))] := hD₀
          replace hS := hS₀
          clear hP₀ hD₀ hS₀
          refine lv_istore (lv' := [(5, .int r_82), (4, .int vy_27), (3, .int vy_35), (0, .ref (Va 0)), (1, .ref (Ta 0)), (2, .int 4)]) hx hb dX7_readTest_43 hl (by decide) rfl (fun ls hl₀ => ?_)
          replace hl := hl₀
          clear hl₀
          refine lv_iload hx hb dX7_readTest_45 (lv_at hl 0 rfl) ?_
          refine lv_if_eq (tgt := 60) hx hb dX7_readTest_47 (by decide) (fun c_87 => ?_) (fun c_87 => ?_)
          · skip
            have hz_89 : (r_82 : Int32).toInt = 0 := by
              have z_1 := Int32.lt_iff_toInt_lt.mp (Int32.not_le.mp c_50)
              have z_2 : ¬ (r_70 : Int32).toInt = (0 : Int32).toInt := fun z => c_75 (Int32.toInt_inj.mp z)
              have z_3 := congrArg Int32.toInt c_87
              have y_0 : (0 : Int32).toInt = 0 := by decide
              have y_400 : (400 : Int32).toInt = 400 := by decide
              omega
            obtain pf_88 := hm_86 hz_89
            have pf_88 : NWd (cB (Tf 1) (Tv 0)) (wS (6 : Nat)) rq_44 := pf_88
            refine lv_aload_n hx hb dX7_readTest_60 rfl (lv_at hl 4 rfl) ?_
            refine cV (a := (Ta 0)) (As := []) (rest := []) (wr := [((Va 0), .inr (7, [.ref (Va 1), .int vy_28, .int vy_29])), ((Va 1), .inl (tc 0, 400, .inl vy_30))]) ⟨hx, hb, hml, hown, hts⟩ hK hX hA (cu_fX10_step l D tc sk (Ta 0) (Ta 1) (Tv 0) vy_31 vy_32 vy_33 vy_34 (Tf 1) (rTE (cB (Tf 1) (Tv 0)) rq_44) pf_40 h_by tb_49) k_478 k_620 k_476 k_477 k_96 pl_X10_step ⟨Nat.le_of_ble_eq_true rfl, Nat.le_of_ble_eq_true rfl⟩ rfl rfl (va_recv hK hP (ci := 10) (q0 := 2) rfl rfl) hP hD hS [2, 3] [0, 1] rfl rfl rfl rfl rfl (by decide) rfl hl.1 rfl (Nat.le_of_ble_eq_true rfl) dX7_readTest_61 ⟨Nat.le_of_ble_eq_true rfl, Nat.le_of_ble_eq_true rfl⟩ (fun v_90 u_91 H locs hv_92 hP₀ hD₀ hS₀ => ?_)
            obtain ⟨sv_93, sv_94, sv_95⟩ := u_91
            obtain ⟨rfl, pf_96, pf_97⟩ := hv_92
            have pf_96 : 0 ≤ ((Tv 0) : Int32).toInt ∧ ((Tv 0) : Int32).toInt ≤ 400 ∧ 0 ≤ (sv_93 : Int32).toInt ∧ (sv_93 : Int32).toInt ≤ 400 ∧ 0 ≤ (sv_94 : Int32).toInt ∧ (sv_94 : Int32).toInt ≤ 400 := pf_96
            have pf_97 : TpR (Tf 1) (Tv 0) (rSK (cB (Tf 1) (Tv 0)) (rTE (cB (Tf 1) (Tv 0)) rq_44)) sv_93 sv_94 sv_95 vy_34 := pf_97
            rw [rNX_eq] at pf_97
            obtain ⟨ro_98, ero_98⟩ : ∃ z : Except Int (Nat × Nat), z = (rNX (cB (Tf 1) (Tv 0)) rq_44) := ⟨_, rfl⟩
            rw [← ero_98] at pf_97
            have tb_99 : TpB (rTE (cB (Tf 1) (Tv 0)) ro_98) sv_94 vy_34 := TpR.tb pf_97
            have cd_100 : Ctd ro_98 vy_29 := by rw [ero_98]; exact (Ctd.nx pf_46)
            refine W.eq (g2 := F0 m 64 ls []) rfl ?_
            replace hP : va_P D classes [((Va 0), .inr (7, [.ref (Va 1), .int vy_28, .int vy_29])), ((Va 1), .inl (tc 0, 400, .inl vy_30)), ((Ta 0), .inr (10, [.ref (Ta 1), .int (Tv 0), .int sv_93, .int sv_94, .int sv_95, .int vy_34])), ((Ta 1), .inl (tc 0, 400, .inl (Tf 1)))] H := hP₀
            replace hD : va_D A [((Va 0), .inr (7, [.ref (Va 1), .int vy_28, .int vy_29])), ((Va 1), .inl (tc 0, 400, .inl vy_30)), ((Ta 0), .inr (10, [.ref (Ta 1), .int (Tv 0), .int sv_93, .int sv_94, .int sv_95, .int vy_34])), ((Ta 1), .inl (tc 0, 400, .inl (Tf 1)))] := hD₀
            replace hS := hS₀
            clear hP₀ hD₀ hS₀
            refine lv_aload_n hx hb dX7_readTest_64 rfl (lv_at hl 3 rfl) ?_
            refine lv_aload_n hx hb dX7_readTest_65 rfl (lv_at hl 4 rfl) ?_
            refine lv_iload_n hx hb dX7_readTest_66 rfl (lv_at hl 5 rfl) ?_
            refine cV (a := (Va 0)) (As := [.ref (Ta 0), .int 4]) (rest := []) (wr := []) ⟨hx, hb, hml, hown, hts⟩ hK hX hA (cu_fX7_readFact_4 l D tc sk (Va 0) (Va 1) vy_28 vy_29 vy_30 (Ta 0) (Ta 1) (Tv 0) sv_93 sv_94 sv_95 vy_34 (Tf 1) ro_98 pf_96 pf_41 h_by pf_97 cd_100) k_659 k_656 k_658 k_12 k_99 pl_X7_readFact ⟨Nat.le_of_ble_eq_true rfl, Nat.le_of_ble_eq_true rfl⟩ rfl rfl (va_recv hK hP (ci := 7) (q0 := 0) rfl rfl) hP hD hS [0, 1, 2, 3] [] rfl rfl rfl rfl rfl (by decide) rfl hl.1 rfl (Nat.le_of_ble_eq_true rfl) dX7_readTest_67 ⟨Nat.le_of_ble_eq_true rfl, Nat.le_of_ble_eq_true rfl⟩ (fun v_101 u_102 H locs hv_103 hP₀ hD₀ hS₀ => ?_)
            obtain ⟨sv_104, sv_105, sv_106, sv_107, sv_108, sv_109, sv_110⟩ := u_102
            obtain ⟨rfl, pf_111, pf_112, pf_113, pf_114⟩ := hv_103
            have pf_111 : 0 ≤ ((Tv 0) : Int32).toInt ∧ ((Tv 0) : Int32).toInt ≤ 400 ∧ 0 ≤ (sv_107 : Int32).toInt ∧ (sv_107 : Int32).toInt ≤ 400 ∧ 0 ≤ (sv_108 : Int32).toInt ∧ (sv_108 : Int32).toInt ≤ 400 := pf_111
            have pf_112 : 0 ≤ (sv_104 : Int32).toInt ∧ (sv_104 : Int32).toInt ≤ 400 := pf_112
            have pf_113 : TpR (Tf 1) (Tv 0) (pz_b ro_98 (pz_fact (cB (Tf 1) (Tv 0)) 6)) sv_107 sv_108 sv_109 sv_110 := pf_113
            obtain ⟨ro_115, ero_115⟩ : ∃ z : Except Int (Nat × Nat), z = (pz_b ro_98 (pz_fact (cB (Tf 1) (Tv 0)) 6)) := ⟨_, rfl⟩
            rw [← ero_115] at pf_113
            have tb_116 : TpB (rTE (cB (Tf 1) (Tv 0)) ro_115) sv_108 sv_110 := TpR.tb pf_113
            have pf_114 : Ctd (pz_b ro_98 (pz_fact (cB (Tf 1) (Tv 0)) 6)) sv_105 := pf_114
            rw [← ero_115] at pf_114
            refine W.eq (g2 := F0 m 70 ls []) rfl ?_
            replace hP : va_P D classes [((Va 0), .inr (7, [.ref (Va 1), .int sv_104, .int sv_105])), ((Va 1), .inl (tc 0, 400, .inl sv_106)), ((Ta 0), .inr (10, [.ref (Ta 1), .int (Tv 0), .int sv_107, .int sv_108, .int sv_109, .int sv_110])), ((Ta 1), .inl (tc 0, 400, .inl (Tf 1)))] H := hP₀
            replace hD : va_D A [((Va 0), .inr (7, [.ref (Va 1), .int sv_104, .int sv_105])), ((Va 1), .inl (tc 0, 400, .inl sv_106)), ((Ta 0), .inr (10, [.ref (Ta 1), .int (Tv 0), .int sv_107, .int sv_108, .int sv_109, .int sv_110])), ((Ta 1), .inl (tc 0, 400, .inl (Tf 1)))] := hD₀
            replace hS := hS₀
            clear hP₀ hD₀ hS₀
            refine lv_iload hx hb dX7_readTest_70 (lv_at hl 0 rfl) ?_
            refine lv_if_eq (tgt := 80) hx hb dX7_readTest_72 (by decide) (fun c_117 => ?_) (fun c_117 => ?_)
            · skip
              refine lv_aload_n hx hb dX7_readTest_80 rfl (lv_at hl 3 rfl) ?_
              refine lv_bipush (v := (-5)) hx hb dX7_readTest_81 (by decide) ?_
              refine cV (a := (Va 0)) (As := [.int (-5)]) (rest := []) (wr := [((Ta 0), .inr (10, [.ref (Ta 1), .int (Tv 0), .int sv_107, .int sv_108, .int sv_109, .int sv_110])), ((Ta 1), .inl (tc 0, 400, .inl (Tf 1)))]) ⟨hx, hb, hml, hown, hts⟩ hK hX hA (cu_fX7_put l D tc sk (Va 0) (Va 1) sv_104 sv_105 sv_106 (-5) pf_112) k_642 k_639 k_641 k_10 k_99 pl_X7_put ⟨Nat.le_of_ble_eq_true rfl, Nat.le_of_ble_eq_true rfl⟩ rfl rfl (va_recv hK hP (ci := 7) (q0 := 0) rfl rfl) hP hD hS [0, 1] [2, 3] rfl rfl rfl rfl rfl (by decide) rfl hl.1 rfl (Nat.le_of_ble_eq_true rfl) dX7_readTest_83 ⟨Nat.le_of_ble_eq_true rfl, Nat.le_of_ble_eq_true rfl⟩ (fun v_118 u_119 H locs hv_120 hP₀ hD₀ hS₀ => ?_)
              obtain ⟨sv_121, sv_122⟩ := u_119
              obtain ⟨rfl, pf_123⟩ := hv_120
              have pf_123 : 0 ≤ (sv_121 : Int32).toInt ∧ (sv_121 : Int32).toInt ≤ 400 := pf_123
              refine W.eq (g2 := F0 m 86 ls []) rfl ?_
              replace hP : va_P D classes [((Ta 0), .inr (10, [.ref (Ta 1), .int (Tv 0), .int sv_107, .int sv_108, .int sv_109, .int sv_110])), ((Ta 1), .inl (tc 0, 400, .inl (Tf 1))), ((Va 0), .inr (7, [.ref (Va 1), .int sv_121, .int sv_105])), ((Va 1), .inl (tc 0, 400, .inl sv_122))] H := hP₀
              replace hD : va_D A [((Ta 0), .inr (10, [.ref (Ta 1), .int (Tv 0), .int sv_107, .int sv_108, .int sv_109, .int sv_110])), ((Ta 1), .inl (tc 0, 400, .inl (Tf 1))), ((Va 0), .inr (7, [.ref (Va 1), .int sv_121, .int sv_105])), ((Va 1), .inl (tc 0, 400, .inl sv_122))] := hD₀
              replace hS := hS₀
              clear hP₀ hD₀ hS₀
              obtain ⟨x_124, ex_124⟩ : ∃ y : Int32, y = vy_27 + 1 := ⟨_, rfl⟩
              refine lv_iinc (v := x_124) (lv' := [(4, .int x_124), (5, .int r_82), (3, .int vy_35), (0, .ref (Va 0)), (1, .ref (Ta 0)), (2, .int 4)]) hx hb dX7_readTest_86 hl (k := 1) rfl (by rw [ex_124]; rfl) (by decide) rfl (fun ls hl₀ => ?_)
              replace hl := hl₀
              clear hl₀
              refine lv_goto (tgt := 11) hx hb dX7_readTest_89 (by decide) ?_
              have hb_125 : 401 - (x_124 : Int32).toInt < 401 - (vy_27 : Int32).toInt ∧ 1 ≤ 401 - (vy_27 : Int32).toInt := by
                have z_1 := Int32.lt_iff_toInt_lt.mp (Int32.not_le.mp c_50)
                have z_2 : ¬ (r_70 : Int32).toInt = (0 : Int32).toInt := fun z => c_75 (Int32.toInt_inj.mp z)
                have z_3 := congrArg Int32.toInt c_87
                have z_4 := congrArg Int32.toInt c_117
                have y_0 : (0 : Int32).toInt = 0 := by decide
                have y_400 : (400 : Int32).toInt = 400 := by decide
                have y_1 : (1 : Int32).toInt = 1 := by decide
                have t_x_124 : x_124.toInt = (vy_27 : Int32).toInt + (1 : Int32).toInt := by rw [ex_124]; exact add_toInt (by omega) (by omega)
                omega
              have ha_126 : 0 ≤ (x_124 : Int32).toInt ∧ (x_124 : Int32).toInt ≤ 400 := by
                have z_1 := Int32.lt_iff_toInt_lt.mp (Int32.not_le.mp c_50)
                have z_2 : ¬ (r_70 : Int32).toInt = (0 : Int32).toInt := fun z => c_75 (Int32.toInt_inj.mp z)
                have z_3 := congrArg Int32.toInt c_87
                have z_4 := congrArg Int32.toInt c_117
                have y_0 : (0 : Int32).toInt = 0 := by decide
                have y_400 : (400 : Int32).toInt = 400 := by decide
                have y_1 : (1 : Int32).toInt = 1 := by decide
                have t_x_124 : x_124.toInt = (vy_27 : Int32).toInt + (1 : Int32).toInt := by rw [ex_124]; exact add_toInt (by omega) (by omega)
                omega
              have hu_127 : TpR (Tf 1) (Tv 0) (pz_b (rNX (cB (Tf 1) (Tv 0)) rq_44) (pz_fact (cB (Tf 1) (Tv 0)) 6)) sv_107 sv_108 sv_109 sv_110 := by
                rw [← ero_98, ← ero_115]
                exact pf_113
              have hu_128 : Ctd (pz_b (rNX (cB (Tf 1) (Tv 0)) rq_44) (pz_fact (cB (Tf 1) (Tv 0)) 6)) sv_105 := by
                rw [← ero_98, ← ero_115]
                exact pf_114
              have hw_129 : TWd (cB (Tf 1) (Tv 0)) pz_and rq_44 := by
                rw [← wS5]
                exact pf_76
              have hi_130 : (x_124 : Int32).toInt = (vy_27 : Int32).toInt + 1 := by
                have z_1 := Int32.lt_iff_toInt_lt.mp (Int32.not_le.mp c_50)
                have z_2 : ¬ (r_70 : Int32).toInt = (0 : Int32).toInt := fun z => c_75 (Int32.toInt_inj.mp z)
                have z_3 := congrArg Int32.toInt c_87
                have z_4 := congrArg Int32.toInt c_117
                have y_0 : (0 : Int32).toInt = 0 := by decide
                have y_400 : (400 : Int32).toInt = 400 := by decide
                have y_1 : (1 : Int32).toInt = 1 := by decide
                have t_x_124 : x_124.toInt = (vy_27 : Int32).toInt + (1 : Int32).toInt := by rw [ex_124]; exact add_toInt (by omega) (by omega)
                omega
              exact ih_37 x_124 sv_121 sv_105 sv_122 sv_107 sv_108 sv_109 sv_110 vy_35 _ _ _ (by omega) ha_126 pf_111 pf_123 (TeL.next h_tape.2.1 pf_47 pf_48 (Or.inl hw_129) hu_127 hu_128 hi_130) (hP.sub [2, 3, 0, 1] rfl) (hD.sub [2, 3, 0, 1] rfl rfl) hS (lv_sub hl [0, 2, 3, 4, 5] rfl)
            · skip
              exfalso
              have z_1 := Int32.lt_iff_toInt_lt.mp (Int32.not_le.mp c_50)
              have z_2 : ¬ (r_70 : Int32).toInt = (0 : Int32).toInt := fun z => c_75 (Int32.toInt_inj.mp z)
              have z_3 := congrArg Int32.toInt c_87
              have z_4 : ¬ (r_82 : Int32).toInt = (0 : Int32).toInt := fun z => c_117 (Int32.toInt_inj.mp z)
              have y_0 : (0 : Int32).toInt = 0 := by decide
              have y_400 : (400 : Int32).toInt = 400 := by decide
              omega
          · skip
            have hz_132 : (r_82 : Int32).toInt = 1 := by
              have z_1 := Int32.lt_iff_toInt_lt.mp (Int32.not_le.mp c_50)
              have z_2 : ¬ (r_70 : Int32).toInt = (0 : Int32).toInt := fun z => c_75 (Int32.toInt_inj.mp z)
              have z_3 : ¬ (r_82 : Int32).toInt = (0 : Int32).toInt := fun z => c_87 (Int32.toInt_inj.mp z)
              have y_0 : (0 : Int32).toInt = 0 := by decide
              have y_400 : (400 : Int32).toInt = 400 := by decide
              omega
            obtain pf_131 := hm_85 hz_132
            have pf_131 : TWd (cB (Tf 1) (Tv 0)) (wS (6 : Nat)) rq_44 := pf_131
            refine lv_iload_n hx hb dX7_readTest_50 rfl (lv_at hl 2 rfl) ?_
            refine lv_if_eq (tgt := 60) hx hb dX7_readTest_51 (by decide) (fun c_133 => ?_) (fun c_133 => ?_)
            · skip
              refine lv_aload_n hx hb dX7_readTest_60 rfl (lv_at hl 4 rfl) ?_
              refine cV (a := (Ta 0)) (As := []) (rest := []) (wr := [((Va 0), .inr (7, [.ref (Va 1), .int vy_28, .int vy_29])), ((Va 1), .inl (tc 0, 400, .inl vy_30))]) ⟨hx, hb, hml, hown, hts⟩ hK hX hA (cu_fX10_step l D tc sk (Ta 0) (Ta 1) (Tv 0) vy_31 vy_32 vy_33 vy_34 (Tf 1) (rTE (cB (Tf 1) (Tv 0)) rq_44) pf_40 h_by tb_49) k_478 k_620 k_476 k_477 k_96 pl_X10_step ⟨Nat.le_of_ble_eq_true rfl, Nat.le_of_ble_eq_true rfl⟩ rfl rfl (va_recv hK hP (ci := 10) (q0 := 2) rfl rfl) hP hD hS [2, 3] [0, 1] rfl rfl rfl rfl rfl (by decide) rfl hl.1 rfl (Nat.le_of_ble_eq_true rfl) dX7_readTest_61 ⟨Nat.le_of_ble_eq_true rfl, Nat.le_of_ble_eq_true rfl⟩ (fun v_134 u_135 H locs hv_136 hP₀ hD₀ hS₀ => ?_)
              obtain ⟨sv_137, sv_138, sv_139⟩ := u_135
              obtain ⟨rfl, pf_140, pf_141⟩ := hv_136
              have pf_140 : 0 ≤ ((Tv 0) : Int32).toInt ∧ ((Tv 0) : Int32).toInt ≤ 400 ∧ 0 ≤ (sv_137 : Int32).toInt ∧ (sv_137 : Int32).toInt ≤ 400 ∧ 0 ≤ (sv_138 : Int32).toInt ∧ (sv_138 : Int32).toInt ≤ 400 := pf_140
              have pf_141 : TpR (Tf 1) (Tv 0) (rSK (cB (Tf 1) (Tv 0)) (rTE (cB (Tf 1) (Tv 0)) rq_44)) sv_137 sv_138 sv_139 vy_34 := pf_141
              rw [rNX_eq] at pf_141
              obtain ⟨ro_142, ero_142⟩ : ∃ z : Except Int (Nat × Nat), z = (rNX (cB (Tf 1) (Tv 0)) rq_44) := ⟨_, rfl⟩
              rw [← ero_142] at pf_141
              have tb_143 : TpB (rTE (cB (Tf 1) (Tv 0)) ro_142) sv_138 vy_34 := TpR.tb pf_141
              have cd_144 : Ctd ro_142 vy_29 := by rw [ero_142]; exact (Ctd.nx pf_46)
              refine W.eq (g2 := F0 m 64 ls []) rfl ?_
              replace hP : va_P D classes [((Va 0), .inr (7, [.ref (Va 1), .int vy_28, .int vy_29])), ((Va 1), .inl (tc 0, 400, .inl vy_30)), ((Ta 0), .inr (10, [.ref (Ta 1), .int (Tv 0), .int sv_137, .int sv_138, .int sv_139, .int vy_34])), ((Ta 1), .inl (tc 0, 400, .inl (Tf 1)))] H := hP₀
              replace hD : va_D A [((Va 0), .inr (7, [.ref (Va 1), .int vy_28, .int vy_29])), ((Va 1), .inl (tc 0, 400, .inl vy_30)), ((Ta 0), .inr (10, [.ref (Ta 1), .int (Tv 0), .int sv_137, .int sv_138, .int sv_139, .int vy_34])), ((Ta 1), .inl (tc 0, 400, .inl (Tf 1)))] := hD₀
              replace hS := hS₀
              clear hP₀ hD₀ hS₀
              refine lv_aload_n hx hb dX7_readTest_64 rfl (lv_at hl 3 rfl) ?_
              refine lv_aload_n hx hb dX7_readTest_65 rfl (lv_at hl 4 rfl) ?_
              refine lv_iload_n hx hb dX7_readTest_66 rfl (lv_at hl 5 rfl) ?_
              refine cV (a := (Va 0)) (As := [.ref (Ta 0), .int 4]) (rest := []) (wr := []) ⟨hx, hb, hml, hown, hts⟩ hK hX hA (cu_fX7_readFact_4 l D tc sk (Va 0) (Va 1) vy_28 vy_29 vy_30 (Ta 0) (Ta 1) (Tv 0) sv_137 sv_138 sv_139 vy_34 (Tf 1) ro_142 pf_140 pf_41 h_by pf_141 cd_144) k_659 k_656 k_658 k_12 k_99 pl_X7_readFact ⟨Nat.le_of_ble_eq_true rfl, Nat.le_of_ble_eq_true rfl⟩ rfl rfl (va_recv hK hP (ci := 7) (q0 := 0) rfl rfl) hP hD hS [0, 1, 2, 3] [] rfl rfl rfl rfl rfl (by decide) rfl hl.1 rfl (Nat.le_of_ble_eq_true rfl) dX7_readTest_67 ⟨Nat.le_of_ble_eq_true rfl, Nat.le_of_ble_eq_true rfl⟩ (fun v_145 u_146 H locs hv_147 hP₀ hD₀ hS₀ => ?_)
              obtain ⟨sv_148, sv_149, sv_150, sv_151, sv_152, sv_153, sv_154⟩ := u_146
              obtain ⟨rfl, pf_155, pf_156, pf_157, pf_158⟩ := hv_147
              have pf_155 : 0 ≤ ((Tv 0) : Int32).toInt ∧ ((Tv 0) : Int32).toInt ≤ 400 ∧ 0 ≤ (sv_151 : Int32).toInt ∧ (sv_151 : Int32).toInt ≤ 400 ∧ 0 ≤ (sv_152 : Int32).toInt ∧ (sv_152 : Int32).toInt ≤ 400 := pf_155
              have pf_156 : 0 ≤ (sv_148 : Int32).toInt ∧ (sv_148 : Int32).toInt ≤ 400 := pf_156
              have pf_157 : TpR (Tf 1) (Tv 0) (pz_b ro_142 (pz_fact (cB (Tf 1) (Tv 0)) 6)) sv_151 sv_152 sv_153 sv_154 := pf_157
              obtain ⟨ro_159, ero_159⟩ : ∃ z : Except Int (Nat × Nat), z = (pz_b ro_142 (pz_fact (cB (Tf 1) (Tv 0)) 6)) := ⟨_, rfl⟩
              rw [← ero_159] at pf_157
              have tb_160 : TpB (rTE (cB (Tf 1) (Tv 0)) ro_159) sv_152 sv_154 := TpR.tb pf_157
              have pf_158 : Ctd (pz_b ro_142 (pz_fact (cB (Tf 1) (Tv 0)) 6)) sv_149 := pf_158
              rw [← ero_159] at pf_158
              refine W.eq (g2 := F0 m 70 ls []) rfl ?_
              replace hP : va_P D classes [((Va 0), .inr (7, [.ref (Va 1), .int sv_148, .int sv_149])), ((Va 1), .inl (tc 0, 400, .inl sv_150)), ((Ta 0), .inr (10, [.ref (Ta 1), .int (Tv 0), .int sv_151, .int sv_152, .int sv_153, .int sv_154])), ((Ta 1), .inl (tc 0, 400, .inl (Tf 1)))] H := hP₀
              replace hD : va_D A [((Va 0), .inr (7, [.ref (Va 1), .int sv_148, .int sv_149])), ((Va 1), .inl (tc 0, 400, .inl sv_150)), ((Ta 0), .inr (10, [.ref (Ta 1), .int (Tv 0), .int sv_151, .int sv_152, .int sv_153, .int sv_154])), ((Ta 1), .inl (tc 0, 400, .inl (Tf 1)))] := hD₀
              replace hS := hS₀
              clear hP₀ hD₀ hS₀
              refine lv_iload hx hb dX7_readTest_70 (lv_at hl 0 rfl) ?_
              refine lv_if_eq (tgt := 80) hx hb dX7_readTest_72 (by decide) (fun c_161 => ?_) (fun c_161 => ?_)
              · skip
                exfalso
                have z_1 := Int32.lt_iff_toInt_lt.mp (Int32.not_le.mp c_50)
                have z_2 : ¬ (r_70 : Int32).toInt = (0 : Int32).toInt := fun z => c_75 (Int32.toInt_inj.mp z)
                have z_3 : ¬ (r_82 : Int32).toInt = (0 : Int32).toInt := fun z => c_87 (Int32.toInt_inj.mp z)
                have z_4 := congrArg Int32.toInt c_133
                have z_5 := congrArg Int32.toInt c_161
                have y_0 : (0 : Int32).toInt = 0 := by decide
                have y_400 : (400 : Int32).toInt = 400 := by decide
                omega
              · skip
                refine lv_iconst (v := 1) hx hb dX7_readTest_75 (by decide) ?_
                refine lv_istore_n (lv' := [(3, .int 1), (5, .int r_82), (4, .int vy_27), (0, .ref (Va 0)), (1, .ref (Ta 0)), (2, .int 4)]) hx hb dX7_readTest_76 rfl hl (by decide) rfl (fun ls hl₀ => ?_)
                replace hl := hl₀
                clear hl₀
                refine lv_goto (tgt := 86) hx hb dX7_readTest_77 (by decide) ?_
                obtain ⟨x_162, ex_162⟩ : ∃ y : Int32, y = vy_27 + 1 := ⟨_, rfl⟩
                refine lv_iinc (v := x_162) (lv' := [(4, .int x_162), (3, .int 1), (5, .int r_82), (0, .ref (Va 0)), (1, .ref (Ta 0)), (2, .int 4)]) hx hb dX7_readTest_86 hl (k := 2) rfl (by rw [ex_162]; rfl) (by decide) rfl (fun ls hl₀ => ?_)
                replace hl := hl₀
                clear hl₀
                refine lv_goto (tgt := 11) hx hb dX7_readTest_89 (by decide) ?_
                have hb_163 : 401 - (x_162 : Int32).toInt < 401 - (vy_27 : Int32).toInt ∧ 1 ≤ 401 - (vy_27 : Int32).toInt := by
                  have z_1 := Int32.lt_iff_toInt_lt.mp (Int32.not_le.mp c_50)
                  have z_2 : ¬ (r_70 : Int32).toInt = (0 : Int32).toInt := fun z => c_75 (Int32.toInt_inj.mp z)
                  have z_3 : ¬ (r_82 : Int32).toInt = (0 : Int32).toInt := fun z => c_87 (Int32.toInt_inj.mp z)
                  have z_4 := congrArg Int32.toInt c_133
                  have z_5 : ¬ (r_82 : Int32).toInt = (0 : Int32).toInt := fun z => c_161 (Int32.toInt_inj.mp z)
                  have y_0 : (0 : Int32).toInt = 0 := by decide
                  have y_400 : (400 : Int32).toInt = 400 := by decide
                  have y_1 : (1 : Int32).toInt = 1 := by decide
                  have t_x_162 : x_162.toInt = (vy_27 : Int32).toInt + (1 : Int32).toInt := by rw [ex_162]; exact add_toInt (by omega) (by omega)
                  omega
                have ha_164 : 0 ≤ (x_162 : Int32).toInt ∧ (x_162 : Int32).toInt ≤ 400 := by
                  have z_1 := Int32.lt_iff_toInt_lt.mp (Int32.not_le.mp c_50)
                  have z_2 : ¬ (r_70 : Int32).toInt = (0 : Int32).toInt := fun z => c_75 (Int32.toInt_inj.mp z)
                  have z_3 : ¬ (r_82 : Int32).toInt = (0 : Int32).toInt := fun z => c_87 (Int32.toInt_inj.mp z)
                  have z_4 := congrArg Int32.toInt c_133
                  have z_5 : ¬ (r_82 : Int32).toInt = (0 : Int32).toInt := fun z => c_161 (Int32.toInt_inj.mp z)
                  have y_0 : (0 : Int32).toInt = 0 := by decide
                  have y_400 : (400 : Int32).toInt = 400 := by decide
                  have y_1 : (1 : Int32).toInt = 1 := by decide
                  have t_x_162 : x_162.toInt = (vy_27 : Int32).toInt + (1 : Int32).toInt := by rw [ex_162]; exact add_toInt (by omega) (by omega)
                  omega
                have hu_165 : TpR (Tf 1) (Tv 0) (pz_b (rNX (cB (Tf 1) (Tv 0)) rq_44) (pz_fact (cB (Tf 1) (Tv 0)) 6)) sv_151 sv_152 sv_153 sv_154 := by
                  rw [← ero_142, ← ero_159]
                  exact pf_157
                have hu_166 : Ctd (pz_b (rNX (cB (Tf 1) (Tv 0)) rq_44) (pz_fact (cB (Tf 1) (Tv 0)) 6)) sv_149 := by
                  rw [← ero_142, ← ero_159]
                  exact pf_158
                have hw_167 : TWd (cB (Tf 1) (Tv 0)) pz_and rq_44 := by
                  rw [← wS5]
                  exact pf_76
                have hi_168 : (x_162 : Int32).toInt = (vy_27 : Int32).toInt + 1 := by
                  have z_1 := Int32.lt_iff_toInt_lt.mp (Int32.not_le.mp c_50)
                  have z_2 : ¬ (r_70 : Int32).toInt = (0 : Int32).toInt := fun z => c_75 (Int32.toInt_inj.mp z)
                  have z_3 : ¬ (r_82 : Int32).toInt = (0 : Int32).toInt := fun z => c_87 (Int32.toInt_inj.mp z)
                  have z_4 := congrArg Int32.toInt c_133
                  have z_5 : ¬ (r_82 : Int32).toInt = (0 : Int32).toInt := fun z => c_161 (Int32.toInt_inj.mp z)
                  have y_0 : (0 : Int32).toInt = 0 := by decide
                  have y_400 : (400 : Int32).toInt = 400 := by decide
                  have y_1 : (1 : Int32).toInt = 1 := by decide
                  have t_x_162 : x_162.toInt = (vy_27 : Int32).toInt + (1 : Int32).toInt := by rw [ex_162]; exact add_toInt (by omega) (by omega)
                  omega
                exact ih_37 x_162 sv_148 sv_149 sv_150 sv_151 sv_152 sv_153 sv_154 1 _ _ _ (by omega) ha_164 pf_155 pf_156 (TeL.next h_tape.2.1 pf_47 pf_48 (Or.inl hw_167) hu_165 hu_166 hi_168) (hP.sub [0, 1, 2, 3] rfl) (hD.sub [0, 1, 2, 3] rfl rfl) hS (lv_sub hl [0, 1, 3, 4, 5] rfl)
            · skip
              refine lv_aload_n hx hb dX7_readTest_54 rfl (lv_at hl 3 rfl) ?_
              refine lv_bipush (v := (-6)) hx hb dX7_readTest_55 (by decide) ?_
              refine cV (a := (Va 0)) (As := [.int (-6)]) (rest := []) (wr := [((Ta 0), .inr (10, [.ref (Ta 1), .int (Tv 0), .int vy_31, .int vy_32, .int vy_33, .int vy_34])), ((Ta 1), .inl (tc 0, 400, .inl (Tf 1)))]) ⟨hx, hb, hml, hown, hts⟩ hK hX hA (cu_fX7_put l D tc sk (Va 0) (Va 1) vy_28 vy_29 vy_30 (-6) pf_41) k_642 k_639 k_641 k_10 k_99 pl_X7_put ⟨Nat.le_of_ble_eq_true rfl, Nat.le_of_ble_eq_true rfl⟩ rfl rfl (va_recv hK hP (ci := 7) (q0 := 0) rfl rfl) hP hD hS [0, 1] [2, 3] rfl rfl rfl rfl rfl (by decide) rfl hl.1 rfl (Nat.le_of_ble_eq_true rfl) dX7_readTest_57 ⟨Nat.le_of_ble_eq_true rfl, Nat.le_of_ble_eq_true rfl⟩ (fun v_169 u_170 H locs hv_171 hP₀ hD₀ hS₀ => ?_)
              obtain ⟨sv_172, sv_173⟩ := u_170
              obtain ⟨rfl, pf_174⟩ := hv_171
              have pf_174 : 0 ≤ (sv_172 : Int32).toInt ∧ (sv_172 : Int32).toInt ≤ 400 := pf_174
              refine W.eq (g2 := F0 m 60 ls []) rfl ?_
              replace hP : va_P D classes [((Ta 0), .inr (10, [.ref (Ta 1), .int (Tv 0), .int vy_31, .int vy_32, .int vy_33, .int vy_34])), ((Ta 1), .inl (tc 0, 400, .inl (Tf 1))), ((Va 0), .inr (7, [.ref (Va 1), .int sv_172, .int vy_29])), ((Va 1), .inl (tc 0, 400, .inl sv_173))] H := hP₀
              replace hD : va_D A [((Ta 0), .inr (10, [.ref (Ta 1), .int (Tv 0), .int vy_31, .int vy_32, .int vy_33, .int vy_34])), ((Ta 1), .inl (tc 0, 400, .inl (Tf 1))), ((Va 0), .inr (7, [.ref (Va 1), .int sv_172, .int vy_29])), ((Va 1), .inl (tc 0, 400, .inl sv_173))] := hD₀
              replace hS := hS₀
              clear hP₀ hD₀ hS₀
              refine lv_aload_n hx hb dX7_readTest_60 rfl (lv_at hl 4 rfl) ?_
              refine cV (a := (Ta 0)) (As := []) (rest := []) (wr := [((Va 0), .inr (7, [.ref (Va 1), .int sv_172, .int vy_29])), ((Va 1), .inl (tc 0, 400, .inl sv_173))]) ⟨hx, hb, hml, hown, hts⟩ hK hX hA (cu_fX10_step l D tc sk (Ta 0) (Ta 1) (Tv 0) vy_31 vy_32 vy_33 vy_34 (Tf 1) (rTE (cB (Tf 1) (Tv 0)) rq_44) pf_40 h_by tb_49) k_478 k_620 k_476 k_477 k_96 pl_X10_step ⟨Nat.le_of_ble_eq_true rfl, Nat.le_of_ble_eq_true rfl⟩ rfl rfl (va_recv hK hP (ci := 10) (q0 := 0) rfl rfl) hP hD hS [0, 1] [2, 3] rfl rfl rfl rfl rfl (by decide) rfl hl.1 rfl (Nat.le_of_ble_eq_true rfl) dX7_readTest_61 ⟨Nat.le_of_ble_eq_true rfl, Nat.le_of_ble_eq_true rfl⟩ (fun v_175 u_176 H locs hv_177 hP₀ hD₀ hS₀ => ?_)
              obtain ⟨sv_178, sv_179, sv_180⟩ := u_176
              obtain ⟨rfl, pf_181, pf_182⟩ := hv_177
              have pf_181 : 0 ≤ ((Tv 0) : Int32).toInt ∧ ((Tv 0) : Int32).toInt ≤ 400 ∧ 0 ≤ (sv_178 : Int32).toInt ∧ (sv_178 : Int32).toInt ≤ 400 ∧ 0 ≤ (sv_179 : Int32).toInt ∧ (sv_179 : Int32).toInt ≤ 400 := pf_181
              have pf_182 : TpR (Tf 1) (Tv 0) (rSK (cB (Tf 1) (Tv 0)) (rTE (cB (Tf 1) (Tv 0)) rq_44)) sv_178 sv_179 sv_180 vy_34 := pf_182
              rw [rNX_eq] at pf_182
              obtain ⟨ro_183, ero_183⟩ : ∃ z : Except Int (Nat × Nat), z = (rNX (cB (Tf 1) (Tv 0)) rq_44) := ⟨_, rfl⟩
              rw [← ero_183] at pf_182
              have tb_184 : TpB (rTE (cB (Tf 1) (Tv 0)) ro_183) sv_179 vy_34 := TpR.tb pf_182
              have cd_185 : Ctd ro_183 vy_29 := by rw [ero_183]; exact (Ctd.nx pf_46)
              refine W.eq (g2 := F0 m 64 ls []) rfl ?_
              replace hP : va_P D classes [((Va 0), .inr (7, [.ref (Va 1), .int sv_172, .int vy_29])), ((Va 1), .inl (tc 0, 400, .inl sv_173)), ((Ta 0), .inr (10, [.ref (Ta 1), .int (Tv 0), .int sv_178, .int sv_179, .int sv_180, .int vy_34])), ((Ta 1), .inl (tc 0, 400, .inl (Tf 1)))] H := hP₀
              replace hD : va_D A [((Va 0), .inr (7, [.ref (Va 1), .int sv_172, .int vy_29])), ((Va 1), .inl (tc 0, 400, .inl sv_173)), ((Ta 0), .inr (10, [.ref (Ta 1), .int (Tv 0), .int sv_178, .int sv_179, .int sv_180, .int vy_34])), ((Ta 1), .inl (tc 0, 400, .inl (Tf 1)))] := hD₀
              replace hS := hS₀
              clear hP₀ hD₀ hS₀
              refine lv_aload_n hx hb dX7_readTest_64 rfl (lv_at hl 3 rfl) ?_
              refine lv_aload_n hx hb dX7_readTest_65 rfl (lv_at hl 4 rfl) ?_
              refine lv_iload_n hx hb dX7_readTest_66 rfl (lv_at hl 5 rfl) ?_
              refine cV (a := (Va 0)) (As := [.ref (Ta 0), .int 4]) (rest := []) (wr := []) ⟨hx, hb, hml, hown, hts⟩ hK hX hA (cu_fX7_readFact_4 l D tc sk (Va 0) (Va 1) sv_172 vy_29 sv_173 (Ta 0) (Ta 1) (Tv 0) sv_178 sv_179 sv_180 vy_34 (Tf 1) ro_183 pf_181 pf_174 h_by pf_182 cd_185) k_659 k_656 k_658 k_12 k_99 pl_X7_readFact ⟨Nat.le_of_ble_eq_true rfl, Nat.le_of_ble_eq_true rfl⟩ rfl rfl (va_recv hK hP (ci := 7) (q0 := 0) rfl rfl) hP hD hS [0, 1, 2, 3] [] rfl rfl rfl rfl rfl (by decide) rfl hl.1 rfl (Nat.le_of_ble_eq_true rfl) dX7_readTest_67 ⟨Nat.le_of_ble_eq_true rfl, Nat.le_of_ble_eq_true rfl⟩ (fun v_186 u_187 H locs hv_188 hP₀ hD₀ hS₀ => ?_)
              obtain ⟨sv_189, sv_190, sv_191, sv_192, sv_193, sv_194, sv_195⟩ := u_187
              obtain ⟨rfl, pf_196, pf_197, pf_198, pf_199⟩ := hv_188
              have pf_196 : 0 ≤ ((Tv 0) : Int32).toInt ∧ ((Tv 0) : Int32).toInt ≤ 400 ∧ 0 ≤ (sv_192 : Int32).toInt ∧ (sv_192 : Int32).toInt ≤ 400 ∧ 0 ≤ (sv_193 : Int32).toInt ∧ (sv_193 : Int32).toInt ≤ 400 := pf_196
              have pf_197 : 0 ≤ (sv_189 : Int32).toInt ∧ (sv_189 : Int32).toInt ≤ 400 := pf_197
              have pf_198 : TpR (Tf 1) (Tv 0) (pz_b ro_183 (pz_fact (cB (Tf 1) (Tv 0)) 6)) sv_192 sv_193 sv_194 sv_195 := pf_198
              obtain ⟨ro_200, ero_200⟩ : ∃ z : Except Int (Nat × Nat), z = (pz_b ro_183 (pz_fact (cB (Tf 1) (Tv 0)) 6)) := ⟨_, rfl⟩
              rw [← ero_200] at pf_198
              have tb_201 : TpB (rTE (cB (Tf 1) (Tv 0)) ro_200) sv_193 sv_195 := TpR.tb pf_198
              have pf_199 : Ctd (pz_b ro_183 (pz_fact (cB (Tf 1) (Tv 0)) 6)) sv_190 := pf_199
              rw [← ero_200] at pf_199
              refine W.eq (g2 := F0 m 70 ls []) rfl ?_
              replace hP : va_P D classes [((Va 0), .inr (7, [.ref (Va 1), .int sv_189, .int sv_190])), ((Va 1), .inl (tc 0, 400, .inl sv_191)), ((Ta 0), .inr (10, [.ref (Ta 1), .int (Tv 0), .int sv_192, .int sv_193, .int sv_194, .int sv_195])), ((Ta 1), .inl (tc 0, 400, .inl (Tf 1)))] H := hP₀
              replace hD : va_D A [((Va 0), .inr (7, [.ref (Va 1), .int sv_189, .int sv_190])), ((Va 1), .inl (tc 0, 400, .inl sv_191)), ((Ta 0), .inr (10, [.ref (Ta 1), .int (Tv 0), .int sv_192, .int sv_193, .int sv_194, .int sv_195])), ((Ta 1), .inl (tc 0, 400, .inl (Tf 1)))] := hD₀
              replace hS := hS₀
              clear hP₀ hD₀ hS₀
              refine lv_iload hx hb dX7_readTest_70 (lv_at hl 0 rfl) ?_
              refine lv_if_eq (tgt := 80) hx hb dX7_readTest_72 (by decide) (fun c_202 => ?_) (fun c_202 => ?_)
              · skip
                exfalso
                have z_1 := Int32.lt_iff_toInt_lt.mp (Int32.not_le.mp c_50)
                have z_2 : ¬ (r_70 : Int32).toInt = (0 : Int32).toInt := fun z => c_75 (Int32.toInt_inj.mp z)
                have z_3 : ¬ (r_82 : Int32).toInt = (0 : Int32).toInt := fun z => c_87 (Int32.toInt_inj.mp z)
                have z_4 : ¬ (vy_35 : Int32).toInt = (0 : Int32).toInt := fun z => c_133 (Int32.toInt_inj.mp z)
                have z_5 := congrArg Int32.toInt c_202
                have y_0 : (0 : Int32).toInt = 0 := by decide
                have y_400 : (400 : Int32).toInt = 400 := by decide
                omega
              · skip
                refine lv_iconst (v := 1) hx hb dX7_readTest_75 (by decide) ?_
                refine lv_istore_n (lv' := [(3, .int 1), (5, .int r_82), (4, .int vy_27), (0, .ref (Va 0)), (1, .ref (Ta 0)), (2, .int 4)]) hx hb dX7_readTest_76 rfl hl (by decide) rfl (fun ls hl₀ => ?_)
                replace hl := hl₀
                clear hl₀
                refine lv_goto (tgt := 86) hx hb dX7_readTest_77 (by decide) ?_
                obtain ⟨x_203, ex_203⟩ : ∃ y : Int32, y = vy_27 + 1 := ⟨_, rfl⟩
                refine lv_iinc (v := x_203) (lv' := [(4, .int x_203), (3, .int 1), (5, .int r_82), (0, .ref (Va 0)), (1, .ref (Ta 0)), (2, .int 4)]) hx hb dX7_readTest_86 hl (k := 2) rfl (by rw [ex_203]; rfl) (by decide) rfl (fun ls hl₀ => ?_)
                replace hl := hl₀
                clear hl₀
                refine lv_goto (tgt := 11) hx hb dX7_readTest_89 (by decide) ?_
                have hb_204 : 401 - (x_203 : Int32).toInt < 401 - (vy_27 : Int32).toInt ∧ 1 ≤ 401 - (vy_27 : Int32).toInt := by
                  have z_1 := Int32.lt_iff_toInt_lt.mp (Int32.not_le.mp c_50)
                  have z_2 : ¬ (r_70 : Int32).toInt = (0 : Int32).toInt := fun z => c_75 (Int32.toInt_inj.mp z)
                  have z_3 : ¬ (r_82 : Int32).toInt = (0 : Int32).toInt := fun z => c_87 (Int32.toInt_inj.mp z)
                  have z_4 : ¬ (vy_35 : Int32).toInt = (0 : Int32).toInt := fun z => c_133 (Int32.toInt_inj.mp z)
                  have z_5 : ¬ (r_82 : Int32).toInt = (0 : Int32).toInt := fun z => c_202 (Int32.toInt_inj.mp z)
                  have y_0 : (0 : Int32).toInt = 0 := by decide
                  have y_400 : (400 : Int32).toInt = 400 := by decide
                  have y_1 : (1 : Int32).toInt = 1 := by decide
                  have t_x_203 : x_203.toInt = (vy_27 : Int32).toInt + (1 : Int32).toInt := by rw [ex_203]; exact add_toInt (by omega) (by omega)
                  omega
                have ha_205 : 0 ≤ (x_203 : Int32).toInt ∧ (x_203 : Int32).toInt ≤ 400 := by
                  have z_1 := Int32.lt_iff_toInt_lt.mp (Int32.not_le.mp c_50)
                  have z_2 : ¬ (r_70 : Int32).toInt = (0 : Int32).toInt := fun z => c_75 (Int32.toInt_inj.mp z)
                  have z_3 : ¬ (r_82 : Int32).toInt = (0 : Int32).toInt := fun z => c_87 (Int32.toInt_inj.mp z)
                  have z_4 : ¬ (vy_35 : Int32).toInt = (0 : Int32).toInt := fun z => c_133 (Int32.toInt_inj.mp z)
                  have z_5 : ¬ (r_82 : Int32).toInt = (0 : Int32).toInt := fun z => c_202 (Int32.toInt_inj.mp z)
                  have y_0 : (0 : Int32).toInt = 0 := by decide
                  have y_400 : (400 : Int32).toInt = 400 := by decide
                  have y_1 : (1 : Int32).toInt = 1 := by decide
                  have t_x_203 : x_203.toInt = (vy_27 : Int32).toInt + (1 : Int32).toInt := by rw [ex_203]; exact add_toInt (by omega) (by omega)
                  omega
                have hu_206 : TpR (Tf 1) (Tv 0) (pz_b (rNX (cB (Tf 1) (Tv 0)) rq_44) (pz_fact (cB (Tf 1) (Tv 0)) 6)) sv_192 sv_193 sv_194 sv_195 := by
                  rw [← ero_183, ← ero_200]
                  exact pf_198
                have hu_207 : Ctd (pz_b (rNX (cB (Tf 1) (Tv 0)) rq_44) (pz_fact (cB (Tf 1) (Tv 0)) 6)) sv_190 := by
                  rw [← ero_183, ← ero_200]
                  exact pf_199
                have hw_208 : TWd (cB (Tf 1) (Tv 0)) pz_and rq_44 := by
                  rw [← wS5]
                  exact pf_76
                have hi_209 : (x_203 : Int32).toInt = (vy_27 : Int32).toInt + 1 := by
                  have z_1 := Int32.lt_iff_toInt_lt.mp (Int32.not_le.mp c_50)
                  have z_2 : ¬ (r_70 : Int32).toInt = (0 : Int32).toInt := fun z => c_75 (Int32.toInt_inj.mp z)
                  have z_3 : ¬ (r_82 : Int32).toInt = (0 : Int32).toInt := fun z => c_87 (Int32.toInt_inj.mp z)
                  have z_4 : ¬ (vy_35 : Int32).toInt = (0 : Int32).toInt := fun z => c_133 (Int32.toInt_inj.mp z)
                  have z_5 : ¬ (r_82 : Int32).toInt = (0 : Int32).toInt := fun z => c_202 (Int32.toInt_inj.mp z)
                  have y_0 : (0 : Int32).toInt = 0 := by decide
                  have y_400 : (400 : Int32).toInt = 400 := by decide
                  have y_1 : (1 : Int32).toInt = 1 := by decide
                  have t_x_203 : x_203.toInt = (vy_27 : Int32).toInt + (1 : Int32).toInt := by rw [ex_203]; exact add_toInt (by omega) (by omega)
                  omega
                exact ih_37 x_203 sv_189 sv_190 sv_191 sv_192 sv_193 sv_194 sv_195 1 _ _ _ (by omega) ha_205 pf_196 pf_197 (TeL.next h_tape.2.1 pf_47 pf_48 (Or.inl hw_208) hu_206 hu_207 hi_209) (hP.sub [0, 1, 2, 3] rfl) (hD.sub [0, 1, 2, 3] rfl rfl) hS (lv_sub hl [0, 1, 3, 4, 5] rfl)
        · skip
          have hz_211 : (r_70 : Int32).toInt = 0 := by
            have z_1 := Int32.lt_iff_toInt_lt.mp (Int32.not_le.mp c_50)
            have z_2 := congrArg Int32.toInt c_75
            have y_0 : (0 : Int32).toInt = 0 := by decide
            have y_400 : (400 : Int32).toInt = 400 := by decide
            omega
          obtain pf_210 := hm_74 hz_211
          have pf_210 : NWd (cB (Tf 1) (Tv 0)) (wS (5 : Nat)) rq_44 := pf_210
          refine lv_aload_n hx hb dX7_readTest_28 rfl (lv_at hl 3 rfl) ?_
          refine va_ldcS hx hb hown (sx_6 hX) dX7_readTest_29 ?_
          have ha_212 : (6 : Nat) < 7 := by
            have z_1 := Int32.lt_iff_toInt_lt.mp (Int32.not_le.mp c_50)
            have z_2 := congrArg Int32.toInt c_75
            have y_0 : (0 : Int32).toInt = 0 := by decide
            have y_400 : (400 : Int32).toInt = 400 := by decide
            have y_6 : (6 : Int32).toInt = 6 := by decide
            omega
          refine cV (a := (Ta 0)) (As := [.ref (sk.1 6)]) (rest := []) (wr := [((Va 0), .inr (7, [.ref (Va 1), .int vy_28, .int vy_29])), ((Va 1), .inl (tc 0, 400, .inl vy_30))]) ⟨hx, hb, hml, hown, hts⟩ hK hX hA (cu_fX10_isWord l D tc sk (Ta 0) (Ta 1) (Tv 0) vy_31 vy_32 vy_33 vy_34 (Tf 1) 6 rq_44 ha_212 pf_40 h_by pf_45) k_618 k_615 k_616 k_617 k_96 pl_X10_isWord ⟨Nat.le_of_ble_eq_true rfl, Nat.le_of_ble_eq_true rfl⟩ rfl rfl (va_recv hK hP (ci := 10) (q0 := 2) rfl rfl) hP hD hS [2, 3] [0, 1] rfl rfl rfl rfl rfl (by decide) rfl hl.1 rfl (Nat.le_of_ble_eq_true rfl) dX7_readTest_31 ⟨Nat.le_of_ble_eq_true rfl, Nat.le_of_ble_eq_true rfl⟩ (fun v_213 u_214 H locs hv_215 hP₀ hD₀ hS₀ => ?_)
          obtain ⟨r_216, rfl, he_217, hm_219, hm_220⟩ := hv_215
          have he_217 : (r_216.toInt = 0 ∨ r_216.toInt = 1) := he_217
          refine W.eq (g2 := F0 m 34 ls [.int r_216]) rfl ?_
          replace hP : va_P D classes [((Va 0), .inr (7, [.ref (Va 1), .int vy_28, .int vy_29])), ((Va 1), .inl (tc 0, 400, .inl vy_30)), ((Ta 0), .inr (10, [.ref (Ta 1), .int (Tv 0), .int vy_31, .int vy_32, .int vy_33, .int vy_34])), ((Ta 1), .inl (tc 0, 400, .inl (Tf 1)))] H := hP₀
          replace hD : va_D A [((Va 0), .inr (7, [.ref (Va 1), .int vy_28, .int vy_29])), ((Va 1), .inl (tc 0, 400, .inl vy_30)), ((Ta 0), .inr (10, [.ref (Ta 1), .int (Tv 0), .int vy_31, .int vy_32, .int vy_33, .int vy_34])), ((Ta 1), .inl (tc 0, 400, .inl (Tf 1)))] := hD₀
          replace hS := hS₀
          clear hP₀ hD₀ hS₀
          refine lv_if_eq (tgt := 92) hx hb dX7_readTest_34 (by decide) (fun c_221 => ?_) (fun c_221 => ?_)
          · skip
            have hz_223 : (r_216 : Int32).toInt = 0 := by
              have z_1 := Int32.lt_iff_toInt_lt.mp (Int32.not_le.mp c_50)
              have z_2 := congrArg Int32.toInt c_75
              have z_3 := congrArg Int32.toInt c_221
              have y_0 : (0 : Int32).toInt = 0 := by decide
              have y_400 : (400 : Int32).toInt = 400 := by decide
              omega
            obtain pf_222 := hm_220 hz_223
            have pf_222 : NWd (cB (Tf 1) (Tv 0)) (wS (6 : Nat)) rq_44 := pf_222
            refine lv_iload_n hx hb dX7_readTest_92 rfl (lv_at hl 1 rfl) ?_
            refine lv_if_eq (tgt := 102) hx hb dX7_readTest_93 (by decide) (fun c_224 => ?_) (fun c_224 => ?_)
            · skip
              have hf_225 : TpR (Tf 1) (Tv 0) (pz_b rr (pz_tst (cB (Tf 1) (Tv 0)) (pz_fact (cB (Tf 1) (Tv 0)) 6))) vy_31 vy_32 vy_33 vy_34 := by
                have hw_226 : NWd (cB (Tf 1) (Tv 0)) pz_and rq_44 := by
                  rw [← wS5]
                  exact pf_210
                have hw_227 : NWd (cB (Tf 1) (Tv 0)) pz_or rq_44 := by
                  rw [← wS6]
                  exact pf_222
                rw [pf_47, tst_end h_tape.2.1 pf_48 (Or.inr ⟨hw_226, hw_227⟩)]
                exact pf_45
              have hf_228 : Ctd (pz_b rr (pz_tst (cB (Tf 1) (Tv 0)) (pz_fact (cB (Tf 1) (Tv 0)) 6))) vy_29 := by
                have hw_229 : NWd (cB (Tf 1) (Tv 0)) pz_and rq_44 := by
                  rw [← wS5]
                  exact pf_210
                have hw_230 : NWd (cB (Tf 1) (Tv 0)) pz_or rq_44 := by
                  rw [← wS6]
                  exact pf_222
                rw [pf_47, tst_end h_tape.2.1 pf_48 (Or.inr ⟨hw_229, hw_230⟩)]
                exact pf_46
              exact retV hx hb hr hlk hP hD hS (vy_28, vy_29, vy_30, vy_31, vy_32, vy_33, vy_34) ⟨rfl, pf_40, pf_41, hf_225, hf_228⟩ [0, 1, 2, 3] rfl rfl dX7_readTest_102 (Nat.le_of_ble_eq_true rfl) (Nat.le_of_ble_eq_true rfl) rfl
            · skip
              refine lv_aload_n hx hb dX7_readTest_96 rfl (lv_at hl 2 rfl) ?_
              refine lv_bipush (v := (-6)) hx hb dX7_readTest_97 (by decide) ?_
              refine cV (a := (Va 0)) (As := [.int (-6)]) (rest := []) (wr := [((Ta 0), .inr (10, [.ref (Ta 1), .int (Tv 0), .int vy_31, .int vy_32, .int vy_33, .int vy_34])), ((Ta 1), .inl (tc 0, 400, .inl (Tf 1)))]) ⟨hx, hb, hml, hown, hts⟩ hK hX hA (cu_fX7_put l D tc sk (Va 0) (Va 1) vy_28 vy_29 vy_30 (-6) pf_41) k_642 k_639 k_641 k_10 k_99 pl_X7_put ⟨Nat.le_of_ble_eq_true rfl, Nat.le_of_ble_eq_true rfl⟩ rfl rfl (va_recv hK hP (ci := 7) (q0 := 0) rfl rfl) hP hD hS [0, 1] [2, 3] rfl rfl rfl rfl rfl (by decide) rfl hl.1 rfl (Nat.le_of_ble_eq_true rfl) dX7_readTest_99 ⟨Nat.le_of_ble_eq_true rfl, Nat.le_of_ble_eq_true rfl⟩ (fun v_231 u_232 H locs hv_233 hP₀ hD₀ hS₀ => ?_)
              obtain ⟨sv_234, sv_235⟩ := u_232
              obtain ⟨rfl, pf_236⟩ := hv_233
              have pf_236 : 0 ≤ (sv_234 : Int32).toInt ∧ (sv_234 : Int32).toInt ≤ 400 := pf_236
              refine W.eq (g2 := F0 m 102 ls []) rfl ?_
              replace hP : va_P D classes [((Ta 0), .inr (10, [.ref (Ta 1), .int (Tv 0), .int vy_31, .int vy_32, .int vy_33, .int vy_34])), ((Ta 1), .inl (tc 0, 400, .inl (Tf 1))), ((Va 0), .inr (7, [.ref (Va 1), .int sv_234, .int vy_29])), ((Va 1), .inl (tc 0, 400, .inl sv_235))] H := hP₀
              replace hD : va_D A [((Ta 0), .inr (10, [.ref (Ta 1), .int (Tv 0), .int vy_31, .int vy_32, .int vy_33, .int vy_34])), ((Ta 1), .inl (tc 0, 400, .inl (Tf 1))), ((Va 0), .inr (7, [.ref (Va 1), .int sv_234, .int vy_29])), ((Va 1), .inl (tc 0, 400, .inl sv_235))] := hD₀
              replace hS := hS₀
              clear hP₀ hD₀ hS₀
              have hf_237 : TpR (Tf 1) (Tv 0) (pz_b rr (pz_tst (cB (Tf 1) (Tv 0)) (pz_fact (cB (Tf 1) (Tv 0)) 6))) vy_31 vy_32 vy_33 vy_34 := by
                have hw_238 : NWd (cB (Tf 1) (Tv 0)) pz_and rq_44 := by
                  rw [← wS5]
                  exact pf_210
                have hw_239 : NWd (cB (Tf 1) (Tv 0)) pz_or rq_44 := by
                  rw [← wS6]
                  exact pf_222
                rw [pf_47, tst_end h_tape.2.1 pf_48 (Or.inr ⟨hw_238, hw_239⟩)]
                exact pf_45
              have hf_240 : Ctd (pz_b rr (pz_tst (cB (Tf 1) (Tv 0)) (pz_fact (cB (Tf 1) (Tv 0)) 6))) vy_29 := by
                have hw_241 : NWd (cB (Tf 1) (Tv 0)) pz_and rq_44 := by
                  rw [← wS5]
                  exact pf_210
                have hw_242 : NWd (cB (Tf 1) (Tv 0)) pz_or rq_44 := by
                  rw [← wS6]
                  exact pf_222
                rw [pf_47, tst_end h_tape.2.1 pf_48 (Or.inr ⟨hw_241, hw_242⟩)]
                exact pf_46
              exact retV hx hb hr hlk hP hD hS (sv_234, vy_29, sv_235, vy_31, vy_32, vy_33, vy_34) ⟨rfl, pf_40, pf_236, hf_237, hf_240⟩ [2, 3, 0, 1] rfl rfl dX7_readTest_102 (Nat.le_of_ble_eq_true rfl) (Nat.le_of_ble_eq_true rfl) rfl
          · skip
            have hz_244 : (r_216 : Int32).toInt = 1 := by
              have z_1 := Int32.lt_iff_toInt_lt.mp (Int32.not_le.mp c_50)
              have z_2 := congrArg Int32.toInt c_75
              have z_3 : ¬ (r_216 : Int32).toInt = (0 : Int32).toInt := fun z => c_221 (Int32.toInt_inj.mp z)
              have y_0 : (0 : Int32).toInt = 0 := by decide
              have y_400 : (400 : Int32).toInt = 400 := by decide
              omega
            obtain pf_243 := hm_219 hz_244
            have pf_243 : TWd (cB (Tf 1) (Tv 0)) (wS (6 : Nat)) rq_44 := pf_243
            refine lv_aload_n hx hb dX7_readTest_37 rfl (lv_at hl 3 rfl) ?_
            refine va_ldcS hx hb hown (sx_6 hX) dX7_readTest_38 ?_
            have ha_245 : (6 : Nat) < 7 := by
              have z_1 := Int32.lt_iff_toInt_lt.mp (Int32.not_le.mp c_50)
              have z_2 := congrArg Int32.toInt c_75
              have z_3 : ¬ (r_216 : Int32).toInt = (0 : Int32).toInt := fun z => c_221 (Int32.toInt_inj.mp z)
              have y_0 : (0 : Int32).toInt = 0 := by decide
              have y_400 : (400 : Int32).toInt = 400 := by decide
              have y_6 : (6 : Int32).toInt = 6 := by decide
              omega
            refine cV (a := (Ta 0)) (As := [.ref (sk.1 6)]) (rest := []) (wr := [((Va 0), .inr (7, [.ref (Va 1), .int vy_28, .int vy_29])), ((Va 1), .inl (tc 0, 400, .inl vy_30))]) ⟨hx, hb, hml, hown, hts⟩ hK hX hA (cu_fX10_isWord l D tc sk (Ta 0) (Ta 1) (Tv 0) vy_31 vy_32 vy_33 vy_34 (Tf 1) 6 rq_44 ha_245 pf_40 h_by pf_45) k_618 k_615 k_616 k_617 k_96 pl_X10_isWord ⟨Nat.le_of_ble_eq_true rfl, Nat.le_of_ble_eq_true rfl⟩ rfl rfl (va_recv hK hP (ci := 10) (q0 := 2) rfl rfl) hP hD hS [2, 3] [0, 1] rfl rfl rfl rfl rfl (by decide) rfl hl.1 rfl (Nat.le_of_ble_eq_true rfl) dX7_readTest_40 ⟨Nat.le_of_ble_eq_true rfl, Nat.le_of_ble_eq_true rfl⟩ (fun v_246 u_247 H locs hv_248 hP₀ hD₀ hS₀ => ?_)
            obtain ⟨r_249, rfl, he_250, hm_252, hm_253⟩ := hv_248
            have he_250 : (r_249.toInt = 0 ∨ r_249.toInt = 1) := he_250
            refine W.eq (g2 := F0 m 43 ls [.int r_249]) rfl ?_
            replace hP : va_P D classes [((Va 0), .inr (7, [.ref (Va 1), .int vy_28, .int vy_29])), ((Va 1), .inl (tc 0, 400, .inl vy_30)), ((Ta 0), .inr (10, [.ref (Ta 1), .int (Tv 0), .int vy_31, .int vy_32, .int vy_33, .int vy_34])), ((Ta 1), .inl (tc 0, 400, .inl (Tf 1)))] H := hP₀
            replace hD : va_D A [((Va 0), .inr (7, [.ref (Va 1), .int vy_28, .int vy_29])), ((Va 1), .inl (tc 0, 400, .inl vy_30)), ((Ta 0), .inr (10, [.ref (Ta 1), .int (Tv 0), .int vy_31, .int vy_32, .int vy_33, .int vy_34])), ((Ta 1), .inl (tc 0, 400, .inl (Tf 1)))] := hD₀
            replace hS := hS₀
            clear hP₀ hD₀ hS₀
            refine lv_istore (lv' := [(5, .int r_249), (4, .int vy_27), (3, .int vy_35), (0, .ref (Va 0)), (1, .ref (Ta 0)), (2, .int 4)]) hx hb dX7_readTest_43 hl (by decide) rfl (fun ls hl₀ => ?_)
            replace hl := hl₀
            clear hl₀
            refine lv_iload hx hb dX7_readTest_45 (lv_at hl 0 rfl) ?_
            refine lv_if_eq (tgt := 60) hx hb dX7_readTest_47 (by decide) (fun c_254 => ?_) (fun c_254 => ?_)
            · skip
              have hz_256 : (r_249 : Int32).toInt = 0 := by
                have z_1 := Int32.lt_iff_toInt_lt.mp (Int32.not_le.mp c_50)
                have z_2 := congrArg Int32.toInt c_75
                have z_3 : ¬ (r_216 : Int32).toInt = (0 : Int32).toInt := fun z => c_221 (Int32.toInt_inj.mp z)
                have z_4 := congrArg Int32.toInt c_254
                have y_0 : (0 : Int32).toInt = 0 := by decide
                have y_400 : (400 : Int32).toInt = 400 := by decide
                omega
              obtain pf_255 := hm_253 hz_256
              have pf_255 : NWd (cB (Tf 1) (Tv 0)) (wS (6 : Nat)) rq_44 := pf_255
              refine lv_aload_n hx hb dX7_readTest_60 rfl (lv_at hl 4 rfl) ?_
              refine cV (a := (Ta 0)) (As := []) (rest := []) (wr := [((Va 0), .inr (7, [.ref (Va 1), .int vy_28, .int vy_29])), ((Va 1), .inl (tc 0, 400, .inl vy_30))]) ⟨hx, hb, hml, hown, hts⟩ hK hX hA (cu_fX10_step l D tc sk (Ta 0) (Ta 1) (Tv 0) vy_31 vy_32 vy_33 vy_34 (Tf 1) (rTE (cB (Tf 1) (Tv 0)) rq_44) pf_40 h_by tb_49) k_478 k_620 k_476 k_477 k_96 pl_X10_step ⟨Nat.le_of_ble_eq_true rfl, Nat.le_of_ble_eq_true rfl⟩ rfl rfl (va_recv hK hP (ci := 10) (q0 := 2) rfl rfl) hP hD hS [2, 3] [0, 1] rfl rfl rfl rfl rfl (by decide) rfl hl.1 rfl (Nat.le_of_ble_eq_true rfl) dX7_readTest_61 ⟨Nat.le_of_ble_eq_true rfl, Nat.le_of_ble_eq_true rfl⟩ (fun v_257 u_258 H locs hv_259 hP₀ hD₀ hS₀ => ?_)
              obtain ⟨sv_260, sv_261, sv_262⟩ := u_258
              obtain ⟨rfl, pf_263, pf_264⟩ := hv_259
              have pf_263 : 0 ≤ ((Tv 0) : Int32).toInt ∧ ((Tv 0) : Int32).toInt ≤ 400 ∧ 0 ≤ (sv_260 : Int32).toInt ∧ (sv_260 : Int32).toInt ≤ 400 ∧ 0 ≤ (sv_261 : Int32).toInt ∧ (sv_261 : Int32).toInt ≤ 400 := pf_263
              have pf_264 : TpR (Tf 1) (Tv 0) (rSK (cB (Tf 1) (Tv 0)) (rTE (cB (Tf 1) (Tv 0)) rq_44)) sv_260 sv_261 sv_262 vy_34 := pf_264
              rw [rNX_eq] at pf_264
              obtain ⟨ro_265, ero_265⟩ : ∃ z : Except Int (Nat × Nat), z = (rNX (cB (Tf 1) (Tv 0)) rq_44) := ⟨_, rfl⟩
              rw [← ero_265] at pf_264
              have tb_266 : TpB (rTE (cB (Tf 1) (Tv 0)) ro_265) sv_261 vy_34 := TpR.tb pf_264
              have cd_267 : Ctd ro_265 vy_29 := by rw [ero_265]; exact (Ctd.nx pf_46)
              refine W.eq (g2 := F0 m 64 ls []) rfl ?_
              replace hP : va_P D classes [((Va 0), .inr (7, [.ref (Va 1), .int vy_28, .int vy_29])), ((Va 1), .inl (tc 0, 400, .inl vy_30)), ((Ta 0), .inr (10, [.ref (Ta 1), .int (Tv 0), .int sv_260, .int sv_261, .int sv_262, .int vy_34])), ((Ta 1), .inl (tc 0, 400, .inl (Tf 1)))] H := hP₀
              replace hD : va_D A [((Va 0), .inr (7, [.ref (Va 1), .int vy_28, .int vy_29])), ((Va 1), .inl (tc 0, 400, .inl vy_30)), ((Ta 0), .inr (10, [.ref (Ta 1), .int (Tv 0), .int sv_260, .int sv_261, .int sv_262, .int vy_34])), ((Ta 1), .inl (tc 0, 400, .inl (Tf 1)))] := hD₀
              replace hS := hS₀
              clear hP₀ hD₀ hS₀
              refine lv_aload_n hx hb dX7_readTest_64 rfl (lv_at hl 3 rfl) ?_
              refine lv_aload_n hx hb dX7_readTest_65 rfl (lv_at hl 4 rfl) ?_
              refine lv_iload_n hx hb dX7_readTest_66 rfl (lv_at hl 5 rfl) ?_
              refine cV (a := (Va 0)) (As := [.ref (Ta 0), .int 4]) (rest := []) (wr := []) ⟨hx, hb, hml, hown, hts⟩ hK hX hA (cu_fX7_readFact_4 l D tc sk (Va 0) (Va 1) vy_28 vy_29 vy_30 (Ta 0) (Ta 1) (Tv 0) sv_260 sv_261 sv_262 vy_34 (Tf 1) ro_265 pf_263 pf_41 h_by pf_264 cd_267) k_659 k_656 k_658 k_12 k_99 pl_X7_readFact ⟨Nat.le_of_ble_eq_true rfl, Nat.le_of_ble_eq_true rfl⟩ rfl rfl (va_recv hK hP (ci := 7) (q0 := 0) rfl rfl) hP hD hS [0, 1, 2, 3] [] rfl rfl rfl rfl rfl (by decide) rfl hl.1 rfl (Nat.le_of_ble_eq_true rfl) dX7_readTest_67 ⟨Nat.le_of_ble_eq_true rfl, Nat.le_of_ble_eq_true rfl⟩ (fun v_268 u_269 H locs hv_270 hP₀ hD₀ hS₀ => ?_)
              obtain ⟨sv_271, sv_272, sv_273, sv_274, sv_275, sv_276, sv_277⟩ := u_269
              obtain ⟨rfl, pf_278, pf_279, pf_280, pf_281⟩ := hv_270
              have pf_278 : 0 ≤ ((Tv 0) : Int32).toInt ∧ ((Tv 0) : Int32).toInt ≤ 400 ∧ 0 ≤ (sv_274 : Int32).toInt ∧ (sv_274 : Int32).toInt ≤ 400 ∧ 0 ≤ (sv_275 : Int32).toInt ∧ (sv_275 : Int32).toInt ≤ 400 := pf_278
              have pf_279 : 0 ≤ (sv_271 : Int32).toInt ∧ (sv_271 : Int32).toInt ≤ 400 := pf_279
              have pf_280 : TpR (Tf 1) (Tv 0) (pz_b ro_265 (pz_fact (cB (Tf 1) (Tv 0)) 6)) sv_274 sv_275 sv_276 sv_277 := pf_280
              obtain ⟨ro_282, ero_282⟩ : ∃ z : Except Int (Nat × Nat), z = (pz_b ro_265 (pz_fact (cB (Tf 1) (Tv 0)) 6)) := ⟨_, rfl⟩
              rw [← ero_282] at pf_280
              have tb_283 : TpB (rTE (cB (Tf 1) (Tv 0)) ro_282) sv_275 sv_277 := TpR.tb pf_280
              have pf_281 : Ctd (pz_b ro_265 (pz_fact (cB (Tf 1) (Tv 0)) 6)) sv_272 := pf_281
              rw [← ero_282] at pf_281
              refine W.eq (g2 := F0 m 70 ls []) rfl ?_
              replace hP : va_P D classes [((Va 0), .inr (7, [.ref (Va 1), .int sv_271, .int sv_272])), ((Va 1), .inl (tc 0, 400, .inl sv_273)), ((Ta 0), .inr (10, [.ref (Ta 1), .int (Tv 0), .int sv_274, .int sv_275, .int sv_276, .int sv_277])), ((Ta 1), .inl (tc 0, 400, .inl (Tf 1)))] H := hP₀
              replace hD : va_D A [((Va 0), .inr (7, [.ref (Va 1), .int sv_271, .int sv_272])), ((Va 1), .inl (tc 0, 400, .inl sv_273)), ((Ta 0), .inr (10, [.ref (Ta 1), .int (Tv 0), .int sv_274, .int sv_275, .int sv_276, .int sv_277])), ((Ta 1), .inl (tc 0, 400, .inl (Tf 1)))] := hD₀
              replace hS := hS₀
              clear hP₀ hD₀ hS₀
              refine lv_iload hx hb dX7_readTest_70 (lv_at hl 0 rfl) ?_
              refine lv_if_eq (tgt := 80) hx hb dX7_readTest_72 (by decide) (fun c_284 => ?_) (fun c_284 => ?_)
              · skip
                refine lv_aload_n hx hb dX7_readTest_80 rfl (lv_at hl 3 rfl) ?_
                refine lv_bipush (v := (-5)) hx hb dX7_readTest_81 (by decide) ?_
                refine cV (a := (Va 0)) (As := [.int (-5)]) (rest := []) (wr := [((Ta 0), .inr (10, [.ref (Ta 1), .int (Tv 0), .int sv_274, .int sv_275, .int sv_276, .int sv_277])), ((Ta 1), .inl (tc 0, 400, .inl (Tf 1)))]) ⟨hx, hb, hml, hown, hts⟩ hK hX hA (cu_fX7_put l D tc sk (Va 0) (Va 1) sv_271 sv_272 sv_273 (-5) pf_279) k_642 k_639 k_641 k_10 k_99 pl_X7_put ⟨Nat.le_of_ble_eq_true rfl, Nat.le_of_ble_eq_true rfl⟩ rfl rfl (va_recv hK hP (ci := 7) (q0 := 0) rfl rfl) hP hD hS [0, 1] [2, 3] rfl rfl rfl rfl rfl (by decide) rfl hl.1 rfl (Nat.le_of_ble_eq_true rfl) dX7_readTest_83 ⟨Nat.le_of_ble_eq_true rfl, Nat.le_of_ble_eq_true rfl⟩ (fun v_285 u_286 H locs hv_287 hP₀ hD₀ hS₀ => ?_)
                obtain ⟨sv_288, sv_289⟩ := u_286
                obtain ⟨rfl, pf_290⟩ := hv_287
                have pf_290 : 0 ≤ (sv_288 : Int32).toInt ∧ (sv_288 : Int32).toInt ≤ 400 := pf_290
                refine W.eq (g2 := F0 m 86 ls []) rfl ?_
                replace hP : va_P D classes [((Ta 0), .inr (10, [.ref (Ta 1), .int (Tv 0), .int sv_274, .int sv_275, .int sv_276, .int sv_277])), ((Ta 1), .inl (tc 0, 400, .inl (Tf 1))), ((Va 0), .inr (7, [.ref (Va 1), .int sv_288, .int sv_272])), ((Va 1), .inl (tc 0, 400, .inl sv_289))] H := hP₀
                replace hD : va_D A [((Ta 0), .inr (10, [.ref (Ta 1), .int (Tv 0), .int sv_274, .int sv_275, .int sv_276, .int sv_277])), ((Ta 1), .inl (tc 0, 400, .inl (Tf 1))), ((Va 0), .inr (7, [.ref (Va 1), .int sv_288, .int sv_272])), ((Va 1), .inl (tc 0, 400, .inl sv_289))] := hD₀
                replace hS := hS₀
                clear hP₀ hD₀ hS₀
                obtain ⟨x_291, ex_291⟩ : ∃ y : Int32, y = vy_27 + 1 := ⟨_, rfl⟩
                refine lv_iinc (v := x_291) (lv' := [(4, .int x_291), (5, .int r_249), (3, .int vy_35), (0, .ref (Va 0)), (1, .ref (Ta 0)), (2, .int 4)]) hx hb dX7_readTest_86 hl (k := 1) rfl (by rw [ex_291]; rfl) (by decide) rfl (fun ls hl₀ => ?_)
                replace hl := hl₀
                clear hl₀
                refine lv_goto (tgt := 11) hx hb dX7_readTest_89 (by decide) ?_
                have hb_292 : 401 - (x_291 : Int32).toInt < 401 - (vy_27 : Int32).toInt ∧ 1 ≤ 401 - (vy_27 : Int32).toInt := by
                  have z_1 := Int32.lt_iff_toInt_lt.mp (Int32.not_le.mp c_50)
                  have z_2 := congrArg Int32.toInt c_75
                  have z_3 : ¬ (r_216 : Int32).toInt = (0 : Int32).toInt := fun z => c_221 (Int32.toInt_inj.mp z)
                  have z_4 := congrArg Int32.toInt c_254
                  have z_5 := congrArg Int32.toInt c_284
                  have y_0 : (0 : Int32).toInt = 0 := by decide
                  have y_400 : (400 : Int32).toInt = 400 := by decide
                  have y_1 : (1 : Int32).toInt = 1 := by decide
                  have t_x_291 : x_291.toInt = (vy_27 : Int32).toInt + (1 : Int32).toInt := by rw [ex_291]; exact add_toInt (by omega) (by omega)
                  omega
                have ha_293 : 0 ≤ (x_291 : Int32).toInt ∧ (x_291 : Int32).toInt ≤ 400 := by
                  have z_1 := Int32.lt_iff_toInt_lt.mp (Int32.not_le.mp c_50)
                  have z_2 := congrArg Int32.toInt c_75
                  have z_3 : ¬ (r_216 : Int32).toInt = (0 : Int32).toInt := fun z => c_221 (Int32.toInt_inj.mp z)
                  have z_4 := congrArg Int32.toInt c_254
                  have z_5 := congrArg Int32.toInt c_284
                  have y_0 : (0 : Int32).toInt = 0 := by decide
                  have y_400 : (400 : Int32).toInt = 400 := by decide
                  have y_1 : (1 : Int32).toInt = 1 := by decide
                  have t_x_291 : x_291.toInt = (vy_27 : Int32).toInt + (1 : Int32).toInt := by rw [ex_291]; exact add_toInt (by omega) (by omega)
                  omega
                have hu_294 : TpR (Tf 1) (Tv 0) (pz_b (rNX (cB (Tf 1) (Tv 0)) rq_44) (pz_fact (cB (Tf 1) (Tv 0)) 6)) sv_274 sv_275 sv_276 sv_277 := by
                  rw [← ero_265, ← ero_282]
                  exact pf_280
                have hu_295 : Ctd (pz_b (rNX (cB (Tf 1) (Tv 0)) rq_44) (pz_fact (cB (Tf 1) (Tv 0)) 6)) sv_272 := by
                  rw [← ero_265, ← ero_282]
                  exact pf_281
                have hw_296 : TWd (cB (Tf 1) (Tv 0)) pz_or rq_44 := by
                  rw [← wS6]
                  exact pf_243
                have hi_297 : (x_291 : Int32).toInt = (vy_27 : Int32).toInt + 1 := by
                  have z_1 := Int32.lt_iff_toInt_lt.mp (Int32.not_le.mp c_50)
                  have z_2 := congrArg Int32.toInt c_75
                  have z_3 : ¬ (r_216 : Int32).toInt = (0 : Int32).toInt := fun z => c_221 (Int32.toInt_inj.mp z)
                  have z_4 := congrArg Int32.toInt c_254
                  have z_5 := congrArg Int32.toInt c_284
                  have y_0 : (0 : Int32).toInt = 0 := by decide
                  have y_400 : (400 : Int32).toInt = 400 := by decide
                  have y_1 : (1 : Int32).toInt = 1 := by decide
                  have t_x_291 : x_291.toInt = (vy_27 : Int32).toInt + (1 : Int32).toInt := by rw [ex_291]; exact add_toInt (by omega) (by omega)
                  omega
                exact ih_37 x_291 sv_288 sv_272 sv_289 sv_274 sv_275 sv_276 sv_277 vy_35 _ _ _ (by omega) ha_293 pf_278 pf_290 (TeL.next h_tape.2.1 pf_47 pf_48 (Or.inr hw_296) hu_294 hu_295 hi_297) (hP.sub [2, 3, 0, 1] rfl) (hD.sub [2, 3, 0, 1] rfl rfl) hS (lv_sub hl [0, 2, 3, 4, 5] rfl)
              · skip
                exfalso
                have z_1 := Int32.lt_iff_toInt_lt.mp (Int32.not_le.mp c_50)
                have z_2 := congrArg Int32.toInt c_75
                have z_3 : ¬ (r_216 : Int32).toInt = (0 : Int32).toInt := fun z => c_221 (Int32.toInt_inj.mp z)
                have z_4 := congrArg Int32.toInt c_254
                have z_5 : ¬ (r_249 : Int32).toInt = (0 : Int32).toInt := fun z => c_284 (Int32.toInt_inj.mp z)
                have y_0 : (0 : Int32).toInt = 0 := by decide
                have y_400 : (400 : Int32).toInt = 400 := by decide
                omega
            · skip
              have hz_299 : (r_249 : Int32).toInt = 1 := by
                have z_1 := Int32.lt_iff_toInt_lt.mp (Int32.not_le.mp c_50)
                have z_2 := congrArg Int32.toInt c_75
                have z_3 : ¬ (r_216 : Int32).toInt = (0 : Int32).toInt := fun z => c_221 (Int32.toInt_inj.mp z)
                have z_4 : ¬ (r_249 : Int32).toInt = (0 : Int32).toInt := fun z => c_254 (Int32.toInt_inj.mp z)
                have y_0 : (0 : Int32).toInt = 0 := by decide
                have y_400 : (400 : Int32).toInt = 400 := by decide
                omega
              obtain pf_298 := hm_252 hz_299
              have pf_298 : TWd (cB (Tf 1) (Tv 0)) (wS (6 : Nat)) rq_44 := pf_298
              refine lv_iload_n hx hb dX7_readTest_50 rfl (lv_at hl 2 rfl) ?_
              refine lv_if_eq (tgt := 60) hx hb dX7_readTest_51 (by decide) (fun c_300 => ?_) (fun c_300 => ?_)
              · skip
                refine lv_aload_n hx hb dX7_readTest_60 rfl (lv_at hl 4 rfl) ?_
                refine cV (a := (Ta 0)) (As := []) (rest := []) (wr := [((Va 0), .inr (7, [.ref (Va 1), .int vy_28, .int vy_29])), ((Va 1), .inl (tc 0, 400, .inl vy_30))]) ⟨hx, hb, hml, hown, hts⟩ hK hX hA (cu_fX10_step l D tc sk (Ta 0) (Ta 1) (Tv 0) vy_31 vy_32 vy_33 vy_34 (Tf 1) (rTE (cB (Tf 1) (Tv 0)) rq_44) pf_40 h_by tb_49) k_478 k_620 k_476 k_477 k_96 pl_X10_step ⟨Nat.le_of_ble_eq_true rfl, Nat.le_of_ble_eq_true rfl⟩ rfl rfl (va_recv hK hP (ci := 10) (q0 := 2) rfl rfl) hP hD hS [2, 3] [0, 1] rfl rfl rfl rfl rfl (by decide) rfl hl.1 rfl (Nat.le_of_ble_eq_true rfl) dX7_readTest_61 ⟨Nat.le_of_ble_eq_true rfl, Nat.le_of_ble_eq_true rfl⟩ (fun v_301 u_302 H locs hv_303 hP₀ hD₀ hS₀ => ?_)
                obtain ⟨sv_304, sv_305, sv_306⟩ := u_302
                obtain ⟨rfl, pf_307, pf_308⟩ := hv_303
                have pf_307 : 0 ≤ ((Tv 0) : Int32).toInt ∧ ((Tv 0) : Int32).toInt ≤ 400 ∧ 0 ≤ (sv_304 : Int32).toInt ∧ (sv_304 : Int32).toInt ≤ 400 ∧ 0 ≤ (sv_305 : Int32).toInt ∧ (sv_305 : Int32).toInt ≤ 400 := pf_307
                have pf_308 : TpR (Tf 1) (Tv 0) (rSK (cB (Tf 1) (Tv 0)) (rTE (cB (Tf 1) (Tv 0)) rq_44)) sv_304 sv_305 sv_306 vy_34 := pf_308
                rw [rNX_eq] at pf_308
                obtain ⟨ro_309, ero_309⟩ : ∃ z : Except Int (Nat × Nat), z = (rNX (cB (Tf 1) (Tv 0)) rq_44) := ⟨_, rfl⟩
                rw [← ero_309] at pf_308
                have tb_310 : TpB (rTE (cB (Tf 1) (Tv 0)) ro_309) sv_305 vy_34 := TpR.tb pf_308
                have cd_311 : Ctd ro_309 vy_29 := by rw [ero_309]; exact (Ctd.nx pf_46)
                refine W.eq (g2 := F0 m 64 ls []) rfl ?_
                replace hP : va_P D classes [((Va 0), .inr (7, [.ref (Va 1), .int vy_28, .int vy_29])), ((Va 1), .inl (tc 0, 400, .inl vy_30)), ((Ta 0), .inr (10, [.ref (Ta 1), .int (Tv 0), .int sv_304, .int sv_305, .int sv_306, .int vy_34])), ((Ta 1), .inl (tc 0, 400, .inl (Tf 1)))] H := hP₀
                replace hD : va_D A [((Va 0), .inr (7, [.ref (Va 1), .int vy_28, .int vy_29])), ((Va 1), .inl (tc 0, 400, .inl vy_30)), ((Ta 0), .inr (10, [.ref (Ta 1), .int (Tv 0), .int sv_304, .int sv_305, .int sv_306, .int vy_34])), ((Ta 1), .inl (tc 0, 400, .inl (Tf 1)))] := hD₀
                replace hS := hS₀
                clear hP₀ hD₀ hS₀
                refine lv_aload_n hx hb dX7_readTest_64 rfl (lv_at hl 3 rfl) ?_
                refine lv_aload_n hx hb dX7_readTest_65 rfl (lv_at hl 4 rfl) ?_
                refine lv_iload_n hx hb dX7_readTest_66 rfl (lv_at hl 5 rfl) ?_
                refine cV (a := (Va 0)) (As := [.ref (Ta 0), .int 4]) (rest := []) (wr := []) ⟨hx, hb, hml, hown, hts⟩ hK hX hA (cu_fX7_readFact_4 l D tc sk (Va 0) (Va 1) vy_28 vy_29 vy_30 (Ta 0) (Ta 1) (Tv 0) sv_304 sv_305 sv_306 vy_34 (Tf 1) ro_309 pf_307 pf_41 h_by pf_308 cd_311) k_659 k_656 k_658 k_12 k_99 pl_X7_readFact ⟨Nat.le_of_ble_eq_true rfl, Nat.le_of_ble_eq_true rfl⟩ rfl rfl (va_recv hK hP (ci := 7) (q0 := 0) rfl rfl) hP hD hS [0, 1, 2, 3] [] rfl rfl rfl rfl rfl (by decide) rfl hl.1 rfl (Nat.le_of_ble_eq_true rfl) dX7_readTest_67 ⟨Nat.le_of_ble_eq_true rfl, Nat.le_of_ble_eq_true rfl⟩ (fun v_312 u_313 H locs hv_314 hP₀ hD₀ hS₀ => ?_)
                obtain ⟨sv_315, sv_316, sv_317, sv_318, sv_319, sv_320, sv_321⟩ := u_313
                obtain ⟨rfl, pf_322, pf_323, pf_324, pf_325⟩ := hv_314
                have pf_322 : 0 ≤ ((Tv 0) : Int32).toInt ∧ ((Tv 0) : Int32).toInt ≤ 400 ∧ 0 ≤ (sv_318 : Int32).toInt ∧ (sv_318 : Int32).toInt ≤ 400 ∧ 0 ≤ (sv_319 : Int32).toInt ∧ (sv_319 : Int32).toInt ≤ 400 := pf_322
                have pf_323 : 0 ≤ (sv_315 : Int32).toInt ∧ (sv_315 : Int32).toInt ≤ 400 := pf_323
                have pf_324 : TpR (Tf 1) (Tv 0) (pz_b ro_309 (pz_fact (cB (Tf 1) (Tv 0)) 6)) sv_318 sv_319 sv_320 sv_321 := pf_324
                obtain ⟨ro_326, ero_326⟩ : ∃ z : Except Int (Nat × Nat), z = (pz_b ro_309 (pz_fact (cB (Tf 1) (Tv 0)) 6)) := ⟨_, rfl⟩
                rw [← ero_326] at pf_324
                have tb_327 : TpB (rTE (cB (Tf 1) (Tv 0)) ro_326) sv_319 sv_321 := TpR.tb pf_324
                have pf_325 : Ctd (pz_b ro_309 (pz_fact (cB (Tf 1) (Tv 0)) 6)) sv_316 := pf_325
                rw [← ero_326] at pf_325
                refine W.eq (g2 := F0 m 70 ls []) rfl ?_
                replace hP : va_P D classes [((Va 0), .inr (7, [.ref (Va 1), .int sv_315, .int sv_316])), ((Va 1), .inl (tc 0, 400, .inl sv_317)), ((Ta 0), .inr (10, [.ref (Ta 1), .int (Tv 0), .int sv_318, .int sv_319, .int sv_320, .int sv_321])), ((Ta 1), .inl (tc 0, 400, .inl (Tf 1)))] H := hP₀
                replace hD : va_D A [((Va 0), .inr (7, [.ref (Va 1), .int sv_315, .int sv_316])), ((Va 1), .inl (tc 0, 400, .inl sv_317)), ((Ta 0), .inr (10, [.ref (Ta 1), .int (Tv 0), .int sv_318, .int sv_319, .int sv_320, .int sv_321])), ((Ta 1), .inl (tc 0, 400, .inl (Tf 1)))] := hD₀
                replace hS := hS₀
                clear hP₀ hD₀ hS₀
                refine lv_iload hx hb dX7_readTest_70 (lv_at hl 0 rfl) ?_
                refine lv_if_eq (tgt := 80) hx hb dX7_readTest_72 (by decide) (fun c_328 => ?_) (fun c_328 => ?_)
                · skip
                  exfalso
                  have z_1 := Int32.lt_iff_toInt_lt.mp (Int32.not_le.mp c_50)
                  have z_2 := congrArg Int32.toInt c_75
                  have z_3 : ¬ (r_216 : Int32).toInt = (0 : Int32).toInt := fun z => c_221 (Int32.toInt_inj.mp z)
                  have z_4 : ¬ (r_249 : Int32).toInt = (0 : Int32).toInt := fun z => c_254 (Int32.toInt_inj.mp z)
                  have z_5 := congrArg Int32.toInt c_300
                  have z_6 := congrArg Int32.toInt c_328
                  have y_0 : (0 : Int32).toInt = 0 := by decide
                  have y_400 : (400 : Int32).toInt = 400 := by decide
                  omega
                · skip
                  refine lv_iconst (v := 1) hx hb dX7_readTest_75 (by decide) ?_
                  refine lv_istore_n (lv' := [(3, .int 1), (5, .int r_249), (4, .int vy_27), (0, .ref (Va 0)), (1, .ref (Ta 0)), (2, .int 4)]) hx hb dX7_readTest_76 rfl hl (by decide) rfl (fun ls hl₀ => ?_)
                  replace hl := hl₀
                  clear hl₀
                  refine lv_goto (tgt := 86) hx hb dX7_readTest_77 (by decide) ?_
                  obtain ⟨x_329, ex_329⟩ : ∃ y : Int32, y = vy_27 + 1 := ⟨_, rfl⟩
                  refine lv_iinc (v := x_329) (lv' := [(4, .int x_329), (3, .int 1), (5, .int r_249), (0, .ref (Va 0)), (1, .ref (Ta 0)), (2, .int 4)]) hx hb dX7_readTest_86 hl (k := 2) rfl (by rw [ex_329]; rfl) (by decide) rfl (fun ls hl₀ => ?_)
                  replace hl := hl₀
                  clear hl₀
                  refine lv_goto (tgt := 11) hx hb dX7_readTest_89 (by decide) ?_
                  have hb_330 : 401 - (x_329 : Int32).toInt < 401 - (vy_27 : Int32).toInt ∧ 1 ≤ 401 - (vy_27 : Int32).toInt := by
                    have z_1 := Int32.lt_iff_toInt_lt.mp (Int32.not_le.mp c_50)
                    have z_2 := congrArg Int32.toInt c_75
                    have z_3 : ¬ (r_216 : Int32).toInt = (0 : Int32).toInt := fun z => c_221 (Int32.toInt_inj.mp z)
                    have z_4 : ¬ (r_249 : Int32).toInt = (0 : Int32).toInt := fun z => c_254 (Int32.toInt_inj.mp z)
                    have z_5 := congrArg Int32.toInt c_300
                    have z_6 : ¬ (r_249 : Int32).toInt = (0 : Int32).toInt := fun z => c_328 (Int32.toInt_inj.mp z)
                    have y_0 : (0 : Int32).toInt = 0 := by decide
                    have y_400 : (400 : Int32).toInt = 400 := by decide
                    have y_1 : (1 : Int32).toInt = 1 := by decide
                    have t_x_329 : x_329.toInt = (vy_27 : Int32).toInt + (1 : Int32).toInt := by rw [ex_329]; exact add_toInt (by omega) (by omega)
                    omega
                  have ha_331 : 0 ≤ (x_329 : Int32).toInt ∧ (x_329 : Int32).toInt ≤ 400 := by
                    have z_1 := Int32.lt_iff_toInt_lt.mp (Int32.not_le.mp c_50)
                    have z_2 := congrArg Int32.toInt c_75
                    have z_3 : ¬ (r_216 : Int32).toInt = (0 : Int32).toInt := fun z => c_221 (Int32.toInt_inj.mp z)
                    have z_4 : ¬ (r_249 : Int32).toInt = (0 : Int32).toInt := fun z => c_254 (Int32.toInt_inj.mp z)
                    have z_5 := congrArg Int32.toInt c_300
                    have z_6 : ¬ (r_249 : Int32).toInt = (0 : Int32).toInt := fun z => c_328 (Int32.toInt_inj.mp z)
                    have y_0 : (0 : Int32).toInt = 0 := by decide
                    have y_400 : (400 : Int32).toInt = 400 := by decide
                    have y_1 : (1 : Int32).toInt = 1 := by decide
                    have t_x_329 : x_329.toInt = (vy_27 : Int32).toInt + (1 : Int32).toInt := by rw [ex_329]; exact add_toInt (by omega) (by omega)
                    omega
                  have hu_332 : TpR (Tf 1) (Tv 0) (pz_b (rNX (cB (Tf 1) (Tv 0)) rq_44) (pz_fact (cB (Tf 1) (Tv 0)) 6)) sv_318 sv_319 sv_320 sv_321 := by
                    rw [← ero_309, ← ero_326]
                    exact pf_324
                  have hu_333 : Ctd (pz_b (rNX (cB (Tf 1) (Tv 0)) rq_44) (pz_fact (cB (Tf 1) (Tv 0)) 6)) sv_316 := by
                    rw [← ero_309, ← ero_326]
                    exact pf_325
                  have hw_334 : TWd (cB (Tf 1) (Tv 0)) pz_or rq_44 := by
                    rw [← wS6]
                    exact pf_298
                  have hi_335 : (x_329 : Int32).toInt = (vy_27 : Int32).toInt + 1 := by
                    have z_1 := Int32.lt_iff_toInt_lt.mp (Int32.not_le.mp c_50)
                    have z_2 := congrArg Int32.toInt c_75
                    have z_3 : ¬ (r_216 : Int32).toInt = (0 : Int32).toInt := fun z => c_221 (Int32.toInt_inj.mp z)
                    have z_4 : ¬ (r_249 : Int32).toInt = (0 : Int32).toInt := fun z => c_254 (Int32.toInt_inj.mp z)
                    have z_5 := congrArg Int32.toInt c_300
                    have z_6 : ¬ (r_249 : Int32).toInt = (0 : Int32).toInt := fun z => c_328 (Int32.toInt_inj.mp z)
                    have y_0 : (0 : Int32).toInt = 0 := by decide
                    have y_400 : (400 : Int32).toInt = 400 := by decide
                    have y_1 : (1 : Int32).toInt = 1 := by decide
                    have t_x_329 : x_329.toInt = (vy_27 : Int32).toInt + (1 : Int32).toInt := by rw [ex_329]; exact add_toInt (by omega) (by omega)
                    omega
                  exact ih_37 x_329 sv_315 sv_316 sv_317 sv_318 sv_319 sv_320 sv_321 1 _ _ _ (by omega) ha_331 pf_322 pf_323 (TeL.next h_tape.2.1 pf_47 pf_48 (Or.inr hw_334) hu_332 hu_333 hi_335) (hP.sub [0, 1, 2, 3] rfl) (hD.sub [0, 1, 2, 3] rfl rfl) hS (lv_sub hl [0, 1, 3, 4, 5] rfl)
              · skip
                refine lv_aload_n hx hb dX7_readTest_54 rfl (lv_at hl 3 rfl) ?_
                refine lv_bipush (v := (-6)) hx hb dX7_readTest_55 (by decide) ?_
                refine cV (a := (Va 0)) (As := [.int (-6)]) (rest := []) (wr := [((Ta 0), .inr (10, [.ref (Ta 1), .int (Tv 0), .int vy_31, .int vy_32, .int vy_33, .int vy_34])), ((Ta 1), .inl (tc 0, 400, .inl (Tf 1)))]) ⟨hx, hb, hml, hown, hts⟩ hK hX hA (cu_fX7_put l D tc sk (Va 0) (Va 1) vy_28 vy_29 vy_30 (-6) pf_41) k_642 k_639 k_641 k_10 k_99 pl_X7_put ⟨Nat.le_of_ble_eq_true rfl, Nat.le_of_ble_eq_true rfl⟩ rfl rfl (va_recv hK hP (ci := 7) (q0 := 0) rfl rfl) hP hD hS [0, 1] [2, 3] rfl rfl rfl rfl rfl (by decide) rfl hl.1 rfl (Nat.le_of_ble_eq_true rfl) dX7_readTest_57 ⟨Nat.le_of_ble_eq_true rfl, Nat.le_of_ble_eq_true rfl⟩ (fun v_336 u_337 H locs hv_338 hP₀ hD₀ hS₀ => ?_)
                obtain ⟨sv_339, sv_340⟩ := u_337
                obtain ⟨rfl, pf_341⟩ := hv_338
                have pf_341 : 0 ≤ (sv_339 : Int32).toInt ∧ (sv_339 : Int32).toInt ≤ 400 := pf_341
                refine W.eq (g2 := F0 m 60 ls []) rfl ?_
                replace hP : va_P D classes [((Ta 0), .inr (10, [.ref (Ta 1), .int (Tv 0), .int vy_31, .int vy_32, .int vy_33, .int vy_34])), ((Ta 1), .inl (tc 0, 400, .inl (Tf 1))), ((Va 0), .inr (7, [.ref (Va 1), .int sv_339, .int vy_29])), ((Va 1), .inl (tc 0, 400, .inl sv_340))] H := hP₀
                replace hD : va_D A [((Ta 0), .inr (10, [.ref (Ta 1), .int (Tv 0), .int vy_31, .int vy_32, .int vy_33, .int vy_34])), ((Ta 1), .inl (tc 0, 400, .inl (Tf 1))), ((Va 0), .inr (7, [.ref (Va 1), .int sv_339, .int vy_29])), ((Va 1), .inl (tc 0, 400, .inl sv_340))] := hD₀
                replace hS := hS₀
                clear hP₀ hD₀ hS₀
                refine lv_aload_n hx hb dX7_readTest_60 rfl (lv_at hl 4 rfl) ?_
                refine cV (a := (Ta 0)) (As := []) (rest := []) (wr := [((Va 0), .inr (7, [.ref (Va 1), .int sv_339, .int vy_29])), ((Va 1), .inl (tc 0, 400, .inl sv_340))]) ⟨hx, hb, hml, hown, hts⟩ hK hX hA (cu_fX10_step l D tc sk (Ta 0) (Ta 1) (Tv 0) vy_31 vy_32 vy_33 vy_34 (Tf 1) (rTE (cB (Tf 1) (Tv 0)) rq_44) pf_40 h_by tb_49) k_478 k_620 k_476 k_477 k_96 pl_X10_step ⟨Nat.le_of_ble_eq_true rfl, Nat.le_of_ble_eq_true rfl⟩ rfl rfl (va_recv hK hP (ci := 10) (q0 := 0) rfl rfl) hP hD hS [0, 1] [2, 3] rfl rfl rfl rfl rfl (by decide) rfl hl.1 rfl (Nat.le_of_ble_eq_true rfl) dX7_readTest_61 ⟨Nat.le_of_ble_eq_true rfl, Nat.le_of_ble_eq_true rfl⟩ (fun v_342 u_343 H locs hv_344 hP₀ hD₀ hS₀ => ?_)
                obtain ⟨sv_345, sv_346, sv_347⟩ := u_343
                obtain ⟨rfl, pf_348, pf_349⟩ := hv_344
                have pf_348 : 0 ≤ ((Tv 0) : Int32).toInt ∧ ((Tv 0) : Int32).toInt ≤ 400 ∧ 0 ≤ (sv_345 : Int32).toInt ∧ (sv_345 : Int32).toInt ≤ 400 ∧ 0 ≤ (sv_346 : Int32).toInt ∧ (sv_346 : Int32).toInt ≤ 400 := pf_348
                have pf_349 : TpR (Tf 1) (Tv 0) (rSK (cB (Tf 1) (Tv 0)) (rTE (cB (Tf 1) (Tv 0)) rq_44)) sv_345 sv_346 sv_347 vy_34 := pf_349
                rw [rNX_eq] at pf_349
                obtain ⟨ro_350, ero_350⟩ : ∃ z : Except Int (Nat × Nat), z = (rNX (cB (Tf 1) (Tv 0)) rq_44) := ⟨_, rfl⟩
                rw [← ero_350] at pf_349
                have tb_351 : TpB (rTE (cB (Tf 1) (Tv 0)) ro_350) sv_346 vy_34 := TpR.tb pf_349
                have cd_352 : Ctd ro_350 vy_29 := by rw [ero_350]; exact (Ctd.nx pf_46)
                refine W.eq (g2 := F0 m 64 ls []) rfl ?_
                replace hP : va_P D classes [((Va 0), .inr (7, [.ref (Va 1), .int sv_339, .int vy_29])), ((Va 1), .inl (tc 0, 400, .inl sv_340)), ((Ta 0), .inr (10, [.ref (Ta 1), .int (Tv 0), .int sv_345, .int sv_346, .int sv_347, .int vy_34])), ((Ta 1), .inl (tc 0, 400, .inl (Tf 1)))] H := hP₀
                replace hD : va_D A [((Va 0), .inr (7, [.ref (Va 1), .int sv_339, .int vy_29])), ((Va 1), .inl (tc 0, 400, .inl sv_340)), ((Ta 0), .inr (10, [.ref (Ta 1), .int (Tv 0), .int sv_345, .int sv_346, .int sv_347, .int vy_34])), ((Ta 1), .inl (tc 0, 400, .inl (Tf 1)))] := hD₀
                replace hS := hS₀
                clear hP₀ hD₀ hS₀
                refine lv_aload_n hx hb dX7_readTest_64 rfl (lv_at hl 3 rfl) ?_
                refine lv_aload_n hx hb dX7_readTest_65 rfl (lv_at hl 4 rfl) ?_
                refine lv_iload_n hx hb dX7_readTest_66 rfl (lv_at hl 5 rfl) ?_
                refine cV (a := (Va 0)) (As := [.ref (Ta 0), .int 4]) (rest := []) (wr := []) ⟨hx, hb, hml, hown, hts⟩ hK hX hA (cu_fX7_readFact_4 l D tc sk (Va 0) (Va 1) sv_339 vy_29 sv_340 (Ta 0) (Ta 1) (Tv 0) sv_345 sv_346 sv_347 vy_34 (Tf 1) ro_350 pf_348 pf_341 h_by pf_349 cd_352) k_659 k_656 k_658 k_12 k_99 pl_X7_readFact ⟨Nat.le_of_ble_eq_true rfl, Nat.le_of_ble_eq_true rfl⟩ rfl rfl (va_recv hK hP (ci := 7) (q0 := 0) rfl rfl) hP hD hS [0, 1, 2, 3] [] rfl rfl rfl rfl rfl (by decide) rfl hl.1 rfl (Nat.le_of_ble_eq_true rfl) dX7_readTest_67 ⟨Nat.le_of_ble_eq_true rfl, Nat.le_of_ble_eq_true rfl⟩ (fun v_353 u_354 H locs hv_355 hP₀ hD₀ hS₀ => ?_)
                obtain ⟨sv_356, sv_357, sv_358, sv_359, sv_360, sv_361, sv_362⟩ := u_354
                obtain ⟨rfl, pf_363, pf_364, pf_365, pf_366⟩ := hv_355
                have pf_363 : 0 ≤ ((Tv 0) : Int32).toInt ∧ ((Tv 0) : Int32).toInt ≤ 400 ∧ 0 ≤ (sv_359 : Int32).toInt ∧ (sv_359 : Int32).toInt ≤ 400 ∧ 0 ≤ (sv_360 : Int32).toInt ∧ (sv_360 : Int32).toInt ≤ 400 := pf_363
                have pf_364 : 0 ≤ (sv_356 : Int32).toInt ∧ (sv_356 : Int32).toInt ≤ 400 := pf_364
                have pf_365 : TpR (Tf 1) (Tv 0) (pz_b ro_350 (pz_fact (cB (Tf 1) (Tv 0)) 6)) sv_359 sv_360 sv_361 sv_362 := pf_365
                obtain ⟨ro_367, ero_367⟩ : ∃ z : Except Int (Nat × Nat), z = (pz_b ro_350 (pz_fact (cB (Tf 1) (Tv 0)) 6)) := ⟨_, rfl⟩
                rw [← ero_367] at pf_365
                have tb_368 : TpB (rTE (cB (Tf 1) (Tv 0)) ro_367) sv_360 sv_362 := TpR.tb pf_365
                have pf_366 : Ctd (pz_b ro_350 (pz_fact (cB (Tf 1) (Tv 0)) 6)) sv_357 := pf_366
                rw [← ero_367] at pf_366
                refine W.eq (g2 := F0 m 70 ls []) rfl ?_
                replace hP : va_P D classes [((Va 0), .inr (7, [.ref (Va 1), .int sv_356, .int sv_357])), ((Va 1), .inl (tc 0, 400, .inl sv_358)), ((Ta 0), .inr (10, [.ref (Ta 1), .int (Tv 0), .int sv_359, .int sv_360, .int sv_361, .int sv_362])), ((Ta 1), .inl (tc 0, 400, .inl (Tf 1)))] H := hP₀
                replace hD : va_D A [((Va 0), .inr (7, [.ref (Va 1), .int sv_356, .int sv_357])), ((Va 1), .inl (tc 0, 400, .inl sv_358)), ((Ta 0), .inr (10, [.ref (Ta 1), .int (Tv 0), .int sv_359, .int sv_360, .int sv_361, .int sv_362])), ((Ta 1), .inl (tc 0, 400, .inl (Tf 1)))] := hD₀
                replace hS := hS₀
                clear hP₀ hD₀ hS₀
                refine lv_iload hx hb dX7_readTest_70 (lv_at hl 0 rfl) ?_
                refine lv_if_eq (tgt := 80) hx hb dX7_readTest_72 (by decide) (fun c_369 => ?_) (fun c_369 => ?_)
                · skip
                  exfalso
                  have z_1 := Int32.lt_iff_toInt_lt.mp (Int32.not_le.mp c_50)
                  have z_2 := congrArg Int32.toInt c_75
                  have z_3 : ¬ (r_216 : Int32).toInt = (0 : Int32).toInt := fun z => c_221 (Int32.toInt_inj.mp z)
                  have z_4 : ¬ (r_249 : Int32).toInt = (0 : Int32).toInt := fun z => c_254 (Int32.toInt_inj.mp z)
                  have z_5 : ¬ (vy_35 : Int32).toInt = (0 : Int32).toInt := fun z => c_300 (Int32.toInt_inj.mp z)
                  have z_6 := congrArg Int32.toInt c_369
                  have y_0 : (0 : Int32).toInt = 0 := by decide
                  have y_400 : (400 : Int32).toInt = 400 := by decide
                  omega
                · skip
                  refine lv_iconst (v := 1) hx hb dX7_readTest_75 (by decide) ?_
                  refine lv_istore_n (lv' := [(3, .int 1), (5, .int r_249), (4, .int vy_27), (0, .ref (Va 0)), (1, .ref (Ta 0)), (2, .int 4)]) hx hb dX7_readTest_76 rfl hl (by decide) rfl (fun ls hl₀ => ?_)
                  replace hl := hl₀
                  clear hl₀
                  refine lv_goto (tgt := 86) hx hb dX7_readTest_77 (by decide) ?_
                  obtain ⟨x_370, ex_370⟩ : ∃ y : Int32, y = vy_27 + 1 := ⟨_, rfl⟩
                  refine lv_iinc (v := x_370) (lv' := [(4, .int x_370), (3, .int 1), (5, .int r_249), (0, .ref (Va 0)), (1, .ref (Ta 0)), (2, .int 4)]) hx hb dX7_readTest_86 hl (k := 2) rfl (by rw [ex_370]; rfl) (by decide) rfl (fun ls hl₀ => ?_)
                  replace hl := hl₀
                  clear hl₀
                  refine lv_goto (tgt := 11) hx hb dX7_readTest_89 (by decide) ?_
                  have hb_371 : 401 - (x_370 : Int32).toInt < 401 - (vy_27 : Int32).toInt ∧ 1 ≤ 401 - (vy_27 : Int32).toInt := by
                    have z_1 := Int32.lt_iff_toInt_lt.mp (Int32.not_le.mp c_50)
                    have z_2 := congrArg Int32.toInt c_75
                    have z_3 : ¬ (r_216 : Int32).toInt = (0 : Int32).toInt := fun z => c_221 (Int32.toInt_inj.mp z)
                    have z_4 : ¬ (r_249 : Int32).toInt = (0 : Int32).toInt := fun z => c_254 (Int32.toInt_inj.mp z)
                    have z_5 : ¬ (vy_35 : Int32).toInt = (0 : Int32).toInt := fun z => c_300 (Int32.toInt_inj.mp z)
                    have z_6 : ¬ (r_249 : Int32).toInt = (0 : Int32).toInt := fun z => c_369 (Int32.toInt_inj.mp z)
                    have y_0 : (0 : Int32).toInt = 0 := by decide
                    have y_400 : (400 : Int32).toInt = 400 := by decide
                    have y_1 : (1 : Int32).toInt = 1 := by decide
                    have t_x_370 : x_370.toInt = (vy_27 : Int32).toInt + (1 : Int32).toInt := by rw [ex_370]; exact add_toInt (by omega) (by omega)
                    omega
                  have ha_372 : 0 ≤ (x_370 : Int32).toInt ∧ (x_370 : Int32).toInt ≤ 400 := by
                    have z_1 := Int32.lt_iff_toInt_lt.mp (Int32.not_le.mp c_50)
                    have z_2 := congrArg Int32.toInt c_75
                    have z_3 : ¬ (r_216 : Int32).toInt = (0 : Int32).toInt := fun z => c_221 (Int32.toInt_inj.mp z)
                    have z_4 : ¬ (r_249 : Int32).toInt = (0 : Int32).toInt := fun z => c_254 (Int32.toInt_inj.mp z)
                    have z_5 : ¬ (vy_35 : Int32).toInt = (0 : Int32).toInt := fun z => c_300 (Int32.toInt_inj.mp z)
                    have z_6 : ¬ (r_249 : Int32).toInt = (0 : Int32).toInt := fun z => c_369 (Int32.toInt_inj.mp z)
                    have y_0 : (0 : Int32).toInt = 0 := by decide
                    have y_400 : (400 : Int32).toInt = 400 := by decide
                    have y_1 : (1 : Int32).toInt = 1 := by decide
                    have t_x_370 : x_370.toInt = (vy_27 : Int32).toInt + (1 : Int32).toInt := by rw [ex_370]; exact add_toInt (by omega) (by omega)
                    omega
                  have hu_373 : TpR (Tf 1) (Tv 0) (pz_b (rNX (cB (Tf 1) (Tv 0)) rq_44) (pz_fact (cB (Tf 1) (Tv 0)) 6)) sv_359 sv_360 sv_361 sv_362 := by
                    rw [← ero_350, ← ero_367]
                    exact pf_365
                  have hu_374 : Ctd (pz_b (rNX (cB (Tf 1) (Tv 0)) rq_44) (pz_fact (cB (Tf 1) (Tv 0)) 6)) sv_357 := by
                    rw [← ero_350, ← ero_367]
                    exact pf_366
                  have hw_375 : TWd (cB (Tf 1) (Tv 0)) pz_or rq_44 := by
                    rw [← wS6]
                    exact pf_298
                  have hi_376 : (x_370 : Int32).toInt = (vy_27 : Int32).toInt + 1 := by
                    have z_1 := Int32.lt_iff_toInt_lt.mp (Int32.not_le.mp c_50)
                    have z_2 := congrArg Int32.toInt c_75
                    have z_3 : ¬ (r_216 : Int32).toInt = (0 : Int32).toInt := fun z => c_221 (Int32.toInt_inj.mp z)
                    have z_4 : ¬ (r_249 : Int32).toInt = (0 : Int32).toInt := fun z => c_254 (Int32.toInt_inj.mp z)
                    have z_5 : ¬ (vy_35 : Int32).toInt = (0 : Int32).toInt := fun z => c_300 (Int32.toInt_inj.mp z)
                    have z_6 : ¬ (r_249 : Int32).toInt = (0 : Int32).toInt := fun z => c_369 (Int32.toInt_inj.mp z)
                    have y_0 : (0 : Int32).toInt = 0 := by decide
                    have y_400 : (400 : Int32).toInt = 400 := by decide
                    have y_1 : (1 : Int32).toInt = 1 := by decide
                    have t_x_370 : x_370.toInt = (vy_27 : Int32).toInt + (1 : Int32).toInt := by rw [ex_370]; exact add_toInt (by omega) (by omega)
                    omega
                  exact ih_37 x_370 sv_356 sv_357 sv_358 sv_359 sv_360 sv_361 sv_362 1 _ _ _ (by omega) ha_372 pf_363 pf_364 (TeL.next h_tape.2.1 pf_47 pf_48 (Or.inr hw_375) hu_373 hu_374 hi_376) (hP.sub [0, 1, 2, 3] rfl) (hD.sub [0, 1, 2, 3] rfl rfl) hS (lv_sub hl [0, 1, 3, 4, 5] rfl)
  have ha_377 : 0 ≤ (0 : Int32).toInt ∧ (0 : Int32).toInt ≤ 400 := by
    have y_0 : (0 : Int32).toInt = 0 := by decide
    omega
  have hu_378 : TpR (Tf 1) (Tv 0) (pz_b rr (pz_fact (cB (Tf 1) (Tv 0)) 6)) sv_8 sv_9 sv_10 sv_11 := by
    rw [← ero_16]
    exact pf_14
  have hu_379 : Ctd (pz_b rr (pz_fact (cB (Tf 1) (Tv 0)) 6)) sv_6 := by
    rw [← ero_16]
    exact pf_15
  exact loop_38 _ 0 sv_5 sv_6 sv_7 sv_8 sv_9 sv_10 sv_11 0 _ _ _ (Nat.lt_succ_self _) ha_377 pf_12 pf_13 (TeL.first hu_378 hu_379) hP hD hS hl
set_option maxRecDepth 100000 in
theorem cu_fX7_readTest_4 (l : Launch) (D : va_G) (tc : Nat → ClassId) (sk : (Nat → Nat) × (Nat → Nat)) (Va_0 : Nat) (Va_1 : Nat) (Vv_0 : Int32) (Vv_1 : Int32) (Vf_1 : Nat → Int32) (Ta_0 : Nat) (Ta_1 : Nat) (Tv_0 : Int32) (Tv_1 : Int32) (Tv_2 : Int32) (Tv_3 : Int32) (Tv_4 : Int32) (Tf_1 : Nat → Int32) (rr : Except Int (Nat × Nat)) (h_tape : 0 ≤ (Tv_0 : Int32).toInt ∧ (Tv_0 : Int32).toInt ≤ 400 ∧ 0 ≤ (Tv_1 : Int32).toInt ∧ (Tv_1 : Int32).toInt ≤ 400 ∧ 0 ≤ (Tv_2 : Int32).toInt ∧ (Tv_2 : Int32).toInt ≤ 400) (h_u : 0 ≤ (Vv_0 : Int32).toInt ∧ (Vv_0 : Int32).toInt ≤ 400) (h_by : Byt Tf_1) (h_r : TpR Tf_1 Tv_0 rr Tv_1 Tv_2 Tv_3 Tv_4) (h_ct : Ctd rr Vv_1) : Ct l yX7_readTest cX7_readTest 6 none { frames := 21, cells := 0, slots := 0, locals := 498 } D tc sk [.ref Va_0, .ref Ta_0, .int 4] [(Va_0, .inr (7, [.ref Va_1, .int Vv_0, .int Vv_1])), (Va_1, .inl (tc 0, 400, .inl Vf_1)), (Ta_0, .inr (10, [.ref Ta_1, .int Tv_0, .int Tv_1, .int Tv_2, .int Tv_3, .int Tv_4])), (Ta_1, .inl (tc 0, 400, .inl Tf_1))] (fun (v : Option Value) (u : (Int32) × (Int32) × (Nat → Int32) × (Int32) × (Int32) × (Int32) × (Int32)) => match u with | (oo0x1, oo0x2, oo0x3, oo0x4, oo0x5, oo0x6, oo0x7) => v = none ∧ (0 ≤ (Tv_0 : Int32).toInt ∧ (Tv_0 : Int32).toInt ≤ 400 ∧ 0 ≤ (oo0x4 : Int32).toInt ∧ (oo0x4 : Int32).toInt ≤ 400 ∧ 0 ≤ (oo0x5 : Int32).toInt ∧ (oo0x5 : Int32).toInt ≤ 400) ∧ (0 ≤ (oo0x1 : Int32).toInt ∧ (oo0x1 : Int32).toInt ≤ 400) ∧ (TpR Tf_1 Tv_0 (pz_b rr (pz_tst (cB Tf_1 Tv_0) (pz_fact (cB Tf_1 Tv_0) 6))) oo0x4 oo0x5 oo0x6 oo0x7) ∧ (Ctd (pz_b rr (pz_tst (cB Tf_1 Tv_0) (pz_fact (cB Tf_1 Tv_0) 6))) oo0x2)) (fun (u : (Int32) × (Int32) × (Nat → Int32) × (Int32) × (Int32) × (Int32) × (Int32)) => match u with | (oo0x1, oo0x2, oo0x3, oo0x4, oo0x5, oo0x6, oo0x7) => [(Va_0, .inr (7, [.ref Va_1, .int oo0x1, .int oo0x2])), (Va_1, .inl (tc 0, 400, .inl oo0x3)), (Ta_0, .inr (10, [.ref Ta_1, .int Tv_0, .int oo0x4, .int oo0x5, .int oo0x6, .int oo0x7])), (Ta_1, .inl (tc 0, 400, .inl Tf_1))]) 0 0 :=
  ct_fX7_readTest_4 l D tc sk (fun k => ([Va_0, Va_1] : List (Nat)).getD k 0) (fun k => ([Vv_0, Vv_1] : List (Int32)).getD k 0) (fun k => ([(fun _ => 0), Vf_1] : List (Nat → Int32)).getD k (fun _ => 0)) (fun k => ([Ta_0, Ta_1] : List (Nat)).getD k 0) (fun k => ([Tv_0, Tv_1, Tv_2, Tv_3, Tv_4] : List (Int32)).getD k 0) (fun k => ([(fun _ => 0), Tf_1] : List (Nat → Int32)).getD k (fun _ => 0)) rr h_tape h_u h_by h_r h_ct
