set_option maxHeartbeats 4000000 in
set_option maxRecDepth 100000 in
theorem ct_X7_readFact_5 (l : Launch) (D : va_G) (tc : Nat → ClassId) (sk : (Nat → Nat) × (Nat → Nat)) (Va : Nat → Nat) (Vv : Nat → Int32) (Vf : Nat → Nat → Int32) (Ta : Nat → Nat) (Tv : Nat → Int32) (Tf : Nat → Nat → Int32) (h_tape : 0 ≤ ((Tv 0) : Int32).toInt ∧ ((Tv 0) : Int32).toInt ≤ 400 ∧ 0 ≤ ((Tv 1) : Int32).toInt ∧ ((Tv 1) : Int32).toInt ≤ 400 ∧ 0 ≤ ((Tv 2) : Int32).toInt ∧ ((Tv 2) : Int32).toInt ≤ 400) : Ct l yX7_readFact cX7_readFact 5 none { frames := 18, cells := 0, slots := 0, locals := 425 } D tc sk [.ref (Va 0), .ref (Ta 0), .int 5] [((Va 0), .inr (7, [.ref (Va 1), .int (Vv 0), .int (Vv 1)])), ((Va 1), .inl (tc 0, 400, .inl (Vf 1))), ((Ta 0), .inr (10, [.ref (Ta 1), .int (Tv 0), .int (Tv 1), .int (Tv 2), .int (Tv 3), .int (Tv 4)])), ((Ta 1), .inl (tc 0, 400, .inl (Tf 1)))] (fun (v : Option Value) (u : (Int32) × (Int32) × (Nat → Int32) × (Int32) × (Int32) × (Int32) × (Int32)) => match u with | (o1, o2, o3, o4, o5, o6, o7) => v = none ∧ (0 ≤ ((Tv 0) : Int32).toInt ∧ ((Tv 0) : Int32).toInt ≤ 400 ∧ 0 ≤ (o4 : Int32).toInt ∧ (o4 : Int32).toInt ≤ 400 ∧ 0 ≤ (o5 : Int32).toInt ∧ (o5 : Int32).toInt ≤ 400)) (fun (u : (Int32) × (Int32) × (Nat → Int32) × (Int32) × (Int32) × (Int32) × (Int32)) => match u with | (o1, o2, o3, o4, o5, o6, o7) => [((Va 0), .inr (7, [.ref (Va 1), .int o1, .int o2])), ((Va 1), .inl (tc 0, 400, .inl o3)), ((Ta 0), .inr (10, [.ref (Ta 1), .int (Tv 0), .int o4, .int o5, .int o6, .int o7])), ((Ta 1), .inl (tc 0, 400, .inl (Tf 1)))]) 0 0 := by
  refine Ct.start (by decide) (Nat.le_of_ble_eq_true rfl) (fun p e s m below meth c A ls hx hb hr hlk hin hml hown hts hK hX hP hD hA hl hS => ?_)
  have hl : lv_has ls 5 [(0, .ref (Va 0)), (1, .ref (Ta 0)), (2, .int 5)] := hl
  refine lv_aload_n hx hb dX7_readFact_0 rfl (lv_at hl 1 rfl) ?_
  refine va_ldcS hx hb hown (sx_4 hX) dX7_readFact_1 ?_
  have hh_1 : (4 : Nat) < 7 := by
    have y_4 : (4 : Int32).toInt = 4 := by decide
    omega
  refine cV (a := (Ta 0)) (As := [.ref (sk.1 4)]) (rest := []) (wr := [((Va 0), .inr (7, [.ref (Va 1), .int (Vv 0), .int (Vv 1)])), ((Va 1), .inl (tc 0, 400, .inl (Vf 1)))]) ⟨hx, hb, hml, hown, hts⟩ hK hX hA (cu_X10_isWord l D tc sk (Ta 0) (Ta 1) (Tv 0) (Tv 1) (Tv 2) (Tv 3) (Tv 4) (Tf 1) 4 hh_1 h_tape) k_618 k_615 k_616 k_617 k_96 pl_X10_isWord ⟨Nat.le_of_ble_eq_true rfl, Nat.le_of_ble_eq_true rfl⟩ rfl rfl (va_recv hK hP (ci := 10) (q0 := 2) rfl rfl) hP hD hS [2, 3] [0, 1] rfl rfl rfl rfl rfl (by decide) rfl hl.1 rfl (Nat.le_of_ble_eq_true rfl) dX7_readFact_3 ⟨Nat.le_of_ble_eq_true rfl, Nat.le_of_ble_eq_true rfl⟩ (fun v_2 u_3 H locs hv_4 hP₀ hD₀ hS₀ => ?_)
  obtain ⟨r_5, rfl, he_6⟩ := hv_4
  have he_6 : ((r_5.toInt = 0 ∨ r_5.toInt = 1)) ∧ (0 ≤ ((Tv 0) : Int32).toInt ∧ ((Tv 0) : Int32).toInt ≤ 400 ∧ 0 ≤ ((Tv 1) : Int32).toInt ∧ ((Tv 1) : Int32).toInt ≤ 400 ∧ 0 ≤ ((Tv 2) : Int32).toInt ∧ ((Tv 2) : Int32).toInt ≤ 400) := he_6
  refine W.eq (g2 := F0 m 6 ls [.int r_5]) rfl ?_
  replace hP : va_P D classes [((Va 0), .inr (7, [.ref (Va 1), .int (Vv 0), .int (Vv 1)])), ((Va 1), .inl (tc 0, 400, .inl (Vf 1))), ((Ta 0), .inr (10, [.ref (Ta 1), .int (Tv 0), .int (Tv 1), .int (Tv 2), .int (Tv 3), .int (Tv 4)])), ((Ta 1), .inl (tc 0, 400, .inl (Tf 1)))] H := hP₀
  replace hD : va_D A [((Va 0), .inr (7, [.ref (Va 1), .int (Vv 0), .int (Vv 1)])), ((Va 1), .inl (tc 0, 400, .inl (Vf 1))), ((Ta 0), .inr (10, [.ref (Ta 1), .int (Tv 0), .int (Tv 1), .int (Tv 2), .int (Tv 3), .int (Tv 4)])), ((Ta 1), .inl (tc 0, 400, .inl (Tf 1)))] := hD₀
  replace hS := hS₀
  clear hP₀ hD₀ hS₀
  refine lv_istore_n (lv' := [(3, .int r_5), (0, .ref (Va 0)), (1, .ref (Ta 0)), (2, .int 5)]) hx hb dX7_readFact_6 rfl hl (by decide) rfl (fun ls hl₀ => ?_)
  replace hl := hl₀
  clear hl₀
  refine lv_iload_n hx hb dX7_readFact_7 rfl (lv_at hl 0 rfl) ?_
  refine lv_if_ne (tgt := 20) hx hb dX7_readFact_8 (by decide) (fun c_7 => ?_) (fun c_7 => ?_)
  · skip
    refine lv_iload_n hx hb dX7_readFact_20 rfl (lv_at hl 3 rfl) ?_
    refine lv_bipush (v := 10) hx hb dX7_readFact_21 (by decide) ?_
    refine lv_icmp_lt (tgt := 34) hx hb dX7_readFact_23 (by decide) (fun c_8 => ?_) (fun c_8 => absurd c_8 (by decide))
    refine lv_iload_n hx hb dX7_readFact_34 rfl (lv_at hl 0 rfl) ?_
    refine lv_if_eq (tgt := 59) hx hb dX7_readFact_35 (by decide) (fun c_9 => ?_) (fun c_9 => ?_)
    · skip
      exfalso
      have z_1 : ¬ (r_5 : Int32).toInt = (0 : Int32).toInt := fun z => c_7 (Int32.toInt_inj.mp z)
      have z_2 := congrArg Int32.toInt c_9
      have y_0 : (0 : Int32).toInt = 0 := by decide
      omega
    · skip
      refine lv_aload_n hx hb dX7_readFact_38 rfl (lv_at hl 2 rfl) ?_
      refine cV (a := (Ta 0)) (As := []) (rest := []) (wr := [((Va 0), .inr (7, [.ref (Va 1), .int (Vv 0), .int (Vv 1)])), ((Va 1), .inl (tc 0, 400, .inl (Vf 1)))]) ⟨hx, hb, hml, hown, hts⟩ hK hX hA (cu_X10_step l D tc sk (Ta 0) (Ta 1) (Tv 0) (Tv 1) (Tv 2) (Tv 3) (Tv 4) (Tf 1) he_6.2) k_478 k_620 k_476 k_477 k_96 pl_X10_step ⟨Nat.le_of_ble_eq_true rfl, Nat.le_of_ble_eq_true rfl⟩ rfl rfl (va_recv hK hP (ci := 10) (q0 := 2) rfl rfl) hP hD hS [2, 3] [0, 1] rfl rfl rfl rfl rfl (by decide) rfl hl.1 rfl (Nat.le_of_ble_eq_true rfl) dX7_readFact_39 ⟨Nat.le_of_ble_eq_true rfl, Nat.le_of_ble_eq_true rfl⟩ (fun v_10 u_11 H locs hv_12 hP₀ hD₀ hS₀ => ?_)
      obtain ⟨sv_13, sv_14, sv_15⟩ := u_11
      obtain ⟨rfl, he_16⟩ := hv_12
      clear he_6
      have he_16 : (0 ≤ ((Tv 0) : Int32).toInt ∧ ((Tv 0) : Int32).toInt ≤ 400 ∧ 0 ≤ (sv_13 : Int32).toInt ∧ (sv_13 : Int32).toInt ≤ 400 ∧ 0 ≤ (sv_14 : Int32).toInt ∧ (sv_14 : Int32).toInt ≤ 400) := he_16
      refine W.eq (g2 := F0 m 42 ls []) rfl ?_
      replace hP : va_P D classes [((Va 0), .inr (7, [.ref (Va 1), .int (Vv 0), .int (Vv 1)])), ((Va 1), .inl (tc 0, 400, .inl (Vf 1))), ((Ta 0), .inr (10, [.ref (Ta 1), .int (Tv 0), .int sv_13, .int sv_14, .int sv_15, .int (Tv 4)])), ((Ta 1), .inl (tc 0, 400, .inl (Tf 1)))] H := hP₀
      replace hD : va_D A [((Va 0), .inr (7, [.ref (Va 1), .int (Vv 0), .int (Vv 1)])), ((Va 1), .inl (tc 0, 400, .inl (Vf 1))), ((Ta 0), .inr (10, [.ref (Ta 1), .int (Tv 0), .int sv_13, .int sv_14, .int sv_15, .int (Tv 4)])), ((Ta 1), .inl (tc 0, 400, .inl (Tf 1)))] := hD₀
      replace hS := hS₀
      clear hP₀ hD₀ hS₀
      refine lv_aload_n hx hb dX7_readFact_42 rfl (lv_at hl 1 rfl) ?_
      refine lv_aload_n hx hb dX7_readFact_43 rfl (lv_at hl 2 rfl) ?_
      refine lv_iload_n hx hb dX7_readFact_44 rfl (lv_at hl 3 rfl) ?_
      refine lv_iconst (v := 1) hx hb dX7_readFact_45 (by decide) ?_
      refine lv_iadd hx hb dX7_readFact_46 ?_
      refine lv_lit (v := 6) (by decide) ?_
      refine cV (a := (Va 0)) (As := [.ref (Ta 0), .int 6]) (rest := []) (wr := []) ⟨hx, hb, hml, hown, hts⟩ hK hX hA (cu_X7_readFact_6 l D tc sk (Va 0) (Va 1) (Vv 0) (Vv 1) (Vf 1) (Ta 0) (Ta 1) (Tv 0) sv_13 sv_14 sv_15 (Tv 4) (Tf 1) he_16) k_659 k_656 k_658 k_12 k_99 pl_X7_readFact ⟨Nat.le_of_ble_eq_true rfl, Nat.le_of_ble_eq_true rfl⟩ rfl rfl (va_recv hK hP (ci := 7) (q0 := 0) rfl rfl) hP hD hS [0, 1, 2, 3] [] rfl rfl rfl rfl rfl (by decide) rfl hl.1 rfl (Nat.le_of_ble_eq_true rfl) dX7_readFact_47 ⟨Nat.le_of_ble_eq_true rfl, Nat.le_of_ble_eq_true rfl⟩ (fun v_17 u_18 H locs hv_19 hP₀ hD₀ hS₀ => ?_)
      obtain ⟨sv_20, sv_21, sv_22, sv_23, sv_24, sv_25, sv_26⟩ := u_18
      obtain ⟨rfl, he_27⟩ := hv_19
      clear he_16
      have he_27 : (0 ≤ ((Tv 0) : Int32).toInt ∧ ((Tv 0) : Int32).toInt ≤ 400 ∧ 0 ≤ (sv_23 : Int32).toInt ∧ (sv_23 : Int32).toInt ≤ 400 ∧ 0 ≤ (sv_24 : Int32).toInt ∧ (sv_24 : Int32).toInt ≤ 400) := he_27
      refine W.eq (g2 := F0 m 50 ls []) rfl ?_
      replace hP : va_P D classes [((Va 0), .inr (7, [.ref (Va 1), .int sv_20, .int sv_21])), ((Va 1), .inl (tc 0, 400, .inl sv_22)), ((Ta 0), .inr (10, [.ref (Ta 1), .int (Tv 0), .int sv_23, .int sv_24, .int sv_25, .int sv_26])), ((Ta 1), .inl (tc 0, 400, .inl (Tf 1)))] H := hP₀
      replace hD : va_D A [((Va 0), .inr (7, [.ref (Va 1), .int sv_20, .int sv_21])), ((Va 1), .inl (tc 0, 400, .inl sv_22)), ((Ta 0), .inr (10, [.ref (Ta 1), .int (Tv 0), .int sv_23, .int sv_24, .int sv_25, .int sv_26])), ((Ta 1), .inl (tc 0, 400, .inl (Tf 1)))] := hD₀
      replace hS := hS₀
      clear hP₀ hD₀ hS₀
      refine lv_aload_n hx hb dX7_readFact_50 rfl (lv_at hl 1 rfl) ?_
      refine lv_bipush (v := (-4)) hx hb dX7_readFact_51 (by decide) ?_
      refine cV (a := (Va 0)) (As := [.int (-4)]) (rest := []) (wr := [((Ta 0), .inr (10, [.ref (Ta 1), .int (Tv 0), .int sv_23, .int sv_24, .int sv_25, .int sv_26])), ((Ta 1), .inl (tc 0, 400, .inl (Tf 1)))]) ⟨hx, hb, hml, hown, hts⟩ hK hX hA (cu_X7_put l D tc sk (Va 0) (Va 1) sv_20 sv_21 sv_22 (-4)) k_642 k_639 k_641 k_10 k_99 pl_X7_put ⟨Nat.le_of_ble_eq_true rfl, Nat.le_of_ble_eq_true rfl⟩ rfl rfl (va_recv hK hP (ci := 7) (q0 := 0) rfl rfl) hP hD hS [0, 1] [2, 3] rfl rfl rfl rfl rfl (by decide) rfl hl.1 rfl (Nat.le_of_ble_eq_true rfl) dX7_readFact_53 ⟨Nat.le_of_ble_eq_true rfl, Nat.le_of_ble_eq_true rfl⟩ (fun v_28 u_29 H locs hv_30 hP₀ hD₀ hS₀ => ?_)
      obtain ⟨sv_31, sv_32⟩ := u_29
      obtain rfl : v_28 = none := hv_30
      refine W.eq (g2 := F0 m 56 ls []) rfl ?_
      replace hP : va_P D classes [((Ta 0), .inr (10, [.ref (Ta 1), .int (Tv 0), .int sv_23, .int sv_24, .int sv_25, .int sv_26])), ((Ta 1), .inl (tc 0, 400, .inl (Tf 1))), ((Va 0), .inr (7, [.ref (Va 1), .int sv_31, .int sv_21])), ((Va 1), .inl (tc 0, 400, .inl sv_32))] H := hP₀
      replace hD : va_D A [((Ta 0), .inr (10, [.ref (Ta 1), .int (Tv 0), .int sv_23, .int sv_24, .int sv_25, .int sv_26])), ((Ta 1), .inl (tc 0, 400, .inl (Tf 1))), ((Va 0), .inr (7, [.ref (Va 1), .int sv_31, .int sv_21])), ((Va 1), .inl (tc 0, 400, .inl sv_32))] := hD₀
      replace hS := hS₀
      clear hP₀ hD₀ hS₀
      refine lv_goto (tgt := 135) hx hb dX7_readFact_56 (by decide) ?_
      exact retV hx hb hr hlk hP hD hS (sv_31, sv_21, sv_32, sv_23, sv_24, sv_25, sv_26) ⟨rfl, he_27⟩ [2, 3, 0, 1] rfl rfl dX7_readFact_135 (Nat.le_of_ble_eq_true rfl) (Nat.le_of_ble_eq_true rfl) rfl
  · skip
    refine lv_aload_n hx hb dX7_readFact_11 rfl (lv_at hl 2 rfl) ?_
    refine gf_X7_86 hx hb hts hown hK hP 2 rfl rfl dX7_readFact_12 ?_
    refine lv_bipush (v := 91) hx hb dX7_readFact_15 (by decide) ?_
    refine lv_icmp_ne (tgt := 34) hx hb dX7_readFact_17 (by decide) (fun c_33 => ?_) (fun c_33 => ?_)
    · skip
      refine lv_iload_n hx hb dX7_readFact_34 rfl (lv_at hl 0 rfl) ?_
      refine lv_if_eq (tgt := 59) hx hb dX7_readFact_35 (by decide) (fun c_34 => ?_) (fun c_34 => ?_)
      · skip
        refine lv_aload_n hx hb dX7_readFact_59 rfl (lv_at hl 2 rfl) ?_
        refine lv_bipush (v := 91) hx hb dX7_readFact_60 (by decide) ?_
        refine cV (a := (Ta 0)) (As := [.int 91]) (rest := []) (wr := [((Va 0), .inr (7, [.ref (Va 1), .int (Vv 0), .int (Vv 1)])), ((Va 1), .inl (tc 0, 400, .inl (Vf 1)))]) ⟨hx, hb, hml, hown, hts⟩ hK hX hA (cu_X10_takes l D tc sk (Ta 0) (Ta 1) (Tv 0) (Tv 1) (Tv 2) (Tv 3) (Tv 4) (Tf 1) 91 he_6.2) k_492 k_613 k_490 k_491 k_96 pl_X10_takes ⟨Nat.le_of_ble_eq_true rfl, Nat.le_of_ble_eq_true rfl⟩ rfl rfl (va_recv hK hP (ci := 10) (q0 := 2) rfl rfl) hP hD hS [2, 3] [0, 1] rfl rfl rfl rfl rfl (by decide) rfl hl.1 rfl (Nat.le_of_ble_eq_true rfl) dX7_readFact_62 ⟨Nat.le_of_ble_eq_true rfl, Nat.le_of_ble_eq_true rfl⟩ (fun v_35 u_36 H locs hv_37 hP₀ hD₀ hS₀ => ?_)
        obtain ⟨sv_38, sv_39, sv_40⟩ := u_36
        obtain ⟨r_41, rfl, he_42⟩ := hv_37
        clear he_6
        have he_42 : ((r_41.toInt = 0 ∨ (r_41.toInt = 1 ∧ (Tv 3).toInt = (91 : Int32).toInt))) ∧ (0 ≤ ((Tv 0) : Int32).toInt ∧ ((Tv 0) : Int32).toInt ≤ 400 ∧ 0 ≤ (sv_38 : Int32).toInt ∧ (sv_38 : Int32).toInt ≤ 400 ∧ 0 ≤ (sv_39 : Int32).toInt ∧ (sv_39 : Int32).toInt ≤ 400) := he_42
        refine W.eq (g2 := F0 m 65 ls [.int r_41]) rfl ?_
        replace hP : va_P D classes [((Va 0), .inr (7, [.ref (Va 1), .int (Vv 0), .int (Vv 1)])), ((Va 1), .inl (tc 0, 400, .inl (Vf 1))), ((Ta 0), .inr (10, [.ref (Ta 1), .int (Tv 0), .int sv_38, .int sv_39, .int sv_40, .int (Tv 4)])), ((Ta 1), .inl (tc 0, 400, .inl (Tf 1)))] H := hP₀
        replace hD : va_D A [((Va 0), .inr (7, [.ref (Va 1), .int (Vv 0), .int (Vv 1)])), ((Va 1), .inl (tc 0, 400, .inl (Vf 1))), ((Ta 0), .inr (10, [.ref (Ta 1), .int (Tv 0), .int sv_38, .int sv_39, .int sv_40, .int (Tv 4)])), ((Ta 1), .inl (tc 0, 400, .inl (Tf 1)))] := hD₀
        replace hS := hS₀
        clear hP₀ hD₀ hS₀
        refine lv_if_eq (tgt := 93) hx hb dX7_readFact_65 (by decide) (fun c_43 => ?_) (fun c_43 => ?_)
        · skip
          refine lv_aload_n hx hb dX7_readFact_93 rfl (lv_at hl 1 rfl) ?_
          refine lv_aload_n hx hb dX7_readFact_94 rfl (lv_at hl 2 rfl) ?_
          refine cV (a := (Va 0)) (As := [.ref (Ta 0)]) (rest := []) (wr := []) ⟨hx, hb, hml, hown, hts⟩ hK hX hA (cu_X7_readSum l D tc sk (Va 0) (Va 1) (Vv 0) (Vv 1) (Vf 1) (Ta 0) (Ta 1) (Tv 0) sv_38 sv_39 sv_40 (Tv 4) (Tf 1) he_42.2) k_624 k_621 k_623 k_7 k_99 pl_X7_readSum ⟨Nat.le_of_ble_eq_true rfl, Nat.le_of_ble_eq_true rfl⟩ rfl rfl (va_recv hK hP (ci := 7) (q0 := 0) rfl rfl) hP hD hS [0, 1, 2, 3] [] rfl rfl rfl rfl rfl (by decide) rfl hl.1 rfl (Nat.le_of_ble_eq_true rfl) dX7_readFact_95 ⟨Nat.le_of_ble_eq_true rfl, Nat.le_of_ble_eq_true rfl⟩ (fun v_44 u_45 H locs hv_46 hP₀ hD₀ hS₀ => ?_)
          obtain ⟨sv_47, sv_48, sv_49, sv_50, sv_51, sv_52, sv_53⟩ := u_45
          obtain ⟨rfl, he_54⟩ := hv_46
          clear he_42
          have he_54 : (0 ≤ ((Tv 0) : Int32).toInt ∧ ((Tv 0) : Int32).toInt ≤ 400 ∧ 0 ≤ (sv_50 : Int32).toInt ∧ (sv_50 : Int32).toInt ≤ 400 ∧ 0 ≤ (sv_51 : Int32).toInt ∧ (sv_51 : Int32).toInt ≤ 400) := he_54
          refine W.eq (g2 := F0 m 98 ls []) rfl ?_
          replace hP : va_P D classes [((Va 0), .inr (7, [.ref (Va 1), .int sv_47, .int sv_48])), ((Va 1), .inl (tc 0, 400, .inl sv_49)), ((Ta 0), .inr (10, [.ref (Ta 1), .int (Tv 0), .int sv_50, .int sv_51, .int sv_52, .int sv_53])), ((Ta 1), .inl (tc 0, 400, .inl (Tf 1)))] H := hP₀
          replace hD : va_D A [((Va 0), .inr (7, [.ref (Va 1), .int sv_47, .int sv_48])), ((Va 1), .inl (tc 0, 400, .inl sv_49)), ((Ta 0), .inr (10, [.ref (Ta 1), .int (Tv 0), .int sv_50, .int sv_51, .int sv_52, .int sv_53])), ((Ta 1), .inl (tc 0, 400, .inl (Tf 1)))] := hD₀
          replace hS := hS₀
          clear hP₀ hD₀ hS₀
          refine lv_aload_n hx hb dX7_readFact_98 rfl (lv_at hl 2 rfl) ?_
          refine cS (As := [.ref (Ta 0)]) (rest := []) (wr := [((Va 0), .inr (7, [.ref (Va 1), .int sv_47, .int sv_48])), ((Va 1), .inl (tc 0, 400, .inl sv_49))]) ⟨hx, hb, hml, hown, hts⟩ hK hX hA (cu_X7_comparison l D tc sk (Ta 0) (Ta 1) (Tv 0) sv_50 sv_51 sv_52 sv_53 (Tf 1) he_54) k_663 k_661 k_662 k_99 pl_X7_comparison ⟨Nat.le_of_ble_eq_true rfl, Nat.le_of_ble_eq_true rfl⟩ rfl rfl  hP hD hS [2, 3] [0, 1] rfl rfl rfl rfl rfl (by decide) rfl hl.1 rfl (Nat.le_of_ble_eq_true rfl) dX7_readFact_99 ⟨Nat.le_of_ble_eq_true rfl, Nat.le_of_ble_eq_true rfl⟩ (fun v_55 u_56 H locs hv_57 hP₀ hD₀ hS₀ => ?_)
          obtain ⟨r_58, rfl, he_59⟩ := hv_57
          clear he_54
          have he_59 : (True) ∧ (0 ≤ ((Tv 0) : Int32).toInt ∧ ((Tv 0) : Int32).toInt ≤ 400 ∧ 0 ≤ (sv_50 : Int32).toInt ∧ (sv_50 : Int32).toInt ≤ 400 ∧ 0 ≤ (sv_51 : Int32).toInt ∧ (sv_51 : Int32).toInt ≤ 400) := he_59
          refine W.eq (g2 := F0 m 102 ls [.int r_58]) rfl ?_
          replace hP : va_P D classes [((Va 0), .inr (7, [.ref (Va 1), .int sv_47, .int sv_48])), ((Va 1), .inl (tc 0, 400, .inl sv_49)), ((Ta 0), .inr (10, [.ref (Ta 1), .int (Tv 0), .int sv_50, .int sv_51, .int sv_52, .int sv_53])), ((Ta 1), .inl (tc 0, 400, .inl (Tf 1)))] H := hP₀
          replace hD : va_D A [((Va 0), .inr (7, [.ref (Va 1), .int sv_47, .int sv_48])), ((Va 1), .inl (tc 0, 400, .inl sv_49)), ((Ta 0), .inr (10, [.ref (Ta 1), .int (Tv 0), .int sv_50, .int sv_51, .int sv_52, .int sv_53])), ((Ta 1), .inl (tc 0, 400, .inl (Tf 1)))] := hD₀
          replace hS := hS₀
          clear hP₀ hD₀ hS₀
          refine lv_istore (lv' := [(4, .int r_58), (3, .int r_5), (0, .ref (Va 0)), (1, .ref (Ta 0)), (2, .int 5)]) hx hb dX7_readFact_102 hl (by decide) rfl (fun ls hl₀ => ?_)
          replace hl := hl₀
          clear hl₀
          refine lv_iload hx hb dX7_readFact_104 (lv_at hl 0 rfl) ?_
          refine lv_iconst (v := (-1)) hx hb dX7_readFact_106 (by decide) ?_
          refine lv_icmp_ne (tgt := 115) hx hb dX7_readFact_107 (by decide) (fun c_60 => ?_) (fun c_60 => ?_)
          · skip
            refine lv_aload_n hx hb dX7_readFact_115 rfl (lv_at hl 2 rfl) ?_
            refine lv_aload_n hx hb dX7_readFact_116 rfl (lv_at hl 3 rfl) ?_
            refine cV (a := (Va 0)) (As := [.ref (Ta 0)]) (rest := []) (wr := []) ⟨hx, hb, hml, hown, hts⟩ hK hX hA (cu_X7_countOne l D tc sk (Va 0) (Va 1) sv_47 sv_48 sv_49 (Ta 0) (Ta 1) (Tv 0) sv_50 sv_51 sv_52 sv_53 (Tf 1) he_59.2) k_638 k_635 k_637 k_9 k_99 pl_X7_countOne ⟨Nat.le_of_ble_eq_true rfl, Nat.le_of_ble_eq_true rfl⟩ rfl rfl (va_recv hK hP (ci := 7) (q0 := 0) rfl rfl) hP hD hS [0, 1, 2, 3] [] rfl rfl rfl rfl rfl (by decide) rfl hl.1 rfl (Nat.le_of_ble_eq_true rfl) dX7_readFact_117 ⟨Nat.le_of_ble_eq_true rfl, Nat.le_of_ble_eq_true rfl⟩ (fun v_61 u_62 H locs hv_63 hP₀ hD₀ hS₀ => ?_)
            obtain ⟨sv_64, sv_65, sv_66⟩ := u_62
            obtain ⟨rfl, he_67⟩ := hv_63
            clear he_59
            have he_67 : (0 ≤ ((Tv 0) : Int32).toInt ∧ ((Tv 0) : Int32).toInt ≤ 400 ∧ 0 ≤ (sv_50 : Int32).toInt ∧ (sv_50 : Int32).toInt ≤ 400 ∧ 0 ≤ (sv_51 : Int32).toInt ∧ (sv_51 : Int32).toInt ≤ 400) := he_67
            refine W.eq (g2 := F0 m 120 ls []) rfl ?_
            replace hP : va_P D classes [((Va 0), .inr (7, [.ref (Va 1), .int sv_47, .int sv_64])), ((Va 1), .inl (tc 0, 400, .inl sv_49)), ((Ta 0), .inr (10, [.ref (Ta 1), .int (Tv 0), .int sv_50, .int sv_51, .int sv_65, .int sv_66])), ((Ta 1), .inl (tc 0, 400, .inl (Tf 1)))] H := hP₀
            replace hD : va_D A [((Va 0), .inr (7, [.ref (Va 1), .int sv_47, .int sv_64])), ((Va 1), .inl (tc 0, 400, .inl sv_49)), ((Ta 0), .inr (10, [.ref (Ta 1), .int (Tv 0), .int sv_50, .int sv_51, .int sv_65, .int sv_66])), ((Ta 1), .inl (tc 0, 400, .inl (Tf 1)))] := hD₀
            replace hS := hS₀
            clear hP₀ hD₀ hS₀
            refine lv_aload_n hx hb dX7_readFact_120 rfl (lv_at hl 3 rfl) ?_
            refine cV (a := (Ta 0)) (As := []) (rest := []) (wr := [((Va 0), .inr (7, [.ref (Va 1), .int sv_47, .int sv_64])), ((Va 1), .inl (tc 0, 400, .inl sv_49))]) ⟨hx, hb, hml, hown, hts⟩ hK hX hA (cu_X10_step l D tc sk (Ta 0) (Ta 1) (Tv 0) sv_50 sv_51 sv_65 sv_66 (Tf 1) he_67) k_478 k_620 k_476 k_477 k_96 pl_X10_step ⟨Nat.le_of_ble_eq_true rfl, Nat.le_of_ble_eq_true rfl⟩ rfl rfl (va_recv hK hP (ci := 10) (q0 := 2) rfl rfl) hP hD hS [2, 3] [0, 1] rfl rfl rfl rfl rfl (by decide) rfl hl.1 rfl (Nat.le_of_ble_eq_true rfl) dX7_readFact_121 ⟨Nat.le_of_ble_eq_true rfl, Nat.le_of_ble_eq_true rfl⟩ (fun v_68 u_69 H locs hv_70 hP₀ hD₀ hS₀ => ?_)
            obtain ⟨sv_71, sv_72, sv_73⟩ := u_69
            obtain ⟨rfl, he_74⟩ := hv_70
            clear he_67
            have he_74 : (0 ≤ ((Tv 0) : Int32).toInt ∧ ((Tv 0) : Int32).toInt ≤ 400 ∧ 0 ≤ (sv_71 : Int32).toInt ∧ (sv_71 : Int32).toInt ≤ 400 ∧ 0 ≤ (sv_72 : Int32).toInt ∧ (sv_72 : Int32).toInt ≤ 400) := he_74
            refine W.eq (g2 := F0 m 124 ls []) rfl ?_
            replace hP : va_P D classes [((Va 0), .inr (7, [.ref (Va 1), .int sv_47, .int sv_64])), ((Va 1), .inl (tc 0, 400, .inl sv_49)), ((Ta 0), .inr (10, [.ref (Ta 1), .int (Tv 0), .int sv_71, .int sv_72, .int sv_73, .int sv_66])), ((Ta 1), .inl (tc 0, 400, .inl (Tf 1)))] H := hP₀
            replace hD : va_D A [((Va 0), .inr (7, [.ref (Va 1), .int sv_47, .int sv_64])), ((Va 1), .inl (tc 0, 400, .inl sv_49)), ((Ta 0), .inr (10, [.ref (Ta 1), .int (Tv 0), .int sv_71, .int sv_72, .int sv_73, .int sv_66])), ((Ta 1), .inl (tc 0, 400, .inl (Tf 1)))] := hD₀
            replace hS := hS₀
            clear hP₀ hD₀ hS₀
            refine lv_aload_n hx hb dX7_readFact_124 rfl (lv_at hl 2 rfl) ?_
            refine lv_aload_n hx hb dX7_readFact_125 rfl (lv_at hl 3 rfl) ?_
            refine cV (a := (Va 0)) (As := [.ref (Ta 0)]) (rest := []) (wr := []) ⟨hx, hb, hml, hown, hts⟩ hK hX hA (cu_X7_readSum l D tc sk (Va 0) (Va 1) sv_47 sv_64 sv_49 (Ta 0) (Ta 1) (Tv 0) sv_71 sv_72 sv_73 sv_66 (Tf 1) he_74) k_624 k_621 k_623 k_7 k_99 pl_X7_readSum ⟨Nat.le_of_ble_eq_true rfl, Nat.le_of_ble_eq_true rfl⟩ rfl rfl (va_recv hK hP (ci := 7) (q0 := 0) rfl rfl) hP hD hS [0, 1, 2, 3] [] rfl rfl rfl rfl rfl (by decide) rfl hl.1 rfl (Nat.le_of_ble_eq_true rfl) dX7_readFact_126 ⟨Nat.le_of_ble_eq_true rfl, Nat.le_of_ble_eq_true rfl⟩ (fun v_75 u_76 H locs hv_77 hP₀ hD₀ hS₀ => ?_)
            obtain ⟨sv_78, sv_79, sv_80, sv_81, sv_82, sv_83, sv_84⟩ := u_76
            obtain ⟨rfl, he_85⟩ := hv_77
            clear he_74
            have he_85 : (0 ≤ ((Tv 0) : Int32).toInt ∧ ((Tv 0) : Int32).toInt ≤ 400 ∧ 0 ≤ (sv_81 : Int32).toInt ∧ (sv_81 : Int32).toInt ≤ 400 ∧ 0 ≤ (sv_82 : Int32).toInt ∧ (sv_82 : Int32).toInt ≤ 400) := he_85
            refine W.eq (g2 := F0 m 129 ls []) rfl ?_
            replace hP : va_P D classes [((Va 0), .inr (7, [.ref (Va 1), .int sv_78, .int sv_79])), ((Va 1), .inl (tc 0, 400, .inl sv_80)), ((Ta 0), .inr (10, [.ref (Ta 1), .int (Tv 0), .int sv_81, .int sv_82, .int sv_83, .int sv_84])), ((Ta 1), .inl (tc 0, 400, .inl (Tf 1)))] H := hP₀
            replace hD : va_D A [((Va 0), .inr (7, [.ref (Va 1), .int sv_78, .int sv_79])), ((Va 1), .inl (tc 0, 400, .inl sv_80)), ((Ta 0), .inr (10, [.ref (Ta 1), .int (Tv 0), .int sv_81, .int sv_82, .int sv_83, .int sv_84])), ((Ta 1), .inl (tc 0, 400, .inl (Tf 1)))] := hD₀
            replace hS := hS₀
            clear hP₀ hD₀ hS₀
            refine lv_aload_n hx hb dX7_readFact_129 rfl (lv_at hl 2 rfl) ?_
            refine lv_iload hx hb dX7_readFact_130 (lv_at hl 0 rfl) ?_
            refine cV (a := (Va 0)) (As := [.int r_58]) (rest := []) (wr := [((Ta 0), .inr (10, [.ref (Ta 1), .int (Tv 0), .int sv_81, .int sv_82, .int sv_83, .int sv_84])), ((Ta 1), .inl (tc 0, 400, .inl (Tf 1)))]) ⟨hx, hb, hml, hown, hts⟩ hK hX hA (cu_X7_put l D tc sk (Va 0) (Va 1) sv_78 sv_79 sv_80 r_58) k_642 k_639 k_641 k_10 k_99 pl_X7_put ⟨Nat.le_of_ble_eq_true rfl, Nat.le_of_ble_eq_true rfl⟩ rfl rfl (va_recv hK hP (ci := 7) (q0 := 0) rfl rfl) hP hD hS [0, 1] [2, 3] rfl rfl rfl rfl rfl (by decide) rfl hl.1 rfl (Nat.le_of_ble_eq_true rfl) dX7_readFact_132 ⟨Nat.le_of_ble_eq_true rfl, Nat.le_of_ble_eq_true rfl⟩ (fun v_86 u_87 H locs hv_88 hP₀ hD₀ hS₀ => ?_)
            obtain ⟨sv_89, sv_90⟩ := u_87
            obtain rfl : v_86 = none := hv_88
            refine W.eq (g2 := F0 m 135 ls []) rfl ?_
            replace hP : va_P D classes [((Ta 0), .inr (10, [.ref (Ta 1), .int (Tv 0), .int sv_81, .int sv_82, .int sv_83, .int sv_84])), ((Ta 1), .inl (tc 0, 400, .inl (Tf 1))), ((Va 0), .inr (7, [.ref (Va 1), .int sv_89, .int sv_79])), ((Va 1), .inl (tc 0, 400, .inl sv_90))] H := hP₀
            replace hD : va_D A [((Ta 0), .inr (10, [.ref (Ta 1), .int (Tv 0), .int sv_81, .int sv_82, .int sv_83, .int sv_84])), ((Ta 1), .inl (tc 0, 400, .inl (Tf 1))), ((Va 0), .inr (7, [.ref (Va 1), .int sv_89, .int sv_79])), ((Va 1), .inl (tc 0, 400, .inl sv_90))] := hD₀
            replace hS := hS₀
            clear hP₀ hD₀ hS₀
            exact retV hx hb hr hlk hP hD hS (sv_89, sv_79, sv_90, sv_81, sv_82, sv_83, sv_84) ⟨rfl, he_85⟩ [2, 3, 0, 1] rfl rfl dX7_readFact_135 (Nat.le_of_ble_eq_true rfl) (Nat.le_of_ble_eq_true rfl) rfl
          · skip
            refine lv_aload_n hx hb dX7_readFact_110 rfl (lv_at hl 3 rfl) ?_
            refine lv_iconst (v := 0) hx hb dX7_readFact_111 (by decide) ?_
            refine cV (a := (Ta 0)) (As := [.int 0]) (rest := []) (wr := [((Va 0), .inr (7, [.ref (Va 1), .int sv_47, .int sv_48])), ((Va 1), .inl (tc 0, 400, .inl sv_49))]) ⟨hx, hb, hml, hown, hts⟩ hK hX hA (cu_X10_fail l D tc sk (Ta 0) (Ta 1) (Tv 0) sv_50 sv_51 sv_52 sv_53 (Tf 1) 0 he_59.2) k_557 k_619 k_555 k_556 k_96 pl_X10_fail ⟨Nat.le_of_ble_eq_true rfl, Nat.le_of_ble_eq_true rfl⟩ rfl rfl (va_recv hK hP (ci := 10) (q0 := 2) rfl rfl) hP hD hS [2, 3] [0, 1] rfl rfl rfl rfl rfl (by decide) rfl hl.1 rfl (Nat.le_of_ble_eq_true rfl) dX7_readFact_112 ⟨Nat.le_of_ble_eq_true rfl, Nat.le_of_ble_eq_true rfl⟩ (fun v_91 u_92 H locs hv_93 hP₀ hD₀ hS₀ => ?_)
            obtain ⟨sv_94, sv_95⟩ := u_92
            obtain ⟨rfl, he_96⟩ := hv_93
            clear he_59
            have he_96 : (0 ≤ ((Tv 0) : Int32).toInt ∧ ((Tv 0) : Int32).toInt ≤ 400 ∧ 0 ≤ (sv_50 : Int32).toInt ∧ (sv_50 : Int32).toInt ≤ 400 ∧ 0 ≤ (sv_51 : Int32).toInt ∧ (sv_51 : Int32).toInt ≤ 400) := he_96
            refine W.eq (g2 := F0 m 115 ls []) rfl ?_
            replace hP : va_P D classes [((Va 0), .inr (7, [.ref (Va 1), .int sv_47, .int sv_48])), ((Va 1), .inl (tc 0, 400, .inl sv_49)), ((Ta 0), .inr (10, [.ref (Ta 1), .int (Tv 0), .int sv_50, .int sv_51, .int sv_94, .int sv_95])), ((Ta 1), .inl (tc 0, 400, .inl (Tf 1)))] H := hP₀
            replace hD : va_D A [((Va 0), .inr (7, [.ref (Va 1), .int sv_47, .int sv_48])), ((Va 1), .inl (tc 0, 400, .inl sv_49)), ((Ta 0), .inr (10, [.ref (Ta 1), .int (Tv 0), .int sv_50, .int sv_51, .int sv_94, .int sv_95])), ((Ta 1), .inl (tc 0, 400, .inl (Tf 1)))] := hD₀
            replace hS := hS₀
            clear hP₀ hD₀ hS₀
            refine lv_aload_n hx hb dX7_readFact_115 rfl (lv_at hl 2 rfl) ?_
            refine lv_aload_n hx hb dX7_readFact_116 rfl (lv_at hl 3 rfl) ?_
            refine cV (a := (Va 0)) (As := [.ref (Ta 0)]) (rest := []) (wr := []) ⟨hx, hb, hml, hown, hts⟩ hK hX hA (cu_X7_countOne l D tc sk (Va 0) (Va 1) sv_47 sv_48 sv_49 (Ta 0) (Ta 1) (Tv 0) sv_50 sv_51 sv_94 sv_95 (Tf 1) he_96) k_638 k_635 k_637 k_9 k_99 pl_X7_countOne ⟨Nat.le_of_ble_eq_true rfl, Nat.le_of_ble_eq_true rfl⟩ rfl rfl (va_recv hK hP (ci := 7) (q0 := 0) rfl rfl) hP hD hS [0, 1, 2, 3] [] rfl rfl rfl rfl rfl (by decide) rfl hl.1 rfl (Nat.le_of_ble_eq_true rfl) dX7_readFact_117 ⟨Nat.le_of_ble_eq_true rfl, Nat.le_of_ble_eq_true rfl⟩ (fun v_97 u_98 H locs hv_99 hP₀ hD₀ hS₀ => ?_)
            obtain ⟨sv_100, sv_101, sv_102⟩ := u_98
            obtain ⟨rfl, he_103⟩ := hv_99
            clear he_96
            have he_103 : (0 ≤ ((Tv 0) : Int32).toInt ∧ ((Tv 0) : Int32).toInt ≤ 400 ∧ 0 ≤ (sv_50 : Int32).toInt ∧ (sv_50 : Int32).toInt ≤ 400 ∧ 0 ≤ (sv_51 : Int32).toInt ∧ (sv_51 : Int32).toInt ≤ 400) := he_103
            refine W.eq (g2 := F0 m 120 ls []) rfl ?_
            replace hP : va_P D classes [((Va 0), .inr (7, [.ref (Va 1), .int sv_47, .int sv_100])), ((Va 1), .inl (tc 0, 400, .inl sv_49)), ((Ta 0), .inr (10, [.ref (Ta 1), .int (Tv 0), .int sv_50, .int sv_51, .int sv_101, .int sv_102])), ((Ta 1), .inl (tc 0, 400, .inl (Tf 1)))] H := hP₀
            replace hD : va_D A [((Va 0), .inr (7, [.ref (Va 1), .int sv_47, .int sv_100])), ((Va 1), .inl (tc 0, 400, .inl sv_49)), ((Ta 0), .inr (10, [.ref (Ta 1), .int (Tv 0), .int sv_50, .int sv_51, .int sv_101, .int sv_102])), ((Ta 1), .inl (tc 0, 400, .inl (Tf 1)))] := hD₀
            replace hS := hS₀
            clear hP₀ hD₀ hS₀
            refine lv_aload_n hx hb dX7_readFact_120 rfl (lv_at hl 3 rfl) ?_
            refine cV (a := (Ta 0)) (As := []) (rest := []) (wr := [((Va 0), .inr (7, [.ref (Va 1), .int sv_47, .int sv_100])), ((Va 1), .inl (tc 0, 400, .inl sv_49))]) ⟨hx, hb, hml, hown, hts⟩ hK hX hA (cu_X10_step l D tc sk (Ta 0) (Ta 1) (Tv 0) sv_50 sv_51 sv_101 sv_102 (Tf 1) he_103) k_478 k_620 k_476 k_477 k_96 pl_X10_step ⟨Nat.le_of_ble_eq_true rfl, Nat.le_of_ble_eq_true rfl⟩ rfl rfl (va_recv hK hP (ci := 10) (q0 := 2) rfl rfl) hP hD hS [2, 3] [0, 1] rfl rfl rfl rfl rfl (by decide) rfl hl.1 rfl (Nat.le_of_ble_eq_true rfl) dX7_readFact_121 ⟨Nat.le_of_ble_eq_true rfl, Nat.le_of_ble_eq_true rfl⟩ (fun v_104 u_105 H locs hv_106 hP₀ hD₀ hS₀ => ?_)
            obtain ⟨sv_107, sv_108, sv_109⟩ := u_105
            obtain ⟨rfl, he_110⟩ := hv_106
            clear he_103
            have he_110 : (0 ≤ ((Tv 0) : Int32).toInt ∧ ((Tv 0) : Int32).toInt ≤ 400 ∧ 0 ≤ (sv_107 : Int32).toInt ∧ (sv_107 : Int32).toInt ≤ 400 ∧ 0 ≤ (sv_108 : Int32).toInt ∧ (sv_108 : Int32).toInt ≤ 400) := he_110
            refine W.eq (g2 := F0 m 124 ls []) rfl ?_
            replace hP : va_P D classes [((Va 0), .inr (7, [.ref (Va 1), .int sv_47, .int sv_100])), ((Va 1), .inl (tc 0, 400, .inl sv_49)), ((Ta 0), .inr (10, [.ref (Ta 1), .int (Tv 0), .int sv_107, .int sv_108, .int sv_109, .int sv_102])), ((Ta 1), .inl (tc 0, 400, .inl (Tf 1)))] H := hP₀
            replace hD : va_D A [((Va 0), .inr (7, [.ref (Va 1), .int sv_47, .int sv_100])), ((Va 1), .inl (tc 0, 400, .inl sv_49)), ((Ta 0), .inr (10, [.ref (Ta 1), .int (Tv 0), .int sv_107, .int sv_108, .int sv_109, .int sv_102])), ((Ta 1), .inl (tc 0, 400, .inl (Tf 1)))] := hD₀
            replace hS := hS₀
            clear hP₀ hD₀ hS₀
            refine lv_aload_n hx hb dX7_readFact_124 rfl (lv_at hl 2 rfl) ?_
            refine lv_aload_n hx hb dX7_readFact_125 rfl (lv_at hl 3 rfl) ?_
            refine cV (a := (Va 0)) (As := [.ref (Ta 0)]) (rest := []) (wr := []) ⟨hx, hb, hml, hown, hts⟩ hK hX hA (cu_X7_readSum l D tc sk (Va 0) (Va 1) sv_47 sv_100 sv_49 (Ta 0) (Ta 1) (Tv 0) sv_107 sv_108 sv_109 sv_102 (Tf 1) he_110) k_624 k_621 k_623 k_7 k_99 pl_X7_readSum ⟨Nat.le_of_ble_eq_true rfl, Nat.le_of_ble_eq_true rfl⟩ rfl rfl (va_recv hK hP (ci := 7) (q0 := 0) rfl rfl) hP hD hS [0, 1, 2, 3] [] rfl rfl rfl rfl rfl (by decide) rfl hl.1 rfl (Nat.le_of_ble_eq_true rfl) dX7_readFact_126 ⟨Nat.le_of_ble_eq_true rfl, Nat.le_of_ble_eq_true rfl⟩ (fun v_111 u_112 H locs hv_113 hP₀ hD₀ hS₀ => ?_)
            obtain ⟨sv_114, sv_115, sv_116, sv_117, sv_118, sv_119, sv_120⟩ := u_112
            obtain ⟨rfl, he_121⟩ := hv_113
            clear he_110
            have he_121 : (0 ≤ ((Tv 0) : Int32).toInt ∧ ((Tv 0) : Int32).toInt ≤ 400 ∧ 0 ≤ (sv_117 : Int32).toInt ∧ (sv_117 : Int32).toInt ≤ 400 ∧ 0 ≤ (sv_118 : Int32).toInt ∧ (sv_118 : Int32).toInt ≤ 400) := he_121
            refine W.eq (g2 := F0 m 129 ls []) rfl ?_
            replace hP : va_P D classes [((Va 0), .inr (7, [.ref (Va 1), .int sv_114, .int sv_115])), ((Va 1), .inl (tc 0, 400, .inl sv_116)), ((Ta 0), .inr (10, [.ref (Ta 1), .int (Tv 0), .int sv_117, .int sv_118, .int sv_119, .int sv_120])), ((Ta 1), .inl (tc 0, 400, .inl (Tf 1)))] H := hP₀
            replace hD : va_D A [((Va 0), .inr (7, [.ref (Va 1), .int sv_114, .int sv_115])), ((Va 1), .inl (tc 0, 400, .inl sv_116)), ((Ta 0), .inr (10, [.ref (Ta 1), .int (Tv 0), .int sv_117, .int sv_118, .int sv_119, .int sv_120])), ((Ta 1), .inl (tc 0, 400, .inl (Tf 1)))] := hD₀
            replace hS := hS₀
            clear hP₀ hD₀ hS₀
            refine lv_aload_n hx hb dX7_readFact_129 rfl (lv_at hl 2 rfl) ?_
            refine lv_iload hx hb dX7_readFact_130 (lv_at hl 0 rfl) ?_
            refine cV (a := (Va 0)) (As := [.int r_58]) (rest := []) (wr := [((Ta 0), .inr (10, [.ref (Ta 1), .int (Tv 0), .int sv_117, .int sv_118, .int sv_119, .int sv_120])), ((Ta 1), .inl (tc 0, 400, .inl (Tf 1)))]) ⟨hx, hb, hml, hown, hts⟩ hK hX hA (cu_X7_put l D tc sk (Va 0) (Va 1) sv_114 sv_115 sv_116 r_58) k_642 k_639 k_641 k_10 k_99 pl_X7_put ⟨Nat.le_of_ble_eq_true rfl, Nat.le_of_ble_eq_true rfl⟩ rfl rfl (va_recv hK hP (ci := 7) (q0 := 0) rfl rfl) hP hD hS [0, 1] [2, 3] rfl rfl rfl rfl rfl (by decide) rfl hl.1 rfl (Nat.le_of_ble_eq_true rfl) dX7_readFact_132 ⟨Nat.le_of_ble_eq_true rfl, Nat.le_of_ble_eq_true rfl⟩ (fun v_122 u_123 H locs hv_124 hP₀ hD₀ hS₀ => ?_)
            obtain ⟨sv_125, sv_126⟩ := u_123
            obtain rfl : v_122 = none := hv_124
            refine W.eq (g2 := F0 m 135 ls []) rfl ?_
            replace hP : va_P D classes [((Ta 0), .inr (10, [.ref (Ta 1), .int (Tv 0), .int sv_117, .int sv_118, .int sv_119, .int sv_120])), ((Ta 1), .inl (tc 0, 400, .inl (Tf 1))), ((Va 0), .inr (7, [.ref (Va 1), .int sv_125, .int sv_115])), ((Va 1), .inl (tc 0, 400, .inl sv_126))] H := hP₀
            replace hD : va_D A [((Ta 0), .inr (10, [.ref (Ta 1), .int (Tv 0), .int sv_117, .int sv_118, .int sv_119, .int sv_120])), ((Ta 1), .inl (tc 0, 400, .inl (Tf 1))), ((Va 0), .inr (7, [.ref (Va 1), .int sv_125, .int sv_115])), ((Va 1), .inl (tc 0, 400, .inl sv_126))] := hD₀
            replace hS := hS₀
            clear hP₀ hD₀ hS₀
            exact retV hx hb hr hlk hP hD hS (sv_125, sv_115, sv_126, sv_117, sv_118, sv_119, sv_120) ⟨rfl, he_121⟩ [2, 3, 0, 1] rfl rfl dX7_readFact_135 (Nat.le_of_ble_eq_true rfl) (Nat.le_of_ble_eq_true rfl) rfl
        · skip
          refine lv_aload_n hx hb dX7_readFact_68 rfl (lv_at hl 1 rfl) ?_
          refine lv_aload_n hx hb dX7_readFact_69 rfl (lv_at hl 2 rfl) ?_
          refine lv_iload_n hx hb dX7_readFact_70 rfl (lv_at hl 3 rfl) ?_
          refine lv_iconst (v := 1) hx hb dX7_readFact_71 (by decide) ?_
          refine lv_iadd hx hb dX7_readFact_72 ?_
          refine lv_lit (v := 6) (by decide) ?_
          refine cV (a := (Va 0)) (As := [.ref (Ta 0), .int 6]) (rest := []) (wr := []) ⟨hx, hb, hml, hown, hts⟩ hK hX hA (cu_X7_readTest_6 l D tc sk (Va 0) (Va 1) (Vv 0) (Vv 1) (Vf 1) (Ta 0) (Ta 1) (Tv 0) sv_38 sv_39 sv_40 (Tv 4) (Tf 1) he_42.2) k_655 k_652 k_654 k_11 k_99 pl_X7_readTest ⟨Nat.le_of_ble_eq_true rfl, Nat.le_of_ble_eq_true rfl⟩ rfl rfl (va_recv hK hP (ci := 7) (q0 := 0) rfl rfl) hP hD hS [0, 1, 2, 3] [] rfl rfl rfl rfl rfl (by decide) rfl hl.1 rfl (Nat.le_of_ble_eq_true rfl) dX7_readFact_73 ⟨Nat.le_of_ble_eq_true rfl, Nat.le_of_ble_eq_true rfl⟩ (fun v_127 u_128 H locs hv_129 hP₀ hD₀ hS₀ => ?_)
          obtain ⟨sv_130, sv_131, sv_132, sv_133, sv_134, sv_135, sv_136⟩ := u_128
          obtain ⟨rfl, he_137⟩ := hv_129
          clear he_42
          have he_137 : (0 ≤ ((Tv 0) : Int32).toInt ∧ ((Tv 0) : Int32).toInt ≤ 400 ∧ 0 ≤ (sv_133 : Int32).toInt ∧ (sv_133 : Int32).toInt ≤ 400 ∧ 0 ≤ (sv_134 : Int32).toInt ∧ (sv_134 : Int32).toInt ≤ 400) := he_137
          refine W.eq (g2 := F0 m 76 ls []) rfl ?_
          replace hP : va_P D classes [((Va 0), .inr (7, [.ref (Va 1), .int sv_130, .int sv_131])), ((Va 1), .inl (tc 0, 400, .inl sv_132)), ((Ta 0), .inr (10, [.ref (Ta 1), .int (Tv 0), .int sv_133, .int sv_134, .int sv_135, .int sv_136])), ((Ta 1), .inl (tc 0, 400, .inl (Tf 1)))] H := hP₀
          replace hD : va_D A [((Va 0), .inr (7, [.ref (Va 1), .int sv_130, .int sv_131])), ((Va 1), .inl (tc 0, 400, .inl sv_132)), ((Ta 0), .inr (10, [.ref (Ta 1), .int (Tv 0), .int sv_133, .int sv_134, .int sv_135, .int sv_136])), ((Ta 1), .inl (tc 0, 400, .inl (Tf 1)))] := hD₀
          replace hS := hS₀
          clear hP₀ hD₀ hS₀
          refine lv_aload_n hx hb dX7_readFact_76 rfl (lv_at hl 2 rfl) ?_
          refine lv_bipush (v := 93) hx hb dX7_readFact_77 (by decide) ?_
          refine cV (a := (Ta 0)) (As := [.int 93]) (rest := []) (wr := [((Va 0), .inr (7, [.ref (Va 1), .int sv_130, .int sv_131])), ((Va 1), .inl (tc 0, 400, .inl sv_132))]) ⟨hx, hb, hml, hown, hts⟩ hK hX hA (cu_X10_takes l D tc sk (Ta 0) (Ta 1) (Tv 0) sv_133 sv_134 sv_135 sv_136 (Tf 1) 93 he_137) k_492 k_613 k_490 k_491 k_96 pl_X10_takes ⟨Nat.le_of_ble_eq_true rfl, Nat.le_of_ble_eq_true rfl⟩ rfl rfl (va_recv hK hP (ci := 10) (q0 := 2) rfl rfl) hP hD hS [2, 3] [0, 1] rfl rfl rfl rfl rfl (by decide) rfl hl.1 rfl (Nat.le_of_ble_eq_true rfl) dX7_readFact_79 ⟨Nat.le_of_ble_eq_true rfl, Nat.le_of_ble_eq_true rfl⟩ (fun v_138 u_139 H locs hv_140 hP₀ hD₀ hS₀ => ?_)
          obtain ⟨sv_141, sv_142, sv_143⟩ := u_139
          obtain ⟨r_144, rfl, he_145⟩ := hv_140
          clear he_137
          have he_145 : ((r_144.toInt = 0 ∨ (r_144.toInt = 1 ∧ sv_135.toInt = (93 : Int32).toInt))) ∧ (0 ≤ ((Tv 0) : Int32).toInt ∧ ((Tv 0) : Int32).toInt ≤ 400 ∧ 0 ≤ (sv_141 : Int32).toInt ∧ (sv_141 : Int32).toInt ≤ 400 ∧ 0 ≤ (sv_142 : Int32).toInt ∧ (sv_142 : Int32).toInt ≤ 400) := he_145
          refine W.eq (g2 := F0 m 82 ls [.int r_144]) rfl ?_
          replace hP : va_P D classes [((Va 0), .inr (7, [.ref (Va 1), .int sv_130, .int sv_131])), ((Va 1), .inl (tc 0, 400, .inl sv_132)), ((Ta 0), .inr (10, [.ref (Ta 1), .int (Tv 0), .int sv_141, .int sv_142, .int sv_143, .int sv_136])), ((Ta 1), .inl (tc 0, 400, .inl (Tf 1)))] H := hP₀
          replace hD : va_D A [((Va 0), .inr (7, [.ref (Va 1), .int sv_130, .int sv_131])), ((Va 1), .inl (tc 0, 400, .inl sv_132)), ((Ta 0), .inr (10, [.ref (Ta 1), .int (Tv 0), .int sv_141, .int sv_142, .int sv_143, .int sv_136])), ((Ta 1), .inl (tc 0, 400, .inl (Tf 1)))] := hD₀
          replace hS := hS₀
          clear hP₀ hD₀ hS₀
          refine lv_if_ne (tgt := 135) hx hb dX7_readFact_82 (by decide) (fun c_146 => ?_) (fun c_146 => ?_)
          · skip
            exact retV hx hb hr hlk hP hD hS (sv_130, sv_131, sv_132, sv_141, sv_142, sv_143, sv_136) ⟨rfl, he_145.2⟩ [0, 1, 2, 3] rfl rfl dX7_readFact_135 (Nat.le_of_ble_eq_true rfl) (Nat.le_of_ble_eq_true rfl) rfl
          · skip
            refine lv_aload_n hx hb dX7_readFact_85 rfl (lv_at hl 2 rfl) ?_
            refine lv_iconst (v := 0) hx hb dX7_readFact_86 (by decide) ?_
            refine cV (a := (Ta 0)) (As := [.int 0]) (rest := []) (wr := [((Va 0), .inr (7, [.ref (Va 1), .int sv_130, .int sv_131])), ((Va 1), .inl (tc 0, 400, .inl sv_132))]) ⟨hx, hb, hml, hown, hts⟩ hK hX hA (cu_X10_fail l D tc sk (Ta 0) (Ta 1) (Tv 0) sv_141 sv_142 sv_143 sv_136 (Tf 1) 0 he_145.2) k_557 k_619 k_555 k_556 k_96 pl_X10_fail ⟨Nat.le_of_ble_eq_true rfl, Nat.le_of_ble_eq_true rfl⟩ rfl rfl (va_recv hK hP (ci := 10) (q0 := 2) rfl rfl) hP hD hS [2, 3] [0, 1] rfl rfl rfl rfl rfl (by decide) rfl hl.1 rfl (Nat.le_of_ble_eq_true rfl) dX7_readFact_87 ⟨Nat.le_of_ble_eq_true rfl, Nat.le_of_ble_eq_true rfl⟩ (fun v_147 u_148 H locs hv_149 hP₀ hD₀ hS₀ => ?_)
            obtain ⟨sv_150, sv_151⟩ := u_148
            obtain ⟨rfl, he_152⟩ := hv_149
            clear he_145
            have he_152 : (0 ≤ ((Tv 0) : Int32).toInt ∧ ((Tv 0) : Int32).toInt ≤ 400 ∧ 0 ≤ (sv_141 : Int32).toInt ∧ (sv_141 : Int32).toInt ≤ 400 ∧ 0 ≤ (sv_142 : Int32).toInt ∧ (sv_142 : Int32).toInt ≤ 400) := he_152
            refine W.eq (g2 := F0 m 90 ls []) rfl ?_
            replace hP : va_P D classes [((Va 0), .inr (7, [.ref (Va 1), .int sv_130, .int sv_131])), ((Va 1), .inl (tc 0, 400, .inl sv_132)), ((Ta 0), .inr (10, [.ref (Ta 1), .int (Tv 0), .int sv_141, .int sv_142, .int sv_150, .int sv_151])), ((Ta 1), .inl (tc 0, 400, .inl (Tf 1)))] H := hP₀
            replace hD : va_D A [((Va 0), .inr (7, [.ref (Va 1), .int sv_130, .int sv_131])), ((Va 1), .inl (tc 0, 400, .inl sv_132)), ((Ta 0), .inr (10, [.ref (Ta 1), .int (Tv 0), .int sv_141, .int sv_142, .int sv_150, .int sv_151])), ((Ta 1), .inl (tc 0, 400, .inl (Tf 1)))] := hD₀
            replace hS := hS₀
            clear hP₀ hD₀ hS₀
            refine lv_goto (tgt := 135) hx hb dX7_readFact_90 (by decide) ?_
            exact retV hx hb hr hlk hP hD hS (sv_130, sv_131, sv_132, sv_141, sv_142, sv_150, sv_151) ⟨rfl, he_152⟩ [0, 1, 2, 3] rfl rfl dX7_readFact_135 (Nat.le_of_ble_eq_true rfl) (Nat.le_of_ble_eq_true rfl) rfl
      · skip
        exfalso
        have z_1 := congrArg Int32.toInt c_7
        have z_2 : ¬ ((Tv 3) : Int32).toInt = (91 : Int32).toInt := fun z => c_33 (Int32.toInt_inj.mp z)
        have z_3 : ¬ (r_5 : Int32).toInt = (0 : Int32).toInt := fun z => c_34 (Int32.toInt_inj.mp z)
        have y_0 : (0 : Int32).toInt = 0 := by decide
        have y_91 : (91 : Int32).toInt = 91 := by decide
        omega
    · skip
      refine lv_iload_n hx hb dX7_readFact_20 rfl (lv_at hl 3 rfl) ?_
      refine lv_bipush (v := 10) hx hb dX7_readFact_21 (by decide) ?_
      refine lv_icmp_lt (tgt := 34) hx hb dX7_readFact_23 (by decide) (fun c_153 => ?_) (fun c_153 => absurd c_153 (by decide))
      refine lv_iload_n hx hb dX7_readFact_34 rfl (lv_at hl 0 rfl) ?_
      refine lv_if_eq (tgt := 59) hx hb dX7_readFact_35 (by decide) (fun c_154 => ?_) (fun c_154 => ?_)
      · skip
        refine lv_aload_n hx hb dX7_readFact_59 rfl (lv_at hl 2 rfl) ?_
        refine lv_bipush (v := 91) hx hb dX7_readFact_60 (by decide) ?_
        refine cV (a := (Ta 0)) (As := [.int 91]) (rest := []) (wr := [((Va 0), .inr (7, [.ref (Va 1), .int (Vv 0), .int (Vv 1)])), ((Va 1), .inl (tc 0, 400, .inl (Vf 1)))]) ⟨hx, hb, hml, hown, hts⟩ hK hX hA (cu_X10_takes l D tc sk (Ta 0) (Ta 1) (Tv 0) (Tv 1) (Tv 2) (Tv 3) (Tv 4) (Tf 1) 91 he_6.2) k_492 k_613 k_490 k_491 k_96 pl_X10_takes ⟨Nat.le_of_ble_eq_true rfl, Nat.le_of_ble_eq_true rfl⟩ rfl rfl (va_recv hK hP (ci := 10) (q0 := 2) rfl rfl) hP hD hS [2, 3] [0, 1] rfl rfl rfl rfl rfl (by decide) rfl hl.1 rfl (Nat.le_of_ble_eq_true rfl) dX7_readFact_62 ⟨Nat.le_of_ble_eq_true rfl, Nat.le_of_ble_eq_true rfl⟩ (fun v_155 u_156 H locs hv_157 hP₀ hD₀ hS₀ => ?_)
        obtain ⟨sv_158, sv_159, sv_160⟩ := u_156
        obtain ⟨r_161, rfl, he_162⟩ := hv_157
        clear he_6
        have he_162 : ((r_161.toInt = 0 ∨ (r_161.toInt = 1 ∧ (Tv 3).toInt = (91 : Int32).toInt))) ∧ (0 ≤ ((Tv 0) : Int32).toInt ∧ ((Tv 0) : Int32).toInt ≤ 400 ∧ 0 ≤ (sv_158 : Int32).toInt ∧ (sv_158 : Int32).toInt ≤ 400 ∧ 0 ≤ (sv_159 : Int32).toInt ∧ (sv_159 : Int32).toInt ≤ 400) := he_162
        refine W.eq (g2 := F0 m 65 ls [.int r_161]) rfl ?_
        replace hP : va_P D classes [((Va 0), .inr (7, [.ref (Va 1), .int (Vv 0), .int (Vv 1)])), ((Va 1), .inl (tc 0, 400, .inl (Vf 1))), ((Ta 0), .inr (10, [.ref (Ta 1), .int (Tv 0), .int sv_158, .int sv_159, .int sv_160, .int (Tv 4)])), ((Ta 1), .inl (tc 0, 400, .inl (Tf 1)))] H := hP₀
        replace hD : va_D A [((Va 0), .inr (7, [.ref (Va 1), .int (Vv 0), .int (Vv 1)])), ((Va 1), .inl (tc 0, 400, .inl (Vf 1))), ((Ta 0), .inr (10, [.ref (Ta 1), .int (Tv 0), .int sv_158, .int sv_159, .int sv_160, .int (Tv 4)])), ((Ta 1), .inl (tc 0, 400, .inl (Tf 1)))] := hD₀
        replace hS := hS₀
        clear hP₀ hD₀ hS₀
        refine lv_if_eq (tgt := 93) hx hb dX7_readFact_65 (by decide) (fun c_163 => ?_) (fun c_163 => ?_)
        · skip
          refine lv_aload_n hx hb dX7_readFact_93 rfl (lv_at hl 1 rfl) ?_
          refine lv_aload_n hx hb dX7_readFact_94 rfl (lv_at hl 2 rfl) ?_
          refine cV (a := (Va 0)) (As := [.ref (Ta 0)]) (rest := []) (wr := []) ⟨hx, hb, hml, hown, hts⟩ hK hX hA (cu_X7_readSum l D tc sk (Va 0) (Va 1) (Vv 0) (Vv 1) (Vf 1) (Ta 0) (Ta 1) (Tv 0) sv_158 sv_159 sv_160 (Tv 4) (Tf 1) he_162.2) k_624 k_621 k_623 k_7 k_99 pl_X7_readSum ⟨Nat.le_of_ble_eq_true rfl, Nat.le_of_ble_eq_true rfl⟩ rfl rfl (va_recv hK hP (ci := 7) (q0 := 0) rfl rfl) hP hD hS [0, 1, 2, 3] [] rfl rfl rfl rfl rfl (by decide) rfl hl.1 rfl (Nat.le_of_ble_eq_true rfl) dX7_readFact_95 ⟨Nat.le_of_ble_eq_true rfl, Nat.le_of_ble_eq_true rfl⟩ (fun v_164 u_165 H locs hv_166 hP₀ hD₀ hS₀ => ?_)
          obtain ⟨sv_167, sv_168, sv_169, sv_170, sv_171, sv_172, sv_173⟩ := u_165
          obtain ⟨rfl, he_174⟩ := hv_166
          clear he_162
          have he_174 : (0 ≤ ((Tv 0) : Int32).toInt ∧ ((Tv 0) : Int32).toInt ≤ 400 ∧ 0 ≤ (sv_170 : Int32).toInt ∧ (sv_170 : Int32).toInt ≤ 400 ∧ 0 ≤ (sv_171 : Int32).toInt ∧ (sv_171 : Int32).toInt ≤ 400) := he_174
          refine W.eq (g2 := F0 m 98 ls []) rfl ?_
          replace hP : va_P D classes [((Va 0), .inr (7, [.ref (Va 1), .int sv_167, .int sv_168])), ((Va 1), .inl (tc 0, 400, .inl sv_169)), ((Ta 0), .inr (10, [.ref (Ta 1), .int (Tv 0), .int sv_170, .int sv_171, .int sv_172, .int sv_173])), ((Ta 1), .inl (tc 0, 400, .inl (Tf 1)))] H := hP₀
          replace hD : va_D A [((Va 0), .inr (7, [.ref (Va 1), .int sv_167, .int sv_168])), ((Va 1), .inl (tc 0, 400, .inl sv_169)), ((Ta 0), .inr (10, [.ref (Ta 1), .int (Tv 0), .int sv_170, .int sv_171, .int sv_172, .int sv_173])), ((Ta 1), .inl (tc 0, 400, .inl (Tf 1)))] := hD₀
          replace hS := hS₀
          clear hP₀ hD₀ hS₀
          refine lv_aload_n hx hb dX7_readFact_98 rfl (lv_at hl 2 rfl) ?_
          refine cS (As := [.ref (Ta 0)]) (rest := []) (wr := [((Va 0), .inr (7, [.ref (Va 1), .int sv_167, .int sv_168])), ((Va 1), .inl (tc 0, 400, .inl sv_169))]) ⟨hx, hb, hml, hown, hts⟩ hK hX hA (cu_X7_comparison l D tc sk (Ta 0) (Ta 1) (Tv 0) sv_170 sv_171 sv_172 sv_173 (Tf 1) he_174) k_663 k_661 k_662 k_99 pl_X7_comparison ⟨Nat.le_of_ble_eq_true rfl, Nat.le_of_ble_eq_true rfl⟩ rfl rfl  hP hD hS [2, 3] [0, 1] rfl rfl rfl rfl rfl (by decide) rfl hl.1 rfl (Nat.le_of_ble_eq_true rfl) dX7_readFact_99 ⟨Nat.le_of_ble_eq_true rfl, Nat.le_of_ble_eq_true rfl⟩ (fun v_175 u_176 H locs hv_177 hP₀ hD₀ hS₀ => ?_)
          obtain ⟨r_178, rfl, he_179⟩ := hv_177
          clear he_174
          have he_179 : (True) ∧ (0 ≤ ((Tv 0) : Int32).toInt ∧ ((Tv 0) : Int32).toInt ≤ 400 ∧ 0 ≤ (sv_170 : Int32).toInt ∧ (sv_170 : Int32).toInt ≤ 400 ∧ 0 ≤ (sv_171 : Int32).toInt ∧ (sv_171 : Int32).toInt ≤ 400) := he_179
          refine W.eq (g2 := F0 m 102 ls [.int r_178]) rfl ?_
          replace hP : va_P D classes [((Va 0), .inr (7, [.ref (Va 1), .int sv_167, .int sv_168])), ((Va 1), .inl (tc 0, 400, .inl sv_169)), ((Ta 0), .inr (10, [.ref (Ta 1), .int (Tv 0), .int sv_170, .int sv_171, .int sv_172, .int sv_173])), ((Ta 1), .inl (tc 0, 400, .inl (Tf 1)))] H := hP₀
          replace hD : va_D A [((Va 0), .inr (7, [.ref (Va 1), .int sv_167, .int sv_168])), ((Va 1), .inl (tc 0, 400, .inl sv_169)), ((Ta 0), .inr (10, [.ref (Ta 1), .int (Tv 0), .int sv_170, .int sv_171, .int sv_172, .int sv_173])), ((Ta 1), .inl (tc 0, 400, .inl (Tf 1)))] := hD₀
          replace hS := hS₀
          clear hP₀ hD₀ hS₀
          refine lv_istore (lv' := [(4, .int r_178), (3, .int r_5), (0, .ref (Va 0)), (1, .ref (Ta 0)), (2, .int 5)]) hx hb dX7_readFact_102 hl (by decide) rfl (fun ls hl₀ => ?_)
          replace hl := hl₀
          clear hl₀
          refine lv_iload hx hb dX7_readFact_104 (lv_at hl 0 rfl) ?_
          refine lv_iconst (v := (-1)) hx hb dX7_readFact_106 (by decide) ?_
          refine lv_icmp_ne (tgt := 115) hx hb dX7_readFact_107 (by decide) (fun c_180 => ?_) (fun c_180 => ?_)
          · skip
            refine lv_aload_n hx hb dX7_readFact_115 rfl (lv_at hl 2 rfl) ?_
            refine lv_aload_n hx hb dX7_readFact_116 rfl (lv_at hl 3 rfl) ?_
            refine cV (a := (Va 0)) (As := [.ref (Ta 0)]) (rest := []) (wr := []) ⟨hx, hb, hml, hown, hts⟩ hK hX hA (cu_X7_countOne l D tc sk (Va 0) (Va 1) sv_167 sv_168 sv_169 (Ta 0) (Ta 1) (Tv 0) sv_170 sv_171 sv_172 sv_173 (Tf 1) he_179.2) k_638 k_635 k_637 k_9 k_99 pl_X7_countOne ⟨Nat.le_of_ble_eq_true rfl, Nat.le_of_ble_eq_true rfl⟩ rfl rfl (va_recv hK hP (ci := 7) (q0 := 0) rfl rfl) hP hD hS [0, 1, 2, 3] [] rfl rfl rfl rfl rfl (by decide) rfl hl.1 rfl (Nat.le_of_ble_eq_true rfl) dX7_readFact_117 ⟨Nat.le_of_ble_eq_true rfl, Nat.le_of_ble_eq_true rfl⟩ (fun v_181 u_182 H locs hv_183 hP₀ hD₀ hS₀ => ?_)
            obtain ⟨sv_184, sv_185, sv_186⟩ := u_182
            obtain ⟨rfl, he_187⟩ := hv_183
            clear he_179
            have he_187 : (0 ≤ ((Tv 0) : Int32).toInt ∧ ((Tv 0) : Int32).toInt ≤ 400 ∧ 0 ≤ (sv_170 : Int32).toInt ∧ (sv_170 : Int32).toInt ≤ 400 ∧ 0 ≤ (sv_171 : Int32).toInt ∧ (sv_171 : Int32).toInt ≤ 400) := he_187
            refine W.eq (g2 := F0 m 120 ls []) rfl ?_
            replace hP : va_P D classes [((Va 0), .inr (7, [.ref (Va 1), .int sv_167, .int sv_184])), ((Va 1), .inl (tc 0, 400, .inl sv_169)), ((Ta 0), .inr (10, [.ref (Ta 1), .int (Tv 0), .int sv_170, .int sv_171, .int sv_185, .int sv_186])), ((Ta 1), .inl (tc 0, 400, .inl (Tf 1)))] H := hP₀
            replace hD : va_D A [((Va 0), .inr (7, [.ref (Va 1), .int sv_167, .int sv_184])), ((Va 1), .inl (tc 0, 400, .inl sv_169)), ((Ta 0), .inr (10, [.ref (Ta 1), .int (Tv 0), .int sv_170, .int sv_171, .int sv_185, .int sv_186])), ((Ta 1), .inl (tc 0, 400, .inl (Tf 1)))] := hD₀
            replace hS := hS₀
            clear hP₀ hD₀ hS₀
            refine lv_aload_n hx hb dX7_readFact_120 rfl (lv_at hl 3 rfl) ?_
            refine cV (a := (Ta 0)) (As := []) (rest := []) (wr := [((Va 0), .inr (7, [.ref (Va 1), .int sv_167, .int sv_184])), ((Va 1), .inl (tc 0, 400, .inl sv_169))]) ⟨hx, hb, hml, hown, hts⟩ hK hX hA (cu_X10_step l D tc sk (Ta 0) (Ta 1) (Tv 0) sv_170 sv_171 sv_185 sv_186 (Tf 1) he_187) k_478 k_620 k_476 k_477 k_96 pl_X10_step ⟨Nat.le_of_ble_eq_true rfl, Nat.le_of_ble_eq_true rfl⟩ rfl rfl (va_recv hK hP (ci := 10) (q0 := 2) rfl rfl) hP hD hS [2, 3] [0, 1] rfl rfl rfl rfl rfl (by decide) rfl hl.1 rfl (Nat.le_of_ble_eq_true rfl) dX7_readFact_121 ⟨Nat.le_of_ble_eq_true rfl, Nat.le_of_ble_eq_true rfl⟩ (fun v_188 u_189 H locs hv_190 hP₀ hD₀ hS₀ => ?_)
            obtain ⟨sv_191, sv_192, sv_193⟩ := u_189
            obtain ⟨rfl, he_194⟩ := hv_190
            clear he_187
            have he_194 : (0 ≤ ((Tv 0) : Int32).toInt ∧ ((Tv 0) : Int32).toInt ≤ 400 ∧ 0 ≤ (sv_191 : Int32).toInt ∧ (sv_191 : Int32).toInt ≤ 400 ∧ 0 ≤ (sv_192 : Int32).toInt ∧ (sv_192 : Int32).toInt ≤ 400) := he_194
            refine W.eq (g2 := F0 m 124 ls []) rfl ?_
            replace hP : va_P D classes [((Va 0), .inr (7, [.ref (Va 1), .int sv_167, .int sv_184])), ((Va 1), .inl (tc 0, 400, .inl sv_169)), ((Ta 0), .inr (10, [.ref (Ta 1), .int (Tv 0), .int sv_191, .int sv_192, .int sv_193, .int sv_186])), ((Ta 1), .inl (tc 0, 400, .inl (Tf 1)))] H := hP₀
            replace hD : va_D A [((Va 0), .inr (7, [.ref (Va 1), .int sv_167, .int sv_184])), ((Va 1), .inl (tc 0, 400, .inl sv_169)), ((Ta 0), .inr (10, [.ref (Ta 1), .int (Tv 0), .int sv_191, .int sv_192, .int sv_193, .int sv_186])), ((Ta 1), .inl (tc 0, 400, .inl (Tf 1)))] := hD₀
            replace hS := hS₀
            clear hP₀ hD₀ hS₀
            refine lv_aload_n hx hb dX7_readFact_124 rfl (lv_at hl 2 rfl) ?_
            refine lv_aload_n hx hb dX7_readFact_125 rfl (lv_at hl 3 rfl) ?_
            refine cV (a := (Va 0)) (As := [.ref (Ta 0)]) (rest := []) (wr := []) ⟨hx, hb, hml, hown, hts⟩ hK hX hA (cu_X7_readSum l D tc sk (Va 0) (Va 1) sv_167 sv_184 sv_169 (Ta 0) (Ta 1) (Tv 0) sv_191 sv_192 sv_193 sv_186 (Tf 1) he_194) k_624 k_621 k_623 k_7 k_99 pl_X7_readSum ⟨Nat.le_of_ble_eq_true rfl, Nat.le_of_ble_eq_true rfl⟩ rfl rfl (va_recv hK hP (ci := 7) (q0 := 0) rfl rfl) hP hD hS [0, 1, 2, 3] [] rfl rfl rfl rfl rfl (by decide) rfl hl.1 rfl (Nat.le_of_ble_eq_true rfl) dX7_readFact_126 ⟨Nat.le_of_ble_eq_true rfl, Nat.le_of_ble_eq_true rfl⟩ (fun v_195 u_196 H locs hv_197 hP₀ hD₀ hS₀ => ?_)
            obtain ⟨sv_198, sv_199, sv_200, sv_201, sv_202, sv_203, sv_204⟩ := u_196
            obtain ⟨rfl, he_205⟩ := hv_197
            clear he_194
            have he_205 : (0 ≤ ((Tv 0) : Int32).toInt ∧ ((Tv 0) : Int32).toInt ≤ 400 ∧ 0 ≤ (sv_201 : Int32).toInt ∧ (sv_201 : Int32).toInt ≤ 400 ∧ 0 ≤ (sv_202 : Int32).toInt ∧ (sv_202 : Int32).toInt ≤ 400) := he_205
            refine W.eq (g2 := F0 m 129 ls []) rfl ?_
            replace hP : va_P D classes [((Va 0), .inr (7, [.ref (Va 1), .int sv_198, .int sv_199])), ((Va 1), .inl (tc 0, 400, .inl sv_200)), ((Ta 0), .inr (10, [.ref (Ta 1), .int (Tv 0), .int sv_201, .int sv_202, .int sv_203, .int sv_204])), ((Ta 1), .inl (tc 0, 400, .inl (Tf 1)))] H := hP₀
            replace hD : va_D A [((Va 0), .inr (7, [.ref (Va 1), .int sv_198, .int sv_199])), ((Va 1), .inl (tc 0, 400, .inl sv_200)), ((Ta 0), .inr (10, [.ref (Ta 1), .int (Tv 0), .int sv_201, .int sv_202, .int sv_203, .int sv_204])), ((Ta 1), .inl (tc 0, 400, .inl (Tf 1)))] := hD₀
            replace hS := hS₀
            clear hP₀ hD₀ hS₀
            refine lv_aload_n hx hb dX7_readFact_129 rfl (lv_at hl 2 rfl) ?_
            refine lv_iload hx hb dX7_readFact_130 (lv_at hl 0 rfl) ?_
            refine cV (a := (Va 0)) (As := [.int r_178]) (rest := []) (wr := [((Ta 0), .inr (10, [.ref (Ta 1), .int (Tv 0), .int sv_201, .int sv_202, .int sv_203, .int sv_204])), ((Ta 1), .inl (tc 0, 400, .inl (Tf 1)))]) ⟨hx, hb, hml, hown, hts⟩ hK hX hA (cu_X7_put l D tc sk (Va 0) (Va 1) sv_198 sv_199 sv_200 r_178) k_642 k_639 k_641 k_10 k_99 pl_X7_put ⟨Nat.le_of_ble_eq_true rfl, Nat.le_of_ble_eq_true rfl⟩ rfl rfl (va_recv hK hP (ci := 7) (q0 := 0) rfl rfl) hP hD hS [0, 1] [2, 3] rfl rfl rfl rfl rfl (by decide) rfl hl.1 rfl (Nat.le_of_ble_eq_true rfl) dX7_readFact_132 ⟨Nat.le_of_ble_eq_true rfl, Nat.le_of_ble_eq_true rfl⟩ (fun v_206 u_207 H locs hv_208 hP₀ hD₀ hS₀ => ?_)
            obtain ⟨sv_209, sv_210⟩ := u_207
            obtain rfl : v_206 = none := hv_208
            refine W.eq (g2 := F0 m 135 ls []) rfl ?_
            replace hP : va_P D classes [((Ta 0), .inr (10, [.ref (Ta 1), .int (Tv 0), .int sv_201, .int sv_202, .int sv_203, .int sv_204])), ((Ta 1), .inl (tc 0, 400, .inl (Tf 1))), ((Va 0), .inr (7, [.ref (Va 1), .int sv_209, .int sv_199])), ((Va 1), .inl (tc 0, 400, .inl sv_210))] H := hP₀
            replace hD : va_D A [((Ta 0), .inr (10, [.ref (Ta 1), .int (Tv 0), .int sv_201, .int sv_202, .int sv_203, .int sv_204])), ((Ta 1), .inl (tc 0, 400, .inl (Tf 1))), ((Va 0), .inr (7, [.ref (Va 1), .int sv_209, .int sv_199])), ((Va 1), .inl (tc 0, 400, .inl sv_210))] := hD₀
            replace hS := hS₀
            clear hP₀ hD₀ hS₀
            exact retV hx hb hr hlk hP hD hS (sv_209, sv_199, sv_210, sv_201, sv_202, sv_203, sv_204) ⟨rfl, he_205⟩ [2, 3, 0, 1] rfl rfl dX7_readFact_135 (Nat.le_of_ble_eq_true rfl) (Nat.le_of_ble_eq_true rfl) rfl
          · skip
            refine lv_aload_n hx hb dX7_readFact_110 rfl (lv_at hl 3 rfl) ?_
            refine lv_iconst (v := 0) hx hb dX7_readFact_111 (by decide) ?_
            refine cV (a := (Ta 0)) (As := [.int 0]) (rest := []) (wr := [((Va 0), .inr (7, [.ref (Va 1), .int sv_167, .int sv_168])), ((Va 1), .inl (tc 0, 400, .inl sv_169))]) ⟨hx, hb, hml, hown, hts⟩ hK hX hA (cu_X10_fail l D tc sk (Ta 0) (Ta 1) (Tv 0) sv_170 sv_171 sv_172 sv_173 (Tf 1) 0 he_179.2) k_557 k_619 k_555 k_556 k_96 pl_X10_fail ⟨Nat.le_of_ble_eq_true rfl, Nat.le_of_ble_eq_true rfl⟩ rfl rfl (va_recv hK hP (ci := 10) (q0 := 2) rfl rfl) hP hD hS [2, 3] [0, 1] rfl rfl rfl rfl rfl (by decide) rfl hl.1 rfl (Nat.le_of_ble_eq_true rfl) dX7_readFact_112 ⟨Nat.le_of_ble_eq_true rfl, Nat.le_of_ble_eq_true rfl⟩ (fun v_211 u_212 H locs hv_213 hP₀ hD₀ hS₀ => ?_)
            obtain ⟨sv_214, sv_215⟩ := u_212
            obtain ⟨rfl, he_216⟩ := hv_213
            clear he_179
            have he_216 : (0 ≤ ((Tv 0) : Int32).toInt ∧ ((Tv 0) : Int32).toInt ≤ 400 ∧ 0 ≤ (sv_170 : Int32).toInt ∧ (sv_170 : Int32).toInt ≤ 400 ∧ 0 ≤ (sv_171 : Int32).toInt ∧ (sv_171 : Int32).toInt ≤ 400) := he_216
            refine W.eq (g2 := F0 m 115 ls []) rfl ?_
            replace hP : va_P D classes [((Va 0), .inr (7, [.ref (Va 1), .int sv_167, .int sv_168])), ((Va 1), .inl (tc 0, 400, .inl sv_169)), ((Ta 0), .inr (10, [.ref (Ta 1), .int (Tv 0), .int sv_170, .int sv_171, .int sv_214, .int sv_215])), ((Ta 1), .inl (tc 0, 400, .inl (Tf 1)))] H := hP₀
            replace hD : va_D A [((Va 0), .inr (7, [.ref (Va 1), .int sv_167, .int sv_168])), ((Va 1), .inl (tc 0, 400, .inl sv_169)), ((Ta 0), .inr (10, [.ref (Ta 1), .int (Tv 0), .int sv_170, .int sv_171, .int sv_214, .int sv_215])), ((Ta 1), .inl (tc 0, 400, .inl (Tf 1)))] := hD₀
            replace hS := hS₀
            clear hP₀ hD₀ hS₀
            refine lv_aload_n hx hb dX7_readFact_115 rfl (lv_at hl 2 rfl) ?_
            refine lv_aload_n hx hb dX7_readFact_116 rfl (lv_at hl 3 rfl) ?_
            refine cV (a := (Va 0)) (As := [.ref (Ta 0)]) (rest := []) (wr := []) ⟨hx, hb, hml, hown, hts⟩ hK hX hA (cu_X7_countOne l D tc sk (Va 0) (Va 1) sv_167 sv_168 sv_169 (Ta 0) (Ta 1) (Tv 0) sv_170 sv_171 sv_214 sv_215 (Tf 1) he_216) k_638 k_635 k_637 k_9 k_99 pl_X7_countOne ⟨Nat.le_of_ble_eq_true rfl, Nat.le_of_ble_eq_true rfl⟩ rfl rfl (va_recv hK hP (ci := 7) (q0 := 0) rfl rfl) hP hD hS [0, 1, 2, 3] [] rfl rfl rfl rfl rfl (by decide) rfl hl.1 rfl (Nat.le_of_ble_eq_true rfl) dX7_readFact_117 ⟨Nat.le_of_ble_eq_true rfl, Nat.le_of_ble_eq_true rfl⟩ (fun v_217 u_218 H locs hv_219 hP₀ hD₀ hS₀ => ?_)
            obtain ⟨sv_220, sv_221, sv_222⟩ := u_218
            obtain ⟨rfl, he_223⟩ := hv_219
            clear he_216
            have he_223 : (0 ≤ ((Tv 0) : Int32).toInt ∧ ((Tv 0) : Int32).toInt ≤ 400 ∧ 0 ≤ (sv_170 : Int32).toInt ∧ (sv_170 : Int32).toInt ≤ 400 ∧ 0 ≤ (sv_171 : Int32).toInt ∧ (sv_171 : Int32).toInt ≤ 400) := he_223
            refine W.eq (g2 := F0 m 120 ls []) rfl ?_
            replace hP : va_P D classes [((Va 0), .inr (7, [.ref (Va 1), .int sv_167, .int sv_220])), ((Va 1), .inl (tc 0, 400, .inl sv_169)), ((Ta 0), .inr (10, [.ref (Ta 1), .int (Tv 0), .int sv_170, .int sv_171, .int sv_221, .int sv_222])), ((Ta 1), .inl (tc 0, 400, .inl (Tf 1)))] H := hP₀
            replace hD : va_D A [((Va 0), .inr (7, [.ref (Va 1), .int sv_167, .int sv_220])), ((Va 1), .inl (tc 0, 400, .inl sv_169)), ((Ta 0), .inr (10, [.ref (Ta 1), .int (Tv 0), .int sv_170, .int sv_171, .int sv_221, .int sv_222])), ((Ta 1), .inl (tc 0, 400, .inl (Tf 1)))] := hD₀
            replace hS := hS₀
            clear hP₀ hD₀ hS₀
            refine lv_aload_n hx hb dX7_readFact_120 rfl (lv_at hl 3 rfl) ?_
            refine cV (a := (Ta 0)) (As := []) (rest := []) (wr := [((Va 0), .inr (7, [.ref (Va 1), .int sv_167, .int sv_220])), ((Va 1), .inl (tc 0, 400, .inl sv_169))]) ⟨hx, hb, hml, hown, hts⟩ hK hX hA (cu_X10_step l D tc sk (Ta 0) (Ta 1) (Tv 0) sv_170 sv_171 sv_221 sv_222 (Tf 1) he_223) k_478 k_620 k_476 k_477 k_96 pl_X10_step ⟨Nat.le_of_ble_eq_true rfl, Nat.le_of_ble_eq_true rfl⟩ rfl rfl (va_recv hK hP (ci := 10) (q0 := 2) rfl rfl) hP hD hS [2, 3] [0, 1] rfl rfl rfl rfl rfl (by decide) rfl hl.1 rfl (Nat.le_of_ble_eq_true rfl) dX7_readFact_121 ⟨Nat.le_of_ble_eq_true rfl, Nat.le_of_ble_eq_true rfl⟩ (fun v_224 u_225 H locs hv_226 hP₀ hD₀ hS₀ => ?_)
            obtain ⟨sv_227, sv_228, sv_229⟩ := u_225
            obtain ⟨rfl, he_230⟩ := hv_226
            clear he_223
            have he_230 : (0 ≤ ((Tv 0) : Int32).toInt ∧ ((Tv 0) : Int32).toInt ≤ 400 ∧ 0 ≤ (sv_227 : Int32).toInt ∧ (sv_227 : Int32).toInt ≤ 400 ∧ 0 ≤ (sv_228 : Int32).toInt ∧ (sv_228 : Int32).toInt ≤ 400) := he_230
            refine W.eq (g2 := F0 m 124 ls []) rfl ?_
            replace hP : va_P D classes [((Va 0), .inr (7, [.ref (Va 1), .int sv_167, .int sv_220])), ((Va 1), .inl (tc 0, 400, .inl sv_169)), ((Ta 0), .inr (10, [.ref (Ta 1), .int (Tv 0), .int sv_227, .int sv_228, .int sv_229, .int sv_222])), ((Ta 1), .inl (tc 0, 400, .inl (Tf 1)))] H := hP₀
            replace hD : va_D A [((Va 0), .inr (7, [.ref (Va 1), .int sv_167, .int sv_220])), ((Va 1), .inl (tc 0, 400, .inl sv_169)), ((Ta 0), .inr (10, [.ref (Ta 1), .int (Tv 0), .int sv_227, .int sv_228, .int sv_229, .int sv_222])), ((Ta 1), .inl (tc 0, 400, .inl (Tf 1)))] := hD₀
            replace hS := hS₀
            clear hP₀ hD₀ hS₀
            refine lv_aload_n hx hb dX7_readFact_124 rfl (lv_at hl 2 rfl) ?_
            refine lv_aload_n hx hb dX7_readFact_125 rfl (lv_at hl 3 rfl) ?_
            refine cV (a := (Va 0)) (As := [.ref (Ta 0)]) (rest := []) (wr := []) ⟨hx, hb, hml, hown, hts⟩ hK hX hA (cu_X7_readSum l D tc sk (Va 0) (Va 1) sv_167 sv_220 sv_169 (Ta 0) (Ta 1) (Tv 0) sv_227 sv_228 sv_229 sv_222 (Tf 1) he_230) k_624 k_621 k_623 k_7 k_99 pl_X7_readSum ⟨Nat.le_of_ble_eq_true rfl, Nat.le_of_ble_eq_true rfl⟩ rfl rfl (va_recv hK hP (ci := 7) (q0 := 0) rfl rfl) hP hD hS [0, 1, 2, 3] [] rfl rfl rfl rfl rfl (by decide) rfl hl.1 rfl (Nat.le_of_ble_eq_true rfl) dX7_readFact_126 ⟨Nat.le_of_ble_eq_true rfl, Nat.le_of_ble_eq_true rfl⟩ (fun v_231 u_232 H locs hv_233 hP₀ hD₀ hS₀ => ?_)
            obtain ⟨sv_234, sv_235, sv_236, sv_237, sv_238, sv_239, sv_240⟩ := u_232
            obtain ⟨rfl, he_241⟩ := hv_233
            clear he_230
            have he_241 : (0 ≤ ((Tv 0) : Int32).toInt ∧ ((Tv 0) : Int32).toInt ≤ 400 ∧ 0 ≤ (sv_237 : Int32).toInt ∧ (sv_237 : Int32).toInt ≤ 400 ∧ 0 ≤ (sv_238 : Int32).toInt ∧ (sv_238 : Int32).toInt ≤ 400) := he_241
            refine W.eq (g2 := F0 m 129 ls []) rfl ?_
            replace hP : va_P D classes [((Va 0), .inr (7, [.ref (Va 1), .int sv_234, .int sv_235])), ((Va 1), .inl (tc 0, 400, .inl sv_236)), ((Ta 0), .inr (10, [.ref (Ta 1), .int (Tv 0), .int sv_237, .int sv_238, .int sv_239, .int sv_240])), ((Ta 1), .inl (tc 0, 400, .inl (Tf 1)))] H := hP₀
            replace hD : va_D A [((Va 0), .inr (7, [.ref (Va 1), .int sv_234, .int sv_235])), ((Va 1), .inl (tc 0, 400, .inl sv_236)), ((Ta 0), .inr (10, [.ref (Ta 1), .int (Tv 0), .int sv_237, .int sv_238, .int sv_239, .int sv_240])), ((Ta 1), .inl (tc 0, 400, .inl (Tf 1)))] := hD₀
            replace hS := hS₀
            clear hP₀ hD₀ hS₀
            refine lv_aload_n hx hb dX7_readFact_129 rfl (lv_at hl 2 rfl) ?_
            refine lv_iload hx hb dX7_readFact_130 (lv_at hl 0 rfl) ?_
            refine cV (a := (Va 0)) (As := [.int r_178]) (rest := []) (wr := [((Ta 0), .inr (10, [.ref (Ta 1), .int (Tv 0), .int sv_237, .int sv_238, .int sv_239, .int sv_240])), ((Ta 1), .inl (tc 0, 400, .inl (Tf 1)))]) ⟨hx, hb, hml, hown, hts⟩ hK hX hA (cu_X7_put l D tc sk (Va 0) (Va 1) sv_234 sv_235 sv_236 r_178) k_642 k_639 k_641 k_10 k_99 pl_X7_put ⟨Nat.le_of_ble_eq_true rfl, Nat.le_of_ble_eq_true rfl⟩ rfl rfl (va_recv hK hP (ci := 7) (q0 := 0) rfl rfl) hP hD hS [0, 1] [2, 3] rfl rfl rfl rfl rfl (by decide) rfl hl.1 rfl (Nat.le_of_ble_eq_true rfl) dX7_readFact_132 ⟨Nat.le_of_ble_eq_true rfl, Nat.le_of_ble_eq_true rfl⟩ (fun v_242 u_243 H locs hv_244 hP₀ hD₀ hS₀ => ?_)
            obtain ⟨sv_245, sv_246⟩ := u_243
            obtain rfl : v_242 = none := hv_244
            refine W.eq (g2 := F0 m 135 ls []) rfl ?_
            replace hP : va_P D classes [((Ta 0), .inr (10, [.ref (Ta 1), .int (Tv 0), .int sv_237, .int sv_238, .int sv_239, .int sv_240])), ((Ta 1), .inl (tc 0, 400, .inl (Tf 1))), ((Va 0), .inr (7, [.ref (Va 1), .int sv_245, .int sv_235])), ((Va 1), .inl (tc 0, 400, .inl sv_246))] H := hP₀
            replace hD : va_D A [((Ta 0), .inr (10, [.ref (Ta 1), .int (Tv 0), .int sv_237, .int sv_238, .int sv_239, .int sv_240])), ((Ta 1), .inl (tc 0, 400, .inl (Tf 1))), ((Va 0), .inr (7, [.ref (Va 1), .int sv_245, .int sv_235])), ((Va 1), .inl (tc 0, 400, .inl sv_246))] := hD₀
            replace hS := hS₀
            clear hP₀ hD₀ hS₀
            exact retV hx hb hr hlk hP hD hS (sv_245, sv_235, sv_246, sv_237, sv_238, sv_239, sv_240) ⟨rfl, he_241⟩ [2, 3, 0, 1] rfl rfl dX7_readFact_135 (Nat.le_of_ble_eq_true rfl) (Nat.le_of_ble_eq_true rfl) rfl
        · skip
          refine lv_aload_n hx hb dX7_readFact_68 rfl (lv_at hl 1 rfl) ?_
          refine lv_aload_n hx hb dX7_readFact_69 rfl (lv_at hl 2 rfl) ?_
          refine lv_iload_n hx hb dX7_readFact_70 rfl (lv_at hl 3 rfl) ?_
          refine lv_iconst (v := 1) hx hb dX7_readFact_71 (by decide) ?_
          refine lv_iadd hx hb dX7_readFact_72 ?_
          refine lv_lit (v := 6) (by decide) ?_
          refine cV (a := (Va 0)) (As := [.ref (Ta 0), .int 6]) (rest := []) (wr := []) ⟨hx, hb, hml, hown, hts⟩ hK hX hA (cu_X7_readTest_6 l D tc sk (Va 0) (Va 1) (Vv 0) (Vv 1) (Vf 1) (Ta 0) (Ta 1) (Tv 0) sv_158 sv_159 sv_160 (Tv 4) (Tf 1) he_162.2) k_655 k_652 k_654 k_11 k_99 pl_X7_readTest ⟨Nat.le_of_ble_eq_true rfl, Nat.le_of_ble_eq_true rfl⟩ rfl rfl (va_recv hK hP (ci := 7) (q0 := 0) rfl rfl) hP hD hS [0, 1, 2, 3] [] rfl rfl rfl rfl rfl (by decide) rfl hl.1 rfl (Nat.le_of_ble_eq_true rfl) dX7_readFact_73 ⟨Nat.le_of_ble_eq_true rfl, Nat.le_of_ble_eq_true rfl⟩ (fun v_247 u_248 H locs hv_249 hP₀ hD₀ hS₀ => ?_)
          obtain ⟨sv_250, sv_251, sv_252, sv_253, sv_254, sv_255, sv_256⟩ := u_248
          obtain ⟨rfl, he_257⟩ := hv_249
          clear he_162
          have he_257 : (0 ≤ ((Tv 0) : Int32).toInt ∧ ((Tv 0) : Int32).toInt ≤ 400 ∧ 0 ≤ (sv_253 : Int32).toInt ∧ (sv_253 : Int32).toInt ≤ 400 ∧ 0 ≤ (sv_254 : Int32).toInt ∧ (sv_254 : Int32).toInt ≤ 400) := he_257
          refine W.eq (g2 := F0 m 76 ls []) rfl ?_
          replace hP : va_P D classes [((Va 0), .inr (7, [.ref (Va 1), .int sv_250, .int sv_251])), ((Va 1), .inl (tc 0, 400, .inl sv_252)), ((Ta 0), .inr (10, [.ref (Ta 1), .int (Tv 0), .int sv_253, .int sv_254, .int sv_255, .int sv_256])), ((Ta 1), .inl (tc 0, 400, .inl (Tf 1)))] H := hP₀
          replace hD : va_D A [((Va 0), .inr (7, [.ref (Va 1), .int sv_250, .int sv_251])), ((Va 1), .inl (tc 0, 400, .inl sv_252)), ((Ta 0), .inr (10, [.ref (Ta 1), .int (Tv 0), .int sv_253, .int sv_254, .int sv_255, .int sv_256])), ((Ta 1), .inl (tc 0, 400, .inl (Tf 1)))] := hD₀
          replace hS := hS₀
          clear hP₀ hD₀ hS₀
          refine lv_aload_n hx hb dX7_readFact_76 rfl (lv_at hl 2 rfl) ?_
          refine lv_bipush (v := 93) hx hb dX7_readFact_77 (by decide) ?_
          refine cV (a := (Ta 0)) (As := [.int 93]) (rest := []) (wr := [((Va 0), .inr (7, [.ref (Va 1), .int sv_250, .int sv_251])), ((Va 1), .inl (tc 0, 400, .inl sv_252))]) ⟨hx, hb, hml, hown, hts⟩ hK hX hA (cu_X10_takes l D tc sk (Ta 0) (Ta 1) (Tv 0) sv_253 sv_254 sv_255 sv_256 (Tf 1) 93 he_257) k_492 k_613 k_490 k_491 k_96 pl_X10_takes ⟨Nat.le_of_ble_eq_true rfl, Nat.le_of_ble_eq_true rfl⟩ rfl rfl (va_recv hK hP (ci := 10) (q0 := 2) rfl rfl) hP hD hS [2, 3] [0, 1] rfl rfl rfl rfl rfl (by decide) rfl hl.1 rfl (Nat.le_of_ble_eq_true rfl) dX7_readFact_79 ⟨Nat.le_of_ble_eq_true rfl, Nat.le_of_ble_eq_true rfl⟩ (fun v_258 u_259 H locs hv_260 hP₀ hD₀ hS₀ => ?_)
          obtain ⟨sv_261, sv_262, sv_263⟩ := u_259
          obtain ⟨r_264, rfl, he_265⟩ := hv_260
          clear he_257
          have he_265 : ((r_264.toInt = 0 ∨ (r_264.toInt = 1 ∧ sv_255.toInt = (93 : Int32).toInt))) ∧ (0 ≤ ((Tv 0) : Int32).toInt ∧ ((Tv 0) : Int32).toInt ≤ 400 ∧ 0 ≤ (sv_261 : Int32).toInt ∧ (sv_261 : Int32).toInt ≤ 400 ∧ 0 ≤ (sv_262 : Int32).toInt ∧ (sv_262 : Int32).toInt ≤ 400) := he_265
          refine W.eq (g2 := F0 m 82 ls [.int r_264]) rfl ?_
          replace hP : va_P D classes [((Va 0), .inr (7, [.ref (Va 1), .int sv_250, .int sv_251])), ((Va 1), .inl (tc 0, 400, .inl sv_252)), ((Ta 0), .inr (10, [.ref (Ta 1), .int (Tv 0), .int sv_261, .int sv_262, .int sv_263, .int sv_256])), ((Ta 1), .inl (tc 0, 400, .inl (Tf 1)))] H := hP₀
          replace hD : va_D A [((Va 0), .inr (7, [.ref (Va 1), .int sv_250, .int sv_251])), ((Va 1), .inl (tc 0, 400, .inl sv_252)), ((Ta 0), .inr (10, [.ref (Ta 1), .int (Tv 0), .int sv_261, .int sv_262, .int sv_263, .int sv_256])), ((Ta 1), .inl (tc 0, 400, .inl (Tf 1)))] := hD₀
          replace hS := hS₀
          clear hP₀ hD₀ hS₀
          refine lv_if_ne (tgt := 135) hx hb dX7_readFact_82 (by decide) (fun c_266 => ?_) (fun c_266 => ?_)
          · skip
            exact retV hx hb hr hlk hP hD hS (sv_250, sv_251, sv_252, sv_261, sv_262, sv_263, sv_256) ⟨rfl, he_265.2⟩ [0, 1, 2, 3] rfl rfl dX7_readFact_135 (Nat.le_of_ble_eq_true rfl) (Nat.le_of_ble_eq_true rfl) rfl
          · skip
            refine lv_aload_n hx hb dX7_readFact_85 rfl (lv_at hl 2 rfl) ?_
            refine lv_iconst (v := 0) hx hb dX7_readFact_86 (by decide) ?_
            refine cV (a := (Ta 0)) (As := [.int 0]) (rest := []) (wr := [((Va 0), .inr (7, [.ref (Va 1), .int sv_250, .int sv_251])), ((Va 1), .inl (tc 0, 400, .inl sv_252))]) ⟨hx, hb, hml, hown, hts⟩ hK hX hA (cu_X10_fail l D tc sk (Ta 0) (Ta 1) (Tv 0) sv_261 sv_262 sv_263 sv_256 (Tf 1) 0 he_265.2) k_557 k_619 k_555 k_556 k_96 pl_X10_fail ⟨Nat.le_of_ble_eq_true rfl, Nat.le_of_ble_eq_true rfl⟩ rfl rfl (va_recv hK hP (ci := 10) (q0 := 2) rfl rfl) hP hD hS [2, 3] [0, 1] rfl rfl rfl rfl rfl (by decide) rfl hl.1 rfl (Nat.le_of_ble_eq_true rfl) dX7_readFact_87 ⟨Nat.le_of_ble_eq_true rfl, Nat.le_of_ble_eq_true rfl⟩ (fun v_267 u_268 H locs hv_269 hP₀ hD₀ hS₀ => ?_)
            obtain ⟨sv_270, sv_271⟩ := u_268
            obtain ⟨rfl, he_272⟩ := hv_269
            clear he_265
            have he_272 : (0 ≤ ((Tv 0) : Int32).toInt ∧ ((Tv 0) : Int32).toInt ≤ 400 ∧ 0 ≤ (sv_261 : Int32).toInt ∧ (sv_261 : Int32).toInt ≤ 400 ∧ 0 ≤ (sv_262 : Int32).toInt ∧ (sv_262 : Int32).toInt ≤ 400) := he_272
            refine W.eq (g2 := F0 m 90 ls []) rfl ?_
            replace hP : va_P D classes [((Va 0), .inr (7, [.ref (Va 1), .int sv_250, .int sv_251])), ((Va 1), .inl (tc 0, 400, .inl sv_252)), ((Ta 0), .inr (10, [.ref (Ta 1), .int (Tv 0), .int sv_261, .int sv_262, .int sv_270, .int sv_271])), ((Ta 1), .inl (tc 0, 400, .inl (Tf 1)))] H := hP₀
            replace hD : va_D A [((Va 0), .inr (7, [.ref (Va 1), .int sv_250, .int sv_251])), ((Va 1), .inl (tc 0, 400, .inl sv_252)), ((Ta 0), .inr (10, [.ref (Ta 1), .int (Tv 0), .int sv_261, .int sv_262, .int sv_270, .int sv_271])), ((Ta 1), .inl (tc 0, 400, .inl (Tf 1)))] := hD₀
            replace hS := hS₀
            clear hP₀ hD₀ hS₀
            refine lv_goto (tgt := 135) hx hb dX7_readFact_90 (by decide) ?_
            exact retV hx hb hr hlk hP hD hS (sv_250, sv_251, sv_252, sv_261, sv_262, sv_270, sv_271) ⟨rfl, he_272⟩ [0, 1, 2, 3] rfl rfl dX7_readFact_135 (Nat.le_of_ble_eq_true rfl) (Nat.le_of_ble_eq_true rfl) rfl
      · skip
        exfalso
        have z_1 := congrArg Int32.toInt c_7
        have z_2 := congrArg Int32.toInt c_33
        have z_3 : ¬ (r_5 : Int32).toInt = (0 : Int32).toInt := fun z => c_154 (Int32.toInt_inj.mp z)
        have y_0 : (0 : Int32).toInt = 0 := by decide
        have y_91 : (91 : Int32).toInt = 91 := by decide
        omega
set_option maxRecDepth 100000 in
theorem cu_X7_readFact_5 (l : Launch) (D : va_G) (tc : Nat → ClassId) (sk : (Nat → Nat) × (Nat → Nat)) (Va_0 : Nat) (Va_1 : Nat) (Vv_0 : Int32) (Vv_1 : Int32) (Vf_1 : Nat → Int32) (Ta_0 : Nat) (Ta_1 : Nat) (Tv_0 : Int32) (Tv_1 : Int32) (Tv_2 : Int32) (Tv_3 : Int32) (Tv_4 : Int32) (Tf_1 : Nat → Int32) (h_tape : 0 ≤ (Tv_0 : Int32).toInt ∧ (Tv_0 : Int32).toInt ≤ 400 ∧ 0 ≤ (Tv_1 : Int32).toInt ∧ (Tv_1 : Int32).toInt ≤ 400 ∧ 0 ≤ (Tv_2 : Int32).toInt ∧ (Tv_2 : Int32).toInt ≤ 400) : Ct l yX7_readFact cX7_readFact 5 none { frames := 18, cells := 0, slots := 0, locals := 425 } D tc sk [.ref Va_0, .ref Ta_0, .int 5] [(Va_0, .inr (7, [.ref Va_1, .int Vv_0, .int Vv_1])), (Va_1, .inl (tc 0, 400, .inl Vf_1)), (Ta_0, .inr (10, [.ref Ta_1, .int Tv_0, .int Tv_1, .int Tv_2, .int Tv_3, .int Tv_4])), (Ta_1, .inl (tc 0, 400, .inl Tf_1))] (fun (v : Option Value) (u : (Int32) × (Int32) × (Nat → Int32) × (Int32) × (Int32) × (Int32) × (Int32)) => match u with | (o1, o2, o3, o4, o5, o6, o7) => v = none ∧ (0 ≤ (Tv_0 : Int32).toInt ∧ (Tv_0 : Int32).toInt ≤ 400 ∧ 0 ≤ (o4 : Int32).toInt ∧ (o4 : Int32).toInt ≤ 400 ∧ 0 ≤ (o5 : Int32).toInt ∧ (o5 : Int32).toInt ≤ 400)) (fun (u : (Int32) × (Int32) × (Nat → Int32) × (Int32) × (Int32) × (Int32) × (Int32)) => match u with | (o1, o2, o3, o4, o5, o6, o7) => [(Va_0, .inr (7, [.ref Va_1, .int o1, .int o2])), (Va_1, .inl (tc 0, 400, .inl o3)), (Ta_0, .inr (10, [.ref Ta_1, .int Tv_0, .int o4, .int o5, .int o6, .int o7])), (Ta_1, .inl (tc 0, 400, .inl Tf_1))]) 0 0 :=
  ct_X7_readFact_5 l D tc sk (fun k => ([Va_0, Va_1] : List (Nat)).getD k 0) (fun k => ([Vv_0, Vv_1] : List (Int32)).getD k 0) (fun k => ([(fun _ => 0), Vf_1] : List (Nat → Int32)).getD k (fun _ => 0)) (fun k => ([Ta_0, Ta_1] : List (Nat)).getD k 0) (fun k => ([Tv_0, Tv_1, Tv_2, Tv_3, Tv_4] : List (Int32)).getD k 0) (fun k => ([(fun _ => 0), Tf_1] : List (Nat → Int32)).getD k (fun _ => 0)) h_tape
set_option maxHeartbeats 4000000 in
set_option maxRecDepth 100000 in
theorem ct_X7_readTest_5 (l : Launch) (D : va_G) (tc : Nat → ClassId) (sk : (Nat → Nat) × (Nat → Nat)) (Va : Nat → Nat) (Vv : Nat → Int32) (Vf : Nat → Nat → Int32) (Ta : Nat → Nat) (Tv : Nat → Int32) (Tf : Nat → Nat → Int32) (h_tape : 0 ≤ ((Tv 0) : Int32).toInt ∧ ((Tv 0) : Int32).toInt ≤ 400 ∧ 0 ≤ ((Tv 1) : Int32).toInt ∧ ((Tv 1) : Int32).toInt ≤ 400 ∧ 0 ≤ ((Tv 2) : Int32).toInt ∧ ((Tv 2) : Int32).toInt ≤ 400) : Ct l yX7_readTest cX7_readTest 6 none { frames := 19, cells := 0, slots := 0, locals := 449 } D tc sk [.ref (Va 0), .ref (Ta 0), .int 5] [((Va 0), .inr (7, [.ref (Va 1), .int (Vv 0), .int (Vv 1)])), ((Va 1), .inl (tc 0, 400, .inl (Vf 1))), ((Ta 0), .inr (10, [.ref (Ta 1), .int (Tv 0), .int (Tv 1), .int (Tv 2), .int (Tv 3), .int (Tv 4)])), ((Ta 1), .inl (tc 0, 400, .inl (Tf 1)))] (fun (v : Option Value) (u : (Int32) × (Int32) × (Nat → Int32) × (Int32) × (Int32) × (Int32) × (Int32)) => match u with | (o1, o2, o3, o4, o5, o6, o7) => v = none ∧ (0 ≤ ((Tv 0) : Int32).toInt ∧ ((Tv 0) : Int32).toInt ≤ 400 ∧ 0 ≤ (o4 : Int32).toInt ∧ (o4 : Int32).toInt ≤ 400 ∧ 0 ≤ (o5 : Int32).toInt ∧ (o5 : Int32).toInt ≤ 400)) (fun (u : (Int32) × (Int32) × (Nat → Int32) × (Int32) × (Int32) × (Int32) × (Int32)) => match u with | (o1, o2, o3, o4, o5, o6, o7) => [((Va 0), .inr (7, [.ref (Va 1), .int o1, .int o2])), ((Va 1), .inl (tc 0, 400, .inl o3)), ((Ta 0), .inr (10, [.ref (Ta 1), .int (Tv 0), .int o4, .int o5, .int o6, .int o7])), ((Ta 1), .inl (tc 0, 400, .inl (Tf 1)))]) 0 0 := by
  refine Ct.start (by decide) (Nat.le_of_ble_eq_true rfl) (fun p e s m below meth c A ls hx hb hr hlk hin hml hown hts hK hX hP hD hA hl hS => ?_)
  have hl : lv_has ls 6 [(0, .ref (Va 0)), (1, .ref (Ta 0)), (2, .int 5)] := hl
  refine lv_aload_n hx hb dX7_readTest_0 rfl (lv_at hl 0 rfl) ?_
  refine lv_aload_n hx hb dX7_readTest_1 rfl (lv_at hl 1 rfl) ?_
  refine lv_iload_n hx hb dX7_readTest_2 rfl (lv_at hl 2 rfl) ?_
  refine cV (a := (Va 0)) (As := [.ref (Ta 0), .int 5]) (rest := []) (wr := []) ⟨hx, hb, hml, hown, hts⟩ hK hX hA (cu_X7_readFact_5 l D tc sk (Va 0) (Va 1) (Vv 0) (Vv 1) (Vf 1) (Ta 0) (Ta 1) (Tv 0) (Tv 1) (Tv 2) (Tv 3) (Tv 4) (Tf 1) h_tape) k_659 k_656 k_658 k_12 k_99 pl_X7_readFact ⟨Nat.le_of_ble_eq_true rfl, Nat.le_of_ble_eq_true rfl⟩ rfl rfl (va_recv hK hP (ci := 7) (q0 := 0) rfl rfl) hP hD hS [0, 1, 2, 3] [] rfl rfl rfl rfl rfl (by decide) rfl hl.1 rfl (Nat.le_of_ble_eq_true rfl) dX7_readTest_3 ⟨Nat.le_of_ble_eq_true rfl, Nat.le_of_ble_eq_true rfl⟩ (fun v_1 u_2 H locs hv_3 hP₀ hD₀ hS₀ => ?_)
  obtain ⟨sv_4, sv_5, sv_6, sv_7, sv_8, sv_9, sv_10⟩ := u_2
  obtain ⟨rfl, he_11⟩ := hv_3
  have he_11 : (0 ≤ ((Tv 0) : Int32).toInt ∧ ((Tv 0) : Int32).toInt ≤ 400 ∧ 0 ≤ (sv_7 : Int32).toInt ∧ (sv_7 : Int32).toInt ≤ 400 ∧ 0 ≤ (sv_8 : Int32).toInt ∧ (sv_8 : Int32).toInt ≤ 400) := he_11
  refine W.eq (g2 := F0 m 6 ls []) rfl ?_
  replace hP : va_P D classes [((Va 0), .inr (7, [.ref (Va 1), .int sv_4, .int sv_5])), ((Va 1), .inl (tc 0, 400, .inl sv_6)), ((Ta 0), .inr (10, [.ref (Ta 1), .int (Tv 0), .int sv_7, .int sv_8, .int sv_9, .int sv_10])), ((Ta 1), .inl (tc 0, 400, .inl (Tf 1)))] H := hP₀
  replace hD : va_D A [((Va 0), .inr (7, [.ref (Va 1), .int sv_4, .int sv_5])), ((Va 1), .inl (tc 0, 400, .inl sv_6)), ((Ta 0), .inr (10, [.ref (Ta 1), .int (Tv 0), .int sv_7, .int sv_8, .int sv_9, .int sv_10])), ((Ta 1), .inl (tc 0, 400, .inl (Tf 1)))] := hD₀
  replace hS := hS₀
  clear hP₀ hD₀ hS₀
  refine lv_iconst (v := 0) hx hb dX7_readTest_6 (by decide) ?_
  refine lv_istore_n (lv' := [(3, .int 0), (0, .ref (Va 0)), (1, .ref (Ta 0)), (2, .int 5)]) hx hb dX7_readTest_7 rfl hl (by decide) rfl (fun ls hl₀ => ?_)
  replace hl := hl₀
  clear hl₀
  refine lv_iconst (v := 0) hx hb dX7_readTest_8 (by decide) ?_
  refine lv_istore (lv' := [(4, .int 0), (3, .int 0), (0, .ref (Va 0)), (1, .ref (Ta 0)), (2, .int 5)]) hx hb dX7_readTest_9 hl (by decide) rfl (fun ls hl₀ => ?_)
  replace hl := hl₀
  clear hl₀
  have loop_33 : ∀ (n_31 : Nat) (vy_22 : Int32) (vy_23 : Int32) (vy_24 : Int32) (vy_25 : Nat → Int32) (vy_26 : Int32) (vy_27 : Int32) (vy_28 : Int32) (vy_29 : Int32) (vy_30 : Int32) (H : Heap) (locs : List Loc) (ls : Array Slot), 0 ≤ (vy_22 : Int32).toInt → (400 - (vy_22 : Int32).toInt).toNat < n_31 → 0 ≤ ((Tv 0) : Int32).toInt ∧ ((Tv 0) : Int32).toInt ≤ 400 ∧ 0 ≤ (vy_26 : Int32).toInt ∧ (vy_26 : Int32).toInt ≤ 400 ∧ 0 ≤ (vy_27 : Int32).toInt ∧ (vy_27 : Int32).toInt ≤ 400 → va_P D classes [((Va 0), .inr (7, [.ref (Va 1), .int vy_23, .int vy_24])), ((Va 1), .inl (tc 0, 400, .inl vy_25)), ((Ta 0), .inr (10, [.ref (Ta 1), .int (Tv 0), .int vy_26, .int vy_27, .int vy_28, .int vy_29])), ((Ta 1), .inl (tc 0, 400, .inl (Tf 1)))] H → va_D A [((Va 0), .inr (7, [.ref (Va 1), .int vy_23, .int vy_24])), ((Va 1), .inl (tc 0, 400, .inl vy_25)), ((Ta 0), .inr (10, [.ref (Ta 1), .int (Tv 0), .int vy_26, .int vy_27, .int vy_28, .int vy_29])), ((Ta 1), .inl (tc 0, 400, .inl (Tf 1)))] → va_S A s.heap H locs → lv_has ls 6 [(4, .int vy_22), (3, .int vy_30), (0, .ref (Va 0)), (1, .ref (Ta 0)), (2, .int 5)] → W p l e ({ frames := 19, cells := 0, slots := 0, locals := 449 }) s m ([.ref (Va 0), .ref (Ta 0), .int 5].toArray) below meth c H locs 0 0 (MQ below (QW (fun (v : Option Value) (u : (Int32) × (Int32) × (Nat → Int32) × (Int32) × (Int32) × (Int32) × (Int32)) => match u with | (o1, o2, o3, o4, o5, o6, o7) => v = none ∧ (0 ≤ ((Tv 0) : Int32).toInt ∧ ((Tv 0) : Int32).toInt ≤ 400 ∧ 0 ≤ (o4 : Int32).toInt ∧ (o4 : Int32).toInt ≤ 400 ∧ 0 ≤ (o5 : Int32).toInt ∧ (o5 : Int32).toInt ≤ 400)) (BW D (fun (u : (Int32) × (Int32) × (Nat → Int32) × (Int32) × (Int32) × (Int32) × (Int32)) => match u with | (o1, o2, o3, o4, o5, o6, o7) => [((Va 0), .inr (7, [.ref (Va 1), .int o1, .int o2])), ((Va 1), .inl (tc 0, 400, .inl o3)), ((Ta 0), .inr (10, [.ref (Ta 1), .int (Tv 0), .int o4, .int o5, .int o6, .int o7])), ((Ta 1), .inl (tc 0, 400, .inl (Tf 1)))]) A) A) ([.ref (Va 0), .ref (Ta 0), .int 5].toArray) s 0 0 A) (F0 m 11 ls []) := by
    clear hP hD hS hl
    intro n_31
    induction n_31 with
    | zero =>
      intro vy_22 vy_23 vy_24 vy_25 vy_26 vy_27 vy_28 vy_29 vy_30 H locs ls h1 h2
      exact absurd h2 (Nat.not_lt_zero _)
    | succ n_31 ih_32 =>
      intro vy_22 vy_23 vy_24 vy_25 vy_26 vy_27 vy_28 vy_29 vy_30 H locs ls hi_35 hn_36 hv_34 hP hD hS hl
      refine lv_iload hx hb dX7_readTest_11 (lv_at hl 0 rfl) ?_
      refine lv_sipush (v := 400) hx hb dX7_readTest_13 (by decide) ?_
      refine lv_icmp_ge (tgt := 92) hx hb dX7_readTest_16 (by decide) (fun c_37 => ?_) (fun c_37 => ?_)
      · skip
        refine lv_iload_n hx hb dX7_readTest_92 rfl (lv_at hl 1 rfl) ?_
        refine lv_if_eq (tgt := 102) hx hb dX7_readTest_93 (by decide) (fun c_38 => ?_) (fun c_38 => ?_)
        · skip
          exact retV hx hb hr hlk hP hD hS (vy_23, vy_24, vy_25, vy_26, vy_27, vy_28, vy_29) ⟨rfl, hv_34⟩ [0, 1, 2, 3] rfl rfl dX7_readTest_102 (Nat.le_of_ble_eq_true rfl) (Nat.le_of_ble_eq_true rfl) rfl
        · skip
          refine lv_aload_n hx hb dX7_readTest_96 rfl (lv_at hl 2 rfl) ?_
          refine lv_bipush (v := (-6)) hx hb dX7_readTest_97 (by decide) ?_
          refine cV (a := (Va 0)) (As := [.int (-6)]) (rest := []) (wr := [((Ta 0), .inr (10, [.ref (Ta 1), .int (Tv 0), .int vy_26, .int vy_27, .int vy_28, .int vy_29])), ((Ta 1), .inl (tc 0, 400, .inl (Tf 1)))]) ⟨hx, hb, hml, hown, hts⟩ hK hX hA (cu_X7_put l D tc sk (Va 0) (Va 1) vy_23 vy_24 vy_25 (-6)) k_642 k_639 k_641 k_10 k_99 pl_X7_put ⟨Nat.le_of_ble_eq_true rfl, Nat.le_of_ble_eq_true rfl⟩ rfl rfl (va_recv hK hP (ci := 7) (q0 := 0) rfl rfl) hP hD hS [0, 1] [2, 3] rfl rfl rfl rfl rfl (by decide) rfl hl.1 rfl (Nat.le_of_ble_eq_true rfl) dX7_readTest_99 ⟨Nat.le_of_ble_eq_true rfl, Nat.le_of_ble_eq_true rfl⟩ (fun v_39 u_40 H locs hv_41 hP₀ hD₀ hS₀ => ?_)
          obtain ⟨sv_42, sv_43⟩ := u_40
          obtain rfl : v_39 = none := hv_41
          refine W.eq (g2 := F0 m 102 ls []) rfl ?_
          replace hP : va_P D classes [((Ta 0), .inr (10, [.ref (Ta 1), .int (Tv 0), .int vy_26, .int vy_27, .int vy_28, .int vy_29])), ((Ta 1), .inl (tc 0, 400, .inl (Tf 1))), ((Va 0), .inr (7, [.ref (Va 1), .int sv_42, .int vy_24])), ((Va 1), .inl (tc 0, 400, .inl sv_43))] H := hP₀
          replace hD : va_D A [((Ta 0), .inr (10, [.ref (Ta 1), .int (Tv 0), .int vy_26, .int vy_27, .int vy_28, .int vy_29])), ((Ta 1), .inl (tc 0, 400, .inl (Tf 1))), ((Va 0), .inr (7, [.ref (Va 1), .int sv_42, .int vy_24])), ((Va 1), .inl (tc 0, 400, .inl sv_43))] := hD₀
          replace hS := hS₀
          clear hP₀ hD₀ hS₀
          exact retV hx hb hr hlk hP hD hS (sv_42, vy_24, sv_43, vy_26, vy_27, vy_28, vy_29) ⟨rfl, hv_34⟩ [2, 3, 0, 1] rfl rfl dX7_readTest_102 (Nat.le_of_ble_eq_true rfl) (Nat.le_of_ble_eq_true rfl) rfl
      · skip
        refine lv_aload_n hx hb dX7_readTest_19 rfl (lv_at hl 3 rfl) ?_
        refine va_ldcS hx hb hown (sx_5 hX) dX7_readTest_20 ?_
        have hh_44 : (5 : Nat) < 7 := by
          have y_5 : (5 : Int32).toInt = 5 := by decide
          omega
        refine cV (a := (Ta 0)) (As := [.ref (sk.1 5)]) (rest := []) (wr := [((Va 0), .inr (7, [.ref (Va 1), .int vy_23, .int vy_24])), ((Va 1), .inl (tc 0, 400, .inl vy_25))]) ⟨hx, hb, hml, hown, hts⟩ hK hX hA (cu_X10_isWord l D tc sk (Ta 0) (Ta 1) (Tv 0) vy_26 vy_27 vy_28 vy_29 (Tf 1) 5 hh_44 hv_34) k_618 k_615 k_616 k_617 k_96 pl_X10_isWord ⟨Nat.le_of_ble_eq_true rfl, Nat.le_of_ble_eq_true rfl⟩ rfl rfl (va_recv hK hP (ci := 10) (q0 := 2) rfl rfl) hP hD hS [2, 3] [0, 1] rfl rfl rfl rfl rfl (by decide) rfl hl.1 rfl (Nat.le_of_ble_eq_true rfl) dX7_readTest_22 ⟨Nat.le_of_ble_eq_true rfl, Nat.le_of_ble_eq_true rfl⟩ (fun v_45 u_46 H locs hv_47 hP₀ hD₀ hS₀ => ?_)
        obtain ⟨r_48, rfl, he_49⟩ := hv_47
        clear he_11
        have he_49 : ((r_48.toInt = 0 ∨ r_48.toInt = 1)) ∧ (0 ≤ ((Tv 0) : Int32).toInt ∧ ((Tv 0) : Int32).toInt ≤ 400 ∧ 0 ≤ (vy_26 : Int32).toInt ∧ (vy_26 : Int32).toInt ≤ 400 ∧ 0 ≤ (vy_27 : Int32).toInt ∧ (vy_27 : Int32).toInt ≤ 400) := he_49
        refine W.eq (g2 := F0 m 25 ls [.int r_48]) rfl ?_
        replace hP : va_P D classes [((Va 0), .inr (7, [.ref (Va 1), .int vy_23, .int vy_24])), ((Va 1), .inl (tc 0, 400, .inl vy_25)), ((Ta 0), .inr (10, [.ref (Ta 1), .int (Tv 0), .int vy_26, .int vy_27, .int vy_28, .int vy_29])), ((Ta 1), .inl (tc 0, 400, .inl (Tf 1)))] H := hP₀
        replace hD : va_D A [((Va 0), .inr (7, [.ref (Va 1), .int vy_23, .int vy_24])), ((Va 1), .inl (tc 0, 400, .inl vy_25)), ((Ta 0), .inr (10, [.ref (Ta 1), .int (Tv 0), .int vy_26, .int vy_27, .int vy_28, .int vy_29])), ((Ta 1), .inl (tc 0, 400, .inl (Tf 1)))] := hD₀
        replace hS := hS₀
        clear hP₀ hD₀ hS₀
        refine lv_if_ne (tgt := 37) hx hb dX7_readTest_25 (by decide) (fun c_50 => ?_) (fun c_50 => ?_)
        · skip
          refine lv_aload_n hx hb dX7_readTest_37 rfl (lv_at hl 3 rfl) ?_
          refine va_ldcS hx hb hown (sx_6 hX) dX7_readTest_38 ?_
          have hh_51 : (6 : Nat) < 7 := by
            have y_6 : (6 : Int32).toInt = 6 := by decide
            omega
          refine cV (a := (Ta 0)) (As := [.ref (sk.1 6)]) (rest := []) (wr := [((Va 0), .inr (7, [.ref (Va 1), .int vy_23, .int vy_24])), ((Va 1), .inl (tc 0, 400, .inl vy_25))]) ⟨hx, hb, hml, hown, hts⟩ hK hX hA (cu_X10_isWord l D tc sk (Ta 0) (Ta 1) (Tv 0) vy_26 vy_27 vy_28 vy_29 (Tf 1) 6 hh_51 he_49.2) k_618 k_615 k_616 k_617 k_96 pl_X10_isWord ⟨Nat.le_of_ble_eq_true rfl, Nat.le_of_ble_eq_true rfl⟩ rfl rfl (va_recv hK hP (ci := 10) (q0 := 2) rfl rfl) hP hD hS [2, 3] [0, 1] rfl rfl rfl rfl rfl (by decide) rfl hl.1 rfl (Nat.le_of_ble_eq_true rfl) dX7_readTest_40 ⟨Nat.le_of_ble_eq_true rfl, Nat.le_of_ble_eq_true rfl⟩ (fun v_52 u_53 H locs hv_54 hP₀ hD₀ hS₀ => ?_)
          obtain ⟨r_55, rfl, he_56⟩ := hv_54
          clear he_49
          have he_56 : ((r_55.toInt = 0 ∨ r_55.toInt = 1)) ∧ (0 ≤ ((Tv 0) : Int32).toInt ∧ ((Tv 0) : Int32).toInt ≤ 400 ∧ 0 ≤ (vy_26 : Int32).toInt ∧ (vy_26 : Int32).toInt ≤ 400 ∧ 0 ≤ (vy_27 : Int32).toInt ∧ (vy_27 : Int32).toInt ≤ 400) := he_56
          refine W.eq (g2 := F0 m 43 ls [.int r_55]) rfl ?_
          replace hP : va_P D classes [((Va 0), .inr (7, [.ref (Va 1), .int vy_23, .int vy_24])), ((Va 1), .inl (tc 0, 400, .inl vy_25)), ((Ta 0), .inr (10, [.ref (Ta 1), .int (Tv 0), .int vy_26, .int vy_27, .int vy_28, .int vy_29])), ((Ta 1), .inl (tc 0, 400, .inl (Tf 1)))] H := hP₀
          replace hD : va_D A [((Va 0), .inr (7, [.ref (Va 1), .int vy_23, .int vy_24])), ((Va 1), .inl (tc 0, 400, .inl vy_25)), ((Ta 0), .inr (10, [.ref (Ta 1), .int (Tv 0), .int vy_26, .int vy_27, .int vy_28, .int vy_29])), ((Ta 1), .inl (tc 0, 400, .inl (Tf 1)))] := hD₀
          replace hS := hS₀
          clear hP₀ hD₀ hS₀
          refine lv_istore (lv' := [(5, .int r_55), (4, .int vy_22), (3, .int vy_30), (0, .ref (Va 0)), (1, .ref (Ta 0)), (2, .int 5)]) hx hb dX7_readTest_43 hl (by decide) rfl (fun ls hl₀ => ?_)
          replace hl := hl₀
          clear hl₀
          refine lv_iload hx hb dX7_readTest_45 (lv_at hl 0 rfl) ?_
          refine lv_if_eq (tgt := 60) hx hb dX7_readTest_47 (by decide) (fun c_57 => ?_) (fun c_57 => ?_)
          · skip
            refine lv_aload_n hx hb dX7_readTest_60 rfl (lv_at hl 4 rfl) ?_
            refine cV (a := (Ta 0)) (As := []) (rest := []) (wr := [((Va 0), .inr (7, [.ref (Va 1), .int vy_23, .int vy_24])), ((Va 1), .inl (tc 0, 400, .inl vy_25))]) ⟨hx, hb, hml, hown, hts⟩ hK hX hA (cu_X10_step l D tc sk (Ta 0) (Ta 1) (Tv 0) vy_26 vy_27 vy_28 vy_29 (Tf 1) he_56.2) k_478 k_620 k_476 k_477 k_96 pl_X10_step ⟨Nat.le_of_ble_eq_true rfl, Nat.le_of_ble_eq_true rfl⟩ rfl rfl (va_recv hK hP (ci := 10) (q0 := 2) rfl rfl) hP hD hS [2, 3] [0, 1] rfl rfl rfl rfl rfl (by decide) rfl hl.1 rfl (Nat.le_of_ble_eq_true rfl) dX7_readTest_61 ⟨Nat.le_of_ble_eq_true rfl, Nat.le_of_ble_eq_true rfl⟩ (fun v_58 u_59 H locs hv_60 hP₀ hD₀ hS₀ => ?_)
            obtain ⟨sv_61, sv_62, sv_63⟩ := u_59
            obtain ⟨rfl, he_64⟩ := hv_60
            clear he_56
            have he_64 : (0 ≤ ((Tv 0) : Int32).toInt ∧ ((Tv 0) : Int32).toInt ≤ 400 ∧ 0 ≤ (sv_61 : Int32).toInt ∧ (sv_61 : Int32).toInt ≤ 400 ∧ 0 ≤ (sv_62 : Int32).toInt ∧ (sv_62 : Int32).toInt ≤ 400) := he_64
            refine W.eq (g2 := F0 m 64 ls []) rfl ?_
            replace hP : va_P D classes [((Va 0), .inr (7, [.ref (Va 1), .int vy_23, .int vy_24])), ((Va 1), .inl (tc 0, 400, .inl vy_25)), ((Ta 0), .inr (10, [.ref (Ta 1), .int (Tv 0), .int sv_61, .int sv_62, .int sv_63, .int vy_29])), ((Ta 1), .inl (tc 0, 400, .inl (Tf 1)))] H := hP₀
            replace hD : va_D A [((Va 0), .inr (7, [.ref (Va 1), .int vy_23, .int vy_24])), ((Va 1), .inl (tc 0, 400, .inl vy_25)), ((Ta 0), .inr (10, [.ref (Ta 1), .int (Tv 0), .int sv_61, .int sv_62, .int sv_63, .int vy_29])), ((Ta 1), .inl (tc 0, 400, .inl (Tf 1)))] := hD₀
            replace hS := hS₀
            clear hP₀ hD₀ hS₀
            refine lv_aload_n hx hb dX7_readTest_64 rfl (lv_at hl 3 rfl) ?_
            refine lv_aload_n hx hb dX7_readTest_65 rfl (lv_at hl 4 rfl) ?_
            refine lv_iload_n hx hb dX7_readTest_66 rfl (lv_at hl 5 rfl) ?_
            refine cV (a := (Va 0)) (As := [.ref (Ta 0), .int 5]) (rest := []) (wr := []) ⟨hx, hb, hml, hown, hts⟩ hK hX hA (cu_X7_readFact_5 l D tc sk (Va 0) (Va 1) vy_23 vy_24 vy_25 (Ta 0) (Ta 1) (Tv 0) sv_61 sv_62 sv_63 vy_29 (Tf 1) he_64) k_659 k_656 k_658 k_12 k_99 pl_X7_readFact ⟨Nat.le_of_ble_eq_true rfl, Nat.le_of_ble_eq_true rfl⟩ rfl rfl (va_recv hK hP (ci := 7) (q0 := 0) rfl rfl) hP hD hS [0, 1, 2, 3] [] rfl rfl rfl rfl rfl (by decide) rfl hl.1 rfl (Nat.le_of_ble_eq_true rfl) dX7_readTest_67 ⟨Nat.le_of_ble_eq_true rfl, Nat.le_of_ble_eq_true rfl⟩ (fun v_65 u_66 H locs hv_67 hP₀ hD₀ hS₀ => ?_)
            obtain ⟨sv_68, sv_69, sv_70, sv_71, sv_72, sv_73, sv_74⟩ := u_66
            obtain ⟨rfl, he_75⟩ := hv_67
            clear he_64
            have he_75 : (0 ≤ ((Tv 0) : Int32).toInt ∧ ((Tv 0) : Int32).toInt ≤ 400 ∧ 0 ≤ (sv_71 : Int32).toInt ∧ (sv_71 : Int32).toInt ≤ 400 ∧ 0 ≤ (sv_72 : Int32).toInt ∧ (sv_72 : Int32).toInt ≤ 400) := he_75
            refine W.eq (g2 := F0 m 70 ls []) rfl ?_
            replace hP : va_P D classes [((Va 0), .inr (7, [.ref (Va 1), .int sv_68, .int sv_69])), ((Va 1), .inl (tc 0, 400, .inl sv_70)), ((Ta 0), .inr (10, [.ref (Ta 1), .int (Tv 0), .int sv_71, .int sv_72, .int sv_73, .int sv_74])), ((Ta 1), .inl (tc 0, 400, .inl (Tf 1)))] H := hP₀
            replace hD : va_D A [((Va 0), .inr (7, [.ref (Va 1), .int sv_68, .int sv_69])), ((Va 1), .inl (tc 0, 400, .inl sv_70)), ((Ta 0), .inr (10, [.ref (Ta 1), .int (Tv 0), .int sv_71, .int sv_72, .int sv_73, .int sv_74])), ((Ta 1), .inl (tc 0, 400, .inl (Tf 1)))] := hD₀
            replace hS := hS₀
            clear hP₀ hD₀ hS₀
            refine lv_iload hx hb dX7_readTest_70 (lv_at hl 0 rfl) ?_
            refine lv_if_eq (tgt := 80) hx hb dX7_readTest_72 (by decide) (fun c_76 => ?_) (fun c_76 => ?_)
            · skip
              refine lv_aload_n hx hb dX7_readTest_80 rfl (lv_at hl 3 rfl) ?_
              refine lv_bipush (v := (-5)) hx hb dX7_readTest_81 (by decide) ?_
              refine cV (a := (Va 0)) (As := [.int (-5)]) (rest := []) (wr := [((Ta 0), .inr (10, [.ref (Ta 1), .int (Tv 0), .int sv_71, .int sv_72, .int sv_73, .int sv_74])), ((Ta 1), .inl (tc 0, 400, .inl (Tf 1)))]) ⟨hx, hb, hml, hown, hts⟩ hK hX hA (cu_X7_put l D tc sk (Va 0) (Va 1) sv_68 sv_69 sv_70 (-5)) k_642 k_639 k_641 k_10 k_99 pl_X7_put ⟨Nat.le_of_ble_eq_true rfl, Nat.le_of_ble_eq_true rfl⟩ rfl rfl (va_recv hK hP (ci := 7) (q0 := 0) rfl rfl) hP hD hS [0, 1] [2, 3] rfl rfl rfl rfl rfl (by decide) rfl hl.1 rfl (Nat.le_of_ble_eq_true rfl) dX7_readTest_83 ⟨Nat.le_of_ble_eq_true rfl, Nat.le_of_ble_eq_true rfl⟩ (fun v_77 u_78 H locs hv_79 hP₀ hD₀ hS₀ => ?_)
              obtain ⟨sv_80, sv_81⟩ := u_78
              obtain rfl : v_77 = none := hv_79
              refine W.eq (g2 := F0 m 86 ls []) rfl ?_
              replace hP : va_P D classes [((Ta 0), .inr (10, [.ref (Ta 1), .int (Tv 0), .int sv_71, .int sv_72, .int sv_73, .int sv_74])), ((Ta 1), .inl (tc 0, 400, .inl (Tf 1))), ((Va 0), .inr (7, [.ref (Va 1), .int sv_80, .int sv_69])), ((Va 1), .inl (tc 0, 400, .inl sv_81))] H := hP₀
              replace hD : va_D A [((Ta 0), .inr (10, [.ref (Ta 1), .int (Tv 0), .int sv_71, .int sv_72, .int sv_73, .int sv_74])), ((Ta 1), .inl (tc 0, 400, .inl (Tf 1))), ((Va 0), .inr (7, [.ref (Va 1), .int sv_80, .int sv_69])), ((Va 1), .inl (tc 0, 400, .inl sv_81))] := hD₀
              replace hS := hS₀
              clear hP₀ hD₀ hS₀
              obtain ⟨x_82, ex_82⟩ : ∃ y : Int32, y = vy_22 + 1 := ⟨_, rfl⟩
              refine lv_iinc (v := x_82) (lv' := [(4, .int x_82), (5, .int r_55), (3, .int vy_30), (0, .ref (Va 0)), (1, .ref (Ta 0)), (2, .int 5)]) hx hb dX7_readTest_86 hl (k := 1) rfl (by rw [ex_82]; rfl) (by decide) rfl (fun ls hl₀ => ?_)
              replace hl := hl₀
              clear hl₀
              refine lv_goto (tgt := 11) hx hb dX7_readTest_89 (by decide) ?_
              have hb_83 : 0 ≤ (x_82 : Int32).toInt ∧ (400 - (x_82 : Int32).toInt).toNat < n_31 := by
                have z_1 := Int32.lt_iff_toInt_lt.mp (Int32.not_le.mp c_37)
                have y_400 : (400 : Int32).toInt = 400 := by decide
                have y_1 : (1 : Int32).toInt = 1 := by decide
                have t_x_82 : x_82.toInt = (vy_22 : Int32).toInt + (1 : Int32).toInt := by rw [ex_82]; exact add_toInt (by omega) (by omega)
                omega
              exact ih_32 x_82 sv_80 sv_69 sv_81 sv_71 sv_72 sv_73 sv_74 vy_30 _ _ _ hb_83.1 hb_83.2 he_75 (hP.sub [2, 3, 0, 1] rfl) (hD.sub [2, 3, 0, 1] rfl rfl) hS (lv_sub hl [0, 2, 3, 4, 5] rfl)
            · skip
              exfalso
              have z_1 := Int32.lt_iff_toInt_lt.mp (Int32.not_le.mp c_37)
              have z_2 : ¬ (r_48 : Int32).toInt = (0 : Int32).toInt := fun z => c_50 (Int32.toInt_inj.mp z)
              have z_3 := congrArg Int32.toInt c_57
              have z_4 : ¬ (r_55 : Int32).toInt = (0 : Int32).toInt := fun z => c_76 (Int32.toInt_inj.mp z)
              have y_0 : (0 : Int32).toInt = 0 := by decide
              have y_400 : (400 : Int32).toInt = 400 := by decide
              omega
          · skip
            refine lv_iload_n hx hb dX7_readTest_50 rfl (lv_at hl 2 rfl) ?_
            refine lv_if_eq (tgt := 60) hx hb dX7_readTest_51 (by decide) (fun c_84 => ?_) (fun c_84 => ?_)
            · skip
              refine lv_aload_n hx hb dX7_readTest_60 rfl (lv_at hl 4 rfl) ?_
              refine cV (a := (Ta 0)) (As := []) (rest := []) (wr := [((Va 0), .inr (7, [.ref (Va 1), .int vy_23, .int vy_24])), ((Va 1), .inl (tc 0, 400, .inl vy_25))]) ⟨hx, hb, hml, hown, hts⟩ hK hX hA (cu_X10_step l D tc sk (Ta 0) (Ta 1) (Tv 0) vy_26 vy_27 vy_28 vy_29 (Tf 1) he_56.2) k_478 k_620 k_476 k_477 k_96 pl_X10_step ⟨Nat.le_of_ble_eq_true rfl, Nat.le_of_ble_eq_true rfl⟩ rfl rfl (va_recv hK hP (ci := 10) (q0 := 2) rfl rfl) hP hD hS [2, 3] [0, 1] rfl rfl rfl rfl rfl (by decide) rfl hl.1 rfl (Nat.le_of_ble_eq_true rfl) dX7_readTest_61 ⟨Nat.le_of_ble_eq_true rfl, Nat.le_of_ble_eq_true rfl⟩ (fun v_85 u_86 H locs hv_87 hP₀ hD₀ hS₀ => ?_)
              obtain ⟨sv_88, sv_89, sv_90⟩ := u_86
              obtain ⟨rfl, he_91⟩ := hv_87
              clear he_56
              have he_91 : (0 ≤ ((Tv 0) : Int32).toInt ∧ ((Tv 0) : Int32).toInt ≤ 400 ∧ 0 ≤ (sv_88 : Int32).toInt ∧ (sv_88 : Int32).toInt ≤ 400 ∧ 0 ≤ (sv_89 : Int32).toInt ∧ (sv_89 : Int32).toInt ≤ 400) := he_91
              refine W.eq (g2 := F0 m 64 ls []) rfl ?_
              replace hP : va_P D classes [((Va 0), .inr (7, [.ref (Va 1), .int vy_23, .int vy_24])), ((Va 1), .inl (tc 0, 400, .inl vy_25)), ((Ta 0), .inr (10, [.ref (Ta 1), .int (Tv 0), .int sv_88, .int sv_89, .int sv_90, .int vy_29])), ((Ta 1), .inl (tc 0, 400, .inl (Tf 1)))] H := hP₀
              replace hD : va_D A [((Va 0), .inr (7, [.ref (Va 1), .int vy_23, .int vy_24])), ((Va 1), .inl (tc 0, 400, .inl vy_25)), ((Ta 0), .inr (10, [.ref (Ta 1), .int (Tv 0), .int sv_88, .int sv_89, .int sv_90, .int vy_29])), ((Ta 1), .inl (tc 0, 400, .inl (Tf 1)))] := hD₀
              replace hS := hS₀
              clear hP₀ hD₀ hS₀
              refine lv_aload_n hx hb dX7_readTest_64 rfl (lv_at hl 3 rfl) ?_
              refine lv_aload_n hx hb dX7_readTest_65 rfl (lv_at hl 4 rfl) ?_
              refine lv_iload_n hx hb dX7_readTest_66 rfl (lv_at hl 5 rfl) ?_
              refine cV (a := (Va 0)) (As := [.ref (Ta 0), .int 5]) (rest := []) (wr := []) ⟨hx, hb, hml, hown, hts⟩ hK hX hA (cu_X7_readFact_5 l D tc sk (Va 0) (Va 1) vy_23 vy_24 vy_25 (Ta 0) (Ta 1) (Tv 0) sv_88 sv_89 sv_90 vy_29 (Tf 1) he_91) k_659 k_656 k_658 k_12 k_99 pl_X7_readFact ⟨Nat.le_of_ble_eq_true rfl, Nat.le_of_ble_eq_true rfl⟩ rfl rfl (va_recv hK hP (ci := 7) (q0 := 0) rfl rfl) hP hD hS [0, 1, 2, 3] [] rfl rfl rfl rfl rfl (by decide) rfl hl.1 rfl (Nat.le_of_ble_eq_true rfl) dX7_readTest_67 ⟨Nat.le_of_ble_eq_true rfl, Nat.le_of_ble_eq_true rfl⟩ (fun v_92 u_93 H locs hv_94 hP₀ hD₀ hS₀ => ?_)
              obtain ⟨sv_95, sv_96, sv_97, sv_98, sv_99, sv_100, sv_101⟩ := u_93
              obtain ⟨rfl, he_102⟩ := hv_94
              clear he_91
              have he_102 : (0 ≤ ((Tv 0) : Int32).toInt ∧ ((Tv 0) : Int32).toInt ≤ 400 ∧ 0 ≤ (sv_98 : Int32).toInt ∧ (sv_98 : Int32).toInt ≤ 400 ∧ 0 ≤ (sv_99 : Int32).toInt ∧ (sv_99 : Int32).toInt ≤ 400) := he_102
              refine W.eq (g2 := F0 m 70 ls []) rfl ?_
              replace hP : va_P D classes [((Va 0), .inr (7, [.ref (Va 1), .int sv_95, .int sv_96])), ((Va 1), .inl (tc 0, 400, .inl sv_97)), ((Ta 0), .inr (10, [.ref (Ta 1), .int (Tv 0), .int sv_98, .int sv_99, .int sv_100, .int sv_101])), ((Ta 1), .inl (tc 0, 400, .inl (Tf 1)))] H := hP₀
              replace hD : va_D A [((Va 0), .inr (7, [.ref (Va 1), .int sv_95, .int sv_96])), ((Va 1), .inl (tc 0, 400, .inl sv_97)), ((Ta 0), .inr (10, [.ref (Ta 1), .int (Tv 0), .int sv_98, .int sv_99, .int sv_100, .int sv_101])), ((Ta 1), .inl (tc 0, 400, .inl (Tf 1)))] := hD₀
              replace hS := hS₀
              clear hP₀ hD₀ hS₀
              refine lv_iload hx hb dX7_readTest_70 (lv_at hl 0 rfl) ?_
              refine lv_if_eq (tgt := 80) hx hb dX7_readTest_72 (by decide) (fun c_103 => ?_) (fun c_103 => ?_)
              · skip
                exfalso
                have z_1 := Int32.lt_iff_toInt_lt.mp (Int32.not_le.mp c_37)
                have z_2 : ¬ (r_48 : Int32).toInt = (0 : Int32).toInt := fun z => c_50 (Int32.toInt_inj.mp z)
                have z_3 : ¬ (r_55 : Int32).toInt = (0 : Int32).toInt := fun z => c_57 (Int32.toInt_inj.mp z)
                have z_4 := congrArg Int32.toInt c_84
                have z_5 := congrArg Int32.toInt c_103
                have y_0 : (0 : Int32).toInt = 0 := by decide
                have y_400 : (400 : Int32).toInt = 400 := by decide
                omega
              · skip
                refine lv_iconst (v := 1) hx hb dX7_readTest_75 (by decide) ?_
                refine lv_istore_n (lv' := [(3, .int 1), (5, .int r_55), (4, .int vy_22), (0, .ref (Va 0)), (1, .ref (Ta 0)), (2, .int 5)]) hx hb dX7_readTest_76 rfl hl (by decide) rfl (fun ls hl₀ => ?_)
                replace hl := hl₀
                clear hl₀
                refine lv_goto (tgt := 86) hx hb dX7_readTest_77 (by decide) ?_
                obtain ⟨x_104, ex_104⟩ : ∃ y : Int32, y = vy_22 + 1 := ⟨_, rfl⟩
                refine lv_iinc (v := x_104) (lv' := [(4, .int x_104), (3, .int 1), (5, .int r_55), (0, .ref (Va 0)), (1, .ref (Ta 0)), (2, .int 5)]) hx hb dX7_readTest_86 hl (k := 2) rfl (by rw [ex_104]; rfl) (by decide) rfl (fun ls hl₀ => ?_)
                replace hl := hl₀
                clear hl₀
                refine lv_goto (tgt := 11) hx hb dX7_readTest_89 (by decide) ?_
                have hb_105 : 0 ≤ (x_104 : Int32).toInt ∧ (400 - (x_104 : Int32).toInt).toNat < n_31 := by
                  have z_1 := Int32.lt_iff_toInt_lt.mp (Int32.not_le.mp c_37)
                  have y_400 : (400 : Int32).toInt = 400 := by decide
                  have y_1 : (1 : Int32).toInt = 1 := by decide
                  have t_x_104 : x_104.toInt = (vy_22 : Int32).toInt + (1 : Int32).toInt := by rw [ex_104]; exact add_toInt (by omega) (by omega)
                  omega
                exact ih_32 x_104 sv_95 sv_96 sv_97 sv_98 sv_99 sv_100 sv_101 1 _ _ _ hb_105.1 hb_105.2 he_102 (hP.sub [0, 1, 2, 3] rfl) (hD.sub [0, 1, 2, 3] rfl rfl) hS (lv_sub hl [0, 1, 3, 4, 5] rfl)
            · skip
              refine lv_aload_n hx hb dX7_readTest_54 rfl (lv_at hl 3 rfl) ?_
              refine lv_bipush (v := (-6)) hx hb dX7_readTest_55 (by decide) ?_
              refine cV (a := (Va 0)) (As := [.int (-6)]) (rest := []) (wr := [((Ta 0), .inr (10, [.ref (Ta 1), .int (Tv 0), .int vy_26, .int vy_27, .int vy_28, .int vy_29])), ((Ta 1), .inl (tc 0, 400, .inl (Tf 1)))]) ⟨hx, hb, hml, hown, hts⟩ hK hX hA (cu_X7_put l D tc sk (Va 0) (Va 1) vy_23 vy_24 vy_25 (-6)) k_642 k_639 k_641 k_10 k_99 pl_X7_put ⟨Nat.le_of_ble_eq_true rfl, Nat.le_of_ble_eq_true rfl⟩ rfl rfl (va_recv hK hP (ci := 7) (q0 := 0) rfl rfl) hP hD hS [0, 1] [2, 3] rfl rfl rfl rfl rfl (by decide) rfl hl.1 rfl (Nat.le_of_ble_eq_true rfl) dX7_readTest_57 ⟨Nat.le_of_ble_eq_true rfl, Nat.le_of_ble_eq_true rfl⟩ (fun v_106 u_107 H locs hv_108 hP₀ hD₀ hS₀ => ?_)
              obtain ⟨sv_109, sv_110⟩ := u_107
              obtain rfl : v_106 = none := hv_108
              refine W.eq (g2 := F0 m 60 ls []) rfl ?_
              replace hP : va_P D classes [((Ta 0), .inr (10, [.ref (Ta 1), .int (Tv 0), .int vy_26, .int vy_27, .int vy_28, .int vy_29])), ((Ta 1), .inl (tc 0, 400, .inl (Tf 1))), ((Va 0), .inr (7, [.ref (Va 1), .int sv_109, .int vy_24])), ((Va 1), .inl (tc 0, 400, .inl sv_110))] H := hP₀
              replace hD : va_D A [((Ta 0), .inr (10, [.ref (Ta 1), .int (Tv 0), .int vy_26, .int vy_27, .int vy_28, .int vy_29])), ((Ta 1), .inl (tc 0, 400, .inl (Tf 1))), ((Va 0), .inr (7, [.ref (Va 1), .int sv_109, .int vy_24])), ((Va 1), .inl (tc 0, 400, .inl sv_110))] := hD₀
              replace hS := hS₀
              clear hP₀ hD₀ hS₀
              refine lv_aload_n hx hb dX7_readTest_60 rfl (lv_at hl 4 rfl) ?_
              refine cV (a := (Ta 0)) (As := []) (rest := []) (wr := [((Va 0), .inr (7, [.ref (Va 1), .int sv_109, .int vy_24])), ((Va 1), .inl (tc 0, 400, .inl sv_110))]) ⟨hx, hb, hml, hown, hts⟩ hK hX hA (cu_X10_step l D tc sk (Ta 0) (Ta 1) (Tv 0) vy_26 vy_27 vy_28 vy_29 (Tf 1) he_56.2) k_478 k_620 k_476 k_477 k_96 pl_X10_step ⟨Nat.le_of_ble_eq_true rfl, Nat.le_of_ble_eq_true rfl⟩ rfl rfl (va_recv hK hP (ci := 10) (q0 := 0) rfl rfl) hP hD hS [0, 1] [2, 3] rfl rfl rfl rfl rfl (by decide) rfl hl.1 rfl (Nat.le_of_ble_eq_true rfl) dX7_readTest_61 ⟨Nat.le_of_ble_eq_true rfl, Nat.le_of_ble_eq_true rfl⟩ (fun v_111 u_112 H locs hv_113 hP₀ hD₀ hS₀ => ?_)
              obtain ⟨sv_114, sv_115, sv_116⟩ := u_112
              obtain ⟨rfl, he_117⟩ := hv_113
              clear he_56
              have he_117 : (0 ≤ ((Tv 0) : Int32).toInt ∧ ((Tv 0) : Int32).toInt ≤ 400 ∧ 0 ≤ (sv_114 : Int32).toInt ∧ (sv_114 : Int32).toInt ≤ 400 ∧ 0 ≤ (sv_115 : Int32).toInt ∧ (sv_115 : Int32).toInt ≤ 400) := he_117
              refine W.eq (g2 := F0 m 64 ls []) rfl ?_
              replace hP : va_P D classes [((Va 0), .inr (7, [.ref (Va 1), .int sv_109, .int vy_24])), ((Va 1), .inl (tc 0, 400, .inl sv_110)), ((Ta 0), .inr (10, [.ref (Ta 1), .int (Tv 0), .int sv_114, .int sv_115, .int sv_116, .int vy_29])), ((Ta 1), .inl (tc 0, 400, .inl (Tf 1)))] H := hP₀
              replace hD : va_D A [((Va 0), .inr (7, [.ref (Va 1), .int sv_109, .int vy_24])), ((Va 1), .inl (tc 0, 400, .inl sv_110)), ((Ta 0), .inr (10, [.ref (Ta 1), .int (Tv 0), .int sv_114, .int sv_115, .int sv_116, .int vy_29])), ((Ta 1), .inl (tc 0, 400, .inl (Tf 1)))] := hD₀
              replace hS := hS₀
              clear hP₀ hD₀ hS₀
              refine lv_aload_n hx hb dX7_readTest_64 rfl (lv_at hl 3 rfl) ?_
              refine lv_aload_n hx hb dX7_readTest_65 rfl (lv_at hl 4 rfl) ?_
              refine lv_iload_n hx hb dX7_readTest_66 rfl (lv_at hl 5 rfl) ?_
              refine cV (a := (Va 0)) (As := [.ref (Ta 0), .int 5]) (rest := []) (wr := []) ⟨hx, hb, hml, hown, hts⟩ hK hX hA (cu_X7_readFact_5 l D tc sk (Va 0) (Va 1) sv_109 vy_24 sv_110 (Ta 0) (Ta 1) (Tv 0) sv_114 sv_115 sv_116 vy_29 (Tf 1) he_117) k_659 k_656 k_658 k_12 k_99 pl_X7_readFact ⟨Nat.le_of_ble_eq_true rfl, Nat.le_of_ble_eq_true rfl⟩ rfl rfl (va_recv hK hP (ci := 7) (q0 := 0) rfl rfl) hP hD hS [0, 1, 2, 3] [] rfl rfl rfl rfl rfl (by decide) rfl hl.1 rfl (Nat.le_of_ble_eq_true rfl) dX7_readTest_67 ⟨Nat.le_of_ble_eq_true rfl, Nat.le_of_ble_eq_true rfl⟩ (fun v_118 u_119 H locs hv_120 hP₀ hD₀ hS₀ => ?_)
              obtain ⟨sv_121, sv_122, sv_123, sv_124, sv_125, sv_126, sv_127⟩ := u_119
              obtain ⟨rfl, he_128⟩ := hv_120
              clear he_117
              have he_128 : (0 ≤ ((Tv 0) : Int32).toInt ∧ ((Tv 0) : Int32).toInt ≤ 400 ∧ 0 ≤ (sv_124 : Int32).toInt ∧ (sv_124 : Int32).toInt ≤ 400 ∧ 0 ≤ (sv_125 : Int32).toInt ∧ (sv_125 : Int32).toInt ≤ 400) := he_128
              refine W.eq (g2 := F0 m 70 ls []) rfl ?_
              replace hP : va_P D classes [((Va 0), .inr (7, [.ref (Va 1), .int sv_121, .int sv_122])), ((Va 1), .inl (tc 0, 400, .inl sv_123)), ((Ta 0), .inr (10, [.ref (Ta 1), .int (Tv 0), .int sv_124, .int sv_125, .int sv_126, .int sv_127])), ((Ta 1), .inl (tc 0, 400, .inl (Tf 1)))] H := hP₀
              replace hD : va_D A [((Va 0), .inr (7, [.ref (Va 1), .int sv_121, .int sv_122])), ((Va 1), .inl (tc 0, 400, .inl sv_123)), ((Ta 0), .inr (10, [.ref (Ta 1), .int (Tv 0), .int sv_124, .int sv_125, .int sv_126, .int sv_127])), ((Ta 1), .inl (tc 0, 400, .inl (Tf 1)))] := hD₀
              replace hS := hS₀
              clear hP₀ hD₀ hS₀
              refine lv_iload hx hb dX7_readTest_70 (lv_at hl 0 rfl) ?_
              refine lv_if_eq (tgt := 80) hx hb dX7_readTest_72 (by decide) (fun c_129 => ?_) (fun c_129 => ?_)
              · skip
                exfalso
                have z_1 := Int32.lt_iff_toInt_lt.mp (Int32.not_le.mp c_37)
                have z_2 : ¬ (r_48 : Int32).toInt = (0 : Int32).toInt := fun z => c_50 (Int32.toInt_inj.mp z)
                have z_3 : ¬ (r_55 : Int32).toInt = (0 : Int32).toInt := fun z => c_57 (Int32.toInt_inj.mp z)
                have z_4 : ¬ (vy_30 : Int32).toInt = (0 : Int32).toInt := fun z => c_84 (Int32.toInt_inj.mp z)
                have z_5 := congrArg Int32.toInt c_129
                have y_0 : (0 : Int32).toInt = 0 := by decide
                have y_400 : (400 : Int32).toInt = 400 := by decide
                omega
              · skip
                refine lv_iconst (v := 1) hx hb dX7_readTest_75 (by decide) ?_
                refine lv_istore_n (lv' := [(3, .int 1), (5, .int r_55), (4, .int vy_22), (0, .ref (Va 0)), (1, .ref (Ta 0)), (2, .int 5)]) hx hb dX7_readTest_76 rfl hl (by decide) rfl (fun ls hl₀ => ?_)
                replace hl := hl₀
                clear hl₀
                refine lv_goto (tgt := 86) hx hb dX7_readTest_77 (by decide) ?_
                obtain ⟨x_130, ex_130⟩ : ∃ y : Int32, y = vy_22 + 1 := ⟨_, rfl⟩
                refine lv_iinc (v := x_130) (lv' := [(4, .int x_130), (3, .int 1), (5, .int r_55), (0, .ref (Va 0)), (1, .ref (Ta 0)), (2, .int 5)]) hx hb dX7_readTest_86 hl (k := 2) rfl (by rw [ex_130]; rfl) (by decide) rfl (fun ls hl₀ => ?_)
                replace hl := hl₀
                clear hl₀
                refine lv_goto (tgt := 11) hx hb dX7_readTest_89 (by decide) ?_
                have hb_131 : 0 ≤ (x_130 : Int32).toInt ∧ (400 - (x_130 : Int32).toInt).toNat < n_31 := by
                  have z_1 := Int32.lt_iff_toInt_lt.mp (Int32.not_le.mp c_37)
                  have y_400 : (400 : Int32).toInt = 400 := by decide
                  have y_1 : (1 : Int32).toInt = 1 := by decide
                  have t_x_130 : x_130.toInt = (vy_22 : Int32).toInt + (1 : Int32).toInt := by rw [ex_130]; exact add_toInt (by omega) (by omega)
                  omega
                exact ih_32 x_130 sv_121 sv_122 sv_123 sv_124 sv_125 sv_126 sv_127 1 _ _ _ hb_131.1 hb_131.2 he_128 (hP.sub [0, 1, 2, 3] rfl) (hD.sub [0, 1, 2, 3] rfl rfl) hS (lv_sub hl [0, 1, 3, 4, 5] rfl)
        · skip
          refine lv_aload_n hx hb dX7_readTest_28 rfl (lv_at hl 3 rfl) ?_
          refine va_ldcS hx hb hown (sx_6 hX) dX7_readTest_29 ?_
          have hh_132 : (6 : Nat) < 7 := by
            have y_6 : (6 : Int32).toInt = 6 := by decide
            omega
          refine cV (a := (Ta 0)) (As := [.ref (sk.1 6)]) (rest := []) (wr := [((Va 0), .inr (7, [.ref (Va 1), .int vy_23, .int vy_24])), ((Va 1), .inl (tc 0, 400, .inl vy_25))]) ⟨hx, hb, hml, hown, hts⟩ hK hX hA (cu_X10_isWord l D tc sk (Ta 0) (Ta 1) (Tv 0) vy_26 vy_27 vy_28 vy_29 (Tf 1) 6 hh_132 he_49.2) k_618 k_615 k_616 k_617 k_96 pl_X10_isWord ⟨Nat.le_of_ble_eq_true rfl, Nat.le_of_ble_eq_true rfl⟩ rfl rfl (va_recv hK hP (ci := 10) (q0 := 2) rfl rfl) hP hD hS [2, 3] [0, 1] rfl rfl rfl rfl rfl (by decide) rfl hl.1 rfl (Nat.le_of_ble_eq_true rfl) dX7_readTest_31 ⟨Nat.le_of_ble_eq_true rfl, Nat.le_of_ble_eq_true rfl⟩ (fun v_133 u_134 H locs hv_135 hP₀ hD₀ hS₀ => ?_)
          obtain ⟨r_136, rfl, he_137⟩ := hv_135
          clear he_49
          have he_137 : ((r_136.toInt = 0 ∨ r_136.toInt = 1)) ∧ (0 ≤ ((Tv 0) : Int32).toInt ∧ ((Tv 0) : Int32).toInt ≤ 400 ∧ 0 ≤ (vy_26 : Int32).toInt ∧ (vy_26 : Int32).toInt ≤ 400 ∧ 0 ≤ (vy_27 : Int32).toInt ∧ (vy_27 : Int32).toInt ≤ 400) := he_137
          refine W.eq (g2 := F0 m 34 ls [.int r_136]) rfl ?_
          replace hP : va_P D classes [((Va 0), .inr (7, [.ref (Va 1), .int vy_23, .int vy_24])), ((Va 1), .inl (tc 0, 400, .inl vy_25)), ((Ta 0), .inr (10, [.ref (Ta 1), .int (Tv 0), .int vy_26, .int vy_27, .int vy_28, .int vy_29])), ((Ta 1), .inl (tc 0, 400, .inl (Tf 1)))] H := hP₀
          replace hD : va_D A [((Va 0), .inr (7, [.ref (Va 1), .int vy_23, .int vy_24])), ((Va 1), .inl (tc 0, 400, .inl vy_25)), ((Ta 0), .inr (10, [.ref (Ta 1), .int (Tv 0), .int vy_26, .int vy_27, .int vy_28, .int vy_29])), ((Ta 1), .inl (tc 0, 400, .inl (Tf 1)))] := hD₀
          replace hS := hS₀
          clear hP₀ hD₀ hS₀
          refine lv_if_eq (tgt := 92) hx hb dX7_readTest_34 (by decide) (fun c_138 => ?_) (fun c_138 => ?_)
          · skip
            refine lv_iload_n hx hb dX7_readTest_92 rfl (lv_at hl 1 rfl) ?_
            refine lv_if_eq (tgt := 102) hx hb dX7_readTest_93 (by decide) (fun c_139 => ?_) (fun c_139 => ?_)
            · skip
              exact retV hx hb hr hlk hP hD hS (vy_23, vy_24, vy_25, vy_26, vy_27, vy_28, vy_29) ⟨rfl, he_137.2⟩ [0, 1, 2, 3] rfl rfl dX7_readTest_102 (Nat.le_of_ble_eq_true rfl) (Nat.le_of_ble_eq_true rfl) rfl
            · skip
              refine lv_aload_n hx hb dX7_readTest_96 rfl (lv_at hl 2 rfl) ?_
              refine lv_bipush (v := (-6)) hx hb dX7_readTest_97 (by decide) ?_
              refine cV (a := (Va 0)) (As := [.int (-6)]) (rest := []) (wr := [((Ta 0), .inr (10, [.ref (Ta 1), .int (Tv 0), .int vy_26, .int vy_27, .int vy_28, .int vy_29])), ((Ta 1), .inl (tc 0, 400, .inl (Tf 1)))]) ⟨hx, hb, hml, hown, hts⟩ hK hX hA (cu_X7_put l D tc sk (Va 0) (Va 1) vy_23 vy_24 vy_25 (-6)) k_642 k_639 k_641 k_10 k_99 pl_X7_put ⟨Nat.le_of_ble_eq_true rfl, Nat.le_of_ble_eq_true rfl⟩ rfl rfl (va_recv hK hP (ci := 7) (q0 := 0) rfl rfl) hP hD hS [0, 1] [2, 3] rfl rfl rfl rfl rfl (by decide) rfl hl.1 rfl (Nat.le_of_ble_eq_true rfl) dX7_readTest_99 ⟨Nat.le_of_ble_eq_true rfl, Nat.le_of_ble_eq_true rfl⟩ (fun v_140 u_141 H locs hv_142 hP₀ hD₀ hS₀ => ?_)
              obtain ⟨sv_143, sv_144⟩ := u_141
              obtain rfl : v_140 = none := hv_142
              refine W.eq (g2 := F0 m 102 ls []) rfl ?_
              replace hP : va_P D classes [((Ta 0), .inr (10, [.ref (Ta 1), .int (Tv 0), .int vy_26, .int vy_27, .int vy_28, .int vy_29])), ((Ta 1), .inl (tc 0, 400, .inl (Tf 1))), ((Va 0), .inr (7, [.ref (Va 1), .int sv_143, .int vy_24])), ((Va 1), .inl (tc 0, 400, .inl sv_144))] H := hP₀
              replace hD : va_D A [((Ta 0), .inr (10, [.ref (Ta 1), .int (Tv 0), .int vy_26, .int vy_27, .int vy_28, .int vy_29])), ((Ta 1), .inl (tc 0, 400, .inl (Tf 1))), ((Va 0), .inr (7, [.ref (Va 1), .int sv_143, .int vy_24])), ((Va 1), .inl (tc 0, 400, .inl sv_144))] := hD₀
              replace hS := hS₀
              clear hP₀ hD₀ hS₀
              exact retV hx hb hr hlk hP hD hS (sv_143, vy_24, sv_144, vy_26, vy_27, vy_28, vy_29) ⟨rfl, he_137.2⟩ [2, 3, 0, 1] rfl rfl dX7_readTest_102 (Nat.le_of_ble_eq_true rfl) (Nat.le_of_ble_eq_true rfl) rfl
          · skip
            refine lv_aload_n hx hb dX7_readTest_37 rfl (lv_at hl 3 rfl) ?_
            refine va_ldcS hx hb hown (sx_6 hX) dX7_readTest_38 ?_
            have hh_145 : (6 : Nat) < 7 := by
              have y_6 : (6 : Int32).toInt = 6 := by decide
              omega
            refine cV (a := (Ta 0)) (As := [.ref (sk.1 6)]) (rest := []) (wr := [((Va 0), .inr (7, [.ref (Va 1), .int vy_23, .int vy_24])), ((Va 1), .inl (tc 0, 400, .inl vy_25))]) ⟨hx, hb, hml, hown, hts⟩ hK hX hA (cu_X10_isWord l D tc sk (Ta 0) (Ta 1) (Tv 0) vy_26 vy_27 vy_28 vy_29 (Tf 1) 6 hh_145 he_137.2) k_618 k_615 k_616 k_617 k_96 pl_X10_isWord ⟨Nat.le_of_ble_eq_true rfl, Nat.le_of_ble_eq_true rfl⟩ rfl rfl (va_recv hK hP (ci := 10) (q0 := 2) rfl rfl) hP hD hS [2, 3] [0, 1] rfl rfl rfl rfl rfl (by decide) rfl hl.1 rfl (Nat.le_of_ble_eq_true rfl) dX7_readTest_40 ⟨Nat.le_of_ble_eq_true rfl, Nat.le_of_ble_eq_true rfl⟩ (fun v_146 u_147 H locs hv_148 hP₀ hD₀ hS₀ => ?_)
            obtain ⟨r_149, rfl, he_150⟩ := hv_148
            clear he_137
            have he_150 : ((r_149.toInt = 0 ∨ r_149.toInt = 1)) ∧ (0 ≤ ((Tv 0) : Int32).toInt ∧ ((Tv 0) : Int32).toInt ≤ 400 ∧ 0 ≤ (vy_26 : Int32).toInt ∧ (vy_26 : Int32).toInt ≤ 400 ∧ 0 ≤ (vy_27 : Int32).toInt ∧ (vy_27 : Int32).toInt ≤ 400) := he_150
            refine W.eq (g2 := F0 m 43 ls [.int r_149]) rfl ?_
            replace hP : va_P D classes [((Va 0), .inr (7, [.ref (Va 1), .int vy_23, .int vy_24])), ((Va 1), .inl (tc 0, 400, .inl vy_25)), ((Ta 0), .inr (10, [.ref (Ta 1), .int (Tv 0), .int vy_26, .int vy_27, .int vy_28, .int vy_29])), ((Ta 1), .inl (tc 0, 400, .inl (Tf 1)))] H := hP₀
            replace hD : va_D A [((Va 0), .inr (7, [.ref (Va 1), .int vy_23, .int vy_24])), ((Va 1), .inl (tc 0, 400, .inl vy_25)), ((Ta 0), .inr (10, [.ref (Ta 1), .int (Tv 0), .int vy_26, .int vy_27, .int vy_28, .int vy_29])), ((Ta 1), .inl (tc 0, 400, .inl (Tf 1)))] := hD₀
            replace hS := hS₀
            clear hP₀ hD₀ hS₀
            refine lv_istore (lv' := [(5, .int r_149), (4, .int vy_22), (3, .int vy_30), (0, .ref (Va 0)), (1, .ref (Ta 0)), (2, .int 5)]) hx hb dX7_readTest_43 hl (by decide) rfl (fun ls hl₀ => ?_)
            replace hl := hl₀
            clear hl₀
            refine lv_iload hx hb dX7_readTest_45 (lv_at hl 0 rfl) ?_
            refine lv_if_eq (tgt := 60) hx hb dX7_readTest_47 (by decide) (fun c_151 => ?_) (fun c_151 => ?_)
            · skip
              refine lv_aload_n hx hb dX7_readTest_60 rfl (lv_at hl 4 rfl) ?_
              refine cV (a := (Ta 0)) (As := []) (rest := []) (wr := [((Va 0), .inr (7, [.ref (Va 1), .int vy_23, .int vy_24])), ((Va 1), .inl (tc 0, 400, .inl vy_25))]) ⟨hx, hb, hml, hown, hts⟩ hK hX hA (cu_X10_step l D tc sk (Ta 0) (Ta 1) (Tv 0) vy_26 vy_27 vy_28 vy_29 (Tf 1) he_150.2) k_478 k_620 k_476 k_477 k_96 pl_X10_step ⟨Nat.le_of_ble_eq_true rfl, Nat.le_of_ble_eq_true rfl⟩ rfl rfl (va_recv hK hP (ci := 10) (q0 := 2) rfl rfl) hP hD hS [2, 3] [0, 1] rfl rfl rfl rfl rfl (by decide) rfl hl.1 rfl (Nat.le_of_ble_eq_true rfl) dX7_readTest_61 ⟨Nat.le_of_ble_eq_true rfl, Nat.le_of_ble_eq_true rfl⟩ (fun v_152 u_153 H locs hv_154 hP₀ hD₀ hS₀ => ?_)
              obtain ⟨sv_155, sv_156, sv_157⟩ := u_153
              obtain ⟨rfl, he_158⟩ := hv_154
              clear he_150
              have he_158 : (0 ≤ ((Tv 0) : Int32).toInt ∧ ((Tv 0) : Int32).toInt ≤ 400 ∧ 0 ≤ (sv_155 : Int32).toInt ∧ (sv_155 : Int32).toInt ≤ 400 ∧ 0 ≤ (sv_156 : Int32).toInt ∧ (sv_156 : Int32).toInt ≤ 400) := he_158
              refine W.eq (g2 := F0 m 64 ls []) rfl ?_
              replace hP : va_P D classes [((Va 0), .inr (7, [.ref (Va 1), .int vy_23, .int vy_24])), ((Va 1), .inl (tc 0, 400, .inl vy_25)), ((Ta 0), .inr (10, [.ref (Ta 1), .int (Tv 0), .int sv_155, .int sv_156, .int sv_157, .int vy_29])), ((Ta 1), .inl (tc 0, 400, .inl (Tf 1)))] H := hP₀
              replace hD : va_D A [((Va 0), .inr (7, [.ref (Va 1), .int vy_23, .int vy_24])), ((Va 1), .inl (tc 0, 400, .inl vy_25)), ((Ta 0), .inr (10, [.ref (Ta 1), .int (Tv 0), .int sv_155, .int sv_156, .int sv_157, .int vy_29])), ((Ta 1), .inl (tc 0, 400, .inl (Tf 1)))] := hD₀
              replace hS := hS₀
              clear hP₀ hD₀ hS₀
              refine lv_aload_n hx hb dX7_readTest_64 rfl (lv_at hl 3 rfl) ?_
              refine lv_aload_n hx hb dX7_readTest_65 rfl (lv_at hl 4 rfl) ?_
              refine lv_iload_n hx hb dX7_readTest_66 rfl (lv_at hl 5 rfl) ?_
              refine cV (a := (Va 0)) (As := [.ref (Ta 0), .int 5]) (rest := []) (wr := []) ⟨hx, hb, hml, hown, hts⟩ hK hX hA (cu_X7_readFact_5 l D tc sk (Va 0) (Va 1) vy_23 vy_24 vy_25 (Ta 0) (Ta 1) (Tv 0) sv_155 sv_156 sv_157 vy_29 (Tf 1) he_158) k_659 k_656 k_658 k_12 k_99 pl_X7_readFact ⟨Nat.le_of_ble_eq_true rfl, Nat.le_of_ble_eq_true rfl⟩ rfl rfl (va_recv hK hP (ci := 7) (q0 := 0) rfl rfl) hP hD hS [0, 1, 2, 3] [] rfl rfl rfl rfl rfl (by decide) rfl hl.1 rfl (Nat.le_of_ble_eq_true rfl) dX7_readTest_67 ⟨Nat.le_of_ble_eq_true rfl, Nat.le_of_ble_eq_true rfl⟩ (fun v_159 u_160 H locs hv_161 hP₀ hD₀ hS₀ => ?_)
              obtain ⟨sv_162, sv_163, sv_164, sv_165, sv_166, sv_167, sv_168⟩ := u_160
              obtain ⟨rfl, he_169⟩ := hv_161
              clear he_158
              have he_169 : (0 ≤ ((Tv 0) : Int32).toInt ∧ ((Tv 0) : Int32).toInt ≤ 400 ∧ 0 ≤ (sv_165 : Int32).toInt ∧ (sv_165 : Int32).toInt ≤ 400 ∧ 0 ≤ (sv_166 : Int32).toInt ∧ (sv_166 : Int32).toInt ≤ 400) := he_169
              refine W.eq (g2 := F0 m 70 ls []) rfl ?_
              replace hP : va_P D classes [((Va 0), .inr (7, [.ref (Va 1), .int sv_162, .int sv_163])), ((Va 1), .inl (tc 0, 400, .inl sv_164)), ((Ta 0), .inr (10, [.ref (Ta 1), .int (Tv 0), .int sv_165, .int sv_166, .int sv_167, .int sv_168])), ((Ta 1), .inl (tc 0, 400, .inl (Tf 1)))] H := hP₀
              replace hD : va_D A [((Va 0), .inr (7, [.ref (Va 1), .int sv_162, .int sv_163])), ((Va 1), .inl (tc 0, 400, .inl sv_164)), ((Ta 0), .inr (10, [.ref (Ta 1), .int (Tv 0), .int sv_165, .int sv_166, .int sv_167, .int sv_168])), ((Ta 1), .inl (tc 0, 400, .inl (Tf 1)))] := hD₀
              replace hS := hS₀
              clear hP₀ hD₀ hS₀
              refine lv_iload hx hb dX7_readTest_70 (lv_at hl 0 rfl) ?_
              refine lv_if_eq (tgt := 80) hx hb dX7_readTest_72 (by decide) (fun c_170 => ?_) (fun c_170 => ?_)
              · skip
                refine lv_aload_n hx hb dX7_readTest_80 rfl (lv_at hl 3 rfl) ?_
                refine lv_bipush (v := (-5)) hx hb dX7_readTest_81 (by decide) ?_
                refine cV (a := (Va 0)) (As := [.int (-5)]) (rest := []) (wr := [((Ta 0), .inr (10, [.ref (Ta 1), .int (Tv 0), .int sv_165, .int sv_166, .int sv_167, .int sv_168])), ((Ta 1), .inl (tc 0, 400, .inl (Tf 1)))]) ⟨hx, hb, hml, hown, hts⟩ hK hX hA (cu_X7_put l D tc sk (Va 0) (Va 1) sv_162 sv_163 sv_164 (-5)) k_642 k_639 k_641 k_10 k_99 pl_X7_put ⟨Nat.le_of_ble_eq_true rfl, Nat.le_of_ble_eq_true rfl⟩ rfl rfl (va_recv hK hP (ci := 7) (q0 := 0) rfl rfl) hP hD hS [0, 1] [2, 3] rfl rfl rfl rfl rfl (by decide) rfl hl.1 rfl (Nat.le_of_ble_eq_true rfl) dX7_readTest_83 ⟨Nat.le_of_ble_eq_true rfl, Nat.le_of_ble_eq_true rfl⟩ (fun v_171 u_172 H locs hv_173 hP₀ hD₀ hS₀ => ?_)
                obtain ⟨sv_174, sv_175⟩ := u_172
                obtain rfl : v_171 = none := hv_173
                refine W.eq (g2 := F0 m 86 ls []) rfl ?_
                replace hP : va_P D classes [((Ta 0), .inr (10, [.ref (Ta 1), .int (Tv 0), .int sv_165, .int sv_166, .int sv_167, .int sv_168])), ((Ta 1), .inl (tc 0, 400, .inl (Tf 1))), ((Va 0), .inr (7, [.ref (Va 1), .int sv_174, .int sv_163])), ((Va 1), .inl (tc 0, 400, .inl sv_175))] H := hP₀
                replace hD : va_D A [((Ta 0), .inr (10, [.ref (Ta 1), .int (Tv 0), .int sv_165, .int sv_166, .int sv_167, .int sv_168])), ((Ta 1), .inl (tc 0, 400, .inl (Tf 1))), ((Va 0), .inr (7, [.ref (Va 1), .int sv_174, .int sv_163])), ((Va 1), .inl (tc 0, 400, .inl sv_175))] := hD₀
                replace hS := hS₀
                clear hP₀ hD₀ hS₀
                obtain ⟨x_176, ex_176⟩ : ∃ y : Int32, y = vy_22 + 1 := ⟨_, rfl⟩
                refine lv_iinc (v := x_176) (lv' := [(4, .int x_176), (5, .int r_149), (3, .int vy_30), (0, .ref (Va 0)), (1, .ref (Ta 0)), (2, .int 5)]) hx hb dX7_readTest_86 hl (k := 1) rfl (by rw [ex_176]; rfl) (by decide) rfl (fun ls hl₀ => ?_)
                replace hl := hl₀
                clear hl₀
                refine lv_goto (tgt := 11) hx hb dX7_readTest_89 (by decide) ?_
                have hb_177 : 0 ≤ (x_176 : Int32).toInt ∧ (400 - (x_176 : Int32).toInt).toNat < n_31 := by
                  have z_1 := Int32.lt_iff_toInt_lt.mp (Int32.not_le.mp c_37)
                  have y_400 : (400 : Int32).toInt = 400 := by decide
                  have y_1 : (1 : Int32).toInt = 1 := by decide
                  have t_x_176 : x_176.toInt = (vy_22 : Int32).toInt + (1 : Int32).toInt := by rw [ex_176]; exact add_toInt (by omega) (by omega)
                  omega
                exact ih_32 x_176 sv_174 sv_163 sv_175 sv_165 sv_166 sv_167 sv_168 vy_30 _ _ _ hb_177.1 hb_177.2 he_169 (hP.sub [2, 3, 0, 1] rfl) (hD.sub [2, 3, 0, 1] rfl rfl) hS (lv_sub hl [0, 2, 3, 4, 5] rfl)
              · skip
                exfalso
                have z_1 := Int32.lt_iff_toInt_lt.mp (Int32.not_le.mp c_37)
                have z_2 := congrArg Int32.toInt c_50
                have z_3 : ¬ (r_136 : Int32).toInt = (0 : Int32).toInt := fun z => c_138 (Int32.toInt_inj.mp z)
                have z_4 := congrArg Int32.toInt c_151
                have z_5 : ¬ (r_149 : Int32).toInt = (0 : Int32).toInt := fun z => c_170 (Int32.toInt_inj.mp z)
                have y_0 : (0 : Int32).toInt = 0 := by decide
                have y_400 : (400 : Int32).toInt = 400 := by decide
                omega
            · skip
              refine lv_iload_n hx hb dX7_readTest_50 rfl (lv_at hl 2 rfl) ?_
              refine lv_if_eq (tgt := 60) hx hb dX7_readTest_51 (by decide) (fun c_178 => ?_) (fun c_178 => ?_)
              · skip
                refine lv_aload_n hx hb dX7_readTest_60 rfl (lv_at hl 4 rfl) ?_
                refine cV (a := (Ta 0)) (As := []) (rest := []) (wr := [((Va 0), .inr (7, [.ref (Va 1), .int vy_23, .int vy_24])), ((Va 1), .inl (tc 0, 400, .inl vy_25))]) ⟨hx, hb, hml, hown, hts⟩ hK hX hA (cu_X10_step l D tc sk (Ta 0) (Ta 1) (Tv 0) vy_26 vy_27 vy_28 vy_29 (Tf 1) he_150.2) k_478 k_620 k_476 k_477 k_96 pl_X10_step ⟨Nat.le_of_ble_eq_true rfl, Nat.le_of_ble_eq_true rfl⟩ rfl rfl (va_recv hK hP (ci := 10) (q0 := 2) rfl rfl) hP hD hS [2, 3] [0, 1] rfl rfl rfl rfl rfl (by decide) rfl hl.1 rfl (Nat.le_of_ble_eq_true rfl) dX7_readTest_61 ⟨Nat.le_of_ble_eq_true rfl, Nat.le_of_ble_eq_true rfl⟩ (fun v_179 u_180 H locs hv_181 hP₀ hD₀ hS₀ => ?_)
                obtain ⟨sv_182, sv_183, sv_184⟩ := u_180
                obtain ⟨rfl, he_185⟩ := hv_181
                clear he_150
                have he_185 : (0 ≤ ((Tv 0) : Int32).toInt ∧ ((Tv 0) : Int32).toInt ≤ 400 ∧ 0 ≤ (sv_182 : Int32).toInt ∧ (sv_182 : Int32).toInt ≤ 400 ∧ 0 ≤ (sv_183 : Int32).toInt ∧ (sv_183 : Int32).toInt ≤ 400) := he_185
                refine W.eq (g2 := F0 m 64 ls []) rfl ?_
                replace hP : va_P D classes [((Va 0), .inr (7, [.ref (Va 1), .int vy_23, .int vy_24])), ((Va 1), .inl (tc 0, 400, .inl vy_25)), ((Ta 0), .inr (10, [.ref (Ta 1), .int (Tv 0), .int sv_182, .int sv_183, .int sv_184, .int vy_29])), ((Ta 1), .inl (tc 0, 400, .inl (Tf 1)))] H := hP₀
                replace hD : va_D A [((Va 0), .inr (7, [.ref (Va 1), .int vy_23, .int vy_24])), ((Va 1), .inl (tc 0, 400, .inl vy_25)), ((Ta 0), .inr (10, [.ref (Ta 1), .int (Tv 0), .int sv_182, .int sv_183, .int sv_184, .int vy_29])), ((Ta 1), .inl (tc 0, 400, .inl (Tf 1)))] := hD₀
                replace hS := hS₀
                clear hP₀ hD₀ hS₀
                refine lv_aload_n hx hb dX7_readTest_64 rfl (lv_at hl 3 rfl) ?_
                refine lv_aload_n hx hb dX7_readTest_65 rfl (lv_at hl 4 rfl) ?_
                refine lv_iload_n hx hb dX7_readTest_66 rfl (lv_at hl 5 rfl) ?_
                refine cV (a := (Va 0)) (As := [.ref (Ta 0), .int 5]) (rest := []) (wr := []) ⟨hx, hb, hml, hown, hts⟩ hK hX hA (cu_X7_readFact_5 l D tc sk (Va 0) (Va 1) vy_23 vy_24 vy_25 (Ta 0) (Ta 1) (Tv 0) sv_182 sv_183 sv_184 vy_29 (Tf 1) he_185) k_659 k_656 k_658 k_12 k_99 pl_X7_readFact ⟨Nat.le_of_ble_eq_true rfl, Nat.le_of_ble_eq_true rfl⟩ rfl rfl (va_recv hK hP (ci := 7) (q0 := 0) rfl rfl) hP hD hS [0, 1, 2, 3] [] rfl rfl rfl rfl rfl (by decide) rfl hl.1 rfl (Nat.le_of_ble_eq_true rfl) dX7_readTest_67 ⟨Nat.le_of_ble_eq_true rfl, Nat.le_of_ble_eq_true rfl⟩ (fun v_186 u_187 H locs hv_188 hP₀ hD₀ hS₀ => ?_)
                obtain ⟨sv_189, sv_190, sv_191, sv_192, sv_193, sv_194, sv_195⟩ := u_187
                obtain ⟨rfl, he_196⟩ := hv_188
                clear he_185
                have he_196 : (0 ≤ ((Tv 0) : Int32).toInt ∧ ((Tv 0) : Int32).toInt ≤ 400 ∧ 0 ≤ (sv_192 : Int32).toInt ∧ (sv_192 : Int32).toInt ≤ 400 ∧ 0 ≤ (sv_193 : Int32).toInt ∧ (sv_193 : Int32).toInt ≤ 400) := he_196
                refine W.eq (g2 := F0 m 70 ls []) rfl ?_
                replace hP : va_P D classes [((Va 0), .inr (7, [.ref (Va 1), .int sv_189, .int sv_190])), ((Va 1), .inl (tc 0, 400, .inl sv_191)), ((Ta 0), .inr (10, [.ref (Ta 1), .int (Tv 0), .int sv_192, .int sv_193, .int sv_194, .int sv_195])), ((Ta 1), .inl (tc 0, 400, .inl (Tf 1)))] H := hP₀
                replace hD : va_D A [((Va 0), .inr (7, [.ref (Va 1), .int sv_189, .int sv_190])), ((Va 1), .inl (tc 0, 400, .inl sv_191)), ((Ta 0), .inr (10, [.ref (Ta 1), .int (Tv 0), .int sv_192, .int sv_193, .int sv_194, .int sv_195])), ((Ta 1), .inl (tc 0, 400, .inl (Tf 1)))] := hD₀
                replace hS := hS₀
                clear hP₀ hD₀ hS₀
                refine lv_iload hx hb dX7_readTest_70 (lv_at hl 0 rfl) ?_
                refine lv_if_eq (tgt := 80) hx hb dX7_readTest_72 (by decide) (fun c_197 => ?_) (fun c_197 => ?_)
                · skip
                  exfalso
                  have z_1 := Int32.lt_iff_toInt_lt.mp (Int32.not_le.mp c_37)
                  have z_2 := congrArg Int32.toInt c_50
                  have z_3 : ¬ (r_136 : Int32).toInt = (0 : Int32).toInt := fun z => c_138 (Int32.toInt_inj.mp z)
                  have z_4 : ¬ (r_149 : Int32).toInt = (0 : Int32).toInt := fun z => c_151 (Int32.toInt_inj.mp z)
                  have z_5 := congrArg Int32.toInt c_178
                  have z_6 := congrArg Int32.toInt c_197
                  have y_0 : (0 : Int32).toInt = 0 := by decide
                  have y_400 : (400 : Int32).toInt = 400 := by decide
                  omega
                · skip
                  refine lv_iconst (v := 1) hx hb dX7_readTest_75 (by decide) ?_
                  refine lv_istore_n (lv' := [(3, .int 1), (5, .int r_149), (4, .int vy_22), (0, .ref (Va 0)), (1, .ref (Ta 0)), (2, .int 5)]) hx hb dX7_readTest_76 rfl hl (by decide) rfl (fun ls hl₀ => ?_)
                  replace hl := hl₀
                  clear hl₀
                  refine lv_goto (tgt := 86) hx hb dX7_readTest_77 (by decide) ?_
                  obtain ⟨x_198, ex_198⟩ : ∃ y : Int32, y = vy_22 + 1 := ⟨_, rfl⟩
                  refine lv_iinc (v := x_198) (lv' := [(4, .int x_198), (3, .int 1), (5, .int r_149), (0, .ref (Va 0)), (1, .ref (Ta 0)), (2, .int 5)]) hx hb dX7_readTest_86 hl (k := 2) rfl (by rw [ex_198]; rfl) (by decide) rfl (fun ls hl₀ => ?_)
                  replace hl := hl₀
                  clear hl₀
                  refine lv_goto (tgt := 11) hx hb dX7_readTest_89 (by decide) ?_
                  have hb_199 : 0 ≤ (x_198 : Int32).toInt ∧ (400 - (x_198 : Int32).toInt).toNat < n_31 := by
                    have z_1 := Int32.lt_iff_toInt_lt.mp (Int32.not_le.mp c_37)
                    have y_400 : (400 : Int32).toInt = 400 := by decide
                    have y_1 : (1 : Int32).toInt = 1 := by decide
                    have t_x_198 : x_198.toInt = (vy_22 : Int32).toInt + (1 : Int32).toInt := by rw [ex_198]; exact add_toInt (by omega) (by omega)
                    omega
                  exact ih_32 x_198 sv_189 sv_190 sv_191 sv_192 sv_193 sv_194 sv_195 1 _ _ _ hb_199.1 hb_199.2 he_196 (hP.sub [0, 1, 2, 3] rfl) (hD.sub [0, 1, 2, 3] rfl rfl) hS (lv_sub hl [0, 1, 3, 4, 5] rfl)
              · skip
                refine lv_aload_n hx hb dX7_readTest_54 rfl (lv_at hl 3 rfl) ?_
                refine lv_bipush (v := (-6)) hx hb dX7_readTest_55 (by decide) ?_
                refine cV (a := (Va 0)) (As := [.int (-6)]) (rest := []) (wr := [((Ta 0), .inr (10, [.ref (Ta 1), .int (Tv 0), .int vy_26, .int vy_27, .int vy_28, .int vy_29])), ((Ta 1), .inl (tc 0, 400, .inl (Tf 1)))]) ⟨hx, hb, hml, hown, hts⟩ hK hX hA (cu_X7_put l D tc sk (Va 0) (Va 1) vy_23 vy_24 vy_25 (-6)) k_642 k_639 k_641 k_10 k_99 pl_X7_put ⟨Nat.le_of_ble_eq_true rfl, Nat.le_of_ble_eq_true rfl⟩ rfl rfl (va_recv hK hP (ci := 7) (q0 := 0) rfl rfl) hP hD hS [0, 1] [2, 3] rfl rfl rfl rfl rfl (by decide) rfl hl.1 rfl (Nat.le_of_ble_eq_true rfl) dX7_readTest_57 ⟨Nat.le_of_ble_eq_true rfl, Nat.le_of_ble_eq_true rfl⟩ (fun v_200 u_201 H locs hv_202 hP₀ hD₀ hS₀ => ?_)
                obtain ⟨sv_203, sv_204⟩ := u_201
                obtain rfl : v_200 = none := hv_202
                refine W.eq (g2 := F0 m 60 ls []) rfl ?_
                replace hP : va_P D classes [((Ta 0), .inr (10, [.ref (Ta 1), .int (Tv 0), .int vy_26, .int vy_27, .int vy_28, .int vy_29])), ((Ta 1), .inl (tc 0, 400, .inl (Tf 1))), ((Va 0), .inr (7, [.ref (Va 1), .int sv_203, .int vy_24])), ((Va 1), .inl (tc 0, 400, .inl sv_204))] H := hP₀
                replace hD : va_D A [((Ta 0), .inr (10, [.ref (Ta 1), .int (Tv 0), .int vy_26, .int vy_27, .int vy_28, .int vy_29])), ((Ta 1), .inl (tc 0, 400, .inl (Tf 1))), ((Va 0), .inr (7, [.ref (Va 1), .int sv_203, .int vy_24])), ((Va 1), .inl (tc 0, 400, .inl sv_204))] := hD₀
                replace hS := hS₀
                clear hP₀ hD₀ hS₀
                refine lv_aload_n hx hb dX7_readTest_60 rfl (lv_at hl 4 rfl) ?_
                refine cV (a := (Ta 0)) (As := []) (rest := []) (wr := [((Va 0), .inr (7, [.ref (Va 1), .int sv_203, .int vy_24])), ((Va 1), .inl (tc 0, 400, .inl sv_204))]) ⟨hx, hb, hml, hown, hts⟩ hK hX hA (cu_X10_step l D tc sk (Ta 0) (Ta 1) (Tv 0) vy_26 vy_27 vy_28 vy_29 (Tf 1) he_150.2) k_478 k_620 k_476 k_477 k_96 pl_X10_step ⟨Nat.le_of_ble_eq_true rfl, Nat.le_of_ble_eq_true rfl⟩ rfl rfl (va_recv hK hP (ci := 10) (q0 := 0) rfl rfl) hP hD hS [0, 1] [2, 3] rfl rfl rfl rfl rfl (by decide) rfl hl.1 rfl (Nat.le_of_ble_eq_true rfl) dX7_readTest_61 ⟨Nat.le_of_ble_eq_true rfl, Nat.le_of_ble_eq_true rfl⟩ (fun v_205 u_206 H locs hv_207 hP₀ hD₀ hS₀ => ?_)
                obtain ⟨sv_208, sv_209, sv_210⟩ := u_206
                obtain ⟨rfl, he_211⟩ := hv_207
                clear he_150
                have he_211 : (0 ≤ ((Tv 0) : Int32).toInt ∧ ((Tv 0) : Int32).toInt ≤ 400 ∧ 0 ≤ (sv_208 : Int32).toInt ∧ (sv_208 : Int32).toInt ≤ 400 ∧ 0 ≤ (sv_209 : Int32).toInt ∧ (sv_209 : Int32).toInt ≤ 400) := he_211
                refine W.eq (g2 := F0 m 64 ls []) rfl ?_
                replace hP : va_P D classes [((Va 0), .inr (7, [.ref (Va 1), .int sv_203, .int vy_24])), ((Va 1), .inl (tc 0, 400, .inl sv_204)), ((Ta 0), .inr (10, [.ref (Ta 1), .int (Tv 0), .int sv_208, .int sv_209, .int sv_210, .int vy_29])), ((Ta 1), .inl (tc 0, 400, .inl (Tf 1)))] H := hP₀
                replace hD : va_D A [((Va 0), .inr (7, [.ref (Va 1), .int sv_203, .int vy_24])), ((Va 1), .inl (tc 0, 400, .inl sv_204)), ((Ta 0), .inr (10, [.ref (Ta 1), .int (Tv 0), .int sv_208, .int sv_209, .int sv_210, .int vy_29])), ((Ta 1), .inl (tc 0, 400, .inl (Tf 1)))] := hD₀
                replace hS := hS₀
                clear hP₀ hD₀ hS₀
                refine lv_aload_n hx hb dX7_readTest_64 rfl (lv_at hl 3 rfl) ?_
                refine lv_aload_n hx hb dX7_readTest_65 rfl (lv_at hl 4 rfl) ?_
                refine lv_iload_n hx hb dX7_readTest_66 rfl (lv_at hl 5 rfl) ?_
                refine cV (a := (Va 0)) (As := [.ref (Ta 0), .int 5]) (rest := []) (wr := []) ⟨hx, hb, hml, hown, hts⟩ hK hX hA (cu_X7_readFact_5 l D tc sk (Va 0) (Va 1) sv_203 vy_24 sv_204 (Ta 0) (Ta 1) (Tv 0) sv_208 sv_209 sv_210 vy_29 (Tf 1) he_211) k_659 k_656 k_658 k_12 k_99 pl_X7_readFact ⟨Nat.le_of_ble_eq_true rfl, Nat.le_of_ble_eq_true rfl⟩ rfl rfl (va_recv hK hP (ci := 7) (q0 := 0) rfl rfl) hP hD hS [0, 1, 2, 3] [] rfl rfl rfl rfl rfl (by decide) rfl hl.1 rfl (Nat.le_of_ble_eq_true rfl) dX7_readTest_67 ⟨Nat.le_of_ble_eq_true rfl, Nat.le_of_ble_eq_true rfl⟩ (fun v_212 u_213 H locs hv_214 hP₀ hD₀ hS₀ => ?_)
                obtain ⟨sv_215, sv_216, sv_217, sv_218, sv_219, sv_220, sv_221⟩ := u_213
                obtain ⟨rfl, he_222⟩ := hv_214
                clear he_211
                have he_222 : (0 ≤ ((Tv 0) : Int32).toInt ∧ ((Tv 0) : Int32).toInt ≤ 400 ∧ 0 ≤ (sv_218 : Int32).toInt ∧ (sv_218 : Int32).toInt ≤ 400 ∧ 0 ≤ (sv_219 : Int32).toInt ∧ (sv_219 : Int32).toInt ≤ 400) := he_222
                refine W.eq (g2 := F0 m 70 ls []) rfl ?_
                replace hP : va_P D classes [((Va 0), .inr (7, [.ref (Va 1), .int sv_215, .int sv_216])), ((Va 1), .inl (tc 0, 400, .inl sv_217)), ((Ta 0), .inr (10, [.ref (Ta 1), .int (Tv 0), .int sv_218, .int sv_219, .int sv_220, .int sv_221])), ((Ta 1), .inl (tc 0, 400, .inl (Tf 1)))] H := hP₀
                replace hD : va_D A [((Va 0), .inr (7, [.ref (Va 1), .int sv_215, .int sv_216])), ((Va 1), .inl (tc 0, 400, .inl sv_217)), ((Ta 0), .inr (10, [.ref (Ta 1), .int (Tv 0), .int sv_218, .int sv_219, .int sv_220, .int sv_221])), ((Ta 1), .inl (tc 0, 400, .inl (Tf 1)))] := hD₀
                replace hS := hS₀
                clear hP₀ hD₀ hS₀
                refine lv_iload hx hb dX7_readTest_70 (lv_at hl 0 rfl) ?_
                refine lv_if_eq (tgt := 80) hx hb dX7_readTest_72 (by decide) (fun c_223 => ?_) (fun c_223 => ?_)
                · skip
                  exfalso
                  have z_1 := Int32.lt_iff_toInt_lt.mp (Int32.not_le.mp c_37)
                  have z_2 := congrArg Int32.toInt c_50
                  have z_3 : ¬ (r_136 : Int32).toInt = (0 : Int32).toInt := fun z => c_138 (Int32.toInt_inj.mp z)
                  have z_4 : ¬ (r_149 : Int32).toInt = (0 : Int32).toInt := fun z => c_151 (Int32.toInt_inj.mp z)
                  have z_5 : ¬ (vy_30 : Int32).toInt = (0 : Int32).toInt := fun z => c_178 (Int32.toInt_inj.mp z)
                  have z_6 := congrArg Int32.toInt c_223
                  have y_0 : (0 : Int32).toInt = 0 := by decide
                  have y_400 : (400 : Int32).toInt = 400 := by decide
                  omega
                · skip
                  refine lv_iconst (v := 1) hx hb dX7_readTest_75 (by decide) ?_
                  refine lv_istore_n (lv' := [(3, .int 1), (5, .int r_149), (4, .int vy_22), (0, .ref (Va 0)), (1, .ref (Ta 0)), (2, .int 5)]) hx hb dX7_readTest_76 rfl hl (by decide) rfl (fun ls hl₀ => ?_)
                  replace hl := hl₀
                  clear hl₀
                  refine lv_goto (tgt := 86) hx hb dX7_readTest_77 (by decide) ?_
                  obtain ⟨x_224, ex_224⟩ : ∃ y : Int32, y = vy_22 + 1 := ⟨_, rfl⟩
                  refine lv_iinc (v := x_224) (lv' := [(4, .int x_224), (3, .int 1), (5, .int r_149), (0, .ref (Va 0)), (1, .ref (Ta 0)), (2, .int 5)]) hx hb dX7_readTest_86 hl (k := 2) rfl (by rw [ex_224]; rfl) (by decide) rfl (fun ls hl₀ => ?_)
                  replace hl := hl₀
                  clear hl₀
                  refine lv_goto (tgt := 11) hx hb dX7_readTest_89 (by decide) ?_
                  have hb_225 : 0 ≤ (x_224 : Int32).toInt ∧ (400 - (x_224 : Int32).toInt).toNat < n_31 := by
                    have z_1 := Int32.lt_iff_toInt_lt.mp (Int32.not_le.mp c_37)
                    have y_400 : (400 : Int32).toInt = 400 := by decide
                    have y_1 : (1 : Int32).toInt = 1 := by decide
                    have t_x_224 : x_224.toInt = (vy_22 : Int32).toInt + (1 : Int32).toInt := by rw [ex_224]; exact add_toInt (by omega) (by omega)
                    omega
                  exact ih_32 x_224 sv_215 sv_216 sv_217 sv_218 sv_219 sv_220 sv_221 1 _ _ _ hb_225.1 hb_225.2 he_222 (hP.sub [0, 1, 2, 3] rfl) (hD.sub [0, 1, 2, 3] rfl rfl) hS (lv_sub hl [0, 1, 3, 4, 5] rfl)
  have h0_226 : 0 ≤ (0 : Int32).toInt := by
    have y_0 : (0 : Int32).toInt = 0 := by decide
    decide
  exact loop_33 _ 0 sv_4 sv_5 sv_6 sv_7 sv_8 sv_9 sv_10 0 _ _ _ h0_226 (Nat.lt_succ_self _) he_11 hP hD hS hl
set_option maxRecDepth 100000 in
theorem cu_X7_readTest_5 (l : Launch) (D : va_G) (tc : Nat → ClassId) (sk : (Nat → Nat) × (Nat → Nat)) (Va_0 : Nat) (Va_1 : Nat) (Vv_0 : Int32) (Vv_1 : Int32) (Vf_1 : Nat → Int32) (Ta_0 : Nat) (Ta_1 : Nat) (Tv_0 : Int32) (Tv_1 : Int32) (Tv_2 : Int32) (Tv_3 : Int32) (Tv_4 : Int32) (Tf_1 : Nat → Int32) (h_tape : 0 ≤ (Tv_0 : Int32).toInt ∧ (Tv_0 : Int32).toInt ≤ 400 ∧ 0 ≤ (Tv_1 : Int32).toInt ∧ (Tv_1 : Int32).toInt ≤ 400 ∧ 0 ≤ (Tv_2 : Int32).toInt ∧ (Tv_2 : Int32).toInt ≤ 400) : Ct l yX7_readTest cX7_readTest 6 none { frames := 19, cells := 0, slots := 0, locals := 449 } D tc sk [.ref Va_0, .ref Ta_0, .int 5] [(Va_0, .inr (7, [.ref Va_1, .int Vv_0, .int Vv_1])), (Va_1, .inl (tc 0, 400, .inl Vf_1)), (Ta_0, .inr (10, [.ref Ta_1, .int Tv_0, .int Tv_1, .int Tv_2, .int Tv_3, .int Tv_4])), (Ta_1, .inl (tc 0, 400, .inl Tf_1))] (fun (v : Option Value) (u : (Int32) × (Int32) × (Nat → Int32) × (Int32) × (Int32) × (Int32) × (Int32)) => match u with | (o1, o2, o3, o4, o5, o6, o7) => v = none ∧ (0 ≤ (Tv_0 : Int32).toInt ∧ (Tv_0 : Int32).toInt ≤ 400 ∧ 0 ≤ (o4 : Int32).toInt ∧ (o4 : Int32).toInt ≤ 400 ∧ 0 ≤ (o5 : Int32).toInt ∧ (o5 : Int32).toInt ≤ 400)) (fun (u : (Int32) × (Int32) × (Nat → Int32) × (Int32) × (Int32) × (Int32) × (Int32)) => match u with | (o1, o2, o3, o4, o5, o6, o7) => [(Va_0, .inr (7, [.ref Va_1, .int o1, .int o2])), (Va_1, .inl (tc 0, 400, .inl o3)), (Ta_0, .inr (10, [.ref Ta_1, .int Tv_0, .int o4, .int o5, .int o6, .int o7])), (Ta_1, .inl (tc 0, 400, .inl Tf_1))]) 0 0 :=
  ct_X7_readTest_5 l D tc sk (fun k => ([Va_0, Va_1] : List (Nat)).getD k 0) (fun k => ([Vv_0, Vv_1] : List (Int32)).getD k 0) (fun k => ([(fun _ => 0), Vf_1] : List (Nat → Int32)).getD k (fun _ => 0)) (fun k => ([Ta_0, Ta_1] : List (Nat)).getD k 0) (fun k => ([Tv_0, Tv_1, Tv_2, Tv_3, Tv_4] : List (Int32)).getD k 0) (fun k => ([(fun _ => 0), Tf_1] : List (Nat → Int32)).getD k (fun _ => 0)) h_tape
set_option maxHeartbeats 4000000 in
set_option maxRecDepth 100000 in
theorem ct_X7_readFact_4 (l : Launch) (D : va_G) (tc : Nat → ClassId) (sk : (Nat → Nat) × (Nat → Nat)) (Va : Nat → Nat) (Vv : Nat → Int32) (Vf : Nat → Nat → Int32) (Ta : Nat → Nat) (Tv : Nat → Int32) (Tf : Nat → Nat → Int32) (h_tape : 0 ≤ ((Tv 0) : Int32).toInt ∧ ((Tv 0) : Int32).toInt ≤ 400 ∧ 0 ≤ ((Tv 1) : Int32).toInt ∧ ((Tv 1) : Int32).toInt ≤ 400 ∧ 0 ≤ ((Tv 2) : Int32).toInt ∧ ((Tv 2) : Int32).toInt ≤ 400) : Ct l yX7_readFact cX7_readFact 5 none { frames := 20, cells := 0, slots := 0, locals := 474 } D tc sk [.ref (Va 0), .ref (Ta 0), .int 4] [((Va 0), .inr (7, [.ref (Va 1), .int (Vv 0), .int (Vv 1)])), ((Va 1), .inl (tc 0, 400, .inl (Vf 1))), ((Ta 0), .inr (10, [.ref (Ta 1), .int (Tv 0), .int (Tv 1), .int (Tv 2), .int (Tv 3), .int (Tv 4)])), ((Ta 1), .inl (tc 0, 400, .inl (Tf 1)))] (fun (v : Option Value) (u : (Int32) × (Int32) × (Nat → Int32) × (Int32) × (Int32) × (Int32) × (Int32)) => match u with | (o1, o2, o3, o4, o5, o6, o7) => v = none ∧ (0 ≤ ((Tv 0) : Int32).toInt ∧ ((Tv 0) : Int32).toInt ≤ 400 ∧ 0 ≤ (o4 : Int32).toInt ∧ (o4 : Int32).toInt ≤ 400 ∧ 0 ≤ (o5 : Int32).toInt ∧ (o5 : Int32).toInt ≤ 400)) (fun (u : (Int32) × (Int32) × (Nat → Int32) × (Int32) × (Int32) × (Int32) × (Int32)) => match u with | (o1, o2, o3, o4, o5, o6, o7) => [((Va 0), .inr (7, [.ref (Va 1), .int o1, .int o2])), ((Va 1), .inl (tc 0, 400, .inl o3)), ((Ta 0), .inr (10, [.ref (Ta 1), .int (Tv 0), .int o4, .int o5, .int o6, .int o7])), ((Ta 1), .inl (tc 0, 400, .inl (Tf 1)))]) 0 0 := by
  refine Ct.start (by decide) (Nat.le_of_ble_eq_true rfl) (fun p e s m below meth c A ls hx hb hr hlk hin hml hown hts hK hX hP hD hA hl hS => ?_)
  have hl : lv_has ls 5 [(0, .ref (Va 0)), (1, .ref (Ta 0)), (2, .int 4)] := hl
  refine lv_aload_n hx hb dX7_readFact_0 rfl (lv_at hl 1 rfl) ?_
  refine va_ldcS hx hb hown (sx_4 hX) dX7_readFact_1 ?_
  have hh_1 : (4 : Nat) < 7 := by
    have y_4 : (4 : Int32).toInt = 4 := by decide
    omega
  refine cV (a := (Ta 0)) (As := [.ref (sk.1 4)]) (rest := []) (wr := [((Va 0), .inr (7, [.ref (Va 1), .int (Vv 0), .int (Vv 1)])), ((Va 1), .inl (tc 0, 400, .inl (Vf 1)))]) ⟨hx, hb, hml, hown, hts⟩ hK hX hA (cu_X10_isWord l D tc sk (Ta 0) (Ta 1) (Tv 0) (Tv 1) (Tv 2) (Tv 3) (Tv 4) (Tf 1) 4 hh_1 h_tape) k_618 k_615 k_616 k_617 k_96 pl_X10_isWord ⟨Nat.le_of_ble_eq_true rfl, Nat.le_of_ble_eq_true rfl⟩ rfl rfl (va_recv hK hP (ci := 10) (q0 := 2) rfl rfl) hP hD hS [2, 3] [0, 1] rfl rfl rfl rfl rfl (by decide) rfl hl.1 rfl (Nat.le_of_ble_eq_true rfl) dX7_readFact_3 ⟨Nat.le_of_ble_eq_true rfl, Nat.le_of_ble_eq_true rfl⟩ (fun v_2 u_3 H locs hv_4 hP₀ hD₀ hS₀ => ?_)
  obtain ⟨r_5, rfl, he_6⟩ := hv_4
  have he_6 : ((r_5.toInt = 0 ∨ r_5.toInt = 1)) ∧ (0 ≤ ((Tv 0) : Int32).toInt ∧ ((Tv 0) : Int32).toInt ≤ 400 ∧ 0 ≤ ((Tv 1) : Int32).toInt ∧ ((Tv 1) : Int32).toInt ≤ 400 ∧ 0 ≤ ((Tv 2) : Int32).toInt ∧ ((Tv 2) : Int32).toInt ≤ 400) := he_6
  refine W.eq (g2 := F0 m 6 ls [.int r_5]) rfl ?_
  replace hP : va_P D classes [((Va 0), .inr (7, [.ref (Va 1), .int (Vv 0), .int (Vv 1)])), ((Va 1), .inl (tc 0, 400, .inl (Vf 1))), ((Ta 0), .inr (10, [.ref (Ta 1), .int (Tv 0), .int (Tv 1), .int (Tv 2), .int (Tv 3), .int (Tv 4)])), ((Ta 1), .inl (tc 0, 400, .inl (Tf 1)))] H := hP₀
  replace hD : va_D A [((Va 0), .inr (7, [.ref (Va 1), .int (Vv 0), .int (Vv 1)])), ((Va 1), .inl (tc 0, 400, .inl (Vf 1))), ((Ta 0), .inr (10, [.ref (Ta 1), .int (Tv 0), .int (Tv 1), .int (Tv 2), .int (Tv 3), .int (Tv 4)])), ((Ta 1), .inl (tc 0, 400, .inl (Tf 1)))] := hD₀
  replace hS := hS₀
  clear hP₀ hD₀ hS₀
  refine lv_istore_n (lv' := [(3, .int r_5), (0, .ref (Va 0)), (1, .ref (Ta 0)), (2, .int 4)]) hx hb dX7_readFact_6 rfl hl (by decide) rfl (fun ls hl₀ => ?_)
  replace hl := hl₀
  clear hl₀
  refine lv_iload_n hx hb dX7_readFact_7 rfl (lv_at hl 0 rfl) ?_
  refine lv_if_ne (tgt := 20) hx hb dX7_readFact_8 (by decide) (fun c_7 => ?_) (fun c_7 => ?_)
  · skip
    refine lv_iload_n hx hb dX7_readFact_20 rfl (lv_at hl 3 rfl) ?_
    refine lv_bipush (v := 10) hx hb dX7_readFact_21 (by decide) ?_
    refine lv_icmp_lt (tgt := 34) hx hb dX7_readFact_23 (by decide) (fun c_8 => ?_) (fun c_8 => absurd c_8 (by decide))
    refine lv_iload_n hx hb dX7_readFact_34 rfl (lv_at hl 0 rfl) ?_
    refine lv_if_eq (tgt := 59) hx hb dX7_readFact_35 (by decide) (fun c_9 => ?_) (fun c_9 => ?_)
    · skip
      exfalso
      have z_1 : ¬ (r_5 : Int32).toInt = (0 : Int32).toInt := fun z => c_7 (Int32.toInt_inj.mp z)
      have z_2 := congrArg Int32.toInt c_9
      have y_0 : (0 : Int32).toInt = 0 := by decide
      omega
    · skip
      refine lv_aload_n hx hb dX7_readFact_38 rfl (lv_at hl 2 rfl) ?_
      refine cV (a := (Ta 0)) (As := []) (rest := []) (wr := [((Va 0), .inr (7, [.ref (Va 1), .int (Vv 0), .int (Vv 1)])), ((Va 1), .inl (tc 0, 400, .inl (Vf 1)))]) ⟨hx, hb, hml, hown, hts⟩ hK hX hA (cu_X10_step l D tc sk (Ta 0) (Ta 1) (Tv 0) (Tv 1) (Tv 2) (Tv 3) (Tv 4) (Tf 1) he_6.2) k_478 k_620 k_476 k_477 k_96 pl_X10_step ⟨Nat.le_of_ble_eq_true rfl, Nat.le_of_ble_eq_true rfl⟩ rfl rfl (va_recv hK hP (ci := 10) (q0 := 2) rfl rfl) hP hD hS [2, 3] [0, 1] rfl rfl rfl rfl rfl (by decide) rfl hl.1 rfl (Nat.le_of_ble_eq_true rfl) dX7_readFact_39 ⟨Nat.le_of_ble_eq_true rfl, Nat.le_of_ble_eq_true rfl⟩ (fun v_10 u_11 H locs hv_12 hP₀ hD₀ hS₀ => ?_)
      obtain ⟨sv_13, sv_14, sv_15⟩ := u_11
      obtain ⟨rfl, he_16⟩ := hv_12
      clear he_6
      have he_16 : (0 ≤ ((Tv 0) : Int32).toInt ∧ ((Tv 0) : Int32).toInt ≤ 400 ∧ 0 ≤ (sv_13 : Int32).toInt ∧ (sv_13 : Int32).toInt ≤ 400 ∧ 0 ≤ (sv_14 : Int32).toInt ∧ (sv_14 : Int32).toInt ≤ 400) := he_16
      refine W.eq (g2 := F0 m 42 ls []) rfl ?_
      replace hP : va_P D classes [((Va 0), .inr (7, [.ref (Va 1), .int (Vv 0), .int (Vv 1)])), ((Va 1), .inl (tc 0, 400, .inl (Vf 1))), ((Ta 0), .inr (10, [.ref (Ta 1), .int (Tv 0), .int sv_13, .int sv_14, .int sv_15, .int (Tv 4)])), ((Ta 1), .inl (tc 0, 400, .inl (Tf 1)))] H := hP₀
      replace hD : va_D A [((Va 0), .inr (7, [.ref (Va 1), .int (Vv 0), .int (Vv 1)])), ((Va 1), .inl (tc 0, 400, .inl (Vf 1))), ((Ta 0), .inr (10, [.ref (Ta 1), .int (Tv 0), .int sv_13, .int sv_14, .int sv_15, .int (Tv 4)])), ((Ta 1), .inl (tc 0, 400, .inl (Tf 1)))] := hD₀
      replace hS := hS₀
      clear hP₀ hD₀ hS₀
      refine lv_aload_n hx hb dX7_readFact_42 rfl (lv_at hl 1 rfl) ?_
      refine lv_aload_n hx hb dX7_readFact_43 rfl (lv_at hl 2 rfl) ?_
      refine lv_iload_n hx hb dX7_readFact_44 rfl (lv_at hl 3 rfl) ?_
      refine lv_iconst (v := 1) hx hb dX7_readFact_45 (by decide) ?_
      refine lv_iadd hx hb dX7_readFact_46 ?_
      refine lv_lit (v := 5) (by decide) ?_
      refine cV (a := (Va 0)) (As := [.ref (Ta 0), .int 5]) (rest := []) (wr := []) ⟨hx, hb, hml, hown, hts⟩ hK hX hA (cu_X7_readFact_5 l D tc sk (Va 0) (Va 1) (Vv 0) (Vv 1) (Vf 1) (Ta 0) (Ta 1) (Tv 0) sv_13 sv_14 sv_15 (Tv 4) (Tf 1) he_16) k_659 k_656 k_658 k_12 k_99 pl_X7_readFact ⟨Nat.le_of_ble_eq_true rfl, Nat.le_of_ble_eq_true rfl⟩ rfl rfl (va_recv hK hP (ci := 7) (q0 := 0) rfl rfl) hP hD hS [0, 1, 2, 3] [] rfl rfl rfl rfl rfl (by decide) rfl hl.1 rfl (Nat.le_of_ble_eq_true rfl) dX7_readFact_47 ⟨Nat.le_of_ble_eq_true rfl, Nat.le_of_ble_eq_true rfl⟩ (fun v_17 u_18 H locs hv_19 hP₀ hD₀ hS₀ => ?_)
      obtain ⟨sv_20, sv_21, sv_22, sv_23, sv_24, sv_25, sv_26⟩ := u_18
      obtain ⟨rfl, he_27⟩ := hv_19
      clear he_16
      have he_27 : (0 ≤ ((Tv 0) : Int32).toInt ∧ ((Tv 0) : Int32).toInt ≤ 400 ∧ 0 ≤ (sv_23 : Int32).toInt ∧ (sv_23 : Int32).toInt ≤ 400 ∧ 0 ≤ (sv_24 : Int32).toInt ∧ (sv_24 : Int32).toInt ≤ 400) := he_27
      refine W.eq (g2 := F0 m 50 ls []) rfl ?_
      replace hP : va_P D classes [((Va 0), .inr (7, [.ref (Va 1), .int sv_20, .int sv_21])), ((Va 1), .inl (tc 0, 400, .inl sv_22)), ((Ta 0), .inr (10, [.ref (Ta 1), .int (Tv 0), .int sv_23, .int sv_24, .int sv_25, .int sv_26])), ((Ta 1), .inl (tc 0, 400, .inl (Tf 1)))] H := hP₀
      replace hD : va_D A [((Va 0), .inr (7, [.ref (Va 1), .int sv_20, .int sv_21])), ((Va 1), .inl (tc 0, 400, .inl sv_22)), ((Ta 0), .inr (10, [.ref (Ta 1), .int (Tv 0), .int sv_23, .int sv_24, .int sv_25, .int sv_26])), ((Ta 1), .inl (tc 0, 400, .inl (Tf 1)))] := hD₀
      replace hS := hS₀
      clear hP₀ hD₀ hS₀
      refine lv_aload_n hx hb dX7_readFact_50 rfl (lv_at hl 1 rfl) ?_
      refine lv_bipush (v := (-4)) hx hb dX7_readFact_51 (by decide) ?_
      refine cV (a := (Va 0)) (As := [.int (-4)]) (rest := []) (wr := [((Ta 0), .inr (10, [.ref (Ta 1), .int (Tv 0), .int sv_23, .int sv_24, .int sv_25, .int sv_26])), ((Ta 1), .inl (tc 0, 400, .inl (Tf 1)))]) ⟨hx, hb, hml, hown, hts⟩ hK hX hA (cu_X7_put l D tc sk (Va 0) (Va 1) sv_20 sv_21 sv_22 (-4)) k_642 k_639 k_641 k_10 k_99 pl_X7_put ⟨Nat.le_of_ble_eq_true rfl, Nat.le_of_ble_eq_true rfl⟩ rfl rfl (va_recv hK hP (ci := 7) (q0 := 0) rfl rfl) hP hD hS [0, 1] [2, 3] rfl rfl rfl rfl rfl (by decide) rfl hl.1 rfl (Nat.le_of_ble_eq_true rfl) dX7_readFact_53 ⟨Nat.le_of_ble_eq_true rfl, Nat.le_of_ble_eq_true rfl⟩ (fun v_28 u_29 H locs hv_30 hP₀ hD₀ hS₀ => ?_)
      obtain ⟨sv_31, sv_32⟩ := u_29
      obtain rfl : v_28 = none := hv_30
      refine W.eq (g2 := F0 m 56 ls []) rfl ?_
      replace hP : va_P D classes [((Ta 0), .inr (10, [.ref (Ta 1), .int (Tv 0), .int sv_23, .int sv_24, .int sv_25, .int sv_26])), ((Ta 1), .inl (tc 0, 400, .inl (Tf 1))), ((Va 0), .inr (7, [.ref (Va 1), .int sv_31, .int sv_21])), ((Va 1), .inl (tc 0, 400, .inl sv_32))] H := hP₀
      replace hD : va_D A [((Ta 0), .inr (10, [.ref (Ta 1), .int (Tv 0), .int sv_23, .int sv_24, .int sv_25, .int sv_26])), ((Ta 1), .inl (tc 0, 400, .inl (Tf 1))), ((Va 0), .inr (7, [.ref (Va 1), .int sv_31, .int sv_21])), ((Va 1), .inl (tc 0, 400, .inl sv_32))] := hD₀
      replace hS := hS₀
      clear hP₀ hD₀ hS₀
      refine lv_goto (tgt := 135) hx hb dX7_readFact_56 (by decide) ?_
      exact retV hx hb hr hlk hP hD hS (sv_31, sv_21, sv_32, sv_23, sv_24, sv_25, sv_26) ⟨rfl, he_27⟩ [2, 3, 0, 1] rfl rfl dX7_readFact_135 (Nat.le_of_ble_eq_true rfl) (Nat.le_of_ble_eq_true rfl) rfl
  · skip
    refine lv_aload_n hx hb dX7_readFact_11 rfl (lv_at hl 2 rfl) ?_
    refine gf_X7_86 hx hb hts hown hK hP 2 rfl rfl dX7_readFact_12 ?_
    refine lv_bipush (v := 91) hx hb dX7_readFact_15 (by decide) ?_
    refine lv_icmp_ne (tgt := 34) hx hb dX7_readFact_17 (by decide) (fun c_33 => ?_) (fun c_33 => ?_)
    · skip
      refine lv_iload_n hx hb dX7_readFact_34 rfl (lv_at hl 0 rfl) ?_
      refine lv_if_eq (tgt := 59) hx hb dX7_readFact_35 (by decide) (fun c_34 => ?_) (fun c_34 => ?_)
      · skip
        refine lv_aload_n hx hb dX7_readFact_59 rfl (lv_at hl 2 rfl) ?_
        refine lv_bipush (v := 91) hx hb dX7_readFact_60 (by decide) ?_
        refine cV (a := (Ta 0)) (As := [.int 91]) (rest := []) (wr := [((Va 0), .inr (7, [.ref (Va 1), .int (Vv 0), .int (Vv 1)])), ((Va 1), .inl (tc 0, 400, .inl (Vf 1)))]) ⟨hx, hb, hml, hown, hts⟩ hK hX hA (cu_X10_takes l D tc sk (Ta 0) (Ta 1) (Tv 0) (Tv 1) (Tv 2) (Tv 3) (Tv 4) (Tf 1) 91 he_6.2) k_492 k_613 k_490 k_491 k_96 pl_X10_takes ⟨Nat.le_of_ble_eq_true rfl, Nat.le_of_ble_eq_true rfl⟩ rfl rfl (va_recv hK hP (ci := 10) (q0 := 2) rfl rfl) hP hD hS [2, 3] [0, 1] rfl rfl rfl rfl rfl (by decide) rfl hl.1 rfl (Nat.le_of_ble_eq_true rfl) dX7_readFact_62 ⟨Nat.le_of_ble_eq_true rfl, Nat.le_of_ble_eq_true rfl⟩ (fun v_35 u_36 H locs hv_37 hP₀ hD₀ hS₀ => ?_)
        obtain ⟨sv_38, sv_39, sv_40⟩ := u_36
        obtain ⟨r_41, rfl, he_42⟩ := hv_37
        clear he_6
        have he_42 : ((r_41.toInt = 0 ∨ (r_41.toInt = 1 ∧ (Tv 3).toInt = (91 : Int32).toInt))) ∧ (0 ≤ ((Tv 0) : Int32).toInt ∧ ((Tv 0) : Int32).toInt ≤ 400 ∧ 0 ≤ (sv_38 : Int32).toInt ∧ (sv_38 : Int32).toInt ≤ 400 ∧ 0 ≤ (sv_39 : Int32).toInt ∧ (sv_39 : Int32).toInt ≤ 400) := he_42
        refine W.eq (g2 := F0 m 65 ls [.int r_41]) rfl ?_
        replace hP : va_P D classes [((Va 0), .inr (7, [.ref (Va 1), .int (Vv 0), .int (Vv 1)])), ((Va 1), .inl (tc 0, 400, .inl (Vf 1))), ((Ta 0), .inr (10, [.ref (Ta 1), .int (Tv 0), .int sv_38, .int sv_39, .int sv_40, .int (Tv 4)])), ((Ta 1), .inl (tc 0, 400, .inl (Tf 1)))] H := hP₀
        replace hD : va_D A [((Va 0), .inr (7, [.ref (Va 1), .int (Vv 0), .int (Vv 1)])), ((Va 1), .inl (tc 0, 400, .inl (Vf 1))), ((Ta 0), .inr (10, [.ref (Ta 1), .int (Tv 0), .int sv_38, .int sv_39, .int sv_40, .int (Tv 4)])), ((Ta 1), .inl (tc 0, 400, .inl (Tf 1)))] := hD₀
        replace hS := hS₀
        clear hP₀ hD₀ hS₀
        refine lv_if_eq (tgt := 93) hx hb dX7_readFact_65 (by decide) (fun c_43 => ?_) (fun c_43 => ?_)
        · skip
          refine lv_aload_n hx hb dX7_readFact_93 rfl (lv_at hl 1 rfl) ?_
          refine lv_aload_n hx hb dX7_readFact_94 rfl (lv_at hl 2 rfl) ?_
          refine cV (a := (Va 0)) (As := [.ref (Ta 0)]) (rest := []) (wr := []) ⟨hx, hb, hml, hown, hts⟩ hK hX hA (cu_X7_readSum l D tc sk (Va 0) (Va 1) (Vv 0) (Vv 1) (Vf 1) (Ta 0) (Ta 1) (Tv 0) sv_38 sv_39 sv_40 (Tv 4) (Tf 1) he_42.2) k_624 k_621 k_623 k_7 k_99 pl_X7_readSum ⟨Nat.le_of_ble_eq_true rfl, Nat.le_of_ble_eq_true rfl⟩ rfl rfl (va_recv hK hP (ci := 7) (q0 := 0) rfl rfl) hP hD hS [0, 1, 2, 3] [] rfl rfl rfl rfl rfl (by decide) rfl hl.1 rfl (Nat.le_of_ble_eq_true rfl) dX7_readFact_95 ⟨Nat.le_of_ble_eq_true rfl, Nat.le_of_ble_eq_true rfl⟩ (fun v_44 u_45 H locs hv_46 hP₀ hD₀ hS₀ => ?_)
          obtain ⟨sv_47, sv_48, sv_49, sv_50, sv_51, sv_52, sv_53⟩ := u_45
          obtain ⟨rfl, he_54⟩ := hv_46
          clear he_42
          have he_54 : (0 ≤ ((Tv 0) : Int32).toInt ∧ ((Tv 0) : Int32).toInt ≤ 400 ∧ 0 ≤ (sv_50 : Int32).toInt ∧ (sv_50 : Int32).toInt ≤ 400 ∧ 0 ≤ (sv_51 : Int32).toInt ∧ (sv_51 : Int32).toInt ≤ 400) := he_54
          refine W.eq (g2 := F0 m 98 ls []) rfl ?_
          replace hP : va_P D classes [((Va 0), .inr (7, [.ref (Va 1), .int sv_47, .int sv_48])), ((Va 1), .inl (tc 0, 400, .inl sv_49)), ((Ta 0), .inr (10, [.ref (Ta 1), .int (Tv 0), .int sv_50, .int sv_51, .int sv_52, .int sv_53])), ((Ta 1), .inl (tc 0, 400, .inl (Tf 1)))] H := hP₀
          replace hD : va_D A [((Va 0), .inr (7, [.ref (Va 1), .int sv_47, .int sv_48])), ((Va 1), .inl (tc 0, 400, .inl sv_49)), ((Ta 0), .inr (10, [.ref (Ta 1), .int (Tv 0), .int sv_50, .int sv_51, .int sv_52, .int sv_53])), ((Ta 1), .inl (tc 0, 400, .inl (Tf 1)))] := hD₀
          replace hS := hS₀
          clear hP₀ hD₀ hS₀
          refine lv_aload_n hx hb dX7_readFact_98 rfl (lv_at hl 2 rfl) ?_
          refine cS (As := [.ref (Ta 0)]) (rest := []) (wr := [((Va 0), .inr (7, [.ref (Va 1), .int sv_47, .int sv_48])), ((Va 1), .inl (tc 0, 400, .inl sv_49))]) ⟨hx, hb, hml, hown, hts⟩ hK hX hA (cu_X7_comparison l D tc sk (Ta 0) (Ta 1) (Tv 0) sv_50 sv_51 sv_52 sv_53 (Tf 1) he_54) k_663 k_661 k_662 k_99 pl_X7_comparison ⟨Nat.le_of_ble_eq_true rfl, Nat.le_of_ble_eq_true rfl⟩ rfl rfl  hP hD hS [2, 3] [0, 1] rfl rfl rfl rfl rfl (by decide) rfl hl.1 rfl (Nat.le_of_ble_eq_true rfl) dX7_readFact_99 ⟨Nat.le_of_ble_eq_true rfl, Nat.le_of_ble_eq_true rfl⟩ (fun v_55 u_56 H locs hv_57 hP₀ hD₀ hS₀ => ?_)
          obtain ⟨r_58, rfl, he_59⟩ := hv_57
          clear he_54
          have he_59 : (True) ∧ (0 ≤ ((Tv 0) : Int32).toInt ∧ ((Tv 0) : Int32).toInt ≤ 400 ∧ 0 ≤ (sv_50 : Int32).toInt ∧ (sv_50 : Int32).toInt ≤ 400 ∧ 0 ≤ (sv_51 : Int32).toInt ∧ (sv_51 : Int32).toInt ≤ 400) := he_59
          refine W.eq (g2 := F0 m 102 ls [.int r_58]) rfl ?_
          replace hP : va_P D classes [((Va 0), .inr (7, [.ref (Va 1), .int sv_47, .int sv_48])), ((Va 1), .inl (tc 0, 400, .inl sv_49)), ((Ta 0), .inr (10, [.ref (Ta 1), .int (Tv 0), .int sv_50, .int sv_51, .int sv_52, .int sv_53])), ((Ta 1), .inl (tc 0, 400, .inl (Tf 1)))] H := hP₀
          replace hD : va_D A [((Va 0), .inr (7, [.ref (Va 1), .int sv_47, .int sv_48])), ((Va 1), .inl (tc 0, 400, .inl sv_49)), ((Ta 0), .inr (10, [.ref (Ta 1), .int (Tv 0), .int sv_50, .int sv_51, .int sv_52, .int sv_53])), ((Ta 1), .inl (tc 0, 400, .inl (Tf 1)))] := hD₀
          replace hS := hS₀
          clear hP₀ hD₀ hS₀
          refine lv_istore (lv' := [(4, .int r_58), (3, .int r_5), (0, .ref (Va 0)), (1, .ref (Ta 0)), (2, .int 4)]) hx hb dX7_readFact_102 hl (by decide) rfl (fun ls hl₀ => ?_)
          replace hl := hl₀
          clear hl₀
          refine lv_iload hx hb dX7_readFact_104 (lv_at hl 0 rfl) ?_
          refine lv_iconst (v := (-1)) hx hb dX7_readFact_106 (by decide) ?_
          refine lv_icmp_ne (tgt := 115) hx hb dX7_readFact_107 (by decide) (fun c_60 => ?_) (fun c_60 => ?_)
          · skip
            refine lv_aload_n hx hb dX7_readFact_115 rfl (lv_at hl 2 rfl) ?_
            refine lv_aload_n hx hb dX7_readFact_116 rfl (lv_at hl 3 rfl) ?_
            refine cV (a := (Va 0)) (As := [.ref (Ta 0)]) (rest := []) (wr := []) ⟨hx, hb, hml, hown, hts⟩ hK hX hA (cu_X7_countOne l D tc sk (Va 0) (Va 1) sv_47 sv_48 sv_49 (Ta 0) (Ta 1) (Tv 0) sv_50 sv_51 sv_52 sv_53 (Tf 1) he_59.2) k_638 k_635 k_637 k_9 k_99 pl_X7_countOne ⟨Nat.le_of_ble_eq_true rfl, Nat.le_of_ble_eq_true rfl⟩ rfl rfl (va_recv hK hP (ci := 7) (q0 := 0) rfl rfl) hP hD hS [0, 1, 2, 3] [] rfl rfl rfl rfl rfl (by decide) rfl hl.1 rfl (Nat.le_of_ble_eq_true rfl) dX7_readFact_117 ⟨Nat.le_of_ble_eq_true rfl, Nat.le_of_ble_eq_true rfl⟩ (fun v_61 u_62 H locs hv_63 hP₀ hD₀ hS₀ => ?_)
            obtain ⟨sv_64, sv_65, sv_66⟩ := u_62
            obtain ⟨rfl, he_67⟩ := hv_63
            clear he_59
            have he_67 : (0 ≤ ((Tv 0) : Int32).toInt ∧ ((Tv 0) : Int32).toInt ≤ 400 ∧ 0 ≤ (sv_50 : Int32).toInt ∧ (sv_50 : Int32).toInt ≤ 400 ∧ 0 ≤ (sv_51 : Int32).toInt ∧ (sv_51 : Int32).toInt ≤ 400) := he_67
            refine W.eq (g2 := F0 m 120 ls []) rfl ?_
            replace hP : va_P D classes [((Va 0), .inr (7, [.ref (Va 1), .int sv_47, .int sv_64])), ((Va 1), .inl (tc 0, 400, .inl sv_49)), ((Ta 0), .inr (10, [.ref (Ta 1), .int (Tv 0), .int sv_50, .int sv_51, .int sv_65, .int sv_66])), ((Ta 1), .inl (tc 0, 400, .inl (Tf 1)))] H := hP₀
            replace hD : va_D A [((Va 0), .inr (7, [.ref (Va 1), .int sv_47, .int sv_64])), ((Va 1), .inl (tc 0, 400, .inl sv_49)), ((Ta 0), .inr (10, [.ref (Ta 1), .int (Tv 0), .int sv_50, .int sv_51, .int sv_65, .int sv_66])), ((Ta 1), .inl (tc 0, 400, .inl (Tf 1)))] := hD₀
            replace hS := hS₀
            clear hP₀ hD₀ hS₀
            refine lv_aload_n hx hb dX7_readFact_120 rfl (lv_at hl 3 rfl) ?_
            refine cV (a := (Ta 0)) (As := []) (rest := []) (wr := [((Va 0), .inr (7, [.ref (Va 1), .int sv_47, .int sv_64])), ((Va 1), .inl (tc 0, 400, .inl sv_49))]) ⟨hx, hb, hml, hown, hts⟩ hK hX hA (cu_X10_step l D tc sk (Ta 0) (Ta 1) (Tv 0) sv_50 sv_51 sv_65 sv_66 (Tf 1) he_67) k_478 k_620 k_476 k_477 k_96 pl_X10_step ⟨Nat.le_of_ble_eq_true rfl, Nat.le_of_ble_eq_true rfl⟩ rfl rfl (va_recv hK hP (ci := 10) (q0 := 2) rfl rfl) hP hD hS [2, 3] [0, 1] rfl rfl rfl rfl rfl (by decide) rfl hl.1 rfl (Nat.le_of_ble_eq_true rfl) dX7_readFact_121 ⟨Nat.le_of_ble_eq_true rfl, Nat.le_of_ble_eq_true rfl⟩ (fun v_68 u_69 H locs hv_70 hP₀ hD₀ hS₀ => ?_)
            obtain ⟨sv_71, sv_72, sv_73⟩ := u_69
            obtain ⟨rfl, he_74⟩ := hv_70
            clear he_67
            have he_74 : (0 ≤ ((Tv 0) : Int32).toInt ∧ ((Tv 0) : Int32).toInt ≤ 400 ∧ 0 ≤ (sv_71 : Int32).toInt ∧ (sv_71 : Int32).toInt ≤ 400 ∧ 0 ≤ (sv_72 : Int32).toInt ∧ (sv_72 : Int32).toInt ≤ 400) := he_74
            refine W.eq (g2 := F0 m 124 ls []) rfl ?_
            replace hP : va_P D classes [((Va 0), .inr (7, [.ref (Va 1), .int sv_47, .int sv_64])), ((Va 1), .inl (tc 0, 400, .inl sv_49)), ((Ta 0), .inr (10, [.ref (Ta 1), .int (Tv 0), .int sv_71, .int sv_72, .int sv_73, .int sv_66])), ((Ta 1), .inl (tc 0, 400, .inl (Tf 1)))] H := hP₀
            replace hD : va_D A [((Va 0), .inr (7, [.ref (Va 1), .int sv_47, .int sv_64])), ((Va 1), .inl (tc 0, 400, .inl sv_49)), ((Ta 0), .inr (10, [.ref (Ta 1), .int (Tv 0), .int sv_71, .int sv_72, .int sv_73, .int sv_66])), ((Ta 1), .inl (tc 0, 400, .inl (Tf 1)))] := hD₀
            replace hS := hS₀
            clear hP₀ hD₀ hS₀
            refine lv_aload_n hx hb dX7_readFact_124 rfl (lv_at hl 2 rfl) ?_
            refine lv_aload_n hx hb dX7_readFact_125 rfl (lv_at hl 3 rfl) ?_
            refine cV (a := (Va 0)) (As := [.ref (Ta 0)]) (rest := []) (wr := []) ⟨hx, hb, hml, hown, hts⟩ hK hX hA (cu_X7_readSum l D tc sk (Va 0) (Va 1) sv_47 sv_64 sv_49 (Ta 0) (Ta 1) (Tv 0) sv_71 sv_72 sv_73 sv_66 (Tf 1) he_74) k_624 k_621 k_623 k_7 k_99 pl_X7_readSum ⟨Nat.le_of_ble_eq_true rfl, Nat.le_of_ble_eq_true rfl⟩ rfl rfl (va_recv hK hP (ci := 7) (q0 := 0) rfl rfl) hP hD hS [0, 1, 2, 3] [] rfl rfl rfl rfl rfl (by decide) rfl hl.1 rfl (Nat.le_of_ble_eq_true rfl) dX7_readFact_126 ⟨Nat.le_of_ble_eq_true rfl, Nat.le_of_ble_eq_true rfl⟩ (fun v_75 u_76 H locs hv_77 hP₀ hD₀ hS₀ => ?_)
            obtain ⟨sv_78, sv_79, sv_80, sv_81, sv_82, sv_83, sv_84⟩ := u_76
            obtain ⟨rfl, he_85⟩ := hv_77
            clear he_74
            have he_85 : (0 ≤ ((Tv 0) : Int32).toInt ∧ ((Tv 0) : Int32).toInt ≤ 400 ∧ 0 ≤ (sv_81 : Int32).toInt ∧ (sv_81 : Int32).toInt ≤ 400 ∧ 0 ≤ (sv_82 : Int32).toInt ∧ (sv_82 : Int32).toInt ≤ 400) := he_85
            refine W.eq (g2 := F0 m 129 ls []) rfl ?_
            replace hP : va_P D classes [((Va 0), .inr (7, [.ref (Va 1), .int sv_78, .int sv_79])), ((Va 1), .inl (tc 0, 400, .inl sv_80)), ((Ta 0), .inr (10, [.ref (Ta 1), .int (Tv 0), .int sv_81, .int sv_82, .int sv_83, .int sv_84])), ((Ta 1), .inl (tc 0, 400, .inl (Tf 1)))] H := hP₀
            replace hD : va_D A [((Va 0), .inr (7, [.ref (Va 1), .int sv_78, .int sv_79])), ((Va 1), .inl (tc 0, 400, .inl sv_80)), ((Ta 0), .inr (10, [.ref (Ta 1), .int (Tv 0), .int sv_81, .int sv_82, .int sv_83, .int sv_84])), ((Ta 1), .inl (tc 0, 400, .inl (Tf 1)))] := hD₀
            replace hS := hS₀
            clear hP₀ hD₀ hS₀
            refine lv_aload_n hx hb dX7_readFact_129 rfl (lv_at hl 2 rfl) ?_
            refine lv_iload hx hb dX7_readFact_130 (lv_at hl 0 rfl) ?_
            refine cV (a := (Va 0)) (As := [.int r_58]) (rest := []) (wr := [((Ta 0), .inr (10, [.ref (Ta 1), .int (Tv 0), .int sv_81, .int sv_82, .int sv_83, .int sv_84])), ((Ta 1), .inl (tc 0, 400, .inl (Tf 1)))]) ⟨hx, hb, hml, hown, hts⟩ hK hX hA (cu_X7_put l D tc sk (Va 0) (Va 1) sv_78 sv_79 sv_80 r_58) k_642 k_639 k_641 k_10 k_99 pl_X7_put ⟨Nat.le_of_ble_eq_true rfl, Nat.le_of_ble_eq_true rfl⟩ rfl rfl (va_recv hK hP (ci := 7) (q0 := 0) rfl rfl) hP hD hS [0, 1] [2, 3] rfl rfl rfl rfl rfl (by decide) rfl hl.1 rfl (Nat.le_of_ble_eq_true rfl) dX7_readFact_132 ⟨Nat.le_of_ble_eq_true rfl, Nat.le_of_ble_eq_true rfl⟩ (fun v_86 u_87 H locs hv_88 hP₀ hD₀ hS₀ => ?_)
            obtain ⟨sv_89, sv_90⟩ := u_87
            obtain rfl : v_86 = none := hv_88
            refine W.eq (g2 := F0 m 135 ls []) rfl ?_
            replace hP : va_P D classes [((Ta 0), .inr (10, [.ref (Ta 1), .int (Tv 0), .int sv_81, .int sv_82, .int sv_83, .int sv_84])), ((Ta 1), .inl (tc 0, 400, .inl (Tf 1))), ((Va 0), .inr (7, [.ref (Va 1), .int sv_89, .int sv_79])), ((Va 1), .inl (tc 0, 400, .inl sv_90))] H := hP₀
            replace hD : va_D A [((Ta 0), .inr (10, [.ref (Ta 1), .int (Tv 0), .int sv_81, .int sv_82, .int sv_83, .int sv_84])), ((Ta 1), .inl (tc 0, 400, .inl (Tf 1))), ((Va 0), .inr (7, [.ref (Va 1), .int sv_89, .int sv_79])), ((Va 1), .inl (tc 0, 400, .inl sv_90))] := hD₀
            replace hS := hS₀
            clear hP₀ hD₀ hS₀
            exact retV hx hb hr hlk hP hD hS (sv_89, sv_79, sv_90, sv_81, sv_82, sv_83, sv_84) ⟨rfl, he_85⟩ [2, 3, 0, 1] rfl rfl dX7_readFact_135 (Nat.le_of_ble_eq_true rfl) (Nat.le_of_ble_eq_true rfl) rfl
          · skip
            refine lv_aload_n hx hb dX7_readFact_110 rfl (lv_at hl 3 rfl) ?_
            refine lv_iconst (v := 0) hx hb dX7_readFact_111 (by decide) ?_
            refine cV (a := (Ta 0)) (As := [.int 0]) (rest := []) (wr := [((Va 0), .inr (7, [.ref (Va 1), .int sv_47, .int sv_48])), ((Va 1), .inl (tc 0, 400, .inl sv_49))]) ⟨hx, hb, hml, hown, hts⟩ hK hX hA (cu_X10_fail l D tc sk (Ta 0) (Ta 1) (Tv 0) sv_50 sv_51 sv_52 sv_53 (Tf 1) 0 he_59.2) k_557 k_619 k_555 k_556 k_96 pl_X10_fail ⟨Nat.le_of_ble_eq_true rfl, Nat.le_of_ble_eq_true rfl⟩ rfl rfl (va_recv hK hP (ci := 10) (q0 := 2) rfl rfl) hP hD hS [2, 3] [0, 1] rfl rfl rfl rfl rfl (by decide) rfl hl.1 rfl (Nat.le_of_ble_eq_true rfl) dX7_readFact_112 ⟨Nat.le_of_ble_eq_true rfl, Nat.le_of_ble_eq_true rfl⟩ (fun v_91 u_92 H locs hv_93 hP₀ hD₀ hS₀ => ?_)
            obtain ⟨sv_94, sv_95⟩ := u_92
            obtain ⟨rfl, he_96⟩ := hv_93
            clear he_59
            have he_96 : (0 ≤ ((Tv 0) : Int32).toInt ∧ ((Tv 0) : Int32).toInt ≤ 400 ∧ 0 ≤ (sv_50 : Int32).toInt ∧ (sv_50 : Int32).toInt ≤ 400 ∧ 0 ≤ (sv_51 : Int32).toInt ∧ (sv_51 : Int32).toInt ≤ 400) := he_96
            refine W.eq (g2 := F0 m 115 ls []) rfl ?_
            replace hP : va_P D classes [((Va 0), .inr (7, [.ref (Va 1), .int sv_47, .int sv_48])), ((Va 1), .inl (tc 0, 400, .inl sv_49)), ((Ta 0), .inr (10, [.ref (Ta 1), .int (Tv 0), .int sv_50, .int sv_51, .int sv_94, .int sv_95])), ((Ta 1), .inl (tc 0, 400, .inl (Tf 1)))] H := hP₀
            replace hD : va_D A [((Va 0), .inr (7, [.ref (Va 1), .int sv_47, .int sv_48])), ((Va 1), .inl (tc 0, 400, .inl sv_49)), ((Ta 0), .inr (10, [.ref (Ta 1), .int (Tv 0), .int sv_50, .int sv_51, .int sv_94, .int sv_95])), ((Ta 1), .inl (tc 0, 400, .inl (Tf 1)))] := hD₀
            replace hS := hS₀
            clear hP₀ hD₀ hS₀
            refine lv_aload_n hx hb dX7_readFact_115 rfl (lv_at hl 2 rfl) ?_
            refine lv_aload_n hx hb dX7_readFact_116 rfl (lv_at hl 3 rfl) ?_
            refine cV (a := (Va 0)) (As := [.ref (Ta 0)]) (rest := []) (wr := []) ⟨hx, hb, hml, hown, hts⟩ hK hX hA (cu_X7_countOne l D tc sk (Va 0) (Va 1) sv_47 sv_48 sv_49 (Ta 0) (Ta 1) (Tv 0) sv_50 sv_51 sv_94 sv_95 (Tf 1) he_96) k_638 k_635 k_637 k_9 k_99 pl_X7_countOne ⟨Nat.le_of_ble_eq_true rfl, Nat.le_of_ble_eq_true rfl⟩ rfl rfl (va_recv hK hP (ci := 7) (q0 := 0) rfl rfl) hP hD hS [0, 1, 2, 3] [] rfl rfl rfl rfl rfl (by decide) rfl hl.1 rfl (Nat.le_of_ble_eq_true rfl) dX7_readFact_117 ⟨Nat.le_of_ble_eq_true rfl, Nat.le_of_ble_eq_true rfl⟩ (fun v_97 u_98 H locs hv_99 hP₀ hD₀ hS₀ => ?_)
            obtain ⟨sv_100, sv_101, sv_102⟩ := u_98
            obtain ⟨rfl, he_103⟩ := hv_99
            clear he_96
            have he_103 : (0 ≤ ((Tv 0) : Int32).toInt ∧ ((Tv 0) : Int32).toInt ≤ 400 ∧ 0 ≤ (sv_50 : Int32).toInt ∧ (sv_50 : Int32).toInt ≤ 400 ∧ 0 ≤ (sv_51 : Int32).toInt ∧ (sv_51 : Int32).toInt ≤ 400) := he_103
            refine W.eq (g2 := F0 m 120 ls []) rfl ?_
            replace hP : va_P D classes [((Va 0), .inr (7, [.ref (Va 1), .int sv_47, .int sv_100])), ((Va 1), .inl (tc 0, 400, .inl sv_49)), ((Ta 0), .inr (10, [.ref (Ta 1), .int (Tv 0), .int sv_50, .int sv_51, .int sv_101, .int sv_102])), ((Ta 1), .inl (tc 0, 400, .inl (Tf 1)))] H := hP₀
            replace hD : va_D A [((Va 0), .inr (7, [.ref (Va 1), .int sv_47, .int sv_100])), ((Va 1), .inl (tc 0, 400, .inl sv_49)), ((Ta 0), .inr (10, [.ref (Ta 1), .int (Tv 0), .int sv_50, .int sv_51, .int sv_101, .int sv_102])), ((Ta 1), .inl (tc 0, 400, .inl (Tf 1)))] := hD₀
            replace hS := hS₀
            clear hP₀ hD₀ hS₀
            refine lv_aload_n hx hb dX7_readFact_120 rfl (lv_at hl 3 rfl) ?_
            refine cV (a := (Ta 0)) (As := []) (rest := []) (wr := [((Va 0), .inr (7, [.ref (Va 1), .int sv_47, .int sv_100])), ((Va 1), .inl (tc 0, 400, .inl sv_49))]) ⟨hx, hb, hml, hown, hts⟩ hK hX hA (cu_X10_step l D tc sk (Ta 0) (Ta 1) (Tv 0) sv_50 sv_51 sv_101 sv_102 (Tf 1) he_103) k_478 k_620 k_476 k_477 k_96 pl_X10_step ⟨Nat.le_of_ble_eq_true rfl, Nat.le_of_ble_eq_true rfl⟩ rfl rfl (va_recv hK hP (ci := 10) (q0 := 2) rfl rfl) hP hD hS [2, 3] [0, 1] rfl rfl rfl rfl rfl (by decide) rfl hl.1 rfl (Nat.le_of_ble_eq_true rfl) dX7_readFact_121 ⟨Nat.le_of_ble_eq_true rfl, Nat.le_of_ble_eq_true rfl⟩ (fun v_104 u_105 H locs hv_106 hP₀ hD₀ hS₀ => ?_)
            obtain ⟨sv_107, sv_108, sv_109⟩ := u_105
            obtain ⟨rfl, he_110⟩ := hv_106
            clear he_103
            have he_110 : (0 ≤ ((Tv 0) : Int32).toInt ∧ ((Tv 0) : Int32).toInt ≤ 400 ∧ 0 ≤ (sv_107 : Int32).toInt ∧ (sv_107 : Int32).toInt ≤ 400 ∧ 0 ≤ (sv_108 : Int32).toInt ∧ (sv_108 : Int32).toInt ≤ 400) := he_110
            refine W.eq (g2 := F0 m 124 ls []) rfl ?_
            replace hP : va_P D classes [((Va 0), .inr (7, [.ref (Va 1), .int sv_47, .int sv_100])), ((Va 1), .inl (tc 0, 400, .inl sv_49)), ((Ta 0), .inr (10, [.ref (Ta 1), .int (Tv 0), .int sv_107, .int sv_108, .int sv_109, .int sv_102])), ((Ta 1), .inl (tc 0, 400, .inl (Tf 1)))] H := hP₀
            replace hD : va_D A [((Va 0), .inr (7, [.ref (Va 1), .int sv_47, .int sv_100])), ((Va 1), .inl (tc 0, 400, .inl sv_49)), ((Ta 0), .inr (10, [.ref (Ta 1), .int (Tv 0), .int sv_107, .int sv_108, .int sv_109, .int sv_102])), ((Ta 1), .inl (tc 0, 400, .inl (Tf 1)))] := hD₀
            replace hS := hS₀
            clear hP₀ hD₀ hS₀
            refine lv_aload_n hx hb dX7_readFact_124 rfl (lv_at hl 2 rfl) ?_
            refine lv_aload_n hx hb dX7_readFact_125 rfl (lv_at hl 3 rfl) ?_
            refine cV (a := (Va 0)) (As := [.ref (Ta 0)]) (rest := []) (wr := []) ⟨hx, hb, hml, hown, hts⟩ hK hX hA (cu_X7_readSum l D tc sk (Va 0) (Va 1) sv_47 sv_100 sv_49 (Ta 0) (Ta 1) (Tv 0) sv_107 sv_108 sv_109 sv_102 (Tf 1) he_110) k_624 k_621 k_623 k_7 k_99 pl_X7_readSum ⟨Nat.le_of_ble_eq_true rfl, Nat.le_of_ble_eq_true rfl⟩ rfl rfl (va_recv hK hP (ci := 7) (q0 := 0) rfl rfl) hP hD hS [0, 1, 2, 3] [] rfl rfl rfl rfl rfl (by decide) rfl hl.1 rfl (Nat.le_of_ble_eq_true rfl) dX7_readFact_126 ⟨Nat.le_of_ble_eq_true rfl, Nat.le_of_ble_eq_true rfl⟩ (fun v_111 u_112 H locs hv_113 hP₀ hD₀ hS₀ => ?_)
            obtain ⟨sv_114, sv_115, sv_116, sv_117, sv_118, sv_119, sv_120⟩ := u_112
            obtain ⟨rfl, he_121⟩ := hv_113
            clear he_110
            have he_121 : (0 ≤ ((Tv 0) : Int32).toInt ∧ ((Tv 0) : Int32).toInt ≤ 400 ∧ 0 ≤ (sv_117 : Int32).toInt ∧ (sv_117 : Int32).toInt ≤ 400 ∧ 0 ≤ (sv_118 : Int32).toInt ∧ (sv_118 : Int32).toInt ≤ 400) := he_121
            refine W.eq (g2 := F0 m 129 ls []) rfl ?_
            replace hP : va_P D classes [((Va 0), .inr (7, [.ref (Va 1), .int sv_114, .int sv_115])), ((Va 1), .inl (tc 0, 400, .inl sv_116)), ((Ta 0), .inr (10, [.ref (Ta 1), .int (Tv 0), .int sv_117, .int sv_118, .int sv_119, .int sv_120])), ((Ta 1), .inl (tc 0, 400, .inl (Tf 1)))] H := hP₀
            replace hD : va_D A [((Va 0), .inr (7, [.ref (Va 1), .int sv_114, .int sv_115])), ((Va 1), .inl (tc 0, 400, .inl sv_116)), ((Ta 0), .inr (10, [.ref (Ta 1), .int (Tv 0), .int sv_117, .int sv_118, .int sv_119, .int sv_120])), ((Ta 1), .inl (tc 0, 400, .inl (Tf 1)))] := hD₀
            replace hS := hS₀
            clear hP₀ hD₀ hS₀
            refine lv_aload_n hx hb dX7_readFact_129 rfl (lv_at hl 2 rfl) ?_
            refine lv_iload hx hb dX7_readFact_130 (lv_at hl 0 rfl) ?_
            refine cV (a := (Va 0)) (As := [.int r_58]) (rest := []) (wr := [((Ta 0), .inr (10, [.ref (Ta 1), .int (Tv 0), .int sv_117, .int sv_118, .int sv_119, .int sv_120])), ((Ta 1), .inl (tc 0, 400, .inl (Tf 1)))]) ⟨hx, hb, hml, hown, hts⟩ hK hX hA (cu_X7_put l D tc sk (Va 0) (Va 1) sv_114 sv_115 sv_116 r_58) k_642 k_639 k_641 k_10 k_99 pl_X7_put ⟨Nat.le_of_ble_eq_true rfl, Nat.le_of_ble_eq_true rfl⟩ rfl rfl (va_recv hK hP (ci := 7) (q0 := 0) rfl rfl) hP hD hS [0, 1] [2, 3] rfl rfl rfl rfl rfl (by decide) rfl hl.1 rfl (Nat.le_of_ble_eq_true rfl) dX7_readFact_132 ⟨Nat.le_of_ble_eq_true rfl, Nat.le_of_ble_eq_true rfl⟩ (fun v_122 u_123 H locs hv_124 hP₀ hD₀ hS₀ => ?_)
            obtain ⟨sv_125, sv_126⟩ := u_123
            obtain rfl : v_122 = none := hv_124
            refine W.eq (g2 := F0 m 135 ls []) rfl ?_
            replace hP : va_P D classes [((Ta 0), .inr (10, [.ref (Ta 1), .int (Tv 0), .int sv_117, .int sv_118, .int sv_119, .int sv_120])), ((Ta 1), .inl (tc 0, 400, .inl (Tf 1))), ((Va 0), .inr (7, [.ref (Va 1), .int sv_125, .int sv_115])), ((Va 1), .inl (tc 0, 400, .inl sv_126))] H := hP₀
            replace hD : va_D A [((Ta 0), .inr (10, [.ref (Ta 1), .int (Tv 0), .int sv_117, .int sv_118, .int sv_119, .int sv_120])), ((Ta 1), .inl (tc 0, 400, .inl (Tf 1))), ((Va 0), .inr (7, [.ref (Va 1), .int sv_125, .int sv_115])), ((Va 1), .inl (tc 0, 400, .inl sv_126))] := hD₀
            replace hS := hS₀
            clear hP₀ hD₀ hS₀
            exact retV hx hb hr hlk hP hD hS (sv_125, sv_115, sv_126, sv_117, sv_118, sv_119, sv_120) ⟨rfl, he_121⟩ [2, 3, 0, 1] rfl rfl dX7_readFact_135 (Nat.le_of_ble_eq_true rfl) (Nat.le_of_ble_eq_true rfl) rfl
        · skip
          refine lv_aload_n hx hb dX7_readFact_68 rfl (lv_at hl 1 rfl) ?_
          refine lv_aload_n hx hb dX7_readFact_69 rfl (lv_at hl 2 rfl) ?_
          refine lv_iload_n hx hb dX7_readFact_70 rfl (lv_at hl 3 rfl) ?_
          refine lv_iconst (v := 1) hx hb dX7_readFact_71 (by decide) ?_
          refine lv_iadd hx hb dX7_readFact_72 ?_
          refine lv_lit (v := 5) (by decide) ?_
          refine cV (a := (Va 0)) (As := [.ref (Ta 0), .int 5]) (rest := []) (wr := []) ⟨hx, hb, hml, hown, hts⟩ hK hX hA (cu_X7_readTest_5 l D tc sk (Va 0) (Va 1) (Vv 0) (Vv 1) (Vf 1) (Ta 0) (Ta 1) (Tv 0) sv_38 sv_39 sv_40 (Tv 4) (Tf 1) he_42.2) k_655 k_652 k_654 k_11 k_99 pl_X7_readTest ⟨Nat.le_of_ble_eq_true rfl, Nat.le_of_ble_eq_true rfl⟩ rfl rfl (va_recv hK hP (ci := 7) (q0 := 0) rfl rfl) hP hD hS [0, 1, 2, 3] [] rfl rfl rfl rfl rfl (by decide) rfl hl.1 rfl (Nat.le_of_ble_eq_true rfl) dX7_readFact_73 ⟨Nat.le_of_ble_eq_true rfl, Nat.le_of_ble_eq_true rfl⟩ (fun v_127 u_128 H locs hv_129 hP₀ hD₀ hS₀ => ?_)
          obtain ⟨sv_130, sv_131, sv_132, sv_133, sv_134, sv_135, sv_136⟩ := u_128
          obtain ⟨rfl, he_137⟩ := hv_129
          clear he_42
          have he_137 : (0 ≤ ((Tv 0) : Int32).toInt ∧ ((Tv 0) : Int32).toInt ≤ 400 ∧ 0 ≤ (sv_133 : Int32).toInt ∧ (sv_133 : Int32).toInt ≤ 400 ∧ 0 ≤ (sv_134 : Int32).toInt ∧ (sv_134 : Int32).toInt ≤ 400) := he_137
          refine W.eq (g2 := F0 m 76 ls []) rfl ?_
          replace hP : va_P D classes [((Va 0), .inr (7, [.ref (Va 1), .int sv_130, .int sv_131])), ((Va 1), .inl (tc 0, 400, .inl sv_132)), ((Ta 0), .inr (10, [.ref (Ta 1), .int (Tv 0), .int sv_133, .int sv_134, .int sv_135, .int sv_136])), ((Ta 1), .inl (tc 0, 400, .inl (Tf 1)))] H := hP₀
          replace hD : va_D A [((Va 0), .inr (7, [.ref (Va 1), .int sv_130, .int sv_131])), ((Va 1), .inl (tc 0, 400, .inl sv_132)), ((Ta 0), .inr (10, [.ref (Ta 1), .int (Tv 0), .int sv_133, .int sv_134, .int sv_135, .int sv_136])), ((Ta 1), .inl (tc 0, 400, .inl (Tf 1)))] := hD₀
          replace hS := hS₀
          clear hP₀ hD₀ hS₀
          refine lv_aload_n hx hb dX7_readFact_76 rfl (lv_at hl 2 rfl) ?_
          refine lv_bipush (v := 93) hx hb dX7_readFact_77 (by decide) ?_
          refine cV (a := (Ta 0)) (As := [.int 93]) (rest := []) (wr := [((Va 0), .inr (7, [.ref (Va 1), .int sv_130, .int sv_131])), ((Va 1), .inl (tc 0, 400, .inl sv_132))]) ⟨hx, hb, hml, hown, hts⟩ hK hX hA (cu_X10_takes l D tc sk (Ta 0) (Ta 1) (Tv 0) sv_133 sv_134 sv_135 sv_136 (Tf 1) 93 he_137) k_492 k_613 k_490 k_491 k_96 pl_X10_takes ⟨Nat.le_of_ble_eq_true rfl, Nat.le_of_ble_eq_true rfl⟩ rfl rfl (va_recv hK hP (ci := 10) (q0 := 2) rfl rfl) hP hD hS [2, 3] [0, 1] rfl rfl rfl rfl rfl (by decide) rfl hl.1 rfl (Nat.le_of_ble_eq_true rfl) dX7_readFact_79 ⟨Nat.le_of_ble_eq_true rfl, Nat.le_of_ble_eq_true rfl⟩ (fun v_138 u_139 H locs hv_140 hP₀ hD₀ hS₀ => ?_)
          obtain ⟨sv_141, sv_142, sv_143⟩ := u_139
          obtain ⟨r_144, rfl, he_145⟩ := hv_140
          clear he_137
          have he_145 : ((r_144.toInt = 0 ∨ (r_144.toInt = 1 ∧ sv_135.toInt = (93 : Int32).toInt))) ∧ (0 ≤ ((Tv 0) : Int32).toInt ∧ ((Tv 0) : Int32).toInt ≤ 400 ∧ 0 ≤ (sv_141 : Int32).toInt ∧ (sv_141 : Int32).toInt ≤ 400 ∧ 0 ≤ (sv_142 : Int32).toInt ∧ (sv_142 : Int32).toInt ≤ 400) := he_145
          refine W.eq (g2 := F0 m 82 ls [.int r_144]) rfl ?_
          replace hP : va_P D classes [((Va 0), .inr (7, [.ref (Va 1), .int sv_130, .int sv_131])), ((Va 1), .inl (tc 0, 400, .inl sv_132)), ((Ta 0), .inr (10, [.ref (Ta 1), .int (Tv 0), .int sv_141, .int sv_142, .int sv_143, .int sv_136])), ((Ta 1), .inl (tc 0, 400, .inl (Tf 1)))] H := hP₀
          replace hD : va_D A [((Va 0), .inr (7, [.ref (Va 1), .int sv_130, .int sv_131])), ((Va 1), .inl (tc 0, 400, .inl sv_132)), ((Ta 0), .inr (10, [.ref (Ta 1), .int (Tv 0), .int sv_141, .int sv_142, .int sv_143, .int sv_136])), ((Ta 1), .inl (tc 0, 400, .inl (Tf 1)))] := hD₀
          replace hS := hS₀
          clear hP₀ hD₀ hS₀
          refine lv_if_ne (tgt := 135) hx hb dX7_readFact_82 (by decide) (fun c_146 => ?_) (fun c_146 => ?_)
          · skip
            exact retV hx hb hr hlk hP hD hS (sv_130, sv_131, sv_132, sv_141, sv_142, sv_143, sv_136) ⟨rfl, he_145.2⟩ [0, 1, 2, 3] rfl rfl dX7_readFact_135 (Nat.le_of_ble_eq_true rfl) (Nat.le_of_ble_eq_true rfl) rfl
          · skip
            refine lv_aload_n hx hb dX7_readFact_85 rfl (lv_at hl 2 rfl) ?_
            refine lv_iconst (v := 0) hx hb dX7_readFact_86 (by decide) ?_
            refine cV (a := (Ta 0)) (As := [.int 0]) (rest := []) (wr := [((Va 0), .inr (7, [.ref (Va 1), .int sv_130, .int sv_131])), ((Va 1), .inl (tc 0, 400, .inl sv_132))]) ⟨hx, hb, hml, hown, hts⟩ hK hX hA (cu_X10_fail l D tc sk (Ta 0) (Ta 1) (Tv 0) sv_141 sv_142 sv_143 sv_136 (Tf 1) 0 he_145.2) k_557 k_619 k_555 k_556 k_96 pl_X10_fail ⟨Nat.le_of_ble_eq_true rfl, Nat.le_of_ble_eq_true rfl⟩ rfl rfl (va_recv hK hP (ci := 10) (q0 := 2) rfl rfl) hP hD hS [2, 3] [0, 1] rfl rfl rfl rfl rfl (by decide) rfl hl.1 rfl (Nat.le_of_ble_eq_true rfl) dX7_readFact_87 ⟨Nat.le_of_ble_eq_true rfl, Nat.le_of_ble_eq_true rfl⟩ (fun v_147 u_148 H locs hv_149 hP₀ hD₀ hS₀ => ?_)
            obtain ⟨sv_150, sv_151⟩ := u_148
            obtain ⟨rfl, he_152⟩ := hv_149
            clear he_145
            have he_152 : (0 ≤ ((Tv 0) : Int32).toInt ∧ ((Tv 0) : Int32).toInt ≤ 400 ∧ 0 ≤ (sv_141 : Int32).toInt ∧ (sv_141 : Int32).toInt ≤ 400 ∧ 0 ≤ (sv_142 : Int32).toInt ∧ (sv_142 : Int32).toInt ≤ 400) := he_152
            refine W.eq (g2 := F0 m 90 ls []) rfl ?_
            replace hP : va_P D classes [((Va 0), .inr (7, [.ref (Va 1), .int sv_130, .int sv_131])), ((Va 1), .inl (tc 0, 400, .inl sv_132)), ((Ta 0), .inr (10, [.ref (Ta 1), .int (Tv 0), .int sv_141, .int sv_142, .int sv_150, .int sv_151])), ((Ta 1), .inl (tc 0, 400, .inl (Tf 1)))] H := hP₀
            replace hD : va_D A [((Va 0), .inr (7, [.ref (Va 1), .int sv_130, .int sv_131])), ((Va 1), .inl (tc 0, 400, .inl sv_132)), ((Ta 0), .inr (10, [.ref (Ta 1), .int (Tv 0), .int sv_141, .int sv_142, .int sv_150, .int sv_151])), ((Ta 1), .inl (tc 0, 400, .inl (Tf 1)))] := hD₀
            replace hS := hS₀
            clear hP₀ hD₀ hS₀
            refine lv_goto (tgt := 135) hx hb dX7_readFact_90 (by decide) ?_
            exact retV hx hb hr hlk hP hD hS (sv_130, sv_131, sv_132, sv_141, sv_142, sv_150, sv_151) ⟨rfl, he_152⟩ [0, 1, 2, 3] rfl rfl dX7_readFact_135 (Nat.le_of_ble_eq_true rfl) (Nat.le_of_ble_eq_true rfl) rfl
      · skip
        exfalso
        have z_1 := congrArg Int32.toInt c_7
        have z_2 : ¬ ((Tv 3) : Int32).toInt = (91 : Int32).toInt := fun z => c_33 (Int32.toInt_inj.mp z)
        have z_3 : ¬ (r_5 : Int32).toInt = (0 : Int32).toInt := fun z => c_34 (Int32.toInt_inj.mp z)
        have y_0 : (0 : Int32).toInt = 0 := by decide
        have y_91 : (91 : Int32).toInt = 91 := by decide
        omega
    · skip
      refine lv_iload_n hx hb dX7_readFact_20 rfl (lv_at hl 3 rfl) ?_
      refine lv_bipush (v := 10) hx hb dX7_readFact_21 (by decide) ?_
      refine lv_icmp_lt (tgt := 34) hx hb dX7_readFact_23 (by decide) (fun c_153 => ?_) (fun c_153 => absurd c_153 (by decide))
      refine lv_iload_n hx hb dX7_readFact_34 rfl (lv_at hl 0 rfl) ?_
      refine lv_if_eq (tgt := 59) hx hb dX7_readFact_35 (by decide) (fun c_154 => ?_) (fun c_154 => ?_)
      · skip
        refine lv_aload_n hx hb dX7_readFact_59 rfl (lv_at hl 2 rfl) ?_
        refine lv_bipush (v := 91) hx hb dX7_readFact_60 (by decide) ?_
        refine cV (a := (Ta 0)) (As := [.int 91]) (rest := []) (wr := [((Va 0), .inr (7, [.ref (Va 1), .int (Vv 0), .int (Vv 1)])), ((Va 1), .inl (tc 0, 400, .inl (Vf 1)))]) ⟨hx, hb, hml, hown, hts⟩ hK hX hA (cu_X10_takes l D tc sk (Ta 0) (Ta 1) (Tv 0) (Tv 1) (Tv 2) (Tv 3) (Tv 4) (Tf 1) 91 he_6.2) k_492 k_613 k_490 k_491 k_96 pl_X10_takes ⟨Nat.le_of_ble_eq_true rfl, Nat.le_of_ble_eq_true rfl⟩ rfl rfl (va_recv hK hP (ci := 10) (q0 := 2) rfl rfl) hP hD hS [2, 3] [0, 1] rfl rfl rfl rfl rfl (by decide) rfl hl.1 rfl (Nat.le_of_ble_eq_true rfl) dX7_readFact_62 ⟨Nat.le_of_ble_eq_true rfl, Nat.le_of_ble_eq_true rfl⟩ (fun v_155 u_156 H locs hv_157 hP₀ hD₀ hS₀ => ?_)
        obtain ⟨sv_158, sv_159, sv_160⟩ := u_156
        obtain ⟨r_161, rfl, he_162⟩ := hv_157
        clear he_6
        have he_162 : ((r_161.toInt = 0 ∨ (r_161.toInt = 1 ∧ (Tv 3).toInt = (91 : Int32).toInt))) ∧ (0 ≤ ((Tv 0) : Int32).toInt ∧ ((Tv 0) : Int32).toInt ≤ 400 ∧ 0 ≤ (sv_158 : Int32).toInt ∧ (sv_158 : Int32).toInt ≤ 400 ∧ 0 ≤ (sv_159 : Int32).toInt ∧ (sv_159 : Int32).toInt ≤ 400) := he_162
        refine W.eq (g2 := F0 m 65 ls [.int r_161]) rfl ?_
        replace hP : va_P D classes [((Va 0), .inr (7, [.ref (Va 1), .int (Vv 0), .int (Vv 1)])), ((Va 1), .inl (tc 0, 400, .inl (Vf 1))), ((Ta 0), .inr (10, [.ref (Ta 1), .int (Tv 0), .int sv_158, .int sv_159, .int sv_160, .int (Tv 4)])), ((Ta 1), .inl (tc 0, 400, .inl (Tf 1)))] H := hP₀
        replace hD : va_D A [((Va 0), .inr (7, [.ref (Va 1), .int (Vv 0), .int (Vv 1)])), ((Va 1), .inl (tc 0, 400, .inl (Vf 1))), ((Ta 0), .inr (10, [.ref (Ta 1), .int (Tv 0), .int sv_158, .int sv_159, .int sv_160, .int (Tv 4)])), ((Ta 1), .inl (tc 0, 400, .inl (Tf 1)))] := hD₀
        replace hS := hS₀
        clear hP₀ hD₀ hS₀
        refine lv_if_eq (tgt := 93) hx hb dX7_readFact_65 (by decide) (fun c_163 => ?_) (fun c_163 => ?_)
        · skip
          refine lv_aload_n hx hb dX7_readFact_93 rfl (lv_at hl 1 rfl) ?_
          refine lv_aload_n hx hb dX7_readFact_94 rfl (lv_at hl 2 rfl) ?_
          refine cV (a := (Va 0)) (As := [.ref (Ta 0)]) (rest := []) (wr := []) ⟨hx, hb, hml, hown, hts⟩ hK hX hA (cu_X7_readSum l D tc sk (Va 0) (Va 1) (Vv 0) (Vv 1) (Vf 1) (Ta 0) (Ta 1) (Tv 0) sv_158 sv_159 sv_160 (Tv 4) (Tf 1) he_162.2) k_624 k_621 k_623 k_7 k_99 pl_X7_readSum ⟨Nat.le_of_ble_eq_true rfl, Nat.le_of_ble_eq_true rfl⟩ rfl rfl (va_recv hK hP (ci := 7) (q0 := 0) rfl rfl) hP hD hS [0, 1, 2, 3] [] rfl rfl rfl rfl rfl (by decide) rfl hl.1 rfl (Nat.le_of_ble_eq_true rfl) dX7_readFact_95 ⟨Nat.le_of_ble_eq_true rfl, Nat.le_of_ble_eq_true rfl⟩ (fun v_164 u_165 H locs hv_166 hP₀ hD₀ hS₀ => ?_)
          obtain ⟨sv_167, sv_168, sv_169, sv_170, sv_171, sv_172, sv_173⟩ := u_165
          obtain ⟨rfl, he_174⟩ := hv_166
          clear he_162
          have he_174 : (0 ≤ ((Tv 0) : Int32).toInt ∧ ((Tv 0) : Int32).toInt ≤ 400 ∧ 0 ≤ (sv_170 : Int32).toInt ∧ (sv_170 : Int32).toInt ≤ 400 ∧ 0 ≤ (sv_171 : Int32).toInt ∧ (sv_171 : Int32).toInt ≤ 400) := he_174
          refine W.eq (g2 := F0 m 98 ls []) rfl ?_
          replace hP : va_P D classes [((Va 0), .inr (7, [.ref (Va 1), .int sv_167, .int sv_168])), ((Va 1), .inl (tc 0, 400, .inl sv_169)), ((Ta 0), .inr (10, [.ref (Ta 1), .int (Tv 0), .int sv_170, .int sv_171, .int sv_172, .int sv_173])), ((Ta 1), .inl (tc 0, 400, .inl (Tf 1)))] H := hP₀
          replace hD : va_D A [((Va 0), .inr (7, [.ref (Va 1), .int sv_167, .int sv_168])), ((Va 1), .inl (tc 0, 400, .inl sv_169)), ((Ta 0), .inr (10, [.ref (Ta 1), .int (Tv 0), .int sv_170, .int sv_171, .int sv_172, .int sv_173])), ((Ta 1), .inl (tc 0, 400, .inl (Tf 1)))] := hD₀
          replace hS := hS₀
          clear hP₀ hD₀ hS₀
          refine lv_aload_n hx hb dX7_readFact_98 rfl (lv_at hl 2 rfl) ?_
          refine cS (As := [.ref (Ta 0)]) (rest := []) (wr := [((Va 0), .inr (7, [.ref (Va 1), .int sv_167, .int sv_168])), ((Va 1), .inl (tc 0, 400, .inl sv_169))]) ⟨hx, hb, hml, hown, hts⟩ hK hX hA (cu_X7_comparison l D tc sk (Ta 0) (Ta 1) (Tv 0) sv_170 sv_171 sv_172 sv_173 (Tf 1) he_174) k_663 k_661 k_662 k_99 pl_X7_comparison ⟨Nat.le_of_ble_eq_true rfl, Nat.le_of_ble_eq_true rfl⟩ rfl rfl  hP hD hS [2, 3] [0, 1] rfl rfl rfl rfl rfl (by decide) rfl hl.1 rfl (Nat.le_of_ble_eq_true rfl) dX7_readFact_99 ⟨Nat.le_of_ble_eq_true rfl, Nat.le_of_ble_eq_true rfl⟩ (fun v_175 u_176 H locs hv_177 hP₀ hD₀ hS₀ => ?_)
          obtain ⟨r_178, rfl, he_179⟩ := hv_177
          clear he_174
          have he_179 : (True) ∧ (0 ≤ ((Tv 0) : Int32).toInt ∧ ((Tv 0) : Int32).toInt ≤ 400 ∧ 0 ≤ (sv_170 : Int32).toInt ∧ (sv_170 : Int32).toInt ≤ 400 ∧ 0 ≤ (sv_171 : Int32).toInt ∧ (sv_171 : Int32).toInt ≤ 400) := he_179
          refine W.eq (g2 := F0 m 102 ls [.int r_178]) rfl ?_
          replace hP : va_P D classes [((Va 0), .inr (7, [.ref (Va 1), .int sv_167, .int sv_168])), ((Va 1), .inl (tc 0, 400, .inl sv_169)), ((Ta 0), .inr (10, [.ref (Ta 1), .int (Tv 0), .int sv_170, .int sv_171, .int sv_172, .int sv_173])), ((Ta 1), .inl (tc 0, 400, .inl (Tf 1)))] H := hP₀
          replace hD : va_D A [((Va 0), .inr (7, [.ref (Va 1), .int sv_167, .int sv_168])), ((Va 1), .inl (tc 0, 400, .inl sv_169)), ((Ta 0), .inr (10, [.ref (Ta 1), .int (Tv 0), .int sv_170, .int sv_171, .int sv_172, .int sv_173])), ((Ta 1), .inl (tc 0, 400, .inl (Tf 1)))] := hD₀
          replace hS := hS₀
          clear hP₀ hD₀ hS₀
          refine lv_istore (lv' := [(4, .int r_178), (3, .int r_5), (0, .ref (Va 0)), (1, .ref (Ta 0)), (2, .int 4)]) hx hb dX7_readFact_102 hl (by decide) rfl (fun ls hl₀ => ?_)
          replace hl := hl₀
          clear hl₀
          refine lv_iload hx hb dX7_readFact_104 (lv_at hl 0 rfl) ?_
          refine lv_iconst (v := (-1)) hx hb dX7_readFact_106 (by decide) ?_
          refine lv_icmp_ne (tgt := 115) hx hb dX7_readFact_107 (by decide) (fun c_180 => ?_) (fun c_180 => ?_)
          · skip
            refine lv_aload_n hx hb dX7_readFact_115 rfl (lv_at hl 2 rfl) ?_
            refine lv_aload_n hx hb dX7_readFact_116 rfl (lv_at hl 3 rfl) ?_
            refine cV (a := (Va 0)) (As := [.ref (Ta 0)]) (rest := []) (wr := []) ⟨hx, hb, hml, hown, hts⟩ hK hX hA (cu_X7_countOne l D tc sk (Va 0) (Va 1) sv_167 sv_168 sv_169 (Ta 0) (Ta 1) (Tv 0) sv_170 sv_171 sv_172 sv_173 (Tf 1) he_179.2) k_638 k_635 k_637 k_9 k_99 pl_X7_countOne ⟨Nat.le_of_ble_eq_true rfl, Nat.le_of_ble_eq_true rfl⟩ rfl rfl (va_recv hK hP (ci := 7) (q0 := 0) rfl rfl) hP hD hS [0, 1, 2, 3] [] rfl rfl rfl rfl rfl (by decide) rfl hl.1 rfl (Nat.le_of_ble_eq_true rfl) dX7_readFact_117 ⟨Nat.le_of_ble_eq_true rfl, Nat.le_of_ble_eq_true rfl⟩ (fun v_181 u_182 H locs hv_183 hP₀ hD₀ hS₀ => ?_)
            obtain ⟨sv_184, sv_185, sv_186⟩ := u_182
            obtain ⟨rfl, he_187⟩ := hv_183
            clear he_179
            have he_187 : (0 ≤ ((Tv 0) : Int32).toInt ∧ ((Tv 0) : Int32).toInt ≤ 400 ∧ 0 ≤ (sv_170 : Int32).toInt ∧ (sv_170 : Int32).toInt ≤ 400 ∧ 0 ≤ (sv_171 : Int32).toInt ∧ (sv_171 : Int32).toInt ≤ 400) := he_187
            refine W.eq (g2 := F0 m 120 ls []) rfl ?_
            replace hP : va_P D classes [((Va 0), .inr (7, [.ref (Va 1), .int sv_167, .int sv_184])), ((Va 1), .inl (tc 0, 400, .inl sv_169)), ((Ta 0), .inr (10, [.ref (Ta 1), .int (Tv 0), .int sv_170, .int sv_171, .int sv_185, .int sv_186])), ((Ta 1), .inl (tc 0, 400, .inl (Tf 1)))] H := hP₀
            replace hD : va_D A [((Va 0), .inr (7, [.ref (Va 1), .int sv_167, .int sv_184])), ((Va 1), .inl (tc 0, 400, .inl sv_169)), ((Ta 0), .inr (10, [.ref (Ta 1), .int (Tv 0), .int sv_170, .int sv_171, .int sv_185, .int sv_186])), ((Ta 1), .inl (tc 0, 400, .inl (Tf 1)))] := hD₀
            replace hS := hS₀
            clear hP₀ hD₀ hS₀
            refine lv_aload_n hx hb dX7_readFact_120 rfl (lv_at hl 3 rfl) ?_
            refine cV (a := (Ta 0)) (As := []) (rest := []) (wr := [((Va 0), .inr (7, [.ref (Va 1), .int sv_167, .int sv_184])), ((Va 1), .inl (tc 0, 400, .inl sv_169))]) ⟨hx, hb, hml, hown, hts⟩ hK hX hA (cu_X10_step l D tc sk (Ta 0) (Ta 1) (Tv 0) sv_170 sv_171 sv_185 sv_186 (Tf 1) he_187) k_478 k_620 k_476 k_477 k_96 pl_X10_step ⟨Nat.le_of_ble_eq_true rfl, Nat.le_of_ble_eq_true rfl⟩ rfl rfl (va_recv hK hP (ci := 10) (q0 := 2) rfl rfl) hP hD hS [2, 3] [0, 1] rfl rfl rfl rfl rfl (by decide) rfl hl.1 rfl (Nat.le_of_ble_eq_true rfl) dX7_readFact_121 ⟨Nat.le_of_ble_eq_true rfl, Nat.le_of_ble_eq_true rfl⟩ (fun v_188 u_189 H locs hv_190 hP₀ hD₀ hS₀ => ?_)
            obtain ⟨sv_191, sv_192, sv_193⟩ := u_189
            obtain ⟨rfl, he_194⟩ := hv_190
            clear he_187
            have he_194 : (0 ≤ ((Tv 0) : Int32).toInt ∧ ((Tv 0) : Int32).toInt ≤ 400 ∧ 0 ≤ (sv_191 : Int32).toInt ∧ (sv_191 : Int32).toInt ≤ 400 ∧ 0 ≤ (sv_192 : Int32).toInt ∧ (sv_192 : Int32).toInt ≤ 400) := he_194
            refine W.eq (g2 := F0 m 124 ls []) rfl ?_
            replace hP : va_P D classes [((Va 0), .inr (7, [.ref (Va 1), .int sv_167, .int sv_184])), ((Va 1), .inl (tc 0, 400, .inl sv_169)), ((Ta 0), .inr (10, [.ref (Ta 1), .int (Tv 0), .int sv_191, .int sv_192, .int sv_193, .int sv_186])), ((Ta 1), .inl (tc 0, 400, .inl (Tf 1)))] H := hP₀
            replace hD : va_D A [((Va 0), .inr (7, [.ref (Va 1), .int sv_167, .int sv_184])), ((Va 1), .inl (tc 0, 400, .inl sv_169)), ((Ta 0), .inr (10, [.ref (Ta 1), .int (Tv 0), .int sv_191, .int sv_192, .int sv_193, .int sv_186])), ((Ta 1), .inl (tc 0, 400, .inl (Tf 1)))] := hD₀
            replace hS := hS₀
            clear hP₀ hD₀ hS₀
            refine lv_aload_n hx hb dX7_readFact_124 rfl (lv_at hl 2 rfl) ?_
            refine lv_aload_n hx hb dX7_readFact_125 rfl (lv_at hl 3 rfl) ?_
            refine cV (a := (Va 0)) (As := [.ref (Ta 0)]) (rest := []) (wr := []) ⟨hx, hb, hml, hown, hts⟩ hK hX hA (cu_X7_readSum l D tc sk (Va 0) (Va 1) sv_167 sv_184 sv_169 (Ta 0) (Ta 1) (Tv 0) sv_191 sv_192 sv_193 sv_186 (Tf 1) he_194) k_624 k_621 k_623 k_7 k_99 pl_X7_readSum ⟨Nat.le_of_ble_eq_true rfl, Nat.le_of_ble_eq_true rfl⟩ rfl rfl (va_recv hK hP (ci := 7) (q0 := 0) rfl rfl) hP hD hS [0, 1, 2, 3] [] rfl rfl rfl rfl rfl (by decide) rfl hl.1 rfl (Nat.le_of_ble_eq_true rfl) dX7_readFact_126 ⟨Nat.le_of_ble_eq_true rfl, Nat.le_of_ble_eq_true rfl⟩ (fun v_195 u_196 H locs hv_197 hP₀ hD₀ hS₀ => ?_)
            obtain ⟨sv_198, sv_199, sv_200, sv_201, sv_202, sv_203, sv_204⟩ := u_196
            obtain ⟨rfl, he_205⟩ := hv_197
            clear he_194
            have he_205 : (0 ≤ ((Tv 0) : Int32).toInt ∧ ((Tv 0) : Int32).toInt ≤ 400 ∧ 0 ≤ (sv_201 : Int32).toInt ∧ (sv_201 : Int32).toInt ≤ 400 ∧ 0 ≤ (sv_202 : Int32).toInt ∧ (sv_202 : Int32).toInt ≤ 400) := he_205
            refine W.eq (g2 := F0 m 129 ls []) rfl ?_
            replace hP : va_P D classes [((Va 0), .inr (7, [.ref (Va 1), .int sv_198, .int sv_199])), ((Va 1), .inl (tc 0, 400, .inl sv_200)), ((Ta 0), .inr (10, [.ref (Ta 1), .int (Tv 0), .int sv_201, .int sv_202, .int sv_203, .int sv_204])), ((Ta 1), .inl (tc 0, 400, .inl (Tf 1)))] H := hP₀
            replace hD : va_D A [((Va 0), .inr (7, [.ref (Va 1), .int sv_198, .int sv_199])), ((Va 1), .inl (tc 0, 400, .inl sv_200)), ((Ta 0), .inr (10, [.ref (Ta 1), .int (Tv 0), .int sv_201, .int sv_202, .int sv_203, .int sv_204])), ((Ta 1), .inl (tc 0, 400, .inl (Tf 1)))] := hD₀
            replace hS := hS₀
            clear hP₀ hD₀ hS₀
            refine lv_aload_n hx hb dX7_readFact_129 rfl (lv_at hl 2 rfl) ?_
            refine lv_iload hx hb dX7_readFact_130 (lv_at hl 0 rfl) ?_
            refine cV (a := (Va 0)) (As := [.int r_178]) (rest := []) (wr := [((Ta 0), .inr (10, [.ref (Ta 1), .int (Tv 0), .int sv_201, .int sv_202, .int sv_203, .int sv_204])), ((Ta 1), .inl (tc 0, 400, .inl (Tf 1)))]) ⟨hx, hb, hml, hown, hts⟩ hK hX hA (cu_X7_put l D tc sk (Va 0) (Va 1) sv_198 sv_199 sv_200 r_178) k_642 k_639 k_641 k_10 k_99 pl_X7_put ⟨Nat.le_of_ble_eq_true rfl, Nat.le_of_ble_eq_true rfl⟩ rfl rfl (va_recv hK hP (ci := 7) (q0 := 0) rfl rfl) hP hD hS [0, 1] [2, 3] rfl rfl rfl rfl rfl (by decide) rfl hl.1 rfl (Nat.le_of_ble_eq_true rfl) dX7_readFact_132 ⟨Nat.le_of_ble_eq_true rfl, Nat.le_of_ble_eq_true rfl⟩ (fun v_206 u_207 H locs hv_208 hP₀ hD₀ hS₀ => ?_)
            obtain ⟨sv_209, sv_210⟩ := u_207
            obtain rfl : v_206 = none := hv_208
            refine W.eq (g2 := F0 m 135 ls []) rfl ?_
            replace hP : va_P D classes [((Ta 0), .inr (10, [.ref (Ta 1), .int (Tv 0), .int sv_201, .int sv_202, .int sv_203, .int sv_204])), ((Ta 1), .inl (tc 0, 400, .inl (Tf 1))), ((Va 0), .inr (7, [.ref (Va 1), .int sv_209, .int sv_199])), ((Va 1), .inl (tc 0, 400, .inl sv_210))] H := hP₀
            replace hD : va_D A [((Ta 0), .inr (10, [.ref (Ta 1), .int (Tv 0), .int sv_201, .int sv_202, .int sv_203, .int sv_204])), ((Ta 1), .inl (tc 0, 400, .inl (Tf 1))), ((Va 0), .inr (7, [.ref (Va 1), .int sv_209, .int sv_199])), ((Va 1), .inl (tc 0, 400, .inl sv_210))] := hD₀
            replace hS := hS₀
            clear hP₀ hD₀ hS₀
            exact retV hx hb hr hlk hP hD hS (sv_209, sv_199, sv_210, sv_201, sv_202, sv_203, sv_204) ⟨rfl, he_205⟩ [2, 3, 0, 1] rfl rfl dX7_readFact_135 (Nat.le_of_ble_eq_true rfl) (Nat.le_of_ble_eq_true rfl) rfl
          · skip
            refine lv_aload_n hx hb dX7_readFact_110 rfl (lv_at hl 3 rfl) ?_
            refine lv_iconst (v := 0) hx hb dX7_readFact_111 (by decide) ?_
            refine cV (a := (Ta 0)) (As := [.int 0]) (rest := []) (wr := [((Va 0), .inr (7, [.ref (Va 1), .int sv_167, .int sv_168])), ((Va 1), .inl (tc 0, 400, .inl sv_169))]) ⟨hx, hb, hml, hown, hts⟩ hK hX hA (cu_X10_fail l D tc sk (Ta 0) (Ta 1) (Tv 0) sv_170 sv_171 sv_172 sv_173 (Tf 1) 0 he_179.2) k_557 k_619 k_555 k_556 k_96 pl_X10_fail ⟨Nat.le_of_ble_eq_true rfl, Nat.le_of_ble_eq_true rfl⟩ rfl rfl (va_recv hK hP (ci := 10) (q0 := 2) rfl rfl) hP hD hS [2, 3] [0, 1] rfl rfl rfl rfl rfl (by decide) rfl hl.1 rfl (Nat.le_of_ble_eq_true rfl) dX7_readFact_112 ⟨Nat.le_of_ble_eq_true rfl, Nat.le_of_ble_eq_true rfl⟩ (fun v_211 u_212 H locs hv_213 hP₀ hD₀ hS₀ => ?_)
            obtain ⟨sv_214, sv_215⟩ := u_212
            obtain ⟨rfl, he_216⟩ := hv_213
            clear he_179
            have he_216 : (0 ≤ ((Tv 0) : Int32).toInt ∧ ((Tv 0) : Int32).toInt ≤ 400 ∧ 0 ≤ (sv_170 : Int32).toInt ∧ (sv_170 : Int32).toInt ≤ 400 ∧ 0 ≤ (sv_171 : Int32).toInt ∧ (sv_171 : Int32).toInt ≤ 400) := he_216
            refine W.eq (g2 := F0 m 115 ls []) rfl ?_
            replace hP : va_P D classes [((Va 0), .inr (7, [.ref (Va 1), .int sv_167, .int sv_168])), ((Va 1), .inl (tc 0, 400, .inl sv_169)), ((Ta 0), .inr (10, [.ref (Ta 1), .int (Tv 0), .int sv_170, .int sv_171, .int sv_214, .int sv_215])), ((Ta 1), .inl (tc 0, 400, .inl (Tf 1)))] H := hP₀
            replace hD : va_D A [((Va 0), .inr (7, [.ref (Va 1), .int sv_167, .int sv_168])), ((Va 1), .inl (tc 0, 400, .inl sv_169)), ((Ta 0), .inr (10, [.ref (Ta 1), .int (Tv 0), .int sv_170, .int sv_171, .int sv_214, .int sv_215])), ((Ta 1), .inl (tc 0, 400, .inl (Tf 1)))] := hD₀
            replace hS := hS₀
            clear hP₀ hD₀ hS₀
            refine lv_aload_n hx hb dX7_readFact_115 rfl (lv_at hl 2 rfl) ?_
            refine lv_aload_n hx hb dX7_readFact_116 rfl (lv_at hl 3 rfl) ?_
            refine cV (a := (Va 0)) (As := [.ref (Ta 0)]) (rest := []) (wr := []) ⟨hx, hb, hml, hown, hts⟩ hK hX hA (cu_X7_countOne l D tc sk (Va 0) (Va 1) sv_167 sv_168 sv_169 (Ta 0) (Ta 1) (Tv 0) sv_170 sv_171 sv_214 sv_215 (Tf 1) he_216) k_638 k_635 k_637 k_9 k_99 pl_X7_countOne ⟨Nat.le_of_ble_eq_true rfl, Nat.le_of_ble_eq_true rfl⟩ rfl rfl (va_recv hK hP (ci := 7) (q0 := 0) rfl rfl) hP hD hS [0, 1, 2, 3] [] rfl rfl rfl rfl rfl (by decide) rfl hl.1 rfl (Nat.le_of_ble_eq_true rfl) dX7_readFact_117 ⟨Nat.le_of_ble_eq_true rfl, Nat.le_of_ble_eq_true rfl⟩ (fun v_217 u_218 H locs hv_219 hP₀ hD₀ hS₀ => ?_)
            obtain ⟨sv_220, sv_221, sv_222⟩ := u_218
            obtain ⟨rfl, he_223⟩ := hv_219
            clear he_216
            have he_223 : (0 ≤ ((Tv 0) : Int32).toInt ∧ ((Tv 0) : Int32).toInt ≤ 400 ∧ 0 ≤ (sv_170 : Int32).toInt ∧ (sv_170 : Int32).toInt ≤ 400 ∧ 0 ≤ (sv_171 : Int32).toInt ∧ (sv_171 : Int32).toInt ≤ 400) := he_223
            refine W.eq (g2 := F0 m 120 ls []) rfl ?_
            replace hP : va_P D classes [((Va 0), .inr (7, [.ref (Va 1), .int sv_167, .int sv_220])), ((Va 1), .inl (tc 0, 400, .inl sv_169)), ((Ta 0), .inr (10, [.ref (Ta 1), .int (Tv 0), .int sv_170, .int sv_171, .int sv_221, .int sv_222])), ((Ta 1), .inl (tc 0, 400, .inl (Tf 1)))] H := hP₀
            replace hD : va_D A [((Va 0), .inr (7, [.ref (Va 1), .int sv_167, .int sv_220])), ((Va 1), .inl (tc 0, 400, .inl sv_169)), ((Ta 0), .inr (10, [.ref (Ta 1), .int (Tv 0), .int sv_170, .int sv_171, .int sv_221, .int sv_222])), ((Ta 1), .inl (tc 0, 400, .inl (Tf 1)))] := hD₀
            replace hS := hS₀
            clear hP₀ hD₀ hS₀
            refine lv_aload_n hx hb dX7_readFact_120 rfl (lv_at hl 3 rfl) ?_
            refine cV (a := (Ta 0)) (As := []) (rest := []) (wr := [((Va 0), .inr (7, [.ref (Va 1), .int sv_167, .int sv_220])), ((Va 1), .inl (tc 0, 400, .inl sv_169))]) ⟨hx, hb, hml, hown, hts⟩ hK hX hA (cu_X10_step l D tc sk (Ta 0) (Ta 1) (Tv 0) sv_170 sv_171 sv_221 sv_222 (Tf 1) he_223) k_478 k_620 k_476 k_477 k_96 pl_X10_step ⟨Nat.le_of_ble_eq_true rfl, Nat.le_of_ble_eq_true rfl⟩ rfl rfl (va_recv hK hP (ci := 10) (q0 := 2) rfl rfl) hP hD hS [2, 3] [0, 1] rfl rfl rfl rfl rfl (by decide) rfl hl.1 rfl (Nat.le_of_ble_eq_true rfl) dX7_readFact_121 ⟨Nat.le_of_ble_eq_true rfl, Nat.le_of_ble_eq_true rfl⟩ (fun v_224 u_225 H locs hv_226 hP₀ hD₀ hS₀ => ?_)
            obtain ⟨sv_227, sv_228, sv_229⟩ := u_225
            obtain ⟨rfl, he_230⟩ := hv_226
            clear he_223
            have he_230 : (0 ≤ ((Tv 0) : Int32).toInt ∧ ((Tv 0) : Int32).toInt ≤ 400 ∧ 0 ≤ (sv_227 : Int32).toInt ∧ (sv_227 : Int32).toInt ≤ 400 ∧ 0 ≤ (sv_228 : Int32).toInt ∧ (sv_228 : Int32).toInt ≤ 400) := he_230
            refine W.eq (g2 := F0 m 124 ls []) rfl ?_
            replace hP : va_P D classes [((Va 0), .inr (7, [.ref (Va 1), .int sv_167, .int sv_220])), ((Va 1), .inl (tc 0, 400, .inl sv_169)), ((Ta 0), .inr (10, [.ref (Ta 1), .int (Tv 0), .int sv_227, .int sv_228, .int sv_229, .int sv_222])), ((Ta 1), .inl (tc 0, 400, .inl (Tf 1)))] H := hP₀
            replace hD : va_D A [((Va 0), .inr (7, [.ref (Va 1), .int sv_167, .int sv_220])), ((Va 1), .inl (tc 0, 400, .inl sv_169)), ((Ta 0), .inr (10, [.ref (Ta 1), .int (Tv 0), .int sv_227, .int sv_228, .int sv_229, .int sv_222])), ((Ta 1), .inl (tc 0, 400, .inl (Tf 1)))] := hD₀
            replace hS := hS₀
            clear hP₀ hD₀ hS₀
            refine lv_aload_n hx hb dX7_readFact_124 rfl (lv_at hl 2 rfl) ?_
            refine lv_aload_n hx hb dX7_readFact_125 rfl (lv_at hl 3 rfl) ?_
            refine cV (a := (Va 0)) (As := [.ref (Ta 0)]) (rest := []) (wr := []) ⟨hx, hb, hml, hown, hts⟩ hK hX hA (cu_X7_readSum l D tc sk (Va 0) (Va 1) sv_167 sv_220 sv_169 (Ta 0) (Ta 1) (Tv 0) sv_227 sv_228 sv_229 sv_222 (Tf 1) he_230) k_624 k_621 k_623 k_7 k_99 pl_X7_readSum ⟨Nat.le_of_ble_eq_true rfl, Nat.le_of_ble_eq_true rfl⟩ rfl rfl (va_recv hK hP (ci := 7) (q0 := 0) rfl rfl) hP hD hS [0, 1, 2, 3] [] rfl rfl rfl rfl rfl (by decide) rfl hl.1 rfl (Nat.le_of_ble_eq_true rfl) dX7_readFact_126 ⟨Nat.le_of_ble_eq_true rfl, Nat.le_of_ble_eq_true rfl⟩ (fun v_231 u_232 H locs hv_233 hP₀ hD₀ hS₀ => ?_)
            obtain ⟨sv_234, sv_235, sv_236, sv_237, sv_238, sv_239, sv_240⟩ := u_232
            obtain ⟨rfl, he_241⟩ := hv_233
            clear he_230
            have he_241 : (0 ≤ ((Tv 0) : Int32).toInt ∧ ((Tv 0) : Int32).toInt ≤ 400 ∧ 0 ≤ (sv_237 : Int32).toInt ∧ (sv_237 : Int32).toInt ≤ 400 ∧ 0 ≤ (sv_238 : Int32).toInt ∧ (sv_238 : Int32).toInt ≤ 400) := he_241
            refine W.eq (g2 := F0 m 129 ls []) rfl ?_
            replace hP : va_P D classes [((Va 0), .inr (7, [.ref (Va 1), .int sv_234, .int sv_235])), ((Va 1), .inl (tc 0, 400, .inl sv_236)), ((Ta 0), .inr (10, [.ref (Ta 1), .int (Tv 0), .int sv_237, .int sv_238, .int sv_239, .int sv_240])), ((Ta 1), .inl (tc 0, 400, .inl (Tf 1)))] H := hP₀
            replace hD : va_D A [((Va 0), .inr (7, [.ref (Va 1), .int sv_234, .int sv_235])), ((Va 1), .inl (tc 0, 400, .inl sv_236)), ((Ta 0), .inr (10, [.ref (Ta 1), .int (Tv 0), .int sv_237, .int sv_238, .int sv_239, .int sv_240])), ((Ta 1), .inl (tc 0, 400, .inl (Tf 1)))] := hD₀
            replace hS := hS₀
            clear hP₀ hD₀ hS₀
            refine lv_aload_n hx hb dX7_readFact_129 rfl (lv_at hl 2 rfl) ?_
            refine lv_iload hx hb dX7_readFact_130 (lv_at hl 0 rfl) ?_
            refine cV (a := (Va 0)) (As := [.int r_178]) (rest := []) (wr := [((Ta 0), .inr (10, [.ref (Ta 1), .int (Tv 0), .int sv_237, .int sv_238, .int sv_239, .int sv_240])), ((Ta 1), .inl (tc 0, 400, .inl (Tf 1)))]) ⟨hx, hb, hml, hown, hts⟩ hK hX hA (cu_X7_put l D tc sk (Va 0) (Va 1) sv_234 sv_235 sv_236 r_178) k_642 k_639 k_641 k_10 k_99 pl_X7_put ⟨Nat.le_of_ble_eq_true rfl, Nat.le_of_ble_eq_true rfl⟩ rfl rfl (va_recv hK hP (ci := 7) (q0 := 0) rfl rfl) hP hD hS [0, 1] [2, 3] rfl rfl rfl rfl rfl (by decide) rfl hl.1 rfl (Nat.le_of_ble_eq_true rfl) dX7_readFact_132 ⟨Nat.le_of_ble_eq_true rfl, Nat.le_of_ble_eq_true rfl⟩ (fun v_242 u_243 H locs hv_244 hP₀ hD₀ hS₀ => ?_)
            obtain ⟨sv_245, sv_246⟩ := u_243
            obtain rfl : v_242 = none := hv_244
            refine W.eq (g2 := F0 m 135 ls []) rfl ?_
            replace hP : va_P D classes [((Ta 0), .inr (10, [.ref (Ta 1), .int (Tv 0), .int sv_237, .int sv_238, .int sv_239, .int sv_240])), ((Ta 1), .inl (tc 0, 400, .inl (Tf 1))), ((Va 0), .inr (7, [.ref (Va 1), .int sv_245, .int sv_235])), ((Va 1), .inl (tc 0, 400, .inl sv_246))] H := hP₀
            replace hD : va_D A [((Ta 0), .inr (10, [.ref (Ta 1), .int (Tv 0), .int sv_237, .int sv_238, .int sv_239, .int sv_240])), ((Ta 1), .inl (tc 0, 400, .inl (Tf 1))), ((Va 0), .inr (7, [.ref (Va 1), .int sv_245, .int sv_235])), ((Va 1), .inl (tc 0, 400, .inl sv_246))] := hD₀
            replace hS := hS₀
            clear hP₀ hD₀ hS₀
            exact retV hx hb hr hlk hP hD hS (sv_245, sv_235, sv_246, sv_237, sv_238, sv_239, sv_240) ⟨rfl, he_241⟩ [2, 3, 0, 1] rfl rfl dX7_readFact_135 (Nat.le_of_ble_eq_true rfl) (Nat.le_of_ble_eq_true rfl) rfl
        · skip
          refine lv_aload_n hx hb dX7_readFact_68 rfl (lv_at hl 1 rfl) ?_
          refine lv_aload_n hx hb dX7_readFact_69 rfl (lv_at hl 2 rfl) ?_
          refine lv_iload_n hx hb dX7_readFact_70 rfl (lv_at hl 3 rfl) ?_
          refine lv_iconst (v := 1) hx hb dX7_readFact_71 (by decide) ?_
          refine lv_iadd hx hb dX7_readFact_72 ?_
          refine lv_lit (v := 5) (by decide) ?_
          refine cV (a := (Va 0)) (As := [.ref (Ta 0), .int 5]) (rest := []) (wr := []) ⟨hx, hb, hml, hown, hts⟩ hK hX hA (cu_X7_readTest_5 l D tc sk (Va 0) (Va 1) (Vv 0) (Vv 1) (Vf 1) (Ta 0) (Ta 1) (Tv 0) sv_158 sv_159 sv_160 (Tv 4) (Tf 1) he_162.2) k_655 k_652 k_654 k_11 k_99 pl_X7_readTest ⟨Nat.le_of_ble_eq_true rfl, Nat.le_of_ble_eq_true rfl⟩ rfl rfl (va_recv hK hP (ci := 7) (q0 := 0) rfl rfl) hP hD hS [0, 1, 2, 3] [] rfl rfl rfl rfl rfl (by decide) rfl hl.1 rfl (Nat.le_of_ble_eq_true rfl) dX7_readFact_73 ⟨Nat.le_of_ble_eq_true rfl, Nat.le_of_ble_eq_true rfl⟩ (fun v_247 u_248 H locs hv_249 hP₀ hD₀ hS₀ => ?_)
          obtain ⟨sv_250, sv_251, sv_252, sv_253, sv_254, sv_255, sv_256⟩ := u_248
          obtain ⟨rfl, he_257⟩ := hv_249
          clear he_162
          have he_257 : (0 ≤ ((Tv 0) : Int32).toInt ∧ ((Tv 0) : Int32).toInt ≤ 400 ∧ 0 ≤ (sv_253 : Int32).toInt ∧ (sv_253 : Int32).toInt ≤ 400 ∧ 0 ≤ (sv_254 : Int32).toInt ∧ (sv_254 : Int32).toInt ≤ 400) := he_257
          refine W.eq (g2 := F0 m 76 ls []) rfl ?_
          replace hP : va_P D classes [((Va 0), .inr (7, [.ref (Va 1), .int sv_250, .int sv_251])), ((Va 1), .inl (tc 0, 400, .inl sv_252)), ((Ta 0), .inr (10, [.ref (Ta 1), .int (Tv 0), .int sv_253, .int sv_254, .int sv_255, .int sv_256])), ((Ta 1), .inl (tc 0, 400, .inl (Tf 1)))] H := hP₀
          replace hD : va_D A [((Va 0), .inr (7, [.ref (Va 1), .int sv_250, .int sv_251])), ((Va 1), .inl (tc 0, 400, .inl sv_252)), ((Ta 0), .inr (10, [.ref (Ta 1), .int (Tv 0), .int sv_253, .int sv_254, .int sv_255, .int sv_256])), ((Ta 1), .inl (tc 0, 400, .inl (Tf 1)))] := hD₀
          replace hS := hS₀
          clear hP₀ hD₀ hS₀
          refine lv_aload_n hx hb dX7_readFact_76 rfl (lv_at hl 2 rfl) ?_
          refine lv_bipush (v := 93) hx hb dX7_readFact_77 (by decide) ?_
          refine cV (a := (Ta 0)) (As := [.int 93]) (rest := []) (wr := [((Va 0), .inr (7, [.ref (Va 1), .int sv_250, .int sv_251])), ((Va 1), .inl (tc 0, 400, .inl sv_252))]) ⟨hx, hb, hml, hown, hts⟩ hK hX hA (cu_X10_takes l D tc sk (Ta 0) (Ta 1) (Tv 0) sv_253 sv_254 sv_255 sv_256 (Tf 1) 93 he_257) k_492 k_613 k_490 k_491 k_96 pl_X10_takes ⟨Nat.le_of_ble_eq_true rfl, Nat.le_of_ble_eq_true rfl⟩ rfl rfl (va_recv hK hP (ci := 10) (q0 := 2) rfl rfl) hP hD hS [2, 3] [0, 1] rfl rfl rfl rfl rfl (by decide) rfl hl.1 rfl (Nat.le_of_ble_eq_true rfl) dX7_readFact_79 ⟨Nat.le_of_ble_eq_true rfl, Nat.le_of_ble_eq_true rfl⟩ (fun v_258 u_259 H locs hv_260 hP₀ hD₀ hS₀ => ?_)
          obtain ⟨sv_261, sv_262, sv_263⟩ := u_259
          obtain ⟨r_264, rfl, he_265⟩ := hv_260
          clear he_257
          have he_265 : ((r_264.toInt = 0 ∨ (r_264.toInt = 1 ∧ sv_255.toInt = (93 : Int32).toInt))) ∧ (0 ≤ ((Tv 0) : Int32).toInt ∧ ((Tv 0) : Int32).toInt ≤ 400 ∧ 0 ≤ (sv_261 : Int32).toInt ∧ (sv_261 : Int32).toInt ≤ 400 ∧ 0 ≤ (sv_262 : Int32).toInt ∧ (sv_262 : Int32).toInt ≤ 400) := he_265
          refine W.eq (g2 := F0 m 82 ls [.int r_264]) rfl ?_
          replace hP : va_P D classes [((Va 0), .inr (7, [.ref (Va 1), .int sv_250, .int sv_251])), ((Va 1), .inl (tc 0, 400, .inl sv_252)), ((Ta 0), .inr (10, [.ref (Ta 1), .int (Tv 0), .int sv_261, .int sv_262, .int sv_263, .int sv_256])), ((Ta 1), .inl (tc 0, 400, .inl (Tf 1)))] H := hP₀
          replace hD : va_D A [((Va 0), .inr (7, [.ref (Va 1), .int sv_250, .int sv_251])), ((Va 1), .inl (tc 0, 400, .inl sv_252)), ((Ta 0), .inr (10, [.ref (Ta 1), .int (Tv 0), .int sv_261, .int sv_262, .int sv_263, .int sv_256])), ((Ta 1), .inl (tc 0, 400, .inl (Tf 1)))] := hD₀
          replace hS := hS₀
          clear hP₀ hD₀ hS₀
          refine lv_if_ne (tgt := 135) hx hb dX7_readFact_82 (by decide) (fun c_266 => ?_) (fun c_266 => ?_)
          · skip
            exact retV hx hb hr hlk hP hD hS (sv_250, sv_251, sv_252, sv_261, sv_262, sv_263, sv_256) ⟨rfl, he_265.2⟩ [0, 1, 2, 3] rfl rfl dX7_readFact_135 (Nat.le_of_ble_eq_true rfl) (Nat.le_of_ble_eq_true rfl) rfl
          · skip
            refine lv_aload_n hx hb dX7_readFact_85 rfl (lv_at hl 2 rfl) ?_
            refine lv_iconst (v := 0) hx hb dX7_readFact_86 (by decide) ?_
            refine cV (a := (Ta 0)) (As := [.int 0]) (rest := []) (wr := [((Va 0), .inr (7, [.ref (Va 1), .int sv_250, .int sv_251])), ((Va 1), .inl (tc 0, 400, .inl sv_252))]) ⟨hx, hb, hml, hown, hts⟩ hK hX hA (cu_X10_fail l D tc sk (Ta 0) (Ta 1) (Tv 0) sv_261 sv_262 sv_263 sv_256 (Tf 1) 0 he_265.2) k_557 k_619 k_555 k_556 k_96 pl_X10_fail ⟨Nat.le_of_ble_eq_true rfl, Nat.le_of_ble_eq_true rfl⟩ rfl rfl (va_recv hK hP (ci := 10) (q0 := 2) rfl rfl) hP hD hS [2, 3] [0, 1] rfl rfl rfl rfl rfl (by decide) rfl hl.1 rfl (Nat.le_of_ble_eq_true rfl) dX7_readFact_87 ⟨Nat.le_of_ble_eq_true rfl, Nat.le_of_ble_eq_true rfl⟩ (fun v_267 u_268 H locs hv_269 hP₀ hD₀ hS₀ => ?_)
            obtain ⟨sv_270, sv_271⟩ := u_268
            obtain ⟨rfl, he_272⟩ := hv_269
            clear he_265
            have he_272 : (0 ≤ ((Tv 0) : Int32).toInt ∧ ((Tv 0) : Int32).toInt ≤ 400 ∧ 0 ≤ (sv_261 : Int32).toInt ∧ (sv_261 : Int32).toInt ≤ 400 ∧ 0 ≤ (sv_262 : Int32).toInt ∧ (sv_262 : Int32).toInt ≤ 400) := he_272
            refine W.eq (g2 := F0 m 90 ls []) rfl ?_
            replace hP : va_P D classes [((Va 0), .inr (7, [.ref (Va 1), .int sv_250, .int sv_251])), ((Va 1), .inl (tc 0, 400, .inl sv_252)), ((Ta 0), .inr (10, [.ref (Ta 1), .int (Tv 0), .int sv_261, .int sv_262, .int sv_270, .int sv_271])), ((Ta 1), .inl (tc 0, 400, .inl (Tf 1)))] H := hP₀
            replace hD : va_D A [((Va 0), .inr (7, [.ref (Va 1), .int sv_250, .int sv_251])), ((Va 1), .inl (tc 0, 400, .inl sv_252)), ((Ta 0), .inr (10, [.ref (Ta 1), .int (Tv 0), .int sv_261, .int sv_262, .int sv_270, .int sv_271])), ((Ta 1), .inl (tc 0, 400, .inl (Tf 1)))] := hD₀
            replace hS := hS₀
            clear hP₀ hD₀ hS₀
            refine lv_goto (tgt := 135) hx hb dX7_readFact_90 (by decide) ?_
            exact retV hx hb hr hlk hP hD hS (sv_250, sv_251, sv_252, sv_261, sv_262, sv_270, sv_271) ⟨rfl, he_272⟩ [0, 1, 2, 3] rfl rfl dX7_readFact_135 (Nat.le_of_ble_eq_true rfl) (Nat.le_of_ble_eq_true rfl) rfl
      · skip
        exfalso
        have z_1 := congrArg Int32.toInt c_7
        have z_2 := congrArg Int32.toInt c_33
        have z_3 : ¬ (r_5 : Int32).toInt = (0 : Int32).toInt := fun z => c_154 (Int32.toInt_inj.mp z)
        have y_0 : (0 : Int32).toInt = 0 := by decide
        have y_91 : (91 : Int32).toInt = 91 := by decide
        omega
set_option maxRecDepth 100000 in
theorem cu_X7_readFact_4 (l : Launch) (D : va_G) (tc : Nat → ClassId) (sk : (Nat → Nat) × (Nat → Nat)) (Va_0 : Nat) (Va_1 : Nat) (Vv_0 : Int32) (Vv_1 : Int32) (Vf_1 : Nat → Int32) (Ta_0 : Nat) (Ta_1 : Nat) (Tv_0 : Int32) (Tv_1 : Int32) (Tv_2 : Int32) (Tv_3 : Int32) (Tv_4 : Int32) (Tf_1 : Nat → Int32) (h_tape : 0 ≤ (Tv_0 : Int32).toInt ∧ (Tv_0 : Int32).toInt ≤ 400 ∧ 0 ≤ (Tv_1 : Int32).toInt ∧ (Tv_1 : Int32).toInt ≤ 400 ∧ 0 ≤ (Tv_2 : Int32).toInt ∧ (Tv_2 : Int32).toInt ≤ 400) : Ct l yX7_readFact cX7_readFact 5 none { frames := 20, cells := 0, slots := 0, locals := 474 } D tc sk [.ref Va_0, .ref Ta_0, .int 4] [(Va_0, .inr (7, [.ref Va_1, .int Vv_0, .int Vv_1])), (Va_1, .inl (tc 0, 400, .inl Vf_1)), (Ta_0, .inr (10, [.ref Ta_1, .int Tv_0, .int Tv_1, .int Tv_2, .int Tv_3, .int Tv_4])), (Ta_1, .inl (tc 0, 400, .inl Tf_1))] (fun (v : Option Value) (u : (Int32) × (Int32) × (Nat → Int32) × (Int32) × (Int32) × (Int32) × (Int32)) => match u with | (o1, o2, o3, o4, o5, o6, o7) => v = none ∧ (0 ≤ (Tv_0 : Int32).toInt ∧ (Tv_0 : Int32).toInt ≤ 400 ∧ 0 ≤ (o4 : Int32).toInt ∧ (o4 : Int32).toInt ≤ 400 ∧ 0 ≤ (o5 : Int32).toInt ∧ (o5 : Int32).toInt ≤ 400)) (fun (u : (Int32) × (Int32) × (Nat → Int32) × (Int32) × (Int32) × (Int32) × (Int32)) => match u with | (o1, o2, o3, o4, o5, o6, o7) => [(Va_0, .inr (7, [.ref Va_1, .int o1, .int o2])), (Va_1, .inl (tc 0, 400, .inl o3)), (Ta_0, .inr (10, [.ref Ta_1, .int Tv_0, .int o4, .int o5, .int o6, .int o7])), (Ta_1, .inl (tc 0, 400, .inl Tf_1))]) 0 0 :=
  ct_X7_readFact_4 l D tc sk (fun k => ([Va_0, Va_1] : List (Nat)).getD k 0) (fun k => ([Vv_0, Vv_1] : List (Int32)).getD k 0) (fun k => ([(fun _ => 0), Vf_1] : List (Nat → Int32)).getD k (fun _ => 0)) (fun k => ([Ta_0, Ta_1] : List (Nat)).getD k 0) (fun k => ([Tv_0, Tv_1, Tv_2, Tv_3, Tv_4] : List (Int32)).getD k 0) (fun k => ([(fun _ => 0), Tf_1] : List (Nat → Int32)).getD k (fun _ => 0)) h_tape
set_option maxHeartbeats 4000000 in
set_option maxRecDepth 100000 in
theorem ct_X7_readTest_4 (l : Launch) (D : va_G) (tc : Nat → ClassId) (sk : (Nat → Nat) × (Nat → Nat)) (Va : Nat → Nat) (Vv : Nat → Int32) (Vf : Nat → Nat → Int32) (Ta : Nat → Nat) (Tv : Nat → Int32) (Tf : Nat → Nat → Int32) (h_tape : 0 ≤ ((Tv 0) : Int32).toInt ∧ ((Tv 0) : Int32).toInt ≤ 400 ∧ 0 ≤ ((Tv 1) : Int32).toInt ∧ ((Tv 1) : Int32).toInt ≤ 400 ∧ 0 ≤ ((Tv 2) : Int32).toInt ∧ ((Tv 2) : Int32).toInt ≤ 400) : Ct l yX7_readTest cX7_readTest 6 none { frames := 21, cells := 0, slots := 0, locals := 498 } D tc sk [.ref (Va 0), .ref (Ta 0), .int 4] [((Va 0), .inr (7, [.ref (Va 1), .int (Vv 0), .int (Vv 1)])), ((Va 1), .inl (tc 0, 400, .inl (Vf 1))), ((Ta 0), .inr (10, [.ref (Ta 1), .int (Tv 0), .int (Tv 1), .int (Tv 2), .int (Tv 3), .int (Tv 4)])), ((Ta 1), .inl (tc 0, 400, .inl (Tf 1)))] (fun (v : Option Value) (u : (Int32) × (Int32) × (Nat → Int32) × (Int32) × (Int32) × (Int32) × (Int32)) => match u with | (o1, o2, o3, o4, o5, o6, o7) => v = none ∧ (0 ≤ ((Tv 0) : Int32).toInt ∧ ((Tv 0) : Int32).toInt ≤ 400 ∧ 0 ≤ (o4 : Int32).toInt ∧ (o4 : Int32).toInt ≤ 400 ∧ 0 ≤ (o5 : Int32).toInt ∧ (o5 : Int32).toInt ≤ 400)) (fun (u : (Int32) × (Int32) × (Nat → Int32) × (Int32) × (Int32) × (Int32) × (Int32)) => match u with | (o1, o2, o3, o4, o5, o6, o7) => [((Va 0), .inr (7, [.ref (Va 1), .int o1, .int o2])), ((Va 1), .inl (tc 0, 400, .inl o3)), ((Ta 0), .inr (10, [.ref (Ta 1), .int (Tv 0), .int o4, .int o5, .int o6, .int o7])), ((Ta 1), .inl (tc 0, 400, .inl (Tf 1)))]) 0 0 := by
  refine Ct.start (by decide) (Nat.le_of_ble_eq_true rfl) (fun p e s m below meth c A ls hx hb hr hlk hin hml hown hts hK hX hP hD hA hl hS => ?_)
  have hl : lv_has ls 6 [(0, .ref (Va 0)), (1, .ref (Ta 0)), (2, .int 4)] := hl
  refine lv_aload_n hx hb dX7_readTest_0 rfl (lv_at hl 0 rfl) ?_
  refine lv_aload_n hx hb dX7_readTest_1 rfl (lv_at hl 1 rfl) ?_
  refine lv_iload_n hx hb dX7_readTest_2 rfl (lv_at hl 2 rfl) ?_
  refine cV (a := (Va 0)) (As := [.ref (Ta 0), .int 4]) (rest := []) (wr := []) ⟨hx, hb, hml, hown, hts⟩ hK hX hA (cu_X7_readFact_4 l D tc sk (Va 0) (Va 1) (Vv 0) (Vv 1) (Vf 1) (Ta 0) (Ta 1) (Tv 0) (Tv 1) (Tv 2) (Tv 3) (Tv 4) (Tf 1) h_tape) k_659 k_656 k_658 k_12 k_99 pl_X7_readFact ⟨Nat.le_of_ble_eq_true rfl, Nat.le_of_ble_eq_true rfl⟩ rfl rfl (va_recv hK hP (ci := 7) (q0 := 0) rfl rfl) hP hD hS [0, 1, 2, 3] [] rfl rfl rfl rfl rfl (by decide) rfl hl.1 rfl (Nat.le_of_ble_eq_true rfl) dX7_readTest_3 ⟨Nat.le_of_ble_eq_true rfl, Nat.le_of_ble_eq_true rfl⟩ (fun v_1 u_2 H locs hv_3 hP₀ hD₀ hS₀ => ?_)
  obtain ⟨sv_4, sv_5, sv_6, sv_7, sv_8, sv_9, sv_10⟩ := u_2
  obtain ⟨rfl, he_11⟩ := hv_3
  have he_11 : (0 ≤ ((Tv 0) : Int32).toInt ∧ ((Tv 0) : Int32).toInt ≤ 400 ∧ 0 ≤ (sv_7 : Int32).toInt ∧ (sv_7 : Int32).toInt ≤ 400 ∧ 0 ≤ (sv_8 : Int32).toInt ∧ (sv_8 : Int32).toInt ≤ 400) := he_11
  refine W.eq (g2 := F0 m 6 ls []) rfl ?_
  replace hP : va_P D classes [((Va 0), .inr (7, [.ref (Va 1), .int sv_4, .int sv_5])), ((Va 1), .inl (tc 0, 400, .inl sv_6)), ((Ta 0), .inr (10, [.ref (Ta 1), .int (Tv 0), .int sv_7, .int sv_8, .int sv_9, .int sv_10])), ((Ta 1), .inl (tc 0, 400, .inl (Tf 1)))] H := hP₀
  replace hD : va_D A [((Va 0), .inr (7, [.ref (Va 1), .int sv_4, .int sv_5])), ((Va 1), .inl (tc 0, 400, .inl sv_6)), ((Ta 0), .inr (10, [.ref (Ta 1), .int (Tv 0), .int sv_7, .int sv_8, .int sv_9, .int sv_10])), ((Ta 1), .inl (tc 0, 400, .inl (Tf 1)))] := hD₀
  replace hS := hS₀
  clear hP₀ hD₀ hS₀
  refine lv_iconst (v := 0) hx hb dX7_readTest_6 (by decide) ?_
  refine lv_istore_n (lv' := [(3, .int 0), (0, .ref (Va 0)), (1, .ref (Ta 0)), (2, .int 4)]) hx hb dX7_readTest_7 rfl hl (by decide) rfl (fun ls hl₀ => ?_)
  replace hl := hl₀
  clear hl₀
  refine lv_iconst (v := 0) hx hb dX7_readTest_8 (by decide) ?_
  refine lv_istore (lv' := [(4, .int 0), (3, .int 0), (0, .ref (Va 0)), (1, .ref (Ta 0)), (2, .int 4)]) hx hb dX7_readTest_9 hl (by decide) rfl (fun ls hl₀ => ?_)
  replace hl := hl₀
  clear hl₀
  have loop_33 : ∀ (n_31 : Nat) (vy_22 : Int32) (vy_23 : Int32) (vy_24 : Int32) (vy_25 : Nat → Int32) (vy_26 : Int32) (vy_27 : Int32) (vy_28 : Int32) (vy_29 : Int32) (vy_30 : Int32) (H : Heap) (locs : List Loc) (ls : Array Slot), 0 ≤ (vy_22 : Int32).toInt → (400 - (vy_22 : Int32).toInt).toNat < n_31 → 0 ≤ ((Tv 0) : Int32).toInt ∧ ((Tv 0) : Int32).toInt ≤ 400 ∧ 0 ≤ (vy_26 : Int32).toInt ∧ (vy_26 : Int32).toInt ≤ 400 ∧ 0 ≤ (vy_27 : Int32).toInt ∧ (vy_27 : Int32).toInt ≤ 400 → va_P D classes [((Va 0), .inr (7, [.ref (Va 1), .int vy_23, .int vy_24])), ((Va 1), .inl (tc 0, 400, .inl vy_25)), ((Ta 0), .inr (10, [.ref (Ta 1), .int (Tv 0), .int vy_26, .int vy_27, .int vy_28, .int vy_29])), ((Ta 1), .inl (tc 0, 400, .inl (Tf 1)))] H → va_D A [((Va 0), .inr (7, [.ref (Va 1), .int vy_23, .int vy_24])), ((Va 1), .inl (tc 0, 400, .inl vy_25)), ((Ta 0), .inr (10, [.ref (Ta 1), .int (Tv 0), .int vy_26, .int vy_27, .int vy_28, .int vy_29])), ((Ta 1), .inl (tc 0, 400, .inl (Tf 1)))] → va_S A s.heap H locs → lv_has ls 6 [(4, .int vy_22), (3, .int vy_30), (0, .ref (Va 0)), (1, .ref (Ta 0)), (2, .int 4)] → W p l e ({ frames := 21, cells := 0, slots := 0, locals := 498 }) s m ([.ref (Va 0), .ref (Ta 0), .int 4].toArray) below meth c H locs 0 0 (MQ below (QW (fun (v : Option Value) (u : (Int32) × (Int32) × (Nat → Int32) × (Int32) × (Int32) × (Int32) × (Int32)) => match u with | (o1, o2, o3, o4, o5, o6, o7) => v = none ∧ (0 ≤ ((Tv 0) : Int32).toInt ∧ ((Tv 0) : Int32).toInt ≤ 400 ∧ 0 ≤ (o4 : Int32).toInt ∧ (o4 : Int32).toInt ≤ 400 ∧ 0 ≤ (o5 : Int32).toInt ∧ (o5 : Int32).toInt ≤ 400)) (BW D (fun (u : (Int32) × (Int32) × (Nat → Int32) × (Int32) × (Int32) × (Int32) × (Int32)) => match u with | (o1, o2, o3, o4, o5, o6, o7) => [((Va 0), .inr (7, [.ref (Va 1), .int o1, .int o2])), ((Va 1), .inl (tc 0, 400, .inl o3)), ((Ta 0), .inr (10, [.ref (Ta 1), .int (Tv 0), .int o4, .int o5, .int o6, .int o7])), ((Ta 1), .inl (tc 0, 400, .inl (Tf 1)))]) A) A) ([.ref (Va 0), .ref (Ta 0), .int 4].toArray) s 0 0 A) (F0 m 11 ls []) := by
    clear hP hD hS hl
    intro n_31
    induction n_31 with
    | zero =>
      intro vy_22 vy_23 vy_24 vy_25 vy_26 vy_27 vy_28 vy_29 vy_30 H locs ls h1 h2
      exact absurd h2 (Nat.not_lt_zero _)
    | succ n_31 ih_32 =>
      intro vy_22 vy_23 vy_24 vy_25 vy_26 vy_27 vy_28 vy_29 vy_30 H locs ls hi_35 hn_36 hv_34 hP hD hS hl
      refine lv_iload hx hb dX7_readTest_11 (lv_at hl 0 rfl) ?_
      refine lv_sipush (v := 400) hx hb dX7_readTest_13 (by decide) ?_
      refine lv_icmp_ge (tgt := 92) hx hb dX7_readTest_16 (by decide) (fun c_37 => ?_) (fun c_37 => ?_)
      · skip
        refine lv_iload_n hx hb dX7_readTest_92 rfl (lv_at hl 1 rfl) ?_
        refine lv_if_eq (tgt := 102) hx hb dX7_readTest_93 (by decide) (fun c_38 => ?_) (fun c_38 => ?_)
        · skip
          exact retV hx hb hr hlk hP hD hS (vy_23, vy_24, vy_25, vy_26, vy_27, vy_28, vy_29) ⟨rfl, hv_34⟩ [0, 1, 2, 3] rfl rfl dX7_readTest_102 (Nat.le_of_ble_eq_true rfl) (Nat.le_of_ble_eq_true rfl) rfl
        · skip
          refine lv_aload_n hx hb dX7_readTest_96 rfl (lv_at hl 2 rfl) ?_
          refine lv_bipush (v := (-6)) hx hb dX7_readTest_97 (by decide) ?_
          refine cV (a := (Va 0)) (As := [.int (-6)]) (rest := []) (wr := [((Ta 0), .inr (10, [.ref (Ta 1), .int (Tv 0), .int vy_26, .int vy_27, .int vy_28, .int vy_29])), ((Ta 1), .inl (tc 0, 400, .inl (Tf 1)))]) ⟨hx, hb, hml, hown, hts⟩ hK hX hA (cu_X7_put l D tc sk (Va 0) (Va 1) vy_23 vy_24 vy_25 (-6)) k_642 k_639 k_641 k_10 k_99 pl_X7_put ⟨Nat.le_of_ble_eq_true rfl, Nat.le_of_ble_eq_true rfl⟩ rfl rfl (va_recv hK hP (ci := 7) (q0 := 0) rfl rfl) hP hD hS [0, 1] [2, 3] rfl rfl rfl rfl rfl (by decide) rfl hl.1 rfl (Nat.le_of_ble_eq_true rfl) dX7_readTest_99 ⟨Nat.le_of_ble_eq_true rfl, Nat.le_of_ble_eq_true rfl⟩ (fun v_39 u_40 H locs hv_41 hP₀ hD₀ hS₀ => ?_)
          obtain ⟨sv_42, sv_43⟩ := u_40
          obtain rfl : v_39 = none := hv_41
          refine W.eq (g2 := F0 m 102 ls []) rfl ?_
          replace hP : va_P D classes [((Ta 0), .inr (10, [.ref (Ta 1), .int (Tv 0), .int vy_26, .int vy_27, .int vy_28, .int vy_29])), ((Ta 1), .inl (tc 0, 400, .inl (Tf 1))), ((Va 0), .inr (7, [.ref (Va 1), .int sv_42, .int vy_24])), ((Va 1), .inl (tc 0, 400, .inl sv_43))] H := hP₀
          replace hD : va_D A [((Ta 0), .inr (10, [.ref (Ta 1), .int (Tv 0), .int vy_26, .int vy_27, .int vy_28, .int vy_29])), ((Ta 1), .inl (tc 0, 400, .inl (Tf 1))), ((Va 0), .inr (7, [.ref (Va 1), .int sv_42, .int vy_24])), ((Va 1), .inl (tc 0, 400, .inl sv_43))] := hD₀
          replace hS := hS₀
          clear hP₀ hD₀ hS₀
          exact retV hx hb hr hlk hP hD hS (sv_42, vy_24, sv_43, vy_26, vy_27, vy_28, vy_29) ⟨rfl, hv_34⟩ [2, 3, 0, 1] rfl rfl dX7_readTest_102 (Nat.le_of_ble_eq_true rfl) (Nat.le_of_ble_eq_true rfl) rfl
      · skip
        refine lv_aload_n hx hb dX7_readTest_19 rfl (lv_at hl 3 rfl) ?_
        refine va_ldcS hx hb hown (sx_5 hX) dX7_readTest_20 ?_
        have hh_44 : (5 : Nat) < 7 := by
          have y_5 : (5 : Int32).toInt = 5 := by decide
          omega
        refine cV (a := (Ta 0)) (As := [.ref (sk.1 5)]) (rest := []) (wr := [((Va 0), .inr (7, [.ref (Va 1), .int vy_23, .int vy_24])), ((Va 1), .inl (tc 0, 400, .inl vy_25))]) ⟨hx, hb, hml, hown, hts⟩ hK hX hA (cu_X10_isWord l D tc sk (Ta 0) (Ta 1) (Tv 0) vy_26 vy_27 vy_28 vy_29 (Tf 1) 5 hh_44 hv_34) k_618 k_615 k_616 k_617 k_96 pl_X10_isWord ⟨Nat.le_of_ble_eq_true rfl, Nat.le_of_ble_eq_true rfl⟩ rfl rfl (va_recv hK hP (ci := 10) (q0 := 2) rfl rfl) hP hD hS [2, 3] [0, 1] rfl rfl rfl rfl rfl (by decide) rfl hl.1 rfl (Nat.le_of_ble_eq_true rfl) dX7_readTest_22 ⟨Nat.le_of_ble_eq_true rfl, Nat.le_of_ble_eq_true rfl⟩ (fun v_45 u_46 H locs hv_47 hP₀ hD₀ hS₀ => ?_)
        obtain ⟨r_48, rfl, he_49⟩ := hv_47
        clear he_11
        have he_49 : ((r_48.toInt = 0 ∨ r_48.toInt = 1)) ∧ (0 ≤ ((Tv 0) : Int32).toInt ∧ ((Tv 0) : Int32).toInt ≤ 400 ∧ 0 ≤ (vy_26 : Int32).toInt ∧ (vy_26 : Int32).toInt ≤ 400 ∧ 0 ≤ (vy_27 : Int32).toInt ∧ (vy_27 : Int32).toInt ≤ 400) := he_49
        refine W.eq (g2 := F0 m 25 ls [.int r_48]) rfl ?_
        replace hP : va_P D classes [((Va 0), .inr (7, [.ref (Va 1), .int vy_23, .int vy_24])), ((Va 1), .inl (tc 0, 400, .inl vy_25)), ((Ta 0), .inr (10, [.ref (Ta 1), .int (Tv 0), .int vy_26, .int vy_27, .int vy_28, .int vy_29])), ((Ta 1), .inl (tc 0, 400, .inl (Tf 1)))] H := hP₀
        replace hD : va_D A [((Va 0), .inr (7, [.ref (Va 1), .int vy_23, .int vy_24])), ((Va 1), .inl (tc 0, 400, .inl vy_25)), ((Ta 0), .inr (10, [.ref (Ta 1), .int (Tv 0), .int vy_26, .int vy_27, .int vy_28, .int vy_29])), ((Ta 1), .inl (tc 0, 400, .inl (Tf 1)))] := hD₀
        replace hS := hS₀
        clear hP₀ hD₀ hS₀
        refine lv_if_ne (tgt := 37) hx hb dX7_readTest_25 (by decide) (fun c_50 => ?_) (fun c_50 => ?_)
        · skip
          refine lv_aload_n hx hb dX7_readTest_37 rfl (lv_at hl 3 rfl) ?_
          refine va_ldcS hx hb hown (sx_6 hX) dX7_readTest_38 ?_
          have hh_51 : (6 : Nat) < 7 := by
            have y_6 : (6 : Int32).toInt = 6 := by decide
            omega
          refine cV (a := (Ta 0)) (As := [.ref (sk.1 6)]) (rest := []) (wr := [((Va 0), .inr (7, [.ref (Va 1), .int vy_23, .int vy_24])), ((Va 1), .inl (tc 0, 400, .inl vy_25))]) ⟨hx, hb, hml, hown, hts⟩ hK hX hA (cu_X10_isWord l D tc sk (Ta 0) (Ta 1) (Tv 0) vy_26 vy_27 vy_28 vy_29 (Tf 1) 6 hh_51 he_49.2) k_618 k_615 k_616 k_617 k_96 pl_X10_isWord ⟨Nat.le_of_ble_eq_true rfl, Nat.le_of_ble_eq_true rfl⟩ rfl rfl (va_recv hK hP (ci := 10) (q0 := 2) rfl rfl) hP hD hS [2, 3] [0, 1] rfl rfl rfl rfl rfl (by decide) rfl hl.1 rfl (Nat.le_of_ble_eq_true rfl) dX7_readTest_40 ⟨Nat.le_of_ble_eq_true rfl, Nat.le_of_ble_eq_true rfl⟩ (fun v_52 u_53 H locs hv_54 hP₀ hD₀ hS₀ => ?_)
          obtain ⟨r_55, rfl, he_56⟩ := hv_54
          clear he_49
          have he_56 : ((r_55.toInt = 0 ∨ r_55.toInt = 1)) ∧ (0 ≤ ((Tv 0) : Int32).toInt ∧ ((Tv 0) : Int32).toInt ≤ 400 ∧ 0 ≤ (vy_26 : Int32).toInt ∧ (vy_26 : Int32).toInt ≤ 400 ∧ 0 ≤ (vy_27 : Int32).toInt ∧ (vy_27 : Int32).toInt ≤ 400) := he_56
          refine W.eq (g2 := F0 m 43 ls [.int r_55]) rfl ?_
          replace hP : va_P D classes [((Va 0), .inr (7, [.ref (Va 1), .int vy_23, .int vy_24])), ((Va 1), .inl (tc 0, 400, .inl vy_25)), ((Ta 0), .inr (10, [.ref (Ta 1), .int (Tv 0), .int vy_26, .int vy_27, .int vy_28, .int vy_29])), ((Ta 1), .inl (tc 0, 400, .inl (Tf 1)))] H := hP₀
          replace hD : va_D A [((Va 0), .inr (7, [.ref (Va 1), .int vy_23, .int vy_24])), ((Va 1), .inl (tc 0, 400, .inl vy_25)), ((Ta 0), .inr (10, [.ref (Ta 1), .int (Tv 0), .int vy_26, .int vy_27, .int vy_28, .int vy_29])), ((Ta 1), .inl (tc 0, 400, .inl (Tf 1)))] := hD₀
          replace hS := hS₀
          clear hP₀ hD₀ hS₀
          refine lv_istore (lv' := [(5, .int r_55), (4, .int vy_22), (3, .int vy_30), (0, .ref (Va 0)), (1, .ref (Ta 0)), (2, .int 4)]) hx hb dX7_readTest_43 hl (by decide) rfl (fun ls hl₀ => ?_)
          replace hl := hl₀
          clear hl₀
          refine lv_iload hx hb dX7_readTest_45 (lv_at hl 0 rfl) ?_
          refine lv_if_eq (tgt := 60) hx hb dX7_readTest_47 (by decide) (fun c_57 => ?_) (fun c_57 => ?_)
          · skip
            refine lv_aload_n hx hb dX7_readTest_60 rfl (lv_at hl 4 rfl) ?_
            refine cV (a := (Ta 0)) (As := []) (rest := []) (wr := [((Va 0), .inr (7, [.ref (Va 1), .int vy_23, .int vy_24])), ((Va 1), .inl (tc 0, 400, .inl vy_25))]) ⟨hx, hb, hml, hown, hts⟩ hK hX hA (cu_X10_step l D tc sk (Ta 0) (Ta 1) (Tv 0) vy_26 vy_27 vy_28 vy_29 (Tf 1) he_56.2) k_478 k_620 k_476 k_477 k_96 pl_X10_step ⟨Nat.le_of_ble_eq_true rfl, Nat.le_of_ble_eq_true rfl⟩ rfl rfl (va_recv hK hP (ci := 10) (q0 := 2) rfl rfl) hP hD hS [2, 3] [0, 1] rfl rfl rfl rfl rfl (by decide) rfl hl.1 rfl (Nat.le_of_ble_eq_true rfl) dX7_readTest_61 ⟨Nat.le_of_ble_eq_true rfl, Nat.le_of_ble_eq_true rfl⟩ (fun v_58 u_59 H locs hv_60 hP₀ hD₀ hS₀ => ?_)
            obtain ⟨sv_61, sv_62, sv_63⟩ := u_59
            obtain ⟨rfl, he_64⟩ := hv_60
            clear he_56
            have he_64 : (0 ≤ ((Tv 0) : Int32).toInt ∧ ((Tv 0) : Int32).toInt ≤ 400 ∧ 0 ≤ (sv_61 : Int32).toInt ∧ (sv_61 : Int32).toInt ≤ 400 ∧ 0 ≤ (sv_62 : Int32).toInt ∧ (sv_62 : Int32).toInt ≤ 400) := he_64
            refine W.eq (g2 := F0 m 64 ls []) rfl ?_
            replace hP : va_P D classes [((Va 0), .inr (7, [.ref (Va 1), .int vy_23, .int vy_24])), ((Va 1), .inl (tc 0, 400, .inl vy_25)), ((Ta 0), .inr (10, [.ref (Ta 1), .int (Tv 0), .int sv_61, .int sv_62, .int sv_63, .int vy_29])), ((Ta 1), .inl (tc 0, 400, .inl (Tf 1)))] H := hP₀
            replace hD : va_D A [((Va 0), .inr (7, [.ref (Va 1), .int vy_23, .int vy_24])), ((Va 1), .inl (tc 0, 400, .inl vy_25)), ((Ta 0), .inr (10, [.ref (Ta 1), .int (Tv 0), .int sv_61, .int sv_62, .int sv_63, .int vy_29])), ((Ta 1), .inl (tc 0, 400, .inl (Tf 1)))] := hD₀
            replace hS := hS₀
            clear hP₀ hD₀ hS₀
            refine lv_aload_n hx hb dX7_readTest_64 rfl (lv_at hl 3 rfl) ?_
            refine lv_aload_n hx hb dX7_readTest_65 rfl (lv_at hl 4 rfl) ?_
            refine lv_iload_n hx hb dX7_readTest_66 rfl (lv_at hl 5 rfl) ?_
            refine cV (a := (Va 0)) (As := [.ref (Ta 0), .int 4]) (rest := []) (wr := []) ⟨hx, hb, hml, hown, hts⟩ hK hX hA (cu_X7_readFact_4 l D tc sk (Va 0) (Va 1) vy_23 vy_24 vy_25 (Ta 0) (Ta 1) (Tv 0) sv_61 sv_62 sv_63 vy_29 (Tf 1) he_64) k_659 k_656 k_658 k_12 k_99 pl_X7_readFact ⟨Nat.le_of_ble_eq_true rfl, Nat.le_of_ble_eq_true rfl⟩ rfl rfl (va_recv hK hP (ci := 7) (q0 := 0) rfl rfl) hP hD hS [0, 1, 2, 3] [] rfl rfl rfl rfl rfl (by decide) rfl hl.1 rfl (Nat.le_of_ble_eq_true rfl) dX7_readTest_67 ⟨Nat.le_of_ble_eq_true rfl, Nat.le_of_ble_eq_true rfl⟩ (fun v_65 u_66 H locs hv_67 hP₀ hD₀ hS₀ => ?_)
            obtain ⟨sv_68, sv_69, sv_70, sv_71, sv_72, sv_73, sv_74⟩ := u_66
            obtain ⟨rfl, he_75⟩ := hv_67
            clear he_64
            have he_75 : (0 ≤ ((Tv 0) : Int32).toInt ∧ ((Tv 0) : Int32).toInt ≤ 400 ∧ 0 ≤ (sv_71 : Int32).toInt ∧ (sv_71 : Int32).toInt ≤ 400 ∧ 0 ≤ (sv_72 : Int32).toInt ∧ (sv_72 : Int32).toInt ≤ 400) := he_75
            refine W.eq (g2 := F0 m 70 ls []) rfl ?_
            replace hP : va_P D classes [((Va 0), .inr (7, [.ref (Va 1), .int sv_68, .int sv_69])), ((Va 1), .inl (tc 0, 400, .inl sv_70)), ((Ta 0), .inr (10, [.ref (Ta 1), .int (Tv 0), .int sv_71, .int sv_72, .int sv_73, .int sv_74])), ((Ta 1), .inl (tc 0, 400, .inl (Tf 1)))] H := hP₀
            replace hD : va_D A [((Va 0), .inr (7, [.ref (Va 1), .int sv_68, .int sv_69])), ((Va 1), .inl (tc 0, 400, .inl sv_70)), ((Ta 0), .inr (10, [.ref (Ta 1), .int (Tv 0), .int sv_71, .int sv_72, .int sv_73, .int sv_74])), ((Ta 1), .inl (tc 0, 400, .inl (Tf 1)))] := hD₀
            replace hS := hS₀
            clear hP₀ hD₀ hS₀
            refine lv_iload hx hb dX7_readTest_70 (lv_at hl 0 rfl) ?_
            refine lv_if_eq (tgt := 80) hx hb dX7_readTest_72 (by decide) (fun c_76 => ?_) (fun c_76 => ?_)
            · skip
              refine lv_aload_n hx hb dX7_readTest_80 rfl (lv_at hl 3 rfl) ?_
              refine lv_bipush (v := (-5)) hx hb dX7_readTest_81 (by decide) ?_
              refine cV (a := (Va 0)) (As := [.int (-5)]) (rest := []) (wr := [((Ta 0), .inr (10, [.ref (Ta 1), .int (Tv 0), .int sv_71, .int sv_72, .int sv_73, .int sv_74])), ((Ta 1), .inl (tc 0, 400, .inl (Tf 1)))]) ⟨hx, hb, hml, hown, hts⟩ hK hX hA (cu_X7_put l D tc sk (Va 0) (Va 1) sv_68 sv_69 sv_70 (-5)) k_642 k_639 k_641 k_10 k_99 pl_X7_put ⟨Nat.le_of_ble_eq_true rfl, Nat.le_of_ble_eq_true rfl⟩ rfl rfl (va_recv hK hP (ci := 7) (q0 := 0) rfl rfl) hP hD hS [0, 1] [2, 3] rfl rfl rfl rfl rfl (by decide) rfl hl.1 rfl (Nat.le_of_ble_eq_true rfl) dX7_readTest_83 ⟨Nat.le_of_ble_eq_true rfl, Nat.le_of_ble_eq_true rfl⟩ (fun v_77 u_78 H locs hv_79 hP₀ hD₀ hS₀ => ?_)
              obtain ⟨sv_80, sv_81⟩ := u_78
              obtain rfl : v_77 = none := hv_79
              refine W.eq (g2 := F0 m 86 ls []) rfl ?_
              replace hP : va_P D classes [((Ta 0), .inr (10, [.ref (Ta 1), .int (Tv 0), .int sv_71, .int sv_72, .int sv_73, .int sv_74])), ((Ta 1), .inl (tc 0, 400, .inl (Tf 1))), ((Va 0), .inr (7, [.ref (Va 1), .int sv_80, .int sv_69])), ((Va 1), .inl (tc 0, 400, .inl sv_81))] H := hP₀
              replace hD : va_D A [((Ta 0), .inr (10, [.ref (Ta 1), .int (Tv 0), .int sv_71, .int sv_72, .int sv_73, .int sv_74])), ((Ta 1), .inl (tc 0, 400, .inl (Tf 1))), ((Va 0), .inr (7, [.ref (Va 1), .int sv_80, .int sv_69])), ((Va 1), .inl (tc 0, 400, .inl sv_81))] := hD₀
              replace hS := hS₀
              clear hP₀ hD₀ hS₀
              obtain ⟨x_82, ex_82⟩ : ∃ y : Int32, y = vy_22 + 1 := ⟨_, rfl⟩
              refine lv_iinc (v := x_82) (lv' := [(4, .int x_82), (5, .int r_55), (3, .int vy_30), (0, .ref (Va 0)), (1, .ref (Ta 0)), (2, .int 4)]) hx hb dX7_readTest_86 hl (k := 1) rfl (by rw [ex_82]; rfl) (by decide) rfl (fun ls hl₀ => ?_)
              replace hl := hl₀
              clear hl₀
              refine lv_goto (tgt := 11) hx hb dX7_readTest_89 (by decide) ?_
              have hb_83 : 0 ≤ (x_82 : Int32).toInt ∧ (400 - (x_82 : Int32).toInt).toNat < n_31 := by
                have z_1 := Int32.lt_iff_toInt_lt.mp (Int32.not_le.mp c_37)
                have y_400 : (400 : Int32).toInt = 400 := by decide
                have y_1 : (1 : Int32).toInt = 1 := by decide
                have t_x_82 : x_82.toInt = (vy_22 : Int32).toInt + (1 : Int32).toInt := by rw [ex_82]; exact add_toInt (by omega) (by omega)
                omega
              exact ih_32 x_82 sv_80 sv_69 sv_81 sv_71 sv_72 sv_73 sv_74 vy_30 _ _ _ hb_83.1 hb_83.2 he_75 (hP.sub [2, 3, 0, 1] rfl) (hD.sub [2, 3, 0, 1] rfl rfl) hS (lv_sub hl [0, 2, 3, 4, 5] rfl)
            · skip
              exfalso
              have z_1 := Int32.lt_iff_toInt_lt.mp (Int32.not_le.mp c_37)
              have z_2 : ¬ (r_48 : Int32).toInt = (0 : Int32).toInt := fun z => c_50 (Int32.toInt_inj.mp z)
              have z_3 := congrArg Int32.toInt c_57
              have z_4 : ¬ (r_55 : Int32).toInt = (0 : Int32).toInt := fun z => c_76 (Int32.toInt_inj.mp z)
              have y_0 : (0 : Int32).toInt = 0 := by decide
              have y_400 : (400 : Int32).toInt = 400 := by decide
              omega
          · skip
            refine lv_iload_n hx hb dX7_readTest_50 rfl (lv_at hl 2 rfl) ?_
            refine lv_if_eq (tgt := 60) hx hb dX7_readTest_51 (by decide) (fun c_84 => ?_) (fun c_84 => ?_)
            · skip
              refine lv_aload_n hx hb dX7_readTest_60 rfl (lv_at hl 4 rfl) ?_
              refine cV (a := (Ta 0)) (As := []) (rest := []) (wr := [((Va 0), .inr (7, [.ref (Va 1), .int vy_23, .int vy_24])), ((Va 1), .inl (tc 0, 400, .inl vy_25))]) ⟨hx, hb, hml, hown, hts⟩ hK hX hA (cu_X10_step l D tc sk (Ta 0) (Ta 1) (Tv 0) vy_26 vy_27 vy_28 vy_29 (Tf 1) he_56.2) k_478 k_620 k_476 k_477 k_96 pl_X10_step ⟨Nat.le_of_ble_eq_true rfl, Nat.le_of_ble_eq_true rfl⟩ rfl rfl (va_recv hK hP (ci := 10) (q0 := 2) rfl rfl) hP hD hS [2, 3] [0, 1] rfl rfl rfl rfl rfl (by decide) rfl hl.1 rfl (Nat.le_of_ble_eq_true rfl) dX7_readTest_61 ⟨Nat.le_of_ble_eq_true rfl, Nat.le_of_ble_eq_true rfl⟩ (fun v_85 u_86 H locs hv_87 hP₀ hD₀ hS₀ => ?_)
              obtain ⟨sv_88, sv_89, sv_90⟩ := u_86
              obtain ⟨rfl, he_91⟩ := hv_87
              clear he_56
              have he_91 : (0 ≤ ((Tv 0) : Int32).toInt ∧ ((Tv 0) : Int32).toInt ≤ 400 ∧ 0 ≤ (sv_88 : Int32).toInt ∧ (sv_88 : Int32).toInt ≤ 400 ∧ 0 ≤ (sv_89 : Int32).toInt ∧ (sv_89 : Int32).toInt ≤ 400) := he_91
              refine W.eq (g2 := F0 m 64 ls []) rfl ?_
              replace hP : va_P D classes [((Va 0), .inr (7, [.ref (Va 1), .int vy_23, .int vy_24])), ((Va 1), .inl (tc 0, 400, .inl vy_25)), ((Ta 0), .inr (10, [.ref (Ta 1), .int (Tv 0), .int sv_88, .int sv_89, .int sv_90, .int vy_29])), ((Ta 1), .inl (tc 0, 400, .inl (Tf 1)))] H := hP₀
              replace hD : va_D A [((Va 0), .inr (7, [.ref (Va 1), .int vy_23, .int vy_24])), ((Va 1), .inl (tc 0, 400, .inl vy_25)), ((Ta 0), .inr (10, [.ref (Ta 1), .int (Tv 0), .int sv_88, .int sv_89, .int sv_90, .int vy_29])), ((Ta 1), .inl (tc 0, 400, .inl (Tf 1)))] := hD₀
              replace hS := hS₀
              clear hP₀ hD₀ hS₀
              refine lv_aload_n hx hb dX7_readTest_64 rfl (lv_at hl 3 rfl) ?_
              refine lv_aload_n hx hb dX7_readTest_65 rfl (lv_at hl 4 rfl) ?_
              refine lv_iload_n hx hb dX7_readTest_66 rfl (lv_at hl 5 rfl) ?_
              refine cV (a := (Va 0)) (As := [.ref (Ta 0), .int 4]) (rest := []) (wr := []) ⟨hx, hb, hml, hown, hts⟩ hK hX hA (cu_X7_readFact_4 l D tc sk (Va 0) (Va 1) vy_23 vy_24 vy_25 (Ta 0) (Ta 1) (Tv 0) sv_88 sv_89 sv_90 vy_29 (Tf 1) he_91) k_659 k_656 k_658 k_12 k_99 pl_X7_readFact ⟨Nat.le_of_ble_eq_true rfl, Nat.le_of_ble_eq_true rfl⟩ rfl rfl (va_recv hK hP (ci := 7) (q0 := 0) rfl rfl) hP hD hS [0, 1, 2, 3] [] rfl rfl rfl rfl rfl (by decide) rfl hl.1 rfl (Nat.le_of_ble_eq_true rfl) dX7_readTest_67 ⟨Nat.le_of_ble_eq_true rfl, Nat.le_of_ble_eq_true rfl⟩ (fun v_92 u_93 H locs hv_94 hP₀ hD₀ hS₀ => ?_)
              obtain ⟨sv_95, sv_96, sv_97, sv_98, sv_99, sv_100, sv_101⟩ := u_93
              obtain ⟨rfl, he_102⟩ := hv_94
              clear he_91
              have he_102 : (0 ≤ ((Tv 0) : Int32).toInt ∧ ((Tv 0) : Int32).toInt ≤ 400 ∧ 0 ≤ (sv_98 : Int32).toInt ∧ (sv_98 : Int32).toInt ≤ 400 ∧ 0 ≤ (sv_99 : Int32).toInt ∧ (sv_99 : Int32).toInt ≤ 400) := he_102
              refine W.eq (g2 := F0 m 70 ls []) rfl ?_
              replace hP : va_P D classes [((Va 0), .inr (7, [.ref (Va 1), .int sv_95, .int sv_96])), ((Va 1), .inl (tc 0, 400, .inl sv_97)), ((Ta 0), .inr (10, [.ref (Ta 1), .int (Tv 0), .int sv_98, .int sv_99, .int sv_100, .int sv_101])), ((Ta 1), .inl (tc 0, 400, .inl (Tf 1)))] H := hP₀
              replace hD : va_D A [((Va 0), .inr (7, [.ref (Va 1), .int sv_95, .int sv_96])), ((Va 1), .inl (tc 0, 400, .inl sv_97)), ((Ta 0), .inr (10, [.ref (Ta 1), .int (Tv 0), .int sv_98, .int sv_99, .int sv_100, .int sv_101])), ((Ta 1), .inl (tc 0, 400, .inl (Tf 1)))] := hD₀
              replace hS := hS₀
              clear hP₀ hD₀ hS₀
              refine lv_iload hx hb dX7_readTest_70 (lv_at hl 0 rfl) ?_
              refine lv_if_eq (tgt := 80) hx hb dX7_readTest_72 (by decide) (fun c_103 => ?_) (fun c_103 => ?_)
              · skip
                exfalso
                have z_1 := Int32.lt_iff_toInt_lt.mp (Int32.not_le.mp c_37)
                have z_2 : ¬ (r_48 : Int32).toInt = (0 : Int32).toInt := fun z => c_50 (Int32.toInt_inj.mp z)
                have z_3 : ¬ (r_55 : Int32).toInt = (0 : Int32).toInt := fun z => c_57 (Int32.toInt_inj.mp z)
                have z_4 := congrArg Int32.toInt c_84
                have z_5 := congrArg Int32.toInt c_103
                have y_0 : (0 : Int32).toInt = 0 := by decide
                have y_400 : (400 : Int32).toInt = 400 := by decide
                omega
              · skip
                refine lv_iconst (v := 1) hx hb dX7_readTest_75 (by decide) ?_
                refine lv_istore_n (lv' := [(3, .int 1), (5, .int r_55), (4, .int vy_22), (0, .ref (Va 0)), (1, .ref (Ta 0)), (2, .int 4)]) hx hb dX7_readTest_76 rfl hl (by decide) rfl (fun ls hl₀ => ?_)
                replace hl := hl₀
                clear hl₀
                refine lv_goto (tgt := 86) hx hb dX7_readTest_77 (by decide) ?_
                obtain ⟨x_104, ex_104⟩ : ∃ y : Int32, y = vy_22 + 1 := ⟨_, rfl⟩
                refine lv_iinc (v := x_104) (lv' := [(4, .int x_104), (3, .int 1), (5, .int r_55), (0, .ref (Va 0)), (1, .ref (Ta 0)), (2, .int 4)]) hx hb dX7_readTest_86 hl (k := 2) rfl (by rw [ex_104]; rfl) (by decide) rfl (fun ls hl₀ => ?_)
                replace hl := hl₀
                clear hl₀
                refine lv_goto (tgt := 11) hx hb dX7_readTest_89 (by decide) ?_
                have hb_105 : 0 ≤ (x_104 : Int32).toInt ∧ (400 - (x_104 : Int32).toInt).toNat < n_31 := by
                  have z_1 := Int32.lt_iff_toInt_lt.mp (Int32.not_le.mp c_37)
                  have y_400 : (400 : Int32).toInt = 400 := by decide
                  have y_1 : (1 : Int32).toInt = 1 := by decide
                  have t_x_104 : x_104.toInt = (vy_22 : Int32).toInt + (1 : Int32).toInt := by rw [ex_104]; exact add_toInt (by omega) (by omega)
                  omega
                exact ih_32 x_104 sv_95 sv_96 sv_97 sv_98 sv_99 sv_100 sv_101 1 _ _ _ hb_105.1 hb_105.2 he_102 (hP.sub [0, 1, 2, 3] rfl) (hD.sub [0, 1, 2, 3] rfl rfl) hS (lv_sub hl [0, 1, 3, 4, 5] rfl)
            · skip
              refine lv_aload_n hx hb dX7_readTest_54 rfl (lv_at hl 3 rfl) ?_
              refine lv_bipush (v := (-6)) hx hb dX7_readTest_55 (by decide) ?_
              refine cV (a := (Va 0)) (As := [.int (-6)]) (rest := []) (wr := [((Ta 0), .inr (10, [.ref (Ta 1), .int (Tv 0), .int vy_26, .int vy_27, .int vy_28, .int vy_29])), ((Ta 1), .inl (tc 0, 400, .inl (Tf 1)))]) ⟨hx, hb, hml, hown, hts⟩ hK hX hA (cu_X7_put l D tc sk (Va 0) (Va 1) vy_23 vy_24 vy_25 (-6)) k_642 k_639 k_641 k_10 k_99 pl_X7_put ⟨Nat.le_of_ble_eq_true rfl, Nat.le_of_ble_eq_true rfl⟩ rfl rfl (va_recv hK hP (ci := 7) (q0 := 0) rfl rfl) hP hD hS [0, 1] [2, 3] rfl rfl rfl rfl rfl (by decide) rfl hl.1 rfl (Nat.le_of_ble_eq_true rfl) dX7_readTest_57 ⟨Nat.le_of_ble_eq_true rfl, Nat.le_of_ble_eq_true rfl⟩ (fun v_106 u_107 H locs hv_108 hP₀ hD₀ hS₀ => ?_)
              obtain ⟨sv_109, sv_110⟩ := u_107
              obtain rfl : v_106 = none := hv_108
              refine W.eq (g2 := F0 m 60 ls []) rfl ?_
              replace hP : va_P D classes [((Ta 0), .inr (10, [.ref (Ta 1), .int (Tv 0), .int vy_26, .int vy_27, .int vy_28, .int vy_29])), ((Ta 1), .inl (tc 0, 400, .inl (Tf 1))), ((Va 0), .inr (7, [.ref (Va 1), .int sv_109, .int vy_24])), ((Va 1), .inl (tc 0, 400, .inl sv_110))] H := hP₀
              replace hD : va_D A [((Ta 0), .inr (10, [.ref (Ta 1), .int (Tv 0), .int vy_26, .int vy_27, .int vy_28, .int vy_29])), ((Ta 1), .inl (tc 0, 400, .inl (Tf 1))), ((Va 0), .inr (7, [.ref (Va 1), .int sv_109, .int vy_24])), ((Va 1), .inl (tc 0, 400, .inl sv_110))] := hD₀
              replace hS := hS₀
              clear hP₀ hD₀ hS₀
              refine lv_aload_n hx hb dX7_readTest_60 rfl (lv_at hl 4 rfl) ?_
              refine cV (a := (Ta 0)) (As := []) (rest := []) (wr := [((Va 0), .inr (7, [.ref (Va 1), .int sv_109, .int vy_24])), ((Va 1), .inl (tc 0, 400, .inl sv_110))]) ⟨hx, hb, hml, hown, hts⟩ hK hX hA (cu_X10_step l D tc sk (Ta 0) (Ta 1) (Tv 0) vy_26 vy_27 vy_28 vy_29 (Tf 1) he_56.2) k_478 k_620 k_476 k_477 k_96 pl_X10_step ⟨Nat.le_of_ble_eq_true rfl, Nat.le_of_ble_eq_true rfl⟩ rfl rfl (va_recv hK hP (ci := 10) (q0 := 0) rfl rfl) hP hD hS [0, 1] [2, 3] rfl rfl rfl rfl rfl (by decide) rfl hl.1 rfl (Nat.le_of_ble_eq_true rfl) dX7_readTest_61 ⟨Nat.le_of_ble_eq_true rfl, Nat.le_of_ble_eq_true rfl⟩ (fun v_111 u_112 H locs hv_113 hP₀ hD₀ hS₀ => ?_)
              obtain ⟨sv_114, sv_115, sv_116⟩ := u_112
              obtain ⟨rfl, he_117⟩ := hv_113
              clear he_56
              have he_117 : (0 ≤ ((Tv 0) : Int32).toInt ∧ ((Tv 0) : Int32).toInt ≤ 400 ∧ 0 ≤ (sv_114 : Int32).toInt ∧ (sv_114 : Int32).toInt ≤ 400 ∧ 0 ≤ (sv_115 : Int32).toInt ∧ (sv_115 : Int32).toInt ≤ 400) := he_117
              refine W.eq (g2 := F0 m 64 ls []) rfl ?_
              replace hP : va_P D classes [((Va 0), .inr (7, [.ref (Va 1), .int sv_109, .int vy_24])), ((Va 1), .inl (tc 0, 400, .inl sv_110)), ((Ta 0), .inr (10, [.ref (Ta 1), .int (Tv 0), .int sv_114, .int sv_115, .int sv_116, .int vy_29])), ((Ta 1), .inl (tc 0, 400, .inl (Tf 1)))] H := hP₀
              replace hD : va_D A [((Va 0), .inr (7, [.ref (Va 1), .int sv_109, .int vy_24])), ((Va 1), .inl (tc 0, 400, .inl sv_110)), ((Ta 0), .inr (10, [.ref (Ta 1), .int (Tv 0), .int sv_114, .int sv_115, .int sv_116, .int vy_29])), ((Ta 1), .inl (tc 0, 400, .inl (Tf 1)))] := hD₀
              replace hS := hS₀
              clear hP₀ hD₀ hS₀
              refine lv_aload_n hx hb dX7_readTest_64 rfl (lv_at hl 3 rfl) ?_
              refine lv_aload_n hx hb dX7_readTest_65 rfl (lv_at hl 4 rfl) ?_
              refine lv_iload_n hx hb dX7_readTest_66 rfl (lv_at hl 5 rfl) ?_
              refine cV (a := (Va 0)) (As := [.ref (Ta 0), .int 4]) (rest := []) (wr := []) ⟨hx, hb, hml, hown, hts⟩ hK hX hA (cu_X7_readFact_4 l D tc sk (Va 0) (Va 1) sv_109 vy_24 sv_110 (Ta 0) (Ta 1) (Tv 0) sv_114 sv_115 sv_116 vy_29 (Tf 1) he_117) k_659 k_656 k_658 k_12 k_99 pl_X7_readFact ⟨Nat.le_of_ble_eq_true rfl, Nat.le_of_ble_eq_true rfl⟩ rfl rfl (va_recv hK hP (ci := 7) (q0 := 0) rfl rfl) hP hD hS [0, 1, 2, 3] [] rfl rfl rfl rfl rfl (by decide) rfl hl.1 rfl (Nat.le_of_ble_eq_true rfl) dX7_readTest_67 ⟨Nat.le_of_ble_eq_true rfl, Nat.le_of_ble_eq_true rfl⟩ (fun v_118 u_119 H locs hv_120 hP₀ hD₀ hS₀ => ?_)
              obtain ⟨sv_121, sv_122, sv_123, sv_124, sv_125, sv_126, sv_127⟩ := u_119
              obtain ⟨rfl, he_128⟩ := hv_120
              clear he_117
              have he_128 : (0 ≤ ((Tv 0) : Int32).toInt ∧ ((Tv 0) : Int32).toInt ≤ 400 ∧ 0 ≤ (sv_124 : Int32).toInt ∧ (sv_124 : Int32).toInt ≤ 400 ∧ 0 ≤ (sv_125 : Int32).toInt ∧ (sv_125 : Int32).toInt ≤ 400) := he_128
              refine W.eq (g2 := F0 m 70 ls []) rfl ?_
              replace hP : va_P D classes [((Va 0), .inr (7, [.ref (Va 1), .int sv_121, .int sv_122])), ((Va 1), .inl (tc 0, 400, .inl sv_123)), ((Ta 0), .inr (10, [.ref (Ta 1), .int (Tv 0), .int sv_124, .int sv_125, .int sv_126, .int sv_127])), ((Ta 1), .inl (tc 0, 400, .inl (Tf 1)))] H := hP₀
              replace hD : va_D A [((Va 0), .inr (7, [.ref (Va 1), .int sv_121, .int sv_122])), ((Va 1), .inl (tc 0, 400, .inl sv_123)), ((Ta 0), .inr (10, [.ref (Ta 1), .int (Tv 0), .int sv_124, .int sv_125, .int sv_126, .int sv_127])), ((Ta 1), .inl (tc 0, 400, .inl (Tf 1)))] := hD₀
              replace hS := hS₀
              clear hP₀ hD₀ hS₀
              refine lv_iload hx hb dX7_readTest_70 (lv_at hl 0 rfl) ?_
              refine lv_if_eq (tgt := 80) hx hb dX7_readTest_72 (by decide) (fun c_129 => ?_) (fun c_129 => ?_)
              · skip
                exfalso
                have z_1 := Int32.lt_iff_toInt_lt.mp (Int32.not_le.mp c_37)
                have z_2 : ¬ (r_48 : Int32).toInt = (0 : Int32).toInt := fun z => c_50 (Int32.toInt_inj.mp z)
                have z_3 : ¬ (r_55 : Int32).toInt = (0 : Int32).toInt := fun z => c_57 (Int32.toInt_inj.mp z)
                have z_4 : ¬ (vy_30 : Int32).toInt = (0 : Int32).toInt := fun z => c_84 (Int32.toInt_inj.mp z)
                have z_5 := congrArg Int32.toInt c_129
                have y_0 : (0 : Int32).toInt = 0 := by decide
                have y_400 : (400 : Int32).toInt = 400 := by decide
                omega
              · skip
                refine lv_iconst (v := 1) hx hb dX7_readTest_75 (by decide) ?_
                refine lv_istore_n (lv' := [(3, .int 1), (5, .int r_55), (4, .int vy_22), (0, .ref (Va 0)), (1, .ref (Ta 0)), (2, .int 4)]) hx hb dX7_readTest_76 rfl hl (by decide) rfl (fun ls hl₀ => ?_)
                replace hl := hl₀
                clear hl₀
                refine lv_goto (tgt := 86) hx hb dX7_readTest_77 (by decide) ?_
                obtain ⟨x_130, ex_130⟩ : ∃ y : Int32, y = vy_22 + 1 := ⟨_, rfl⟩
                refine lv_iinc (v := x_130) (lv' := [(4, .int x_130), (3, .int 1), (5, .int r_55), (0, .ref (Va 0)), (1, .ref (Ta 0)), (2, .int 4)]) hx hb dX7_readTest_86 hl (k := 2) rfl (by rw [ex_130]; rfl) (by decide) rfl (fun ls hl₀ => ?_)
                replace hl := hl₀
                clear hl₀
                refine lv_goto (tgt := 11) hx hb dX7_readTest_89 (by decide) ?_
                have hb_131 : 0 ≤ (x_130 : Int32).toInt ∧ (400 - (x_130 : Int32).toInt).toNat < n_31 := by
                  have z_1 := Int32.lt_iff_toInt_lt.mp (Int32.not_le.mp c_37)
                  have y_400 : (400 : Int32).toInt = 400 := by decide
                  have y_1 : (1 : Int32).toInt = 1 := by decide
                  have t_x_130 : x_130.toInt = (vy_22 : Int32).toInt + (1 : Int32).toInt := by rw [ex_130]; exact add_toInt (by omega) (by omega)
                  omega
                exact ih_32 x_130 sv_121 sv_122 sv_123 sv_124 sv_125 sv_126 sv_127 1 _ _ _ hb_131.1 hb_131.2 he_128 (hP.sub [0, 1, 2, 3] rfl) (hD.sub [0, 1, 2, 3] rfl rfl) hS (lv_sub hl [0, 1, 3, 4, 5] rfl)
        · skip
          refine lv_aload_n hx hb dX7_readTest_28 rfl (lv_at hl 3 rfl) ?_
          refine va_ldcS hx hb hown (sx_6 hX) dX7_readTest_29 ?_
          have hh_132 : (6 : Nat) < 7 := by
            have y_6 : (6 : Int32).toInt = 6 := by decide
            omega
          refine cV (a := (Ta 0)) (As := [.ref (sk.1 6)]) (rest := []) (wr := [((Va 0), .inr (7, [.ref (Va 1), .int vy_23, .int vy_24])), ((Va 1), .inl (tc 0, 400, .inl vy_25))]) ⟨hx, hb, hml, hown, hts⟩ hK hX hA (cu_X10_isWord l D tc sk (Ta 0) (Ta 1) (Tv 0) vy_26 vy_27 vy_28 vy_29 (Tf 1) 6 hh_132 he_49.2) k_618 k_615 k_616 k_617 k_96 pl_X10_isWord ⟨Nat.le_of_ble_eq_true rfl, Nat.le_of_ble_eq_true rfl⟩ rfl rfl (va_recv hK hP (ci := 10) (q0 := 2) rfl rfl) hP hD hS [2, 3] [0, 1] rfl rfl rfl rfl rfl (by decide) rfl hl.1 rfl (Nat.le_of_ble_eq_true rfl) dX7_readTest_31 ⟨Nat.le_of_ble_eq_true rfl, Nat.le_of_ble_eq_true rfl⟩ (fun v_133 u_134 H locs hv_135 hP₀ hD₀ hS₀ => ?_)
          obtain ⟨r_136, rfl, he_137⟩ := hv_135
          clear he_49
          have he_137 : ((r_136.toInt = 0 ∨ r_136.toInt = 1)) ∧ (0 ≤ ((Tv 0) : Int32).toInt ∧ ((Tv 0) : Int32).toInt ≤ 400 ∧ 0 ≤ (vy_26 : Int32).toInt ∧ (vy_26 : Int32).toInt ≤ 400 ∧ 0 ≤ (vy_27 : Int32).toInt ∧ (vy_27 : Int32).toInt ≤ 400) := he_137
          refine W.eq (g2 := F0 m 34 ls [.int r_136]) rfl ?_
          replace hP : va_P D classes [((Va 0), .inr (7, [.ref (Va 1), .int vy_23, .int vy_24])), ((Va 1), .inl (tc 0, 400, .inl vy_25)), ((Ta 0), .inr (10, [.ref (Ta 1), .int (Tv 0), .int vy_26, .int vy_27, .int vy_28, .int vy_29])), ((Ta 1), .inl (tc 0, 400, .inl (Tf 1)))] H := hP₀
          replace hD : va_D A [((Va 0), .inr (7, [.ref (Va 1), .int vy_23, .int vy_24])), ((Va 1), .inl (tc 0, 400, .inl vy_25)), ((Ta 0), .inr (10, [.ref (Ta 1), .int (Tv 0), .int vy_26, .int vy_27, .int vy_28, .int vy_29])), ((Ta 1), .inl (tc 0, 400, .inl (Tf 1)))] := hD₀
          replace hS := hS₀
          clear hP₀ hD₀ hS₀
          refine lv_if_eq (tgt := 92) hx hb dX7_readTest_34 (by decide) (fun c_138 => ?_) (fun c_138 => ?_)
          · skip
            refine lv_iload_n hx hb dX7_readTest_92 rfl (lv_at hl 1 rfl) ?_
            refine lv_if_eq (tgt := 102) hx hb dX7_readTest_93 (by decide) (fun c_139 => ?_) (fun c_139 => ?_)
            · skip
              exact retV hx hb hr hlk hP hD hS (vy_23, vy_24, vy_25, vy_26, vy_27, vy_28, vy_29) ⟨rfl, he_137.2⟩ [0, 1, 2, 3] rfl rfl dX7_readTest_102 (Nat.le_of_ble_eq_true rfl) (Nat.le_of_ble_eq_true rfl) rfl
            · skip
              refine lv_aload_n hx hb dX7_readTest_96 rfl (lv_at hl 2 rfl) ?_
              refine lv_bipush (v := (-6)) hx hb dX7_readTest_97 (by decide) ?_
              refine cV (a := (Va 0)) (As := [.int (-6)]) (rest := []) (wr := [((Ta 0), .inr (10, [.ref (Ta 1), .int (Tv 0), .int vy_26, .int vy_27, .int vy_28, .int vy_29])), ((Ta 1), .inl (tc 0, 400, .inl (Tf 1)))]) ⟨hx, hb, hml, hown, hts⟩ hK hX hA (cu_X7_put l D tc sk (Va 0) (Va 1) vy_23 vy_24 vy_25 (-6)) k_642 k_639 k_641 k_10 k_99 pl_X7_put ⟨Nat.le_of_ble_eq_true rfl, Nat.le_of_ble_eq_true rfl⟩ rfl rfl (va_recv hK hP (ci := 7) (q0 := 0) rfl rfl) hP hD hS [0, 1] [2, 3] rfl rfl rfl rfl rfl (by decide) rfl hl.1 rfl (Nat.le_of_ble_eq_true rfl) dX7_readTest_99 ⟨Nat.le_of_ble_eq_true rfl, Nat.le_of_ble_eq_true rfl⟩ (fun v_140 u_141 H locs hv_142 hP₀ hD₀ hS₀ => ?_)
              obtain ⟨sv_143, sv_144⟩ := u_141
              obtain rfl : v_140 = none := hv_142
              refine W.eq (g2 := F0 m 102 ls []) rfl ?_
              replace hP : va_P D classes [((Ta 0), .inr (10, [.ref (Ta 1), .int (Tv 0), .int vy_26, .int vy_27, .int vy_28, .int vy_29])), ((Ta 1), .inl (tc 0, 400, .inl (Tf 1))), ((Va 0), .inr (7, [.ref (Va 1), .int sv_143, .int vy_24])), ((Va 1), .inl (tc 0, 400, .inl sv_144))] H := hP₀
              replace hD : va_D A [((Ta 0), .inr (10, [.ref (Ta 1), .int (Tv 0), .int vy_26, .int vy_27, .int vy_28, .int vy_29])), ((Ta 1), .inl (tc 0, 400, .inl (Tf 1))), ((Va 0), .inr (7, [.ref (Va 1), .int sv_143, .int vy_24])), ((Va 1), .inl (tc 0, 400, .inl sv_144))] := hD₀
              replace hS := hS₀
              clear hP₀ hD₀ hS₀
              exact retV hx hb hr hlk hP hD hS (sv_143, vy_24, sv_144, vy_26, vy_27, vy_28, vy_29) ⟨rfl, he_137.2⟩ [2, 3, 0, 1] rfl rfl dX7_readTest_102 (Nat.le_of_ble_eq_true rfl) (Nat.le_of_ble_eq_true rfl) rfl
          · skip
            refine lv_aload_n hx hb dX7_readTest_37 rfl (lv_at hl 3 rfl) ?_
            refine va_ldcS hx hb hown (sx_6 hX) dX7_readTest_38 ?_
            have hh_145 : (6 : Nat) < 7 := by
              have y_6 : (6 : Int32).toInt = 6 := by decide
              omega
            refine cV (a := (Ta 0)) (As := [.ref (sk.1 6)]) (rest := []) (wr := [((Va 0), .inr (7, [.ref (Va 1), .int vy_23, .int vy_24])), ((Va 1), .inl (tc 0, 400, .inl vy_25))]) ⟨hx, hb, hml, hown, hts⟩ hK hX hA (cu_X10_isWord l D tc sk (Ta 0) (Ta 1) (Tv 0) vy_26 vy_27 vy_28 vy_29 (Tf 1) 6 hh_145 he_137.2) k_618 k_615 k_616 k_617 k_96 pl_X10_isWord ⟨Nat.le_of_ble_eq_true rfl, Nat.le_of_ble_eq_true rfl⟩ rfl rfl (va_recv hK hP (ci := 10) (q0 := 2) rfl rfl) hP hD hS [2, 3] [0, 1] rfl rfl rfl rfl rfl (by decide) rfl hl.1 rfl (Nat.le_of_ble_eq_true rfl) dX7_readTest_40 ⟨Nat.le_of_ble_eq_true rfl, Nat.le_of_ble_eq_true rfl⟩ (fun v_146 u_147 H locs hv_148 hP₀ hD₀ hS₀ => ?_)
            obtain ⟨r_149, rfl, he_150⟩ := hv_148
            clear he_137
            have he_150 : ((r_149.toInt = 0 ∨ r_149.toInt = 1)) ∧ (0 ≤ ((Tv 0) : Int32).toInt ∧ ((Tv 0) : Int32).toInt ≤ 400 ∧ 0 ≤ (vy_26 : Int32).toInt ∧ (vy_26 : Int32).toInt ≤ 400 ∧ 0 ≤ (vy_27 : Int32).toInt ∧ (vy_27 : Int32).toInt ≤ 400) := he_150
            refine W.eq (g2 := F0 m 43 ls [.int r_149]) rfl ?_
            replace hP : va_P D classes [((Va 0), .inr (7, [.ref (Va 1), .int vy_23, .int vy_24])), ((Va 1), .inl (tc 0, 400, .inl vy_25)), ((Ta 0), .inr (10, [.ref (Ta 1), .int (Tv 0), .int vy_26, .int vy_27, .int vy_28, .int vy_29])), ((Ta 1), .inl (tc 0, 400, .inl (Tf 1)))] H := hP₀
            replace hD : va_D A [((Va 0), .inr (7, [.ref (Va 1), .int vy_23, .int vy_24])), ((Va 1), .inl (tc 0, 400, .inl vy_25)), ((Ta 0), .inr (10, [.ref (Ta 1), .int (Tv 0), .int vy_26, .int vy_27, .int vy_28, .int vy_29])), ((Ta 1), .inl (tc 0, 400, .inl (Tf 1)))] := hD₀
            replace hS := hS₀
            clear hP₀ hD₀ hS₀
            refine lv_istore (lv' := [(5, .int r_149), (4, .int vy_22), (3, .int vy_30), (0, .ref (Va 0)), (1, .ref (Ta 0)), (2, .int 4)]) hx hb dX7_readTest_43 hl (by decide) rfl (fun ls hl₀ => ?_)
            replace hl := hl₀
            clear hl₀
            refine lv_iload hx hb dX7_readTest_45 (lv_at hl 0 rfl) ?_
            refine lv_if_eq (tgt := 60) hx hb dX7_readTest_47 (by decide) (fun c_151 => ?_) (fun c_151 => ?_)
            · skip
              refine lv_aload_n hx hb dX7_readTest_60 rfl (lv_at hl 4 rfl) ?_
              refine cV (a := (Ta 0)) (As := []) (rest := []) (wr := [((Va 0), .inr (7, [.ref (Va 1), .int vy_23, .int vy_24])), ((Va 1), .inl (tc 0, 400, .inl vy_25))]) ⟨hx, hb, hml, hown, hts⟩ hK hX hA (cu_X10_step l D tc sk (Ta 0) (Ta 1) (Tv 0) vy_26 vy_27 vy_28 vy_29 (Tf 1) he_150.2) k_478 k_620 k_476 k_477 k_96 pl_X10_step ⟨Nat.le_of_ble_eq_true rfl, Nat.le_of_ble_eq_true rfl⟩ rfl rfl (va_recv hK hP (ci := 10) (q0 := 2) rfl rfl) hP hD hS [2, 3] [0, 1] rfl rfl rfl rfl rfl (by decide) rfl hl.1 rfl (Nat.le_of_ble_eq_true rfl) dX7_readTest_61 ⟨Nat.le_of_ble_eq_true rfl, Nat.le_of_ble_eq_true rfl⟩ (fun v_152 u_153 H locs hv_154 hP₀ hD₀ hS₀ => ?_)
              obtain ⟨sv_155, sv_156, sv_157⟩ := u_153
              obtain ⟨rfl, he_158⟩ := hv_154
              clear he_150
              have he_158 : (0 ≤ ((Tv 0) : Int32).toInt ∧ ((Tv 0) : Int32).toInt ≤ 400 ∧ 0 ≤ (sv_155 : Int32).toInt ∧ (sv_155 : Int32).toInt ≤ 400 ∧ 0 ≤ (sv_156 : Int32).toInt ∧ (sv_156 : Int32).toInt ≤ 400) := he_158
              refine W.eq (g2 := F0 m 64 ls []) rfl ?_
              replace hP : va_P D classes [((Va 0), .inr (7, [.ref (Va 1), .int vy_23, .int vy_24])), ((Va 1), .inl (tc 0, 400, .inl vy_25)), ((Ta 0), .inr (10, [.ref (Ta 1), .int (Tv 0), .int sv_155, .int sv_156, .int sv_157, .int vy_29])), ((Ta 1), .inl (tc 0, 400, .inl (Tf 1)))] H := hP₀
              replace hD : va_D A [((Va 0), .inr (7, [.ref (Va 1), .int vy_23, .int vy_24])), ((Va 1), .inl (tc 0, 400, .inl vy_25)), ((Ta 0), .inr (10, [.ref (Ta 1), .int (Tv 0), .int sv_155, .int sv_156, .int sv_157, .int vy_29])), ((Ta 1), .inl (tc 0, 400, .inl (Tf 1)))] := hD₀
              replace hS := hS₀
              clear hP₀ hD₀ hS₀
              refine lv_aload_n hx hb dX7_readTest_64 rfl (lv_at hl 3 rfl) ?_
              refine lv_aload_n hx hb dX7_readTest_65 rfl (lv_at hl 4 rfl) ?_
              refine lv_iload_n hx hb dX7_readTest_66 rfl (lv_at hl 5 rfl) ?_
              refine cV (a := (Va 0)) (As := [.ref (Ta 0), .int 4]) (rest := []) (wr := []) ⟨hx, hb, hml, hown, hts⟩ hK hX hA (cu_X7_readFact_4 l D tc sk (Va 0) (Va 1) vy_23 vy_24 vy_25 (Ta 0) (Ta 1) (Tv 0) sv_155 sv_156 sv_157 vy_29 (Tf 1) he_158) k_659 k_656 k_658 k_12 k_99 pl_X7_readFact ⟨Nat.le_of_ble_eq_true rfl, Nat.le_of_ble_eq_true rfl⟩ rfl rfl (va_recv hK hP (ci := 7) (q0 := 0) rfl rfl) hP hD hS [0, 1, 2, 3] [] rfl rfl rfl rfl rfl (by decide) rfl hl.1 rfl (Nat.le_of_ble_eq_true rfl) dX7_readTest_67 ⟨Nat.le_of_ble_eq_true rfl, Nat.le_of_ble_eq_true rfl⟩ (fun v_159 u_160 H locs hv_161 hP₀ hD₀ hS₀ => ?_)
              obtain ⟨sv_162, sv_163, sv_164, sv_165, sv_166, sv_167, sv_168⟩ := u_160
              obtain ⟨rfl, he_169⟩ := hv_161
              clear he_158
              have he_169 : (0 ≤ ((Tv 0) : Int32).toInt ∧ ((Tv 0) : Int32).toInt ≤ 400 ∧ 0 ≤ (sv_165 : Int32).toInt ∧ (sv_165 : Int32).toInt ≤ 400 ∧ 0 ≤ (sv_166 : Int32).toInt ∧ (sv_166 : Int32).toInt ≤ 400) := he_169
              refine W.eq (g2 := F0 m 70 ls []) rfl ?_
              replace hP : va_P D classes [((Va 0), .inr (7, [.ref (Va 1), .int sv_162, .int sv_163])), ((Va 1), .inl (tc 0, 400, .inl sv_164)), ((Ta 0), .inr (10, [.ref (Ta 1), .int (Tv 0), .int sv_165, .int sv_166, .int sv_167, .int sv_168])), ((Ta 1), .inl (tc 0, 400, .inl (Tf 1)))] H := hP₀
              replace hD : va_D A [((Va 0), .inr (7, [.ref (Va 1), .int sv_162, .int sv_163])), ((Va 1), .inl (tc 0, 400, .inl sv_164)), ((Ta 0), .inr (10, [.ref (Ta 1), .int (Tv 0), .int sv_165, .int sv_166, .int sv_167, .int sv_168])), ((Ta 1), .inl (tc 0, 400, .inl (Tf 1)))] := hD₀
              replace hS := hS₀
              clear hP₀ hD₀ hS₀
              refine lv_iload hx hb dX7_readTest_70 (lv_at hl 0 rfl) ?_
              refine lv_if_eq (tgt := 80) hx hb dX7_readTest_72 (by decide) (fun c_170 => ?_) (fun c_170 => ?_)
              · skip
                refine lv_aload_n hx hb dX7_readTest_80 rfl (lv_at hl 3 rfl) ?_
                refine lv_bipush (v := (-5)) hx hb dX7_readTest_81 (by decide) ?_
                refine cV (a := (Va 0)) (As := [.int (-5)]) (rest := []) (wr := [((Ta 0), .inr (10, [.ref (Ta 1), .int (Tv 0), .int sv_165, .int sv_166, .int sv_167, .int sv_168])), ((Ta 1), .inl (tc 0, 400, .inl (Tf 1)))]) ⟨hx, hb, hml, hown, hts⟩ hK hX hA (cu_X7_put l D tc sk (Va 0) (Va 1) sv_162 sv_163 sv_164 (-5)) k_642 k_639 k_641 k_10 k_99 pl_X7_put ⟨Nat.le_of_ble_eq_true rfl, Nat.le_of_ble_eq_true rfl⟩ rfl rfl (va_recv hK hP (ci := 7) (q0 := 0) rfl rfl) hP hD hS [0, 1] [2, 3] rfl rfl rfl rfl rfl (by decide) rfl hl.1 rfl (Nat.le_of_ble_eq_true rfl) dX7_readTest_83 ⟨Nat.le_of_ble_eq_true rfl, Nat.le_of_ble_eq_true rfl⟩ (fun v_171 u_172 H locs hv_173 hP₀ hD₀ hS₀ => ?_)
                obtain ⟨sv_174, sv_175⟩ := u_172
                obtain rfl : v_171 = none := hv_173
                refine W.eq (g2 := F0 m 86 ls []) rfl ?_
                replace hP : va_P D classes [((Ta 0), .inr (10, [.ref (Ta 1), .int (Tv 0), .int sv_165, .int sv_166, .int sv_167, .int sv_168])), ((Ta 1), .inl (tc 0, 400, .inl (Tf 1))), ((Va 0), .inr (7, [.ref (Va 1), .int sv_174, .int sv_163])), ((Va 1), .inl (tc 0, 400, .inl sv_175))] H := hP₀
                replace hD : va_D A [((Ta 0), .inr (10, [.ref (Ta 1), .int (Tv 0), .int sv_165, .int sv_166, .int sv_167, .int sv_168])), ((Ta 1), .inl (tc 0, 400, .inl (Tf 1))), ((Va 0), .inr (7, [.ref (Va 1), .int sv_174, .int sv_163])), ((Va 1), .inl (tc 0, 400, .inl sv_175))] := hD₀
                replace hS := hS₀
                clear hP₀ hD₀ hS₀
                obtain ⟨x_176, ex_176⟩ : ∃ y : Int32, y = vy_22 + 1 := ⟨_, rfl⟩
                refine lv_iinc (v := x_176) (lv' := [(4, .int x_176), (5, .int r_149), (3, .int vy_30), (0, .ref (Va 0)), (1, .ref (Ta 0)), (2, .int 4)]) hx hb dX7_readTest_86 hl (k := 1) rfl (by rw [ex_176]; rfl) (by decide) rfl (fun ls hl₀ => ?_)
                replace hl := hl₀
                clear hl₀
                refine lv_goto (tgt := 11) hx hb dX7_readTest_89 (by decide) ?_
                have hb_177 : 0 ≤ (x_176 : Int32).toInt ∧ (400 - (x_176 : Int32).toInt).toNat < n_31 := by
                  have z_1 := Int32.lt_iff_toInt_lt.mp (Int32.not_le.mp c_37)
                  have y_400 : (400 : Int32).toInt = 400 := by decide
                  have y_1 : (1 : Int32).toInt = 1 := by decide
                  have t_x_176 : x_176.toInt = (vy_22 : Int32).toInt + (1 : Int32).toInt := by rw [ex_176]; exact add_toInt (by omega) (by omega)
                  omega
                exact ih_32 x_176 sv_174 sv_163 sv_175 sv_165 sv_166 sv_167 sv_168 vy_30 _ _ _ hb_177.1 hb_177.2 he_169 (hP.sub [2, 3, 0, 1] rfl) (hD.sub [2, 3, 0, 1] rfl rfl) hS (lv_sub hl [0, 2, 3, 4, 5] rfl)
              · skip
                exfalso
                have z_1 := Int32.lt_iff_toInt_lt.mp (Int32.not_le.mp c_37)
                have z_2 := congrArg Int32.toInt c_50
                have z_3 : ¬ (r_136 : Int32).toInt = (0 : Int32).toInt := fun z => c_138 (Int32.toInt_inj.mp z)
                have z_4 := congrArg Int32.toInt c_151
                have z_5 : ¬ (r_149 : Int32).toInt = (0 : Int32).toInt := fun z => c_170 (Int32.toInt_inj.mp z)
                have y_0 : (0 : Int32).toInt = 0 := by decide
                have y_400 : (400 : Int32).toInt = 400 := by decide
                omega
            · skip
              refine lv_iload_n hx hb dX7_readTest_50 rfl (lv_at hl 2 rfl) ?_
              refine lv_if_eq (tgt := 60) hx hb dX7_readTest_51 (by decide) (fun c_178 => ?_) (fun c_178 => ?_)
              · skip
                refine lv_aload_n hx hb dX7_readTest_60 rfl (lv_at hl 4 rfl) ?_
                refine cV (a := (Ta 0)) (As := []) (rest := []) (wr := [((Va 0), .inr (7, [.ref (Va 1), .int vy_23, .int vy_24])), ((Va 1), .inl (tc 0, 400, .inl vy_25))]) ⟨hx, hb, hml, hown, hts⟩ hK hX hA (cu_X10_step l D tc sk (Ta 0) (Ta 1) (Tv 0) vy_26 vy_27 vy_28 vy_29 (Tf 1) he_150.2) k_478 k_620 k_476 k_477 k_96 pl_X10_step ⟨Nat.le_of_ble_eq_true rfl, Nat.le_of_ble_eq_true rfl⟩ rfl rfl (va_recv hK hP (ci := 10) (q0 := 2) rfl rfl) hP hD hS [2, 3] [0, 1] rfl rfl rfl rfl rfl (by decide) rfl hl.1 rfl (Nat.le_of_ble_eq_true rfl) dX7_readTest_61 ⟨Nat.le_of_ble_eq_true rfl, Nat.le_of_ble_eq_true rfl⟩ (fun v_179 u_180 H locs hv_181 hP₀ hD₀ hS₀ => ?_)
                obtain ⟨sv_182, sv_183, sv_184⟩ := u_180
                obtain ⟨rfl, he_185⟩ := hv_181
                clear he_150
                have he_185 : (0 ≤ ((Tv 0) : Int32).toInt ∧ ((Tv 0) : Int32).toInt ≤ 400 ∧ 0 ≤ (sv_182 : Int32).toInt ∧ (sv_182 : Int32).toInt ≤ 400 ∧ 0 ≤ (sv_183 : Int32).toInt ∧ (sv_183 : Int32).toInt ≤ 400) := he_185
                refine W.eq (g2 := F0 m 64 ls []) rfl ?_
                replace hP : va_P D classes [((Va 0), .inr (7, [.ref (Va 1), .int vy_23, .int vy_24])), ((Va 1), .inl (tc 0, 400, .inl vy_25)), ((Ta 0), .inr (10, [.ref (Ta 1), .int (Tv 0), .int sv_182, .int sv_183, .int sv_184, .int vy_29])), ((Ta 1), .inl (tc 0, 400, .inl (Tf 1)))] H := hP₀
                replace hD : va_D A [((Va 0), .inr (7, [.ref (Va 1), .int vy_23, .int vy_24])), ((Va 1), .inl (tc 0, 400, .inl vy_25)), ((Ta 0), .inr (10, [.ref (Ta 1), .int (Tv 0), .int sv_182, .int sv_183, .int sv_184, .int vy_29])), ((Ta 1), .inl (tc 0, 400, .inl (Tf 1)))] := hD₀
                replace hS := hS₀
                clear hP₀ hD₀ hS₀
                refine lv_aload_n hx hb dX7_readTest_64 rfl (lv_at hl 3 rfl) ?_
                refine lv_aload_n hx hb dX7_readTest_65 rfl (lv_at hl 4 rfl) ?_
                refine lv_iload_n hx hb dX7_readTest_66 rfl (lv_at hl 5 rfl) ?_
                refine cV (a := (Va 0)) (As := [.ref (Ta 0), .int 4]) (rest := []) (wr := []) ⟨hx, hb, hml, hown, hts⟩ hK hX hA (cu_X7_readFact_4 l D tc sk (Va 0) (Va 1) vy_23 vy_24 vy_25 (Ta 0) (Ta 1) (Tv 0) sv_182 sv_183 sv_184 vy_29 (Tf 1) he_185) k_659 k_656 k_658 k_12 k_99 pl_X7_readFact ⟨Nat.le_of_ble_eq_true rfl, Nat.le_of_ble_eq_true rfl⟩ rfl rfl (va_recv hK hP (ci := 7) (q0 := 0) rfl rfl) hP hD hS [0, 1, 2, 3] [] rfl rfl rfl rfl rfl (by decide) rfl hl.1 rfl (Nat.le_of_ble_eq_true rfl) dX7_readTest_67 ⟨Nat.le_of_ble_eq_true rfl, Nat.le_of_ble_eq_true rfl⟩ (fun v_186 u_187 H locs hv_188 hP₀ hD₀ hS₀ => ?_)
                obtain ⟨sv_189, sv_190, sv_191, sv_192, sv_193, sv_194, sv_195⟩ := u_187
                obtain ⟨rfl, he_196⟩ := hv_188
                clear he_185
                have he_196 : (0 ≤ ((Tv 0) : Int32).toInt ∧ ((Tv 0) : Int32).toInt ≤ 400 ∧ 0 ≤ (sv_192 : Int32).toInt ∧ (sv_192 : Int32).toInt ≤ 400 ∧ 0 ≤ (sv_193 : Int32).toInt ∧ (sv_193 : Int32).toInt ≤ 400) := he_196
                refine W.eq (g2 := F0 m 70 ls []) rfl ?_
                replace hP : va_P D classes [((Va 0), .inr (7, [.ref (Va 1), .int sv_189, .int sv_190])), ((Va 1), .inl (tc 0, 400, .inl sv_191)), ((Ta 0), .inr (10, [.ref (Ta 1), .int (Tv 0), .int sv_192, .int sv_193, .int sv_194, .int sv_195])), ((Ta 1), .inl (tc 0, 400, .inl (Tf 1)))] H := hP₀
                replace hD : va_D A [((Va 0), .inr (7, [.ref (Va 1), .int sv_189, .int sv_190])), ((Va 1), .inl (tc 0, 400, .inl sv_191)), ((Ta 0), .inr (10, [.ref (Ta 1), .int (Tv 0), .int sv_192, .int sv_193, .int sv_194, .int sv_195])), ((Ta 1), .inl (tc 0, 400, .inl (Tf 1)))] := hD₀
                replace hS := hS₀
                clear hP₀ hD₀ hS₀
                refine lv_iload hx hb dX7_readTest_70 (lv_at hl 0 rfl) ?_
                refine lv_if_eq (tgt := 80) hx hb dX7_readTest_72 (by decide) (fun c_197 => ?_) (fun c_197 => ?_)
                · skip
                  exfalso
                  have z_1 := Int32.lt_iff_toInt_lt.mp (Int32.not_le.mp c_37)
                  have z_2 := congrArg Int32.toInt c_50
                  have z_3 : ¬ (r_136 : Int32).toInt = (0 : Int32).toInt := fun z => c_138 (Int32.toInt_inj.mp z)
                  have z_4 : ¬ (r_149 : Int32).toInt = (0 : Int32).toInt := fun z => c_151 (Int32.toInt_inj.mp z)
                  have z_5 := congrArg Int32.toInt c_178
                  have z_6 := congrArg Int32.toInt c_197
                  have y_0 : (0 : Int32).toInt = 0 := by decide
                  have y_400 : (400 : Int32).toInt = 400 := by decide
                  omega
                · skip
                  refine lv_iconst (v := 1) hx hb dX7_readTest_75 (by decide) ?_
                  refine lv_istore_n (lv' := [(3, .int 1), (5, .int r_149), (4, .int vy_22), (0, .ref (Va 0)), (1, .ref (Ta 0)), (2, .int 4)]) hx hb dX7_readTest_76 rfl hl (by decide) rfl (fun ls hl₀ => ?_)
                  replace hl := hl₀
                  clear hl₀
                  refine lv_goto (tgt := 86) hx hb dX7_readTest_77 (by decide) ?_
                  obtain ⟨x_198, ex_198⟩ : ∃ y : Int32, y = vy_22 + 1 := ⟨_, rfl⟩
                  refine lv_iinc (v := x_198) (lv' := [(4, .int x_198), (3, .int 1), (5, .int r_149), (0, .ref (Va 0)), (1, .ref (Ta 0)), (2, .int 4)]) hx hb dX7_readTest_86 hl (k := 2) rfl (by rw [ex_198]; rfl) (by decide) rfl (fun ls hl₀ => ?_)
                  replace hl := hl₀
                  clear hl₀
                  refine lv_goto (tgt := 11) hx hb dX7_readTest_89 (by decide) ?_
                  have hb_199 : 0 ≤ (x_198 : Int32).toInt ∧ (400 - (x_198 : Int32).toInt).toNat < n_31 := by
                    have z_1 := Int32.lt_iff_toInt_lt.mp (Int32.not_le.mp c_37)
                    have y_400 : (400 : Int32).toInt = 400 := by decide
                    have y_1 : (1 : Int32).toInt = 1 := by decide
                    have t_x_198 : x_198.toInt = (vy_22 : Int32).toInt + (1 : Int32).toInt := by rw [ex_198]; exact add_toInt (by omega) (by omega)
                    omega
                  exact ih_32 x_198 sv_189 sv_190 sv_191 sv_192 sv_193 sv_194 sv_195 1 _ _ _ hb_199.1 hb_199.2 he_196 (hP.sub [0, 1, 2, 3] rfl) (hD.sub [0, 1, 2, 3] rfl rfl) hS (lv_sub hl [0, 1, 3, 4, 5] rfl)
              · skip
                refine lv_aload_n hx hb dX7_readTest_54 rfl (lv_at hl 3 rfl) ?_
                refine lv_bipush (v := (-6)) hx hb dX7_readTest_55 (by decide) ?_
                refine cV (a := (Va 0)) (As := [.int (-6)]) (rest := []) (wr := [((Ta 0), .inr (10, [.ref (Ta 1), .int (Tv 0), .int vy_26, .int vy_27, .int vy_28, .int vy_29])), ((Ta 1), .inl (tc 0, 400, .inl (Tf 1)))]) ⟨hx, hb, hml, hown, hts⟩ hK hX hA (cu_X7_put l D tc sk (Va 0) (Va 1) vy_23 vy_24 vy_25 (-6)) k_642 k_639 k_641 k_10 k_99 pl_X7_put ⟨Nat.le_of_ble_eq_true rfl, Nat.le_of_ble_eq_true rfl⟩ rfl rfl (va_recv hK hP (ci := 7) (q0 := 0) rfl rfl) hP hD hS [0, 1] [2, 3] rfl rfl rfl rfl rfl (by decide) rfl hl.1 rfl (Nat.le_of_ble_eq_true rfl) dX7_readTest_57 ⟨Nat.le_of_ble_eq_true rfl, Nat.le_of_ble_eq_true rfl⟩ (fun v_200 u_201 H locs hv_202 hP₀ hD₀ hS₀ => ?_)
                obtain ⟨sv_203, sv_204⟩ := u_201
                obtain rfl : v_200 = none := hv_202
                refine W.eq (g2 := F0 m 60 ls []) rfl ?_
                replace hP : va_P D classes [((Ta 0), .inr (10, [.ref (Ta 1), .int (Tv 0), .int vy_26, .int vy_27, .int vy_28, .int vy_29])), ((Ta 1), .inl (tc 0, 400, .inl (Tf 1))), ((Va 0), .inr (7, [.ref (Va 1), .int sv_203, .int vy_24])), ((Va 1), .inl (tc 0, 400, .inl sv_204))] H := hP₀
                replace hD : va_D A [((Ta 0), .inr (10, [.ref (Ta 1), .int (Tv 0), .int vy_26, .int vy_27, .int vy_28, .int vy_29])), ((Ta 1), .inl (tc 0, 400, .inl (Tf 1))), ((Va 0), .inr (7, [.ref (Va 1), .int sv_203, .int vy_24])), ((Va 1), .inl (tc 0, 400, .inl sv_204))] := hD₀
                replace hS := hS₀
                clear hP₀ hD₀ hS₀
                refine lv_aload_n hx hb dX7_readTest_60 rfl (lv_at hl 4 rfl) ?_
                refine cV (a := (Ta 0)) (As := []) (rest := []) (wr := [((Va 0), .inr (7, [.ref (Va 1), .int sv_203, .int vy_24])), ((Va 1), .inl (tc 0, 400, .inl sv_204))]) ⟨hx, hb, hml, hown, hts⟩ hK hX hA (cu_X10_step l D tc sk (Ta 0) (Ta 1) (Tv 0) vy_26 vy_27 vy_28 vy_29 (Tf 1) he_150.2) k_478 k_620 k_476 k_477 k_96 pl_X10_step ⟨Nat.le_of_ble_eq_true rfl, Nat.le_of_ble_eq_true rfl⟩ rfl rfl (va_recv hK hP (ci := 10) (q0 := 0) rfl rfl) hP hD hS [0, 1] [2, 3] rfl rfl rfl rfl rfl (by decide) rfl hl.1 rfl (Nat.le_of_ble_eq_true rfl) dX7_readTest_61 ⟨Nat.le_of_ble_eq_true rfl, Nat.le_of_ble_eq_true rfl⟩ (fun v_205 u_206 H locs hv_207 hP₀ hD₀ hS₀ => ?_)
                obtain ⟨sv_208, sv_209, sv_210⟩ := u_206
                obtain ⟨rfl, he_211⟩ := hv_207
                clear he_150
                have he_211 : (0 ≤ ((Tv 0) : Int32).toInt ∧ ((Tv 0) : Int32).toInt ≤ 400 ∧ 0 ≤ (sv_208 : Int32).toInt ∧ (sv_208 : Int32).toInt ≤ 400 ∧ 0 ≤ (sv_209 : Int32).toInt ∧ (sv_209 : Int32).toInt ≤ 400) := he_211
                refine W.eq (g2 := F0 m 64 ls []) rfl ?_
                replace hP : va_P D classes [((Va 0), .inr (7, [.ref (Va 1), .int sv_203, .int vy_24])), ((Va 1), .inl (tc 0, 400, .inl sv_204)), ((Ta 0), .inr (10, [.ref (Ta 1), .int (Tv 0), .int sv_208, .int sv_209, .int sv_210, .int vy_29])), ((Ta 1), .inl (tc 0, 400, .inl (Tf 1)))] H := hP₀
                replace hD : va_D A [((Va 0), .inr (7, [.ref (Va 1), .int sv_203, .int vy_24])), ((Va 1), .inl (tc 0, 400, .inl sv_204)), ((Ta 0), .inr (10, [.ref (Ta 1), .int (Tv 0), .int sv_208, .int sv_209, .int sv_210, .int vy_29])), ((Ta 1), .inl (tc 0, 400, .inl (Tf 1)))] := hD₀
                replace hS := hS₀
                clear hP₀ hD₀ hS₀
                refine lv_aload_n hx hb dX7_readTest_64 rfl (lv_at hl 3 rfl) ?_
                refine lv_aload_n hx hb dX7_readTest_65 rfl (lv_at hl 4 rfl) ?_
                refine lv_iload_n hx hb dX7_readTest_66 rfl (lv_at hl 5 rfl) ?_
                refine cV (a := (Va 0)) (As := [.ref (Ta 0), .int 4]) (rest := []) (wr := []) ⟨hx, hb, hml, hown, hts⟩ hK hX hA (cu_X7_readFact_4 l D tc sk (Va 0) (Va 1) sv_203 vy_24 sv_204 (Ta 0) (Ta 1) (Tv 0) sv_208 sv_209 sv_210 vy_29 (Tf 1) he_211) k_659 k_656 k_658 k_12 k_99 pl_X7_readFact ⟨Nat.le_of_ble_eq_true rfl, Nat.le_of_ble_eq_true rfl⟩ rfl rfl (va_recv hK hP (ci := 7) (q0 := 0) rfl rfl) hP hD hS [0, 1, 2, 3] [] rfl rfl rfl rfl rfl (by decide) rfl hl.1 rfl (Nat.le_of_ble_eq_true rfl) dX7_readTest_67 ⟨Nat.le_of_ble_eq_true rfl, Nat.le_of_ble_eq_true rfl⟩ (fun v_212 u_213 H locs hv_214 hP₀ hD₀ hS₀ => ?_)
                obtain ⟨sv_215, sv_216, sv_217, sv_218, sv_219, sv_220, sv_221⟩ := u_213
                obtain ⟨rfl, he_222⟩ := hv_214
                clear he_211
                have he_222 : (0 ≤ ((Tv 0) : Int32).toInt ∧ ((Tv 0) : Int32).toInt ≤ 400 ∧ 0 ≤ (sv_218 : Int32).toInt ∧ (sv_218 : Int32).toInt ≤ 400 ∧ 0 ≤ (sv_219 : Int32).toInt ∧ (sv_219 : Int32).toInt ≤ 400) := he_222
                refine W.eq (g2 := F0 m 70 ls []) rfl ?_
                replace hP : va_P D classes [((Va 0), .inr (7, [.ref (Va 1), .int sv_215, .int sv_216])), ((Va 1), .inl (tc 0, 400, .inl sv_217)), ((Ta 0), .inr (10, [.ref (Ta 1), .int (Tv 0), .int sv_218, .int sv_219, .int sv_220, .int sv_221])), ((Ta 1), .inl (tc 0, 400, .inl (Tf 1)))] H := hP₀
                replace hD : va_D A [((Va 0), .inr (7, [.ref (Va 1), .int sv_215, .int sv_216])), ((Va 1), .inl (tc 0, 400, .inl sv_217)), ((Ta 0), .inr (10, [.ref (Ta 1), .int (Tv 0), .int sv_218, .int sv_219, .int sv_220, .int sv_221])), ((Ta 1), .inl (tc 0, 400, .inl (Tf 1)))] := hD₀
                replace hS := hS₀
                clear hP₀ hD₀ hS₀
                refine lv_iload hx hb dX7_readTest_70 (lv_at hl 0 rfl) ?_
                refine lv_if_eq (tgt := 80) hx hb dX7_readTest_72 (by decide) (fun c_223 => ?_) (fun c_223 => ?_)
                · skip
                  exfalso
                  have z_1 := Int32.lt_iff_toInt_lt.mp (Int32.not_le.mp c_37)
                  have z_2 := congrArg Int32.toInt c_50
                  have z_3 : ¬ (r_136 : Int32).toInt = (0 : Int32).toInt := fun z => c_138 (Int32.toInt_inj.mp z)
                  have z_4 : ¬ (r_149 : Int32).toInt = (0 : Int32).toInt := fun z => c_151 (Int32.toInt_inj.mp z)
                  have z_5 : ¬ (vy_30 : Int32).toInt = (0 : Int32).toInt := fun z => c_178 (Int32.toInt_inj.mp z)
                  have z_6 := congrArg Int32.toInt c_223
                  have y_0 : (0 : Int32).toInt = 0 := by decide
                  have y_400 : (400 : Int32).toInt = 400 := by decide
                  omega
                · skip
                  refine lv_iconst (v := 1) hx hb dX7_readTest_75 (by decide) ?_
                  refine lv_istore_n (lv' := [(3, .int 1), (5, .int r_149), (4, .int vy_22), (0, .ref (Va 0)), (1, .ref (Ta 0)), (2, .int 4)]) hx hb dX7_readTest_76 rfl hl (by decide) rfl (fun ls hl₀ => ?_)
                  replace hl := hl₀
                  clear hl₀
                  refine lv_goto (tgt := 86) hx hb dX7_readTest_77 (by decide) ?_
                  obtain ⟨x_224, ex_224⟩ : ∃ y : Int32, y = vy_22 + 1 := ⟨_, rfl⟩
                  refine lv_iinc (v := x_224) (lv' := [(4, .int x_224), (3, .int 1), (5, .int r_149), (0, .ref (Va 0)), (1, .ref (Ta 0)), (2, .int 4)]) hx hb dX7_readTest_86 hl (k := 2) rfl (by rw [ex_224]; rfl) (by decide) rfl (fun ls hl₀ => ?_)
                  replace hl := hl₀
                  clear hl₀
                  refine lv_goto (tgt := 11) hx hb dX7_readTest_89 (by decide) ?_
                  have hb_225 : 0 ≤ (x_224 : Int32).toInt ∧ (400 - (x_224 : Int32).toInt).toNat < n_31 := by
                    have z_1 := Int32.lt_iff_toInt_lt.mp (Int32.not_le.mp c_37)
                    have y_400 : (400 : Int32).toInt = 400 := by decide
                    have y_1 : (1 : Int32).toInt = 1 := by decide
                    have t_x_224 : x_224.toInt = (vy_22 : Int32).toInt + (1 : Int32).toInt := by rw [ex_224]; exact add_toInt (by omega) (by omega)
                    omega
                  exact ih_32 x_224 sv_215 sv_216 sv_217 sv_218 sv_219 sv_220 sv_221 1 _ _ _ hb_225.1 hb_225.2 he_222 (hP.sub [0, 1, 2, 3] rfl) (hD.sub [0, 1, 2, 3] rfl rfl) hS (lv_sub hl [0, 1, 3, 4, 5] rfl)
  have h0_226 : 0 ≤ (0 : Int32).toInt := by
    have y_0 : (0 : Int32).toInt = 0 := by decide
    decide
  exact loop_33 _ 0 sv_4 sv_5 sv_6 sv_7 sv_8 sv_9 sv_10 0 _ _ _ h0_226 (Nat.lt_succ_self _) he_11 hP hD hS hl
set_option maxRecDepth 100000 in
theorem cu_X7_readTest_4 (l : Launch) (D : va_G) (tc : Nat → ClassId) (sk : (Nat → Nat) × (Nat → Nat)) (Va_0 : Nat) (Va_1 : Nat) (Vv_0 : Int32) (Vv_1 : Int32) (Vf_1 : Nat → Int32) (Ta_0 : Nat) (Ta_1 : Nat) (Tv_0 : Int32) (Tv_1 : Int32) (Tv_2 : Int32) (Tv_3 : Int32) (Tv_4 : Int32) (Tf_1 : Nat → Int32) (h_tape : 0 ≤ (Tv_0 : Int32).toInt ∧ (Tv_0 : Int32).toInt ≤ 400 ∧ 0 ≤ (Tv_1 : Int32).toInt ∧ (Tv_1 : Int32).toInt ≤ 400 ∧ 0 ≤ (Tv_2 : Int32).toInt ∧ (Tv_2 : Int32).toInt ≤ 400) : Ct l yX7_readTest cX7_readTest 6 none { frames := 21, cells := 0, slots := 0, locals := 498 } D tc sk [.ref Va_0, .ref Ta_0, .int 4] [(Va_0, .inr (7, [.ref Va_1, .int Vv_0, .int Vv_1])), (Va_1, .inl (tc 0, 400, .inl Vf_1)), (Ta_0, .inr (10, [.ref Ta_1, .int Tv_0, .int Tv_1, .int Tv_2, .int Tv_3, .int Tv_4])), (Ta_1, .inl (tc 0, 400, .inl Tf_1))] (fun (v : Option Value) (u : (Int32) × (Int32) × (Nat → Int32) × (Int32) × (Int32) × (Int32) × (Int32)) => match u with | (o1, o2, o3, o4, o5, o6, o7) => v = none ∧ (0 ≤ (Tv_0 : Int32).toInt ∧ (Tv_0 : Int32).toInt ≤ 400 ∧ 0 ≤ (o4 : Int32).toInt ∧ (o4 : Int32).toInt ≤ 400 ∧ 0 ≤ (o5 : Int32).toInt ∧ (o5 : Int32).toInt ≤ 400)) (fun (u : (Int32) × (Int32) × (Nat → Int32) × (Int32) × (Int32) × (Int32) × (Int32)) => match u with | (o1, o2, o3, o4, o5, o6, o7) => [(Va_0, .inr (7, [.ref Va_1, .int o1, .int o2])), (Va_1, .inl (tc 0, 400, .inl o3)), (Ta_0, .inr (10, [.ref Ta_1, .int Tv_0, .int o4, .int o5, .int o6, .int o7])), (Ta_1, .inl (tc 0, 400, .inl Tf_1))]) 0 0 :=
  ct_X7_readTest_4 l D tc sk (fun k => ([Va_0, Va_1] : List (Nat)).getD k 0) (fun k => ([Vv_0, Vv_1] : List (Int32)).getD k 0) (fun k => ([(fun _ => 0), Vf_1] : List (Nat → Int32)).getD k (fun _ => 0)) (fun k => ([Ta_0, Ta_1] : List (Nat)).getD k 0) (fun k => ([Tv_0, Tv_1, Tv_2, Tv_3, Tv_4] : List (Int32)).getD k 0) (fun k => ([(fun _ => 0), Tf_1] : List (Nat → Int32)).getD k (fun _ => 0)) h_tape
set_option maxHeartbeats 4000000 in
set_option maxRecDepth 100000 in
theorem ct_X7_readFact_3 (l : Launch) (D : va_G) (tc : Nat → ClassId) (sk : (Nat → Nat) × (Nat → Nat)) (Va : Nat → Nat) (Vv : Nat → Int32) (Vf : Nat → Nat → Int32) (Ta : Nat → Nat) (Tv : Nat → Int32) (Tf : Nat → Nat → Int32) (h_tape : 0 ≤ ((Tv 0) : Int32).toInt ∧ ((Tv 0) : Int32).toInt ≤ 400 ∧ 0 ≤ ((Tv 1) : Int32).toInt ∧ ((Tv 1) : Int32).toInt ≤ 400 ∧ 0 ≤ ((Tv 2) : Int32).toInt ∧ ((Tv 2) : Int32).toInt ≤ 400) : Ct l yX7_readFact cX7_readFact 5 none { frames := 22, cells := 0, slots := 0, locals := 523 } D tc sk [.ref (Va 0), .ref (Ta 0), .int 3] [((Va 0), .inr (7, [.ref (Va 1), .int (Vv 0), .int (Vv 1)])), ((Va 1), .inl (tc 0, 400, .inl (Vf 1))), ((Ta 0), .inr (10, [.ref (Ta 1), .int (Tv 0), .int (Tv 1), .int (Tv 2), .int (Tv 3), .int (Tv 4)])), ((Ta 1), .inl (tc 0, 400, .inl (Tf 1)))] (fun (v : Option Value) (u : (Int32) × (Int32) × (Nat → Int32) × (Int32) × (Int32) × (Int32) × (Int32)) => match u with | (o1, o2, o3, o4, o5, o6, o7) => v = none ∧ (0 ≤ ((Tv 0) : Int32).toInt ∧ ((Tv 0) : Int32).toInt ≤ 400 ∧ 0 ≤ (o4 : Int32).toInt ∧ (o4 : Int32).toInt ≤ 400 ∧ 0 ≤ (o5 : Int32).toInt ∧ (o5 : Int32).toInt ≤ 400)) (fun (u : (Int32) × (Int32) × (Nat → Int32) × (Int32) × (Int32) × (Int32) × (Int32)) => match u with | (o1, o2, o3, o4, o5, o6, o7) => [((Va 0), .inr (7, [.ref (Va 1), .int o1, .int o2])), ((Va 1), .inl (tc 0, 400, .inl o3)), ((Ta 0), .inr (10, [.ref (Ta 1), .int (Tv 0), .int o4, .int o5, .int o6, .int o7])), ((Ta 1), .inl (tc 0, 400, .inl (Tf 1)))]) 0 0 := by
  refine Ct.start (by decide) (Nat.le_of_ble_eq_true rfl) (fun p e s m below meth c A ls hx hb hr hlk hin hml hown hts hK hX hP hD hA hl hS => ?_)
  have hl : lv_has ls 5 [(0, .ref (Va 0)), (1, .ref (Ta 0)), (2, .int 3)] := hl
  refine lv_aload_n hx hb dX7_readFact_0 rfl (lv_at hl 1 rfl) ?_
  refine va_ldcS hx hb hown (sx_4 hX) dX7_readFact_1 ?_
  have hh_1 : (4 : Nat) < 7 := by
    have y_4 : (4 : Int32).toInt = 4 := by decide
    omega
  refine cV (a := (Ta 0)) (As := [.ref (sk.1 4)]) (rest := []) (wr := [((Va 0), .inr (7, [.ref (Va 1), .int (Vv 0), .int (Vv 1)])), ((Va 1), .inl (tc 0, 400, .inl (Vf 1)))]) ⟨hx, hb, hml, hown, hts⟩ hK hX hA (cu_X10_isWord l D tc sk (Ta 0) (Ta 1) (Tv 0) (Tv 1) (Tv 2) (Tv 3) (Tv 4) (Tf 1) 4 hh_1 h_tape) k_618 k_615 k_616 k_617 k_96 pl_X10_isWord ⟨Nat.le_of_ble_eq_true rfl, Nat.le_of_ble_eq_true rfl⟩ rfl rfl (va_recv hK hP (ci := 10) (q0 := 2) rfl rfl) hP hD hS [2, 3] [0, 1] rfl rfl rfl rfl rfl (by decide) rfl hl.1 rfl (Nat.le_of_ble_eq_true rfl) dX7_readFact_3 ⟨Nat.le_of_ble_eq_true rfl, Nat.le_of_ble_eq_true rfl⟩ (fun v_2 u_3 H locs hv_4 hP₀ hD₀ hS₀ => ?_)
  obtain ⟨r_5, rfl, he_6⟩ := hv_4
  have he_6 : ((r_5.toInt = 0 ∨ r_5.toInt = 1)) ∧ (0 ≤ ((Tv 0) : Int32).toInt ∧ ((Tv 0) : Int32).toInt ≤ 400 ∧ 0 ≤ ((Tv 1) : Int32).toInt ∧ ((Tv 1) : Int32).toInt ≤ 400 ∧ 0 ≤ ((Tv 2) : Int32).toInt ∧ ((Tv 2) : Int32).toInt ≤ 400) := he_6
  refine W.eq (g2 := F0 m 6 ls [.int r_5]) rfl ?_
  replace hP : va_P D classes [((Va 0), .inr (7, [.ref (Va 1), .int (Vv 0), .int (Vv 1)])), ((Va 1), .inl (tc 0, 400, .inl (Vf 1))), ((Ta 0), .inr (10, [.ref (Ta 1), .int (Tv 0), .int (Tv 1), .int (Tv 2), .int (Tv 3), .int (Tv 4)])), ((Ta 1), .inl (tc 0, 400, .inl (Tf 1)))] H := hP₀
  replace hD : va_D A [((Va 0), .inr (7, [.ref (Va 1), .int (Vv 0), .int (Vv 1)])), ((Va 1), .inl (tc 0, 400, .inl (Vf 1))), ((Ta 0), .inr (10, [.ref (Ta 1), .int (Tv 0), .int (Tv 1), .int (Tv 2), .int (Tv 3), .int (Tv 4)])), ((Ta 1), .inl (tc 0, 400, .inl (Tf 1)))] := hD₀
  replace hS := hS₀
  clear hP₀ hD₀ hS₀
  refine lv_istore_n (lv' := [(3, .int r_5), (0, .ref (Va 0)), (1, .ref (Ta 0)), (2, .int 3)]) hx hb dX7_readFact_6 rfl hl (by decide) rfl (fun ls hl₀ => ?_)
  replace hl := hl₀
  clear hl₀
  refine lv_iload_n hx hb dX7_readFact_7 rfl (lv_at hl 0 rfl) ?_
  refine lv_if_ne (tgt := 20) hx hb dX7_readFact_8 (by decide) (fun c_7 => ?_) (fun c_7 => ?_)
  · skip
    refine lv_iload_n hx hb dX7_readFact_20 rfl (lv_at hl 3 rfl) ?_
    refine lv_bipush (v := 10) hx hb dX7_readFact_21 (by decide) ?_
    refine lv_icmp_lt (tgt := 34) hx hb dX7_readFact_23 (by decide) (fun c_8 => ?_) (fun c_8 => absurd c_8 (by decide))
    refine lv_iload_n hx hb dX7_readFact_34 rfl (lv_at hl 0 rfl) ?_
    refine lv_if_eq (tgt := 59) hx hb dX7_readFact_35 (by decide) (fun c_9 => ?_) (fun c_9 => ?_)
    · skip
      exfalso
      have z_1 : ¬ (r_5 : Int32).toInt = (0 : Int32).toInt := fun z => c_7 (Int32.toInt_inj.mp z)
      have z_2 := congrArg Int32.toInt c_9
      have y_0 : (0 : Int32).toInt = 0 := by decide
      omega
    · skip
      refine lv_aload_n hx hb dX7_readFact_38 rfl (lv_at hl 2 rfl) ?_
      refine cV (a := (Ta 0)) (As := []) (rest := []) (wr := [((Va 0), .inr (7, [.ref (Va 1), .int (Vv 0), .int (Vv 1)])), ((Va 1), .inl (tc 0, 400, .inl (Vf 1)))]) ⟨hx, hb, hml, hown, hts⟩ hK hX hA (cu_X10_step l D tc sk (Ta 0) (Ta 1) (Tv 0) (Tv 1) (Tv 2) (Tv 3) (Tv 4) (Tf 1) he_6.2) k_478 k_620 k_476 k_477 k_96 pl_X10_step ⟨Nat.le_of_ble_eq_true rfl, Nat.le_of_ble_eq_true rfl⟩ rfl rfl (va_recv hK hP (ci := 10) (q0 := 2) rfl rfl) hP hD hS [2, 3] [0, 1] rfl rfl rfl rfl rfl (by decide) rfl hl.1 rfl (Nat.le_of_ble_eq_true rfl) dX7_readFact_39 ⟨Nat.le_of_ble_eq_true rfl, Nat.le_of_ble_eq_true rfl⟩ (fun v_10 u_11 H locs hv_12 hP₀ hD₀ hS₀ => ?_)
      obtain ⟨sv_13, sv_14, sv_15⟩ := u_11
      obtain ⟨rfl, he_16⟩ := hv_12
      clear he_6
      have he_16 : (0 ≤ ((Tv 0) : Int32).toInt ∧ ((Tv 0) : Int32).toInt ≤ 400 ∧ 0 ≤ (sv_13 : Int32).toInt ∧ (sv_13 : Int32).toInt ≤ 400 ∧ 0 ≤ (sv_14 : Int32).toInt ∧ (sv_14 : Int32).toInt ≤ 400) := he_16
      refine W.eq (g2 := F0 m 42 ls []) rfl ?_
      replace hP : va_P D classes [((Va 0), .inr (7, [.ref (Va 1), .int (Vv 0), .int (Vv 1)])), ((Va 1), .inl (tc 0, 400, .inl (Vf 1))), ((Ta 0), .inr (10, [.ref (Ta 1), .int (Tv 0), .int sv_13, .int sv_14, .int sv_15, .int (Tv 4)])), ((Ta 1), .inl (tc 0, 400, .inl (Tf 1)))] H := hP₀
      replace hD : va_D A [((Va 0), .inr (7, [.ref (Va 1), .int (Vv 0), .int (Vv 1)])), ((Va 1), .inl (tc 0, 400, .inl (Vf 1))), ((Ta 0), .inr (10, [.ref (Ta 1), .int (Tv 0), .int sv_13, .int sv_14, .int sv_15, .int (Tv 4)])), ((Ta 1), .inl (tc 0, 400, .inl (Tf 1)))] := hD₀
      replace hS := hS₀
      clear hP₀ hD₀ hS₀
      refine lv_aload_n hx hb dX7_readFact_42 rfl (lv_at hl 1 rfl) ?_
      refine lv_aload_n hx hb dX7_readFact_43 rfl (lv_at hl 2 rfl) ?_
      refine lv_iload_n hx hb dX7_readFact_44 rfl (lv_at hl 3 rfl) ?_
      refine lv_iconst (v := 1) hx hb dX7_readFact_45 (by decide) ?_
      refine lv_iadd hx hb dX7_readFact_46 ?_
      refine lv_lit (v := 4) (by decide) ?_
      refine cV (a := (Va 0)) (As := [.ref (Ta 0), .int 4]) (rest := []) (wr := []) ⟨hx, hb, hml, hown, hts⟩ hK hX hA (cu_X7_readFact_4 l D tc sk (Va 0) (Va 1) (Vv 0) (Vv 1) (Vf 1) (Ta 0) (Ta 1) (Tv 0) sv_13 sv_14 sv_15 (Tv 4) (Tf 1) he_16) k_659 k_656 k_658 k_12 k_99 pl_X7_readFact ⟨Nat.le_of_ble_eq_true rfl, Nat.le_of_ble_eq_true rfl⟩ rfl rfl (va_recv hK hP (ci := 7) (q0 := 0) rfl rfl) hP hD hS [0, 1, 2, 3] [] rfl rfl rfl rfl rfl (by decide) rfl hl.1 rfl (Nat.le_of_ble_eq_true rfl) dX7_readFact_47 ⟨Nat.le_of_ble_eq_true rfl, Nat.le_of_ble_eq_true rfl⟩ (fun v_17 u_18 H locs hv_19 hP₀ hD₀ hS₀ => ?_)
      obtain ⟨sv_20, sv_21, sv_22, sv_23, sv_24, sv_25, sv_26⟩ := u_18
      obtain ⟨rfl, he_27⟩ := hv_19
      clear he_16
      have he_27 : (0 ≤ ((Tv 0) : Int32).toInt ∧ ((Tv 0) : Int32).toInt ≤ 400 ∧ 0 ≤ (sv_23 : Int32).toInt ∧ (sv_23 : Int32).toInt ≤ 400 ∧ 0 ≤ (sv_24 : Int32).toInt ∧ (sv_24 : Int32).toInt ≤ 400) := he_27
      refine W.eq (g2 := F0 m 50 ls []) rfl ?_
      replace hP : va_P D classes [((Va 0), .inr (7, [.ref (Va 1), .int sv_20, .int sv_21])), ((Va 1), .inl (tc 0, 400, .inl sv_22)), ((Ta 0), .inr (10, [.ref (Ta 1), .int (Tv 0), .int sv_23, .int sv_24, .int sv_25, .int sv_26])), ((Ta 1), .inl (tc 0, 400, .inl (Tf 1)))] H := hP₀
      replace hD : va_D A [((Va 0), .inr (7, [.ref (Va 1), .int sv_20, .int sv_21])), ((Va 1), .inl (tc 0, 400, .inl sv_22)), ((Ta 0), .inr (10, [.ref (Ta 1), .int (Tv 0), .int sv_23, .int sv_24, .int sv_25, .int sv_26])), ((Ta 1), .inl (tc 0, 400, .inl (Tf 1)))] := hD₀
      replace hS := hS₀
      clear hP₀ hD₀ hS₀
      refine lv_aload_n hx hb dX7_readFact_50 rfl (lv_at hl 1 rfl) ?_
      refine lv_bipush (v := (-4)) hx hb dX7_readFact_51 (by decide) ?_
      refine cV (a := (Va 0)) (As := [.int (-4)]) (rest := []) (wr := [((Ta 0), .inr (10, [.ref (Ta 1), .int (Tv 0), .int sv_23, .int sv_24, .int sv_25, .int sv_26])), ((Ta 1), .inl (tc 0, 400, .inl (Tf 1)))]) ⟨hx, hb, hml, hown, hts⟩ hK hX hA (cu_X7_put l D tc sk (Va 0) (Va 1) sv_20 sv_21 sv_22 (-4)) k_642 k_639 k_641 k_10 k_99 pl_X7_put ⟨Nat.le_of_ble_eq_true rfl, Nat.le_of_ble_eq_true rfl⟩ rfl rfl (va_recv hK hP (ci := 7) (q0 := 0) rfl rfl) hP hD hS [0, 1] [2, 3] rfl rfl rfl rfl rfl (by decide) rfl hl.1 rfl (Nat.le_of_ble_eq_true rfl) dX7_readFact_53 ⟨Nat.le_of_ble_eq_true rfl, Nat.le_of_ble_eq_true rfl⟩ (fun v_28 u_29 H locs hv_30 hP₀ hD₀ hS₀ => ?_)
      obtain ⟨sv_31, sv_32⟩ := u_29
      obtain rfl : v_28 = none := hv_30
      refine W.eq (g2 := F0 m 56 ls []) rfl ?_
      replace hP : va_P D classes [((Ta 0), .inr (10, [.ref (Ta 1), .int (Tv 0), .int sv_23, .int sv_24, .int sv_25, .int sv_26])), ((Ta 1), .inl (tc 0, 400, .inl (Tf 1))), ((Va 0), .inr (7, [.ref (Va 1), .int sv_31, .int sv_21])), ((Va 1), .inl (tc 0, 400, .inl sv_32))] H := hP₀
      replace hD : va_D A [((Ta 0), .inr (10, [.ref (Ta 1), .int (Tv 0), .int sv_23, .int sv_24, .int sv_25, .int sv_26])), ((Ta 1), .inl (tc 0, 400, .inl (Tf 1))), ((Va 0), .inr (7, [.ref (Va 1), .int sv_31, .int sv_21])), ((Va 1), .inl (tc 0, 400, .inl sv_32))] := hD₀
      replace hS := hS₀
      clear hP₀ hD₀ hS₀
      refine lv_goto (tgt := 135) hx hb dX7_readFact_56 (by decide) ?_
      exact retV hx hb hr hlk hP hD hS (sv_31, sv_21, sv_32, sv_23, sv_24, sv_25, sv_26) ⟨rfl, he_27⟩ [2, 3, 0, 1] rfl rfl dX7_readFact_135 (Nat.le_of_ble_eq_true rfl) (Nat.le_of_ble_eq_true rfl) rfl
  · skip
    refine lv_aload_n hx hb dX7_readFact_11 rfl (lv_at hl 2 rfl) ?_
    refine gf_X7_86 hx hb hts hown hK hP 2 rfl rfl dX7_readFact_12 ?_
    refine lv_bipush (v := 91) hx hb dX7_readFact_15 (by decide) ?_
    refine lv_icmp_ne (tgt := 34) hx hb dX7_readFact_17 (by decide) (fun c_33 => ?_) (fun c_33 => ?_)
    · skip
      refine lv_iload_n hx hb dX7_readFact_34 rfl (lv_at hl 0 rfl) ?_
      refine lv_if_eq (tgt := 59) hx hb dX7_readFact_35 (by decide) (fun c_34 => ?_) (fun c_34 => ?_)
      · skip
        refine lv_aload_n hx hb dX7_readFact_59 rfl (lv_at hl 2 rfl) ?_
        refine lv_bipush (v := 91) hx hb dX7_readFact_60 (by decide) ?_
        refine cV (a := (Ta 0)) (As := [.int 91]) (rest := []) (wr := [((Va 0), .inr (7, [.ref (Va 1), .int (Vv 0), .int (Vv 1)])), ((Va 1), .inl (tc 0, 400, .inl (Vf 1)))]) ⟨hx, hb, hml, hown, hts⟩ hK hX hA (cu_X10_takes l D tc sk (Ta 0) (Ta 1) (Tv 0) (Tv 1) (Tv 2) (Tv 3) (Tv 4) (Tf 1) 91 he_6.2) k_492 k_613 k_490 k_491 k_96 pl_X10_takes ⟨Nat.le_of_ble_eq_true rfl, Nat.le_of_ble_eq_true rfl⟩ rfl rfl (va_recv hK hP (ci := 10) (q0 := 2) rfl rfl) hP hD hS [2, 3] [0, 1] rfl rfl rfl rfl rfl (by decide) rfl hl.1 rfl (Nat.le_of_ble_eq_true rfl) dX7_readFact_62 ⟨Nat.le_of_ble_eq_true rfl, Nat.le_of_ble_eq_true rfl⟩ (fun v_35 u_36 H locs hv_37 hP₀ hD₀ hS₀ => ?_)
        obtain ⟨sv_38, sv_39, sv_40⟩ := u_36
        obtain ⟨r_41, rfl, he_42⟩ := hv_37
        clear he_6
        have he_42 : ((r_41.toInt = 0 ∨ (r_41.toInt = 1 ∧ (Tv 3).toInt = (91 : Int32).toInt))) ∧ (0 ≤ ((Tv 0) : Int32).toInt ∧ ((Tv 0) : Int32).toInt ≤ 400 ∧ 0 ≤ (sv_38 : Int32).toInt ∧ (sv_38 : Int32).toInt ≤ 400 ∧ 0 ≤ (sv_39 : Int32).toInt ∧ (sv_39 : Int32).toInt ≤ 400) := he_42
        refine W.eq (g2 := F0 m 65 ls [.int r_41]) rfl ?_
        replace hP : va_P D classes [((Va 0), .inr (7, [.ref (Va 1), .int (Vv 0), .int (Vv 1)])), ((Va 1), .inl (tc 0, 400, .inl (Vf 1))), ((Ta 0), .inr (10, [.ref (Ta 1), .int (Tv 0), .int sv_38, .int sv_39, .int sv_40, .int (Tv 4)])), ((Ta 1), .inl (tc 0, 400, .inl (Tf 1)))] H := hP₀
        replace hD : va_D A [((Va 0), .inr (7, [.ref (Va 1), .int (Vv 0), .int (Vv 1)])), ((Va 1), .inl (tc 0, 400, .inl (Vf 1))), ((Ta 0), .inr (10, [.ref (Ta 1), .int (Tv 0), .int sv_38, .int sv_39, .int sv_40, .int (Tv 4)])), ((Ta 1), .inl (tc 0, 400, .inl (Tf 1)))] := hD₀
        replace hS := hS₀
        clear hP₀ hD₀ hS₀
        refine lv_if_eq (tgt := 93) hx hb dX7_readFact_65 (by decide) (fun c_43 => ?_) (fun c_43 => ?_)
        · skip
          refine lv_aload_n hx hb dX7_readFact_93 rfl (lv_at hl 1 rfl) ?_
          refine lv_aload_n hx hb dX7_readFact_94 rfl (lv_at hl 2 rfl) ?_
          refine cV (a := (Va 0)) (As := [.ref (Ta 0)]) (rest := []) (wr := []) ⟨hx, hb, hml, hown, hts⟩ hK hX hA (cu_X7_readSum l D tc sk (Va 0) (Va 1) (Vv 0) (Vv 1) (Vf 1) (Ta 0) (Ta 1) (Tv 0) sv_38 sv_39 sv_40 (Tv 4) (Tf 1) he_42.2) k_624 k_621 k_623 k_7 k_99 pl_X7_readSum ⟨Nat.le_of_ble_eq_true rfl, Nat.le_of_ble_eq_true rfl⟩ rfl rfl (va_recv hK hP (ci := 7) (q0 := 0) rfl rfl) hP hD hS [0, 1, 2, 3] [] rfl rfl rfl rfl rfl (by decide) rfl hl.1 rfl (Nat.le_of_ble_eq_true rfl) dX7_readFact_95 ⟨Nat.le_of_ble_eq_true rfl, Nat.le_of_ble_eq_true rfl⟩ (fun v_44 u_45 H locs hv_46 hP₀ hD₀ hS₀ => ?_)
          obtain ⟨sv_47, sv_48, sv_49, sv_50, sv_51, sv_52, sv_53⟩ := u_45
          obtain ⟨rfl, he_54⟩ := hv_46
          clear he_42
          have he_54 : (0 ≤ ((Tv 0) : Int32).toInt ∧ ((Tv 0) : Int32).toInt ≤ 400 ∧ 0 ≤ (sv_50 : Int32).toInt ∧ (sv_50 : Int32).toInt ≤ 400 ∧ 0 ≤ (sv_51 : Int32).toInt ∧ (sv_51 : Int32).toInt ≤ 400) := he_54
          refine W.eq (g2 := F0 m 98 ls []) rfl ?_
          replace hP : va_P D classes [((Va 0), .inr (7, [.ref (Va 1), .int sv_47, .int sv_48])), ((Va 1), .inl (tc 0, 400, .inl sv_49)), ((Ta 0), .inr (10, [.ref (Ta 1), .int (Tv 0), .int sv_50, .int sv_51, .int sv_52, .int sv_53])), ((Ta 1), .inl (tc 0, 400, .inl (Tf 1)))] H := hP₀
          replace hD : va_D A [((Va 0), .inr (7, [.ref (Va 1), .int sv_47, .int sv_48])), ((Va 1), .inl (tc 0, 400, .inl sv_49)), ((Ta 0), .inr (10, [.ref (Ta 1), .int (Tv 0), .int sv_50, .int sv_51, .int sv_52, .int sv_53])), ((Ta 1), .inl (tc 0, 400, .inl (Tf 1)))] := hD₀
          replace hS := hS₀
          clear hP₀ hD₀ hS₀
          refine lv_aload_n hx hb dX7_readFact_98 rfl (lv_at hl 2 rfl) ?_
          refine cS (As := [.ref (Ta 0)]) (rest := []) (wr := [((Va 0), .inr (7, [.ref (Va 1), .int sv_47, .int sv_48])), ((Va 1), .inl (tc 0, 400, .inl sv_49))]) ⟨hx, hb, hml, hown, hts⟩ hK hX hA (cu_X7_comparison l D tc sk (Ta 0) (Ta 1) (Tv 0) sv_50 sv_51 sv_52 sv_53 (Tf 1) he_54) k_663 k_661 k_662 k_99 pl_X7_comparison ⟨Nat.le_of_ble_eq_true rfl, Nat.le_of_ble_eq_true rfl⟩ rfl rfl  hP hD hS [2, 3] [0, 1] rfl rfl rfl rfl rfl (by decide) rfl hl.1 rfl (Nat.le_of_ble_eq_true rfl) dX7_readFact_99 ⟨Nat.le_of_ble_eq_true rfl, Nat.le_of_ble_eq_true rfl⟩ (fun v_55 u_56 H locs hv_57 hP₀ hD₀ hS₀ => ?_)
          obtain ⟨r_58, rfl, he_59⟩ := hv_57
          clear he_54
          have he_59 : (True) ∧ (0 ≤ ((Tv 0) : Int32).toInt ∧ ((Tv 0) : Int32).toInt ≤ 400 ∧ 0 ≤ (sv_50 : Int32).toInt ∧ (sv_50 : Int32).toInt ≤ 400 ∧ 0 ≤ (sv_51 : Int32).toInt ∧ (sv_51 : Int32).toInt ≤ 400) := he_59
          refine W.eq (g2 := F0 m 102 ls [.int r_58]) rfl ?_
          replace hP : va_P D classes [((Va 0), .inr (7, [.ref (Va 1), .int sv_47, .int sv_48])), ((Va 1), .inl (tc 0, 400, .inl sv_49)), ((Ta 0), .inr (10, [.ref (Ta 1), .int (Tv 0), .int sv_50, .int sv_51, .int sv_52, .int sv_53])), ((Ta 1), .inl (tc 0, 400, .inl (Tf 1)))] H := hP₀
          replace hD : va_D A [((Va 0), .inr (7, [.ref (Va 1), .int sv_47, .int sv_48])), ((Va 1), .inl (tc 0, 400, .inl sv_49)), ((Ta 0), .inr (10, [.ref (Ta 1), .int (Tv 0), .int sv_50, .int sv_51, .int sv_52, .int sv_53])), ((Ta 1), .inl (tc 0, 400, .inl (Tf 1)))] := hD₀
          replace hS := hS₀
          clear hP₀ hD₀ hS₀
          refine lv_istore (lv' := [(4, .int r_58), (3, .int r_5), (0, .ref (Va 0)), (1, .ref (Ta 0)), (2, .int 3)]) hx hb dX7_readFact_102 hl (by decide) rfl (fun ls hl₀ => ?_)
          replace hl := hl₀
          clear hl₀
          refine lv_iload hx hb dX7_readFact_104 (lv_at hl 0 rfl) ?_
          refine lv_iconst (v := (-1)) hx hb dX7_readFact_106 (by decide) ?_
          refine lv_icmp_ne (tgt := 115) hx hb dX7_readFact_107 (by decide) (fun c_60 => ?_) (fun c_60 => ?_)
          · skip
            refine lv_aload_n hx hb dX7_readFact_115 rfl (lv_at hl 2 rfl) ?_
            refine lv_aload_n hx hb dX7_readFact_116 rfl (lv_at hl 3 rfl) ?_
            refine cV (a := (Va 0)) (As := [.ref (Ta 0)]) (rest := []) (wr := []) ⟨hx, hb, hml, hown, hts⟩ hK hX hA (cu_X7_countOne l D tc sk (Va 0) (Va 1) sv_47 sv_48 sv_49 (Ta 0) (Ta 1) (Tv 0) sv_50 sv_51 sv_52 sv_53 (Tf 1) he_59.2) k_638 k_635 k_637 k_9 k_99 pl_X7_countOne ⟨Nat.le_of_ble_eq_true rfl, Nat.le_of_ble_eq_true rfl⟩ rfl rfl (va_recv hK hP (ci := 7) (q0 := 0) rfl rfl) hP hD hS [0, 1, 2, 3] [] rfl rfl rfl rfl rfl (by decide) rfl hl.1 rfl (Nat.le_of_ble_eq_true rfl) dX7_readFact_117 ⟨Nat.le_of_ble_eq_true rfl, Nat.le_of_ble_eq_true rfl⟩ (fun v_61 u_62 H locs hv_63 hP₀ hD₀ hS₀ => ?_)
            obtain ⟨sv_64, sv_65, sv_66⟩ := u_62
            obtain ⟨rfl, he_67⟩ := hv_63
            clear he_59
            have he_67 : (0 ≤ ((Tv 0) : Int32).toInt ∧ ((Tv 0) : Int32).toInt ≤ 400 ∧ 0 ≤ (sv_50 : Int32).toInt ∧ (sv_50 : Int32).toInt ≤ 400 ∧ 0 ≤ (sv_51 : Int32).toInt ∧ (sv_51 : Int32).toInt ≤ 400) := he_67
            refine W.eq (g2 := F0 m 120 ls []) rfl ?_
            replace hP : va_P D classes [((Va 0), .inr (7, [.ref (Va 1), .int sv_47, .int sv_64])), ((Va 1), .inl (tc 0, 400, .inl sv_49)), ((Ta 0), .inr (10, [.ref (Ta 1), .int (Tv 0), .int sv_50, .int sv_51, .int sv_65, .int sv_66])), ((Ta 1), .inl (tc 0, 400, .inl (Tf 1)))] H := hP₀
            replace hD : va_D A [((Va 0), .inr (7, [.ref (Va 1), .int sv_47, .int sv_64])), ((Va 1), .inl (tc 0, 400, .inl sv_49)), ((Ta 0), .inr (10, [.ref (Ta 1), .int (Tv 0), .int sv_50, .int sv_51, .int sv_65, .int sv_66])), ((Ta 1), .inl (tc 0, 400, .inl (Tf 1)))] := hD₀
            replace hS := hS₀
            clear hP₀ hD₀ hS₀
            refine lv_aload_n hx hb dX7_readFact_120 rfl (lv_at hl 3 rfl) ?_
            refine cV (a := (Ta 0)) (As := []) (rest := []) (wr := [((Va 0), .inr (7, [.ref (Va 1), .int sv_47, .int sv_64])), ((Va 1), .inl (tc 0, 400, .inl sv_49))]) ⟨hx, hb, hml, hown, hts⟩ hK hX hA (cu_X10_step l D tc sk (Ta 0) (Ta 1) (Tv 0) sv_50 sv_51 sv_65 sv_66 (Tf 1) he_67) k_478 k_620 k_476 k_477 k_96 pl_X10_step ⟨Nat.le_of_ble_eq_true rfl, Nat.le_of_ble_eq_true rfl⟩ rfl rfl (va_recv hK hP (ci := 10) (q0 := 2) rfl rfl) hP hD hS [2, 3] [0, 1] rfl rfl rfl rfl rfl (by decide) rfl hl.1 rfl (Nat.le_of_ble_eq_true rfl) dX7_readFact_121 ⟨Nat.le_of_ble_eq_true rfl, Nat.le_of_ble_eq_true rfl⟩ (fun v_68 u_69 H locs hv_70 hP₀ hD₀ hS₀ => ?_)
            obtain ⟨sv_71, sv_72, sv_73⟩ := u_69
            obtain ⟨rfl, he_74⟩ := hv_70
            clear he_67
            have he_74 : (0 ≤ ((Tv 0) : Int32).toInt ∧ ((Tv 0) : Int32).toInt ≤ 400 ∧ 0 ≤ (sv_71 : Int32).toInt ∧ (sv_71 : Int32).toInt ≤ 400 ∧ 0 ≤ (sv_72 : Int32).toInt ∧ (sv_72 : Int32).toInt ≤ 400) := he_74
            refine W.eq (g2 := F0 m 124 ls []) rfl ?_
            replace hP : va_P D classes [((Va 0), .inr (7, [.ref (Va 1), .int sv_47, .int sv_64])), ((Va 1), .inl (tc 0, 400, .inl sv_49)), ((Ta 0), .inr (10, [.ref (Ta 1), .int (Tv 0), .int sv_71, .int sv_72, .int sv_73, .int sv_66])), ((Ta 1), .inl (tc 0, 400, .inl (Tf 1)))] H := hP₀
            replace hD : va_D A [((Va 0), .inr (7, [.ref (Va 1), .int sv_47, .int sv_64])), ((Va 1), .inl (tc 0, 400, .inl sv_49)), ((Ta 0), .inr (10, [.ref (Ta 1), .int (Tv 0), .int sv_71, .int sv_72, .int sv_73, .int sv_66])), ((Ta 1), .inl (tc 0, 400, .inl (Tf 1)))] := hD₀
            replace hS := hS₀
            clear hP₀ hD₀ hS₀
            refine lv_aload_n hx hb dX7_readFact_124 rfl (lv_at hl 2 rfl) ?_
            refine lv_aload_n hx hb dX7_readFact_125 rfl (lv_at hl 3 rfl) ?_
            refine cV (a := (Va 0)) (As := [.ref (Ta 0)]) (rest := []) (wr := []) ⟨hx, hb, hml, hown, hts⟩ hK hX hA (cu_X7_readSum l D tc sk (Va 0) (Va 1) sv_47 sv_64 sv_49 (Ta 0) (Ta 1) (Tv 0) sv_71 sv_72 sv_73 sv_66 (Tf 1) he_74) k_624 k_621 k_623 k_7 k_99 pl_X7_readSum ⟨Nat.le_of_ble_eq_true rfl, Nat.le_of_ble_eq_true rfl⟩ rfl rfl (va_recv hK hP (ci := 7) (q0 := 0) rfl rfl) hP hD hS [0, 1, 2, 3] [] rfl rfl rfl rfl rfl (by decide) rfl hl.1 rfl (Nat.le_of_ble_eq_true rfl) dX7_readFact_126 ⟨Nat.le_of_ble_eq_true rfl, Nat.le_of_ble_eq_true rfl⟩ (fun v_75 u_76 H locs hv_77 hP₀ hD₀ hS₀ => ?_)
            obtain ⟨sv_78, sv_79, sv_80, sv_81, sv_82, sv_83, sv_84⟩ := u_76
            obtain ⟨rfl, he_85⟩ := hv_77
            clear he_74
            have he_85 : (0 ≤ ((Tv 0) : Int32).toInt ∧ ((Tv 0) : Int32).toInt ≤ 400 ∧ 0 ≤ (sv_81 : Int32).toInt ∧ (sv_81 : Int32).toInt ≤ 400 ∧ 0 ≤ (sv_82 : Int32).toInt ∧ (sv_82 : Int32).toInt ≤ 400) := he_85
            refine W.eq (g2 := F0 m 129 ls []) rfl ?_
            replace hP : va_P D classes [((Va 0), .inr (7, [.ref (Va 1), .int sv_78, .int sv_79])), ((Va 1), .inl (tc 0, 400, .inl sv_80)), ((Ta 0), .inr (10, [.ref (Ta 1), .int (Tv 0), .int sv_81, .int sv_82, .int sv_83, .int sv_84])), ((Ta 1), .inl (tc 0, 400, .inl (Tf 1)))] H := hP₀
            replace hD : va_D A [((Va 0), .inr (7, [.ref (Va 1), .int sv_78, .int sv_79])), ((Va 1), .inl (tc 0, 400, .inl sv_80)), ((Ta 0), .inr (10, [.ref (Ta 1), .int (Tv 0), .int sv_81, .int sv_82, .int sv_83, .int sv_84])), ((Ta 1), .inl (tc 0, 400, .inl (Tf 1)))] := hD₀
            replace hS := hS₀
            clear hP₀ hD₀ hS₀
            refine lv_aload_n hx hb dX7_readFact_129 rfl (lv_at hl 2 rfl) ?_
            refine lv_iload hx hb dX7_readFact_130 (lv_at hl 0 rfl) ?_
            refine cV (a := (Va 0)) (As := [.int r_58]) (rest := []) (wr := [((Ta 0), .inr (10, [.ref (Ta 1), .int (Tv 0), .int sv_81, .int sv_82, .int sv_83, .int sv_84])), ((Ta 1), .inl (tc 0, 400, .inl (Tf 1)))]) ⟨hx, hb, hml, hown, hts⟩ hK hX hA (cu_X7_put l D tc sk (Va 0) (Va 1) sv_78 sv_79 sv_80 r_58) k_642 k_639 k_641 k_10 k_99 pl_X7_put ⟨Nat.le_of_ble_eq_true rfl, Nat.le_of_ble_eq_true rfl⟩ rfl rfl (va_recv hK hP (ci := 7) (q0 := 0) rfl rfl) hP hD hS [0, 1] [2, 3] rfl rfl rfl rfl rfl (by decide) rfl hl.1 rfl (Nat.le_of_ble_eq_true rfl) dX7_readFact_132 ⟨Nat.le_of_ble_eq_true rfl, Nat.le_of_ble_eq_true rfl⟩ (fun v_86 u_87 H locs hv_88 hP₀ hD₀ hS₀ => ?_)
            obtain ⟨sv_89, sv_90⟩ := u_87
            obtain rfl : v_86 = none := hv_88
            refine W.eq (g2 := F0 m 135 ls []) rfl ?_
            replace hP : va_P D classes [((Ta 0), .inr (10, [.ref (Ta 1), .int (Tv 0), .int sv_81, .int sv_82, .int sv_83, .int sv_84])), ((Ta 1), .inl (tc 0, 400, .inl (Tf 1))), ((Va 0), .inr (7, [.ref (Va 1), .int sv_89, .int sv_79])), ((Va 1), .inl (tc 0, 400, .inl sv_90))] H := hP₀
            replace hD : va_D A [((Ta 0), .inr (10, [.ref (Ta 1), .int (Tv 0), .int sv_81, .int sv_82, .int sv_83, .int sv_84])), ((Ta 1), .inl (tc 0, 400, .inl (Tf 1))), ((Va 0), .inr (7, [.ref (Va 1), .int sv_89, .int sv_79])), ((Va 1), .inl (tc 0, 400, .inl sv_90))] := hD₀
            replace hS := hS₀
            clear hP₀ hD₀ hS₀
            exact retV hx hb hr hlk hP hD hS (sv_89, sv_79, sv_90, sv_81, sv_82, sv_83, sv_84) ⟨rfl, he_85⟩ [2, 3, 0, 1] rfl rfl dX7_readFact_135 (Nat.le_of_ble_eq_true rfl) (Nat.le_of_ble_eq_true rfl) rfl
          · skip
            refine lv_aload_n hx hb dX7_readFact_110 rfl (lv_at hl 3 rfl) ?_
            refine lv_iconst (v := 0) hx hb dX7_readFact_111 (by decide) ?_
            refine cV (a := (Ta 0)) (As := [.int 0]) (rest := []) (wr := [((Va 0), .inr (7, [.ref (Va 1), .int sv_47, .int sv_48])), ((Va 1), .inl (tc 0, 400, .inl sv_49))]) ⟨hx, hb, hml, hown, hts⟩ hK hX hA (cu_X10_fail l D tc sk (Ta 0) (Ta 1) (Tv 0) sv_50 sv_51 sv_52 sv_53 (Tf 1) 0 he_59.2) k_557 k_619 k_555 k_556 k_96 pl_X10_fail ⟨Nat.le_of_ble_eq_true rfl, Nat.le_of_ble_eq_true rfl⟩ rfl rfl (va_recv hK hP (ci := 10) (q0 := 2) rfl rfl) hP hD hS [2, 3] [0, 1] rfl rfl rfl rfl rfl (by decide) rfl hl.1 rfl (Nat.le_of_ble_eq_true rfl) dX7_readFact_112 ⟨Nat.le_of_ble_eq_true rfl, Nat.le_of_ble_eq_true rfl⟩ (fun v_91 u_92 H locs hv_93 hP₀ hD₀ hS₀ => ?_)
            obtain ⟨sv_94, sv_95⟩ := u_92
            obtain ⟨rfl, he_96⟩ := hv_93
            clear he_59
            have he_96 : (0 ≤ ((Tv 0) : Int32).toInt ∧ ((Tv 0) : Int32).toInt ≤ 400 ∧ 0 ≤ (sv_50 : Int32).toInt ∧ (sv_50 : Int32).toInt ≤ 400 ∧ 0 ≤ (sv_51 : Int32).toInt ∧ (sv_51 : Int32).toInt ≤ 400) := he_96
            refine W.eq (g2 := F0 m 115 ls []) rfl ?_
            replace hP : va_P D classes [((Va 0), .inr (7, [.ref (Va 1), .int sv_47, .int sv_48])), ((Va 1), .inl (tc 0, 400, .inl sv_49)), ((Ta 0), .inr (10, [.ref (Ta 1), .int (Tv 0), .int sv_50, .int sv_51, .int sv_94, .int sv_95])), ((Ta 1), .inl (tc 0, 400, .inl (Tf 1)))] H := hP₀
            replace hD : va_D A [((Va 0), .inr (7, [.ref (Va 1), .int sv_47, .int sv_48])), ((Va 1), .inl (tc 0, 400, .inl sv_49)), ((Ta 0), .inr (10, [.ref (Ta 1), .int (Tv 0), .int sv_50, .int sv_51, .int sv_94, .int sv_95])), ((Ta 1), .inl (tc 0, 400, .inl (Tf 1)))] := hD₀
            replace hS := hS₀
            clear hP₀ hD₀ hS₀
            refine lv_aload_n hx hb dX7_readFact_115 rfl (lv_at hl 2 rfl) ?_
            refine lv_aload_n hx hb dX7_readFact_116 rfl (lv_at hl 3 rfl) ?_
            refine cV (a := (Va 0)) (As := [.ref (Ta 0)]) (rest := []) (wr := []) ⟨hx, hb, hml, hown, hts⟩ hK hX hA (cu_X7_countOne l D tc sk (Va 0) (Va 1) sv_47 sv_48 sv_49 (Ta 0) (Ta 1) (Tv 0) sv_50 sv_51 sv_94 sv_95 (Tf 1) he_96) k_638 k_635 k_637 k_9 k_99 pl_X7_countOne ⟨Nat.le_of_ble_eq_true rfl, Nat.le_of_ble_eq_true rfl⟩ rfl rfl (va_recv hK hP (ci := 7) (q0 := 0) rfl rfl) hP hD hS [0, 1, 2, 3] [] rfl rfl rfl rfl rfl (by decide) rfl hl.1 rfl (Nat.le_of_ble_eq_true rfl) dX7_readFact_117 ⟨Nat.le_of_ble_eq_true rfl, Nat.le_of_ble_eq_true rfl⟩ (fun v_97 u_98 H locs hv_99 hP₀ hD₀ hS₀ => ?_)
            obtain ⟨sv_100, sv_101, sv_102⟩ := u_98
            obtain ⟨rfl, he_103⟩ := hv_99
            clear he_96
            have he_103 : (0 ≤ ((Tv 0) : Int32).toInt ∧ ((Tv 0) : Int32).toInt ≤ 400 ∧ 0 ≤ (sv_50 : Int32).toInt ∧ (sv_50 : Int32).toInt ≤ 400 ∧ 0 ≤ (sv_51 : Int32).toInt ∧ (sv_51 : Int32).toInt ≤ 400) := he_103
            refine W.eq (g2 := F0 m 120 ls []) rfl ?_
            replace hP : va_P D classes [((Va 0), .inr (7, [.ref (Va 1), .int sv_47, .int sv_100])), ((Va 1), .inl (tc 0, 400, .inl sv_49)), ((Ta 0), .inr (10, [.ref (Ta 1), .int (Tv 0), .int sv_50, .int sv_51, .int sv_101, .int sv_102])), ((Ta 1), .inl (tc 0, 400, .inl (Tf 1)))] H := hP₀
            replace hD : va_D A [((Va 0), .inr (7, [.ref (Va 1), .int sv_47, .int sv_100])), ((Va 1), .inl (tc 0, 400, .inl sv_49)), ((Ta 0), .inr (10, [.ref (Ta 1), .int (Tv 0), .int sv_50, .int sv_51, .int sv_101, .int sv_102])), ((Ta 1), .inl (tc 0, 400, .inl (Tf 1)))] := hD₀
            replace hS := hS₀
            clear hP₀ hD₀ hS₀
            refine lv_aload_n hx hb dX7_readFact_120 rfl (lv_at hl 3 rfl) ?_
            refine cV (a := (Ta 0)) (As := []) (rest := []) (wr := [((Va 0), .inr (7, [.ref (Va 1), .int sv_47, .int sv_100])), ((Va 1), .inl (tc 0, 400, .inl sv_49))]) ⟨hx, hb, hml, hown, hts⟩ hK hX hA (cu_X10_step l D tc sk (Ta 0) (Ta 1) (Tv 0) sv_50 sv_51 sv_101 sv_102 (Tf 1) he_103) k_478 k_620 k_476 k_477 k_96 pl_X10_step ⟨Nat.le_of_ble_eq_true rfl, Nat.le_of_ble_eq_true rfl⟩ rfl rfl (va_recv hK hP (ci := 10) (q0 := 2) rfl rfl) hP hD hS [2, 3] [0, 1] rfl rfl rfl rfl rfl (by decide) rfl hl.1 rfl (Nat.le_of_ble_eq_true rfl) dX7_readFact_121 ⟨Nat.le_of_ble_eq_true rfl, Nat.le_of_ble_eq_true rfl⟩ (fun v_104 u_105 H locs hv_106 hP₀ hD₀ hS₀ => ?_)
            obtain ⟨sv_107, sv_108, sv_109⟩ := u_105
            obtain ⟨rfl, he_110⟩ := hv_106
            clear he_103
            have he_110 : (0 ≤ ((Tv 0) : Int32).toInt ∧ ((Tv 0) : Int32).toInt ≤ 400 ∧ 0 ≤ (sv_107 : Int32).toInt ∧ (sv_107 : Int32).toInt ≤ 400 ∧ 0 ≤ (sv_108 : Int32).toInt ∧ (sv_108 : Int32).toInt ≤ 400) := he_110
            refine W.eq (g2 := F0 m 124 ls []) rfl ?_
            replace hP : va_P D classes [((Va 0), .inr (7, [.ref (Va 1), .int sv_47, .int sv_100])), ((Va 1), .inl (tc 0, 400, .inl sv_49)), ((Ta 0), .inr (10, [.ref (Ta 1), .int (Tv 0), .int sv_107, .int sv_108, .int sv_109, .int sv_102])), ((Ta 1), .inl (tc 0, 400, .inl (Tf 1)))] H := hP₀
            replace hD : va_D A [((Va 0), .inr (7, [.ref (Va 1), .int sv_47, .int sv_100])), ((Va 1), .inl (tc 0, 400, .inl sv_49)), ((Ta 0), .inr (10, [.ref (Ta 1), .int (Tv 0), .int sv_107, .int sv_108, .int sv_109, .int sv_102])), ((Ta 1), .inl (tc 0, 400, .inl (Tf 1)))] := hD₀
            replace hS := hS₀
            clear hP₀ hD₀ hS₀
            refine lv_aload_n hx hb dX7_readFact_124 rfl (lv_at hl 2 rfl) ?_
            refine lv_aload_n hx hb dX7_readFact_125 rfl (lv_at hl 3 rfl) ?_
            refine cV (a := (Va 0)) (As := [.ref (Ta 0)]) (rest := []) (wr := []) ⟨hx, hb, hml, hown, hts⟩ hK hX hA (cu_X7_readSum l D tc sk (Va 0) (Va 1) sv_47 sv_100 sv_49 (Ta 0) (Ta 1) (Tv 0) sv_107 sv_108 sv_109 sv_102 (Tf 1) he_110) k_624 k_621 k_623 k_7 k_99 pl_X7_readSum ⟨Nat.le_of_ble_eq_true rfl, Nat.le_of_ble_eq_true rfl⟩ rfl rfl (va_recv hK hP (ci := 7) (q0 := 0) rfl rfl) hP hD hS [0, 1, 2, 3] [] rfl rfl rfl rfl rfl (by decide) rfl hl.1 rfl (Nat.le_of_ble_eq_true rfl) dX7_readFact_126 ⟨Nat.le_of_ble_eq_true rfl, Nat.le_of_ble_eq_true rfl⟩ (fun v_111 u_112 H locs hv_113 hP₀ hD₀ hS₀ => ?_)
            obtain ⟨sv_114, sv_115, sv_116, sv_117, sv_118, sv_119, sv_120⟩ := u_112
            obtain ⟨rfl, he_121⟩ := hv_113
            clear he_110
            have he_121 : (0 ≤ ((Tv 0) : Int32).toInt ∧ ((Tv 0) : Int32).toInt ≤ 400 ∧ 0 ≤ (sv_117 : Int32).toInt ∧ (sv_117 : Int32).toInt ≤ 400 ∧ 0 ≤ (sv_118 : Int32).toInt ∧ (sv_118 : Int32).toInt ≤ 400) := he_121
            refine W.eq (g2 := F0 m 129 ls []) rfl ?_
            replace hP : va_P D classes [((Va 0), .inr (7, [.ref (Va 1), .int sv_114, .int sv_115])), ((Va 1), .inl (tc 0, 400, .inl sv_116)), ((Ta 0), .inr (10, [.ref (Ta 1), .int (Tv 0), .int sv_117, .int sv_118, .int sv_119, .int sv_120])), ((Ta 1), .inl (tc 0, 400, .inl (Tf 1)))] H := hP₀
            replace hD : va_D A [((Va 0), .inr (7, [.ref (Va 1), .int sv_114, .int sv_115])), ((Va 1), .inl (tc 0, 400, .inl sv_116)), ((Ta 0), .inr (10, [.ref (Ta 1), .int (Tv 0), .int sv_117, .int sv_118, .int sv_119, .int sv_120])), ((Ta 1), .inl (tc 0, 400, .inl (Tf 1)))] := hD₀
            replace hS := hS₀
            clear hP₀ hD₀ hS₀
            refine lv_aload_n hx hb dX7_readFact_129 rfl (lv_at hl 2 rfl) ?_
            refine lv_iload hx hb dX7_readFact_130 (lv_at hl 0 rfl) ?_
            refine cV (a := (Va 0)) (As := [.int r_58]) (rest := []) (wr := [((Ta 0), .inr (10, [.ref (Ta 1), .int (Tv 0), .int sv_117, .int sv_118, .int sv_119, .int sv_120])), ((Ta 1), .inl (tc 0, 400, .inl (Tf 1)))]) ⟨hx, hb, hml, hown, hts⟩ hK hX hA (cu_X7_put l D tc sk (Va 0) (Va 1) sv_114 sv_115 sv_116 r_58) k_642 k_639 k_641 k_10 k_99 pl_X7_put ⟨Nat.le_of_ble_eq_true rfl, Nat.le_of_ble_eq_true rfl⟩ rfl rfl (va_recv hK hP (ci := 7) (q0 := 0) rfl rfl) hP hD hS [0, 1] [2, 3] rfl rfl rfl rfl rfl (by decide) rfl hl.1 rfl (Nat.le_of_ble_eq_true rfl) dX7_readFact_132 ⟨Nat.le_of_ble_eq_true rfl, Nat.le_of_ble_eq_true rfl⟩ (fun v_122 u_123 H locs hv_124 hP₀ hD₀ hS₀ => ?_)
            obtain ⟨sv_125, sv_126⟩ := u_123
            obtain rfl : v_122 = none := hv_124
            refine W.eq (g2 := F0 m 135 ls []) rfl ?_
            replace hP : va_P D classes [((Ta 0), .inr (10, [.ref (Ta 1), .int (Tv 0), .int sv_117, .int sv_118, .int sv_119, .int sv_120])), ((Ta 1), .inl (tc 0, 400, .inl (Tf 1))), ((Va 0), .inr (7, [.ref (Va 1), .int sv_125, .int sv_115])), ((Va 1), .inl (tc 0, 400, .inl sv_126))] H := hP₀
            replace hD : va_D A [((Ta 0), .inr (10, [.ref (Ta 1), .int (Tv 0), .int sv_117, .int sv_118, .int sv_119, .int sv_120])), ((Ta 1), .inl (tc 0, 400, .inl (Tf 1))), ((Va 0), .inr (7, [.ref (Va 1), .int sv_125, .int sv_115])), ((Va 1), .inl (tc 0, 400, .inl sv_126))] := hD₀
            replace hS := hS₀
            clear hP₀ hD₀ hS₀
            exact retV hx hb hr hlk hP hD hS (sv_125, sv_115, sv_126, sv_117, sv_118, sv_119, sv_120) ⟨rfl, he_121⟩ [2, 3, 0, 1] rfl rfl dX7_readFact_135 (Nat.le_of_ble_eq_true rfl) (Nat.le_of_ble_eq_true rfl) rfl
        · skip
          refine lv_aload_n hx hb dX7_readFact_68 rfl (lv_at hl 1 rfl) ?_
          refine lv_aload_n hx hb dX7_readFact_69 rfl (lv_at hl 2 rfl) ?_
          refine lv_iload_n hx hb dX7_readFact_70 rfl (lv_at hl 3 rfl) ?_
          refine lv_iconst (v := 1) hx hb dX7_readFact_71 (by decide) ?_
          refine lv_iadd hx hb dX7_readFact_72 ?_
          refine lv_lit (v := 4) (by decide) ?_
          refine cV (a := (Va 0)) (As := [.ref (Ta 0), .int 4]) (rest := []) (wr := []) ⟨hx, hb, hml, hown, hts⟩ hK hX hA (cu_X7_readTest_4 l D tc sk (Va 0) (Va 1) (Vv 0) (Vv 1) (Vf 1) (Ta 0) (Ta 1) (Tv 0) sv_38 sv_39 sv_40 (Tv 4) (Tf 1) he_42.2) k_655 k_652 k_654 k_11 k_99 pl_X7_readTest ⟨Nat.le_of_ble_eq_true rfl, Nat.le_of_ble_eq_true rfl⟩ rfl rfl (va_recv hK hP (ci := 7) (q0 := 0) rfl rfl) hP hD hS [0, 1, 2, 3] [] rfl rfl rfl rfl rfl (by decide) rfl hl.1 rfl (Nat.le_of_ble_eq_true rfl) dX7_readFact_73 ⟨Nat.le_of_ble_eq_true rfl, Nat.le_of_ble_eq_true rfl⟩ (fun v_127 u_128 H locs hv_129 hP₀ hD₀ hS₀ => ?_)
          obtain ⟨sv_130, sv_131, sv_132, sv_133, sv_134, sv_135, sv_136⟩ := u_128
          obtain ⟨rfl, he_137⟩ := hv_129
          clear he_42
          have he_137 : (0 ≤ ((Tv 0) : Int32).toInt ∧ ((Tv 0) : Int32).toInt ≤ 400 ∧ 0 ≤ (sv_133 : Int32).toInt ∧ (sv_133 : Int32).toInt ≤ 400 ∧ 0 ≤ (sv_134 : Int32).toInt ∧ (sv_134 : Int32).toInt ≤ 400) := he_137
          refine W.eq (g2 := F0 m 76 ls []) rfl ?_
          replace hP : va_P D classes [((Va 0), .inr (7, [.ref (Va 1), .int sv_130, .int sv_131])), ((Va 1), .inl (tc 0, 400, .inl sv_132)), ((Ta 0), .inr (10, [.ref (Ta 1), .int (Tv 0), .int sv_133, .int sv_134, .int sv_135, .int sv_136])), ((Ta 1), .inl (tc 0, 400, .inl (Tf 1)))] H := hP₀
          replace hD : va_D A [((Va 0), .inr (7, [.ref (Va 1), .int sv_130, .int sv_131])), ((Va 1), .inl (tc 0, 400, .inl sv_132)), ((Ta 0), .inr (10, [.ref (Ta 1), .int (Tv 0), .int sv_133, .int sv_134, .int sv_135, .int sv_136])), ((Ta 1), .inl (tc 0, 400, .inl (Tf 1)))] := hD₀
          replace hS := hS₀
          clear hP₀ hD₀ hS₀
          refine lv_aload_n hx hb dX7_readFact_76 rfl (lv_at hl 2 rfl) ?_
          refine lv_bipush (v := 93) hx hb dX7_readFact_77 (by decide) ?_
          refine cV (a := (Ta 0)) (As := [.int 93]) (rest := []) (wr := [((Va 0), .inr (7, [.ref (Va 1), .int sv_130, .int sv_131])), ((Va 1), .inl (tc 0, 400, .inl sv_132))]) ⟨hx, hb, hml, hown, hts⟩ hK hX hA (cu_X10_takes l D tc sk (Ta 0) (Ta 1) (Tv 0) sv_133 sv_134 sv_135 sv_136 (Tf 1) 93 he_137) k_492 k_613 k_490 k_491 k_96 pl_X10_takes ⟨Nat.le_of_ble_eq_true rfl, Nat.le_of_ble_eq_true rfl⟩ rfl rfl (va_recv hK hP (ci := 10) (q0 := 2) rfl rfl) hP hD hS [2, 3] [0, 1] rfl rfl rfl rfl rfl (by decide) rfl hl.1 rfl (Nat.le_of_ble_eq_true rfl) dX7_readFact_79 ⟨Nat.le_of_ble_eq_true rfl, Nat.le_of_ble_eq_true rfl⟩ (fun v_138 u_139 H locs hv_140 hP₀ hD₀ hS₀ => ?_)
          obtain ⟨sv_141, sv_142, sv_143⟩ := u_139
          obtain ⟨r_144, rfl, he_145⟩ := hv_140
          clear he_137
          have he_145 : ((r_144.toInt = 0 ∨ (r_144.toInt = 1 ∧ sv_135.toInt = (93 : Int32).toInt))) ∧ (0 ≤ ((Tv 0) : Int32).toInt ∧ ((Tv 0) : Int32).toInt ≤ 400 ∧ 0 ≤ (sv_141 : Int32).toInt ∧ (sv_141 : Int32).toInt ≤ 400 ∧ 0 ≤ (sv_142 : Int32).toInt ∧ (sv_142 : Int32).toInt ≤ 400) := he_145
          refine W.eq (g2 := F0 m 82 ls [.int r_144]) rfl ?_
          replace hP : va_P D classes [((Va 0), .inr (7, [.ref (Va 1), .int sv_130, .int sv_131])), ((Va 1), .inl (tc 0, 400, .inl sv_132)), ((Ta 0), .inr (10, [.ref (Ta 1), .int (Tv 0), .int sv_141, .int sv_142, .int sv_143, .int sv_136])), ((Ta 1), .inl (tc 0, 400, .inl (Tf 1)))] H := hP₀
          replace hD : va_D A [((Va 0), .inr (7, [.ref (Va 1), .int sv_130, .int sv_131])), ((Va 1), .inl (tc 0, 400, .inl sv_132)), ((Ta 0), .inr (10, [.ref (Ta 1), .int (Tv 0), .int sv_141, .int sv_142, .int sv_143, .int sv_136])), ((Ta 1), .inl (tc 0, 400, .inl (Tf 1)))] := hD₀
          replace hS := hS₀
          clear hP₀ hD₀ hS₀
          refine lv_if_ne (tgt := 135) hx hb dX7_readFact_82 (by decide) (fun c_146 => ?_) (fun c_146 => ?_)
          · skip
            exact retV hx hb hr hlk hP hD hS (sv_130, sv_131, sv_132, sv_141, sv_142, sv_143, sv_136) ⟨rfl, he_145.2⟩ [0, 1, 2, 3] rfl rfl dX7_readFact_135 (Nat.le_of_ble_eq_true rfl) (Nat.le_of_ble_eq_true rfl) rfl
          · skip
            refine lv_aload_n hx hb dX7_readFact_85 rfl (lv_at hl 2 rfl) ?_
            refine lv_iconst (v := 0) hx hb dX7_readFact_86 (by decide) ?_
            refine cV (a := (Ta 0)) (As := [.int 0]) (rest := []) (wr := [((Va 0), .inr (7, [.ref (Va 1), .int sv_130, .int sv_131])), ((Va 1), .inl (tc 0, 400, .inl sv_132))]) ⟨hx, hb, hml, hown, hts⟩ hK hX hA (cu_X10_fail l D tc sk (Ta 0) (Ta 1) (Tv 0) sv_141 sv_142 sv_143 sv_136 (Tf 1) 0 he_145.2) k_557 k_619 k_555 k_556 k_96 pl_X10_fail ⟨Nat.le_of_ble_eq_true rfl, Nat.le_of_ble_eq_true rfl⟩ rfl rfl (va_recv hK hP (ci := 10) (q0 := 2) rfl rfl) hP hD hS [2, 3] [0, 1] rfl rfl rfl rfl rfl (by decide) rfl hl.1 rfl (Nat.le_of_ble_eq_true rfl) dX7_readFact_87 ⟨Nat.le_of_ble_eq_true rfl, Nat.le_of_ble_eq_true rfl⟩ (fun v_147 u_148 H locs hv_149 hP₀ hD₀ hS₀ => ?_)
            obtain ⟨sv_150, sv_151⟩ := u_148
            obtain ⟨rfl, he_152⟩ := hv_149
            clear he_145
            have he_152 : (0 ≤ ((Tv 0) : Int32).toInt ∧ ((Tv 0) : Int32).toInt ≤ 400 ∧ 0 ≤ (sv_141 : Int32).toInt ∧ (sv_141 : Int32).toInt ≤ 400 ∧ 0 ≤ (sv_142 : Int32).toInt ∧ (sv_142 : Int32).toInt ≤ 400) := he_152
            refine W.eq (g2 := F0 m 90 ls []) rfl ?_
            replace hP : va_P D classes [((Va 0), .inr (7, [.ref (Va 1), .int sv_130, .int sv_131])), ((Va 1), .inl (tc 0, 400, .inl sv_132)), ((Ta 0), .inr (10, [.ref (Ta 1), .int (Tv 0), .int sv_141, .int sv_142, .int sv_150, .int sv_151])), ((Ta 1), .inl (tc 0, 400, .inl (Tf 1)))] H := hP₀
            replace hD : va_D A [((Va 0), .inr (7, [.ref (Va 1), .int sv_130, .int sv_131])), ((Va 1), .inl (tc 0, 400, .inl sv_132)), ((Ta 0), .inr (10, [.ref (Ta 1), .int (Tv 0), .int sv_141, .int sv_142, .int sv_150, .int sv_151])), ((Ta 1), .inl (tc 0, 400, .inl (Tf 1)))] := hD₀
            replace hS := hS₀
            clear hP₀ hD₀ hS₀
            refine lv_goto (tgt := 135) hx hb dX7_readFact_90 (by decide) ?_
            exact retV hx hb hr hlk hP hD hS (sv_130, sv_131, sv_132, sv_141, sv_142, sv_150, sv_151) ⟨rfl, he_152⟩ [0, 1, 2, 3] rfl rfl dX7_readFact_135 (Nat.le_of_ble_eq_true rfl) (Nat.le_of_ble_eq_true rfl) rfl
      · skip
        exfalso
        have z_1 := congrArg Int32.toInt c_7
        have z_2 : ¬ ((Tv 3) : Int32).toInt = (91 : Int32).toInt := fun z => c_33 (Int32.toInt_inj.mp z)
        have z_3 : ¬ (r_5 : Int32).toInt = (0 : Int32).toInt := fun z => c_34 (Int32.toInt_inj.mp z)
        have y_0 : (0 : Int32).toInt = 0 := by decide
        have y_91 : (91 : Int32).toInt = 91 := by decide
        omega
    · skip
      refine lv_iload_n hx hb dX7_readFact_20 rfl (lv_at hl 3 rfl) ?_
      refine lv_bipush (v := 10) hx hb dX7_readFact_21 (by decide) ?_
      refine lv_icmp_lt (tgt := 34) hx hb dX7_readFact_23 (by decide) (fun c_153 => ?_) (fun c_153 => absurd c_153 (by decide))
      refine lv_iload_n hx hb dX7_readFact_34 rfl (lv_at hl 0 rfl) ?_
      refine lv_if_eq (tgt := 59) hx hb dX7_readFact_35 (by decide) (fun c_154 => ?_) (fun c_154 => ?_)
      · skip
        refine lv_aload_n hx hb dX7_readFact_59 rfl (lv_at hl 2 rfl) ?_
        refine lv_bipush (v := 91) hx hb dX7_readFact_60 (by decide) ?_
        refine cV (a := (Ta 0)) (As := [.int 91]) (rest := []) (wr := [((Va 0), .inr (7, [.ref (Va 1), .int (Vv 0), .int (Vv 1)])), ((Va 1), .inl (tc 0, 400, .inl (Vf 1)))]) ⟨hx, hb, hml, hown, hts⟩ hK hX hA (cu_X10_takes l D tc sk (Ta 0) (Ta 1) (Tv 0) (Tv 1) (Tv 2) (Tv 3) (Tv 4) (Tf 1) 91 he_6.2) k_492 k_613 k_490 k_491 k_96 pl_X10_takes ⟨Nat.le_of_ble_eq_true rfl, Nat.le_of_ble_eq_true rfl⟩ rfl rfl (va_recv hK hP (ci := 10) (q0 := 2) rfl rfl) hP hD hS [2, 3] [0, 1] rfl rfl rfl rfl rfl (by decide) rfl hl.1 rfl (Nat.le_of_ble_eq_true rfl) dX7_readFact_62 ⟨Nat.le_of_ble_eq_true rfl, Nat.le_of_ble_eq_true rfl⟩ (fun v_155 u_156 H locs hv_157 hP₀ hD₀ hS₀ => ?_)
        obtain ⟨sv_158, sv_159, sv_160⟩ := u_156
        obtain ⟨r_161, rfl, he_162⟩ := hv_157
        clear he_6
        have he_162 : ((r_161.toInt = 0 ∨ (r_161.toInt = 1 ∧ (Tv 3).toInt = (91 : Int32).toInt))) ∧ (0 ≤ ((Tv 0) : Int32).toInt ∧ ((Tv 0) : Int32).toInt ≤ 400 ∧ 0 ≤ (sv_158 : Int32).toInt ∧ (sv_158 : Int32).toInt ≤ 400 ∧ 0 ≤ (sv_159 : Int32).toInt ∧ (sv_159 : Int32).toInt ≤ 400) := he_162
        refine W.eq (g2 := F0 m 65 ls [.int r_161]) rfl ?_
        replace hP : va_P D classes [((Va 0), .inr (7, [.ref (Va 1), .int (Vv 0), .int (Vv 1)])), ((Va 1), .inl (tc 0, 400, .inl (Vf 1))), ((Ta 0), .inr (10, [.ref (Ta 1), .int (Tv 0), .int sv_158, .int sv_159, .int sv_160, .int (Tv 4)])), ((Ta 1), .inl (tc 0, 400, .inl (Tf 1)))] H := hP₀
        replace hD : va_D A [((Va 0), .inr (7, [.ref (Va 1), .int (Vv 0), .int (Vv 1)])), ((Va 1), .inl (tc 0, 400, .inl (Vf 1))), ((Ta 0), .inr (10, [.ref (Ta 1), .int (Tv 0), .int sv_158, .int sv_159, .int sv_160, .int (Tv 4)])), ((Ta 1), .inl (tc 0, 400, .inl (Tf 1)))] := hD₀
        replace hS := hS₀
        clear hP₀ hD₀ hS₀
        refine lv_if_eq (tgt := 93) hx hb dX7_readFact_65 (by decide) (fun c_163 => ?_) (fun c_163 => ?_)
        · skip
          refine lv_aload_n hx hb dX7_readFact_93 rfl (lv_at hl 1 rfl) ?_
          refine lv_aload_n hx hb dX7_readFact_94 rfl (lv_at hl 2 rfl) ?_
          refine cV (a := (Va 0)) (As := [.ref (Ta 0)]) (rest := []) (wr := []) ⟨hx, hb, hml, hown, hts⟩ hK hX hA (cu_X7_readSum l D tc sk (Va 0) (Va 1) (Vv 0) (Vv 1) (Vf 1) (Ta 0) (Ta 1) (Tv 0) sv_158 sv_159 sv_160 (Tv 4) (Tf 1) he_162.2) k_624 k_621 k_623 k_7 k_99 pl_X7_readSum ⟨Nat.le_of_ble_eq_true rfl, Nat.le_of_ble_eq_true rfl⟩ rfl rfl (va_recv hK hP (ci := 7) (q0 := 0) rfl rfl) hP hD hS [0, 1, 2, 3] [] rfl rfl rfl rfl rfl (by decide) rfl hl.1 rfl (Nat.le_of_ble_eq_true rfl) dX7_readFact_95 ⟨Nat.le_of_ble_eq_true rfl, Nat.le_of_ble_eq_true rfl⟩ (fun v_164 u_165 H locs hv_166 hP₀ hD₀ hS₀ => ?_)
          obtain ⟨sv_167, sv_168, sv_169, sv_170, sv_171, sv_172, sv_173⟩ := u_165
          obtain ⟨rfl, he_174⟩ := hv_166
          clear he_162
          have he_174 : (0 ≤ ((Tv 0) : Int32).toInt ∧ ((Tv 0) : Int32).toInt ≤ 400 ∧ 0 ≤ (sv_170 : Int32).toInt ∧ (sv_170 : Int32).toInt ≤ 400 ∧ 0 ≤ (sv_171 : Int32).toInt ∧ (sv_171 : Int32).toInt ≤ 400) := he_174
          refine W.eq (g2 := F0 m 98 ls []) rfl ?_
          replace hP : va_P D classes [((Va 0), .inr (7, [.ref (Va 1), .int sv_167, .int sv_168])), ((Va 1), .inl (tc 0, 400, .inl sv_169)), ((Ta 0), .inr (10, [.ref (Ta 1), .int (Tv 0), .int sv_170, .int sv_171, .int sv_172, .int sv_173])), ((Ta 1), .inl (tc 0, 400, .inl (Tf 1)))] H := hP₀
          replace hD : va_D A [((Va 0), .inr (7, [.ref (Va 1), .int sv_167, .int sv_168])), ((Va 1), .inl (tc 0, 400, .inl sv_169)), ((Ta 0), .inr (10, [.ref (Ta 1), .int (Tv 0), .int sv_170, .int sv_171, .int sv_172, .int sv_173])), ((Ta 1), .inl (tc 0, 400, .inl (Tf 1)))] := hD₀
          replace hS := hS₀
          clear hP₀ hD₀ hS₀
          refine lv_aload_n hx hb dX7_readFact_98 rfl (lv_at hl 2 rfl) ?_
          refine cS (As := [.ref (Ta 0)]) (rest := []) (wr := [((Va 0), .inr (7, [.ref (Va 1), .int sv_167, .int sv_168])), ((Va 1), .inl (tc 0, 400, .inl sv_169))]) ⟨hx, hb, hml, hown, hts⟩ hK hX hA (cu_X7_comparison l D tc sk (Ta 0) (Ta 1) (Tv 0) sv_170 sv_171 sv_172 sv_173 (Tf 1) he_174) k_663 k_661 k_662 k_99 pl_X7_comparison ⟨Nat.le_of_ble_eq_true rfl, Nat.le_of_ble_eq_true rfl⟩ rfl rfl  hP hD hS [2, 3] [0, 1] rfl rfl rfl rfl rfl (by decide) rfl hl.1 rfl (Nat.le_of_ble_eq_true rfl) dX7_readFact_99 ⟨Nat.le_of_ble_eq_true rfl, Nat.le_of_ble_eq_true rfl⟩ (fun v_175 u_176 H locs hv_177 hP₀ hD₀ hS₀ => ?_)
          obtain ⟨r_178, rfl, he_179⟩ := hv_177
          clear he_174
          have he_179 : (True) ∧ (0 ≤ ((Tv 0) : Int32).toInt ∧ ((Tv 0) : Int32).toInt ≤ 400 ∧ 0 ≤ (sv_170 : Int32).toInt ∧ (sv_170 : Int32).toInt ≤ 400 ∧ 0 ≤ (sv_171 : Int32).toInt ∧ (sv_171 : Int32).toInt ≤ 400) := he_179
          refine W.eq (g2 := F0 m 102 ls [.int r_178]) rfl ?_
          replace hP : va_P D classes [((Va 0), .inr (7, [.ref (Va 1), .int sv_167, .int sv_168])), ((Va 1), .inl (tc 0, 400, .inl sv_169)), ((Ta 0), .inr (10, [.ref (Ta 1), .int (Tv 0), .int sv_170, .int sv_171, .int sv_172, .int sv_173])), ((Ta 1), .inl (tc 0, 400, .inl (Tf 1)))] H := hP₀
          replace hD : va_D A [((Va 0), .inr (7, [.ref (Va 1), .int sv_167, .int sv_168])), ((Va 1), .inl (tc 0, 400, .inl sv_169)), ((Ta 0), .inr (10, [.ref (Ta 1), .int (Tv 0), .int sv_170, .int sv_171, .int sv_172, .int sv_173])), ((Ta 1), .inl (tc 0, 400, .inl (Tf 1)))] := hD₀
          replace hS := hS₀
          clear hP₀ hD₀ hS₀
          refine lv_istore (lv' := [(4, .int r_178), (3, .int r_5), (0, .ref (Va 0)), (1, .ref (Ta 0)), (2, .int 3)]) hx hb dX7_readFact_102 hl (by decide) rfl (fun ls hl₀ => ?_)
          replace hl := hl₀
          clear hl₀
          refine lv_iload hx hb dX7_readFact_104 (lv_at hl 0 rfl) ?_
          refine lv_iconst (v := (-1)) hx hb dX7_readFact_106 (by decide) ?_
          refine lv_icmp_ne (tgt := 115) hx hb dX7_readFact_107 (by decide) (fun c_180 => ?_) (fun c_180 => ?_)
          · skip
            refine lv_aload_n hx hb dX7_readFact_115 rfl (lv_at hl 2 rfl) ?_
            refine lv_aload_n hx hb dX7_readFact_116 rfl (lv_at hl 3 rfl) ?_
            refine cV (a := (Va 0)) (As := [.ref (Ta 0)]) (rest := []) (wr := []) ⟨hx, hb, hml, hown, hts⟩ hK hX hA (cu_X7_countOne l D tc sk (Va 0) (Va 1) sv_167 sv_168 sv_169 (Ta 0) (Ta 1) (Tv 0) sv_170 sv_171 sv_172 sv_173 (Tf 1) he_179.2) k_638 k_635 k_637 k_9 k_99 pl_X7_countOne ⟨Nat.le_of_ble_eq_true rfl, Nat.le_of_ble_eq_true rfl⟩ rfl rfl (va_recv hK hP (ci := 7) (q0 := 0) rfl rfl) hP hD hS [0, 1, 2, 3] [] rfl rfl rfl rfl rfl (by decide) rfl hl.1 rfl (Nat.le_of_ble_eq_true rfl) dX7_readFact_117 ⟨Nat.le_of_ble_eq_true rfl, Nat.le_of_ble_eq_true rfl⟩ (fun v_181 u_182 H locs hv_183 hP₀ hD₀ hS₀ => ?_)
            obtain ⟨sv_184, sv_185, sv_186⟩ := u_182
            obtain ⟨rfl, he_187⟩ := hv_183
            clear he_179
            have he_187 : (0 ≤ ((Tv 0) : Int32).toInt ∧ ((Tv 0) : Int32).toInt ≤ 400 ∧ 0 ≤ (sv_170 : Int32).toInt ∧ (sv_170 : Int32).toInt ≤ 400 ∧ 0 ≤ (sv_171 : Int32).toInt ∧ (sv_171 : Int32).toInt ≤ 400) := he_187
            refine W.eq (g2 := F0 m 120 ls []) rfl ?_
            replace hP : va_P D classes [((Va 0), .inr (7, [.ref (Va 1), .int sv_167, .int sv_184])), ((Va 1), .inl (tc 0, 400, .inl sv_169)), ((Ta 0), .inr (10, [.ref (Ta 1), .int (Tv 0), .int sv_170, .int sv_171, .int sv_185, .int sv_186])), ((Ta 1), .inl (tc 0, 400, .inl (Tf 1)))] H := hP₀
            replace hD : va_D A [((Va 0), .inr (7, [.ref (Va 1), .int sv_167, .int sv_184])), ((Va 1), .inl (tc 0, 400, .inl sv_169)), ((Ta 0), .inr (10, [.ref (Ta 1), .int (Tv 0), .int sv_170, .int sv_171, .int sv_185, .int sv_186])), ((Ta 1), .inl (tc 0, 400, .inl (Tf 1)))] := hD₀
            replace hS := hS₀
            clear hP₀ hD₀ hS₀
            refine lv_aload_n hx hb dX7_readFact_120 rfl (lv_at hl 3 rfl) ?_
            refine cV (a := (Ta 0)) (As := []) (rest := []) (wr := [((Va 0), .inr (7, [.ref (Va 1), .int sv_167, .int sv_184])), ((Va 1), .inl (tc 0, 400, .inl sv_169))]) ⟨hx, hb, hml, hown, hts⟩ hK hX hA (cu_X10_step l D tc sk (Ta 0) (Ta 1) (Tv 0) sv_170 sv_171 sv_185 sv_186 (Tf 1) he_187) k_478 k_620 k_476 k_477 k_96 pl_X10_step ⟨Nat.le_of_ble_eq_true rfl, Nat.le_of_ble_eq_true rfl⟩ rfl rfl (va_recv hK hP (ci := 10) (q0 := 2) rfl rfl) hP hD hS [2, 3] [0, 1] rfl rfl rfl rfl rfl (by decide) rfl hl.1 rfl (Nat.le_of_ble_eq_true rfl) dX7_readFact_121 ⟨Nat.le_of_ble_eq_true rfl, Nat.le_of_ble_eq_true rfl⟩ (fun v_188 u_189 H locs hv_190 hP₀ hD₀ hS₀ => ?_)
            obtain ⟨sv_191, sv_192, sv_193⟩ := u_189
            obtain ⟨rfl, he_194⟩ := hv_190
            clear he_187
            have he_194 : (0 ≤ ((Tv 0) : Int32).toInt ∧ ((Tv 0) : Int32).toInt ≤ 400 ∧ 0 ≤ (sv_191 : Int32).toInt ∧ (sv_191 : Int32).toInt ≤ 400 ∧ 0 ≤ (sv_192 : Int32).toInt ∧ (sv_192 : Int32).toInt ≤ 400) := he_194
            refine W.eq (g2 := F0 m 124 ls []) rfl ?_
            replace hP : va_P D classes [((Va 0), .inr (7, [.ref (Va 1), .int sv_167, .int sv_184])), ((Va 1), .inl (tc 0, 400, .inl sv_169)), ((Ta 0), .inr (10, [.ref (Ta 1), .int (Tv 0), .int sv_191, .int sv_192, .int sv_193, .int sv_186])), ((Ta 1), .inl (tc 0, 400, .inl (Tf 1)))] H := hP₀
            replace hD : va_D A [((Va 0), .inr (7, [.ref (Va 1), .int sv_167, .int sv_184])), ((Va 1), .inl (tc 0, 400, .inl sv_169)), ((Ta 0), .inr (10, [.ref (Ta 1), .int (Tv 0), .int sv_191, .int sv_192, .int sv_193, .int sv_186])), ((Ta 1), .inl (tc 0, 400, .inl (Tf 1)))] := hD₀
            replace hS := hS₀
            clear hP₀ hD₀ hS₀
            refine lv_aload_n hx hb dX7_readFact_124 rfl (lv_at hl 2 rfl) ?_
            refine lv_aload_n hx hb dX7_readFact_125 rfl (lv_at hl 3 rfl) ?_
            refine cV (a := (Va 0)) (As := [.ref (Ta 0)]) (rest := []) (wr := []) ⟨hx, hb, hml, hown, hts⟩ hK hX hA (cu_X7_readSum l D tc sk (Va 0) (Va 1) sv_167 sv_184 sv_169 (Ta 0) (Ta 1) (Tv 0) sv_191 sv_192 sv_193 sv_186 (Tf 1) he_194) k_624 k_621 k_623 k_7 k_99 pl_X7_readSum ⟨Nat.le_of_ble_eq_true rfl, Nat.le_of_ble_eq_true rfl⟩ rfl rfl (va_recv hK hP (ci := 7) (q0 := 0) rfl rfl) hP hD hS [0, 1, 2, 3] [] rfl rfl rfl rfl rfl (by decide) rfl hl.1 rfl (Nat.le_of_ble_eq_true rfl) dX7_readFact_126 ⟨Nat.le_of_ble_eq_true rfl, Nat.le_of_ble_eq_true rfl⟩ (fun v_195 u_196 H locs hv_197 hP₀ hD₀ hS₀ => ?_)
            obtain ⟨sv_198, sv_199, sv_200, sv_201, sv_202, sv_203, sv_204⟩ := u_196
            obtain ⟨rfl, he_205⟩ := hv_197
            clear he_194
            have he_205 : (0 ≤ ((Tv 0) : Int32).toInt ∧ ((Tv 0) : Int32).toInt ≤ 400 ∧ 0 ≤ (sv_201 : Int32).toInt ∧ (sv_201 : Int32).toInt ≤ 400 ∧ 0 ≤ (sv_202 : Int32).toInt ∧ (sv_202 : Int32).toInt ≤ 400) := he_205
            refine W.eq (g2 := F0 m 129 ls []) rfl ?_
            replace hP : va_P D classes [((Va 0), .inr (7, [.ref (Va 1), .int sv_198, .int sv_199])), ((Va 1), .inl (tc 0, 400, .inl sv_200)), ((Ta 0), .inr (10, [.ref (Ta 1), .int (Tv 0), .int sv_201, .int sv_202, .int sv_203, .int sv_204])), ((Ta 1), .inl (tc 0, 400, .inl (Tf 1)))] H := hP₀
            replace hD : va_D A [((Va 0), .inr (7, [.ref (Va 1), .int sv_198, .int sv_199])), ((Va 1), .inl (tc 0, 400, .inl sv_200)), ((Ta 0), .inr (10, [.ref (Ta 1), .int (Tv 0), .int sv_201, .int sv_202, .int sv_203, .int sv_204])), ((Ta 1), .inl (tc 0, 400, .inl (Tf 1)))] := hD₀
            replace hS := hS₀
            clear hP₀ hD₀ hS₀
            refine lv_aload_n hx hb dX7_readFact_129 rfl (lv_at hl 2 rfl) ?_
            refine lv_iload hx hb dX7_readFact_130 (lv_at hl 0 rfl) ?_
            refine cV (a := (Va 0)) (As := [.int r_178]) (rest := []) (wr := [((Ta 0), .inr (10, [.ref (Ta 1), .int (Tv 0), .int sv_201, .int sv_202, .int sv_203, .int sv_204])), ((Ta 1), .inl (tc 0, 400, .inl (Tf 1)))]) ⟨hx, hb, hml, hown, hts⟩ hK hX hA (cu_X7_put l D tc sk (Va 0) (Va 1) sv_198 sv_199 sv_200 r_178) k_642 k_639 k_641 k_10 k_99 pl_X7_put ⟨Nat.le_of_ble_eq_true rfl, Nat.le_of_ble_eq_true rfl⟩ rfl rfl (va_recv hK hP (ci := 7) (q0 := 0) rfl rfl) hP hD hS [0, 1] [2, 3] rfl rfl rfl rfl rfl (by decide) rfl hl.1 rfl (Nat.le_of_ble_eq_true rfl) dX7_readFact_132 ⟨Nat.le_of_ble_eq_true rfl, Nat.le_of_ble_eq_true rfl⟩ (fun v_206 u_207 H locs hv_208 hP₀ hD₀ hS₀ => ?_)
            obtain ⟨sv_209, sv_210⟩ := u_207
            obtain rfl : v_206 = none := hv_208
            refine W.eq (g2 := F0 m 135 ls []) rfl ?_
            replace hP : va_P D classes [((Ta 0), .inr (10, [.ref (Ta 1), .int (Tv 0), .int sv_201, .int sv_202, .int sv_203, .int sv_204])), ((Ta 1), .inl (tc 0, 400, .inl (Tf 1))), ((Va 0), .inr (7, [.ref (Va 1), .int sv_209, .int sv_199])), ((Va 1), .inl (tc 0, 400, .inl sv_210))] H := hP₀
            replace hD : va_D A [((Ta 0), .inr (10, [.ref (Ta 1), .int (Tv 0), .int sv_201, .int sv_202, .int sv_203, .int sv_204])), ((Ta 1), .inl (tc 0, 400, .inl (Tf 1))), ((Va 0), .inr (7, [.ref (Va 1), .int sv_209, .int sv_199])), ((Va 1), .inl (tc 0, 400, .inl sv_210))] := hD₀
            replace hS := hS₀
            clear hP₀ hD₀ hS₀
            exact retV hx hb hr hlk hP hD hS (sv_209, sv_199, sv_210, sv_201, sv_202, sv_203, sv_204) ⟨rfl, he_205⟩ [2, 3, 0, 1] rfl rfl dX7_readFact_135 (Nat.le_of_ble_eq_true rfl) (Nat.le_of_ble_eq_true rfl) rfl
          · skip
            refine lv_aload_n hx hb dX7_readFact_110 rfl (lv_at hl 3 rfl) ?_
            refine lv_iconst (v := 0) hx hb dX7_readFact_111 (by decide) ?_
            refine cV (a := (Ta 0)) (As := [.int 0]) (rest := []) (wr := [((Va 0), .inr (7, [.ref (Va 1), .int sv_167, .int sv_168])), ((Va 1), .inl (tc 0, 400, .inl sv_169))]) ⟨hx, hb, hml, hown, hts⟩ hK hX hA (cu_X10_fail l D tc sk (Ta 0) (Ta 1) (Tv 0) sv_170 sv_171 sv_172 sv_173 (Tf 1) 0 he_179.2) k_557 k_619 k_555 k_556 k_96 pl_X10_fail ⟨Nat.le_of_ble_eq_true rfl, Nat.le_of_ble_eq_true rfl⟩ rfl rfl (va_recv hK hP (ci := 10) (q0 := 2) rfl rfl) hP hD hS [2, 3] [0, 1] rfl rfl rfl rfl rfl (by decide) rfl hl.1 rfl (Nat.le_of_ble_eq_true rfl) dX7_readFact_112 ⟨Nat.le_of_ble_eq_true rfl, Nat.le_of_ble_eq_true rfl⟩ (fun v_211 u_212 H locs hv_213 hP₀ hD₀ hS₀ => ?_)
            obtain ⟨sv_214, sv_215⟩ := u_212
            obtain ⟨rfl, he_216⟩ := hv_213
            clear he_179
            have he_216 : (0 ≤ ((Tv 0) : Int32).toInt ∧ ((Tv 0) : Int32).toInt ≤ 400 ∧ 0 ≤ (sv_170 : Int32).toInt ∧ (sv_170 : Int32).toInt ≤ 400 ∧ 0 ≤ (sv_171 : Int32).toInt ∧ (sv_171 : Int32).toInt ≤ 400) := he_216
            refine W.eq (g2 := F0 m 115 ls []) rfl ?_
            replace hP : va_P D classes [((Va 0), .inr (7, [.ref (Va 1), .int sv_167, .int sv_168])), ((Va 1), .inl (tc 0, 400, .inl sv_169)), ((Ta 0), .inr (10, [.ref (Ta 1), .int (Tv 0), .int sv_170, .int sv_171, .int sv_214, .int sv_215])), ((Ta 1), .inl (tc 0, 400, .inl (Tf 1)))] H := hP₀
            replace hD : va_D A [((Va 0), .inr (7, [.ref (Va 1), .int sv_167, .int sv_168])), ((Va 1), .inl (tc 0, 400, .inl sv_169)), ((Ta 0), .inr (10, [.ref (Ta 1), .int (Tv 0), .int sv_170, .int sv_171, .int sv_214, .int sv_215])), ((Ta 1), .inl (tc 0, 400, .inl (Tf 1)))] := hD₀
            replace hS := hS₀
            clear hP₀ hD₀ hS₀
            refine lv_aload_n hx hb dX7_readFact_115 rfl (lv_at hl 2 rfl) ?_
            refine lv_aload_n hx hb dX7_readFact_116 rfl (lv_at hl 3 rfl) ?_
            refine cV (a := (Va 0)) (As := [.ref (Ta 0)]) (rest := []) (wr := []) ⟨hx, hb, hml, hown, hts⟩ hK hX hA (cu_X7_countOne l D tc sk (Va 0) (Va 1) sv_167 sv_168 sv_169 (Ta 0) (Ta 1) (Tv 0) sv_170 sv_171 sv_214 sv_215 (Tf 1) he_216) k_638 k_635 k_637 k_9 k_99 pl_X7_countOne ⟨Nat.le_of_ble_eq_true rfl, Nat.le_of_ble_eq_true rfl⟩ rfl rfl (va_recv hK hP (ci := 7) (q0 := 0) rfl rfl) hP hD hS [0, 1, 2, 3] [] rfl rfl rfl rfl rfl (by decide) rfl hl.1 rfl (Nat.le_of_ble_eq_true rfl) dX7_readFact_117 ⟨Nat.le_of_ble_eq_true rfl, Nat.le_of_ble_eq_true rfl⟩ (fun v_217 u_218 H locs hv_219 hP₀ hD₀ hS₀ => ?_)
            obtain ⟨sv_220, sv_221, sv_222⟩ := u_218
            obtain ⟨rfl, he_223⟩ := hv_219
            clear he_216
            have he_223 : (0 ≤ ((Tv 0) : Int32).toInt ∧ ((Tv 0) : Int32).toInt ≤ 400 ∧ 0 ≤ (sv_170 : Int32).toInt ∧ (sv_170 : Int32).toInt ≤ 400 ∧ 0 ≤ (sv_171 : Int32).toInt ∧ (sv_171 : Int32).toInt ≤ 400) := he_223
            refine W.eq (g2 := F0 m 120 ls []) rfl ?_
            replace hP : va_P D classes [((Va 0), .inr (7, [.ref (Va 1), .int sv_167, .int sv_220])), ((Va 1), .inl (tc 0, 400, .inl sv_169)), ((Ta 0), .inr (10, [.ref (Ta 1), .int (Tv 0), .int sv_170, .int sv_171, .int sv_221, .int sv_222])), ((Ta 1), .inl (tc 0, 400, .inl (Tf 1)))] H := hP₀
            replace hD : va_D A [((Va 0), .inr (7, [.ref (Va 1), .int sv_167, .int sv_220])), ((Va 1), .inl (tc 0, 400, .inl sv_169)), ((Ta 0), .inr (10, [.ref (Ta 1), .int (Tv 0), .int sv_170, .int sv_171, .int sv_221, .int sv_222])), ((Ta 1), .inl (tc 0, 400, .inl (Tf 1)))] := hD₀
            replace hS := hS₀
            clear hP₀ hD₀ hS₀
            refine lv_aload_n hx hb dX7_readFact_120 rfl (lv_at hl 3 rfl) ?_
            refine cV (a := (Ta 0)) (As := []) (rest := []) (wr := [((Va 0), .inr (7, [.ref (Va 1), .int sv_167, .int sv_220])), ((Va 1), .inl (tc 0, 400, .inl sv_169))]) ⟨hx, hb, hml, hown, hts⟩ hK hX hA (cu_X10_step l D tc sk (Ta 0) (Ta 1) (Tv 0) sv_170 sv_171 sv_221 sv_222 (Tf 1) he_223) k_478 k_620 k_476 k_477 k_96 pl_X10_step ⟨Nat.le_of_ble_eq_true rfl, Nat.le_of_ble_eq_true rfl⟩ rfl rfl (va_recv hK hP (ci := 10) (q0 := 2) rfl rfl) hP hD hS [2, 3] [0, 1] rfl rfl rfl rfl rfl (by decide) rfl hl.1 rfl (Nat.le_of_ble_eq_true rfl) dX7_readFact_121 ⟨Nat.le_of_ble_eq_true rfl, Nat.le_of_ble_eq_true rfl⟩ (fun v_224 u_225 H locs hv_226 hP₀ hD₀ hS₀ => ?_)
            obtain ⟨sv_227, sv_228, sv_229⟩ := u_225
            obtain ⟨rfl, he_230⟩ := hv_226
            clear he_223
            have he_230 : (0 ≤ ((Tv 0) : Int32).toInt ∧ ((Tv 0) : Int32).toInt ≤ 400 ∧ 0 ≤ (sv_227 : Int32).toInt ∧ (sv_227 : Int32).toInt ≤ 400 ∧ 0 ≤ (sv_228 : Int32).toInt ∧ (sv_228 : Int32).toInt ≤ 400) := he_230
            refine W.eq (g2 := F0 m 124 ls []) rfl ?_
            replace hP : va_P D classes [((Va 0), .inr (7, [.ref (Va 1), .int sv_167, .int sv_220])), ((Va 1), .inl (tc 0, 400, .inl sv_169)), ((Ta 0), .inr (10, [.ref (Ta 1), .int (Tv 0), .int sv_227, .int sv_228, .int sv_229, .int sv_222])), ((Ta 1), .inl (tc 0, 400, .inl (Tf 1)))] H := hP₀
            replace hD : va_D A [((Va 0), .inr (7, [.ref (Va 1), .int sv_167, .int sv_220])), ((Va 1), .inl (tc 0, 400, .inl sv_169)), ((Ta 0), .inr (10, [.ref (Ta 1), .int (Tv 0), .int sv_227, .int sv_228, .int sv_229, .int sv_222])), ((Ta 1), .inl (tc 0, 400, .inl (Tf 1)))] := hD₀
            replace hS := hS₀
            clear hP₀ hD₀ hS₀
            refine lv_aload_n hx hb dX7_readFact_124 rfl (lv_at hl 2 rfl) ?_
            refine lv_aload_n hx hb dX7_readFact_125 rfl (lv_at hl 3 rfl) ?_
            refine cV (a := (Va 0)) (As := [.ref (Ta 0)]) (rest := []) (wr := []) ⟨hx, hb, hml, hown, hts⟩ hK hX hA (cu_X7_readSum l D tc sk (Va 0) (Va 1) sv_167 sv_220 sv_169 (Ta 0) (Ta 1) (Tv 0) sv_227 sv_228 sv_229 sv_222 (Tf 1) he_230) k_624 k_621 k_623 k_7 k_99 pl_X7_readSum ⟨Nat.le_of_ble_eq_true rfl, Nat.le_of_ble_eq_true rfl⟩ rfl rfl (va_recv hK hP (ci := 7) (q0 := 0) rfl rfl) hP hD hS [0, 1, 2, 3] [] rfl rfl rfl rfl rfl (by decide) rfl hl.1 rfl (Nat.le_of_ble_eq_true rfl) dX7_readFact_126 ⟨Nat.le_of_ble_eq_true rfl, Nat.le_of_ble_eq_true rfl⟩ (fun v_231 u_232 H locs hv_233 hP₀ hD₀ hS₀ => ?_)
            obtain ⟨sv_234, sv_235, sv_236, sv_237, sv_238, sv_239, sv_240⟩ := u_232
            obtain ⟨rfl, he_241⟩ := hv_233
            clear he_230
            have he_241 : (0 ≤ ((Tv 0) : Int32).toInt ∧ ((Tv 0) : Int32).toInt ≤ 400 ∧ 0 ≤ (sv_237 : Int32).toInt ∧ (sv_237 : Int32).toInt ≤ 400 ∧ 0 ≤ (sv_238 : Int32).toInt ∧ (sv_238 : Int32).toInt ≤ 400) := he_241
            refine W.eq (g2 := F0 m 129 ls []) rfl ?_
            replace hP : va_P D classes [((Va 0), .inr (7, [.ref (Va 1), .int sv_234, .int sv_235])), ((Va 1), .inl (tc 0, 400, .inl sv_236)), ((Ta 0), .inr (10, [.ref (Ta 1), .int (Tv 0), .int sv_237, .int sv_238, .int sv_239, .int sv_240])), ((Ta 1), .inl (tc 0, 400, .inl (Tf 1)))] H := hP₀
            replace hD : va_D A [((Va 0), .inr (7, [.ref (Va 1), .int sv_234, .int sv_235])), ((Va 1), .inl (tc 0, 400, .inl sv_236)), ((Ta 0), .inr (10, [.ref (Ta 1), .int (Tv 0), .int sv_237, .int sv_238, .int sv_239, .int sv_240])), ((Ta 1), .inl (tc 0, 400, .inl (Tf 1)))] := hD₀
            replace hS := hS₀
            clear hP₀ hD₀ hS₀
            refine lv_aload_n hx hb dX7_readFact_129 rfl (lv_at hl 2 rfl) ?_
            refine lv_iload hx hb dX7_readFact_130 (lv_at hl 0 rfl) ?_
            refine cV (a := (Va 0)) (As := [.int r_178]) (rest := []) (wr := [((Ta 0), .inr (10, [.ref (Ta 1), .int (Tv 0), .int sv_237, .int sv_238, .int sv_239, .int sv_240])), ((Ta 1), .inl (tc 0, 400, .inl (Tf 1)))]) ⟨hx, hb, hml, hown, hts⟩ hK hX hA (cu_X7_put l D tc sk (Va 0) (Va 1) sv_234 sv_235 sv_236 r_178) k_642 k_639 k_641 k_10 k_99 pl_X7_put ⟨Nat.le_of_ble_eq_true rfl, Nat.le_of_ble_eq_true rfl⟩ rfl rfl (va_recv hK hP (ci := 7) (q0 := 0) rfl rfl) hP hD hS [0, 1] [2, 3] rfl rfl rfl rfl rfl (by decide) rfl hl.1 rfl (Nat.le_of_ble_eq_true rfl) dX7_readFact_132 ⟨Nat.le_of_ble_eq_true rfl, Nat.le_of_ble_eq_true rfl⟩ (fun v_242 u_243 H locs hv_244 hP₀ hD₀ hS₀ => ?_)
            obtain ⟨sv_245, sv_246⟩ := u_243
            obtain rfl : v_242 = none := hv_244
            refine W.eq (g2 := F0 m 135 ls []) rfl ?_
            replace hP : va_P D classes [((Ta 0), .inr (10, [.ref (Ta 1), .int (Tv 0), .int sv_237, .int sv_238, .int sv_239, .int sv_240])), ((Ta 1), .inl (tc 0, 400, .inl (Tf 1))), ((Va 0), .inr (7, [.ref (Va 1), .int sv_245, .int sv_235])), ((Va 1), .inl (tc 0, 400, .inl sv_246))] H := hP₀
            replace hD : va_D A [((Ta 0), .inr (10, [.ref (Ta 1), .int (Tv 0), .int sv_237, .int sv_238, .int sv_239, .int sv_240])), ((Ta 1), .inl (tc 0, 400, .inl (Tf 1))), ((Va 0), .inr (7, [.ref (Va 1), .int sv_245, .int sv_235])), ((Va 1), .inl (tc 0, 400, .inl sv_246))] := hD₀
            replace hS := hS₀
            clear hP₀ hD₀ hS₀
            exact retV hx hb hr hlk hP hD hS (sv_245, sv_235, sv_246, sv_237, sv_238, sv_239, sv_240) ⟨rfl, he_241⟩ [2, 3, 0, 1] rfl rfl dX7_readFact_135 (Nat.le_of_ble_eq_true rfl) (Nat.le_of_ble_eq_true rfl) rfl
        · skip
          refine lv_aload_n hx hb dX7_readFact_68 rfl (lv_at hl 1 rfl) ?_
          refine lv_aload_n hx hb dX7_readFact_69 rfl (lv_at hl 2 rfl) ?_
          refine lv_iload_n hx hb dX7_readFact_70 rfl (lv_at hl 3 rfl) ?_
          refine lv_iconst (v := 1) hx hb dX7_readFact_71 (by decide) ?_
          refine lv_iadd hx hb dX7_readFact_72 ?_
          refine lv_lit (v := 4) (by decide) ?_
          refine cV (a := (Va 0)) (As := [.ref (Ta 0), .int 4]) (rest := []) (wr := []) ⟨hx, hb, hml, hown, hts⟩ hK hX hA (cu_X7_readTest_4 l D tc sk (Va 0) (Va 1) (Vv 0) (Vv 1) (Vf 1) (Ta 0) (Ta 1) (Tv 0) sv_158 sv_159 sv_160 (Tv 4) (Tf 1) he_162.2) k_655 k_652 k_654 k_11 k_99 pl_X7_readTest ⟨Nat.le_of_ble_eq_true rfl, Nat.le_of_ble_eq_true rfl⟩ rfl rfl (va_recv hK hP (ci := 7) (q0 := 0) rfl rfl) hP hD hS [0, 1, 2, 3] [] rfl rfl rfl rfl rfl (by decide) rfl hl.1 rfl (Nat.le_of_ble_eq_true rfl) dX7_readFact_73 ⟨Nat.le_of_ble_eq_true rfl, Nat.le_of_ble_eq_true rfl⟩ (fun v_247 u_248 H locs hv_249 hP₀ hD₀ hS₀ => ?_)
          obtain ⟨sv_250, sv_251, sv_252, sv_253, sv_254, sv_255, sv_256⟩ := u_248
          obtain ⟨rfl, he_257⟩ := hv_249
          clear he_162
          have he_257 : (0 ≤ ((Tv 0) : Int32).toInt ∧ ((Tv 0) : Int32).toInt ≤ 400 ∧ 0 ≤ (sv_253 : Int32).toInt ∧ (sv_253 : Int32).toInt ≤ 400 ∧ 0 ≤ (sv_254 : Int32).toInt ∧ (sv_254 : Int32).toInt ≤ 400) := he_257
          refine W.eq (g2 := F0 m 76 ls []) rfl ?_
          replace hP : va_P D classes [((Va 0), .inr (7, [.ref (Va 1), .int sv_250, .int sv_251])), ((Va 1), .inl (tc 0, 400, .inl sv_252)), ((Ta 0), .inr (10, [.ref (Ta 1), .int (Tv 0), .int sv_253, .int sv_254, .int sv_255, .int sv_256])), ((Ta 1), .inl (tc 0, 400, .inl (Tf 1)))] H := hP₀
          replace hD : va_D A [((Va 0), .inr (7, [.ref (Va 1), .int sv_250, .int sv_251])), ((Va 1), .inl (tc 0, 400, .inl sv_252)), ((Ta 0), .inr (10, [.ref (Ta 1), .int (Tv 0), .int sv_253, .int sv_254, .int sv_255, .int sv_256])), ((Ta 1), .inl (tc 0, 400, .inl (Tf 1)))] := hD₀
          replace hS := hS₀
          clear hP₀ hD₀ hS₀
          refine lv_aload_n hx hb dX7_readFact_76 rfl (lv_at hl 2 rfl) ?_
          refine lv_bipush (v := 93) hx hb dX7_readFact_77 (by decide) ?_
          refine cV (a := (Ta 0)) (As := [.int 93]) (rest := []) (wr := [((Va 0), .inr (7, [.ref (Va 1), .int sv_250, .int sv_251])), ((Va 1), .inl (tc 0, 400, .inl sv_252))]) ⟨hx, hb, hml, hown, hts⟩ hK hX hA (cu_X10_takes l D tc sk (Ta 0) (Ta 1) (Tv 0) sv_253 sv_254 sv_255 sv_256 (Tf 1) 93 he_257) k_492 k_613 k_490 k_491 k_96 pl_X10_takes ⟨Nat.le_of_ble_eq_true rfl, Nat.le_of_ble_eq_true rfl⟩ rfl rfl (va_recv hK hP (ci := 10) (q0 := 2) rfl rfl) hP hD hS [2, 3] [0, 1] rfl rfl rfl rfl rfl (by decide) rfl hl.1 rfl (Nat.le_of_ble_eq_true rfl) dX7_readFact_79 ⟨Nat.le_of_ble_eq_true rfl, Nat.le_of_ble_eq_true rfl⟩ (fun v_258 u_259 H locs hv_260 hP₀ hD₀ hS₀ => ?_)
          obtain ⟨sv_261, sv_262, sv_263⟩ := u_259
          obtain ⟨r_264, rfl, he_265⟩ := hv_260
          clear he_257
          have he_265 : ((r_264.toInt = 0 ∨ (r_264.toInt = 1 ∧ sv_255.toInt = (93 : Int32).toInt))) ∧ (0 ≤ ((Tv 0) : Int32).toInt ∧ ((Tv 0) : Int32).toInt ≤ 400 ∧ 0 ≤ (sv_261 : Int32).toInt ∧ (sv_261 : Int32).toInt ≤ 400 ∧ 0 ≤ (sv_262 : Int32).toInt ∧ (sv_262 : Int32).toInt ≤ 400) := he_265
          refine W.eq (g2 := F0 m 82 ls [.int r_264]) rfl ?_
          replace hP : va_P D classes [((Va 0), .inr (7, [.ref (Va 1), .int sv_250, .int sv_251])), ((Va 1), .inl (tc 0, 400, .inl sv_252)), ((Ta 0), .inr (10, [.ref (Ta 1), .int (Tv 0), .int sv_261, .int sv_262, .int sv_263, .int sv_256])), ((Ta 1), .inl (tc 0, 400, .inl (Tf 1)))] H := hP₀
          replace hD : va_D A [((Va 0), .inr (7, [.ref (Va 1), .int sv_250, .int sv_251])), ((Va 1), .inl (tc 0, 400, .inl sv_252)), ((Ta 0), .inr (10, [.ref (Ta 1), .int (Tv 0), .int sv_261, .int sv_262, .int sv_263, .int sv_256])), ((Ta 1), .inl (tc 0, 400, .inl (Tf 1)))] := hD₀
          replace hS := hS₀
          clear hP₀ hD₀ hS₀
          refine lv_if_ne (tgt := 135) hx hb dX7_readFact_82 (by decide) (fun c_266 => ?_) (fun c_266 => ?_)
          · skip
            exact retV hx hb hr hlk hP hD hS (sv_250, sv_251, sv_252, sv_261, sv_262, sv_263, sv_256) ⟨rfl, he_265.2⟩ [0, 1, 2, 3] rfl rfl dX7_readFact_135 (Nat.le_of_ble_eq_true rfl) (Nat.le_of_ble_eq_true rfl) rfl
          · skip
            refine lv_aload_n hx hb dX7_readFact_85 rfl (lv_at hl 2 rfl) ?_
            refine lv_iconst (v := 0) hx hb dX7_readFact_86 (by decide) ?_
            refine cV (a := (Ta 0)) (As := [.int 0]) (rest := []) (wr := [((Va 0), .inr (7, [.ref (Va 1), .int sv_250, .int sv_251])), ((Va 1), .inl (tc 0, 400, .inl sv_252))]) ⟨hx, hb, hml, hown, hts⟩ hK hX hA (cu_X10_fail l D tc sk (Ta 0) (Ta 1) (Tv 0) sv_261 sv_262 sv_263 sv_256 (Tf 1) 0 he_265.2) k_557 k_619 k_555 k_556 k_96 pl_X10_fail ⟨Nat.le_of_ble_eq_true rfl, Nat.le_of_ble_eq_true rfl⟩ rfl rfl (va_recv hK hP (ci := 10) (q0 := 2) rfl rfl) hP hD hS [2, 3] [0, 1] rfl rfl rfl rfl rfl (by decide) rfl hl.1 rfl (Nat.le_of_ble_eq_true rfl) dX7_readFact_87 ⟨Nat.le_of_ble_eq_true rfl, Nat.le_of_ble_eq_true rfl⟩ (fun v_267 u_268 H locs hv_269 hP₀ hD₀ hS₀ => ?_)
            obtain ⟨sv_270, sv_271⟩ := u_268
            obtain ⟨rfl, he_272⟩ := hv_269
            clear he_265
            have he_272 : (0 ≤ ((Tv 0) : Int32).toInt ∧ ((Tv 0) : Int32).toInt ≤ 400 ∧ 0 ≤ (sv_261 : Int32).toInt ∧ (sv_261 : Int32).toInt ≤ 400 ∧ 0 ≤ (sv_262 : Int32).toInt ∧ (sv_262 : Int32).toInt ≤ 400) := he_272
            refine W.eq (g2 := F0 m 90 ls []) rfl ?_
            replace hP : va_P D classes [((Va 0), .inr (7, [.ref (Va 1), .int sv_250, .int sv_251])), ((Va 1), .inl (tc 0, 400, .inl sv_252)), ((Ta 0), .inr (10, [.ref (Ta 1), .int (Tv 0), .int sv_261, .int sv_262, .int sv_270, .int sv_271])), ((Ta 1), .inl (tc 0, 400, .inl (Tf 1)))] H := hP₀
            replace hD : va_D A [((Va 0), .inr (7, [.ref (Va 1), .int sv_250, .int sv_251])), ((Va 1), .inl (tc 0, 400, .inl sv_252)), ((Ta 0), .inr (10, [.ref (Ta 1), .int (Tv 0), .int sv_261, .int sv_262, .int sv_270, .int sv_271])), ((Ta 1), .inl (tc 0, 400, .inl (Tf 1)))] := hD₀
            replace hS := hS₀
            clear hP₀ hD₀ hS₀
            refine lv_goto (tgt := 135) hx hb dX7_readFact_90 (by decide) ?_
            exact retV hx hb hr hlk hP hD hS (sv_250, sv_251, sv_252, sv_261, sv_262, sv_270, sv_271) ⟨rfl, he_272⟩ [0, 1, 2, 3] rfl rfl dX7_readFact_135 (Nat.le_of_ble_eq_true rfl) (Nat.le_of_ble_eq_true rfl) rfl
      · skip
        exfalso
        have z_1 := congrArg Int32.toInt c_7
        have z_2 := congrArg Int32.toInt c_33
        have z_3 : ¬ (r_5 : Int32).toInt = (0 : Int32).toInt := fun z => c_154 (Int32.toInt_inj.mp z)
        have y_0 : (0 : Int32).toInt = 0 := by decide
        have y_91 : (91 : Int32).toInt = 91 := by decide
        omega
set_option maxRecDepth 100000 in
theorem cu_X7_readFact_3 (l : Launch) (D : va_G) (tc : Nat → ClassId) (sk : (Nat → Nat) × (Nat → Nat)) (Va_0 : Nat) (Va_1 : Nat) (Vv_0 : Int32) (Vv_1 : Int32) (Vf_1 : Nat → Int32) (Ta_0 : Nat) (Ta_1 : Nat) (Tv_0 : Int32) (Tv_1 : Int32) (Tv_2 : Int32) (Tv_3 : Int32) (Tv_4 : Int32) (Tf_1 : Nat → Int32) (h_tape : 0 ≤ (Tv_0 : Int32).toInt ∧ (Tv_0 : Int32).toInt ≤ 400 ∧ 0 ≤ (Tv_1 : Int32).toInt ∧ (Tv_1 : Int32).toInt ≤ 400 ∧ 0 ≤ (Tv_2 : Int32).toInt ∧ (Tv_2 : Int32).toInt ≤ 400) : Ct l yX7_readFact cX7_readFact 5 none { frames := 22, cells := 0, slots := 0, locals := 523 } D tc sk [.ref Va_0, .ref Ta_0, .int 3] [(Va_0, .inr (7, [.ref Va_1, .int Vv_0, .int Vv_1])), (Va_1, .inl (tc 0, 400, .inl Vf_1)), (Ta_0, .inr (10, [.ref Ta_1, .int Tv_0, .int Tv_1, .int Tv_2, .int Tv_3, .int Tv_4])), (Ta_1, .inl (tc 0, 400, .inl Tf_1))] (fun (v : Option Value) (u : (Int32) × (Int32) × (Nat → Int32) × (Int32) × (Int32) × (Int32) × (Int32)) => match u with | (o1, o2, o3, o4, o5, o6, o7) => v = none ∧ (0 ≤ (Tv_0 : Int32).toInt ∧ (Tv_0 : Int32).toInt ≤ 400 ∧ 0 ≤ (o4 : Int32).toInt ∧ (o4 : Int32).toInt ≤ 400 ∧ 0 ≤ (o5 : Int32).toInt ∧ (o5 : Int32).toInt ≤ 400)) (fun (u : (Int32) × (Int32) × (Nat → Int32) × (Int32) × (Int32) × (Int32) × (Int32)) => match u with | (o1, o2, o3, o4, o5, o6, o7) => [(Va_0, .inr (7, [.ref Va_1, .int o1, .int o2])), (Va_1, .inl (tc 0, 400, .inl o3)), (Ta_0, .inr (10, [.ref Ta_1, .int Tv_0, .int o4, .int o5, .int o6, .int o7])), (Ta_1, .inl (tc 0, 400, .inl Tf_1))]) 0 0 :=
  ct_X7_readFact_3 l D tc sk (fun k => ([Va_0, Va_1] : List (Nat)).getD k 0) (fun k => ([Vv_0, Vv_1] : List (Int32)).getD k 0) (fun k => ([(fun _ => 0), Vf_1] : List (Nat → Int32)).getD k (fun _ => 0)) (fun k => ([Ta_0, Ta_1] : List (Nat)).getD k 0) (fun k => ([Tv_0, Tv_1, Tv_2, Tv_3, Tv_4] : List (Int32)).getD k 0) (fun k => ([(fun _ => 0), Tf_1] : List (Nat → Int32)).getD k (fun _ => 0)) h_tape
set_option maxHeartbeats 4000000 in
set_option maxRecDepth 100000 in
theorem ct_X7_readTest_3 (l : Launch) (D : va_G) (tc : Nat → ClassId) (sk : (Nat → Nat) × (Nat → Nat)) (Va : Nat → Nat) (Vv : Nat → Int32) (Vf : Nat → Nat → Int32) (Ta : Nat → Nat) (Tv : Nat → Int32) (Tf : Nat → Nat → Int32) (h_tape : 0 ≤ ((Tv 0) : Int32).toInt ∧ ((Tv 0) : Int32).toInt ≤ 400 ∧ 0 ≤ ((Tv 1) : Int32).toInt ∧ ((Tv 1) : Int32).toInt ≤ 400 ∧ 0 ≤ ((Tv 2) : Int32).toInt ∧ ((Tv 2) : Int32).toInt ≤ 400) : Ct l yX7_readTest cX7_readTest 6 none { frames := 23, cells := 0, slots := 0, locals := 547 } D tc sk [.ref (Va 0), .ref (Ta 0), .int 3] [((Va 0), .inr (7, [.ref (Va 1), .int (Vv 0), .int (Vv 1)])), ((Va 1), .inl (tc 0, 400, .inl (Vf 1))), ((Ta 0), .inr (10, [.ref (Ta 1), .int (Tv 0), .int (Tv 1), .int (Tv 2), .int (Tv 3), .int (Tv 4)])), ((Ta 1), .inl (tc 0, 400, .inl (Tf 1)))] (fun (v : Option Value) (u : (Int32) × (Int32) × (Nat → Int32) × (Int32) × (Int32) × (Int32) × (Int32)) => match u with | (o1, o2, o3, o4, o5, o6, o7) => v = none ∧ (0 ≤ ((Tv 0) : Int32).toInt ∧ ((Tv 0) : Int32).toInt ≤ 400 ∧ 0 ≤ (o4 : Int32).toInt ∧ (o4 : Int32).toInt ≤ 400 ∧ 0 ≤ (o5 : Int32).toInt ∧ (o5 : Int32).toInt ≤ 400)) (fun (u : (Int32) × (Int32) × (Nat → Int32) × (Int32) × (Int32) × (Int32) × (Int32)) => match u with | (o1, o2, o3, o4, o5, o6, o7) => [((Va 0), .inr (7, [.ref (Va 1), .int o1, .int o2])), ((Va 1), .inl (tc 0, 400, .inl o3)), ((Ta 0), .inr (10, [.ref (Ta 1), .int (Tv 0), .int o4, .int o5, .int o6, .int o7])), ((Ta 1), .inl (tc 0, 400, .inl (Tf 1)))]) 0 0 := by
  refine Ct.start (by decide) (Nat.le_of_ble_eq_true rfl) (fun p e s m below meth c A ls hx hb hr hlk hin hml hown hts hK hX hP hD hA hl hS => ?_)
  have hl : lv_has ls 6 [(0, .ref (Va 0)), (1, .ref (Ta 0)), (2, .int 3)] := hl
  refine lv_aload_n hx hb dX7_readTest_0 rfl (lv_at hl 0 rfl) ?_
  refine lv_aload_n hx hb dX7_readTest_1 rfl (lv_at hl 1 rfl) ?_
  refine lv_iload_n hx hb dX7_readTest_2 rfl (lv_at hl 2 rfl) ?_
  refine cV (a := (Va 0)) (As := [.ref (Ta 0), .int 3]) (rest := []) (wr := []) ⟨hx, hb, hml, hown, hts⟩ hK hX hA (cu_X7_readFact_3 l D tc sk (Va 0) (Va 1) (Vv 0) (Vv 1) (Vf 1) (Ta 0) (Ta 1) (Tv 0) (Tv 1) (Tv 2) (Tv 3) (Tv 4) (Tf 1) h_tape) k_659 k_656 k_658 k_12 k_99 pl_X7_readFact ⟨Nat.le_of_ble_eq_true rfl, Nat.le_of_ble_eq_true rfl⟩ rfl rfl (va_recv hK hP (ci := 7) (q0 := 0) rfl rfl) hP hD hS [0, 1, 2, 3] [] rfl rfl rfl rfl rfl (by decide) rfl hl.1 rfl (Nat.le_of_ble_eq_true rfl) dX7_readTest_3 ⟨Nat.le_of_ble_eq_true rfl, Nat.le_of_ble_eq_true rfl⟩ (fun v_1 u_2 H locs hv_3 hP₀ hD₀ hS₀ => ?_)
  obtain ⟨sv_4, sv_5, sv_6, sv_7, sv_8, sv_9, sv_10⟩ := u_2
  obtain ⟨rfl, he_11⟩ := hv_3
  have he_11 : (0 ≤ ((Tv 0) : Int32).toInt ∧ ((Tv 0) : Int32).toInt ≤ 400 ∧ 0 ≤ (sv_7 : Int32).toInt ∧ (sv_7 : Int32).toInt ≤ 400 ∧ 0 ≤ (sv_8 : Int32).toInt ∧ (sv_8 : Int32).toInt ≤ 400) := he_11
  refine W.eq (g2 := F0 m 6 ls []) rfl ?_
  replace hP : va_P D classes [((Va 0), .inr (7, [.ref (Va 1), .int sv_4, .int sv_5])), ((Va 1), .inl (tc 0, 400, .inl sv_6)), ((Ta 0), .inr (10, [.ref (Ta 1), .int (Tv 0), .int sv_7, .int sv_8, .int sv_9, .int sv_10])), ((Ta 1), .inl (tc 0, 400, .inl (Tf 1)))] H := hP₀
  replace hD : va_D A [((Va 0), .inr (7, [.ref (Va 1), .int sv_4, .int sv_5])), ((Va 1), .inl (tc 0, 400, .inl sv_6)), ((Ta 0), .inr (10, [.ref (Ta 1), .int (Tv 0), .int sv_7, .int sv_8, .int sv_9, .int sv_10])), ((Ta 1), .inl (tc 0, 400, .inl (Tf 1)))] := hD₀
  replace hS := hS₀
  clear hP₀ hD₀ hS₀
  refine lv_iconst (v := 0) hx hb dX7_readTest_6 (by decide) ?_
  refine lv_istore_n (lv' := [(3, .int 0), (0, .ref (Va 0)), (1, .ref (Ta 0)), (2, .int 3)]) hx hb dX7_readTest_7 rfl hl (by decide) rfl (fun ls hl₀ => ?_)
  replace hl := hl₀
  clear hl₀
  refine lv_iconst (v := 0) hx hb dX7_readTest_8 (by decide) ?_
  refine lv_istore (lv' := [(4, .int 0), (3, .int 0), (0, .ref (Va 0)), (1, .ref (Ta 0)), (2, .int 3)]) hx hb dX7_readTest_9 hl (by decide) rfl (fun ls hl₀ => ?_)
  replace hl := hl₀
  clear hl₀
  have loop_33 : ∀ (n_31 : Nat) (vy_22 : Int32) (vy_23 : Int32) (vy_24 : Int32) (vy_25 : Nat → Int32) (vy_26 : Int32) (vy_27 : Int32) (vy_28 : Int32) (vy_29 : Int32) (vy_30 : Int32) (H : Heap) (locs : List Loc) (ls : Array Slot), 0 ≤ (vy_22 : Int32).toInt → (400 - (vy_22 : Int32).toInt).toNat < n_31 → 0 ≤ ((Tv 0) : Int32).toInt ∧ ((Tv 0) : Int32).toInt ≤ 400 ∧ 0 ≤ (vy_26 : Int32).toInt ∧ (vy_26 : Int32).toInt ≤ 400 ∧ 0 ≤ (vy_27 : Int32).toInt ∧ (vy_27 : Int32).toInt ≤ 400 → va_P D classes [((Va 0), .inr (7, [.ref (Va 1), .int vy_23, .int vy_24])), ((Va 1), .inl (tc 0, 400, .inl vy_25)), ((Ta 0), .inr (10, [.ref (Ta 1), .int (Tv 0), .int vy_26, .int vy_27, .int vy_28, .int vy_29])), ((Ta 1), .inl (tc 0, 400, .inl (Tf 1)))] H → va_D A [((Va 0), .inr (7, [.ref (Va 1), .int vy_23, .int vy_24])), ((Va 1), .inl (tc 0, 400, .inl vy_25)), ((Ta 0), .inr (10, [.ref (Ta 1), .int (Tv 0), .int vy_26, .int vy_27, .int vy_28, .int vy_29])), ((Ta 1), .inl (tc 0, 400, .inl (Tf 1)))] → va_S A s.heap H locs → lv_has ls 6 [(4, .int vy_22), (3, .int vy_30), (0, .ref (Va 0)), (1, .ref (Ta 0)), (2, .int 3)] → W p l e ({ frames := 23, cells := 0, slots := 0, locals := 547 }) s m ([.ref (Va 0), .ref (Ta 0), .int 3].toArray) below meth c H locs 0 0 (MQ below (QW (fun (v : Option Value) (u : (Int32) × (Int32) × (Nat → Int32) × (Int32) × (Int32) × (Int32) × (Int32)) => match u with | (o1, o2, o3, o4, o5, o6, o7) => v = none ∧ (0 ≤ ((Tv 0) : Int32).toInt ∧ ((Tv 0) : Int32).toInt ≤ 400 ∧ 0 ≤ (o4 : Int32).toInt ∧ (o4 : Int32).toInt ≤ 400 ∧ 0 ≤ (o5 : Int32).toInt ∧ (o5 : Int32).toInt ≤ 400)) (BW D (fun (u : (Int32) × (Int32) × (Nat → Int32) × (Int32) × (Int32) × (Int32) × (Int32)) => match u with | (o1, o2, o3, o4, o5, o6, o7) => [((Va 0), .inr (7, [.ref (Va 1), .int o1, .int o2])), ((Va 1), .inl (tc 0, 400, .inl o3)), ((Ta 0), .inr (10, [.ref (Ta 1), .int (Tv 0), .int o4, .int o5, .int o6, .int o7])), ((Ta 1), .inl (tc 0, 400, .inl (Tf 1)))]) A) A) ([.ref (Va 0), .ref (Ta 0), .int 3].toArray) s 0 0 A) (F0 m 11 ls []) := by
    clear hP hD hS hl
    intro n_31
    induction n_31 with
    | zero =>
      intro vy_22 vy_23 vy_24 vy_25 vy_26 vy_27 vy_28 vy_29 vy_30 H locs ls h1 h2
      exact absurd h2 (Nat.not_lt_zero _)
    | succ n_31 ih_32 =>
      intro vy_22 vy_23 vy_24 vy_25 vy_26 vy_27 vy_28 vy_29 vy_30 H locs ls hi_35 hn_36 hv_34 hP hD hS hl
      refine lv_iload hx hb dX7_readTest_11 (lv_at hl 0 rfl) ?_
      refine lv_sipush (v := 400) hx hb dX7_readTest_13 (by decide) ?_
      refine lv_icmp_ge (tgt := 92) hx hb dX7_readTest_16 (by decide) (fun c_37 => ?_) (fun c_37 => ?_)
      · skip
        refine lv_iload_n hx hb dX7_readTest_92 rfl (lv_at hl 1 rfl) ?_
        refine lv_if_eq (tgt := 102) hx hb dX7_readTest_93 (by decide) (fun c_38 => ?_) (fun c_38 => ?_)
        · skip
          exact retV hx hb hr hlk hP hD hS (vy_23, vy_24, vy_25, vy_26, vy_27, vy_28, vy_29) ⟨rfl, hv_34⟩ [0, 1, 2, 3] rfl rfl dX7_readTest_102 (Nat.le_of_ble_eq_true rfl) (Nat.le_of_ble_eq_true rfl) rfl
        · skip
          refine lv_aload_n hx hb dX7_readTest_96 rfl (lv_at hl 2 rfl) ?_
          refine lv_bipush (v := (-6)) hx hb dX7_readTest_97 (by decide) ?_
          refine cV (a := (Va 0)) (As := [.int (-6)]) (rest := []) (wr := [((Ta 0), .inr (10, [.ref (Ta 1), .int (Tv 0), .int vy_26, .int vy_27, .int vy_28, .int vy_29])), ((Ta 1), .inl (tc 0, 400, .inl (Tf 1)))]) ⟨hx, hb, hml, hown, hts⟩ hK hX hA (cu_X7_put l D tc sk (Va 0) (Va 1) vy_23 vy_24 vy_25 (-6)) k_642 k_639 k_641 k_10 k_99 pl_X7_put ⟨Nat.le_of_ble_eq_true rfl, Nat.le_of_ble_eq_true rfl⟩ rfl rfl (va_recv hK hP (ci := 7) (q0 := 0) rfl rfl) hP hD hS [0, 1] [2, 3] rfl rfl rfl rfl rfl (by decide) rfl hl.1 rfl (Nat.le_of_ble_eq_true rfl) dX7_readTest_99 ⟨Nat.le_of_ble_eq_true rfl, Nat.le_of_ble_eq_true rfl⟩ (fun v_39 u_40 H locs hv_41 hP₀ hD₀ hS₀ => ?_)
          obtain ⟨sv_42, sv_43⟩ := u_40
          obtain rfl : v_39 = none := hv_41
          refine W.eq (g2 := F0 m 102 ls []) rfl ?_
          replace hP : va_P D classes [((Ta 0), .inr (10, [.ref (Ta 1), .int (Tv 0), .int vy_26, .int vy_27, .int vy_28, .int vy_29])), ((Ta 1), .inl (tc 0, 400, .inl (Tf 1))), ((Va 0), .inr (7, [.ref (Va 1), .int sv_42, .int vy_24])), ((Va 1), .inl (tc 0, 400, .inl sv_43))] H := hP₀
          replace hD : va_D A [((Ta 0), .inr (10, [.ref (Ta 1), .int (Tv 0), .int vy_26, .int vy_27, .int vy_28, .int vy_29])), ((Ta 1), .inl (tc 0, 400, .inl (Tf 1))), ((Va 0), .inr (7, [.ref (Va 1), .int sv_42, .int vy_24])), ((Va 1), .inl (tc 0, 400, .inl sv_43))] := hD₀
          replace hS := hS₀
          clear hP₀ hD₀ hS₀
          exact retV hx hb hr hlk hP hD hS (sv_42, vy_24, sv_43, vy_26, vy_27, vy_28, vy_29) ⟨rfl, hv_34⟩ [2, 3, 0, 1] rfl rfl dX7_readTest_102 (Nat.le_of_ble_eq_true rfl) (Nat.le_of_ble_eq_true rfl) rfl
      · skip
        refine lv_aload_n hx hb dX7_readTest_19 rfl (lv_at hl 3 rfl) ?_
        refine va_ldcS hx hb hown (sx_5 hX) dX7_readTest_20 ?_
        have hh_44 : (5 : Nat) < 7 := by
          have y_5 : (5 : Int32).toInt = 5 := by decide
          omega
        refine cV (a := (Ta 0)) (As := [.ref (sk.1 5)]) (rest := []) (wr := [((Va 0), .inr (7, [.ref (Va 1), .int vy_23, .int vy_24])), ((Va 1), .inl (tc 0, 400, .inl vy_25))]) ⟨hx, hb, hml, hown, hts⟩ hK hX hA (cu_X10_isWord l D tc sk (Ta 0) (Ta 1) (Tv 0) vy_26 vy_27 vy_28 vy_29 (Tf 1) 5 hh_44 hv_34) k_618 k_615 k_616 k_617 k_96 pl_X10_isWord ⟨Nat.le_of_ble_eq_true rfl, Nat.le_of_ble_eq_true rfl⟩ rfl rfl (va_recv hK hP (ci := 10) (q0 := 2) rfl rfl) hP hD hS [2, 3] [0, 1] rfl rfl rfl rfl rfl (by decide) rfl hl.1 rfl (Nat.le_of_ble_eq_true rfl) dX7_readTest_22 ⟨Nat.le_of_ble_eq_true rfl, Nat.le_of_ble_eq_true rfl⟩ (fun v_45 u_46 H locs hv_47 hP₀ hD₀ hS₀ => ?_)
        obtain ⟨r_48, rfl, he_49⟩ := hv_47
        clear he_11
        have he_49 : ((r_48.toInt = 0 ∨ r_48.toInt = 1)) ∧ (0 ≤ ((Tv 0) : Int32).toInt ∧ ((Tv 0) : Int32).toInt ≤ 400 ∧ 0 ≤ (vy_26 : Int32).toInt ∧ (vy_26 : Int32).toInt ≤ 400 ∧ 0 ≤ (vy_27 : Int32).toInt ∧ (vy_27 : Int32).toInt ≤ 400) := he_49
        refine W.eq (g2 := F0 m 25 ls [.int r_48]) rfl ?_
        replace hP : va_P D classes [((Va 0), .inr (7, [.ref (Va 1), .int vy_23, .int vy_24])), ((Va 1), .inl (tc 0, 400, .inl vy_25)), ((Ta 0), .inr (10, [.ref (Ta 1), .int (Tv 0), .int vy_26, .int vy_27, .int vy_28, .int vy_29])), ((Ta 1), .inl (tc 0, 400, .inl (Tf 1)))] H := hP₀
        replace hD : va_D A [((Va 0), .inr (7, [.ref (Va 1), .int vy_23, .int vy_24])), ((Va 1), .inl (tc 0, 400, .inl vy_25)), ((Ta 0), .inr (10, [.ref (Ta 1), .int (Tv 0), .int vy_26, .int vy_27, .int vy_28, .int vy_29])), ((Ta 1), .inl (tc 0, 400, .inl (Tf 1)))] := hD₀
        replace hS := hS₀
        clear hP₀ hD₀ hS₀
        refine lv_if_ne (tgt := 37) hx hb dX7_readTest_25 (by decide) (fun c_50 => ?_) (fun c_50 => ?_)
        · skip
          refine lv_aload_n hx hb dX7_readTest_37 rfl (lv_at hl 3 rfl) ?_
          refine va_ldcS hx hb hown (sx_6 hX) dX7_readTest_38 ?_
          have hh_51 : (6 : Nat) < 7 := by
            have y_6 : (6 : Int32).toInt = 6 := by decide
            omega
          refine cV (a := (Ta 0)) (As := [.ref (sk.1 6)]) (rest := []) (wr := [((Va 0), .inr (7, [.ref (Va 1), .int vy_23, .int vy_24])), ((Va 1), .inl (tc 0, 400, .inl vy_25))]) ⟨hx, hb, hml, hown, hts⟩ hK hX hA (cu_X10_isWord l D tc sk (Ta 0) (Ta 1) (Tv 0) vy_26 vy_27 vy_28 vy_29 (Tf 1) 6 hh_51 he_49.2) k_618 k_615 k_616 k_617 k_96 pl_X10_isWord ⟨Nat.le_of_ble_eq_true rfl, Nat.le_of_ble_eq_true rfl⟩ rfl rfl (va_recv hK hP (ci := 10) (q0 := 2) rfl rfl) hP hD hS [2, 3] [0, 1] rfl rfl rfl rfl rfl (by decide) rfl hl.1 rfl (Nat.le_of_ble_eq_true rfl) dX7_readTest_40 ⟨Nat.le_of_ble_eq_true rfl, Nat.le_of_ble_eq_true rfl⟩ (fun v_52 u_53 H locs hv_54 hP₀ hD₀ hS₀ => ?_)
          obtain ⟨r_55, rfl, he_56⟩ := hv_54
          clear he_49
          have he_56 : ((r_55.toInt = 0 ∨ r_55.toInt = 1)) ∧ (0 ≤ ((Tv 0) : Int32).toInt ∧ ((Tv 0) : Int32).toInt ≤ 400 ∧ 0 ≤ (vy_26 : Int32).toInt ∧ (vy_26 : Int32).toInt ≤ 400 ∧ 0 ≤ (vy_27 : Int32).toInt ∧ (vy_27 : Int32).toInt ≤ 400) := he_56
          refine W.eq (g2 := F0 m 43 ls [.int r_55]) rfl ?_
          replace hP : va_P D classes [((Va 0), .inr (7, [.ref (Va 1), .int vy_23, .int vy_24])), ((Va 1), .inl (tc 0, 400, .inl vy_25)), ((Ta 0), .inr (10, [.ref (Ta 1), .int (Tv 0), .int vy_26, .int vy_27, .int vy_28, .int vy_29])), ((Ta 1), .inl (tc 0, 400, .inl (Tf 1)))] H := hP₀
          replace hD : va_D A [((Va 0), .inr (7, [.ref (Va 1), .int vy_23, .int vy_24])), ((Va 1), .inl (tc 0, 400, .inl vy_25)), ((Ta 0), .inr (10, [.ref (Ta 1), .int (Tv 0), .int vy_26, .int vy_27, .int vy_28, .int vy_29])), ((Ta 1), .inl (tc 0, 400, .inl (Tf 1)))] := hD₀
          replace hS := hS₀
          clear hP₀ hD₀ hS₀
          refine lv_istore (lv' := [(5, .int r_55), (4, .int vy_22), (3, .int vy_30), (0, .ref (Va 0)), (1, .ref (Ta 0)), (2, .int 3)]) hx hb dX7_readTest_43 hl (by decide) rfl (fun ls hl₀ => ?_)
          replace hl := hl₀
          clear hl₀
          refine lv_iload hx hb dX7_readTest_45 (lv_at hl 0 rfl) ?_
          refine lv_if_eq (tgt := 60) hx hb dX7_readTest_47 (by decide) (fun c_57 => ?_) (fun c_57 => ?_)
          · skip
            refine lv_aload_n hx hb dX7_readTest_60 rfl (lv_at hl 4 rfl) ?_
            refine cV (a := (Ta 0)) (As := []) (rest := []) (wr := [((Va 0), .inr (7, [.ref (Va 1), .int vy_23, .int vy_24])), ((Va 1), .inl (tc 0, 400, .inl vy_25))]) ⟨hx, hb, hml, hown, hts⟩ hK hX hA (cu_X10_step l D tc sk (Ta 0) (Ta 1) (Tv 0) vy_26 vy_27 vy_28 vy_29 (Tf 1) he_56.2) k_478 k_620 k_476 k_477 k_96 pl_X10_step ⟨Nat.le_of_ble_eq_true rfl, Nat.le_of_ble_eq_true rfl⟩ rfl rfl (va_recv hK hP (ci := 10) (q0 := 2) rfl rfl) hP hD hS [2, 3] [0, 1] rfl rfl rfl rfl rfl (by decide) rfl hl.1 rfl (Nat.le_of_ble_eq_true rfl) dX7_readTest_61 ⟨Nat.le_of_ble_eq_true rfl, Nat.le_of_ble_eq_true rfl⟩ (fun v_58 u_59 H locs hv_60 hP₀ hD₀ hS₀ => ?_)
            obtain ⟨sv_61, sv_62, sv_63⟩ := u_59
            obtain ⟨rfl, he_64⟩ := hv_60
            clear he_56
            have he_64 : (0 ≤ ((Tv 0) : Int32).toInt ∧ ((Tv 0) : Int32).toInt ≤ 400 ∧ 0 ≤ (sv_61 : Int32).toInt ∧ (sv_61 : Int32).toInt ≤ 400 ∧ 0 ≤ (sv_62 : Int32).toInt ∧ (sv_62 : Int32).toInt ≤ 400) := he_64
            refine W.eq (g2 := F0 m 64 ls []) rfl ?_
            replace hP : va_P D classes [((Va 0), .inr (7, [.ref (Va 1), .int vy_23, .int vy_24])), ((Va 1), .inl (tc 0, 400, .inl vy_25)), ((Ta 0), .inr (10, [.ref (Ta 1), .int (Tv 0), .int sv_61, .int sv_62, .int sv_63, .int vy_29])), ((Ta 1), .inl (tc 0, 400, .inl (Tf 1)))] H := hP₀
            replace hD : va_D A [((Va 0), .inr (7, [.ref (Va 1), .int vy_23, .int vy_24])), ((Va 1), .inl (tc 0, 400, .inl vy_25)), ((Ta 0), .inr (10, [.ref (Ta 1), .int (Tv 0), .int sv_61, .int sv_62, .int sv_63, .int vy_29])), ((Ta 1), .inl (tc 0, 400, .inl (Tf 1)))] := hD₀
            replace hS := hS₀
            clear hP₀ hD₀ hS₀
            refine lv_aload_n hx hb dX7_readTest_64 rfl (lv_at hl 3 rfl) ?_
            refine lv_aload_n hx hb dX7_readTest_65 rfl (lv_at hl 4 rfl) ?_
            refine lv_iload_n hx hb dX7_readTest_66 rfl (lv_at hl 5 rfl) ?_
            refine cV (a := (Va 0)) (As := [.ref (Ta 0), .int 3]) (rest := []) (wr := []) ⟨hx, hb, hml, hown, hts⟩ hK hX hA (cu_X7_readFact_3 l D tc sk (Va 0) (Va 1) vy_23 vy_24 vy_25 (Ta 0) (Ta 1) (Tv 0) sv_61 sv_62 sv_63 vy_29 (Tf 1) he_64) k_659 k_656 k_658 k_12 k_99 pl_X7_readFact ⟨Nat.le_of_ble_eq_true rfl, Nat.le_of_ble_eq_true rfl⟩ rfl rfl (va_recv hK hP (ci := 7) (q0 := 0) rfl rfl) hP hD hS [0, 1, 2, 3] [] rfl rfl rfl rfl rfl (by decide) rfl hl.1 rfl (Nat.le_of_ble_eq_true rfl) dX7_readTest_67 ⟨Nat.le_of_ble_eq_true rfl, Nat.le_of_ble_eq_true rfl⟩ (fun v_65 u_66 H locs hv_67 hP₀ hD₀ hS₀ => ?_)
            obtain ⟨sv_68, sv_69, sv_70, sv_71, sv_72, sv_73, sv_74⟩ := u_66
            obtain ⟨rfl, he_75⟩ := hv_67
            clear he_64
            have he_75 : (0 ≤ ((Tv 0) : Int32).toInt ∧ ((Tv 0) : Int32).toInt ≤ 400 ∧ 0 ≤ (sv_71 : Int32).toInt ∧ (sv_71 : Int32).toInt ≤ 400 ∧ 0 ≤ (sv_72 : Int32).toInt ∧ (sv_72 : Int32).toInt ≤ 400) := he_75
            refine W.eq (g2 := F0 m 70 ls []) rfl ?_
            replace hP : va_P D classes [((Va 0), .inr (7, [.ref (Va 1), .int sv_68, .int sv_69])), ((Va 1), .inl (tc 0, 400, .inl sv_70)), ((Ta 0), .inr (10, [.ref (Ta 1), .int (Tv 0), .int sv_71, .int sv_72, .int sv_73, .int sv_74])), ((Ta 1), .inl (tc 0, 400, .inl (Tf 1)))] H := hP₀
            replace hD : va_D A [((Va 0), .inr (7, [.ref (Va 1), .int sv_68, .int sv_69])), ((Va 1), .inl (tc 0, 400, .inl sv_70)), ((Ta 0), .inr (10, [.ref (Ta 1), .int (Tv 0), .int sv_71, .int sv_72, .int sv_73, .int sv_74])), ((Ta 1), .inl (tc 0, 400, .inl (Tf 1)))] := hD₀
            replace hS := hS₀
            clear hP₀ hD₀ hS₀
            refine lv_iload hx hb dX7_readTest_70 (lv_at hl 0 rfl) ?_
            refine lv_if_eq (tgt := 80) hx hb dX7_readTest_72 (by decide) (fun c_76 => ?_) (fun c_76 => ?_)
            · skip
              refine lv_aload_n hx hb dX7_readTest_80 rfl (lv_at hl 3 rfl) ?_
              refine lv_bipush (v := (-5)) hx hb dX7_readTest_81 (by decide) ?_
              refine cV (a := (Va 0)) (As := [.int (-5)]) (rest := []) (wr := [((Ta 0), .inr (10, [.ref (Ta 1), .int (Tv 0), .int sv_71, .int sv_72, .int sv_73, .int sv_74])), ((Ta 1), .inl (tc 0, 400, .inl (Tf 1)))]) ⟨hx, hb, hml, hown, hts⟩ hK hX hA (cu_X7_put l D tc sk (Va 0) (Va 1) sv_68 sv_69 sv_70 (-5)) k_642 k_639 k_641 k_10 k_99 pl_X7_put ⟨Nat.le_of_ble_eq_true rfl, Nat.le_of_ble_eq_true rfl⟩ rfl rfl (va_recv hK hP (ci := 7) (q0 := 0) rfl rfl) hP hD hS [0, 1] [2, 3] rfl rfl rfl rfl rfl (by decide) rfl hl.1 rfl (Nat.le_of_ble_eq_true rfl) dX7_readTest_83 ⟨Nat.le_of_ble_eq_true rfl, Nat.le_of_ble_eq_true rfl⟩ (fun v_77 u_78 H locs hv_79 hP₀ hD₀ hS₀ => ?_)
              obtain ⟨sv_80, sv_81⟩ := u_78
              obtain rfl : v_77 = none := hv_79
              refine W.eq (g2 := F0 m 86 ls []) rfl ?_
              replace hP : va_P D classes [((Ta 0), .inr (10, [.ref (Ta 1), .int (Tv 0), .int sv_71, .int sv_72, .int sv_73, .int sv_74])), ((Ta 1), .inl (tc 0, 400, .inl (Tf 1))), ((Va 0), .inr (7, [.ref (Va 1), .int sv_80, .int sv_69])), ((Va 1), .inl (tc 0, 400, .inl sv_81))] H := hP₀
              replace hD : va_D A [((Ta 0), .inr (10, [.ref (Ta 1), .int (Tv 0), .int sv_71, .int sv_72, .int sv_73, .int sv_74])), ((Ta 1), .inl (tc 0, 400, .inl (Tf 1))), ((Va 0), .inr (7, [.ref (Va 1), .int sv_80, .int sv_69])), ((Va 1), .inl (tc 0, 400, .inl sv_81))] := hD₀
              replace hS := hS₀
              clear hP₀ hD₀ hS₀
              obtain ⟨x_82, ex_82⟩ : ∃ y : Int32, y = vy_22 + 1 := ⟨_, rfl⟩
              refine lv_iinc (v := x_82) (lv' := [(4, .int x_82), (5, .int r_55), (3, .int vy_30), (0, .ref (Va 0)), (1, .ref (Ta 0)), (2, .int 3)]) hx hb dX7_readTest_86 hl (k := 1) rfl (by rw [ex_82]; rfl) (by decide) rfl (fun ls hl₀ => ?_)
              replace hl := hl₀
              clear hl₀
              refine lv_goto (tgt := 11) hx hb dX7_readTest_89 (by decide) ?_
              have hb_83 : 0 ≤ (x_82 : Int32).toInt ∧ (400 - (x_82 : Int32).toInt).toNat < n_31 := by
                have z_1 := Int32.lt_iff_toInt_lt.mp (Int32.not_le.mp c_37)
                have y_400 : (400 : Int32).toInt = 400 := by decide
                have y_1 : (1 : Int32).toInt = 1 := by decide
                have t_x_82 : x_82.toInt = (vy_22 : Int32).toInt + (1 : Int32).toInt := by rw [ex_82]; exact add_toInt (by omega) (by omega)
                omega
              exact ih_32 x_82 sv_80 sv_69 sv_81 sv_71 sv_72 sv_73 sv_74 vy_30 _ _ _ hb_83.1 hb_83.2 he_75 (hP.sub [2, 3, 0, 1] rfl) (hD.sub [2, 3, 0, 1] rfl rfl) hS (lv_sub hl [0, 2, 3, 4, 5] rfl)
            · skip
              exfalso
              have z_1 := Int32.lt_iff_toInt_lt.mp (Int32.not_le.mp c_37)
              have z_2 : ¬ (r_48 : Int32).toInt = (0 : Int32).toInt := fun z => c_50 (Int32.toInt_inj.mp z)
              have z_3 := congrArg Int32.toInt c_57
              have z_4 : ¬ (r_55 : Int32).toInt = (0 : Int32).toInt := fun z => c_76 (Int32.toInt_inj.mp z)
              have y_0 : (0 : Int32).toInt = 0 := by decide
              have y_400 : (400 : Int32).toInt = 400 := by decide
              omega
          · skip
            refine lv_iload_n hx hb dX7_readTest_50 rfl (lv_at hl 2 rfl) ?_
            refine lv_if_eq (tgt := 60) hx hb dX7_readTest_51 (by decide) (fun c_84 => ?_) (fun c_84 => ?_)
            · skip
              refine lv_aload_n hx hb dX7_readTest_60 rfl (lv_at hl 4 rfl) ?_
              refine cV (a := (Ta 0)) (As := []) (rest := []) (wr := [((Va 0), .inr (7, [.ref (Va 1), .int vy_23, .int vy_24])), ((Va 1), .inl (tc 0, 400, .inl vy_25))]) ⟨hx, hb, hml, hown, hts⟩ hK hX hA (cu_X10_step l D tc sk (Ta 0) (Ta 1) (Tv 0) vy_26 vy_27 vy_28 vy_29 (Tf 1) he_56.2) k_478 k_620 k_476 k_477 k_96 pl_X10_step ⟨Nat.le_of_ble_eq_true rfl, Nat.le_of_ble_eq_true rfl⟩ rfl rfl (va_recv hK hP (ci := 10) (q0 := 2) rfl rfl) hP hD hS [2, 3] [0, 1] rfl rfl rfl rfl rfl (by decide) rfl hl.1 rfl (Nat.le_of_ble_eq_true rfl) dX7_readTest_61 ⟨Nat.le_of_ble_eq_true rfl, Nat.le_of_ble_eq_true rfl⟩ (fun v_85 u_86 H locs hv_87 hP₀ hD₀ hS₀ => ?_)
              obtain ⟨sv_88, sv_89, sv_90⟩ := u_86
              obtain ⟨rfl, he_91⟩ := hv_87
              clear he_56
              have he_91 : (0 ≤ ((Tv 0) : Int32).toInt ∧ ((Tv 0) : Int32).toInt ≤ 400 ∧ 0 ≤ (sv_88 : Int32).toInt ∧ (sv_88 : Int32).toInt ≤ 400 ∧ 0 ≤ (sv_89 : Int32).toInt ∧ (sv_89 : Int32).toInt ≤ 400) := he_91
              refine W.eq (g2 := F0 m 64 ls []) rfl ?_
              replace hP : va_P D classes [((Va 0), .inr (7, [.ref (Va 1), .int vy_23, .int vy_24])), ((Va 1), .inl (tc 0, 400, .inl vy_25)), ((Ta 0), .inr (10, [.ref (Ta 1), .int (Tv 0), .int sv_88, .int sv_89, .int sv_90, .int vy_29])), ((Ta 1), .inl (tc 0, 400, .inl (Tf 1)))] H := hP₀
              replace hD : va_D A [((Va 0), .inr (7, [.ref (Va 1), .int vy_23, .int vy_24])), ((Va 1), .inl (tc 0, 400, .inl vy_25)), ((Ta 0), .inr (10, [.ref (Ta 1), .int (Tv 0), .int sv_88, .int sv_89, .int sv_90, .int vy_29])), ((Ta 1), .inl (tc 0, 400, .inl (Tf 1)))] := hD₀
              replace hS := hS₀
              clear hP₀ hD₀ hS₀
              refine lv_aload_n hx hb dX7_readTest_64 rfl (lv_at hl 3 rfl) ?_
              refine lv_aload_n hx hb dX7_readTest_65 rfl (lv_at hl 4 rfl) ?_
              refine lv_iload_n hx hb dX7_readTest_66 rfl (lv_at hl 5 rfl) ?_
              refine cV (a := (Va 0)) (As := [.ref (Ta 0), .int 3]) (rest := []) (wr := []) ⟨hx, hb, hml, hown, hts⟩ hK hX hA (cu_X7_readFact_3 l D tc sk (Va 0) (Va 1) vy_23 vy_24 vy_25 (Ta 0) (Ta 1) (Tv 0) sv_88 sv_89 sv_90 vy_29 (Tf 1) he_91) k_659 k_656 k_658 k_12 k_99 pl_X7_readFact ⟨Nat.le_of_ble_eq_true rfl, Nat.le_of_ble_eq_true rfl⟩ rfl rfl (va_recv hK hP (ci := 7) (q0 := 0) rfl rfl) hP hD hS [0, 1, 2, 3] [] rfl rfl rfl rfl rfl (by decide) rfl hl.1 rfl (Nat.le_of_ble_eq_true rfl) dX7_readTest_67 ⟨Nat.le_of_ble_eq_true rfl, Nat.le_of_ble_eq_true rfl⟩ (fun v_92 u_93 H locs hv_94 hP₀ hD₀ hS₀ => ?_)
              obtain ⟨sv_95, sv_96, sv_97, sv_98, sv_99, sv_100, sv_101⟩ := u_93
              obtain ⟨rfl, he_102⟩ := hv_94
              clear he_91
              have he_102 : (0 ≤ ((Tv 0) : Int32).toInt ∧ ((Tv 0) : Int32).toInt ≤ 400 ∧ 0 ≤ (sv_98 : Int32).toInt ∧ (sv_98 : Int32).toInt ≤ 400 ∧ 0 ≤ (sv_99 : Int32).toInt ∧ (sv_99 : Int32).toInt ≤ 400) := he_102
              refine W.eq (g2 := F0 m 70 ls []) rfl ?_
              replace hP : va_P D classes [((Va 0), .inr (7, [.ref (Va 1), .int sv_95, .int sv_96])), ((Va 1), .inl (tc 0, 400, .inl sv_97)), ((Ta 0), .inr (10, [.ref (Ta 1), .int (Tv 0), .int sv_98, .int sv_99, .int sv_100, .int sv_101])), ((Ta 1), .inl (tc 0, 400, .inl (Tf 1)))] H := hP₀
              replace hD : va_D A [((Va 0), .inr (7, [.ref (Va 1), .int sv_95, .int sv_96])), ((Va 1), .inl (tc 0, 400, .inl sv_97)), ((Ta 0), .inr (10, [.ref (Ta 1), .int (Tv 0), .int sv_98, .int sv_99, .int sv_100, .int sv_101])), ((Ta 1), .inl (tc 0, 400, .inl (Tf 1)))] := hD₀
              replace hS := hS₀
              clear hP₀ hD₀ hS₀
              refine lv_iload hx hb dX7_readTest_70 (lv_at hl 0 rfl) ?_
              refine lv_if_eq (tgt := 80) hx hb dX7_readTest_72 (by decide) (fun c_103 => ?_) (fun c_103 => ?_)
              · skip
                exfalso
                have z_1 := Int32.lt_iff_toInt_lt.mp (Int32.not_le.mp c_37)
                have z_2 : ¬ (r_48 : Int32).toInt = (0 : Int32).toInt := fun z => c_50 (Int32.toInt_inj.mp z)
                have z_3 : ¬ (r_55 : Int32).toInt = (0 : Int32).toInt := fun z => c_57 (Int32.toInt_inj.mp z)
                have z_4 := congrArg Int32.toInt c_84
                have z_5 := congrArg Int32.toInt c_103
                have y_0 : (0 : Int32).toInt = 0 := by decide
                have y_400 : (400 : Int32).toInt = 400 := by decide
                omega
              · skip
                refine lv_iconst (v := 1) hx hb dX7_readTest_75 (by decide) ?_
                refine lv_istore_n (lv' := [(3, .int 1), (5, .int r_55), (4, .int vy_22), (0, .ref (Va 0)), (1, .ref (Ta 0)), (2, .int 3)]) hx hb dX7_readTest_76 rfl hl (by decide) rfl (fun ls hl₀ => ?_)
                replace hl := hl₀
                clear hl₀
                refine lv_goto (tgt := 86) hx hb dX7_readTest_77 (by decide) ?_
                obtain ⟨x_104, ex_104⟩ : ∃ y : Int32, y = vy_22 + 1 := ⟨_, rfl⟩
                refine lv_iinc (v := x_104) (lv' := [(4, .int x_104), (3, .int 1), (5, .int r_55), (0, .ref (Va 0)), (1, .ref (Ta 0)), (2, .int 3)]) hx hb dX7_readTest_86 hl (k := 2) rfl (by rw [ex_104]; rfl) (by decide) rfl (fun ls hl₀ => ?_)
                replace hl := hl₀
                clear hl₀
                refine lv_goto (tgt := 11) hx hb dX7_readTest_89 (by decide) ?_
                have hb_105 : 0 ≤ (x_104 : Int32).toInt ∧ (400 - (x_104 : Int32).toInt).toNat < n_31 := by
                  have z_1 := Int32.lt_iff_toInt_lt.mp (Int32.not_le.mp c_37)
                  have y_400 : (400 : Int32).toInt = 400 := by decide
                  have y_1 : (1 : Int32).toInt = 1 := by decide
                  have t_x_104 : x_104.toInt = (vy_22 : Int32).toInt + (1 : Int32).toInt := by rw [ex_104]; exact add_toInt (by omega) (by omega)
                  omega
                exact ih_32 x_104 sv_95 sv_96 sv_97 sv_98 sv_99 sv_100 sv_101 1 _ _ _ hb_105.1 hb_105.2 he_102 (hP.sub [0, 1, 2, 3] rfl) (hD.sub [0, 1, 2, 3] rfl rfl) hS (lv_sub hl [0, 1, 3, 4, 5] rfl)
            · skip
              refine lv_aload_n hx hb dX7_readTest_54 rfl (lv_at hl 3 rfl) ?_
              refine lv_bipush (v := (-6)) hx hb dX7_readTest_55 (by decide) ?_
              refine cV (a := (Va 0)) (As := [.int (-6)]) (rest := []) (wr := [((Ta 0), .inr (10, [.ref (Ta 1), .int (Tv 0), .int vy_26, .int vy_27, .int vy_28, .int vy_29])), ((Ta 1), .inl (tc 0, 400, .inl (Tf 1)))]) ⟨hx, hb, hml, hown, hts⟩ hK hX hA (cu_X7_put l D tc sk (Va 0) (Va 1) vy_23 vy_24 vy_25 (-6)) k_642 k_639 k_641 k_10 k_99 pl_X7_put ⟨Nat.le_of_ble_eq_true rfl, Nat.le_of_ble_eq_true rfl⟩ rfl rfl (va_recv hK hP (ci := 7) (q0 := 0) rfl rfl) hP hD hS [0, 1] [2, 3] rfl rfl rfl rfl rfl (by decide) rfl hl.1 rfl (Nat.le_of_ble_eq_true rfl) dX7_readTest_57 ⟨Nat.le_of_ble_eq_true rfl, Nat.le_of_ble_eq_true rfl⟩ (fun v_106 u_107 H locs hv_108 hP₀ hD₀ hS₀ => ?_)
              obtain ⟨sv_109, sv_110⟩ := u_107
              obtain rfl : v_106 = none := hv_108
              refine W.eq (g2 := F0 m 60 ls []) rfl ?_
              replace hP : va_P D classes [((Ta 0), .inr (10, [.ref (Ta 1), .int (Tv 0), .int vy_26, .int vy_27, .int vy_28, .int vy_29])), ((Ta 1), .inl (tc 0, 400, .inl (Tf 1))), ((Va 0), .inr (7, [.ref (Va 1), .int sv_109, .int vy_24])), ((Va 1), .inl (tc 0, 400, .inl sv_110))] H := hP₀
              replace hD : va_D A [((Ta 0), .inr (10, [.ref (Ta 1), .int (Tv 0), .int vy_26, .int vy_27, .int vy_28, .int vy_29])), ((Ta 1), .inl (tc 0, 400, .inl (Tf 1))), ((Va 0), .inr (7, [.ref (Va 1), .int sv_109, .int vy_24])), ((Va 1), .inl (tc 0, 400, .inl sv_110))] := hD₀
              replace hS := hS₀
              clear hP₀ hD₀ hS₀
              refine lv_aload_n hx hb dX7_readTest_60 rfl (lv_at hl 4 rfl) ?_
              refine cV (a := (Ta 0)) (As := []) (rest := []) (wr := [((Va 0), .inr (7, [.ref (Va 1), .int sv_109, .int vy_24])), ((Va 1), .inl (tc 0, 400, .inl sv_110))]) ⟨hx, hb, hml, hown, hts⟩ hK hX hA (cu_X10_step l D tc sk (Ta 0) (Ta 1) (Tv 0) vy_26 vy_27 vy_28 vy_29 (Tf 1) he_56.2) k_478 k_620 k_476 k_477 k_96 pl_X10_step ⟨Nat.le_of_ble_eq_true rfl, Nat.le_of_ble_eq_true rfl⟩ rfl rfl (va_recv hK hP (ci := 10) (q0 := 0) rfl rfl) hP hD hS [0, 1] [2, 3] rfl rfl rfl rfl rfl (by decide) rfl hl.1 rfl (Nat.le_of_ble_eq_true rfl) dX7_readTest_61 ⟨Nat.le_of_ble_eq_true rfl, Nat.le_of_ble_eq_true rfl⟩ (fun v_111 u_112 H locs hv_113 hP₀ hD₀ hS₀ => ?_)
              obtain ⟨sv_114, sv_115, sv_116⟩ := u_112
              obtain ⟨rfl, he_117⟩ := hv_113
              clear he_56
              have he_117 : (0 ≤ ((Tv 0) : Int32).toInt ∧ ((Tv 0) : Int32).toInt ≤ 400 ∧ 0 ≤ (sv_114 : Int32).toInt ∧ (sv_114 : Int32).toInt ≤ 400 ∧ 0 ≤ (sv_115 : Int32).toInt ∧ (sv_115 : Int32).toInt ≤ 400) := he_117
              refine W.eq (g2 := F0 m 64 ls []) rfl ?_
              replace hP : va_P D classes [((Va 0), .inr (7, [.ref (Va 1), .int sv_109, .int vy_24])), ((Va 1), .inl (tc 0, 400, .inl sv_110)), ((Ta 0), .inr (10, [.ref (Ta 1), .int (Tv 0), .int sv_114, .int sv_115, .int sv_116, .int vy_29])), ((Ta 1), .inl (tc 0, 400, .inl (Tf 1)))] H := hP₀
              replace hD : va_D A [((Va 0), .inr (7, [.ref (Va 1), .int sv_109, .int vy_24])), ((Va 1), .inl (tc 0, 400, .inl sv_110)), ((Ta 0), .inr (10, [.ref (Ta 1), .int (Tv 0), .int sv_114, .int sv_115, .int sv_116, .int vy_29])), ((Ta 1), .inl (tc 0, 400, .inl (Tf 1)))] := hD₀
              replace hS := hS₀
              clear hP₀ hD₀ hS₀
              refine lv_aload_n hx hb dX7_readTest_64 rfl (lv_at hl 3 rfl) ?_
              refine lv_aload_n hx hb dX7_readTest_65 rfl (lv_at hl 4 rfl) ?_
              refine lv_iload_n hx hb dX7_readTest_66 rfl (lv_at hl 5 rfl) ?_
              refine cV (a := (Va 0)) (As := [.ref (Ta 0), .int 3]) (rest := []) (wr := []) ⟨hx, hb, hml, hown, hts⟩ hK hX hA (cu_X7_readFact_3 l D tc sk (Va 0) (Va 1) sv_109 vy_24 sv_110 (Ta 0) (Ta 1) (Tv 0) sv_114 sv_115 sv_116 vy_29 (Tf 1) he_117) k_659 k_656 k_658 k_12 k_99 pl_X7_readFact ⟨Nat.le_of_ble_eq_true rfl, Nat.le_of_ble_eq_true rfl⟩ rfl rfl (va_recv hK hP (ci := 7) (q0 := 0) rfl rfl) hP hD hS [0, 1, 2, 3] [] rfl rfl rfl rfl rfl (by decide) rfl hl.1 rfl (Nat.le_of_ble_eq_true rfl) dX7_readTest_67 ⟨Nat.le_of_ble_eq_true rfl, Nat.le_of_ble_eq_true rfl⟩ (fun v_118 u_119 H locs hv_120 hP₀ hD₀ hS₀ => ?_)
              obtain ⟨sv_121, sv_122, sv_123, sv_124, sv_125, sv_126, sv_127⟩ := u_119
              obtain ⟨rfl, he_128⟩ := hv_120
              clear he_117
              have he_128 : (0 ≤ ((Tv 0) : Int32).toInt ∧ ((Tv 0) : Int32).toInt ≤ 400 ∧ 0 ≤ (sv_124 : Int32).toInt ∧ (sv_124 : Int32).toInt ≤ 400 ∧ 0 ≤ (sv_125 : Int32).toInt ∧ (sv_125 : Int32).toInt ≤ 400) := he_128
              refine W.eq (g2 := F0 m 70 ls []) rfl ?_
              replace hP : va_P D classes [((Va 0), .inr (7, [.ref (Va 1), .int sv_121, .int sv_122])), ((Va 1), .inl (tc 0, 400, .inl sv_123)), ((Ta 0), .inr (10, [.ref (Ta 1), .int (Tv 0), .int sv_124, .int sv_125, .int sv_126, .int sv_127])), ((Ta 1), .inl (tc 0, 400, .inl (Tf 1)))] H := hP₀
              replace hD : va_D A [((Va 0), .inr (7, [.ref (Va 1), .int sv_121, .int sv_122])), ((Va 1), .inl (tc 0, 400, .inl sv_123)), ((Ta 0), .inr (10, [.ref (Ta 1), .int (Tv 0), .int sv_124, .int sv_125, .int sv_126, .int sv_127])), ((Ta 1), .inl (tc 0, 400, .inl (Tf 1)))] := hD₀
              replace hS := hS₀
              clear hP₀ hD₀ hS₀
              refine lv_iload hx hb dX7_readTest_70 (lv_at hl 0 rfl) ?_
              refine lv_if_eq (tgt := 80) hx hb dX7_readTest_72 (by decide) (fun c_129 => ?_) (fun c_129 => ?_)
              · skip
                exfalso
                have z_1 := Int32.lt_iff_toInt_lt.mp (Int32.not_le.mp c_37)
                have z_2 : ¬ (r_48 : Int32).toInt = (0 : Int32).toInt := fun z => c_50 (Int32.toInt_inj.mp z)
                have z_3 : ¬ (r_55 : Int32).toInt = (0 : Int32).toInt := fun z => c_57 (Int32.toInt_inj.mp z)
                have z_4 : ¬ (vy_30 : Int32).toInt = (0 : Int32).toInt := fun z => c_84 (Int32.toInt_inj.mp z)
                have z_5 := congrArg Int32.toInt c_129
                have y_0 : (0 : Int32).toInt = 0 := by decide
                have y_400 : (400 : Int32).toInt = 400 := by decide
                omega
              · skip
                refine lv_iconst (v := 1) hx hb dX7_readTest_75 (by decide) ?_
                refine lv_istore_n (lv' := [(3, .int 1), (5, .int r_55), (4, .int vy_22), (0, .ref (Va 0)), (1, .ref (Ta 0)), (2, .int 3)]) hx hb dX7_readTest_76 rfl hl (by decide) rfl (fun ls hl₀ => ?_)
                replace hl := hl₀
                clear hl₀
                refine lv_goto (tgt := 86) hx hb dX7_readTest_77 (by decide) ?_
                obtain ⟨x_130, ex_130⟩ : ∃ y : Int32, y = vy_22 + 1 := ⟨_, rfl⟩
                refine lv_iinc (v := x_130) (lv' := [(4, .int x_130), (3, .int 1), (5, .int r_55), (0, .ref (Va 0)), (1, .ref (Ta 0)), (2, .int 3)]) hx hb dX7_readTest_86 hl (k := 2) rfl (by rw [ex_130]; rfl) (by decide) rfl (fun ls hl₀ => ?_)
                replace hl := hl₀
                clear hl₀
                refine lv_goto (tgt := 11) hx hb dX7_readTest_89 (by decide) ?_
                have hb_131 : 0 ≤ (x_130 : Int32).toInt ∧ (400 - (x_130 : Int32).toInt).toNat < n_31 := by
                  have z_1 := Int32.lt_iff_toInt_lt.mp (Int32.not_le.mp c_37)
                  have y_400 : (400 : Int32).toInt = 400 := by decide
                  have y_1 : (1 : Int32).toInt = 1 := by decide
                  have t_x_130 : x_130.toInt = (vy_22 : Int32).toInt + (1 : Int32).toInt := by rw [ex_130]; exact add_toInt (by omega) (by omega)
                  omega
                exact ih_32 x_130 sv_121 sv_122 sv_123 sv_124 sv_125 sv_126 sv_127 1 _ _ _ hb_131.1 hb_131.2 he_128 (hP.sub [0, 1, 2, 3] rfl) (hD.sub [0, 1, 2, 3] rfl rfl) hS (lv_sub hl [0, 1, 3, 4, 5] rfl)
        · skip
          refine lv_aload_n hx hb dX7_readTest_28 rfl (lv_at hl 3 rfl) ?_
          refine va_ldcS hx hb hown (sx_6 hX) dX7_readTest_29 ?_
          have hh_132 : (6 : Nat) < 7 := by
            have y_6 : (6 : Int32).toInt = 6 := by decide
            omega
          refine cV (a := (Ta 0)) (As := [.ref (sk.1 6)]) (rest := []) (wr := [((Va 0), .inr (7, [.ref (Va 1), .int vy_23, .int vy_24])), ((Va 1), .inl (tc 0, 400, .inl vy_25))]) ⟨hx, hb, hml, hown, hts⟩ hK hX hA (cu_X10_isWord l D tc sk (Ta 0) (Ta 1) (Tv 0) vy_26 vy_27 vy_28 vy_29 (Tf 1) 6 hh_132 he_49.2) k_618 k_615 k_616 k_617 k_96 pl_X10_isWord ⟨Nat.le_of_ble_eq_true rfl, Nat.le_of_ble_eq_true rfl⟩ rfl rfl (va_recv hK hP (ci := 10) (q0 := 2) rfl rfl) hP hD hS [2, 3] [0, 1] rfl rfl rfl rfl rfl (by decide) rfl hl.1 rfl (Nat.le_of_ble_eq_true rfl) dX7_readTest_31 ⟨Nat.le_of_ble_eq_true rfl, Nat.le_of_ble_eq_true rfl⟩ (fun v_133 u_134 H locs hv_135 hP₀ hD₀ hS₀ => ?_)
          obtain ⟨r_136, rfl, he_137⟩ := hv_135
          clear he_49
          have he_137 : ((r_136.toInt = 0 ∨ r_136.toInt = 1)) ∧ (0 ≤ ((Tv 0) : Int32).toInt ∧ ((Tv 0) : Int32).toInt ≤ 400 ∧ 0 ≤ (vy_26 : Int32).toInt ∧ (vy_26 : Int32).toInt ≤ 400 ∧ 0 ≤ (vy_27 : Int32).toInt ∧ (vy_27 : Int32).toInt ≤ 400) := he_137
          refine W.eq (g2 := F0 m 34 ls [.int r_136]) rfl ?_
          replace hP : va_P D classes [((Va 0), .inr (7, [.ref (Va 1), .int vy_23, .int vy_24])), ((Va 1), .inl (tc 0, 400, .inl vy_25)), ((Ta 0), .inr (10, [.ref (Ta 1), .int (Tv 0), .int vy_26, .int vy_27, .int vy_28, .int vy_29])), ((Ta 1), .inl (tc 0, 400, .inl (Tf 1)))] H := hP₀
          replace hD : va_D A [((Va 0), .inr (7, [.ref (Va 1), .int vy_23, .int vy_24])), ((Va 1), .inl (tc 0, 400, .inl vy_25)), ((Ta 0), .inr (10, [.ref (Ta 1), .int (Tv 0), .int vy_26, .int vy_27, .int vy_28, .int vy_29])), ((Ta 1), .inl (tc 0, 400, .inl (Tf 1)))] := hD₀
          replace hS := hS₀
          clear hP₀ hD₀ hS₀
          refine lv_if_eq (tgt := 92) hx hb dX7_readTest_34 (by decide) (fun c_138 => ?_) (fun c_138 => ?_)
          · skip
            refine lv_iload_n hx hb dX7_readTest_92 rfl (lv_at hl 1 rfl) ?_
            refine lv_if_eq (tgt := 102) hx hb dX7_readTest_93 (by decide) (fun c_139 => ?_) (fun c_139 => ?_)
            · skip
              exact retV hx hb hr hlk hP hD hS (vy_23, vy_24, vy_25, vy_26, vy_27, vy_28, vy_29) ⟨rfl, he_137.2⟩ [0, 1, 2, 3] rfl rfl dX7_readTest_102 (Nat.le_of_ble_eq_true rfl) (Nat.le_of_ble_eq_true rfl) rfl
            · skip
              refine lv_aload_n hx hb dX7_readTest_96 rfl (lv_at hl 2 rfl) ?_
              refine lv_bipush (v := (-6)) hx hb dX7_readTest_97 (by decide) ?_
              refine cV (a := (Va 0)) (As := [.int (-6)]) (rest := []) (wr := [((Ta 0), .inr (10, [.ref (Ta 1), .int (Tv 0), .int vy_26, .int vy_27, .int vy_28, .int vy_29])), ((Ta 1), .inl (tc 0, 400, .inl (Tf 1)))]) ⟨hx, hb, hml, hown, hts⟩ hK hX hA (cu_X7_put l D tc sk (Va 0) (Va 1) vy_23 vy_24 vy_25 (-6)) k_642 k_639 k_641 k_10 k_99 pl_X7_put ⟨Nat.le_of_ble_eq_true rfl, Nat.le_of_ble_eq_true rfl⟩ rfl rfl (va_recv hK hP (ci := 7) (q0 := 0) rfl rfl) hP hD hS [0, 1] [2, 3] rfl rfl rfl rfl rfl (by decide) rfl hl.1 rfl (Nat.le_of_ble_eq_true rfl) dX7_readTest_99 ⟨Nat.le_of_ble_eq_true rfl, Nat.le_of_ble_eq_true rfl⟩ (fun v_140 u_141 H locs hv_142 hP₀ hD₀ hS₀ => ?_)
              obtain ⟨sv_143, sv_144⟩ := u_141
              obtain rfl : v_140 = none := hv_142
              refine W.eq (g2 := F0 m 102 ls []) rfl ?_
              replace hP : va_P D classes [((Ta 0), .inr (10, [.ref (Ta 1), .int (Tv 0), .int vy_26, .int vy_27, .int vy_28, .int vy_29])), ((Ta 1), .inl (tc 0, 400, .inl (Tf 1))), ((Va 0), .inr (7, [.ref (Va 1), .int sv_143, .int vy_24])), ((Va 1), .inl (tc 0, 400, .inl sv_144))] H := hP₀
              replace hD : va_D A [((Ta 0), .inr (10, [.ref (Ta 1), .int (Tv 0), .int vy_26, .int vy_27, .int vy_28, .int vy_29])), ((Ta 1), .inl (tc 0, 400, .inl (Tf 1))), ((Va 0), .inr (7, [.ref (Va 1), .int sv_143, .int vy_24])), ((Va 1), .inl (tc 0, 400, .inl sv_144))] := hD₀
              replace hS := hS₀
              clear hP₀ hD₀ hS₀
              exact retV hx hb hr hlk hP hD hS (sv_143, vy_24, sv_144, vy_26, vy_27, vy_28, vy_29) ⟨rfl, he_137.2⟩ [2, 3, 0, 1] rfl rfl dX7_readTest_102 (Nat.le_of_ble_eq_true rfl) (Nat.le_of_ble_eq_true rfl) rfl
          · skip
            refine lv_aload_n hx hb dX7_readTest_37 rfl (lv_at hl 3 rfl) ?_
            refine va_ldcS hx hb hown (sx_6 hX) dX7_readTest_38 ?_
            have hh_145 : (6 : Nat) < 7 := by
              have y_6 : (6 : Int32).toInt = 6 := by decide
              omega
            refine cV (a := (Ta 0)) (As := [.ref (sk.1 6)]) (rest := []) (wr := [((Va 0), .inr (7, [.ref (Va 1), .int vy_23, .int vy_24])), ((Va 1), .inl (tc 0, 400, .inl vy_25))]) ⟨hx, hb, hml, hown, hts⟩ hK hX hA (cu_X10_isWord l D tc sk (Ta 0) (Ta 1) (Tv 0) vy_26 vy_27 vy_28 vy_29 (Tf 1) 6 hh_145 he_137.2) k_618 k_615 k_616 k_617 k_96 pl_X10_isWord ⟨Nat.le_of_ble_eq_true rfl, Nat.le_of_ble_eq_true rfl⟩ rfl rfl (va_recv hK hP (ci := 10) (q0 := 2) rfl rfl) hP hD hS [2, 3] [0, 1] rfl rfl rfl rfl rfl (by decide) rfl hl.1 rfl (Nat.le_of_ble_eq_true rfl) dX7_readTest_40 ⟨Nat.le_of_ble_eq_true rfl, Nat.le_of_ble_eq_true rfl⟩ (fun v_146 u_147 H locs hv_148 hP₀ hD₀ hS₀ => ?_)
            obtain ⟨r_149, rfl, he_150⟩ := hv_148
            clear he_137
            have he_150 : ((r_149.toInt = 0 ∨ r_149.toInt = 1)) ∧ (0 ≤ ((Tv 0) : Int32).toInt ∧ ((Tv 0) : Int32).toInt ≤ 400 ∧ 0 ≤ (vy_26 : Int32).toInt ∧ (vy_26 : Int32).toInt ≤ 400 ∧ 0 ≤ (vy_27 : Int32).toInt ∧ (vy_27 : Int32).toInt ≤ 400) := he_150
            refine W.eq (g2 := F0 m 43 ls [.int r_149]) rfl ?_
            replace hP : va_P D classes [((Va 0), .inr (7, [.ref (Va 1), .int vy_23, .int vy_24])), ((Va 1), .inl (tc 0, 400, .inl vy_25)), ((Ta 0), .inr (10, [.ref (Ta 1), .int (Tv 0), .int vy_26, .int vy_27, .int vy_28, .int vy_29])), ((Ta 1), .inl (tc 0, 400, .inl (Tf 1)))] H := hP₀
            replace hD : va_D A [((Va 0), .inr (7, [.ref (Va 1), .int vy_23, .int vy_24])), ((Va 1), .inl (tc 0, 400, .inl vy_25)), ((Ta 0), .inr (10, [.ref (Ta 1), .int (Tv 0), .int vy_26, .int vy_27, .int vy_28, .int vy_29])), ((Ta 1), .inl (tc 0, 400, .inl (Tf 1)))] := hD₀
            replace hS := hS₀
            clear hP₀ hD₀ hS₀
            refine lv_istore (lv' := [(5, .int r_149), (4, .int vy_22), (3, .int vy_30), (0, .ref (Va 0)), (1, .ref (Ta 0)), (2, .int 3)]) hx hb dX7_readTest_43 hl (by decide) rfl (fun ls hl₀ => ?_)
            replace hl := hl₀
            clear hl₀
            refine lv_iload hx hb dX7_readTest_45 (lv_at hl 0 rfl) ?_
            refine lv_if_eq (tgt := 60) hx hb dX7_readTest_47 (by decide) (fun c_151 => ?_) (fun c_151 => ?_)
            · skip
              refine lv_aload_n hx hb dX7_readTest_60 rfl (lv_at hl 4 rfl) ?_
              refine cV (a := (Ta 0)) (As := []) (rest := []) (wr := [((Va 0), .inr (7, [.ref (Va 1), .int vy_23, .int vy_24])), ((Va 1), .inl (tc 0, 400, .inl vy_25))]) ⟨hx, hb, hml, hown, hts⟩ hK hX hA (cu_X10_step l D tc sk (Ta 0) (Ta 1) (Tv 0) vy_26 vy_27 vy_28 vy_29 (Tf 1) he_150.2) k_478 k_620 k_476 k_477 k_96 pl_X10_step ⟨Nat.le_of_ble_eq_true rfl, Nat.le_of_ble_eq_true rfl⟩ rfl rfl (va_recv hK hP (ci := 10) (q0 := 2) rfl rfl) hP hD hS [2, 3] [0, 1] rfl rfl rfl rfl rfl (by decide) rfl hl.1 rfl (Nat.le_of_ble_eq_true rfl) dX7_readTest_61 ⟨Nat.le_of_ble_eq_true rfl, Nat.le_of_ble_eq_true rfl⟩ (fun v_152 u_153 H locs hv_154 hP₀ hD₀ hS₀ => ?_)
              obtain ⟨sv_155, sv_156, sv_157⟩ := u_153
              obtain ⟨rfl, he_158⟩ := hv_154
              clear he_150
              have he_158 : (0 ≤ ((Tv 0) : Int32).toInt ∧ ((Tv 0) : Int32).toInt ≤ 400 ∧ 0 ≤ (sv_155 : Int32).toInt ∧ (sv_155 : Int32).toInt ≤ 400 ∧ 0 ≤ (sv_156 : Int32).toInt ∧ (sv_156 : Int32).toInt ≤ 400) := he_158
              refine W.eq (g2 := F0 m 64 ls []) rfl ?_
              replace hP : va_P D classes [((Va 0), .inr (7, [.ref (Va 1), .int vy_23, .int vy_24])), ((Va 1), .inl (tc 0, 400, .inl vy_25)), ((Ta 0), .inr (10, [.ref (Ta 1), .int (Tv 0), .int sv_155, .int sv_156, .int sv_157, .int vy_29])), ((Ta 1), .inl (tc 0, 400, .inl (Tf 1)))] H := hP₀
              replace hD : va_D A [((Va 0), .inr (7, [.ref (Va 1), .int vy_23, .int vy_24])), ((Va 1), .inl (tc 0, 400, .inl vy_25)), ((Ta 0), .inr (10, [.ref (Ta 1), .int (Tv 0), .int sv_155, .int sv_156, .int sv_157, .int vy_29])), ((Ta 1), .inl (tc 0, 400, .inl (Tf 1)))] := hD₀
              replace hS := hS₀
              clear hP₀ hD₀ hS₀
              refine lv_aload_n hx hb dX7_readTest_64 rfl (lv_at hl 3 rfl) ?_
              refine lv_aload_n hx hb dX7_readTest_65 rfl (lv_at hl 4 rfl) ?_
              refine lv_iload_n hx hb dX7_readTest_66 rfl (lv_at hl 5 rfl) ?_
              refine cV (a := (Va 0)) (As := [.ref (Ta 0), .int 3]) (rest := []) (wr := []) ⟨hx, hb, hml, hown, hts⟩ hK hX hA (cu_X7_readFact_3 l D tc sk (Va 0) (Va 1) vy_23 vy_24 vy_25 (Ta 0) (Ta 1) (Tv 0) sv_155 sv_156 sv_157 vy_29 (Tf 1) he_158) k_659 k_656 k_658 k_12 k_99 pl_X7_readFact ⟨Nat.le_of_ble_eq_true rfl, Nat.le_of_ble_eq_true rfl⟩ rfl rfl (va_recv hK hP (ci := 7) (q0 := 0) rfl rfl) hP hD hS [0, 1, 2, 3] [] rfl rfl rfl rfl rfl (by decide) rfl hl.1 rfl (Nat.le_of_ble_eq_true rfl) dX7_readTest_67 ⟨Nat.le_of_ble_eq_true rfl, Nat.le_of_ble_eq_true rfl⟩ (fun v_159 u_160 H locs hv_161 hP₀ hD₀ hS₀ => ?_)
              obtain ⟨sv_162, sv_163, sv_164, sv_165, sv_166, sv_167, sv_168⟩ := u_160
              obtain ⟨rfl, he_169⟩ := hv_161
              clear he_158
              have he_169 : (0 ≤ ((Tv 0) : Int32).toInt ∧ ((Tv 0) : Int32).toInt ≤ 400 ∧ 0 ≤ (sv_165 : Int32).toInt ∧ (sv_165 : Int32).toInt ≤ 400 ∧ 0 ≤ (sv_166 : Int32).toInt ∧ (sv_166 : Int32).toInt ≤ 400) := he_169
              refine W.eq (g2 := F0 m 70 ls []) rfl ?_
              replace hP : va_P D classes [((Va 0), .inr (7, [.ref (Va 1), .int sv_162, .int sv_163])), ((Va 1), .inl (tc 0, 400, .inl sv_164)), ((Ta 0), .inr (10, [.ref (Ta 1), .int (Tv 0), .int sv_165, .int sv_166, .int sv_167, .int sv_168])), ((Ta 1), .inl (tc 0, 400, .inl (Tf 1)))] H := hP₀
              replace hD : va_D A [((Va 0), .inr (7, [.ref (Va 1), .int sv_162, .int sv_163])), ((Va 1), .inl (tc 0, 400, .inl sv_164)), ((Ta 0), .inr (10, [.ref (Ta 1), .int (Tv 0), .int sv_165, .int sv_166, .int sv_167, .int sv_168])), ((Ta 1), .inl (tc 0, 400, .inl (Tf 1)))] := hD₀
              replace hS := hS₀
              clear hP₀ hD₀ hS₀
              refine lv_iload hx hb dX7_readTest_70 (lv_at hl 0 rfl) ?_
              refine lv_if_eq (tgt := 80) hx hb dX7_readTest_72 (by decide) (fun c_170 => ?_) (fun c_170 => ?_)
              · skip
                refine lv_aload_n hx hb dX7_readTest_80 rfl (lv_at hl 3 rfl) ?_
                refine lv_bipush (v := (-5)) hx hb dX7_readTest_81 (by decide) ?_
                refine cV (a := (Va 0)) (As := [.int (-5)]) (rest := []) (wr := [((Ta 0), .inr (10, [.ref (Ta 1), .int (Tv 0), .int sv_165, .int sv_166, .int sv_167, .int sv_168])), ((Ta 1), .inl (tc 0, 400, .inl (Tf 1)))]) ⟨hx, hb, hml, hown, hts⟩ hK hX hA (cu_X7_put l D tc sk (Va 0) (Va 1) sv_162 sv_163 sv_164 (-5)) k_642 k_639 k_641 k_10 k_99 pl_X7_put ⟨Nat.le_of_ble_eq_true rfl, Nat.le_of_ble_eq_true rfl⟩ rfl rfl (va_recv hK hP (ci := 7) (q0 := 0) rfl rfl) hP hD hS [0, 1] [2, 3] rfl rfl rfl rfl rfl (by decide) rfl hl.1 rfl (Nat.le_of_ble_eq_true rfl) dX7_readTest_83 ⟨Nat.le_of_ble_eq_true rfl, Nat.le_of_ble_eq_true rfl⟩ (fun v_171 u_172 H locs hv_173 hP₀ hD₀ hS₀ => ?_)
                obtain ⟨sv_174, sv_175⟩ := u_172
                obtain rfl : v_171 = none := hv_173
                refine W.eq (g2 := F0 m 86 ls []) rfl ?_
                replace hP : va_P D classes [((Ta 0), .inr (10, [.ref (Ta 1), .int (Tv 0), .int sv_165, .int sv_166, .int sv_167, .int sv_168])), ((Ta 1), .inl (tc 0, 400, .inl (Tf 1))), ((Va 0), .inr (7, [.ref (Va 1), .int sv_174, .int sv_163])), ((Va 1), .inl (tc 0, 400, .inl sv_175))] H := hP₀
                replace hD : va_D A [((Ta 0), .inr (10, [.ref (Ta 1), .int (Tv 0), .int sv_165, .int sv_166, .int sv_167, .int sv_168])), ((Ta 1), .inl (tc 0, 400, .inl (Tf 1))), ((Va 0), .inr (7, [.ref (Va 1), .int sv_174, .int sv_163])), ((Va 1), .inl (tc 0, 400, .inl sv_175))] := hD₀
                replace hS := hS₀
                clear hP₀ hD₀ hS₀
                obtain ⟨x_176, ex_176⟩ : ∃ y : Int32, y = vy_22 + 1 := ⟨_, rfl⟩
                refine lv_iinc (v := x_176) (lv' := [(4, .int x_176), (5, .int r_149), (3, .int vy_30), (0, .ref (Va 0)), (1, .ref (Ta 0)), (2, .int 3)]) hx hb dX7_readTest_86 hl (k := 1) rfl (by rw [ex_176]; rfl) (by decide) rfl (fun ls hl₀ => ?_)
                replace hl := hl₀
                clear hl₀
                refine lv_goto (tgt := 11) hx hb dX7_readTest_89 (by decide) ?_
                have hb_177 : 0 ≤ (x_176 : Int32).toInt ∧ (400 - (x_176 : Int32).toInt).toNat < n_31 := by
                  have z_1 := Int32.lt_iff_toInt_lt.mp (Int32.not_le.mp c_37)
                  have y_400 : (400 : Int32).toInt = 400 := by decide
                  have y_1 : (1 : Int32).toInt = 1 := by decide
                  have t_x_176 : x_176.toInt = (vy_22 : Int32).toInt + (1 : Int32).toInt := by rw [ex_176]; exact add_toInt (by omega) (by omega)
                  omega
                exact ih_32 x_176 sv_174 sv_163 sv_175 sv_165 sv_166 sv_167 sv_168 vy_30 _ _ _ hb_177.1 hb_177.2 he_169 (hP.sub [2, 3, 0, 1] rfl) (hD.sub [2, 3, 0, 1] rfl rfl) hS (lv_sub hl [0, 2, 3, 4, 5] rfl)
              · skip
                exfalso
                have z_1 := Int32.lt_iff_toInt_lt.mp (Int32.not_le.mp c_37)
                have z_2 := congrArg Int32.toInt c_50
                have z_3 : ¬ (r_136 : Int32).toInt = (0 : Int32).toInt := fun z => c_138 (Int32.toInt_inj.mp z)
                have z_4 := congrArg Int32.toInt c_151
                have z_5 : ¬ (r_149 : Int32).toInt = (0 : Int32).toInt := fun z => c_170 (Int32.toInt_inj.mp z)
                have y_0 : (0 : Int32).toInt = 0 := by decide
                have y_400 : (400 : Int32).toInt = 400 := by decide
                omega
            · skip
              refine lv_iload_n hx hb dX7_readTest_50 rfl (lv_at hl 2 rfl) ?_
              refine lv_if_eq (tgt := 60) hx hb dX7_readTest_51 (by decide) (fun c_178 => ?_) (fun c_178 => ?_)
              · skip
                refine lv_aload_n hx hb dX7_readTest_60 rfl (lv_at hl 4 rfl) ?_
                refine cV (a := (Ta 0)) (As := []) (rest := []) (wr := [((Va 0), .inr (7, [.ref (Va 1), .int vy_23, .int vy_24])), ((Va 1), .inl (tc 0, 400, .inl vy_25))]) ⟨hx, hb, hml, hown, hts⟩ hK hX hA (cu_X10_step l D tc sk (Ta 0) (Ta 1) (Tv 0) vy_26 vy_27 vy_28 vy_29 (Tf 1) he_150.2) k_478 k_620 k_476 k_477 k_96 pl_X10_step ⟨Nat.le_of_ble_eq_true rfl, Nat.le_of_ble_eq_true rfl⟩ rfl rfl (va_recv hK hP (ci := 10) (q0 := 2) rfl rfl) hP hD hS [2, 3] [0, 1] rfl rfl rfl rfl rfl (by decide) rfl hl.1 rfl (Nat.le_of_ble_eq_true rfl) dX7_readTest_61 ⟨Nat.le_of_ble_eq_true rfl, Nat.le_of_ble_eq_true rfl⟩ (fun v_179 u_180 H locs hv_181 hP₀ hD₀ hS₀ => ?_)
                obtain ⟨sv_182, sv_183, sv_184⟩ := u_180
                obtain ⟨rfl, he_185⟩ := hv_181
                clear he_150
                have he_185 : (0 ≤ ((Tv 0) : Int32).toInt ∧ ((Tv 0) : Int32).toInt ≤ 400 ∧ 0 ≤ (sv_182 : Int32).toInt ∧ (sv_182 : Int32).toInt ≤ 400 ∧ 0 ≤ (sv_183 : Int32).toInt ∧ (sv_183 : Int32).toInt ≤ 400) := he_185
                refine W.eq (g2 := F0 m 64 ls []) rfl ?_
                replace hP : va_P D classes [((Va 0), .inr (7, [.ref (Va 1), .int vy_23, .int vy_24])), ((Va 1), .inl (tc 0, 400, .inl vy_25)), ((Ta 0), .inr (10, [.ref (Ta 1), .int (Tv 0), .int sv_182, .int sv_183, .int sv_184, .int vy_29])), ((Ta 1), .inl (tc 0, 400, .inl (Tf 1)))] H := hP₀
                replace hD : va_D A [((Va 0), .inr (7, [.ref (Va 1), .int vy_23, .int vy_24])), ((Va 1), .inl (tc 0, 400, .inl vy_25)), ((Ta 0), .inr (10, [.ref (Ta 1), .int (Tv 0), .int sv_182, .int sv_183, .int sv_184, .int vy_29])), ((Ta 1), .inl (tc 0, 400, .inl (Tf 1)))] := hD₀
                replace hS := hS₀
                clear hP₀ hD₀ hS₀
                refine lv_aload_n hx hb dX7_readTest_64 rfl (lv_at hl 3 rfl) ?_
                refine lv_aload_n hx hb dX7_readTest_65 rfl (lv_at hl 4 rfl) ?_
                refine lv_iload_n hx hb dX7_readTest_66 rfl (lv_at hl 5 rfl) ?_
                refine cV (a := (Va 0)) (As := [.ref (Ta 0), .int 3]) (rest := []) (wr := []) ⟨hx, hb, hml, hown, hts⟩ hK hX hA (cu_X7_readFact_3 l D tc sk (Va 0) (Va 1) vy_23 vy_24 vy_25 (Ta 0) (Ta 1) (Tv 0) sv_182 sv_183 sv_184 vy_29 (Tf 1) he_185) k_659 k_656 k_658 k_12 k_99 pl_X7_readFact ⟨Nat.le_of_ble_eq_true rfl, Nat.le_of_ble_eq_true rfl⟩ rfl rfl (va_recv hK hP (ci := 7) (q0 := 0) rfl rfl) hP hD hS [0, 1, 2, 3] [] rfl rfl rfl rfl rfl (by decide) rfl hl.1 rfl (Nat.le_of_ble_eq_true rfl) dX7_readTest_67 ⟨Nat.le_of_ble_eq_true rfl, Nat.le_of_ble_eq_true rfl⟩ (fun v_186 u_187 H locs hv_188 hP₀ hD₀ hS₀ => ?_)
                obtain ⟨sv_189, sv_190, sv_191, sv_192, sv_193, sv_194, sv_195⟩ := u_187
                obtain ⟨rfl, he_196⟩ := hv_188
                clear he_185
                have he_196 : (0 ≤ ((Tv 0) : Int32).toInt ∧ ((Tv 0) : Int32).toInt ≤ 400 ∧ 0 ≤ (sv_192 : Int32).toInt ∧ (sv_192 : Int32).toInt ≤ 400 ∧ 0 ≤ (sv_193 : Int32).toInt ∧ (sv_193 : Int32).toInt ≤ 400) := he_196
                refine W.eq (g2 := F0 m 70 ls []) rfl ?_
                replace hP : va_P D classes [((Va 0), .inr (7, [.ref (Va 1), .int sv_189, .int sv_190])), ((Va 1), .inl (tc 0, 400, .inl sv_191)), ((Ta 0), .inr (10, [.ref (Ta 1), .int (Tv 0), .int sv_192, .int sv_193, .int sv_194, .int sv_195])), ((Ta 1), .inl (tc 0, 400, .inl (Tf 1)))] H := hP₀
                replace hD : va_D A [((Va 0), .inr (7, [.ref (Va 1), .int sv_189, .int sv_190])), ((Va 1), .inl (tc 0, 400, .inl sv_191)), ((Ta 0), .inr (10, [.ref (Ta 1), .int (Tv 0), .int sv_192, .int sv_193, .int sv_194, .int sv_195])), ((Ta 1), .inl (tc 0, 400, .inl (Tf 1)))] := hD₀
                replace hS := hS₀
                clear hP₀ hD₀ hS₀
                refine lv_iload hx hb dX7_readTest_70 (lv_at hl 0 rfl) ?_
                refine lv_if_eq (tgt := 80) hx hb dX7_readTest_72 (by decide) (fun c_197 => ?_) (fun c_197 => ?_)
                · skip
                  exfalso
                  have z_1 := Int32.lt_iff_toInt_lt.mp (Int32.not_le.mp c_37)
                  have z_2 := congrArg Int32.toInt c_50
                  have z_3 : ¬ (r_136 : Int32).toInt = (0 : Int32).toInt := fun z => c_138 (Int32.toInt_inj.mp z)
                  have z_4 : ¬ (r_149 : Int32).toInt = (0 : Int32).toInt := fun z => c_151 (Int32.toInt_inj.mp z)
                  have z_5 := congrArg Int32.toInt c_178
                  have z_6 := congrArg Int32.toInt c_197
                  have y_0 : (0 : Int32).toInt = 0 := by decide
                  have y_400 : (400 : Int32).toInt = 400 := by decide
                  omega
                · skip
                  refine lv_iconst (v := 1) hx hb dX7_readTest_75 (by decide) ?_
                  refine lv_istore_n (lv' := [(3, .int 1), (5, .int r_149), (4, .int vy_22), (0, .ref (Va 0)), (1, .ref (Ta 0)), (2, .int 3)]) hx hb dX7_readTest_76 rfl hl (by decide) rfl (fun ls hl₀ => ?_)
                  replace hl := hl₀
                  clear hl₀
                  refine lv_goto (tgt := 86) hx hb dX7_readTest_77 (by decide) ?_
                  obtain ⟨x_198, ex_198⟩ : ∃ y : Int32, y = vy_22 + 1 := ⟨_, rfl⟩
                  refine lv_iinc (v := x_198) (lv' := [(4, .int x_198), (3, .int 1), (5, .int r_149), (0, .ref (Va 0)), (1, .ref (Ta 0)), (2, .int 3)]) hx hb dX7_readTest_86 hl (k := 2) rfl (by rw [ex_198]; rfl) (by decide) rfl (fun ls hl₀ => ?_)
                  replace hl := hl₀
                  clear hl₀
                  refine lv_goto (tgt := 11) hx hb dX7_readTest_89 (by decide) ?_
                  have hb_199 : 0 ≤ (x_198 : Int32).toInt ∧ (400 - (x_198 : Int32).toInt).toNat < n_31 := by
                    have z_1 := Int32.lt_iff_toInt_lt.mp (Int32.not_le.mp c_37)
                    have y_400 : (400 : Int32).toInt = 400 := by decide
                    have y_1 : (1 : Int32).toInt = 1 := by decide
                    have t_x_198 : x_198.toInt = (vy_22 : Int32).toInt + (1 : Int32).toInt := by rw [ex_198]; exact add_toInt (by omega) (by omega)
                    omega
                  exact ih_32 x_198 sv_189 sv_190 sv_191 sv_192 sv_193 sv_194 sv_195 1 _ _ _ hb_199.1 hb_199.2 he_196 (hP.sub [0, 1, 2, 3] rfl) (hD.sub [0, 1, 2, 3] rfl rfl) hS (lv_sub hl [0, 1, 3, 4, 5] rfl)
              · skip
                refine lv_aload_n hx hb dX7_readTest_54 rfl (lv_at hl 3 rfl) ?_
                refine lv_bipush (v := (-6)) hx hb dX7_readTest_55 (by decide) ?_
                refine cV (a := (Va 0)) (As := [.int (-6)]) (rest := []) (wr := [((Ta 0), .inr (10, [.ref (Ta 1), .int (Tv 0), .int vy_26, .int vy_27, .int vy_28, .int vy_29])), ((Ta 1), .inl (tc 0, 400, .inl (Tf 1)))]) ⟨hx, hb, hml, hown, hts⟩ hK hX hA (cu_X7_put l D tc sk (Va 0) (Va 1) vy_23 vy_24 vy_25 (-6)) k_642 k_639 k_641 k_10 k_99 pl_X7_put ⟨Nat.le_of_ble_eq_true rfl, Nat.le_of_ble_eq_true rfl⟩ rfl rfl (va_recv hK hP (ci := 7) (q0 := 0) rfl rfl) hP hD hS [0, 1] [2, 3] rfl rfl rfl rfl rfl (by decide) rfl hl.1 rfl (Nat.le_of_ble_eq_true rfl) dX7_readTest_57 ⟨Nat.le_of_ble_eq_true rfl, Nat.le_of_ble_eq_true rfl⟩ (fun v_200 u_201 H locs hv_202 hP₀ hD₀ hS₀ => ?_)
                obtain ⟨sv_203, sv_204⟩ := u_201
                obtain rfl : v_200 = none := hv_202
                refine W.eq (g2 := F0 m 60 ls []) rfl ?_
                replace hP : va_P D classes [((Ta 0), .inr (10, [.ref (Ta 1), .int (Tv 0), .int vy_26, .int vy_27, .int vy_28, .int vy_29])), ((Ta 1), .inl (tc 0, 400, .inl (Tf 1))), ((Va 0), .inr (7, [.ref (Va 1), .int sv_203, .int vy_24])), ((Va 1), .inl (tc 0, 400, .inl sv_204))] H := hP₀
                replace hD : va_D A [((Ta 0), .inr (10, [.ref (Ta 1), .int (Tv 0), .int vy_26, .int vy_27, .int vy_28, .int vy_29])), ((Ta 1), .inl (tc 0, 400, .inl (Tf 1))), ((Va 0), .inr (7, [.ref (Va 1), .int sv_203, .int vy_24])), ((Va 1), .inl (tc 0, 400, .inl sv_204))] := hD₀
                replace hS := hS₀
                clear hP₀ hD₀ hS₀
                refine lv_aload_n hx hb dX7_readTest_60 rfl (lv_at hl 4 rfl) ?_
                refine cV (a := (Ta 0)) (As := []) (rest := []) (wr := [((Va 0), .inr (7, [.ref (Va 1), .int sv_203, .int vy_24])), ((Va 1), .inl (tc 0, 400, .inl sv_204))]) ⟨hx, hb, hml, hown, hts⟩ hK hX hA (cu_X10_step l D tc sk (Ta 0) (Ta 1) (Tv 0) vy_26 vy_27 vy_28 vy_29 (Tf 1) he_150.2) k_478 k_620 k_476 k_477 k_96 pl_X10_step ⟨Nat.le_of_ble_eq_true rfl, Nat.le_of_ble_eq_true rfl⟩ rfl rfl (va_recv hK hP (ci := 10) (q0 := 0) rfl rfl) hP hD hS [0, 1] [2, 3] rfl rfl rfl rfl rfl (by decide) rfl hl.1 rfl (Nat.le_of_ble_eq_true rfl) dX7_readTest_61 ⟨Nat.le_of_ble_eq_true rfl, Nat.le_of_ble_eq_true rfl⟩ (fun v_205 u_206 H locs hv_207 hP₀ hD₀ hS₀ => ?_)
                obtain ⟨sv_208, sv_209, sv_210⟩ := u_206
                obtain ⟨rfl, he_211⟩ := hv_207
                clear he_150
                have he_211 : (0 ≤ ((Tv 0) : Int32).toInt ∧ ((Tv 0) : Int32).toInt ≤ 400 ∧ 0 ≤ (sv_208 : Int32).toInt ∧ (sv_208 : Int32).toInt ≤ 400 ∧ 0 ≤ (sv_209 : Int32).toInt ∧ (sv_209 : Int32).toInt ≤ 400) := he_211
                refine W.eq (g2 := F0 m 64 ls []) rfl ?_
                replace hP : va_P D classes [((Va 0), .inr (7, [.ref (Va 1), .int sv_203, .int vy_24])), ((Va 1), .inl (tc 0, 400, .inl sv_204)), ((Ta 0), .inr (10, [.ref (Ta 1), .int (Tv 0), .int sv_208, .int sv_209, .int sv_210, .int vy_29])), ((Ta 1), .inl (tc 0, 400, .inl (Tf 1)))] H := hP₀
                replace hD : va_D A [((Va 0), .inr (7, [.ref (Va 1), .int sv_203, .int vy_24])), ((Va 1), .inl (tc 0, 400, .inl sv_204)), ((Ta 0), .inr (10, [.ref (Ta 1), .int (Tv 0), .int sv_208, .int sv_209, .int sv_210, .int vy_29])), ((Ta 1), .inl (tc 0, 400, .inl (Tf 1)))] := hD₀
                replace hS := hS₀
                clear hP₀ hD₀ hS₀
                refine lv_aload_n hx hb dX7_readTest_64 rfl (lv_at hl 3 rfl) ?_
                refine lv_aload_n hx hb dX7_readTest_65 rfl (lv_at hl 4 rfl) ?_
                refine lv_iload_n hx hb dX7_readTest_66 rfl (lv_at hl 5 rfl) ?_
                refine cV (a := (Va 0)) (As := [.ref (Ta 0), .int 3]) (rest := []) (wr := []) ⟨hx, hb, hml, hown, hts⟩ hK hX hA (cu_X7_readFact_3 l D tc sk (Va 0) (Va 1) sv_203 vy_24 sv_204 (Ta 0) (Ta 1) (Tv 0) sv_208 sv_209 sv_210 vy_29 (Tf 1) he_211) k_659 k_656 k_658 k_12 k_99 pl_X7_readFact ⟨Nat.le_of_ble_eq_true rfl, Nat.le_of_ble_eq_true rfl⟩ rfl rfl (va_recv hK hP (ci := 7) (q0 := 0) rfl rfl) hP hD hS [0, 1, 2, 3] [] rfl rfl rfl rfl rfl (by decide) rfl hl.1 rfl (Nat.le_of_ble_eq_true rfl) dX7_readTest_67 ⟨Nat.le_of_ble_eq_true rfl, Nat.le_of_ble_eq_true rfl⟩ (fun v_212 u_213 H locs hv_214 hP₀ hD₀ hS₀ => ?_)
                obtain ⟨sv_215, sv_216, sv_217, sv_218, sv_219, sv_220, sv_221⟩ := u_213
                obtain ⟨rfl, he_222⟩ := hv_214
                clear he_211
                have he_222 : (0 ≤ ((Tv 0) : Int32).toInt ∧ ((Tv 0) : Int32).toInt ≤ 400 ∧ 0 ≤ (sv_218 : Int32).toInt ∧ (sv_218 : Int32).toInt ≤ 400 ∧ 0 ≤ (sv_219 : Int32).toInt ∧ (sv_219 : Int32).toInt ≤ 400) := he_222
                refine W.eq (g2 := F0 m 70 ls []) rfl ?_
                replace hP : va_P D classes [((Va 0), .inr (7, [.ref (Va 1), .int sv_215, .int sv_216])), ((Va 1), .inl (tc 0, 400, .inl sv_217)), ((Ta 0), .inr (10, [.ref (Ta 1), .int (Tv 0), .int sv_218, .int sv_219, .int sv_220, .int sv_221])), ((Ta 1), .inl (tc 0, 400, .inl (Tf 1)))] H := hP₀
                replace hD : va_D A [((Va 0), .inr (7, [.ref (Va 1), .int sv_215, .int sv_216])), ((Va 1), .inl (tc 0, 400, .inl sv_217)), ((Ta 0), .inr (10, [.ref (Ta 1), .int (Tv 0), .int sv_218, .int sv_219, .int sv_220, .int sv_221])), ((Ta 1), .inl (tc 0, 400, .inl (Tf 1)))] := hD₀
                replace hS := hS₀
                clear hP₀ hD₀ hS₀
                refine lv_iload hx hb dX7_readTest_70 (lv_at hl 0 rfl) ?_
                refine lv_if_eq (tgt := 80) hx hb dX7_readTest_72 (by decide) (fun c_223 => ?_) (fun c_223 => ?_)
                · skip
                  exfalso
                  have z_1 := Int32.lt_iff_toInt_lt.mp (Int32.not_le.mp c_37)
                  have z_2 := congrArg Int32.toInt c_50
                  have z_3 : ¬ (r_136 : Int32).toInt = (0 : Int32).toInt := fun z => c_138 (Int32.toInt_inj.mp z)
                  have z_4 : ¬ (r_149 : Int32).toInt = (0 : Int32).toInt := fun z => c_151 (Int32.toInt_inj.mp z)
                  have z_5 : ¬ (vy_30 : Int32).toInt = (0 : Int32).toInt := fun z => c_178 (Int32.toInt_inj.mp z)
                  have z_6 := congrArg Int32.toInt c_223
                  have y_0 : (0 : Int32).toInt = 0 := by decide
                  have y_400 : (400 : Int32).toInt = 400 := by decide
                  omega
                · skip
                  refine lv_iconst (v := 1) hx hb dX7_readTest_75 (by decide) ?_
                  refine lv_istore_n (lv' := [(3, .int 1), (5, .int r_149), (4, .int vy_22), (0, .ref (Va 0)), (1, .ref (Ta 0)), (2, .int 3)]) hx hb dX7_readTest_76 rfl hl (by decide) rfl (fun ls hl₀ => ?_)
                  replace hl := hl₀
                  clear hl₀
                  refine lv_goto (tgt := 86) hx hb dX7_readTest_77 (by decide) ?_
                  obtain ⟨x_224, ex_224⟩ : ∃ y : Int32, y = vy_22 + 1 := ⟨_, rfl⟩
                  refine lv_iinc (v := x_224) (lv' := [(4, .int x_224), (3, .int 1), (5, .int r_149), (0, .ref (Va 0)), (1, .ref (Ta 0)), (2, .int 3)]) hx hb dX7_readTest_86 hl (k := 2) rfl (by rw [ex_224]; rfl) (by decide) rfl (fun ls hl₀ => ?_)
                  replace hl := hl₀
                  clear hl₀
                  refine lv_goto (tgt := 11) hx hb dX7_readTest_89 (by decide) ?_
                  have hb_225 : 0 ≤ (x_224 : Int32).toInt ∧ (400 - (x_224 : Int32).toInt).toNat < n_31 := by
                    have z_1 := Int32.lt_iff_toInt_lt.mp (Int32.not_le.mp c_37)
                    have y_400 : (400 : Int32).toInt = 400 := by decide
                    have y_1 : (1 : Int32).toInt = 1 := by decide
                    have t_x_224 : x_224.toInt = (vy_22 : Int32).toInt + (1 : Int32).toInt := by rw [ex_224]; exact add_toInt (by omega) (by omega)
                    omega
                  exact ih_32 x_224 sv_215 sv_216 sv_217 sv_218 sv_219 sv_220 sv_221 1 _ _ _ hb_225.1 hb_225.2 he_222 (hP.sub [0, 1, 2, 3] rfl) (hD.sub [0, 1, 2, 3] rfl rfl) hS (lv_sub hl [0, 1, 3, 4, 5] rfl)
  have h0_226 : 0 ≤ (0 : Int32).toInt := by
    have y_0 : (0 : Int32).toInt = 0 := by decide
    decide
  exact loop_33 _ 0 sv_4 sv_5 sv_6 sv_7 sv_8 sv_9 sv_10 0 _ _ _ h0_226 (Nat.lt_succ_self _) he_11 hP hD hS hl
set_option maxRecDepth 100000 in
theorem cu_X7_readTest_3 (l : Launch) (D : va_G) (tc : Nat → ClassId) (sk : (Nat → Nat) × (Nat → Nat)) (Va_0 : Nat) (Va_1 : Nat) (Vv_0 : Int32) (Vv_1 : Int32) (Vf_1 : Nat → Int32) (Ta_0 : Nat) (Ta_1 : Nat) (Tv_0 : Int32) (Tv_1 : Int32) (Tv_2 : Int32) (Tv_3 : Int32) (Tv_4 : Int32) (Tf_1 : Nat → Int32) (h_tape : 0 ≤ (Tv_0 : Int32).toInt ∧ (Tv_0 : Int32).toInt ≤ 400 ∧ 0 ≤ (Tv_1 : Int32).toInt ∧ (Tv_1 : Int32).toInt ≤ 400 ∧ 0 ≤ (Tv_2 : Int32).toInt ∧ (Tv_2 : Int32).toInt ≤ 400) : Ct l yX7_readTest cX7_readTest 6 none { frames := 23, cells := 0, slots := 0, locals := 547 } D tc sk [.ref Va_0, .ref Ta_0, .int 3] [(Va_0, .inr (7, [.ref Va_1, .int Vv_0, .int Vv_1])), (Va_1, .inl (tc 0, 400, .inl Vf_1)), (Ta_0, .inr (10, [.ref Ta_1, .int Tv_0, .int Tv_1, .int Tv_2, .int Tv_3, .int Tv_4])), (Ta_1, .inl (tc 0, 400, .inl Tf_1))] (fun (v : Option Value) (u : (Int32) × (Int32) × (Nat → Int32) × (Int32) × (Int32) × (Int32) × (Int32)) => match u with | (o1, o2, o3, o4, o5, o6, o7) => v = none ∧ (0 ≤ (Tv_0 : Int32).toInt ∧ (Tv_0 : Int32).toInt ≤ 400 ∧ 0 ≤ (o4 : Int32).toInt ∧ (o4 : Int32).toInt ≤ 400 ∧ 0 ≤ (o5 : Int32).toInt ∧ (o5 : Int32).toInt ≤ 400)) (fun (u : (Int32) × (Int32) × (Nat → Int32) × (Int32) × (Int32) × (Int32) × (Int32)) => match u with | (o1, o2, o3, o4, o5, o6, o7) => [(Va_0, .inr (7, [.ref Va_1, .int o1, .int o2])), (Va_1, .inl (tc 0, 400, .inl o3)), (Ta_0, .inr (10, [.ref Ta_1, .int Tv_0, .int o4, .int o5, .int o6, .int o7])), (Ta_1, .inl (tc 0, 400, .inl Tf_1))]) 0 0 :=
  ct_X7_readTest_3 l D tc sk (fun k => ([Va_0, Va_1] : List (Nat)).getD k 0) (fun k => ([Vv_0, Vv_1] : List (Int32)).getD k 0) (fun k => ([(fun _ => 0), Vf_1] : List (Nat → Int32)).getD k (fun _ => 0)) (fun k => ([Ta_0, Ta_1] : List (Nat)).getD k 0) (fun k => ([Tv_0, Tv_1, Tv_2, Tv_3, Tv_4] : List (Int32)).getD k 0) (fun k => ([(fun _ => 0), Tf_1] : List (Nat → Int32)).getD k (fun _ => 0)) h_tape
