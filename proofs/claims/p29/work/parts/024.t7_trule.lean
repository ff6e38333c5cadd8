set_option maxRecDepth 16384
set_option maxHeartbeats 4000000 in
set_option maxRecDepth 100000 in
theorem ct_hX11_rule (l : Launch) (D : va_G) (tc : Nat → ClassId) (sk : (Nat → Nat) × (Nat → Nat)) (Ga : Nat → Nat) (Gv : Nat → Int32) (Ta : Nat → Nat) (Tv : Nat → Int32) (Tf : Nat → Nat → Int32) (Va : Nat → Nat) (Vv : Nat → Int32) (Vf : Nat → Nat → Int32) (La : Nat → Nat) (Lq : Nat → Nat → Option Nat) (h_tape : 0 ≤ ((Tv 0) : Int32).toInt ∧ ((Tv 0) : Int32).toInt ≤ 400 ∧ 0 ≤ ((Tv 1) : Int32).toInt ∧ ((Tv 1) : Int32).toInt ≤ 400 ∧ 0 ≤ ((Tv 2) : Int32).toInt ∧ ((Tv 2) : Int32).toInt ≤ 400) (h_by : Byt (Tf 1)) (h_rc : 0 ≤ (Gv 0).toInt ∧ (Gv 0).toInt ≤ 6) : Ct l yX11_rule cX11_rule 2 (some .int) { frames := 31, cells := 3, slots := 466, locals := 741 } D tc sk [.ref (Ga 0)] [((Ga 0), .inr (11, [.ref (Ta 0), .ref (Ga 2), .ref (Va 0), .ref (La 0), .int (Gv 0), .ref (Ga 5), .ref (Ga 6), .ref (Ga 7), .ref (Ga 8), .ref (Ga 9), .ref (Ga 10), .ref (Ga 11)])), ((Ta 0), .inr (10, [.ref (Ta 1), .int (Tv 0), .int (Tv 1), .int (Tv 2), .int (Tv 3), .int (Tv 4)])), ((Ta 1), .inl (tc 0, 400, .inl (Tf 1))), ((Va 0), .inr (7, [.ref (Va 1), .int (Vv 0), .int (Vv 1)])), ((Va 1), .inl (tc 0, 400, .inl (Vf 1))), ((La 0), .inl (tc 4, 6, .inr (.inr (.inr (.inr (Lq 0))))))] (fun (v : Option Value) (u : (Bool) × (Nat) × (Nat) × (Nat) × (Int32) × (Int32) × (Int32) × (Int32) × (Int32) × (Int32) × (Int32) × (Nat → Int32) × (Nat → Int32) × (Nat) × (Int32) × (Int32) × (Int32) × (Int32) × (Int32) × (Int32) × (Int32) × (Int32) × (Nat → Int32) × (Nat → Option Nat)) => match u with | (true, na0x0, na0x1, na0x2, oo0x1, oo0x2, oo0x3, oo0x4, oo0x5, oo0x6, oo0x7, oo0x8, oo0x9, nn0x7, oo1x1, oo1x2, oo1x3, oo1x4, oo1x5, oo1x6, oo1x7, oo1x8, oo1x9, oo1x10) => ∃ r : Int32, v = some (.int r) ∧ (RrC (cB (Tf 1) (Tv 0)) (Gv 0) oo0x1 (Tv 0) 0 r) ∧ (0 ≤ (0 : Int32).toInt ∧ (0 : Int32).toInt ≤ 400 ∧ 0 ≤ (oo0x2 : Int32).toInt ∧ (oo0x2 : Int32).toInt ≤ 400 ∧ 0 ≤ (oo0x3 : Int32).toInt ∧ (oo0x3 : Int32).toInt ≤ 400) ∧ ((oo0x1 : Int32).toInt = (Gv 0).toInt + 1 ∧ 0 ≤ (Gv 0).toInt ∧ (Gv 0).toInt < 6 ∧ nn0x7 ≤ 400) ∧ (RuC (cB (Tf 1) (Tv 0)) nn0x7 oo0x9) | (false, na0x0, na0x1, na0x2, oo0x1, oo0x2, oo0x3, oo0x4, oo0x5, oo0x6, oo0x7, oo0x8, oo0x9, nn0x7, oo1x1, oo1x2, oo1x3, oo1x4, oo1x5, oo1x6, oo1x7, oo1x8, oo1x9, oo1x10) => ∃ r : Int32, v = some (.int r) ∧ (RrC (cB (Tf 1) (Tv 0)) (Gv 0) oo1x1 (Tv 0) oo1x2 r) ∧ (0 ≤ (oo1x2 : Int32).toInt ∧ (oo1x2 : Int32).toInt ≤ 400 ∧ 0 ≤ (oo1x3 : Int32).toInt ∧ (oo1x3 : Int32).toInt ≤ 400 ∧ 0 ≤ (oo1x4 : Int32).toInt ∧ (oo1x4 : Int32).toInt ≤ 400) ∧ (SameR oo1x1 (Gv 0) oo1x10 (Lq 0))) (fun (u : (Bool) × (Nat) × (Nat) × (Nat) × (Int32) × (Int32) × (Int32) × (Int32) × (Int32) × (Int32) × (Int32) × (Nat → Int32) × (Nat → Int32) × (Nat) × (Int32) × (Int32) × (Int32) × (Int32) × (Int32) × (Int32) × (Int32) × (Int32) × (Nat → Int32) × (Nat → Option Nat)) => match u with | (true, na0x0, na0x1, na0x2, oo0x1, oo0x2, oo0x3, oo0x4, oo0x5, oo0x6, oo0x7, oo0x8, oo0x9, nn0x7, oo1x1, oo1x2, oo1x3, oo1x4, oo1x5, oo1x6, oo1x7, oo1x8, oo1x9, oo1x10) => [((Ga 0), .inr (11, [.ref (Ta 0), .ref (Ga 2), .ref (Va 0), .ref (La 0), .int oo0x1, .ref (Ga 5), .ref (Ga 6), .ref (Ga 7), .ref (Ga 8), .ref (Ga 9), .ref (Ga 10), .ref (Ga 11)])), ((Ta 0), .inr (10, [.ref (Ta 1), .int 0, .int oo0x2, .int oo0x3, .int oo0x4, .int oo0x5])), ((Ta 1), .inl (tc 0, 400, .inl (Tf 1))), ((Va 0), .inr (7, [.ref (Va 1), .int oo0x6, .int oo0x7])), ((Va 1), .inl (tc 0, 400, .inl oo0x8)), ((La 0), .inl (tc 4, 6, .inr (.inr (.inr (.inr (va_up (Lq 0) ((Gv 0) : Int32).toNatClampNeg (some na0x0))))))), (na0x0, .inr (6, [.ref na0x1, .ref na0x2])), (na0x1, .inl (tc 0, nn0x7, .inl oo0x9)), (na0x2, .inl (tc 1, 64, .inr (.inl (fun _ => 0))))] | (false, na0x0, na0x1, na0x2, oo0x1, oo0x2, oo0x3, oo0x4, oo0x5, oo0x6, oo0x7, oo0x8, oo0x9, nn0x7, oo1x1, oo1x2, oo1x3, oo1x4, oo1x5, oo1x6, oo1x7, oo1x8, oo1x9, oo1x10) => [((Ga 0), .inr (11, [.ref (Ta 0), .ref (Ga 2), .ref (Va 0), .ref (La 0), .int oo1x1, .ref (Ga 5), .ref (Ga 6), .ref (Ga 7), .ref (Ga 8), .ref (Ga 9), .ref (Ga 10), .ref (Ga 11)])), ((Ta 0), .inr (10, [.ref (Ta 1), .int oo1x2, .int oo1x3, .int oo1x4, .int oo1x5, .int oo1x6])), ((Ta 1), .inl (tc 0, 400, .inl (Tf 1))), ((Va 0), .inr (7, [.ref (Va 1), .int oo1x7, .int oo1x8])), ((Va 1), .inl (tc 0, 400, .inl oo1x9)), ((La 0), .inl (tc 4, 6, .inr (.inr (.inr (.inr oo1x10)))))]) 3 466 := by
  refine Ct.start (by decide) (Nat.le_of_ble_eq_true rfl) (fun p e s m below meth c A ls hx hb hr hlk hin hml hown hts hK hX hP hD hA hl hS => ?_)
  have hl : lv_has ls 2 [(0, .ref (Ga 0))] := hl
  refine lv_aload_n hx hb dX11_rule_0 rfl (lv_at hl 0 rfl) ?_
  refine gf_X11_36 hx hb hts hown hK hP 0 rfl rfl dX11_rule_1 ?_
  refine lv_if_lt (tgt := 19) hx hb dX11_rule_4 (by decide) (fun c_1 => ?_) (fun c_1 => ?_)
  · skip
    refine lv_iconst (v := (-1)) hx hb dX11_rule_19 (by decide) ?_
    have hr_2 : 6 ≤ (Gv 0).toInt := by
      have z_1 := Int32.lt_iff_toInt_lt.mp c_1
      have y_0 : (0 : Int32).toInt = 0 := by decide
      omega
    have hr_3 : ((-1) : Int32).toInt = -1 := by
      have z_1 := Int32.lt_iff_toInt_lt.mp c_1
      have y_0 : (0 : Int32).toInt = 0 := by decide
      have y_m1 : (-1 : Int32).toInt = -1 := by decide
      omega
    exact retI (v := (-1)) hx hb hr hlk (rfl) hP hD hS (false, 0, 0, 0, 0, 0, 0, 0, 0, 0, 0, (fun _ => 0), (fun _ => 0), 0, (Gv 0), (Tv 0), (Tv 1), (Tv 2), (Tv 3), (Tv 4), (Vv 0), (Vv 1), (Vf 1), (Lq 0)) ⟨_, rfl, (Or.inl ⟨hr_2, rfl, rfl, hr_3⟩), h_tape, ⟨rfl, rfl⟩⟩ [0, 1, 2, 3, 4, 5] rfl rfl dX11_rule_20 (Nat.le_of_ble_eq_true rfl) (Nat.le_of_ble_eq_true rfl) rfl
  · skip
    refine lv_aload_n hx hb dX11_rule_7 rfl (lv_at hl 0 rfl) ?_
    refine gf_X11_36 hx hb hts hown hK hP 0 rfl rfl dX11_rule_8 ?_
    refine lv_aload_n hx hb dX11_rule_11 rfl (lv_at hl 0 rfl) ?_
    refine gf_X11_32 hx hb hts hown hK hP 0 rfl rfl dX11_rule_12 ?_
    refine va_alen hx hb hK hP 5 4 rfl rfl (v := 6) rfl dX11_rule_15 ?_
    refine lv_icmp_lt (tgt := 21) hx hb dX11_rule_16 (by decide) (fun c_4 => ?_) (fun c_4 => ?_)
    · skip
      refine lv_aload_n hx hb dX11_rule_21 rfl (lv_at hl 0 rfl) ?_
      refine gf_X11_26 hx hb hts hown hK hP 0 rfl rfl dX11_rule_22 ?_
      refine lv_aload_n hx hb dX11_rule_25 rfl (lv_at hl 0 rfl) ?_
      refine gf_X11_10 hx hb hts hown hK hP 0 rfl rfl dX11_rule_26 ?_
      refine cV (a := (Va 0)) (As := [.ref (Ta 0)]) (rest := []) (wr := [((Ga 0), .inr (11, [.ref (Ta 0), .ref (Ga 2), .ref (Va 0), .ref (La 0), .int (Gv 0), .ref (Ga 5), .ref (Ga 6), .ref (Ga 7), .ref (Ga 8), .ref (Ga 9), .ref (Ga 10), .ref (Ga 11)])), ((La 0), .inl (tc 4, 6, .inr (.inr (.inr (.inr (Lq 0))))))]) ⟨hx, hb, hml, hown, hts⟩ hK hX hA (cu_kX7_read l D tc sk (Va 0) (Va 1) (Vv 0) (Vv 1) (Vf 1) (Ta 0) (Ta 1) (Tv 0) (Tv 1) (Tv 2) (Tv 3) (Tv 4) (Tf 1) h_tape h_by) k_611 k_608 k_609 k_610 k_99 pl_X7_read ⟨Nat.le_of_ble_eq_true rfl, Nat.le_of_ble_eq_true rfl⟩ rfl rfl (va_recv hK hP (ci := 7) (q0 := 3) rfl rfl) hP hD hS [3, 4, 1, 2] [0, 5] rfl rfl rfl rfl rfl (by decide) rfl hl.1 rfl (Nat.le_of_ble_eq_true rfl) dX11_rule_29 ⟨Nat.le_of_ble_eq_true rfl, Nat.le_of_ble_eq_true rfl⟩ (fun v_5 u_6 H locs hv_7 hP₀ hD₀ hS₀ => ?_)
      obtain ⟨sv_8, sv_9, sv_10, sv_11, sv_12, sv_13, sv_14, sv_15, sv_16, sv_17, sv_18, sv_19, sv_20, sv_21, sv_22, sv_23, sv_24, sv_25, sv_26, sv_27⟩ := u_6
      cases sv_8
      · skip
        obtain ⟨rfl, pf_28, pf_29, pf_30⟩ := hv_7
        have pf_28 : 0 ≤ ((Tv 0) : Int32).toInt ∧ ((Tv 0) : Int32).toInt ≤ 400 ∧ 0 ≤ (sv_24 : Int32).toInt ∧ (sv_24 : Int32).toInt ≤ 400 ∧ 0 ≤ (sv_25 : Int32).toInt ∧ (sv_25 : Int32).toInt ≤ 400 := pf_28
        have pf_29 : 0 ≤ (sv_21 : Int32).toInt ∧ (sv_21 : Int32).toInt ≤ 400 := pf_29
        have pf_30 : RuF (cB (Tf 1) (Tv 0)) sv_27 := pf_30
        refine W.eq (g2 := F0 m 32 ls [.null]) rfl ?_
        replace hP : va_P D classes [((Ga 0), .inr (11, [.ref (Ta 0), .ref (Ga 2), .ref (Va 0), .ref (La 0), .int (Gv 0), .ref (Ga 5), .ref (Ga 6), .ref (Ga 7), .ref (Ga 8), .ref (Ga 9), .ref (Ga 10), .ref (Ga 11)])), ((La 0), .inl (tc 4, 6, .inr (.inr (.inr (.inr (Lq 0)))))), ((Va 0), .inr (7, [.ref (Va 1), .int sv_21, .int sv_22])), ((Va 1), .inl (tc 0, 400, .inl sv_23)), ((Ta 0), .inr (10, [.ref (Ta 1), .int (Tv 0), .int sv_24, .int sv_25, .int sv_26, .int sv_27])), ((Ta 1), .inl (tc 0, 400, .inl (Tf 1)))] H := hP₀
        replace hD : va_D A [((Ga 0), .inr (11, [.ref (Ta 0), .ref (Ga 2), .ref (Va 0), .ref (La 0), .int (Gv 0), .ref (Ga 5), .ref (Ga 6), .ref (Ga 7), .ref (Ga 8), .ref (Ga 9), .ref (Ga 10), .ref (Ga 11)])), ((La 0), .inl (tc 4, 6, .inr (.inr (.inr (.inr (Lq 0)))))), ((Va 0), .inr (7, [.ref (Va 1), .int sv_21, .int sv_22])), ((Va 1), .inl (tc 0, 400, .inl sv_23)), ((Ta 0), .inr (10, [.ref (Ta 1), .int (Tv 0), .int sv_24, .int sv_25, .int sv_26, .int sv_27])), ((Ta 1), .inl (tc 0, 400, .inl (Tf 1)))] := hD₀
        replace hS := hS₀
        clear hP₀ hD₀ hS₀
        refine lv_astore_nN (lv' := [(1, .null), (0, .ref (Ga 0))]) hx hb dX11_rule_32 rfl hl (by decide) rfl (fun ls hl₀ => ?_)
        replace hl := hl₀
        clear hl₀
        refine lv_aload_n hx hb dX11_rule_33 rfl (lv_at hl 1 rfl) ?_
        refine gf_X11_10 hx hb hts hown hK hP 0 rfl rfl dX11_rule_34 ?_
        refine lv_iconst (v := 0) hx hb dX11_rule_37 (by decide) ?_
        refine pf_X11_94 hx hb hts hown hK hP hD hS 4 rfl (Nat.le_of_ble_eq_true rfl) rfl rfl dX11_rule_38 (fun H locs hP₀ hD₀ hS₀ => ?_)
        replace hP : va_P D classes [((Ga 0), .inr (11, [.ref (Ta 0), .ref (Ga 2), .ref (Va 0), .ref (La 0), .int (Gv 0), .ref (Ga 5), .ref (Ga 6), .ref (Ga 7), .ref (Ga 8), .ref (Ga 9), .ref (Ga 10), .ref (Ga 11)])), ((La 0), .inl (tc 4, 6, .inr (.inr (.inr (.inr (Lq 0)))))), ((Va 0), .inr (7, [.ref (Va 1), .int sv_21, .int sv_22])), ((Va 1), .inl (tc 0, 400, .inl sv_23)), ((Ta 0), .inr (10, [.ref (Ta 1), .int 0, .int sv_24, .int sv_25, .int sv_26, .int sv_27])), ((Ta 1), .inl (tc 0, 400, .inl (Tf 1)))] H := hP₀
        replace hD : va_D A [((Ga 0), .inr (11, [.ref (Ta 0), .ref (Ga 2), .ref (Va 0), .ref (La 0), .int (Gv 0), .ref (Ga 5), .ref (Ga 6), .ref (Ga 7), .ref (Ga 8), .ref (Ga 9), .ref (Ga 10), .ref (Ga 11)])), ((La 0), .inl (tc 4, 6, .inr (.inr (.inr (.inr (Lq 0)))))), ((Va 0), .inr (7, [.ref (Va 1), .int sv_21, .int sv_22])), ((Va 1), .inl (tc 0, 400, .inl sv_23)), ((Ta 0), .inr (10, [.ref (Ta 1), .int 0, .int sv_24, .int sv_25, .int sv_26, .int sv_27])), ((Ta 1), .inl (tc 0, 400, .inl (Tf 1)))] := hD₀
        replace hS := hS₀
        clear hP₀ hD₀ hS₀
        refine lv_aload_nN hx hb dX11_rule_41 rfl (lv_at hl 0 rfl) ?_
        refine lv_ifnonnullN hx hb dX11_rule_42 ?_
        refine lv_bipush (v := (-2)) hx hb dX11_rule_45 (by decide) ?_
        refine lv_aload_n hx hb dX11_rule_47 rfl (lv_at hl 1 rfl) ?_
        refine gf_X11_10 hx hb hts hown hK hP 0 rfl rfl dX11_rule_48 ?_
        refine gf_X11_127 hx hb hts hown hK hP 4 rfl rfl dX11_rule_51 ?_
        refine lv_isub hx hb dX11_rule_54 ?_
        refine lv_topi (fun x_31 ex_31 => ?_)
        have ha_32 : 0 ≤ (0 : Int32).toInt ∧ (0 : Int32).toInt ≤ 400 ∧ 0 ≤ (sv_24 : Int32).toInt ∧ (sv_24 : Int32).toInt ≤ 400 ∧ 0 ≤ (sv_25 : Int32).toInt ∧ (sv_25 : Int32).toInt ≤ 400 := by
          have z_1 := Int32.le_iff_toInt_le.mp (Int32.not_lt.mp c_1)
          have z_2 := Int32.lt_iff_toInt_lt.mp c_4
          have y_0 : (0 : Int32).toInt = 0 := by decide
          have y_6 : (6 : Int32).toInt = 6 := by decide
          omega
        have hr_33 : (Gv 0).toInt < 6 := by
          have z_1 := Int32.le_iff_toInt_le.mp (Int32.not_lt.mp c_1)
          have z_2 := Int32.lt_iff_toInt_lt.mp c_4
          have y_0 : (0 : Int32).toInt = 0 := by decide
          have y_6 : (6 : Int32).toInt = 6 := by decide
          omega
        have hr_34 : (0 : Int32).toInt = 0 := by
          have z_1 := Int32.le_iff_toInt_le.mp (Int32.not_lt.mp c_1)
          have z_2 := Int32.lt_iff_toInt_lt.mp c_4
          have y_0 : (0 : Int32).toInt = 0 := by decide
          have y_6 : (6 : Int32).toInt = 6 := by decide
          omega
        exact retI (v := x_31) hx hb hr hlk (rfl) hP hD hS (false, 0, 0, 0, 0, 0, 0, 0, 0, 0, 0, (fun _ => 0), (fun _ => 0), 0, (Gv 0), 0, sv_24, sv_25, sv_26, sv_27, sv_21, sv_22, sv_23, (Lq 0)) ⟨_, rfl, (Or.inr ⟨hr_33, hr_34, Or.inr ⟨sv_27, pf_30.1, rfl, ex_31⟩⟩), ha_32, ⟨rfl, rfl⟩⟩ [0, 4, 5, 2, 3, 1] rfl rfl dX11_rule_55 (Nat.le_of_ble_eq_true rfl) (Nat.le_of_ble_eq_true rfl) rfl
      · skip
        obtain ⟨rfl, pf_35, pf_36, pf_37, pf_38, pf_39⟩ := hv_7
        have pf_35 : 0 ≤ ((Tv 0) : Int32).toInt ∧ ((Tv 0) : Int32).toInt ≤ 400 ∧ 0 ≤ (sv_15 : Int32).toInt ∧ (sv_15 : Int32).toInt ≤ 400 ∧ 0 ≤ (sv_16 : Int32).toInt ∧ (sv_16 : Int32).toInt ≤ 400 := pf_35
        have pf_36 : 0 ≤ (sv_12 : Int32).toInt ∧ (sv_12 : Int32).toInt ≤ 400 := pf_36
        have pf_37 : RuK (cB (Tf 1) (Tv 0)) := pf_37
        have pf_38 : sv_20 ≤ 400 := pf_38
        have pf_39 : RuC (cB (Tf 1) (Tv 0)) sv_20 sv_19 := pf_39
        refine W.eq (g2 := F0 m 32 ls [.ref sv_9]) rfl ?_
        replace hP : va_P D classes [((Ga 0), .inr (11, [.ref (Ta 0), .ref (Ga 2), .ref (Va 0), .ref (La 0), .int (Gv 0), .ref (Ga 5), .ref (Ga 6), .ref (Ga 7), .ref (Ga 8), .ref (Ga 9), .ref (Ga 10), .ref (Ga 11)])), ((La 0), .inl (tc 4, 6, .inr (.inr (.inr (.inr (Lq 0)))))), ((Va 0), .inr (7, [.ref (Va 1), .int sv_12, .int sv_13])), ((Va 1), .inl (tc 0, 400, .inl sv_14)), ((Ta 0), .inr (10, [.ref (Ta 1), .int (Tv 0), .int sv_15, .int sv_16, .int sv_17, .int sv_18])), ((Ta 1), .inl (tc 0, 400, .inl (Tf 1))), (sv_9, .inr (6, [.ref sv_10, .ref sv_11])), (sv_10, .inl (tc 0, sv_20, .inl sv_19)), (sv_11, .inl (tc 1, 64, .inr (.inl (fun _ => 0))))] H := hP₀
        replace hD : va_D A [((Ga 0), .inr (11, [.ref (Ta 0), .ref (Ga 2), .ref (Va 0), .ref (La 0), .int (Gv 0), .ref (Ga 5), .ref (Ga 6), .ref (Ga 7), .ref (Ga 8), .ref (Ga 9), .ref (Ga 10), .ref (Ga 11)])), ((La 0), .inl (tc 4, 6, .inr (.inr (.inr (.inr (Lq 0)))))), ((Va 0), .inr (7, [.ref (Va 1), .int sv_12, .int sv_13])), ((Va 1), .inl (tc 0, 400, .inl sv_14)), ((Ta 0), .inr (10, [.ref (Ta 1), .int (Tv 0), .int sv_15, .int sv_16, .int sv_17, .int sv_18])), ((Ta 1), .inl (tc 0, 400, .inl (Tf 1))), (sv_9, .inr (6, [.ref sv_10, .ref sv_11])), (sv_10, .inl (tc 0, sv_20, .inl sv_19)), (sv_11, .inl (tc 1, 64, .inr (.inl (fun _ => 0))))] := hD₀
        replace hS := hS₀
        clear hP₀ hD₀ hS₀
        refine lv_astore_n (lv' := [(1, .ref sv_9), (0, .ref (Ga 0))]) hx hb dX11_rule_32 rfl hl (by decide) rfl (fun ls hl₀ => ?_)
        replace hl := hl₀
        clear hl₀
        refine lv_aload_n hx hb dX11_rule_33 rfl (lv_at hl 1 rfl) ?_
        refine gf_X11_10 hx hb hts hown hK hP 0 rfl rfl dX11_rule_34 ?_
        refine lv_iconst (v := 0) hx hb dX11_rule_37 (by decide) ?_
        refine pf_X11_94 hx hb hts hown hK hP hD hS 4 rfl (Nat.le_of_ble_eq_true rfl) rfl rfl dX11_rule_38 (fun H locs hP₀ hD₀ hS₀ => ?_)
        replace hP : va_P D classes [((Ga 0), .inr (11, [.ref (Ta 0), .ref (Ga 2), .ref (Va 0), .ref (La 0), .int (Gv 0), .ref (Ga 5), .ref (Ga 6), .ref (Ga 7), .ref (Ga 8), .ref (Ga 9), .ref (Ga 10), .ref (Ga 11)])), ((La 0), .inl (tc 4, 6, .inr (.inr (.inr (.inr (Lq 0)))))), ((Va 0), .inr (7, [.ref (Va 1), .int sv_12, .int sv_13])), ((Va 1), .inl (tc 0, 400, .inl sv_14)), ((Ta 0), .inr (10, [.ref (Ta 1), .int 0, .int sv_15, .int sv_16, .int sv_17, .int sv_18])), ((Ta 1), .inl (tc 0, 400, .inl (Tf 1))), (sv_9, .inr (6, [.ref sv_10, .ref sv_11])), (sv_10, .inl (tc 0, sv_20, .inl sv_19)), (sv_11, .inl (tc 1, 64, .inr (.inl (fun _ => 0))))] H := hP₀
        replace hD : va_D A [((Ga 0), .inr (11, [.ref (Ta 0), .ref (Ga 2), .ref (Va 0), .ref (La 0), .int (Gv 0), .ref (Ga 5), .ref (Ga 6), .ref (Ga 7), .ref (Ga 8), .ref (Ga 9), .ref (Ga 10), .ref (Ga 11)])), ((La 0), .inl (tc 4, 6, .inr (.inr (.inr (.inr (Lq 0)))))), ((Va 0), .inr (7, [.ref (Va 1), .int sv_12, .int sv_13])), ((Va 1), .inl (tc 0, 400, .inl sv_14)), ((Ta 0), .inr (10, [.ref (Ta 1), .int 0, .int sv_15, .int sv_16, .int sv_17, .int sv_18])), ((Ta 1), .inl (tc 0, 400, .inl (Tf 1))), (sv_9, .inr (6, [.ref sv_10, .ref sv_11])), (sv_10, .inl (tc 0, sv_20, .inl sv_19)), (sv_11, .inl (tc 1, 64, .inr (.inl (fun _ => 0))))] := hD₀
        replace hS := hS₀
        clear hP₀ hD₀ hS₀
        refine lv_aload_n hx hb dX11_rule_41 rfl (lv_at hl 0 rfl) ?_
        refine lv_ifnonnull (tgt := 56) hx hb dX11_rule_42 (by decide) ?_
        refine lv_aload_n hx hb dX11_rule_56 rfl (lv_at hl 1 rfl) ?_
        refine gf_X11_32 hx hb hts hown hK hP 0 rfl rfl dX11_rule_57 ?_
        refine lv_aload_n hx hb dX11_rule_60 rfl (lv_at hl 1 rfl) ?_
        refine gf_X11_36 hx hb hts hown hK hP 0 rfl rfl dX11_rule_61 ?_
        refine lv_aload_n hx hb dX11_rule_64 rfl (lv_at hl 0 rfl) ?_
        have hi_40 : vp_in (Gv 0) 6 := by
          have z_1 := Int32.le_iff_toInt_le.mp (Int32.not_lt.mp c_1)
          have z_2 := Int32.lt_iff_toInt_lt.mp c_4
          have y_0 : (0 : Int32).toInt = 0 := by decide
          have y_6 : (6 : Int32).toInt = 6 := by decide
          refine vp_in_iff.mpr ⟨?_, ?_⟩ <;> omega
        refine st_ref hx hb hK hP hD hS 1 4 6 6 (r := (RX6, TX6, 2)) rfl rfl rfl rfl hi_40 dX11_rule_65 (fun g_41 H locs eg_41 hP₀ hD₀ hS₀ => ?_)
        replace hP : va_P D classes [((Ga 0), .inr (11, [.ref (Ta 0), .ref (Ga 2), .ref (Va 0), .ref (La 0), .int (Gv 0), .ref (Ga 5), .ref (Ga 6), .ref (Ga 7), .ref (Ga 8), .ref (Ga 9), .ref (Ga 10), .ref (Ga 11)])), ((La 0), .inl (tc 4, 6, .inr (.inr (.inr (.inr g_41))))), ((Va 0), .inr (7, [.ref (Va 1), .int sv_12, .int sv_13])), ((Va 1), .inl (tc 0, 400, .inl sv_14)), ((Ta 0), .inr (10, [.ref (Ta 1), .int 0, .int sv_15, .int sv_16, .int sv_17, .int sv_18])), ((Ta 1), .inl (tc 0, 400, .inl (Tf 1))), (sv_9, .inr (6, [.ref sv_10, .ref sv_11])), (sv_10, .inl (tc 0, sv_20, .inl sv_19)), (sv_11, .inl (tc 1, 64, .inr (.inl (fun _ => 0))))] H := hP₀
        replace hD : va_D A [((Ga 0), .inr (11, [.ref (Ta 0), .ref (Ga 2), .ref (Va 0), .ref (La 0), .int (Gv 0), .ref (Ga 5), .ref (Ga 6), .ref (Ga 7), .ref (Ga 8), .ref (Ga 9), .ref (Ga 10), .ref (Ga 11)])), ((La 0), .inl (tc 4, 6, .inr (.inr (.inr (.inr g_41))))), ((Va 0), .inr (7, [.ref (Va 1), .int sv_12, .int sv_13])), ((Va 1), .inl (tc 0, 400, .inl sv_14)), ((Ta 0), .inr (10, [.ref (Ta 1), .int 0, .int sv_15, .int sv_16, .int sv_17, .int sv_18])), ((Ta 1), .inl (tc 0, 400, .inl (Tf 1))), (sv_9, .inr (6, [.ref sv_10, .ref sv_11])), (sv_10, .inl (tc 0, sv_20, .inl sv_19)), (sv_11, .inl (tc 1, 64, .inr (.inl (fun _ => 0))))] := hD₀
        replace hS := hS₀
        clear hP₀ hD₀ hS₀
        subst eg_41
        replace hP : va_P D classes [((Ga 0), .inr (11, [.ref (Ta 0), .ref (Ga 2), .ref (Va 0), .ref (La 0), .int (Gv 0), .ref (Ga 5), .ref (Ga 6), .ref (Ga 7), .ref (Ga 8), .ref (Ga 9), .ref (Ga 10), .ref (Ga 11)])), ((La 0), .inl (tc 4, 6, .inr (.inr (.inr (.inr (va_up (Lq 0) ((Gv 0) : Int32).toNatClampNeg (some sv_9))))))), ((Va 0), .inr (7, [.ref (Va 1), .int sv_12, .int sv_13])), ((Va 1), .inl (tc 0, 400, .inl sv_14)), ((Ta 0), .inr (10, [.ref (Ta 1), .int 0, .int sv_15, .int sv_16, .int sv_17, .int sv_18])), ((Ta 1), .inl (tc 0, 400, .inl (Tf 1))), (sv_9, .inr (6, [.ref sv_10, .ref sv_11])), (sv_10, .inl (tc 0, sv_20, .inl sv_19)), (sv_11, .inl (tc 1, 64, .inr (.inl (fun _ => 0))))] H := hP
        replace hD : va_D A [((Ga 0), .inr (11, [.ref (Ta 0), .ref (Ga 2), .ref (Va 0), .ref (La 0), .int (Gv 0), .ref (Ga 5), .ref (Ga 6), .ref (Ga 7), .ref (Ga 8), .ref (Ga 9), .ref (Ga 10), .ref (Ga 11)])), ((La 0), .inl (tc 4, 6, .inr (.inr (.inr (.inr (va_up (Lq 0) ((Gv 0) : Int32).toNatClampNeg (some sv_9))))))), ((Va 0), .inr (7, [.ref (Va 1), .int sv_12, .int sv_13])), ((Va 1), .inl (tc 0, 400, .inl sv_14)), ((Ta 0), .inr (10, [.ref (Ta 1), .int 0, .int sv_15, .int sv_16, .int sv_17, .int sv_18])), ((Ta 1), .inl (tc 0, 400, .inl (Tf 1))), (sv_9, .inr (6, [.ref sv_10, .ref sv_11])), (sv_10, .inl (tc 0, sv_20, .inl sv_19)), (sv_11, .inl (tc 1, 64, .inr (.inl (fun _ => 0))))] := hD
        refine lv_aload_n hx hb dX11_rule_66 rfl (lv_at hl 1 rfl) ?_
        refine lv_dup hx hb dX11_rule_67 rfl ?_
        refine gf_X11_36 hx hb hts hown hK hP 0 rfl rfl dX11_rule_68 ?_
        refine lv_iconst (v := 1) hx hb dX11_rule_71 (by decide) ?_
        refine lv_iadd hx hb dX11_rule_72 ?_
        refine lv_topi (fun x_42 ex_42 => ?_)
        refine pf_X11_36 hx hb hts hown hK hP hD hS 0 rfl (Nat.le_of_ble_eq_true rfl) rfl rfl dX11_rule_73 (fun H locs hP₀ hD₀ hS₀ => ?_)
        replace hP : va_P D classes [((Ga 0), .inr (11, [.ref (Ta 0), .ref (Ga 2), .ref (Va 0), .ref (La 0), .int x_42, .ref (Ga 5), .ref (Ga 6), .ref (Ga 7), .ref (Ga 8), .ref (Ga 9), .ref (Ga 10), .ref (Ga 11)])), ((La 0), .inl (tc 4, 6, .inr (.inr (.inr (.inr (va_up (Lq 0) ((Gv 0) : Int32).toNatClampNeg (some sv_9))))))), ((Va 0), .inr (7, [.ref (Va 1), .int sv_12, .int sv_13])), ((Va 1), .inl (tc 0, 400, .inl sv_14)), ((Ta 0), .inr (10, [.ref (Ta 1), .int 0, .int sv_15, .int sv_16, .int sv_17, .int sv_18])), ((Ta 1), .inl (tc 0, 400, .inl (Tf 1))), (sv_9, .inr (6, [.ref sv_10, .ref sv_11])), (sv_10, .inl (tc 0, sv_20, .inl sv_19)), (sv_11, .inl (tc 1, 64, .inr (.inl (fun _ => 0))))] H := hP₀
        replace hD : va_D A [((Ga 0), .inr (11, [.ref (Ta 0), .ref (Ga 2), .ref (Va 0), .ref (La 0), .int x_42, .ref (Ga 5), .ref (Ga 6), .ref (Ga 7), .ref (Ga 8), .ref (Ga 9), .ref (Ga 10), .ref (Ga 11)])), ((La 0), .inl (tc 4, 6, .inr (.inr (.inr (.inr (va_up (Lq 0) ((Gv 0) : Int32).toNatClampNeg (some sv_9))))))), ((Va 0), .inr (7, [.ref (Va 1), .int sv_12, .int sv_13])), ((Va 1), .inl (tc 0, 400, .inl sv_14)), ((Ta 0), .inr (10, [.ref (Ta 1), .int 0, .int sv_15, .int sv_16, .int sv_17, .int sv_18])), ((Ta 1), .inl (tc 0, 400, .inl (Tf 1))), (sv_9, .inr (6, [.ref sv_10, .ref sv_11])), (sv_10, .inl (tc 0, sv_20, .inl sv_19)), (sv_11, .inl (tc 1, 64, .inr (.inl (fun _ => 0))))] := hD₀
        replace hS := hS₀
        clear hP₀ hD₀ hS₀
        refine lv_aload_n hx hb dX11_rule_76 rfl (lv_at hl 1 rfl) ?_
        refine gf_X11_36 hx hb hts hown hK hP 0 rfl rfl dX11_rule_77 ?_
        refine lv_iconst (v := 1) hx hb dX11_rule_80 (by decide) ?_
        refine lv_isub hx hb dX11_rule_81 ?_
        refine lv_topi (fun x_43 ex_43 => ?_)
        have ha_44 : 0 ≤ (0 : Int32).toInt ∧ (0 : Int32).toInt ≤ 400 ∧ 0 ≤ (sv_15 : Int32).toInt ∧ (sv_15 : Int32).toInt ≤ 400 ∧ 0 ≤ (sv_16 : Int32).toInt ∧ (sv_16 : Int32).toInt ≤ 400 := by
          have z_1 := Int32.le_iff_toInt_le.mp (Int32.not_lt.mp c_1)
          have z_2 := Int32.lt_iff_toInt_lt.mp c_4
          have y_0 : (0 : Int32).toInt = 0 := by decide
          have y_6 : (6 : Int32).toInt = 6 := by decide
          omega
        have ha_45 : (x_42 : Int32).toInt = (Gv 0).toInt + 1 ∧ 0 ≤ (Gv 0).toInt ∧ (Gv 0).toInt < 6 ∧ sv_20 ≤ 400 := by
          have z_1 := Int32.le_iff_toInt_le.mp (Int32.not_lt.mp c_1)
          have z_2 := Int32.lt_iff_toInt_lt.mp c_4
          have y_0 : (0 : Int32).toInt = 0 := by decide
          have y_6 : (6 : Int32).toInt = 6 := by decide
          have y_1 : (1 : Int32).toInt = 1 := by decide
          have t_x_42 : x_42.toInt = ((Gv 0) : Int32).toInt + (1 : Int32).toInt := by rw [ex_42]; exact add_toInt (by omega) (by omega)
          omega
        have hr_46 : (Gv 0).toInt < 6 := by
          have z_1 := Int32.le_iff_toInt_le.mp (Int32.not_lt.mp c_1)
          have z_2 := Int32.lt_iff_toInt_lt.mp c_4
          have y_0 : (0 : Int32).toInt = 0 := by decide
          have y_6 : (6 : Int32).toInt = 6 := by decide
          omega
        have hr_47 : (0 : Int32).toInt = 0 := by
          have z_1 := Int32.le_iff_toInt_le.mp (Int32.not_lt.mp c_1)
          have z_2 := Int32.lt_iff_toInt_lt.mp c_4
          have y_0 : (0 : Int32).toInt = 0 := by decide
          have y_6 : (6 : Int32).toInt = 6 := by decide
          omega
        have hi_48 : (x_42 : Int32).toInt = (Gv 0).toInt + 1 := by
          have z_1 := Int32.le_iff_toInt_le.mp (Int32.not_lt.mp c_1)
          have z_2 := Int32.lt_iff_toInt_lt.mp c_4
          have y_0 : (0 : Int32).toInt = 0 := by decide
          have y_6 : (6 : Int32).toInt = 6 := by decide
          have y_1 : (1 : Int32).toInt = 1 := by decide
          have t_x_42 : x_42.toInt = ((Gv 0) : Int32).toInt + (1 : Int32).toInt := by rw [ex_42]; exact add_toInt (by omega) (by omega)
          omega
        have hi_49 : (x_43 : Int32).toInt = (Gv 0).toInt := by
          have z_1 := Int32.le_iff_toInt_le.mp (Int32.not_lt.mp c_1)
          have z_2 := Int32.lt_iff_toInt_lt.mp c_4
          have y_0 : (0 : Int32).toInt = 0 := by decide
          have y_6 : (6 : Int32).toInt = 6 := by decide
          have y_1 : (1 : Int32).toInt = 1 := by decide
          have t_x_42 : x_42.toInt = ((Gv 0) : Int32).toInt + (1 : Int32).toInt := by rw [ex_42]; exact add_toInt (by omega) (by omega)
          have t_x_43 : x_43.toInt = (x_42 : Int32).toInt - (1 : Int32).toInt := by rw [ex_43]; exact sub_toInt (by omega) (by omega)
          omega
        exact retI (v := x_43) hx hb hr hlk (rfl) hP hD hS (true, sv_9, sv_10, sv_11, x_42, sv_15, sv_16, sv_17, sv_18, sv_12, sv_13, sv_14, sv_19, sv_20, 0, 0, 0, 0, 0, 0, 0, 0, (fun _ => 0), (fun _ => none)) ⟨_, rfl, (Or.inr ⟨hr_46, hr_47, Or.inl ⟨pf_37, hi_48, hi_49⟩⟩), ha_44, ha_45, pf_39⟩ [0, 4, 5, 2, 3, 1, 6, 7, 8] rfl rfl dX11_rule_82 (Nat.le_of_ble_eq_true rfl) (Nat.le_of_ble_eq_true rfl) rfl
    · skip
      refine lv_iconst (v := (-1)) hx hb dX11_rule_19 (by decide) ?_
      have hr_50 : 6 ≤ (Gv 0).toInt := by
        have z_1 := Int32.le_iff_toInt_le.mp (Int32.not_lt.mp c_1)
        have z_2 := Int32.le_iff_toInt_le.mp (Int32.not_lt.mp c_4)
        have y_0 : (0 : Int32).toInt = 0 := by decide
        have y_6 : (6 : Int32).toInt = 6 := by decide
        omega
      have hr_51 : ((-1) : Int32).toInt = -1 := by
        have z_1 := Int32.le_iff_toInt_le.mp (Int32.not_lt.mp c_1)
        have z_2 := Int32.le_iff_toInt_le.mp (Int32.not_lt.mp c_4)
        have y_0 : (0 : Int32).toInt = 0 := by decide
        have y_6 : (6 : Int32).toInt = 6 := by decide
        have y_m1 : (-1 : Int32).toInt = -1 := by decide
        omega
      exact retI (v := (-1)) hx hb hr hlk (rfl) hP hD hS (false, 0, 0, 0, 0, 0, 0, 0, 0, 0, 0, (fun _ => 0), (fun _ => 0), 0, (Gv 0), (Tv 0), (Tv 1), (Tv 2), (Tv 3), (Tv 4), (Vv 0), (Vv 1), (Vf 1), (Lq 0)) ⟨_, rfl, (Or.inl ⟨hr_50, rfl, rfl, hr_51⟩), h_tape, ⟨rfl, rfl⟩⟩ [0, 1, 2, 3, 4, 5] rfl rfl dX11_rule_20 (Nat.le_of_ble_eq_true rfl) (Nat.le_of_ble_eq_true rfl) rfl
set_option maxRecDepth 100000 in
theorem cu_hX11_rule (l : Launch) (D : va_G) (tc : Nat → ClassId) (sk : (Nat → Nat) × (Nat → Nat)) (Ga_0 : Nat) (Ga_2 : Nat) (Ga_5 : Nat) (Ga_6 : Nat) (Ga_7 : Nat) (Ga_8 : Nat) (Ga_9 : Nat) (Ga_10 : Nat) (Ga_11 : Nat) (Gv_0 : Int32) (Ta_0 : Nat) (Ta_1 : Nat) (Tv_0 : Int32) (Tv_1 : Int32) (Tv_2 : Int32) (Tv_3 : Int32) (Tv_4 : Int32) (Tf_1 : Nat → Int32) (Va_0 : Nat) (Va_1 : Nat) (Vv_0 : Int32) (Vv_1 : Int32) (Vf_1 : Nat → Int32) (La_0 : Nat) (Lq_0 : Nat → Option Nat) (h_tape : 0 ≤ (Tv_0 : Int32).toInt ∧ (Tv_0 : Int32).toInt ≤ 400 ∧ 0 ≤ (Tv_1 : Int32).toInt ∧ (Tv_1 : Int32).toInt ≤ 400 ∧ 0 ≤ (Tv_2 : Int32).toInt ∧ (Tv_2 : Int32).toInt ≤ 400) (h_by : Byt Tf_1) (h_rc : 0 ≤ Gv_0.toInt ∧ Gv_0.toInt ≤ 6) : Ct l yX11_rule cX11_rule 2 (some .int) { frames := 31, cells := 3, slots := 466, locals := 741 } D tc sk [.ref Ga_0] [(Ga_0, .inr (11, [.ref Ta_0, .ref Ga_2, .ref Va_0, .ref La_0, .int Gv_0, .ref Ga_5, .ref Ga_6, .ref Ga_7, .ref Ga_8, .ref Ga_9, .ref Ga_10, .ref Ga_11])), (Ta_0, .inr (10, [.ref Ta_1, .int Tv_0, .int Tv_1, .int Tv_2, .int Tv_3, .int Tv_4])), (Ta_1, .inl (tc 0, 400, .inl Tf_1)), (Va_0, .inr (7, [.ref Va_1, .int Vv_0, .int Vv_1])), (Va_1, .inl (tc 0, 400, .inl Vf_1)), (La_0, .inl (tc 4, 6, .inr (.inr (.inr (.inr Lq_0)))))] (fun (v : Option Value) (u : (Bool) × (Nat) × (Nat) × (Nat) × (Int32) × (Int32) × (Int32) × (Int32) × (Int32) × (Int32) × (Int32) × (Nat → Int32) × (Nat → Int32) × (Nat) × (Int32) × (Int32) × (Int32) × (Int32) × (Int32) × (Int32) × (Int32) × (Int32) × (Nat → Int32) × (Nat → Option Nat)) => match u with | (true, na0x0, na0x1, na0x2, oo0x1, oo0x2, oo0x3, oo0x4, oo0x5, oo0x6, oo0x7, oo0x8, oo0x9, nn0x7, oo1x1, oo1x2, oo1x3, oo1x4, oo1x5, oo1x6, oo1x7, oo1x8, oo1x9, oo1x10) => ∃ r : Int32, v = some (.int r) ∧ (RrC (cB Tf_1 Tv_0) Gv_0 oo0x1 Tv_0 0 r) ∧ (0 ≤ (0 : Int32).toInt ∧ (0 : Int32).toInt ≤ 400 ∧ 0 ≤ (oo0x2 : Int32).toInt ∧ (oo0x2 : Int32).toInt ≤ 400 ∧ 0 ≤ (oo0x3 : Int32).toInt ∧ (oo0x3 : Int32).toInt ≤ 400) ∧ ((oo0x1 : Int32).toInt = Gv_0.toInt + 1 ∧ 0 ≤ Gv_0.toInt ∧ Gv_0.toInt < 6 ∧ nn0x7 ≤ 400) ∧ (RuC (cB Tf_1 Tv_0) nn0x7 oo0x9) | (false, na0x0, na0x1, na0x2, oo0x1, oo0x2, oo0x3, oo0x4, oo0x5, oo0x6, oo0x7, oo0x8, oo0x9, nn0x7, oo1x1, oo1x2, oo1x3, oo1x4, oo1x5, oo1x6, oo1x7, oo1x8, oo1x9, oo1x10) => ∃ r : Int32, v = some (.int r) ∧ (RrC (cB Tf_1 Tv_0) Gv_0 oo1x1 Tv_0 oo1x2 r) ∧ (0 ≤ (oo1x2 : Int32).toInt ∧ (oo1x2 : Int32).toInt ≤ 400 ∧ 0 ≤ (oo1x3 : Int32).toInt ∧ (oo1x3 : Int32).toInt ≤ 400 ∧ 0 ≤ (oo1x4 : Int32).toInt ∧ (oo1x4 : Int32).toInt ≤ 400) ∧ (SameR oo1x1 Gv_0 oo1x10 Lq_0)) (fun (u : (Bool) × (Nat) × (Nat) × (Nat) × (Int32) × (Int32) × (Int32) × (Int32) × (Int32) × (Int32) × (Int32) × (Nat → Int32) × (Nat → Int32) × (Nat) × (Int32) × (Int32) × (Int32) × (Int32) × (Int32) × (Int32) × (Int32) × (Int32) × (Nat → Int32) × (Nat → Option Nat)) => match u with | (true, na0x0, na0x1, na0x2, oo0x1, oo0x2, oo0x3, oo0x4, oo0x5, oo0x6, oo0x7, oo0x8, oo0x9, nn0x7, oo1x1, oo1x2, oo1x3, oo1x4, oo1x5, oo1x6, oo1x7, oo1x8, oo1x9, oo1x10) => [(Ga_0, .inr (11, [.ref Ta_0, .ref Ga_2, .ref Va_0, .ref La_0, .int oo0x1, .ref Ga_5, .ref Ga_6, .ref Ga_7, .ref Ga_8, .ref Ga_9, .ref Ga_10, .ref Ga_11])), (Ta_0, .inr (10, [.ref Ta_1, .int 0, .int oo0x2, .int oo0x3, .int oo0x4, .int oo0x5])), (Ta_1, .inl (tc 0, 400, .inl Tf_1)), (Va_0, .inr (7, [.ref Va_1, .int oo0x6, .int oo0x7])), (Va_1, .inl (tc 0, 400, .inl oo0x8)), (La_0, .inl (tc 4, 6, .inr (.inr (.inr (.inr (va_up Lq_0 (Gv_0 : Int32).toNatClampNeg (some na0x0))))))), (na0x0, .inr (6, [.ref na0x1, .ref na0x2])), (na0x1, .inl (tc 0, nn0x7, .inl oo0x9)), (na0x2, .inl (tc 1, 64, .inr (.inl (fun _ => 0))))] | (false, na0x0, na0x1, na0x2, oo0x1, oo0x2, oo0x3, oo0x4, oo0x5, oo0x6, oo0x7, oo0x8, oo0x9, nn0x7, oo1x1, oo1x2, oo1x3, oo1x4, oo1x5, oo1x6, oo1x7, oo1x8, oo1x9, oo1x10) => [(Ga_0, .inr (11, [.ref Ta_0, .ref Ga_2, .ref Va_0, .ref La_0, .int oo1x1, .ref Ga_5, .ref Ga_6, .ref Ga_7, .ref Ga_8, .ref Ga_9, .ref Ga_10, .ref Ga_11])), (Ta_0, .inr (10, [.ref Ta_1, .int oo1x2, .int oo1x3, .int oo1x4, .int oo1x5, .int oo1x6])), (Ta_1, .inl (tc 0, 400, .inl Tf_1)), (Va_0, .inr (7, [.ref Va_1, .int oo1x7, .int oo1x8])), (Va_1, .inl (tc 0, 400, .inl oo1x9)), (La_0, .inl (tc 4, 6, .inr (.inr (.inr (.inr oo1x10)))))]) 3 466 :=
  ct_hX11_rule l D tc sk (fun k => ([Ga_0, 0, Ga_2, 0, 0, Ga_5, Ga_6, Ga_7, Ga_8, Ga_9, Ga_10, Ga_11] : List (Nat)).getD k 0) (fun k => ([Gv_0] : List (Int32)).getD k 0) (fun k => ([Ta_0, Ta_1] : List (Nat)).getD k 0) (fun k => ([Tv_0, Tv_1, Tv_2, Tv_3, Tv_4] : List (Int32)).getD k 0) (fun k => ([(fun _ => 0), Tf_1] : List (Nat → Int32)).getD k (fun _ => 0)) (fun k => ([Va_0, Va_1] : List (Nat)).getD k 0) (fun k => ([Vv_0, Vv_1] : List (Int32)).getD k 0) (fun k => ([(fun _ => 0), Vf_1] : List (Nat → Int32)).getD k (fun _ => 0)) (fun k => ([La_0] : List (Nat)).getD k 0) (fun k => ([Lq_0] : List (Nat → Option Nat)).getD k (fun _ => none)) h_tape h_by h_rc
