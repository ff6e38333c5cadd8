/-- the count of rules and their places as they were -/
def SameR (a b : Int32) (f g : Nat → Option Nat) : Prop := a = b ∧ f = g
set_option maxHeartbeats 4000000 in
set_option maxRecDepth 100000 in
theorem ct_X11_rule2 (l : Launch) (D : va_G) (tc : Nat → ClassId) (sk : (Nat → Nat) × (Nat → Nat)) (Ga : Nat → Nat) (Gv : Nat → Int32) (Ta : Nat → Nat) (Tv : Nat → Int32) (Tf : Nat → Nat → Int32) (Va : Nat → Nat) (Vv : Nat → Int32) (Vf : Nat → Nat → Int32) (La : Nat → Nat) (Lq : Nat → Nat → Option Nat) (h_tape : 0 ≤ ((Tv 0) : Int32).toInt ∧ ((Tv 0) : Int32).toInt ≤ 400 ∧ 0 ≤ ((Tv 1) : Int32).toInt ∧ ((Tv 1) : Int32).toInt ≤ 400 ∧ 0 ≤ ((Tv 2) : Int32).toInt ∧ ((Tv 2) : Int32).toInt ≤ 400) : Ct l yX11_rule cX11_rule 2 (some .int) { frames := 31, cells := 3, slots := 466, locals := 741 } D tc sk [.ref (Ga 0)] [((Ga 0), .inr (11, [.ref (Ta 0), .ref (Ga 2), .ref (Va 0), .ref (La 0), .int (Gv 0), .ref (Ga 5), .ref (Ga 6), .ref (Ga 7), .ref (Ga 8), .ref (Ga 9), .ref (Ga 10), .ref (Ga 11)])), ((Ta 0), .inr (10, [.ref (Ta 1), .int (Tv 0), .int (Tv 1), .int (Tv 2), .int (Tv 3), .int (Tv 4)])), ((Ta 1), .inl (tc 0, 400, .inl (Tf 1))), ((Va 0), .inr (7, [.ref (Va 1), .int (Vv 0), .int (Vv 1)])), ((Va 1), .inl (tc 0, 400, .inl (Vf 1))), ((La 0), .inl (tc 4, 6, .inr (.inr (.inr (.inr (Lq 0))))))] (fun (v : Option Value) (u : (Bool) × (Nat) × (Nat) × (Nat) × (Int32) × (Int32) × (Int32) × (Int32) × (Int32) × (Int32) × (Int32) × (Nat → Int32) × (Nat → Int32) × (Nat) × (Int32) × (Int32) × (Int32) × (Int32) × (Int32) × (Int32) × (Int32) × (Int32) × (Nat → Int32) × (Nat → Option Nat)) => match u with | (true, na0x0, na0x1, na0x2, oo0x1, oo0x2, oo0x3, oo0x4, oo0x5, oo0x6, oo0x7, oo0x8, oo0x9, nn0x7, oo1x1, oo1x2, oo1x3, oo1x4, oo1x5, oo1x6, oo1x7, oo1x8, oo1x9, oo1x10) => ∃ r : Int32, v = some (.int r) ∧ (True) ∧ (0 ≤ (0 : Int32).toInt ∧ (0 : Int32).toInt ≤ 400 ∧ 0 ≤ (oo0x2 : Int32).toInt ∧ (oo0x2 : Int32).toInt ≤ 400 ∧ 0 ≤ (oo0x3 : Int32).toInt ∧ (oo0x3 : Int32).toInt ≤ 400) ∧ ((oo0x1 : Int32).toInt = (Gv 0).toInt + 1 ∧ 0 ≤ (Gv 0).toInt ∧ (Gv 0).toInt < 6 ∧ nn0x7 ≤ 400) | (false, na0x0, na0x1, na0x2, oo0x1, oo0x2, oo0x3, oo0x4, oo0x5, oo0x6, oo0x7, oo0x8, oo0x9, nn0x7, oo1x1, oo1x2, oo1x3, oo1x4, oo1x5, oo1x6, oo1x7, oo1x8, oo1x9, oo1x10) => ∃ r : Int32, v = some (.int r) ∧ (True) ∧ (0 ≤ (oo1x2 : Int32).toInt ∧ (oo1x2 : Int32).toInt ≤ 400 ∧ 0 ≤ (oo1x3 : Int32).toInt ∧ (oo1x3 : Int32).toInt ≤ 400 ∧ 0 ≤ (oo1x4 : Int32).toInt ∧ (oo1x4 : Int32).toInt ≤ 400) ∧ (SameR oo1x1 (Gv 0) oo1x10 (Lq 0))) (fun (u : (Bool) × (Nat) × (Nat) × (Nat) × (Int32) × (Int32) × (Int32) × (Int32) × (Int32) × (Int32) × (Int32) × (Nat → Int32) × (Nat → Int32) × (Nat) × (Int32) × (Int32) × (Int32) × (Int32) × (Int32) × (Int32) × (Int32) × (Int32) × (Nat → Int32) × (Nat → Option Nat)) => match u with | (true, na0x0, na0x1, na0x2, oo0x1, oo0x2, oo0x3, oo0x4, oo0x5, oo0x6, oo0x7, oo0x8, oo0x9, nn0x7, oo1x1, oo1x2, oo1x3, oo1x4, oo1x5, oo1x6, oo1x7, oo1x8, oo1x9, oo1x10) => [((Ga 0), .inr (11, [.ref (Ta 0), .ref (Ga 2), .ref (Va 0), .ref (La 0), .int oo0x1, .ref (Ga 5), .ref (Ga 6), .ref (Ga 7), .ref (Ga 8), .ref (Ga 9), .ref (Ga 10), .ref (Ga 11)])), ((Ta 0), .inr (10, [.ref (Ta 1), .int 0, .int oo0x2, .int oo0x3, .int oo0x4, .int oo0x5])), ((Ta 1), .inl (tc 0, 400, .inl (Tf 1))), ((Va 0), .inr (7, [.ref (Va 1), .int oo0x6, .int oo0x7])), ((Va 1), .inl (tc 0, 400, .inl oo0x8)), ((La 0), .inl (tc 4, 6, .inr (.inr (.inr (.inr (va_up (Lq 0) ((Gv 0) : Int32).toNatClampNeg (some na0x0))))))), (na0x0, .inr (6, [.ref na0x1, .ref na0x2])), (na0x1, .inl (tc 0, nn0x7, .inl oo0x9)), (na0x2, .inl (tc 1, 64, .inr (.inl (fun _ => 0))))] | (false, na0x0, na0x1, na0x2, oo0x1, oo0x2, oo0x3, oo0x4, oo0x5, oo0x6, oo0x7, oo0x8, oo0x9, nn0x7, oo1x1, oo1x2, oo1x3, oo1x4, oo1x5, oo1x6, oo1x7, oo1x8, oo1x9, oo1x10) => [((Ga 0), .inr (11, [.ref (Ta 0), .ref (Ga 2), .ref (Va 0), .ref (La 0), .int oo1x1, .ref (Ga 5), .ref (Ga 6), .ref (Ga 7), .ref (Ga 8), .ref (Ga 9), .ref (Ga 10), .ref (Ga 11)])), ((Ta 0), .inr (10, [.ref (Ta 1), .int oo1x2, .int oo1x3, .int oo1x4, .int oo1x5, .int oo1x6])), ((Ta 1), .inl (tc 0, 400, .inl (Tf 1))), ((Va 0), .inr (7, [.ref (Va 1), .int oo1x7, .int oo1x8])), ((Va 1), .inl (tc 0, 400, .inl oo1x9)), ((La 0), .inl (tc 4, 6, .inr (.inr (.inr (.inr oo1x10)))))]) 3 466 := by
  refine Ct.start (by decide) (Nat.le_of_ble_eq_true rfl) (fun p e s m below meth c A ls hx hb hr hlk hin hml hown hts hK hX hP hD hA hl hS => ?_)
  have hl : lv_has ls 2 [(0, .ref (Ga 0))] := hl
  refine lv_aload_n hx hb dX11_rule_0 rfl (lv_at hl 0 rfl) ?_
  refine gf_X11_36 hx hb hts hown hK hP 0 rfl rfl dX11_rule_1 ?_
  refine lv_if_lt (tgt := 19) hx hb dX11_rule_4 (by decide) (fun c_1 => ?_) (fun c_1 => ?_)
  · skip
    refine lv_iconst (v := (-1)) hx hb dX11_rule_19 (by decide) ?_
    exact retI (v := (-1)) hx hb hr hlk (rfl) hP hD hS (false, 0, 0, 0, 0, 0, 0, 0, 0, 0, 0, (fun _ => 0), (fun _ => 0), 0, (Gv 0), (Tv 0), (Tv 1), (Tv 2), (Tv 3), (Tv 4), (Vv 0), (Vv 1), (Vf 1), (Lq 0)) ⟨_, rfl, trivial, h_tape, ⟨rfl, rfl⟩⟩ [0, 1, 2, 3, 4, 5] rfl rfl dX11_rule_20 (Nat.le_of_ble_eq_true rfl) (Nat.le_of_ble_eq_true rfl) rfl
  · skip
    refine lv_aload_n hx hb dX11_rule_7 rfl (lv_at hl 0 rfl) ?_
    refine gf_X11_36 hx hb hts hown hK hP 0 rfl rfl dX11_rule_8 ?_
    refine lv_aload_n hx hb dX11_rule_11 rfl (lv_at hl 0 rfl) ?_
    refine gf_X11_32 hx hb hts hown hK hP 0 rfl rfl dX11_rule_12 ?_
    refine va_alen hx hb hK hP 5 4 rfl rfl (v := 6) rfl dX11_rule_15 ?_
    refine lv_icmp_lt (tgt := 21) hx hb dX11_rule_16 (by decide) (fun c_2 => ?_) (fun c_2 => ?_)
    · skip
      refine lv_aload_n hx hb dX11_rule_21 rfl (lv_at hl 0 rfl) ?_
      refine gf_X11_26 hx hb hts hown hK hP 0 rfl rfl dX11_rule_22 ?_
      refine lv_aload_n hx hb dX11_rule_25 rfl (lv_at hl 0 rfl) ?_
      refine gf_X11_10 hx hb hts hown hK hP 0 rfl rfl dX11_rule_26 ?_
      refine cV (a := (Va 0)) (As := [.ref (Ta 0)]) (rest := []) (wr := [((Ga 0), .inr (11, [.ref (Ta 0), .ref (Ga 2), .ref (Va 0), .ref (La 0), .int (Gv 0), .ref (Ga 5), .ref (Ga 6), .ref (Ga 7), .ref (Ga 8), .ref (Ga 9), .ref (Ga 10), .ref (Ga 11)])), ((La 0), .inl (tc 4, 6, .inr (.inr (.inr (.inr (Lq 0))))))]) ⟨hx, hb, hml, hown, hts⟩ hK hX hA (cu_X7_read_b l D tc sk (Va 0) (Va 1) (Vv 0) (Vv 1) (Vf 1) (Ta 0) (Ta 1) (Tv 0) (Tv 1) (Tv 2) (Tv 3) (Tv 4) (Tf 1) h_tape) k_611 k_608 k_609 k_610 k_99 pl_X7_read ⟨Nat.le_of_ble_eq_true rfl, Nat.le_of_ble_eq_true rfl⟩ rfl rfl (va_recv hK hP (ci := 7) (q0 := 3) rfl rfl) hP hD hS [3, 4, 1, 2] [0, 5] rfl rfl rfl rfl rfl (by decide) rfl hl.1 rfl (Nat.le_of_ble_eq_true rfl) dX11_rule_29 ⟨Nat.le_of_ble_eq_true rfl, Nat.le_of_ble_eq_true rfl⟩ (fun v_3 u_4 H locs hv_5 hP' hD' hS' => ?_)
      obtain ⟨sv_6, sv_7, sv_8, sv_9, sv_10, sv_11, sv_12, sv_13, sv_14, sv_15, sv_16, sv_17, sv_18, sv_19, sv_20, sv_21, sv_22, sv_23, sv_24, sv_25⟩ := u_4
      cases sv_6
      · skip
        obtain ⟨rfl, pf_26⟩ := hv_5
        have pf_26 : 0 ≤ ((Tv 0) : Int32).toInt ∧ ((Tv 0) : Int32).toInt ≤ 400 ∧ 0 ≤ (sv_22 : Int32).toInt ∧ (sv_22 : Int32).toInt ≤ 400 ∧ 0 ≤ (sv_23 : Int32).toInt ∧ (sv_23 : Int32).toInt ≤ 400 := pf_26
        refine W.eq (g2 := F0 m 32 ls [.null]) rfl ?_
        replace hP : va_P D classes [((Ga 0), .inr (11, [.ref (Ta 0), .ref (Ga 2), .ref (Va 0), .ref (La 0), .int (Gv 0), .ref (Ga 5), .ref (Ga 6), .ref (Ga 7), .ref (Ga 8), .ref (Ga 9), .ref (Ga 10), .ref (Ga 11)])), ((La 0), .inl (tc 4, 6, .inr (.inr (.inr (.inr (Lq 0)))))), ((Va 0), .inr (7, [.ref (Va 1), .int sv_19, .int sv_20])), ((Va 1), .inl (tc 0, 400, .inl sv_21)), ((Ta 0), .inr (10, [.ref (Ta 1), .int (Tv 0), .int sv_22, .int sv_23, .int sv_24, .int sv_25])), ((Ta 1), .inl (tc 0, 400, .inl (Tf 1)))] H := hP'
        replace hD : va_D A [((Ga 0), .inr (11, [.ref (Ta 0), .ref (Ga 2), .ref (Va 0), .ref (La 0), .int (Gv 0), .ref (Ga 5), .ref (Ga 6), .ref (Ga 7), .ref (Ga 8), .ref (Ga 9), .ref (Ga 10), .ref (Ga 11)])), ((La 0), .inl (tc 4, 6, .inr (.inr (.inr (.inr (Lq 0)))))), ((Va 0), .inr (7, [.ref (Va 1), .int sv_19, .int sv_20])), ((Va 1), .inl (tc 0, 400, .inl sv_21)), ((Ta 0), .inr (10, [.ref (Ta 1), .int (Tv 0), .int sv_22, .int sv_23, .int sv_24, .int sv_25])), ((Ta 1), .inl (tc 0, 400, .inl (Tf 1)))] := hD'
        replace hS := hS'
        clear hP' hD' hS'
        refine lv_astore_nN (lv' := [(1, .null), (0, .ref (Ga 0))]) hx hb dX11_rule_32 rfl hl (by decide) rfl (fun ls hl' => ?_)
        replace hl := hl'
        clear hl'
        refine lv_aload_n hx hb dX11_rule_33 rfl (lv_at hl 1 rfl) ?_
        refine gf_X11_10 hx hb hts hown hK hP 0 rfl rfl dX11_rule_34 ?_
        refine lv_iconst (v := 0) hx hb dX11_rule_37 (by decide) ?_
        refine pf_X11_94 hx hb hts hown hK hP hD hS 4 rfl (Nat.le_of_ble_eq_true rfl) rfl rfl dX11_rule_38 (fun H locs hP' hD' hS' => ?_)
        replace hP : va_P D classes [((Ga 0), .inr (11, [.ref (Ta 0), .ref (Ga 2), .ref (Va 0), .ref (La 0), .int (Gv 0), .ref (Ga 5), .ref (Ga 6), .ref (Ga 7), .ref (Ga 8), .ref (Ga 9), .ref (Ga 10), .ref (Ga 11)])), ((La 0), .inl (tc 4, 6, .inr (.inr (.inr (.inr (Lq 0)))))), ((Va 0), .inr (7, [.ref (Va 1), .int sv_19, .int sv_20])), ((Va 1), .inl (tc 0, 400, .inl sv_21)), ((Ta 0), .inr (10, [.ref (Ta 1), .int 0, .int sv_22, .int sv_23, .int sv_24, .int sv_25])), ((Ta 1), .inl (tc 0, 400, .inl (Tf 1)))] H := hP'
        replace hD : va_D A [((Ga 0), .inr (11, [.ref (Ta 0), .ref (Ga 2), .ref (Va 0), .ref (La 0), .int (Gv 0), .ref (Ga 5), .ref (Ga 6), .ref (Ga 7), .ref (Ga 8), .ref (Ga 9), .ref (Ga 10), .ref (Ga 11)])), ((La 0), .inl (tc 4, 6, .inr (.inr (.inr (.inr (Lq 0)))))), ((Va 0), .inr (7, [.ref (Va 1), .int sv_19, .int sv_20])), ((Va 1), .inl (tc 0, 400, .inl sv_21)), ((Ta 0), .inr (10, [.ref (Ta 1), .int 0, .int sv_22, .int sv_23, .int sv_24, .int sv_25])), ((Ta 1), .inl (tc 0, 400, .inl (Tf 1)))] := hD'
        replace hS := hS'
        clear hP' hD' hS'
        refine lv_aload_nN hx hb dX11_rule_41 rfl (lv_at hl 0 rfl) ?_
        refine lv_ifnonnullN hx hb dX11_rule_42 ?_
        refine lv_bipush (v := (-2)) hx hb dX11_rule_45 (by decide) ?_
        refine lv_aload_n hx hb dX11_rule_47 rfl (lv_at hl 1 rfl) ?_
        refine gf_X11_10 hx hb hts hown hK hP 0 rfl rfl dX11_rule_48 ?_
        refine gf_X11_127 hx hb hts hown hK hP 4 rfl rfl dX11_rule_51 ?_
        refine lv_isub hx hb dX11_rule_54 ?_
        refine lv_topi (fun x_27 ex_27 => ?_)
        have ha_28 : 0 ≤ (0 : Int32).toInt ∧ (0 : Int32).toInt ≤ 400 ∧ 0 ≤ (sv_22 : Int32).toInt ∧ (sv_22 : Int32).toInt ≤ 400 ∧ 0 ≤ (sv_23 : Int32).toInt ∧ (sv_23 : Int32).toInt ≤ 400 := by
          have z_1 := Int32.le_iff_toInt_le.mp (Int32.not_lt.mp c_1)
          have z_2 := Int32.lt_iff_toInt_lt.mp c_2
          have y_0 : (0 : Int32).toInt = 0 := by decide
          have y_6 : (6 : Int32).toInt = 6 := by decide
          omega
        exact retI (v := x_27) hx hb hr hlk (rfl) hP hD hS (false, 0, 0, 0, 0, 0, 0, 0, 0, 0, 0, (fun _ => 0), (fun _ => 0), 0, (Gv 0), 0, sv_22, sv_23, sv_24, sv_25, sv_19, sv_20, sv_21, (Lq 0)) ⟨_, rfl, trivial, ha_28, ⟨rfl, rfl⟩⟩ [0, 4, 5, 2, 3, 1] rfl rfl dX11_rule_55 (Nat.le_of_ble_eq_true rfl) (Nat.le_of_ble_eq_true rfl) rfl
      · skip
        obtain ⟨rfl, pf_29, pf_30⟩ := hv_5
        have pf_29 : 0 ≤ ((Tv 0) : Int32).toInt ∧ ((Tv 0) : Int32).toInt ≤ 400 ∧ 0 ≤ (sv_13 : Int32).toInt ∧ (sv_13 : Int32).toInt ≤ 400 ∧ 0 ≤ (sv_14 : Int32).toInt ∧ (sv_14 : Int32).toInt ≤ 400 := pf_29
        have pf_30 : sv_18 ≤ 400 := pf_30
        refine W.eq (g2 := F0 m 32 ls [.ref sv_7]) rfl ?_
        replace hP : va_P D classes [((Ga 0), .inr (11, [.ref (Ta 0), .ref (Ga 2), .ref (Va 0), .ref (La 0), .int (Gv 0), .ref (Ga 5), .ref (Ga 6), .ref (Ga 7), .ref (Ga 8), .ref (Ga 9), .ref (Ga 10), .ref (Ga 11)])), ((La 0), .inl (tc 4, 6, .inr (.inr (.inr (.inr (Lq 0)))))), ((Va 0), .inr (7, [.ref (Va 1), .int sv_10, .int sv_11])), ((Va 1), .inl (tc 0, 400, .inl sv_12)), ((Ta 0), .inr (10, [.ref (Ta 1), .int (Tv 0), .int sv_13, .int sv_14, .int sv_15, .int sv_16])), ((Ta 1), .inl (tc 0, 400, .inl (Tf 1))), (sv_7, .inr (6, [.ref sv_8, .ref sv_9])), (sv_8, .inl (tc 0, sv_18, .inl sv_17)), (sv_9, .inl (tc 1, 64, .inr (.inl (fun _ => 0))))] H := hP'
        replace hD : va_D A [((Ga 0), .inr (11, [.ref (Ta 0), .ref (Ga 2), .ref (Va 0), .ref (La 0), .int (Gv 0), .ref (Ga 5), .ref (Ga 6), .ref (Ga 7), .ref (Ga 8), .ref (Ga 9), .ref (Ga 10), .ref (Ga 11)])), ((La 0), .inl (tc 4, 6, .inr (.inr (.inr (.inr (Lq 0)))))), ((Va 0), .inr (7, [.ref (Va 1), .int sv_10, .int sv_11])), ((Va 1), .inl (tc 0, 400, .inl sv_12)), ((Ta 0), .inr (10, [.ref (Ta 1), .int (Tv 0), .int sv_13, .int sv_14, .int sv_15, .int sv_16])), ((Ta 1), .inl (tc 0, 400, .inl (Tf 1))), (sv_7, .inr (6, [.ref sv_8, .ref sv_9])), (sv_8, .inl (tc 0, sv_18, .inl sv_17)), (sv_9, .inl (tc 1, 64, .inr (.inl (fun _ => 0))))] := hD'
        replace hS := hS'
        clear hP' hD' hS'
        refine lv_astore_n (lv' := [(1, .ref sv_7), (0, .ref (Ga 0))]) hx hb dX11_rule_32 rfl hl (by decide) rfl (fun ls hl' => ?_)
        replace hl := hl'
        clear hl'
        refine lv_aload_n hx hb dX11_rule_33 rfl (lv_at hl 1 rfl) ?_
        refine gf_X11_10 hx hb hts hown hK hP 0 rfl rfl dX11_rule_34 ?_
        refine lv_iconst (v := 0) hx hb dX11_rule_37 (by decide) ?_
        refine pf_X11_94 hx hb hts hown hK hP hD hS 4 rfl (Nat.le_of_ble_eq_true rfl) rfl rfl dX11_rule_38 (fun H locs hP' hD' hS' => ?_)
        replace hP : va_P D classes [((Ga 0), .inr (11, [.ref (Ta 0), .ref (Ga 2), .ref (Va 0), .ref (La 0), .int (Gv 0), .ref (Ga 5), .ref (Ga 6), .ref (Ga 7), .ref (Ga 8), .ref (Ga 9), .ref (Ga 10), .ref (Ga 11)])), ((La 0), .inl (tc 4, 6, .inr (.inr (.inr (.inr (Lq 0)))))), ((Va 0), .inr (7, [.ref (Va 1), .int sv_10, .int sv_11])), ((Va 1), .inl (tc 0, 400, .inl sv_12)), ((Ta 0), .inr (10, [.ref (Ta 1), .int 0, .int sv_13, .int sv_14, .int sv_15, .int sv_16])), ((Ta 1), .inl (tc 0, 400, .inl (Tf 1))), (sv_7, .inr (6, [.ref sv_8, .ref sv_9])), (sv_8, .inl (tc 0, sv_18, .inl sv_17)), (sv_9, .inl (tc 1, 64, .inr (.inl (fun _ => 0))))] H := hP'
        replace hD : va_D A [((Ga 0), .inr (11, [.ref (Ta 0), .ref (Ga 2), .ref (Va 0), .ref (La 0), .int (Gv 0), .ref (Ga 5), .ref (Ga 6), .ref (Ga 7), .ref (Ga 8), .ref (Ga 9), .ref (Ga 10), .ref (Ga 11)])), ((La 0), .inl (tc 4, 6, .inr (.inr (.inr (.inr (Lq 0)))))), ((Va 0), .inr (7, [.ref (Va 1), .int sv_10, .int sv_11])), ((Va 1), .inl (tc 0, 400, .inl sv_12)), ((Ta 0), .inr (10, [.ref (Ta 1), .int 0, .int sv_13, .int sv_14, .int sv_15, .int sv_16])), ((Ta 1), .inl (tc 0, 400, .inl (Tf 1))), (sv_7, .inr (6, [.ref sv_8, .ref sv_9])), (sv_8, .inl (tc 0, sv_18, .inl sv_17)), (sv_9, .inl (tc 1, 64, .inr (.inl (fun _ => 0))))] := hD'
        replace hS := hS'
        clear hP' hD' hS'
        refine lv_aload_n hx hb dX11_rule_41 rfl (lv_at hl 0 rfl) ?_
        refine lv_ifnonnull (tgt := 56) hx hb dX11_rule_42 (by decide) ?_
        refine lv_aload_n hx hb dX11_rule_56 rfl (lv_at hl 1 rfl) ?_
        refine gf_X11_32 hx hb hts hown hK hP 0 rfl rfl dX11_rule_57 ?_
        refine lv_aload_n hx hb dX11_rule_60 rfl (lv_at hl 1 rfl) ?_
        refine gf_X11_36 hx hb hts hown hK hP 0 rfl rfl dX11_rule_61 ?_
        refine lv_aload_n hx hb dX11_rule_64 rfl (lv_at hl 0 rfl) ?_
        have hi_31 : vp_in (Gv 0) 6 := by
          have z_1 := Int32.le_iff_toInt_le.mp (Int32.not_lt.mp c_1)
          have z_2 := Int32.lt_iff_toInt_lt.mp c_2
          have y_0 : (0 : Int32).toInt = 0 := by decide
          have y_6 : (6 : Int32).toInt = 6 := by decide
          refine vp_in_iff.mpr ⟨?_, ?_⟩ <;> omega
        refine st_ref hx hb hK hP hD hS 1 4 6 6 (r := (RX6, TX6, 2)) rfl rfl rfl rfl hi_31 dX11_rule_65 (fun g_32 H locs eg_32 hP' hD' hS' => ?_)
        replace hP : va_P D classes [((Ga 0), .inr (11, [.ref (Ta 0), .ref (Ga 2), .ref (Va 0), .ref (La 0), .int (Gv 0), .ref (Ga 5), .ref (Ga 6), .ref (Ga 7), .ref (Ga 8), .ref (Ga 9), .ref (Ga 10), .ref (Ga 11)])), ((La 0), .inl (tc 4, 6, .inr (.inr (.inr (.inr g_32))))), ((Va 0), .inr (7, [.ref (Va 1), .int sv_10, .int sv_11])), ((Va 1), .inl (tc 0, 400, .inl sv_12)), ((Ta 0), .inr (10, [.ref (Ta 1), .int 0, .int sv_13, .int sv_14, .int sv_15, .int sv_16])), ((Ta 1), .inl (tc 0, 400, .inl (Tf 1))), (sv_7, .inr (6, [.ref sv_8, .ref sv_9])), (sv_8, .inl (tc 0, sv_18, .inl sv_17)), (sv_9, .inl (tc 1, 64, .inr (.inl (fun _ => 0))))] H := hP'
        replace hD : va_D A [((Ga 0), .inr (11, [.ref (Ta 0), .ref (Ga 2), .ref (Va 0), .ref (La 0), .int (Gv 0), .ref (Ga 5), .ref (Ga 6), .ref (Ga 7), .ref (Ga 8), .ref (Ga 9), .ref (Ga 10), .ref (Ga 11)])), ((La 0), .inl (tc 4, 6, .inr (.inr (.inr (.inr g_32))))), ((Va 0), .inr (7, [.ref (Va 1), .int sv_10, .int sv_11])), ((Va 1), .inl (tc 0, 400, .inl sv_12)), ((Ta 0), .inr (10, [.ref (Ta 1), .int 0, .int sv_13, .int sv_14, .int sv_15, .int sv_16])), ((Ta 1), .inl (tc 0, 400, .inl (Tf 1))), (sv_7, .inr (6, [.ref sv_8, .ref sv_9])), (sv_8, .inl (tc 0, sv_18, .inl sv_17)), (sv_9, .inl (tc 1, 64, .inr (.inl (fun _ => 0))))] := hD'
        replace hS := hS'
        clear hP' hD' hS'
        subst eg_32
        replace hP : va_P D classes [((Ga 0), .inr (11, [.ref (Ta 0), .ref (Ga 2), .ref (Va 0), .ref (La 0), .int (Gv 0), .ref (Ga 5), .ref (Ga 6), .ref (Ga 7), .ref (Ga 8), .ref (Ga 9), .ref (Ga 10), .ref (Ga 11)])), ((La 0), .inl (tc 4, 6, .inr (.inr (.inr (.inr (va_up (Lq 0) ((Gv 0) : Int32).toNatClampNeg (some sv_7))))))), ((Va 0), .inr (7, [.ref (Va 1), .int sv_10, .int sv_11])), ((Va 1), .inl (tc 0, 400, .inl sv_12)), ((Ta 0), .inr (10, [.ref (Ta 1), .int 0, .int sv_13, .int sv_14, .int sv_15, .int sv_16])), ((Ta 1), .inl (tc 0, 400, .inl (Tf 1))), (sv_7, .inr (6, [.ref sv_8, .ref sv_9])), (sv_8, .inl (tc 0, sv_18, .inl sv_17)), (sv_9, .inl (tc 1, 64, .inr (.inl (fun _ => 0))))] H := hP
        replace hD : va_D A [((Ga 0), .inr (11, [.ref (Ta 0), .ref (Ga 2), .ref (Va 0), .ref (La 0), .int (Gv 0), .ref (Ga 5), .ref (Ga 6), .ref (Ga 7), .ref (Ga 8), .ref (Ga 9), .ref (Ga 10), .ref (Ga 11)])), ((La 0), .inl (tc 4, 6, .inr (.inr (.inr (.inr (va_up (Lq 0) ((Gv 0) : Int32).toNatClampNeg (some sv_7))))))), ((Va 0), .inr (7, [.ref (Va 1), .int sv_10, .int sv_11])), ((Va 1), .inl (tc 0, 400, .inl sv_12)), ((Ta 0), .inr (10, [.ref (Ta 1), .int 0, .int sv_13, .int sv_14, .int sv_15, .int sv_16])), ((Ta 1), .inl (tc 0, 400, .inl (Tf 1))), (sv_7, .inr (6, [.ref sv_8, .ref sv_9])), (sv_8, .inl (tc 0, sv_18, .inl sv_17)), (sv_9, .inl (tc 1, 64, .inr (.inl (fun _ => 0))))] := hD
        refine lv_aload_n hx hb dX11_rule_66 rfl (lv_at hl 1 rfl) ?_
        refine lv_dup hx hb dX11_rule_67 rfl ?_
        refine gf_X11_36 hx hb hts hown hK hP 0 rfl rfl dX11_rule_68 ?_
        refine lv_iconst (v := 1) hx hb dX11_rule_71 (by decide) ?_
        refine lv_iadd hx hb dX11_rule_72 ?_
        refine lv_topi (fun x_33 ex_33 => ?_)
        refine pf_X11_36 hx hb hts hown hK hP hD hS 0 rfl (Nat.le_of_ble_eq_true rfl) rfl rfl dX11_rule_73 (fun H locs hP' hD' hS' => ?_)
        replace hP : va_P D classes [((Ga 0), .inr (11, [.ref (Ta 0), .ref (Ga 2), .ref (Va 0), .ref (La 0), .int x_33, .ref (Ga 5), .ref (Ga 6), .ref (Ga 7), .ref (Ga 8), .ref (Ga 9), .ref (Ga 10), .ref (Ga 11)])), ((La 0), .inl (tc 4, 6, .inr (.inr (.inr (.inr (va_up (Lq 0) ((Gv 0) : Int32).toNatClampNeg (some sv_7))))))), ((Va 0), .inr (7, [.ref (Va 1), .int sv_10, .int sv_11])), ((Va 1), .inl (tc 0, 400, .inl sv_12)), ((Ta 0), .inr (10, [.ref (Ta 1), .int 0, .int sv_13, .int sv_14, .int sv_15, .int sv_16])), ((Ta 1), .inl (tc 0, 400, .inl (Tf 1))), (sv_7, .inr (6, [.ref sv_8, .ref sv_9])), (sv_8, .inl (tc 0, sv_18, .inl sv_17)), (sv_9, .inl (tc 1, 64, .inr (.inl (fun _ => 0))))] H := hP'
        replace hD : va_D A [((Ga 0), .inr (11, [.ref (Ta 0), .ref (Ga 2), .ref (Va 0), .ref (La 0), .int x_33, .ref (Ga 5), .ref (Ga 6), .ref (Ga 7), .ref (Ga 8), .ref (Ga 9), .ref (Ga 10), .ref (Ga 11)])), ((La 0), .inl (tc 4, 6, .inr (.inr (.inr (.inr (va_up (Lq 0) ((Gv 0) : Int32).toNatClampNeg (some sv_7))))))), ((Va 0), .inr (7, [.ref (Va 1), .int sv_10, .int sv_11])), ((Va 1), .inl (tc 0, 400, .inl sv_12)), ((Ta 0), .inr (10, [.ref (Ta 1), .int 0, .int sv_13, .int sv_14, .int sv_15, .int sv_16])), ((Ta 1), .inl (tc 0, 400, .inl (Tf 1))), (sv_7, .inr (6, [.ref sv_8, .ref sv_9])), (sv_8, .inl (tc 0, sv_18, .inl sv_17)), (sv_9, .inl (tc 1, 64, .inr (.inl (fun _ => 0))))] := hD'
        replace hS := hS'
        clear hP' hD' hS'
        refine lv_aload_n hx hb dX11_rule_76 rfl (lv_at hl 1 rfl) ?_
        refine gf_X11_36 hx hb hts hown hK hP 0 rfl rfl dX11_rule_77 ?_
        refine lv_iconst (v := 1) hx hb dX11_rule_80 (by decide) ?_
        refine lv_isub hx hb dX11_rule_81 ?_
        refine lv_topi (fun x_34 ex_34 => ?_)
        have ha_35 : 0 ≤ (0 : Int32).toInt ∧ (0 : Int32).toInt ≤ 400 ∧ 0 ≤ (sv_13 : Int32).toInt ∧ (sv_13 : Int32).toInt ≤ 400 ∧ 0 ≤ (sv_14 : Int32).toInt ∧ (sv_14 : Int32).toInt ≤ 400 := by
          have z_1 := Int32.le_iff_toInt_le.mp (Int32.not_lt.mp c_1)
          have z_2 := Int32.lt_iff_toInt_lt.mp c_2
          have y_0 : (0 : Int32).toInt = 0 := by decide
          have y_6 : (6 : Int32).toInt = 6 := by decide
          omega
        have ha_36 : (x_33 : Int32).toInt = (Gv 0).toInt + 1 ∧ 0 ≤ (Gv 0).toInt ∧ (Gv 0).toInt < 6 ∧ sv_18 ≤ 400 := by
          have z_1 := Int32.le_iff_toInt_le.mp (Int32.not_lt.mp c_1)
          have z_2 := Int32.lt_iff_toInt_lt.mp c_2
          have y_0 : (0 : Int32).toInt = 0 := by decide
          have y_6 : (6 : Int32).toInt = 6 := by decide
          have y_1 : (1 : Int32).toInt = 1 := by decide
          have t_x_33 : x_33.toInt = ((Gv 0) : Int32).toInt + (1 : Int32).toInt := by rw [ex_33]; exact add_toInt (by omega) (by omega)
          omega
        exact retI (v := x_34) hx hb hr hlk (rfl) hP hD hS (true, sv_7, sv_8, sv_9, x_33, sv_13, sv_14, sv_15, sv_16, sv_10, sv_11, sv_12, sv_17, sv_18, 0, 0, 0, 0, 0, 0, 0, 0, (fun _ => 0), (fun _ => none)) ⟨_, rfl, trivial, ha_35, ha_36⟩ [0, 4, 5, 2, 3, 1, 6, 7, 8] rfl rfl dX11_rule_82 (Nat.le_of_ble_eq_true rfl) (Nat.le_of_ble_eq_true rfl) rfl
    · skip
      refine lv_iconst (v := (-1)) hx hb dX11_rule_19 (by decide) ?_
      exact retI (v := (-1)) hx hb hr hlk (rfl) hP hD hS (false, 0, 0, 0, 0, 0, 0, 0, 0, 0, 0, (fun _ => 0), (fun _ => 0), 0, (Gv 0), (Tv 0), (Tv 1), (Tv 2), (Tv 3), (Tv 4), (Vv 0), (Vv 1), (Vf 1), (Lq 0)) ⟨_, rfl, trivial, h_tape, ⟨rfl, rfl⟩⟩ [0, 1, 2, 3, 4, 5] rfl rfl dX11_rule_20 (Nat.le_of_ble_eq_true rfl) (Nat.le_of_ble_eq_true rfl) rfl
set_option maxRecDepth 100000 in
theorem cu_X11_rule2 (l : Launch) (D : va_G) (tc : Nat → ClassId) (sk : (Nat → Nat) × (Nat → Nat)) (Ga_0 : Nat) (Ga_2 : Nat) (Ga_5 : Nat) (Ga_6 : Nat) (Ga_7 : Nat) (Ga_8 : Nat) (Ga_9 : Nat) (Ga_10 : Nat) (Ga_11 : Nat) (Gv_0 : Int32) (Ta_0 : Nat) (Ta_1 : Nat) (Tv_0 : Int32) (Tv_1 : Int32) (Tv_2 : Int32) (Tv_3 : Int32) (Tv_4 : Int32) (Tf_1 : Nat → Int32) (Va_0 : Nat) (Va_1 : Nat) (Vv_0 : Int32) (Vv_1 : Int32) (Vf_1 : Nat → Int32) (La_0 : Nat) (Lq_0 : Nat → Option Nat) (h_tape : 0 ≤ (Tv_0 : Int32).toInt ∧ (Tv_0 : Int32).toInt ≤ 400 ∧ 0 ≤ (Tv_1 : Int32).toInt ∧ (Tv_1 : Int32).toInt ≤ 400 ∧ 0 ≤ (Tv_2 : Int32).toInt ∧ (Tv_2 : Int32).toInt ≤ 400) : Ct l yX11_rule cX11_rule 2 (some .int) { frames := 31, cells := 3, slots := 466, locals := 741 } D tc sk [.ref Ga_0] [(Ga_0, .inr (11, [.ref Ta_0, .ref Ga_2, .ref Va_0, .ref La_0, .int Gv_0, .ref Ga_5, .ref Ga_6, .ref Ga_7, .ref Ga_8, .ref Ga_9, .ref Ga_10, .ref Ga_11])), (Ta_0, .inr (10, [.ref Ta_1, .int Tv_0, .int Tv_1, .int Tv_2, .int Tv_3, .int Tv_4])), (Ta_1, .inl (tc 0, 400, .inl Tf_1)), (Va_0, .inr (7, [.ref Va_1, .int Vv_0, .int Vv_1])), (Va_1, .inl (tc 0, 400, .inl Vf_1)), (La_0, .inl (tc 4, 6, .inr (.inr (.inr (.inr Lq_0)))))] (fun (v : Option Value) (u : (Bool) × (Nat) × (Nat) × (Nat) × (Int32) × (Int32) × (Int32) × (Int32) × (Int32) × (Int32) × (Int32) × (Nat → Int32) × (Nat → Int32) × (Nat) × (Int32) × (Int32) × (Int32) × (Int32) × (Int32) × (Int32) × (Int32) × (Int32) × (Nat → Int32) × (Nat → Option Nat)) => match u with | (true, na0x0, na0x1, na0x2, oo0x1, oo0x2, oo0x3, oo0x4, oo0x5, oo0x6, oo0x7, oo0x8, oo0x9, nn0x7, oo1x1, oo1x2, oo1x3, oo1x4, oo1x5, oo1x6, oo1x7, oo1x8, oo1x9, oo1x10) => ∃ r : Int32, v = some (.int r) ∧ (True) ∧ (0 ≤ (0 : Int32).toInt ∧ (0 : Int32).toInt ≤ 400 ∧ 0 ≤ (oo0x2 : Int32).toInt ∧ (oo0x2 : Int32).toInt ≤ 400 ∧ 0 ≤ (oo0x3 : Int32).toInt ∧ (oo0x3 : Int32).toInt ≤ 400) ∧ ((oo0x1 : Int32).toInt = Gv_0.toInt + 1 ∧ 0 ≤ Gv_0.toInt ∧ Gv_0.toInt < 6 ∧ nn0x7 ≤ 400) | (false, na0x0, na0x1, na0x2, oo0x1, oo0x2, oo0x3, oo0x4, oo0x5, oo0x6, oo0x7, oo0x8, oo0x9, nn0x7, oo1x1, oo1x2, oo1x3, oo1x4, oo1x5, oo1x6, oo1x7, oo1x8, oo1x9, oo1x10) => ∃ r : Int32, v = some (.int r) ∧ (True) ∧ (0 ≤ (oo1x2 : Int32).toInt ∧ (oo1x2 : Int32).toInt ≤ 400 ∧ 0 ≤ (oo1x3 : Int32).toInt ∧ (oo1x3 : Int32).toInt ≤ 400 ∧ 0 ≤ (oo1x4 : Int32).toInt ∧ (oo1x4 : Int32).toInt ≤ 400) ∧ (SameR oo1x1 Gv_0 oo1x10 Lq_0)) (fun (u : (Bool) × (Nat) × (Nat) × (Nat) × (Int32) × (Int32) × (Int32) × (Int32) × (Int32) × (Int32) × (Int32) × (Nat → Int32) × (Nat → Int32) × (Nat) × (Int32) × (Int32) × (Int32) × (Int32) × (Int32) × (Int32) × (Int32) × (Int32) × (Nat → Int32) × (Nat → Option Nat)) => match u with | (true, na0x0, na0x1, na0x2, oo0x1, oo0x2, oo0x3, oo0x4, oo0x5, oo0x6, oo0x7, oo0x8, oo0x9, nn0x7, oo1x1, oo1x2, oo1x3, oo1x4, oo1x5, oo1x6, oo1x7, oo1x8, oo1x9, oo1x10) => [(Ga_0, .inr (11, [.ref Ta_0, .ref Ga_2, .ref Va_0, .ref La_0, .int oo0x1, .ref Ga_5, .ref Ga_6, .ref Ga_7, .ref Ga_8, .ref Ga_9, .ref Ga_10, .ref Ga_11])), (Ta_0, .inr (10, [.ref Ta_1, .int 0, .int oo0x2, .int oo0x3, .int oo0x4, .int oo0x5])), (Ta_1, .inl (tc 0, 400, .inl Tf_1)), (Va_0, .inr (7, [.ref Va_1, .int oo0x6, .int oo0x7])), (Va_1, .inl (tc 0, 400, .inl oo0x8)), (La_0, .inl (tc 4, 6, .inr (.inr (.inr (.inr (va_up Lq_0 (Gv_0 : Int32).toNatClampNeg (some na0x0))))))), (na0x0, .inr (6, [.ref na0x1, .ref na0x2])), (na0x1, .inl (tc 0, nn0x7, .inl oo0x9)), (na0x2, .inl (tc 1, 64, .inr (.inl (fun _ => 0))))] | (false, na0x0, na0x1, na0x2, oo0x1, oo0x2, oo0x3, oo0x4, oo0x5, oo0x6, oo0x7, oo0x8, oo0x9, nn0x7, oo1x1, oo1x2, oo1x3, oo1x4, oo1x5, oo1x6, oo1x7, oo1x8, oo1x9, oo1x10) => [(Ga_0, .inr (11, [.ref Ta_0, .ref Ga_2, .ref Va_0, .ref La_0, .int oo1x1, .ref Ga_5, .ref Ga_6, .ref Ga_7, .ref Ga_8, .ref Ga_9, .ref Ga_10, .ref Ga_11])), (Ta_0, .inr (10, [.ref Ta_1, .int oo1x2, .int oo1x3, .int oo1x4, .int oo1x5, .int oo1x6])), (Ta_1, .inl (tc 0, 400, .inl Tf_1)), (Va_0, .inr (7, [.ref Va_1, .int oo1x7, .int oo1x8])), (Va_1, .inl (tc 0, 400, .inl oo1x9)), (La_0, .inl (tc 4, 6, .inr (.inr (.inr (.inr oo1x10)))))]) 3 466 :=
  ct_X11_rule2 l D tc sk (fun k => ([Ga_0, 0, Ga_2, 0, 0, Ga_5, Ga_6, Ga_7, Ga_8, Ga_9, Ga_10, Ga_11] : List (Nat)).getD k 0) (fun k => ([Gv_0] : List (Int32)).getD k 0) (fun k => ([Ta_0, Ta_1] : List (Nat)).getD k 0) (fun k => ([Tv_0, Tv_1, Tv_2, Tv_3, Tv_4] : List (Int32)).getD k 0) (fun k => ([(fun _ => 0), Tf_1] : List (Nat → Int32)).getD k (fun _ => 0)) (fun k => ([Va_0, Va_1] : List (Nat)).getD k 0) (fun k => ([Vv_0, Vv_1] : List (Int32)).getD k 0) (fun k => ([(fun _ => 0), Vf_1] : List (Nat → Int32)).getD k (fun _ => 0)) (fun k => ([La_0] : List (Nat)).getD k 0) (fun k => ([Lq_0] : List (Nat → Option Nat)).getD k (fun _ => none)) h_tape
