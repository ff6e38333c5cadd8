set_option maxHeartbeats 4000000 in
set_option maxRecDepth 100000 in
theorem ct_fX12_opens (l : Launch) (D : va_G) (tc : Nat → ClassId) (sk : (Nat → Nat) × (Nat → Nat)) (Ma : Nat → Nat) (Mv : Nat → Int32) (Mf : Nat → Nat → Int32) (Mj : Nat → Int64) (x1 : Int32) (pq0 : Nat) (h_nx : 0 ≤ ((Mv 2) : Int32).toInt ∧ ((Mv 2) : Int32).toInt ≤ ((Mv 0) : Int32).toInt ∧ ((Mv 0) : Int32).toInt ≤ 400) (h_ops : OpS (Mf 7) (Mv 9) pq0) (h_o : ((Mv 9) : Int32).toInt < 400) (h_wx : x1.toInt = 11 ∨ x1.toInt = 91) (h_os : OsP (Mf 7) (Mv 9) (Mv 7)) (h_w : ((Mv 3) : Int32).toInt = 0) : Ct l yX12_opens cX12_opens 2 (some .boolean) { frames := 1, cells := 0, slots := 0, locals := 22 } D tc sk [.ref (Ma 0), .int x1] [((Ma 0), .inr (12, [.ref (Ma 1), .int (Mv 0), .int (Mv 1), .ref (Ma 2), .ref (Ma 3), .ref (Ma 4), .ref (Ma 5), .ref (Ma 6), .int (Mv 2), .int (Mv 3), .int (Mv 4), .int (Mv 5), .int (Mv 6), .int (Mv 7), .int (Mv 8), .ref (Ma 7), .int (Mv 9), .ref (Ma 8), .int (Mv 10), .ref (Ma 9), .ref (Ma 10), .int (Mv 11), .int (Mv 12), .int (Mv 13), .ref (Ma 11), .int (Mv 14), .ref (Ma 12), .ref (Ma 13), .ref (Ma 14), .ref (Ma 15), .ref (Ma 16), .long (Mj 0), .ref (Ma 17), .ref (Ma 18), .ref (Ma 19), .ref (Ma 20)])), ((Ma 7), .inl (tc 0, 400, .inl (Mf 7)))] (fun (v : Option Value) (u : (Int32) × (Int32) × (Int32) × (Nat → Int32)) => match u with | (oo0x1, oo0x2, oo0x3, oo0x4) => ∃ r : Int32, v = some (.int r) ∧ (((r.toInt = 0 ∧ ¬ (oo0x1 : Int32).toInt = 0 ∧ (Mv 7).toInt = 10 ∧ (oo0x1 : Int32).toInt = 1 + 8 * (Mv 2).toInt + 2) ∨ (r.toInt = 1 ∧ (oo0x3 : Int32).toInt = ((Mv 9) : Int32).toInt + 1 ∧ (oo0x2 : Int32).toInt = (Mv 7).toInt + 1 ∧ (Mv 7).toInt < 10 ∧ (oo0x1 : Int32).toInt = 0))) ∧ (r.toInt = 1 → (OpS oo0x4 oo0x3 pq0) ∧ (OpP (Mf 7) (Mv 9) oo0x4 oo0x3 oo0x2 x1))) (fun (u : (Int32) × (Int32) × (Int32) × (Nat → Int32)) => match u with | (oo0x1, oo0x2, oo0x3, oo0x4) => [((Ma 0), .inr (12, [.ref (Ma 1), .int (Mv 0), .int (Mv 1), .ref (Ma 2), .ref (Ma 3), .ref (Ma 4), .ref (Ma 5), .ref (Ma 6), .int (Mv 2), .int oo0x1, .int (Mv 4), .int (Mv 5), .int (Mv 6), .int oo0x2, .int (Mv 8), .ref (Ma 7), .int oo0x3, .ref (Ma 8), .int (Mv 10), .ref (Ma 9), .ref (Ma 10), .int (Mv 11), .int (Mv 12), .int (Mv 13), .ref (Ma 11), .int (Mv 14), .ref (Ma 12), .ref (Ma 13), .ref (Ma 14), .ref (Ma 15), .ref (Ma 16), .long (Mj 0), .ref (Ma 17), .ref (Ma 18), .ref (Ma 19), .ref (Ma 20)])), ((Ma 7), .inl (tc 0, 400, .inl oo0x4))]) 0 0 := by
  refine Ct.start (by decide) (Nat.le_of_ble_eq_true rfl) (fun p e s m below meth c A ls hx hb hr hlk hin hml hown hts hK hX hP hD hA hl hS => ?_)
  have hl : lv_has ls 2 [(0, .ref (Ma 0)), (1, .int x1)] := hl
  have ar_h_ops := OpS.ar h_ops
  have ar_h_os := OsP.ar h_os
  refine lv_aload_n hx hb dX12_opens_0 rfl (lv_at hl 0 rfl) ?_
  refine gf_X12_151 hx hb hts hown hK hP 0 rfl rfl dX12_opens_1 ?_
  refine lv_bipush (v := 10) hx hb dX12_opens_4 (by decide) ?_
  refine lv_icmp_ne (tgt := 19) hx hb dX12_opens_6 (by decide) (fun c_1 => ?_) (fun c_1 => ?_)
  · skip
    refine lv_aload_n hx hb dX12_opens_19 rfl (lv_at hl 0 rfl) ?_
    refine lv_dup hx hb dX12_opens_20 rfl ?_
    refine gf_X12_151 hx hb hts hown hK hP 0 rfl rfl dX12_opens_21 ?_
    refine lv_iconst (v := 1) hx hb dX12_opens_24 (by decide) ?_
    refine lv_iadd hx hb dX12_opens_25 ?_
    refine lv_topi (fun x_2 ex_2 => ?_)
    refine pf_X12_151 hx hb hts hown hK hP hD hS 0 rfl (Nat.le_of_ble_eq_true rfl) rfl rfl dX12_opens_26 (fun H locs hP₀ hD₀ hS₀ => ?_)
    replace hP : va_P D classes [((Ma 0), .inr (12, [.ref (Ma 1), .int (Mv 0), .int (Mv 1), .ref (Ma 2), .ref (Ma 3), .ref (Ma 4), .ref (Ma 5), .ref (Ma 6), .int (Mv 2), .int (Mv 3), .int (Mv 4), .int (Mv 5), .int (Mv 6), .int x_2, .int (Mv 8), .ref (Ma 7), .int (Mv 9), .ref (Ma 8), .int (Mv 10), .ref (Ma 9), .ref (Ma 10), .int (Mv 11), .int (Mv 12), .int (Mv 13), .ref (Ma 11), .int (Mv 14), .ref (Ma 12), .ref (Ma 13), .ref (Ma 14), .ref (Ma 15), .ref (Ma 16), .long (Mj 0), .ref (Ma 17), .ref (Ma 18), .ref (Ma 19), .ref (Ma 20)])), ((Ma 7), .inl (tc 0, 400, .inl (Mf 7)))] H := hP₀
    replace hD : va_D A [((Ma 0), .inr (12, [.ref (Ma 1), .int (Mv 0), .int (Mv 1), .ref (Ma 2), .ref (Ma 3), .ref (Ma 4), .ref (Ma 5), .ref (Ma 6), .int (Mv 2), .int (Mv 3), .int (Mv 4), .int (Mv 5), .int (Mv 6), .int x_2, .int (Mv 8), .ref (Ma 7), .int (Mv 9), .ref (Ma 8), .int (Mv 10), .ref (Ma 9), .ref (Ma 10), .int (Mv 11), .int (Mv 12), .int (Mv 13), .ref (Ma 11), .int (Mv 14), .ref (Ma 12), .ref (Ma 13), .ref (Ma 14), .ref (Ma 15), .ref (Ma 16), .long (Mj 0), .ref (Ma 17), .ref (Ma 18), .ref (Ma 19), .ref (Ma 20)])), ((Ma 7), .inl (tc 0, 400, .inl (Mf 7)))] := hD₀
    replace hS := hS₀
    clear hP₀ hD₀ hS₀
    refine lv_aload_n hx hb dX12_opens_29 rfl (lv_at hl 0 rfl) ?_
    refine gf_X12_29 hx hb hts hown hK hP 0 rfl rfl dX12_opens_30 ?_
    refine lv_aload_n hx hb dX12_opens_33 rfl (lv_at hl 0 rfl) ?_
    refine gf_X12_154 hx hb hts hown hK hP 0 rfl rfl dX12_opens_34 ?_
    refine lv_iload_n hx hb dX12_opens_37 rfl (lv_at hl 1 rfl) ?_
    have hi_3 : vp_in (Mv 9) 400 := by
      have z_1 : ¬ ((Mv 7) : Int32).toInt = (10 : Int32).toInt := fun z => c_1 (Int32.toInt_inj.mp z)
      have y_10 : (10 : Int32).toInt = 10 := by decide
      refine vp_in_iff.mpr ⟨?_, ?_⟩ <;> omega
    refine st_int hx hb hK hP hD hS 1 0 rfl rfl hi_3 dX12_opens_38 (fun g_4 H locs eg_4 hP₀ hD₀ hS₀ => ?_)
    replace hP : va_P D classes [((Ma 0), .inr (12, [.ref (Ma 1), .int (Mv 0), .int (Mv 1), .ref (Ma 2), .ref (Ma 3), .ref (Ma 4), .ref (Ma 5), .ref (Ma 6), .int (Mv 2), .int (Mv 3), .int (Mv 4), .int (Mv 5), .int (Mv 6), .int x_2, .int (Mv 8), .ref (Ma 7), .int (Mv 9), .ref (Ma 8), .int (Mv 10), .ref (Ma 9), .ref (Ma 10), .int (Mv 11), .int (Mv 12), .int (Mv 13), .ref (Ma 11), .int (Mv 14), .ref (Ma 12), .ref (Ma 13), .ref (Ma 14), .ref (Ma 15), .ref (Ma 16), .long (Mj 0), .ref (Ma 17), .ref (Ma 18), .ref (Ma 19), .ref (Ma 20)])), ((Ma 7), .inl (tc 0, 400, .inl g_4))] H := hP₀
    replace hD : va_D A [((Ma 0), .inr (12, [.ref (Ma 1), .int (Mv 0), .int (Mv 1), .ref (Ma 2), .ref (Ma 3), .ref (Ma 4), .ref (Ma 5), .ref (Ma 6), .int (Mv 2), .int (Mv 3), .int (Mv 4), .int (Mv 5), .int (Mv 6), .int x_2, .int (Mv 8), .ref (Ma 7), .int (Mv 9), .ref (Ma 8), .int (Mv 10), .ref (Ma 9), .ref (Ma 10), .int (Mv 11), .int (Mv 12), .int (Mv 13), .ref (Ma 11), .int (Mv 14), .ref (Ma 12), .ref (Ma 13), .ref (Ma 14), .ref (Ma 15), .ref (Ma 16), .long (Mj 0), .ref (Ma 17), .ref (Ma 18), .ref (Ma 19), .ref (Ma 20)])), ((Ma 7), .inl (tc 0, 400, .inl g_4))] := hD₀
    replace hS := hS₀
    clear hP₀ hD₀ hS₀
    refine lv_aload_n hx hb dX12_opens_39 rfl (lv_at hl 0 rfl) ?_
    refine lv_dup hx hb dX12_opens_40 rfl ?_
    refine gf_X12_154 hx hb hts hown hK hP 0 rfl rfl dX12_opens_41 ?_
    refine lv_iconst (v := 1) hx hb dX12_opens_44 (by decide) ?_
    refine lv_iadd hx hb dX12_opens_45 ?_
    refine lv_topi (fun x_5 ex_5 => ?_)
    refine pf_X12_154 hx hb hts hown hK hP hD hS 0 rfl (Nat.le_of_ble_eq_true rfl) rfl rfl dX12_opens_46 (fun H locs hP₀ hD₀ hS₀ => ?_)
    replace hP : va_P D classes [((Ma 0), .inr (12, [.ref (Ma 1), .int (Mv 0), .int (Mv 1), .ref (Ma 2), .ref (Ma 3), .ref (Ma 4), .ref (Ma 5), .ref (Ma 6), .int (Mv 2), .int (Mv 3), .int (Mv 4), .int (Mv 5), .int (Mv 6), .int x_2, .int (Mv 8), .ref (Ma 7), .int x_5, .ref (Ma 8), .int (Mv 10), .ref (Ma 9), .ref (Ma 10), .int (Mv 11), .int (Mv 12), .int (Mv 13), .ref (Ma 11), .int (Mv 14), .ref (Ma 12), .ref (Ma 13), .ref (Ma 14), .ref (Ma 15), .ref (Ma 16), .long (Mj 0), .ref (Ma 17), .ref (Ma 18), .ref (Ma 19), .ref (Ma 20)])), ((Ma 7), .inl (tc 0, 400, .inl g_4))] H := hP₀
    replace hD : va_D A [((Ma 0), .inr (12, [.ref (Ma 1), .int (Mv 0), .int (Mv 1), .ref (Ma 2), .ref (Ma 3), .ref (Ma 4), .ref (Ma 5), .ref (Ma 6), .int (Mv 2), .int (Mv 3), .int (Mv 4), .int (Mv 5), .int (Mv 6), .int x_2, .int (Mv 8), .ref (Ma 7), .int x_5, .ref (Ma 8), .int (Mv 10), .ref (Ma 9), .ref (Ma 10), .int (Mv 11), .int (Mv 12), .int (Mv 13), .ref (Ma 11), .int (Mv 14), .ref (Ma 12), .ref (Ma 13), .ref (Ma 14), .ref (Ma 15), .ref (Ma 16), .long (Mj 0), .ref (Ma 17), .ref (Ma 18), .ref (Ma 19), .ref (Ma 20)])), ((Ma 7), .inl (tc 0, 400, .inl g_4))] := hD₀
    replace hS := hS₀
    clear hP₀ hD₀ hS₀
    have tp_x_5 : (x_5 : Int32).toInt = ((Mv 9) : Int32).toInt + 1 := by
      have z_1 : ¬ ((Mv 7) : Int32).toInt = (10 : Int32).toInt := fun z => c_1 (Int32.toInt_inj.mp z)
      have y_10 : (10 : Int32).toInt = 10 := by decide
      have y_1 : (1 : Int32).toInt = 1 := by decide
      have t_x_5 : x_5.toInt = ((Mv 9) : Int32).toInt + (1 : Int32).toInt := by rw [ex_5]; exact add_toInt (by omega) (by omega)
      omega
    refine lv_iconst (v := 1) hx hb dX12_opens_49 (by decide) ?_
    have hp_6 : (((1 : Int32).toInt = 0 ∧ ¬ ((Mv 3) : Int32).toInt = 0 ∧ (Mv 7).toInt = 10 ∧ ((Mv 3) : Int32).toInt = 1 + 8 * (Mv 2).toInt + 2) ∨ ((1 : Int32).toInt = 1 ∧ (x_5 : Int32).toInt = ((Mv 9) : Int32).toInt + 1 ∧ (x_2 : Int32).toInt = (Mv 7).toInt + 1 ∧ (Mv 7).toInt < 10 ∧ ((Mv 3) : Int32).toInt = 0)) := by
      have z_1 : ¬ ((Mv 7) : Int32).toInt = (10 : Int32).toInt := fun z => c_1 (Int32.toInt_inj.mp z)
      have y_10 : (10 : Int32).toInt = 10 := by decide
      have y_1 : (1 : Int32).toInt = 1 := by decide
      have t_x_5 : x_5.toInt = ((Mv 9) : Int32).toInt + (1 : Int32).toInt := by rw [ex_5]; exact add_toInt (by omega) (by omega)
      have t_x_2 : x_2.toInt = ((Mv 7) : Int32).toInt + (1 : Int32).toInt := by rw [ex_2]; exact add_toInt (by omega) (by omega)
      have yr : (1 : Int32).toInt = 1 := by decide
      omega
    have hm_7 : (1 : Int32).toInt = 1 → (OpS g_4 x_5 pq0) ∧ (OpP (Mf 7) (Mv 9) g_4 x_5 x_2 x1) := by
      intro h1r
      have hi_10 : (x_5 : Int32).toInt = ((Mv 9) : Int32).toInt + 1 := by
        have z_1 : ¬ ((Mv 7) : Int32).toInt = (10 : Int32).toInt := fun z => c_1 (Int32.toInt_inj.mp z)
        have y_10 : (10 : Int32).toInt = 10 := by decide
        have y_1 : (1 : Int32).toInt = 1 := by decide
        have t_x_5 : x_5.toInt = ((Mv 9) : Int32).toInt + (1 : Int32).toInt := by rw [ex_5]; exact add_toInt (by omega) (by omega)
        omega
      have hr_11 : ((Mv 9) : Int32).toInt < 400 := by
        have z_1 : ¬ ((Mv 7) : Int32).toInt = (10 : Int32).toInt := fun z => c_1 (Int32.toInt_inj.mp z)
        have y_10 : (10 : Int32).toInt = 10 := by decide
        omega
      have hr_12 : (x1 : Int32).toInt = 11 ∨ (x1 : Int32).toInt = 12 ∨ (x1 : Int32).toInt = 13 ∨ (x1 : Int32).toInt = 91 := by
        have z_1 : ¬ ((Mv 7) : Int32).toInt = (10 : Int32).toInt := fun z => c_1 (Int32.toInt_inj.mp z)
        have y_10 : (10 : Int32).toInt = 10 := by decide
        omega
      have hq_9 := OpS.push h_ops eg_4 hi_10 hr_11 hr_12
      have hr_13 : ¬ ((x1 : Int32).toInt = 12 ∨ (x1 : Int32).toInt = 13) := by
        have z_1 : ¬ ((Mv 7) : Int32).toInt = (10 : Int32).toInt := fun z => c_1 (Int32.toInt_inj.mp z)
        have y_10 : (10 : Int32).toInt = 10 := by decide
        omega
      rw [if_neg hr_13] at hq_9
      have ha_8 : OpS g_4 x_5 pq0 := hq_9
      have hr_14 : ((x1 : Int32).toInt = 11 ∧ (x_2 : Int32).toInt = (Mv 7).toInt + 1 ∧ (Mv 7).toInt < 10) ∨ ((x1 : Int32).toInt = 91 ∧ (x_2 : Int32).toInt = (Mv 7).toInt + 1 ∧ (Mv 7).toInt < 10) ∨ (((x1 : Int32).toInt = 12 ∨ (x1 : Int32).toInt = 13) ∧ False) := by
        have z_1 : ¬ ((Mv 7) : Int32).toInt = (10 : Int32).toInt := fun z => c_1 (Int32.toInt_inj.mp z)
        have y_10 : (10 : Int32).toInt = 10 := by decide
        have y_1 : (1 : Int32).toInt = 1 := by decide
        have t_x_2 : x_2.toInt = ((Mv 7) : Int32).toInt + (1 : Int32).toInt := by rw [ex_2]; exact add_toInt (by omega) (by omega)
        omega
      have hi_16 : (x_5 : Int32).toInt = ((Mv 9) : Int32).toInt + 1 := by
        have z_1 : ¬ ((Mv 7) : Int32).toInt = (10 : Int32).toInt := fun z => c_1 (Int32.toInt_inj.mp z)
        have y_10 : (10 : Int32).toInt = 10 := by decide
        have y_1 : (1 : Int32).toInt = 1 := by decide
        have t_x_5 : x_5.toInt = ((Mv 9) : Int32).toInt + (1 : Int32).toInt := by rw [ex_5]; exact add_toInt (by omega) (by omega)
        omega
      have hp_15 : OpP (Mf 7) (Mv 9) g_4 x_5 x_2 x1 := OsP.push h_os eg_4 hi_16 (by rcases hr_14 with z | z | z; exact Or.inl z; exact Or.inr (Or.inl z); exact absurd z.2 id)
      exact ⟨ha_8, hp_15⟩
    exact retI (v := 1) hx hb hr hlk (rfl) hP hD hS ((Mv 3), x_2, x_5, g_4) ⟨_, rfl, hp_6, hm_7⟩ [0, 1] rfl rfl dX12_opens_50 (Nat.le_of_ble_eq_true rfl) (Nat.le_of_ble_eq_true rfl) rfl
  · skip
    refine lv_aload_n hx hb dX12_opens_9 rfl (lv_at hl 0 rfl) ?_
    refine lv_iconst (v := 2) hx hb dX12_opens_10 (by decide) ?_
    refine lv_aload_n hx hb dX12_opens_11 rfl (lv_at hl 0 rfl) ?_
    refine gf_X12_87 hx hb hts hown hK hP 0 rfl rfl dX12_opens_12 ?_
    have ha_17 : 0 ≤ (2 : Int32).toInt ∧ (2 : Int32).toInt ≤ 4 := by
      have z_1 := congrArg Int32.toInt c_1
      have y_10 : (10 : Int32).toInt = 10 := by decide
      have y_2 : (2 : Int32).toInt = 2 := by decide
      omega
    have ha_18 : 0 ≤ (Mv 2).toInt ∧ (Mv 2).toInt ≤ 400 := by
      have z_1 := congrArg Int32.toInt c_1
      have y_10 : (10 : Int32).toInt = 10 := by decide
      omega
    refine cV (a := (Ma 0)) (As := [.int 2, .int (Mv 2)]) (rest := []) (wr := [((Ma 7), .inl (tc 0, 400, .inl (Mf 7)))]) ⟨hx, hb, hml, hown, hts⟩ hK hX hA (cu_fX12_fails l D tc sk (Ma 0) (Ma 1) (Ma 2) (Ma 3) (Ma 4) (Ma 5) (Ma 6) (Ma 7) (Ma 8) (Ma 9) (Ma 10) (Ma 11) (Ma 12) (Ma 13) (Ma 14) (Ma 15) (Ma 16) (Ma 17) (Ma 18) (Ma 19) (Ma 20) (Mv 0) (Mv 1) (Mv 2) (Mv 3) (Mv 4) (Mv 5) (Mv 6) (Mv 7) (Mv 8) (Mv 9) (Mv 10) (Mv 11) (Mv 12) (Mv 13) (Mv 14) (Mj 0) 2 (Mv 2) ha_17 ha_18 h_w) k_1232 k_1229 k_1231 k_31 k_106 pl_X12_fails ⟨Nat.le_of_ble_eq_true rfl, Nat.le_of_ble_eq_true rfl⟩ rfl rfl (va_recv hK hP (ci := 12) (q0 := 0) rfl rfl) hP hD hS [0] [1] rfl rfl rfl rfl rfl (by decide) rfl hl.1 rfl (Nat.le_of_ble_eq_true rfl) dX12_opens_15 ⟨Nat.le_of_ble_eq_true rfl, Nat.le_of_ble_eq_true rfl⟩ (fun v_19 u_20 H locs hv_21 hP₀ hD₀ hS₀ => ?_)
    obtain ⟨sv_22, rfl⟩ : ∃ z, z = u_20 := ⟨_, rfl⟩
    obtain ⟨r_25, rfl, he_26, pf_23, pf_24⟩ := hv_21
    have he_26 : r_25.toInt = 0 := he_26
    have pf_23 : ¬ (sv_22 : Int32).toInt = 0 := pf_23
    have pf_24 : (sv_22 : Int32).toInt = 1 + 8 * (Mv 2).toInt + (2 : Int32).toInt := pf_24
    refine W.eq (g2 := F0 m 18 ls [.int r_25]) rfl ?_
    replace hP : va_P D classes [((Ma 7), .inl (tc 0, 400, .inl (Mf 7))), ((Ma 0), .inr (12, [.ref (Ma 1), .int (Mv 0), .int (Mv 1), .ref (Ma 2), .ref (Ma 3), .ref (Ma 4), .ref (Ma 5), .ref (Ma 6), .int (Mv 2), .int sv_22, .int (Mv 4), .int (Mv 5), .int (Mv 6), .int (Mv 7), .int (Mv 8), .ref (Ma 7), .int (Mv 9), .ref (Ma 8), .int (Mv 10), .ref (Ma 9), .ref (Ma 10), .int (Mv 11), .int (Mv 12), .int (Mv 13), .ref (Ma 11), .int (Mv 14), .ref (Ma 12), .ref (Ma 13), .ref (Ma 14), .ref (Ma 15), .ref (Ma 16), .long (Mj 0), .ref (Ma 17), .ref (Ma 18), .ref (Ma 19), .ref (Ma 20)]))] H := hP₀
    replace hD : va_D A [((Ma 7), .inl (tc 0, 400, .inl (Mf 7))), ((Ma 0), .inr (12, [.ref (Ma 1), .int (Mv 0), .int (Mv 1), .ref (Ma 2), .ref (Ma 3), .ref (Ma 4), .ref (Ma 5), .ref (Ma 6), .int (Mv 2), .int sv_22, .int (Mv 4), .int (Mv 5), .int (Mv 6), .int (Mv 7), .int (Mv 8), .ref (Ma 7), .int (Mv 9), .ref (Ma 8), .int (Mv 10), .ref (Ma 9), .ref (Ma 10), .int (Mv 11), .int (Mv 12), .int (Mv 13), .ref (Ma 11), .int (Mv 14), .ref (Ma 12), .ref (Ma 13), .ref (Ma 14), .ref (Ma 15), .ref (Ma 16), .long (Mj 0), .ref (Ma 17), .ref (Ma 18), .ref (Ma 19), .ref (Ma 20)]))] := hD₀
    replace hS := hS₀
    clear hP₀ hD₀ hS₀
    have yf_28 : (2 : Int32).toInt = 2 := by decide
    have hb_29 : (r_25 : Int32).toInt = 0 ∨ (r_25 : Int32).toInt = 1 := by
      have z_1 := congrArg Int32.toInt c_1
      have y_10 : (10 : Int32).toInt = 10 := by decide
      omega
    have hp_30 : (((r_25 : Int32).toInt = 0 ∧ ¬ (sv_22 : Int32).toInt = 0 ∧ (Mv 7).toInt = 10 ∧ (sv_22 : Int32).toInt = 1 + 8 * (Mv 2).toInt + 2) ∨ ((r_25 : Int32).toInt = 1 ∧ ((Mv 9) : Int32).toInt = ((Mv 9) : Int32).toInt + 1 ∧ ((Mv 7) : Int32).toInt = (Mv 7).toInt + 1 ∧ (Mv 7).toInt < 10 ∧ (sv_22 : Int32).toInt = 0)) := by
      have z_1 := congrArg Int32.toInt c_1
      have y_10 : (10 : Int32).toInt = 10 := by decide
      omega
    have hm_31 : (r_25 : Int32).toInt = 1 → (OpS (Mf 7) (Mv 9) pq0) ∧ (OpP (Mf 7) (Mv 9) (Mf 7) (Mv 9) (Mv 7) x1) := by
      intro h1r
      exfalso
      have z_1 := congrArg Int32.toInt c_1
      have y_10 : (10 : Int32).toInt = 10 := by decide
      omega
    exact retI (v := r_25) hx hb hr hlk (nar01 hb_29) hP hD hS (sv_22, (Mv 7), (Mv 9), (Mf 7)) ⟨_, rfl, hp_30, hm_31⟩ [1, 0] rfl rfl dX12_opens_18 (Nat.le_of_ble_eq_true rfl) (Nat.le_of_ble_eq_true rfl) rfl
set_option maxRecDepth 100000 in
theorem cu_fX12_opens (l : Launch) (D : va_G) (tc : Nat → ClassId) (sk : (Nat → Nat) × (Nat → Nat)) (Ma_0 : Nat) (Ma_1 : Nat) (Ma_2 : Nat) (Ma_3 : Nat) (Ma_4 : Nat) (Ma_5 : Nat) (Ma_6 : Nat) (Ma_7 : Nat) (Ma_8 : Nat) (Ma_9 : Nat) (Ma_10 : Nat) (Ma_11 : Nat) (Ma_12 : Nat) (Ma_13 : Nat) (Ma_14 : Nat) (Ma_15 : Nat) (Ma_16 : Nat) (Ma_17 : Nat) (Ma_18 : Nat) (Ma_19 : Nat) (Ma_20 : Nat) (Mv_0 : Int32) (Mv_1 : Int32) (Mv_2 : Int32) (Mv_3 : Int32) (Mv_4 : Int32) (Mv_5 : Int32) (Mv_6 : Int32) (Mv_7 : Int32) (Mv_8 : Int32) (Mv_9 : Int32) (Mv_10 : Int32) (Mv_11 : Int32) (Mv_12 : Int32) (Mv_13 : Int32) (Mv_14 : Int32) (Mf_7 : Nat → Int32) (Mj_0 : Int64) (x1 : Int32) (pq0 : Nat) (h_nx : 0 ≤ (Mv_2 : Int32).toInt ∧ (Mv_2 : Int32).toInt ≤ (Mv_0 : Int32).toInt ∧ (Mv_0 : Int32).toInt ≤ 400) (h_ops : OpS Mf_7 Mv_9 pq0) (h_o : (Mv_9 : Int32).toInt < 400) (h_wx : x1.toInt = 11 ∨ x1.toInt = 91) (h_os : OsP Mf_7 Mv_9 Mv_7) (h_w : (Mv_3 : Int32).toInt = 0) : Ct l yX12_opens cX12_opens 2 (some .boolean) { frames := 1, cells := 0, slots := 0, locals := 22 } D tc sk [.ref Ma_0, .int x1] [(Ma_0, .inr (12, [.ref Ma_1, .int Mv_0, .int Mv_1, .ref Ma_2, .ref Ma_3, .ref Ma_4, .ref Ma_5, .ref Ma_6, .int Mv_2, .int Mv_3, .int Mv_4, .int Mv_5, .int Mv_6, .int Mv_7, .int Mv_8, .ref Ma_7, .int Mv_9, .ref Ma_8, .int Mv_10, .ref Ma_9, .ref Ma_10, .int Mv_11, .int Mv_12, .int Mv_13, .ref Ma_11, .int Mv_14, .ref Ma_12, .ref Ma_13, .ref Ma_14, .ref Ma_15, .ref Ma_16, .long Mj_0, .ref Ma_17, .ref Ma_18, .ref Ma_19, .ref Ma_20])), (Ma_7, .inl (tc 0, 400, .inl Mf_7))] (fun (v : Option Value) (u : (Int32) × (Int32) × (Int32) × (Nat → Int32)) => match u with | (oo0x1, oo0x2, oo0x3, oo0x4) => ∃ r : Int32, v = some (.int r) ∧ (((r.toInt = 0 ∧ ¬ (oo0x1 : Int32).toInt = 0 ∧ Mv_7.toInt = 10 ∧ (oo0x1 : Int32).toInt = 1 + 8 * Mv_2.toInt + 2) ∨ (r.toInt = 1 ∧ (oo0x3 : Int32).toInt = (Mv_9 : Int32).toInt + 1 ∧ (oo0x2 : Int32).toInt = Mv_7.toInt + 1 ∧ Mv_7.toInt < 10 ∧ (oo0x1 : Int32).toInt = 0))) ∧ (r.toInt = 1 → (OpS oo0x4 oo0x3 pq0) ∧ (OpP Mf_7 Mv_9 oo0x4 oo0x3 oo0x2 x1))) (fun (u : (Int32) × (Int32) × (Int32) × (Nat → Int32)) => match u with | (oo0x1, oo0x2, oo0x3, oo0x4) => [(Ma_0, .inr (12, [.ref Ma_1, .int Mv_0, .int Mv_1, .ref Ma_2, .ref Ma_3, .ref Ma_4, .ref Ma_5, .ref Ma_6, .int Mv_2, .int oo0x1, .int Mv_4, .int Mv_5, .int Mv_6, .int oo0x2, .int Mv_8, .ref Ma_7, .int oo0x3, .ref Ma_8, .int Mv_10, .ref Ma_9, .ref Ma_10, .int Mv_11, .int Mv_12, .int Mv_13, .ref Ma_11, .int Mv_14, .ref Ma_12, .ref Ma_13, .ref Ma_14, .ref Ma_15, .ref Ma_16, .long Mj_0, .ref Ma_17, .ref Ma_18, .ref Ma_19, .ref Ma_20])), (Ma_7, .inl (tc 0, 400, .inl oo0x4))]) 0 0 :=
  ct_fX12_opens l D tc sk (fun k => ([Ma_0, Ma_1, Ma_2, Ma_3, Ma_4, Ma_5, Ma_6, Ma_7, Ma_8, Ma_9, Ma_10, Ma_11, Ma_12, Ma_13, Ma_14, Ma_15, Ma_16, Ma_17, Ma_18, Ma_19, Ma_20] : List (Nat)).getD k 0) (fun k => ([Mv_0, Mv_1, Mv_2, Mv_3, Mv_4, Mv_5, Mv_6, Mv_7, Mv_8, Mv_9, Mv_10, Mv_11, Mv_12, Mv_13, Mv_14] : List (Int32)).getD k 0) (fun k => ([(fun _ => 0), (fun _ => 0), (fun _ => 0), (fun _ => 0), (fun _ => 0), (fun _ => 0), (fun _ => 0), Mf_7] : List (Nat → Int32)).getD k (fun _ => 0)) (fun k => ([Mj_0] : List (Int64)).getD k 0) x1 pq0 h_nx h_ops h_o h_wx h_os h_w
set_option maxHeartbeats 4000000 in
set_option maxRecDepth 100000 in
theorem ct_fX12_layDown (l : Launch) (D : va_G) (tc : Nat → ClassId) (sk : (Nat → Nat) × (Nat → Nat)) (Ma : Nat → Nat) (Mv : Nat → Int32) (Mf : Nat → Nat → Int32) (Mj : Nat → Int64) (x1 : Int32) (b : Int32) (h_ls : LSR (Mf 7) (Mv 9) (Mf 2) (Mf 3) (Mv 5) b (Mv 6)) (h_x : 1 ≤ x1.toInt ∧ x1.toInt ≤ 3) (h_s : ((Mf 3) (Mv 5).toNatClampNeg).toInt + ((Mv 9) : Int32).toInt ≤ 400) (h_os : OsP (Mf 7) (Mv 9) (Mv 7)) : Ct l yX12_layDown cX12_layDown 2 none { frames := 1, cells := 0, slots := 0, locals := 22 } D tc sk [.ref (Ma 0), .int x1] [((Ma 0), .inr (12, [.ref (Ma 1), .int (Mv 0), .int (Mv 1), .ref (Ma 2), .ref (Ma 3), .ref (Ma 4), .ref (Ma 5), .ref (Ma 6), .int (Mv 2), .int (Mv 3), .int (Mv 4), .int (Mv 5), .int (Mv 6), .int (Mv 7), .int (Mv 8), .ref (Ma 7), .int (Mv 9), .ref (Ma 8), .int (Mv 10), .ref (Ma 9), .ref (Ma 10), .int (Mv 11), .int (Mv 12), .int (Mv 13), .ref (Ma 11), .int (Mv 14), .ref (Ma 12), .ref (Ma 13), .ref (Ma 14), .ref (Ma 15), .ref (Ma 16), .long (Mj 0), .ref (Ma 17), .ref (Ma 18), .ref (Ma 19), .ref (Ma 20)])), ((Ma 2), .inl (tc 0, 2400, .inl (Mf 2))), ((Ma 3), .inl (tc 0, 7, .inl (Mf 3))), ((Ma 7), .inl (tc 0, 400, .inl (Mf 7)))] (fun (v : Option Value) (u : (Int32) × (Int32) × (Nat → Int32) × (Nat → Int32)) => match u with | (oo0x1, oo0x2, oo0x3, oo0x4) => v = none ∧ (LSR (Mf 7) oo0x2 oo0x3 oo0x4 (Mv 5) b (Mv 6)) ∧ ((oo0x4 (Mv 5).toNatClampNeg).toInt + (oo0x2 : Int32).toInt = ((Mf 3) (Mv 5).toNatClampNeg).toInt + ((Mv 9) : Int32).toInt ∧ 0 ≤ (oo0x2 : Int32).toInt ∧ (oo0x2 : Int32).toInt ≤ ((Mv 9) : Int32).toInt) ∧ (Agr (Mf 2) oo0x3 (400 * ((Mv 5) : Int32).toInt + ((Mf 3) (Mv 5).toNatClampNeg).toInt)) ∧ (LdE (Mf 7) oo0x2 x1) ∧ (InK (Mf 7) (Mv 9) oo0x2) ∧ (LdP (Mf 7) (Mv 9) oo0x2 oo0x1) ∧ (T11 (Mf 7) oo0x2)) (fun (u : (Int32) × (Int32) × (Nat → Int32) × (Nat → Int32)) => match u with | (oo0x1, oo0x2, oo0x3, oo0x4) => [((Ma 0), .inr (12, [.ref (Ma 1), .int (Mv 0), .int (Mv 1), .ref (Ma 2), .ref (Ma 3), .ref (Ma 4), .ref (Ma 5), .ref (Ma 6), .int (Mv 2), .int (Mv 3), .int (Mv 4), .int (Mv 5), .int (Mv 6), .int oo0x1, .int (Mv 8), .ref (Ma 7), .int oo0x2, .ref (Ma 8), .int (Mv 10), .ref (Ma 9), .ref (Ma 10), .int (Mv 11), .int (Mv 12), .int (Mv 13), .ref (Ma 11), .int (Mv 14), .ref (Ma 12), .ref (Ma 13), .ref (Ma 14), .ref (Ma 15), .ref (Ma 16), .long (Mj 0), .ref (Ma 17), .ref (Ma 18), .ref (Ma 19), .ref (Ma 20)])), ((Ma 2), .inl (tc 0, 2400, .inl oo0x3)), ((Ma 3), .inl (tc 0, 7, .inl oo0x4)), ((Ma 7), .inl (tc 0, 400, .inl (Mf 7)))]) 0 0 := by
  refine Ct.start (by decide) (Nat.le_of_ble_eq_true rfl) (fun p e s m below meth c A ls hx hb hr hlk hin hml hown hts hK hX hP hD hA hl hS => ?_)
  have hl : lv_has ls 2 [(0, .ref (Ma 0)), (1, .int x1)] := hl
  obtain ⟨pn_1, pf_2, pf_3⟩ := id h_ls
  have ar_h_ls := LSR.ar h_ls
  have ar_pf_3 := Cd.ar pf_3
  have ar_h_os := OsP.ar h_os
  have loop_14 : ∀ (n_12 : Nat) (vy_8 : Int32) (vy_9 : Nat → Int32) (vy_10 : Nat → Int32) (vy_11 : Int32) (H : Heap) (locs : List Loc) (ls : Array Slot), ((vy_8 : Int32).toInt).toNat < n_12 → (LSR (Mf 7) vy_8 vy_9 vy_10 (Mv 5) b (Mv 6)) → ((vy_10 (Mv 5).toNatClampNeg).toInt + (vy_8 : Int32).toInt = ((Mf 3) (Mv 5).toNatClampNeg).toInt + ((Mv 9) : Int32).toInt ∧ 0 ≤ (vy_8 : Int32).toInt ∧ (vy_8 : Int32).toInt ≤ ((Mv 9) : Int32).toInt) → (Agr (Mf 2) vy_9 (400 * ((Mv 5) : Int32).toInt + ((Mf 3) (Mv 5).toNatClampNeg).toInt)) → (InK (Mf 7) (Mv 9) vy_8) → (LdP (Mf 7) (Mv 9) vy_8 vy_11) → va_P D classes [((Ma 0), .inr (12, [.ref (Ma 1), .int (Mv 0), .int (Mv 1), .ref (Ma 2), .ref (Ma 3), .ref (Ma 4), .ref (Ma 5), .ref (Ma 6), .int (Mv 2), .int (Mv 3), .int (Mv 4), .int (Mv 5), .int (Mv 6), .int vy_11, .int (Mv 8), .ref (Ma 7), .int vy_8, .ref (Ma 8), .int (Mv 10), .ref (Ma 9), .ref (Ma 10), .int (Mv 11), .int (Mv 12), .int (Mv 13), .ref (Ma 11), .int (Mv 14), .ref (Ma 12), .ref (Ma 13), .ref (Ma 14), .ref (Ma 15), .ref (Ma 16), .long (Mj 0), .ref (Ma 17), .ref (Ma 18), .ref (Ma 19), .ref (Ma 20)])), ((Ma 2), .inl (tc 0, 2400, .inl vy_9)), ((Ma 3), .inl (tc 0, 7, .inl vy_10)), ((Ma 7), .inl (tc 0, 400, .inl (Mf 7)))] H → va_D A [((Ma 0), .inr (12, [.ref (Ma 1), .int (Mv 0), .int (Mv 1), .ref (Ma 2), .ref (Ma 3), .ref (Ma 4), .ref (Ma 5), .ref (Ma 6), .int (Mv 2), .int (Mv 3), .int (Mv 4), .int (Mv 5), .int (Mv 6), .int vy_11, .int (Mv 8), .ref (Ma 7), .int vy_8, .ref (Ma 8), .int (Mv 10), .ref (Ma 9), .ref (Ma 10), .int (Mv 11), .int (Mv 12), .int (Mv 13), .ref (Ma 11), .int (Mv 14), .ref (Ma 12), .ref (Ma 13), .ref (Ma 14), .ref (Ma 15), .ref (Ma 16), .long (Mj 0), .ref (Ma 17), .ref (Ma 18), .ref (Ma 19), .ref (Ma 20)])), ((Ma 2), .inl (tc 0, 2400, .inl vy_9)), ((Ma 3), .inl (tc 0, 7, .inl vy_10)), ((Ma 7), .inl (tc 0, 400, .inl (Mf 7)))] → va_S A s.heap H locs → lv_has ls 2 [(0, .ref (Ma 0)), (1, .int x1)] → W p l e ({ frames := 1, cells := 0, slots := 0, locals := 22 }) s m ([.ref (Ma 0), .int x1].toArray) below meth c H locs 0 0 (MQ below (QW (fun (v : Option Value) (u : (Int32) × (Int32) × (Nat → Int32) × (Nat → Int32)) => match u with | (oo0x1, oo0x2, oo0x3, oo0x4) => v = none ∧ (LSR (Mf 7) oo0x2 oo0x3 oo0x4 (Mv 5) b (Mv 6)) ∧ ((oo0x4 (Mv 5).toNatClampNeg).toInt + (oo0x2 : Int32).toInt = ((Mf 3) (Mv 5).toNatClampNeg).toInt + ((Mv 9) : Int32).toInt ∧ 0 ≤ (oo0x2 : Int32).toInt ∧ (oo0x2 : Int32).toInt ≤ ((Mv 9) : Int32).toInt) ∧ (Agr (Mf 2) oo0x3 (400 * ((Mv 5) : Int32).toInt + ((Mf 3) (Mv 5).toNatClampNeg).toInt)) ∧ (LdE (Mf 7) oo0x2 x1) ∧ (InK (Mf 7) (Mv 9) oo0x2) ∧ (LdP (Mf 7) (Mv 9) oo0x2 oo0x1) ∧ (T11 (Mf 7) oo0x2)) (BW D (fun (u : (Int32) × (Int32) × (Nat → Int32) × (Nat → Int32)) => match u with | (oo0x1, oo0x2, oo0x3, oo0x4) => [((Ma 0), .inr (12, [.ref (Ma 1), .int (Mv 0), .int (Mv 1), .ref (Ma 2), .ref (Ma 3), .ref (Ma 4), .ref (Ma 5), .ref (Ma 6), .int (Mv 2), .int (Mv 3), .int (Mv 4), .int (Mv 5), .int (Mv 6), .int oo0x1, .int (Mv 8), .ref (Ma 7), .int oo0x2, .ref (Ma 8), .int (Mv 10), .ref (Ma 9), .ref (Ma 10), .int (Mv 11), .int (Mv 12), .int (Mv 13), .ref (Ma 11), .int (Mv 14), .ref (Ma 12), .ref (Ma 13), .ref (Ma 14), .ref (Ma 15), .ref (Ma 16), .long (Mj 0), .ref (Ma 17), .ref (Ma 18), .ref (Ma 19), .ref (Ma 20)])), ((Ma 2), .inl (tc 0, 2400, .inl oo0x3)), ((Ma 3), .inl (tc 0, 7, .inl oo0x4)), ((Ma 7), .inl (tc 0, 400, .inl (Mf 7)))]) A) A) ([.ref (Ma 0), .int x1].toArray) s 0 0 A) (F0 m 0 ls []) := by
    clear hP hD hS hl
    intro n_12
    induction n_12 with
    | zero =>
      intro vy_8 vy_9 vy_10 vy_11 H locs ls h1
      exact absurd h1 (Nat.not_lt_zero _)
    | succ n_12 ih_13 =>
      intro vy_8 vy_9 vy_10 vy_11 H locs ls hn_20 pf_15 pf_16 pf_17 pf_18 pf_19 hP hD hS hl
      obtain ⟨pn_21, pf_22, pf_23⟩ := id pf_15
      have ar_pf_15 := LSR.ar pf_15
      have ar_pf_23 := Cd.ar pf_23
      have ar_pf_19 := OsP.ar pf_19.1
      refine lv_aload_n hx hb dX12_layDown_0 rfl (lv_at hl 0 rfl) ?_
      refine gf_X12_154 hx hb hts hown hK hP 0 rfl rfl dX12_layDown_1 ?_
      refine lv_if_le (tgt := 76) hx hb dX12_layDown_4 (by decide) (fun c_24 => ?_) (fun c_24 => ?_)
      · skip
        have hr_25 : (vy_8 : Int32).toInt = 0 := by
          have z_1 := Int32.le_iff_toInt_le.mp c_24
          have y_0 : (0 : Int32).toInt = 0 := by decide
          omega
        have hr_26 : (vy_8 : Int32).toInt = 0 := by
          have z_1 := Int32.le_iff_toInt_le.mp c_24
          have y_0 : (0 : Int32).toInt = 0 := by decide
          omega
        exact retV hx hb hr hlk hP hD hS (vy_11, vy_8, vy_9, vy_10) ⟨rfl, pf_15, pf_16, pf_17, (Or.inl hr_25), pf_18, pf_19, (Or.inl hr_26)⟩ [0, 1, 2, 3] rfl rfl dX12_layDown_76 (Nat.le_of_ble_eq_true rfl) (Nat.le_of_ble_eq_true rfl) rfl
      · skip
        refine lv_aload_n hx hb dX12_layDown_7 rfl (lv_at hl 0 rfl) ?_
        refine gf_X12_29 hx hb hts hown hK hP 0 rfl rfl dX12_layDown_8 ?_
        refine lv_aload_n hx hb dX12_layDown_11 rfl (lv_at hl 0 rfl) ?_
        refine gf_X12_154 hx hb hts hown hK hP 0 rfl rfl dX12_layDown_12 ?_
        refine lv_iconst (v := 1) hx hb dX12_layDown_15 (by decide) ?_
        refine lv_isub hx hb dX12_layDown_16 ?_
        refine lv_topi (fun x_27 ex_27 => ?_)
        have hi_28 : vp_in x_27 400 := by
          have z_1 := Int32.lt_iff_toInt_lt.mp (Int32.not_le.mp c_24)
          have y_0 : (0 : Int32).toInt = 0 := by decide
          have y_1 : (1 : Int32).toInt = 1 := by decide
          have t_x_27 : x_27.toInt = (vy_8 : Int32).toInt - (1 : Int32).toInt := by rw [ex_27]; exact sub_toInt (by omega) (by omega)
          refine vp_in_iff.mpr ⟨?_, ?_⟩ <;> omega
        refine va_iald hx hb hK hP 3 0 rfl rfl hi_28 dX12_layDown_17 ?_
        refine lv_topi (fun x_29 ex_29 => ?_)
        refine cS (As := [.int x_29]) (rest := []) (wr := [((Ma 0), .inr (12, [.ref (Ma 1), .int (Mv 0), .int (Mv 1), .ref (Ma 2), .ref (Ma 3), .ref (Ma 4), .ref (Ma 5), .ref (Ma 6), .int (Mv 2), .int (Mv 3), .int (Mv 4), .int (Mv 5), .int (Mv 6), .int vy_11, .int (Mv 8), .ref (Ma 7), .int vy_8, .ref (Ma 8), .int (Mv 10), .ref (Ma 9), .ref (Ma 10), .int (Mv 11), .int (Mv 12), .int (Mv 13), .ref (Ma 11), .int (Mv 14), .ref (Ma 12), .ref (Ma 13), .ref (Ma 14), .ref (Ma 15), .ref (Ma 16), .long (Mj 0), .ref (Ma 17), .ref (Ma 18), .ref (Ma 19), .ref (Ma 20)])), ((Ma 2), .inl (tc 0, 2400, .inl vy_9)), ((Ma 3), .inl (tc 0, 7, .inl vy_10)), ((Ma 7), .inl (tc 0, 400, .inl (Mf 7)))]) ⟨hx, hb, hml, hown, hts⟩ hK hX hA (ct_X12_strength l D tc sk x_29) k_1345 k_1343 k_1344 k_106 pl_X12_strength ⟨Nat.le_of_ble_eq_true rfl, Nat.le_of_ble_eq_true rfl⟩ rfl rfl  hP hD hS [] [0, 1, 2, 3] rfl rfl rfl rfl rfl (by decide) rfl hl.1 rfl (Nat.le_of_ble_eq_true rfl) dX12_layDown_18 ⟨Nat.le_of_ble_eq_true rfl, Nat.le_of_ble_eq_true rfl⟩ (fun v_30 u_31 H locs hv_32 hP₀ hD₀ hS₀ => ?_)
        obtain ⟨r_33, rfl, he_34⟩ := hv_32
        have he_34 : ((x_29.toInt = 13 ∧ r_33.toInt = 1) ∨ (x_29.toInt = 12 ∧ r_33.toInt = 2) ∨ (x_29.toInt = 11 ∧ r_33.toInt = 3) ∨ (x_29.toInt ≠ 13 ∧ x_29.toInt ≠ 12 ∧ x_29.toInt ≠ 11 ∧ r_33.toInt = 0)) := he_34
        refine W.eq (g2 := F0 m 21 ls [.int r_33]) rfl ?_
        replace hP : va_P D classes [((Ma 0), .inr (12, [.ref (Ma 1), .int (Mv 0), .int (Mv 1), .ref (Ma 2), .ref (Ma 3), .ref (Ma 4), .ref (Ma 5), .ref (Ma 6), .int (Mv 2), .int (Mv 3), .int (Mv 4), .int (Mv 5), .int (Mv 6), .int vy_11, .int (Mv 8), .ref (Ma 7), .int vy_8, .ref (Ma 8), .int (Mv 10), .ref (Ma 9), .ref (Ma 10), .int (Mv 11), .int (Mv 12), .int (Mv 13), .ref (Ma 11), .int (Mv 14), .ref (Ma 12), .ref (Ma 13), .ref (Ma 14), .ref (Ma 15), .ref (Ma 16), .long (Mj 0), .ref (Ma 17), .ref (Ma 18), .ref (Ma 19), .ref (Ma 20)])), ((Ma 2), .inl (tc 0, 2400, .inl vy_9)), ((Ma 3), .inl (tc 0, 7, .inl vy_10)), ((Ma 7), .inl (tc 0, 400, .inl (Mf 7)))] H := hP₀
        replace hD : va_D A [((Ma 0), .inr (12, [.ref (Ma 1), .int (Mv 0), .int (Mv 1), .ref (Ma 2), .ref (Ma 3), .ref (Ma 4), .ref (Ma 5), .ref (Ma 6), .int (Mv 2), .int (Mv 3), .int (Mv 4), .int (Mv 5), .int (Mv 6), .int vy_11, .int (Mv 8), .ref (Ma 7), .int vy_8, .ref (Ma 8), .int (Mv 10), .ref (Ma 9), .ref (Ma 10), .int (Mv 11), .int (Mv 12), .int (Mv 13), .ref (Ma 11), .int (Mv 14), .ref (Ma 12), .ref (Ma 13), .ref (Ma 14), .ref (Ma 15), .ref (Ma 16), .long (Mj 0), .ref (Ma 17), .ref (Ma 18), .ref (Ma 19), .ref (Ma 20)])), ((Ma 2), .inl (tc 0, 2400, .inl vy_9)), ((Ma 3), .inl (tc 0, 7, .inl vy_10)), ((Ma 7), .inl (tc 0, 400, .inl (Mf 7)))] := hD₀
        replace hS := hS₀
        clear hP₀ hD₀ hS₀
        refine lv_iload_n hx hb dX12_layDown_21 rfl (lv_at hl 1 rfl) ?_
        refine lv_icmp_lt (tgt := 76) hx hb dX12_layDown_22 (by decide) (fun c_36 => ?_) (fun c_36 => ?_)
        · skip
          have hi_37 : (x_27 : Int32).toInt = (vy_8 : Int32).toInt - 1 := by
            have z_1 := Int32.lt_iff_toInt_lt.mp (Int32.not_le.mp c_24)
            have z_2 := Int32.lt_iff_toInt_lt.mp c_36
            have y_0 : (0 : Int32).toInt = 0 := by decide
            have y_1 : (1 : Int32).toInt = 1 := by decide
            have t_x_27 : x_27.toInt = (vy_8 : Int32).toInt - (1 : Int32).toInt := by rw [ex_27]; exact sub_toInt (by omega) (by omega)
            omega
          have hr_38 : 1 ≤ (vy_8 : Int32).toInt := by
            have z_1 := Int32.lt_iff_toInt_lt.mp (Int32.not_le.mp c_24)
            have z_2 := Int32.lt_iff_toInt_lt.mp c_36
            have y_0 : (0 : Int32).toInt = 0 := by decide
            omega
          have hr_39 : ((x_29 : Int32).toInt ≠ 13 ∧ (x_29 : Int32).toInt ≠ 12 ∧ (x_29 : Int32).toInt ≠ 11) ∨ 1 < (x1 : Int32).toInt := by
            have z_1 := Int32.lt_iff_toInt_lt.mp (Int32.not_le.mp c_24)
            have z_2 := Int32.lt_iff_toInt_lt.mp c_36
            have y_0 : (0 : Int32).toInt = 0 := by decide
            omega
          have hi_40 : (x_27 : Int32).toInt = (vy_8 : Int32).toInt - 1 := by
            have z_1 := Int32.lt_iff_toInt_lt.mp (Int32.not_le.mp c_24)
            have z_2 := Int32.lt_iff_toInt_lt.mp c_36
            have y_0 : (0 : Int32).toInt = 0 := by decide
            have y_1 : (1 : Int32).toInt = 1 := by decide
            have t_x_27 : x_27.toInt = (vy_8 : Int32).toInt - (1 : Int32).toInt := by rw [ex_27]; exact sub_toInt (by omega) (by omega)
            omega
          have hr_41 : 1 ≤ (vy_8 : Int32).toInt := by
            have z_1 := Int32.lt_iff_toInt_lt.mp (Int32.not_le.mp c_24)
            have z_2 := Int32.lt_iff_toInt_lt.mp c_36
            have y_0 : (0 : Int32).toInt = 0 := by decide
            omega
          have hr_42 : ¬ (x_29 : Int32).toInt = 11 := by
            have z_1 := Int32.lt_iff_toInt_lt.mp (Int32.not_le.mp c_24)
            have z_2 := Int32.lt_iff_toInt_lt.mp c_36
            have y_0 : (0 : Int32).toInt = 0 := by decide
            omega
          exact retV hx hb hr hlk hP hD hS (vy_11, vy_8, vy_9, vy_10) ⟨rfl, pf_15, pf_16, pf_17, (LdE.of (least := x1) ex_29 hi_37 hr_38 hr_39), pf_18, pf_19, (T11.of ex_29 hi_40 hr_41 hr_42)⟩ [0, 1, 2, 3] rfl rfl dX12_layDown_76 (Nat.le_of_ble_eq_true rfl) (Nat.le_of_ble_eq_true rfl) rfl
        · skip
          refine lv_aload_n hx hb dX12_layDown_25 rfl (lv_at hl 0 rfl) ?_
          refine lv_dup hx hb dX12_layDown_26 rfl ?_
          refine gf_X12_154 hx hb hts hown hK hP 0 rfl rfl dX12_layDown_27 ?_
          refine lv_iconst (v := 1) hx hb dX12_layDown_30 (by decide) ?_
          refine lv_isub hx hb dX12_layDown_31 ?_
          refine lv_topi (fun x_43 ex_43 => ?_)
          refine pf_X12_154 hx hb hts hown hK hP hD hS 0 rfl (Nat.le_of_ble_eq_true rfl) rfl rfl dX12_layDown_32 (fun H locs hP₀ hD₀ hS₀ => ?_)
          replace hP : va_P D classes [((Ma 0), .inr (12, [.ref (Ma 1), .int (Mv 0), .int (Mv 1), .ref (Ma 2), .ref (Ma 3), .ref (Ma 4), .ref (Ma 5), .ref (Ma 6), .int (Mv 2), .int (Mv 3), .int (Mv 4), .int (Mv 5), .int (Mv 6), .int vy_11, .int (Mv 8), .ref (Ma 7), .int x_43, .ref (Ma 8), .int (Mv 10), .ref (Ma 9), .ref (Ma 10), .int (Mv 11), .int (Mv 12), .int (Mv 13), .ref (Ma 11), .int (Mv 14), .ref (Ma 12), .ref (Ma 13), .ref (Ma 14), .ref (Ma 15), .ref (Ma 16), .long (Mj 0), .ref (Ma 17), .ref (Ma 18), .ref (Ma 19), .ref (Ma 20)])), ((Ma 2), .inl (tc 0, 2400, .inl vy_9)), ((Ma 3), .inl (tc 0, 7, .inl vy_10)), ((Ma 7), .inl (tc 0, 400, .inl (Mf 7)))] H := hP₀
          replace hD : va_D A [((Ma 0), .inr (12, [.ref (Ma 1), .int (Mv 0), .int (Mv 1), .ref (Ma 2), .ref (Ma 3), .ref (Ma 4), .ref (Ma 5), .ref (Ma 6), .int (Mv 2), .int (Mv 3), .int (Mv 4), .int (Mv 5), .int (Mv 6), .int vy_11, .int (Mv 8), .ref (Ma 7), .int x_43, .ref (Ma 8), .int (Mv 10), .ref (Ma 9), .ref (Ma 10), .int (Mv 11), .int (Mv 12), .int (Mv 13), .ref (Ma 11), .int (Mv 14), .ref (Ma 12), .ref (Ma 13), .ref (Ma 14), .ref (Ma 15), .ref (Ma 16), .long (Mj 0), .ref (Ma 17), .ref (Ma 18), .ref (Ma 19), .ref (Ma 20)])), ((Ma 2), .inl (tc 0, 2400, .inl vy_9)), ((Ma 3), .inl (tc 0, 7, .inl vy_10)), ((Ma 7), .inl (tc 0, 400, .inl (Mf 7)))] := hD₀
          replace hS := hS₀
          clear hP₀ hD₀ hS₀
          have tp_x_43 : (x_43 : Int32).toInt = (vy_8 : Int32).toInt - 1 := by
            have z_1 := Int32.lt_iff_toInt_lt.mp (Int32.not_le.mp c_24)
            have z_2 := Int32.le_iff_toInt_le.mp (Int32.not_lt.mp c_36)
            have y_0 : (0 : Int32).toInt = 0 := by decide
            have y_1 : (1 : Int32).toInt = 1 := by decide
            have t_x_43 : x_43.toInt = (vy_8 : Int32).toInt - (1 : Int32).toInt := by rw [ex_43]; exact sub_toInt (by omega) (by omega)
            omega
          refine lv_aload_n hx hb dX12_layDown_35 rfl (lv_at hl 0 rfl) ?_
          refine lv_aload_n hx hb dX12_layDown_36 rfl (lv_at hl 0 rfl) ?_
          refine gf_X12_29 hx hb hts hown hK hP 0 rfl rfl dX12_layDown_37 ?_
          refine lv_aload_n hx hb dX12_layDown_40 rfl (lv_at hl 0 rfl) ?_
          refine gf_X12_154 hx hb hts hown hK hP 0 rfl rfl dX12_layDown_41 ?_
          have hi_44 : vp_in x_43 400 := by
            have z_1 := Int32.lt_iff_toInt_lt.mp (Int32.not_le.mp c_24)
            have z_2 := Int32.le_iff_toInt_le.mp (Int32.not_lt.mp c_36)
            have y_0 : (0 : Int32).toInt = 0 := by decide
            have y_1 : (1 : Int32).toInt = 1 := by decide
            have t_x_43 : x_43.toInt = (vy_8 : Int32).toInt - (1 : Int32).toInt := by rw [ex_43]; exact sub_toInt (by omega) (by omega)
            refine vp_in_iff.mpr ⟨?_, ?_⟩ <;> omega
          refine va_iald hx hb hK hP 3 0 rfl rfl hi_44 dX12_layDown_44 ?_
          refine lv_topi (fun x_45 ex_45 => ?_)
          have qx_45 : x_45 = x_29 := by rw [ex_45, ex_29, ex_27, ex_43]
          have hx_46 : (x_45 : Int32).toInt = 11 ∨ (x_45 : Int32).toInt = 12 ∨ (x_45 : Int32).toInt = 13 := by
            rw [qx_45]
            have z_1 := Int32.lt_iff_toInt_lt.mp (Int32.not_le.mp c_24)
            have z_2 := Int32.le_iff_toInt_le.mp (Int32.not_lt.mp c_36)
            have y_0 : (0 : Int32).toInt = 0 := by decide
            omega
          have hi_47 : (x_43 : Int32).toInt = (vy_8 : Int32).toInt - 1 := by
            have z_1 := Int32.lt_iff_toInt_lt.mp (Int32.not_le.mp c_24)
            have z_2 := Int32.le_iff_toInt_le.mp (Int32.not_lt.mp c_36)
            have y_0 : (0 : Int32).toInt = 0 := by decide
            have y_1 : (1 : Int32).toInt = 1 := by decide
            have t_x_43 : x_43.toInt = (vy_8 : Int32).toInt - (1 : Int32).toInt := by rw [ex_43]; exact sub_toInt (by omega) (by omega)
            omega
          have hr_48 : 1 ≤ (vy_8 : Int32).toInt := by
            have z_1 := Int32.lt_iff_toInt_lt.mp (Int32.not_le.mp c_24)
            have z_2 := Int32.le_iff_toInt_le.mp (Int32.not_lt.mp c_36)
            have y_0 : (0 : Int32).toInt = 0 := by decide
            omega
          obtain ⟨dn_49, en_50, pf_51, pf_52, pf_53, pf_54⟩ := LSR.pop pf_15 hi_47 hr_48 ex_45 hx_46
          have ar_pf_51 := Cd.ar pf_51
          refine lv_iconst (v := 0) hx hb dX12_layDown_45 (by decide) ?_
          have ha_55 : (en_50 : Int) ≤ (Mv 6).toInt := by
            have z_1 := Int32.lt_iff_toInt_lt.mp (Int32.not_le.mp c_24)
            have z_2 := Int32.le_iff_toInt_le.mp (Int32.not_lt.mp c_36)
            have y_0 : (0 : Int32).toInt = 0 := by decide
            omega
          have ha_56 : (vy_10 (Mv 5).toNatClampNeg).toInt < 400 := by
            have z_1 := Int32.lt_iff_toInt_lt.mp (Int32.not_le.mp c_24)
            have z_2 := Int32.le_iff_toInt_le.mp (Int32.not_lt.mp c_36)
            have y_0 : (0 : Int32).toInt = 0 := by decide
            omega
          refine cV (a := (Ma 0)) (As := [.int x_45, .int 0]) (rest := []) (wr := [((Ma 7), .inl (tc 0, 400, .inl (Mf 7)))]) ⟨hx, hb, hml, hown, hts⟩ hK hX hA (cu_X12_puts l D tc sk (Ma 0) (Ma 1) (Ma 2) (Ma 3) (Ma 4) (Ma 5) (Ma 6) (Ma 7) (Ma 8) (Ma 9) (Ma 10) (Ma 11) (Ma 12) (Ma 13) (Ma 14) (Ma 15) (Ma 16) (Ma 17) (Ma 18) (Ma 19) (Ma 20) (Mv 0) (Mv 1) (Mv 2) (Mv 3) (Mv 4) (Mv 5) (Mv 6) vy_11 (Mv 8) x_43 (Mv 10) (Mv 11) (Mv 12) (Mv 13) (Mv 14) vy_9 vy_10 (Mj 0) x_45 0 b (Mv 6) dn_49 en_50 pf_51 pf_52 ha_55 ha_56) k_1296 k_1293 k_1295 k_46 k_106 pl_X12_puts ⟨Nat.le_of_ble_eq_true rfl, Nat.le_of_ble_eq_true rfl⟩ rfl rfl (va_recv hK hP (ci := 12) (q0 := 0) rfl rfl) hP hD hS [0, 1, 2] [3] rfl rfl rfl rfl rfl (by decide) rfl hl.1 rfl (Nat.le_of_ble_eq_true rfl) dX12_layDown_46 ⟨Nat.le_of_ble_eq_true rfl, Nat.le_of_ble_eq_true rfl⟩ (fun v_57 u_58 H locs hv_59 hP₀ hD₀ hS₀ => ?_)
          obtain ⟨sv_60, sv_61⟩ := u_58
          obtain ⟨rfl, pf_62, pf_63, pf_64⟩ := hv_59
          have pf_62 : Cd sv_60 sv_61 (Mv 5) b (Mv 6) en_50 := pf_62
          have ar_pf_62 := Cd.ar pf_62
          have pf_63 : Agr vy_9 sv_60 (400 * ((Mv 5) : Int32).toInt + (vy_10 (Mv 5).toNatClampNeg).toInt) := pf_63
          have pf_64 : (sv_61 (Mv 5).toNatClampNeg).toInt = (vy_10 (Mv 5).toNatClampNeg).toInt + 1 := pf_64
          refine W.eq (g2 := F0 m 49 ls []) rfl ?_
          replace hP : va_P D classes [((Ma 7), .inl (tc 0, 400, .inl (Mf 7))), ((Ma 0), .inr (12, [.ref (Ma 1), .int (Mv 0), .int (Mv 1), .ref (Ma 2), .ref (Ma 3), .ref (Ma 4), .ref (Ma 5), .ref (Ma 6), .int (Mv 2), .int (Mv 3), .int (Mv 4), .int (Mv 5), .int (Mv 6), .int vy_11, .int (Mv 8), .ref (Ma 7), .int x_43, .ref (Ma 8), .int (Mv 10), .ref (Ma 9), .ref (Ma 10), .int (Mv 11), .int (Mv 12), .int (Mv 13), .ref (Ma 11), .int (Mv 14), .ref (Ma 12), .ref (Ma 13), .ref (Ma 14), .ref (Ma 15), .ref (Ma 16), .long (Mj 0), .ref (Ma 17), .ref (Ma 18), .ref (Ma 19), .ref (Ma 20)])), ((Ma 2), .inl (tc 0, 2400, .inl sv_60)), ((Ma 3), .inl (tc 0, 7, .inl sv_61))] H := hP₀
          replace hD : va_D A [((Ma 7), .inl (tc 0, 400, .inl (Mf 7))), ((Ma 0), .inr (12, [.ref (Ma 1), .int (Mv 0), .int (Mv 1), .ref (Ma 2), .ref (Ma 3), .ref (Ma 4), .ref (Ma 5), .ref (Ma 6), .int (Mv 2), .int (Mv 3), .int (Mv 4), .int (Mv 5), .int (Mv 6), .int vy_11, .int (Mv 8), .ref (Ma 7), .int x_43, .ref (Ma 8), .int (Mv 10), .ref (Ma 9), .ref (Ma 10), .int (Mv 11), .int (Mv 12), .int (Mv 13), .ref (Ma 11), .int (Mv 14), .ref (Ma 12), .ref (Ma 13), .ref (Ma 14), .ref (Ma 15), .ref (Ma 16), .long (Mj 0), .ref (Ma 17), .ref (Ma 18), .ref (Ma 19), .ref (Ma 20)])), ((Ma 2), .inl (tc 0, 2400, .inl sv_60)), ((Ma 3), .inl (tc 0, 7, .inl sv_61))] := hD₀
          replace hS := hS₀
          clear hP₀ hD₀ hS₀
          refine lv_aload_n hx hb dX12_layDown_49 rfl (lv_at hl 0 rfl) ?_
          refine gf_X12_29 hx hb hts hown hK hP 1 rfl rfl dX12_layDown_50 ?_
          refine lv_aload_n hx hb dX12_layDown_53 rfl (lv_at hl 0 rfl) ?_
          refine gf_X12_154 hx hb hts hown hK hP 1 rfl rfl dX12_layDown_54 ?_
          have hi_65 : vp_in x_43 400 := by
            have z_1 := Int32.lt_iff_toInt_lt.mp (Int32.not_le.mp c_24)
            have z_2 := Int32.le_iff_toInt_le.mp (Int32.not_lt.mp c_36)
            have y_0 : (0 : Int32).toInt = 0 := by decide
            have y_1 : (1 : Int32).toInt = 1 := by decide
            have t_x_43 : x_43.toInt = (vy_8 : Int32).toInt - (1 : Int32).toInt := by rw [ex_43]; exact sub_toInt (by omega) (by omega)
            refine vp_in_iff.mpr ⟨?_, ?_⟩ <;> omega
          refine va_iald hx hb hK hP 0 0 rfl rfl hi_65 dX12_layDown_57 ?_
          refine lv_topi (fun x_66 ex_66 => ?_)
          have qx_66 : x_66 = x_45 := by rw [ex_66, ex_45]
          have qtx_66 : (x_66 : Int32).toInt = (x_45 : Int32).toInt := congrArg Int32.toInt qx_66
          refine lv_bipush (v := 11) hx hb dX12_layDown_58 (by decide) ?_
          refine lv_icmp_ne (tgt := 0) hx hb dX12_layDown_60 (by decide) (fun c_67 => ?_) (fun c_67 => ?_)
          · skip
            have hb_68 : (x_43 : Int32).toInt < (vy_8 : Int32).toInt ∧ 1 ≤ (vy_8 : Int32).toInt := by
              have z_1 := Int32.lt_iff_toInt_lt.mp (Int32.not_le.mp c_24)
              have z_2 := Int32.le_iff_toInt_le.mp (Int32.not_lt.mp c_36)
              have z_3 : ¬ (x_66 : Int32).toInt = (11 : Int32).toInt := fun z => c_67 (Int32.toInt_inj.mp z)
              have y_0 : (0 : Int32).toInt = 0 := by decide
              have y_11 : (11 : Int32).toInt = 11 := by decide
              have y_1 : (1 : Int32).toInt = 1 := by decide
              have t_x_43 : x_43.toInt = (vy_8 : Int32).toInt - (1 : Int32).toInt := by rw [ex_43]; exact sub_toInt (by omega) (by omega)
              omega
            have ha_69 : (sv_61 (Mv 5).toNatClampNeg).toInt + (x_43 : Int32).toInt = ((Mf 3) (Mv 5).toNatClampNeg).toInt + ((Mv 9) : Int32).toInt ∧ 0 ≤ (x_43 : Int32).toInt ∧ (x_43 : Int32).toInt ≤ ((Mv 9) : Int32).toInt := by
              have z_1 := Int32.lt_iff_toInt_lt.mp (Int32.not_le.mp c_24)
              have z_2 := Int32.le_iff_toInt_le.mp (Int32.not_lt.mp c_36)
              have z_3 : ¬ (x_66 : Int32).toInt = (11 : Int32).toInt := fun z => c_67 (Int32.toInt_inj.mp z)
              have y_0 : (0 : Int32).toInt = 0 := by decide
              have y_11 : (11 : Int32).toInt = 11 := by decide
              have y_1 : (1 : Int32).toInt = 1 := by decide
              have t_x_43 : x_43.toInt = (vy_8 : Int32).toInt - (1 : Int32).toInt := by rw [ex_43]; exact sub_toInt (by omega) (by omega)
              omega
            have hr_70 : (400 * ((Mv 5) : Int32).toInt + ((Mf 3) (Mv 5).toNatClampNeg).toInt) ≤ (400 * ((Mv 5) : Int32).toInt + ((Mf 3) (Mv 5).toNatClampNeg).toInt) := by
              have z_1 := Int32.lt_iff_toInt_lt.mp (Int32.not_le.mp c_24)
              have z_2 := Int32.le_iff_toInt_le.mp (Int32.not_lt.mp c_36)
              have z_3 : ¬ (x_66 : Int32).toInt = (11 : Int32).toInt := fun z => c_67 (Int32.toInt_inj.mp z)
              have y_0 : (0 : Int32).toInt = 0 := by decide
              have y_11 : (11 : Int32).toInt = 11 := by decide
              omega
            have hr_71 : (400 * ((Mv 5) : Int32).toInt + ((Mf 3) (Mv 5).toNatClampNeg).toInt) ≤ (400 * ((Mv 5) : Int32).toInt + (vy_10 (Mv 5).toNatClampNeg).toInt) := by
              have z_1 := Int32.lt_iff_toInt_lt.mp (Int32.not_le.mp c_24)
              have z_2 := Int32.le_iff_toInt_le.mp (Int32.not_lt.mp c_36)
              have z_3 : ¬ (x_66 : Int32).toInt = (11 : Int32).toInt := fun z => c_67 (Int32.toInt_inj.mp z)
              have y_0 : (0 : Int32).toInt = 0 := by decide
              have y_11 : (11 : Int32).toInt = 11 := by decide
              omega
            have hr_72 : (x_45 : Int32).toInt ≠ 91 := by
              have z_1 := Int32.lt_iff_toInt_lt.mp (Int32.not_le.mp c_24)
              have z_2 := Int32.le_iff_toInt_le.mp (Int32.not_lt.mp c_36)
              have z_3 : ¬ (x_66 : Int32).toInt = (11 : Int32).toInt := fun z => c_67 (Int32.toInt_inj.mp z)
              have y_0 : (0 : Int32).toInt = 0 := by decide
              have y_11 : (11 : Int32).toInt = 11 := by decide
              omega
            have hi_73 : (x_43 : Int32).toInt = (vy_8 : Int32).toInt - 1 := by
              have z_1 := Int32.lt_iff_toInt_lt.mp (Int32.not_le.mp c_24)
              have z_2 := Int32.le_iff_toInt_le.mp (Int32.not_lt.mp c_36)
              have z_3 : ¬ (x_66 : Int32).toInt = (11 : Int32).toInt := fun z => c_67 (Int32.toInt_inj.mp z)
              have y_0 : (0 : Int32).toInt = 0 := by decide
              have y_11 : (11 : Int32).toInt = 11 := by decide
              have y_1 : (1 : Int32).toInt = 1 := by decide
              have t_x_43 : x_43.toInt = (vy_8 : Int32).toInt - (1 : Int32).toInt := by rw [ex_43]; exact sub_toInt (by omega) (by omega)
              omega
            have hr_74 : 0 ≤ (x_43 : Int32).toInt := by
              have z_1 := Int32.lt_iff_toInt_lt.mp (Int32.not_le.mp c_24)
              have z_2 := Int32.le_iff_toInt_le.mp (Int32.not_lt.mp c_36)
              have z_3 : ¬ (x_66 : Int32).toInt = (11 : Int32).toInt := fun z => c_67 (Int32.toInt_inj.mp z)
              have y_0 : (0 : Int32).toInt = 0 := by decide
              have y_11 : (11 : Int32).toInt = 11 := by decide
              have y_1 : (1 : Int32).toInt = 1 := by decide
              have t_x_43 : x_43.toInt = (vy_8 : Int32).toInt - (1 : Int32).toInt := by rw [ex_43]; exact sub_toInt (by omega) (by omega)
              omega
            have hr_75 : ((x_45 : Int32).toInt = 11 ∧ (vy_11 : Int32).toInt = (vy_11 : Int32).toInt - 1) ∨ (((x_45 : Int32).toInt = 12 ∨ (x_45 : Int32).toInt = 13) ∧ (vy_11 : Int32).toInt = (vy_11 : Int32).toInt) := by
              have z_1 := Int32.lt_iff_toInt_lt.mp (Int32.not_le.mp c_24)
              have z_2 := Int32.le_iff_toInt_le.mp (Int32.not_lt.mp c_36)
              have z_3 : ¬ (x_66 : Int32).toInt = (11 : Int32).toInt := fun z => c_67 (Int32.toInt_inj.mp z)
              have y_0 : (0 : Int32).toInt = 0 := by decide
              have y_11 : (11 : Int32).toInt = 11 := by decide
              omega
            have hi_76 : (x_43 : Int32).toInt = (vy_8 : Int32).toInt - 1 := by
              have z_1 := Int32.lt_iff_toInt_lt.mp (Int32.not_le.mp c_24)
              have z_2 := Int32.le_iff_toInt_le.mp (Int32.not_lt.mp c_36)
              have z_3 : ¬ (x_66 : Int32).toInt = (11 : Int32).toInt := fun z => c_67 (Int32.toInt_inj.mp z)
              have y_0 : (0 : Int32).toInt = 0 := by decide
              have y_11 : (11 : Int32).toInt = 11 := by decide
              have y_1 : (1 : Int32).toInt = 1 := by decide
              have t_x_43 : x_43.toInt = (vy_8 : Int32).toInt - (1 : Int32).toInt := by rw [ex_43]; exact sub_toInt (by omega) (by omega)
              omega
            have hr_77 : 1 ≤ (vy_8 : Int32).toInt := by
              have z_1 := Int32.lt_iff_toInt_lt.mp (Int32.not_le.mp c_24)
              have z_2 := Int32.le_iff_toInt_le.mp (Int32.not_lt.mp c_36)
              have z_3 : ¬ (x_66 : Int32).toInt = (11 : Int32).toInt := fun z => c_67 (Int32.toInt_inj.mp z)
              have y_0 : (0 : Int32).toInt = 0 := by decide
              have y_11 : (11 : Int32).toInt = 11 := by decide
              omega
            exact ih_13 x_43 sv_60 sv_61 vy_11 _ _ _ (by omega) (pf_54 _ _ pf_62) ha_69 (Agr.trans (k' := (400 * ((Mv 5) : Int32).toInt + ((Mf 3) (Mv 5).toNatClampNeg).toInt)) (Agr.mono pf_17 hr_70) pf_63 ⟨Int.le_refl _, hr_71⟩) (InK.step pf_18 ex_45 hr_72 hi_73 hr_74) (LdP.step pf_19 ex_45 hi_76 hr_77 hr_75) (hP.sub [1, 2, 3, 0] rfl) (hD.sub [1, 2, 3, 0] rfl rfl) hS (lv_sub hl [0, 1] rfl)
          · skip
            refine lv_aload_n hx hb dX12_layDown_63 rfl (lv_at hl 0 rfl) ?_
            refine lv_dup hx hb dX12_layDown_64 rfl ?_
            refine gf_X12_151 hx hb hts hown hK hP 1 rfl rfl dX12_layDown_65 ?_
            refine lv_iconst (v := 1) hx hb dX12_layDown_68 (by decide) ?_
            refine lv_isub hx hb dX12_layDown_69 ?_
            refine lv_topi (fun x_78 ex_78 => ?_)
            refine pf_X12_151 hx hb hts hown hK hP hD hS 1 rfl (Nat.le_of_ble_eq_true rfl) rfl rfl dX12_layDown_70 (fun H locs hP₀ hD₀ hS₀ => ?_)
            replace hP : va_P D classes [((Ma 7), .inl (tc 0, 400, .inl (Mf 7))), ((Ma 0), .inr (12, [.ref (Ma 1), .int (Mv 0), .int (Mv 1), .ref (Ma 2), .ref (Ma 3), .ref (Ma 4), .ref (Ma 5), .ref (Ma 6), .int (Mv 2), .int (Mv 3), .int (Mv 4), .int (Mv 5), .int (Mv 6), .int x_78, .int (Mv 8), .ref (Ma 7), .int x_43, .ref (Ma 8), .int (Mv 10), .ref (Ma 9), .ref (Ma 10), .int (Mv 11), .int (Mv 12), .int (Mv 13), .ref (Ma 11), .int (Mv 14), .ref (Ma 12), .ref (Ma 13), .ref (Ma 14), .ref (Ma 15), .ref (Ma 16), .long (Mj 0), .ref (Ma 17), .ref (Ma 18), .ref (Ma 19), .ref (Ma 20)])), ((Ma 2), .inl (tc 0, 2400, .inl sv_60)), ((Ma 3), .inl (tc 0, 7, .inl sv_61))] H := hP₀
            replace hD : va_D A [((Ma 7), .inl (tc 0, 400, .inl (Mf 7))), ((Ma 0), .inr (12, [.ref (Ma 1), .int (Mv 0), .int (Mv 1), .ref (Ma 2), .ref (Ma 3), .ref (Ma 4), .ref (Ma 5), .ref (Ma 6), .int (Mv 2), .int (Mv 3), .int (Mv 4), .int (Mv 5), .int (Mv 6), .int x_78, .int (Mv 8), .ref (Ma 7), .int x_43, .ref (Ma 8), .int (Mv 10), .ref (Ma 9), .ref (Ma 10), .int (Mv 11), .int (Mv 12), .int (Mv 13), .ref (Ma 11), .int (Mv 14), .ref (Ma 12), .ref (Ma 13), .ref (Ma 14), .ref (Ma 15), .ref (Ma 16), .long (Mj 0), .ref (Ma 17), .ref (Ma 18), .ref (Ma 19), .ref (Ma 20)])), ((Ma 2), .inl (tc 0, 2400, .inl sv_60)), ((Ma 3), .inl (tc 0, 7, .inl sv_61))] := hD₀
            replace hS := hS₀
            clear hP₀ hD₀ hS₀
            refine lv_goto (tgt := 0) hx hb dX12_layDown_73 (by decide) ?_
            have hb_79 : (x_43 : Int32).toInt < (vy_8 : Int32).toInt ∧ 1 ≤ (vy_8 : Int32).toInt := by
              have z_1 := Int32.lt_iff_toInt_lt.mp (Int32.not_le.mp c_24)
              have z_2 := Int32.le_iff_toInt_le.mp (Int32.not_lt.mp c_36)
              have z_3 := congrArg Int32.toInt c_67
              have y_0 : (0 : Int32).toInt = 0 := by decide
              have y_11 : (11 : Int32).toInt = 11 := by decide
              have y_1 : (1 : Int32).toInt = 1 := by decide
              have t_x_43 : x_43.toInt = (vy_8 : Int32).toInt - (1 : Int32).toInt := by rw [ex_43]; exact sub_toInt (by omega) (by omega)
              omega
            have ha_80 : (sv_61 (Mv 5).toNatClampNeg).toInt + (x_43 : Int32).toInt = ((Mf 3) (Mv 5).toNatClampNeg).toInt + ((Mv 9) : Int32).toInt ∧ 0 ≤ (x_43 : Int32).toInt ∧ (x_43 : Int32).toInt ≤ ((Mv 9) : Int32).toInt := by
              have z_1 := Int32.lt_iff_toInt_lt.mp (Int32.not_le.mp c_24)
              have z_2 := Int32.le_iff_toInt_le.mp (Int32.not_lt.mp c_36)
              have z_3 := congrArg Int32.toInt c_67
              have y_0 : (0 : Int32).toInt = 0 := by decide
              have y_11 : (11 : Int32).toInt = 11 := by decide
              have y_1 : (1 : Int32).toInt = 1 := by decide
              have t_x_43 : x_43.toInt = (vy_8 : Int32).toInt - (1 : Int32).toInt := by rw [ex_43]; exact sub_toInt (by omega) (by omega)
              omega
            have hr_81 : (400 * ((Mv 5) : Int32).toInt + ((Mf 3) (Mv 5).toNatClampNeg).toInt) ≤ (400 * ((Mv 5) : Int32).toInt + ((Mf 3) (Mv 5).toNatClampNeg).toInt) := by
              have z_1 := Int32.lt_iff_toInt_lt.mp (Int32.not_le.mp c_24)
              have z_2 := Int32.le_iff_toInt_le.mp (Int32.not_lt.mp c_36)
              have z_3 := congrArg Int32.toInt c_67
              have y_0 : (0 : Int32).toInt = 0 := by decide
              have y_11 : (11 : Int32).toInt = 11 := by decide
              omega
            have hr_82 : (400 * ((Mv 5) : Int32).toInt + ((Mf 3) (Mv 5).toNatClampNeg).toInt) ≤ (400 * ((Mv 5) : Int32).toInt + (vy_10 (Mv 5).toNatClampNeg).toInt) := by
              have z_1 := Int32.lt_iff_toInt_lt.mp (Int32.not_le.mp c_24)
              have z_2 := Int32.le_iff_toInt_le.mp (Int32.not_lt.mp c_36)
              have z_3 := congrArg Int32.toInt c_67
              have y_0 : (0 : Int32).toInt = 0 := by decide
              have y_11 : (11 : Int32).toInt = 11 := by decide
              omega
            have hr_83 : (x_45 : Int32).toInt ≠ 91 := by
              have z_1 := Int32.lt_iff_toInt_lt.mp (Int32.not_le.mp c_24)
              have z_2 := Int32.le_iff_toInt_le.mp (Int32.not_lt.mp c_36)
              have z_3 := congrArg Int32.toInt c_67
              have y_0 : (0 : Int32).toInt = 0 := by decide
              have y_11 : (11 : Int32).toInt = 11 := by decide
              omega
            have hi_84 : (x_43 : Int32).toInt = (vy_8 : Int32).toInt - 1 := by
              have z_1 := Int32.lt_iff_toInt_lt.mp (Int32.not_le.mp c_24)
              have z_2 := Int32.le_iff_toInt_le.mp (Int32.not_lt.mp c_36)
              have z_3 := congrArg Int32.toInt c_67
              have y_0 : (0 : Int32).toInt = 0 := by decide
              have y_11 : (11 : Int32).toInt = 11 := by decide
              have y_1 : (1 : Int32).toInt = 1 := by decide
              have t_x_43 : x_43.toInt = (vy_8 : Int32).toInt - (1 : Int32).toInt := by rw [ex_43]; exact sub_toInt (by omega) (by omega)
              omega
            have hr_85 : 0 ≤ (x_43 : Int32).toInt := by
              have z_1 := Int32.lt_iff_toInt_lt.mp (Int32.not_le.mp c_24)
              have z_2 := Int32.le_iff_toInt_le.mp (Int32.not_lt.mp c_36)
              have z_3 := congrArg Int32.toInt c_67
              have y_0 : (0 : Int32).toInt = 0 := by decide
              have y_11 : (11 : Int32).toInt = 11 := by decide
              have y_1 : (1 : Int32).toInt = 1 := by decide
              have t_x_43 : x_43.toInt = (vy_8 : Int32).toInt - (1 : Int32).toInt := by rw [ex_43]; exact sub_toInt (by omega) (by omega)
              omega
            have hr_86 : ((x_45 : Int32).toInt = 11 ∧ (x_78 : Int32).toInt = (vy_11 : Int32).toInt - 1) ∨ (((x_45 : Int32).toInt = 12 ∨ (x_45 : Int32).toInt = 13) ∧ (x_78 : Int32).toInt = (vy_11 : Int32).toInt) := by
              have z_1 := Int32.lt_iff_toInt_lt.mp (Int32.not_le.mp c_24)
              have z_2 := Int32.le_iff_toInt_le.mp (Int32.not_lt.mp c_36)
              have z_3 := congrArg Int32.toInt c_67
              have y_0 : (0 : Int32).toInt = 0 := by decide
              have y_11 : (11 : Int32).toInt = 11 := by decide
              have y_1 : (1 : Int32).toInt = 1 := by decide
              have t_x_78 : x_78.toInt = (vy_11 : Int32).toInt - (1 : Int32).toInt := by rw [ex_78]; exact sub_toInt (by omega) (by omega)
              omega
            have hi_87 : (x_43 : Int32).toInt = (vy_8 : Int32).toInt - 1 := by
              have z_1 := Int32.lt_iff_toInt_lt.mp (Int32.not_le.mp c_24)
              have z_2 := Int32.le_iff_toInt_le.mp (Int32.not_lt.mp c_36)
              have z_3 := congrArg Int32.toInt c_67
              have y_0 : (0 : Int32).toInt = 0 := by decide
              have y_11 : (11 : Int32).toInt = 11 := by decide
              have y_1 : (1 : Int32).toInt = 1 := by decide
              have t_x_43 : x_43.toInt = (vy_8 : Int32).toInt - (1 : Int32).toInt := by rw [ex_43]; exact sub_toInt (by omega) (by omega)
              omega
            have hr_88 : 1 ≤ (vy_8 : Int32).toInt := by
              have z_1 := Int32.lt_iff_toInt_lt.mp (Int32.not_le.mp c_24)
              have z_2 := Int32.le_iff_toInt_le.mp (Int32.not_lt.mp c_36)
              have z_3 := congrArg Int32.toInt c_67
              have y_0 : (0 : Int32).toInt = 0 := by decide
              have y_11 : (11 : Int32).toInt = 11 := by decide
              omega
            exact ih_13 x_43 sv_60 sv_61 x_78 _ _ _ (by omega) (pf_54 _ _ pf_62) ha_80 (Agr.trans (k' := (400 * ((Mv 5) : Int32).toInt + ((Mf 3) (Mv 5).toNatClampNeg).toInt)) (Agr.mono pf_17 hr_81) pf_63 ⟨Int.le_refl _, hr_82⟩) (InK.step pf_18 ex_45 hr_83 hi_84 hr_85) (LdP.step pf_19 ex_45 hi_87 hr_88 hr_86) (hP.sub [1, 2, 3, 0] rfl) (hD.sub [1, 2, 3, 0] rfl rfl) hS (lv_sub hl [0, 1] rfl)
  have ha_89 : ((Mf 3) (Mv 5).toNatClampNeg).toInt + ((Mv 9) : Int32).toInt = ((Mf 3) (Mv 5).toNatClampNeg).toInt + ((Mv 9) : Int32).toInt ∧ 0 ≤ ((Mv 9) : Int32).toInt ∧ ((Mv 9) : Int32).toInt ≤ ((Mv 9) : Int32).toInt := by
    omega
  exact loop_14 _ (Mv 9) (Mf 2) (Mf 3) (Mv 7) _ _ _ (Nat.lt_succ_self _) h_ls ha_89 (Agr.rf) (InK.rf) (LdP.rf h_os) hP hD hS hl
set_option maxRecDepth 100000 in
theorem cu_fX12_layDown (l : Launch) (D : va_G) (tc : Nat → ClassId) (sk : (Nat → Nat) × (Nat → Nat)) (Ma_0 : Nat) (Ma_1 : Nat) (Ma_2 : Nat) (Ma_3 : Nat) (Ma_4 : Nat) (Ma_5 : Nat) (Ma_6 : Nat) (Ma_7 : Nat) (Ma_8 : Nat) (Ma_9 : Nat) (Ma_10 : Nat) (Ma_11 : Nat) (Ma_12 : Nat) (Ma_13 : Nat) (Ma_14 : Nat) (Ma_15 : Nat) (Ma_16 : Nat) (Ma_17 : Nat) (Ma_18 : Nat) (Ma_19 : Nat) (Ma_20 : Nat) (Mv_0 : Int32) (Mv_1 : Int32) (Mv_2 : Int32) (Mv_3 : Int32) (Mv_4 : Int32) (Mv_5 : Int32) (Mv_6 : Int32) (Mv_7 : Int32) (Mv_8 : Int32) (Mv_9 : Int32) (Mv_10 : Int32) (Mv_11 : Int32) (Mv_12 : Int32) (Mv_13 : Int32) (Mv_14 : Int32) (Mf_2 : Nat → Int32) (Mf_3 : Nat → Int32) (Mf_7 : Nat → Int32) (Mj_0 : Int64) (x1 : Int32) (b : Int32) (h_ls : LSR Mf_7 Mv_9 Mf_2 Mf_3 Mv_5 b Mv_6) (h_x : 1 ≤ x1.toInt ∧ x1.toInt ≤ 3) (h_s : (Mf_3 Mv_5.toNatClampNeg).toInt + (Mv_9 : Int32).toInt ≤ 400) (h_os : OsP Mf_7 Mv_9 Mv_7) : Ct l yX12_layDown cX12_layDown 2 none { frames := 1, cells := 0, slots := 0, locals := 22 } D tc sk [.ref Ma_0, .int x1] [(Ma_0, .inr (12, [.ref Ma_1, .int Mv_0, .int Mv_1, .ref Ma_2, .ref Ma_3, .ref Ma_4, .ref Ma_5, .ref Ma_6, .int Mv_2, .int Mv_3, .int Mv_4, .int Mv_5, .int Mv_6, .int Mv_7, .int Mv_8, .ref Ma_7, .int Mv_9, .ref Ma_8, .int Mv_10, .ref Ma_9, .ref Ma_10, .int Mv_11, .int Mv_12, .int Mv_13, .ref Ma_11, .int Mv_14, .ref Ma_12, .ref Ma_13, .ref Ma_14, .ref Ma_15, .ref Ma_16, .long Mj_0, .ref Ma_17, .ref Ma_18, .ref Ma_19, .ref Ma_20])), (Ma_2, .inl (tc 0, 2400, .inl Mf_2)), (Ma_3, .inl (tc 0, 7, .inl Mf_3)), (Ma_7, .inl (tc 0, 400, .inl Mf_7))] (fun (v : Option Value) (u : (Int32) × (Int32) × (Nat → Int32) × (Nat → Int32)) => match u with | (oo0x1, oo0x2, oo0x3, oo0x4) => v = none ∧ (LSR Mf_7 oo0x2 oo0x3 oo0x4 Mv_5 b Mv_6) ∧ ((oo0x4 Mv_5.toNatClampNeg).toInt + (oo0x2 : Int32).toInt = (Mf_3 Mv_5.toNatClampNeg).toInt + (Mv_9 : Int32).toInt ∧ 0 ≤ (oo0x2 : Int32).toInt ∧ (oo0x2 : Int32).toInt ≤ (Mv_9 : Int32).toInt) ∧ (Agr Mf_2 oo0x3 (400 * (Mv_5 : Int32).toInt + (Mf_3 Mv_5.toNatClampNeg).toInt)) ∧ (LdE Mf_7 oo0x2 x1) ∧ (InK Mf_7 Mv_9 oo0x2) ∧ (LdP Mf_7 Mv_9 oo0x2 oo0x1) ∧ (T11 Mf_7 oo0x2)) (fun (u : (Int32) × (Int32) × (Nat → Int32) × (Nat → Int32)) => match u with | (oo0x1, oo0x2, oo0x3, oo0x4) => [(Ma_0, .inr (12, [.ref Ma_1, .int Mv_0, .int Mv_1, .ref Ma_2, .ref Ma_3, .ref Ma_4, .ref Ma_5, .ref Ma_6, .int Mv_2, .int Mv_3, .int Mv_4, .int Mv_5, .int Mv_6, .int oo0x1, .int Mv_8, .ref Ma_7, .int oo0x2, .ref Ma_8, .int Mv_10, .ref Ma_9, .ref Ma_10, .int Mv_11, .int Mv_12, .int Mv_13, .ref Ma_11, .int Mv_14, .ref Ma_12, .ref Ma_13, .ref Ma_14, .ref Ma_15, .ref Ma_16, .long Mj_0, .ref Ma_17, .ref Ma_18, .ref Ma_19, .ref Ma_20])), (Ma_2, .inl (tc 0, 2400, .inl oo0x3)), (Ma_3, .inl (tc 0, 7, .inl oo0x4)), (Ma_7, .inl (tc 0, 400, .inl Mf_7))]) 0 0 :=
  ct_fX12_layDown l D tc sk (fun k => ([Ma_0, Ma_1, Ma_2, Ma_3, Ma_4, Ma_5, Ma_6, Ma_7, Ma_8, Ma_9, Ma_10, Ma_11, Ma_12, Ma_13, Ma_14, Ma_15, Ma_16, Ma_17, Ma_18, Ma_19, Ma_20] : List (Nat)).getD k 0) (fun k => ([Mv_0, Mv_1, Mv_2, Mv_3, Mv_4, Mv_5, Mv_6, Mv_7, Mv_8, Mv_9, Mv_10, Mv_11, Mv_12, Mv_13, Mv_14] : List (Int32)).getD k 0) (fun k => ([(fun _ => 0), (fun _ => 0), Mf_2, Mf_3, (fun _ => 0), (fun _ => 0), (fun _ => 0), Mf_7] : List (Nat → Int32)).getD k (fun _ => 0)) (fun k => ([Mj_0] : List (Int64)).getD k 0) x1 b h_ls h_x h_s h_os
set_option maxHeartbeats 4000000 in
set_option maxRecDepth 100000 in
theorem ct_fX12_fact (l : Launch) (D : va_G) (tc : Nat → ClassId) (sk : (Nat → Nat) × (Nat → Nat)) (Ma : Nat → Nat) (Mv : Nat → Int32) (Mf : Nat → Nat → Int32) (Mj : Nat → Int64) (b : Int32) (R : Except Int (Nat × Nat)) (h_nx : 0 ≤ ((Mv 2) : Int32).toInt ∧ ((Mv 2) : Int32).toInt ≤ ((Mv 0) : Int32).toInt ∧ ((Mv 0) : Int32).toInt ≤ 400) (h_lb : LBR (Mf 7) (Mv 9) (Mf 2) (Mf 3) (Mv 5) b (Mv 6)) (h_s : ((Mf 3) (Mv 5).toNatClampNeg).toInt + ((Mv 9) : Int32).toInt ≤ ((Mv 2) : Int32).toInt) (h_md : 0 ≤ ((Mv 6) : Int32).toInt ∧ ((Mv 6) : Int32).toInt ≤ 60) (h_bs : ByS (Mf 1)) (h_fc : FcI R (rB (Mf 1) (Mv 0)) (Mf 7) (Mv 9) (Mv 7) (Mv 2) (Mv 6) (Mv 3)) : Ct l yX12_fact cX12_fact 3 (some .boolean) { frames := 7, cells := 0, slots := 0, locals := 154 } D tc sk [.ref (Ma 0)] [((Ma 0), .inr (12, [.ref (Ma 1), .int (Mv 0), .int (Mv 1), .ref (Ma 2), .ref (Ma 3), .ref (Ma 4), .ref (Ma 5), .ref (Ma 6), .int (Mv 2), .int (Mv 3), .int (Mv 4), .int (Mv 5), .int (Mv 6), .int (Mv 7), .int (Mv 8), .ref (Ma 7), .int (Mv 9), .ref (Ma 8), .int (Mv 10), .ref (Ma 9), .ref (Ma 10), .int (Mv 11), .int (Mv 12), .int (Mv 13), .ref (Ma 11), .int (Mv 14), .ref (Ma 12), .ref (Ma 13), .ref (Ma 14), .ref (Ma 15), .ref (Ma 16), .long (Mj 0), .ref (Ma 17), .ref (Ma 18), .ref (Ma 19), .ref (Ma 20)])), ((Ma 1), .inl (tc 2, 400, .inl (Mf 1))), ((Ma 2), .inl (tc 0, 2400, .inl (Mf 2))), ((Ma 3), .inl (tc 0, 7, .inl (Mf 3))), ((Ma 7), .inl (tc 0, 400, .inl (Mf 7)))] (fun (v : Option Value) (u : (Int32) × (Int32) × (Int32) × (Int32) × (Int32) × (Int32) × (Nat → Int32) × (Nat → Int32) × (Nat → Int32)) => match u with | (oo0x1, oo0x2, oo0x3, oo0x4, oo0x5, oo0x6, oo0x7, oo0x8, oo0x9) => ∃ r : Int32, v = some (.int r) ∧ (((r.toInt = 0 ∧ ¬ (oo0x2 : Int32).toInt = 0) ∨ (r.toInt = 1 ∧ (oo0x8 (Mv 5).toNatClampNeg).toInt + (oo0x6 : Int32).toInt + ((Mv 2) : Int32).toInt ≤ ((Mf 3) (Mv 5).toNatClampNeg).toInt + ((Mv 9) : Int32).toInt + (oo0x1 : Int32).toInt ∧ ((Mv 2) : Int32).toInt + 1 ≤ (oo0x1 : Int32).toInt ∧ ((Mf 3) (Mv 5).toNatClampNeg).toInt ≤ (oo0x8 (Mv 5).toNatClampNeg).toInt))) ∧ (((Mv 2) : Int32).toInt ≤ (oo0x1 : Int32).toInt ∧ (oo0x1 : Int32).toInt ≤ ((Mv 0) : Int32).toInt) ∧ (((Mv 6) : Int32).toInt ≤ (oo0x4 : Int32).toInt ∧ (oo0x4 : Int32).toInt ≤ 60) ∧ (Agr (Mf 2) oo0x7 (400 * ((Mv 5) : Int32).toInt + ((Mf 3) (Mv 5).toNatClampNeg).toInt)) ∧ (r.toInt = 1 → (LSR oo0x9 oo0x6 oo0x7 oo0x8 (Mv 5) b oo0x4) ∧ (FcO R (rB (Mf 1) (Mv 0)) oo0x9 oo0x6 oo0x5 oo0x1 oo0x4 oo0x2)) ∧ (r.toInt = 0 → (RfE R oo0x2))) (fun (u : (Int32) × (Int32) × (Int32) × (Int32) × (Int32) × (Int32) × (Nat → Int32) × (Nat → Int32) × (Nat → Int32)) => match u with | (oo0x1, oo0x2, oo0x3, oo0x4, oo0x5, oo0x6, oo0x7, oo0x8, oo0x9) => [((Ma 0), .inr (12, [.ref (Ma 1), .int (Mv 0), .int (Mv 1), .ref (Ma 2), .ref (Ma 3), .ref (Ma 4), .ref (Ma 5), .ref (Ma 6), .int oo0x1, .int oo0x2, .int oo0x3, .int (Mv 5), .int oo0x4, .int oo0x5, .int (Mv 8), .ref (Ma 7), .int oo0x6, .ref (Ma 8), .int (Mv 10), .ref (Ma 9), .ref (Ma 10), .int (Mv 11), .int (Mv 12), .int (Mv 13), .ref (Ma 11), .int (Mv 14), .ref (Ma 12), .ref (Ma 13), .ref (Ma 14), .ref (Ma 15), .ref (Ma 16), .long (Mj 0), .ref (Ma 17), .ref (Ma 18), .ref (Ma 19), .ref (Ma 20)])), ((Ma 1), .inl (tc 2, 400, .inl (Mf 1))), ((Ma 2), .inl (tc 0, 2400, .inl oo0x7)), ((Ma 3), .inl (tc 0, 7, .inl oo0x8)), ((Ma 7), .inl (tc 0, 400, .inl oo0x9))]) 0 0 := by
  refine Ct.start (by decide) (Nat.le_of_ble_eq_true rfl) (fun p e s m below meth c A ls hx hb hr hlk hin hml hown hts hK hX hP hD hA hl hS => ?_)
  have hl : lv_has ls 3 [(0, .ref (Ma 0))] := hl
  obtain ⟨pn_1, pf_2, pf_3⟩ := id h_lb
  have ar_h_lb := LBR.ar h_lb
  have ar_pf_3 := Cd.ar pf_3
  have ar_h_fc := OsP.ar h_fc.1
  have aw_h_fc := h_fc.2.1
  refine lv_iconst (v := 1) hx hb dX12_fact_0 (by decide) ?_
  refine lv_istore_n (lv' := [(1, .int 1), (0, .ref (Ma 0))]) hx hb dX12_fact_1 rfl hl (by decide) rfl (fun ls hl₀ => ?_)
  replace hl := hl₀
  clear hl₀
  have loop_18 : ∀ (n_16 : Nat) (vy_10 : Int32) (vy_11 : Int32) (vy_12 : Int32) (vy_13 : Int32) (vy_14 : Int32) (vy_15 : Nat → Int32) (H : Heap) (locs : List Loc) (ls : Array Slot), (2 * (400 - (vy_11 : Int32).toInt) + (vy_10 : Int32).toInt).toNat < n_16 → (0 ≤ (vy_11 : Int32).toInt ∧ (vy_11 : Int32).toInt ≤ ((Mv 0) : Int32).toInt ∧ ((Mv 0) : Int32).toInt ≤ 400) → ((Mv 2).toInt ≤ (vy_11 : Int32).toInt) → (0 ≤ (vy_10 : Int32).toInt ∧ (vy_10 : Int32).toInt ≤ 1) → (LBR vy_15 vy_14 (Mf 2) (Mf 3) (Mv 5) b (Mv 6)) → ((vy_14 : Int32).toInt + ((Mv 2) : Int32).toInt ≤ ((Mv 9) : Int32).toInt + (vy_11 : Int32).toInt ∧ 0 ≤ (vy_14 : Int32).toInt) → (FcL R (rB (Mf 1) (Mv 0)) vy_15 vy_14 vy_13 vy_11 (Mv 6) vy_12 vy_10) → va_P D classes [((Ma 0), .inr (12, [.ref (Ma 1), .int (Mv 0), .int (Mv 1), .ref (Ma 2), .ref (Ma 3), .ref (Ma 4), .ref (Ma 5), .ref (Ma 6), .int vy_11, .int vy_12, .int (Mv 4), .int (Mv 5), .int (Mv 6), .int vy_13, .int (Mv 8), .ref (Ma 7), .int vy_14, .ref (Ma 8), .int (Mv 10), .ref (Ma 9), .ref (Ma 10), .int (Mv 11), .int (Mv 12), .int (Mv 13), .ref (Ma 11), .int (Mv 14), .ref (Ma 12), .ref (Ma 13), .ref (Ma 14), .ref (Ma 15), .ref (Ma 16), .long (Mj 0), .ref (Ma 17), .ref (Ma 18), .ref (Ma 19), .ref (Ma 20)])), ((Ma 1), .inl (tc 2, 400, .inl (Mf 1))), ((Ma 2), .inl (tc 0, 2400, .inl (Mf 2))), ((Ma 3), .inl (tc 0, 7, .inl (Mf 3))), ((Ma 7), .inl (tc 0, 400, .inl vy_15))] H → va_D A [((Ma 0), .inr (12, [.ref (Ma 1), .int (Mv 0), .int (Mv 1), .ref (Ma 2), .ref (Ma 3), .ref (Ma 4), .ref (Ma 5), .ref (Ma 6), .int vy_11, .int vy_12, .int (Mv 4), .int (Mv 5), .int (Mv 6), .int vy_13, .int (Mv 8), .ref (Ma 7), .int vy_14, .ref (Ma 8), .int (Mv 10), .ref (Ma 9), .ref (Ma 10), .int (Mv 11), .int (Mv 12), .int (Mv 13), .ref (Ma 11), .int (Mv 14), .ref (Ma 12), .ref (Ma 13), .ref (Ma 14), .ref (Ma 15), .ref (Ma 16), .long (Mj 0), .ref (Ma 17), .ref (Ma 18), .ref (Ma 19), .ref (Ma 20)])), ((Ma 1), .inl (tc 2, 400, .inl (Mf 1))), ((Ma 2), .inl (tc 0, 2400, .inl (Mf 2))), ((Ma 3), .inl (tc 0, 7, .inl (Mf 3))), ((Ma 7), .inl (tc 0, 400, .inl vy_15))] → va_S A s.heap H locs → lv_has ls 3 [(1, .int vy_10), (0, .ref (Ma 0))] → W p l e ({ frames := 7, cells := 0, slots := 0, locals := 154 }) s m ([.ref (Ma 0)].toArray) below meth c H locs 0 0 (MQ below (QW (fun (v : Option Value) (u : (Int32) × (Int32) × (Int32) × (Int32) × (Int32) × (Int32) × (Nat → Int32) × (Nat → Int32) × (Nat → Int32)) => match u with | (oo0x1, oo0x2, oo0x3, oo0x4, oo0x5, oo0x6, oo0x7, oo0x8, oo0x9) => ∃ r : Int32, v = some (.int r) ∧ (((r.toInt = 0 ∧ ¬ (oo0x2 : Int32).toInt = 0) ∨ (r.toInt = 1 ∧ (oo0x8 (Mv 5).toNatClampNeg).toInt + (oo0x6 : Int32).toInt + ((Mv 2) : Int32).toInt ≤ ((Mf 3) (Mv 5).toNatClampNeg).toInt + ((Mv 9) : Int32).toInt + (oo0x1 : Int32).toInt ∧ ((Mv 2) : Int32).toInt + 1 ≤ (oo0x1 : Int32).toInt ∧ ((Mf 3) (Mv 5).toNatClampNeg).toInt ≤ (oo0x8 (Mv 5).toNatClampNeg).toInt))) ∧ (((Mv 2) : Int32).toInt ≤ (oo0x1 : Int32).toInt ∧ (oo0x1 : Int32).toInt ≤ ((Mv 0) : Int32).toInt) ∧ (((Mv 6) : Int32).toInt ≤ (oo0x4 : Int32).toInt ∧ (oo0x4 : Int32).toInt ≤ 60) ∧ (Agr (Mf 2) oo0x7 (400 * ((Mv 5) : Int32).toInt + ((Mf 3) (Mv 5).toNatClampNeg).toInt)) ∧ (r.toInt = 1 → (LSR oo0x9 oo0x6 oo0x7 oo0x8 (Mv 5) b oo0x4) ∧ (FcO R (rB (Mf 1) (Mv 0)) oo0x9 oo0x6 oo0x5 oo0x1 oo0x4 oo0x2)) ∧ (r.toInt = 0 → (RfE R oo0x2))) (BW D (fun (u : (Int32) × (Int32) × (Int32) × (Int32) × (Int32) × (Int32) × (Nat → Int32) × (Nat → Int32) × (Nat → Int32)) => match u with | (oo0x1, oo0x2, oo0x3, oo0x4, oo0x5, oo0x6, oo0x7, oo0x8, oo0x9) => [((Ma 0), .inr (12, [.ref (Ma 1), .int (Mv 0), .int (Mv 1), .ref (Ma 2), .ref (Ma 3), .ref (Ma 4), .ref (Ma 5), .ref (Ma 6), .int oo0x1, .int oo0x2, .int oo0x3, .int (Mv 5), .int oo0x4, .int oo0x5, .int (Mv 8), .ref (Ma 7), .int oo0x6, .ref (Ma 8), .int (Mv 10), .ref (Ma 9), .ref (Ma 10), .int (Mv 11), .int (Mv 12), .int (Mv 13), .ref (Ma 11), .int (Mv 14), .ref (Ma 12), .ref (Ma 13), .ref (Ma 14), .ref (Ma 15), .ref (Ma 16), .long (Mj 0), .ref (Ma 17), .ref (Ma 18), .ref (Ma 19), .ref (Ma 20)])), ((Ma 1), .inl (tc 2, 400, .inl (Mf 1))), ((Ma 2), .inl (tc 0, 2400, .inl oo0x7)), ((Ma 3), .inl (tc 0, 7, .inl oo0x8)), ((Ma 7), .inl (tc 0, 400, .inl oo0x9))]) A) A) ([.ref (Ma 0)].toArray) s 0 0 A) (F0 m 2 ls []) := by
    clear hP hD hS hl
    intro n_16
    induction n_16 with
    | zero =>
      intro vy_10 vy_11 vy_12 vy_13 vy_14 vy_15 H locs ls h1
      exact absurd h1 (Nat.not_lt_zero _)
    | succ n_16 ih_17 =>
      intro vy_10 vy_11 vy_12 vy_13 vy_14 vy_15 H locs ls hn_25 pf_19 pf_20 pf_21 pf_22 pf_23 pf_24 hP hD hS hl
      obtain ⟨pn_26, pf_27, pf_28⟩ := id pf_22
      have ar_pf_22 := LBR.ar pf_22
      have ar_pf_28 := Cd.ar pf_28
      have ar_pf_24 := OsP.ar pf_24.1.1
      have aw_pf_24 := pf_24.1.2
      refine lv_iload_n hx hb dX12_fact_2 rfl (lv_at hl 0 rfl) ?_
      refine lv_if_eq (tgt := 75) hx hb dX12_fact_3 (by decide) (fun c_29 => ?_) (fun c_29 => ?_)
      · skip
        refine lv_aload_n hx hb dX12_fact_75 rfl (lv_at hl 1 rfl) ?_
        have ha_30 : ((Mf 3) (Mv 5).toNatClampNeg).toInt ≤ (vy_11 : Int32).toInt := by
          have z_1 := congrArg Int32.toInt c_29
          have y_0 : (0 : Int32).toInt = 0 := by decide
          omega
        have ha_31 : (vy_12 : Int32).toInt = 0 := by
          have z_1 := congrArg Int32.toInt c_29
          have y_0 : (0 : Int32).toInt = 0 := by decide
          omega
        refine cV (a := (Ma 0)) (As := []) (rest := []) (wr := [((Ma 7), .inl (tc 0, 400, .inl vy_15))]) ⟨hx, hb, hml, hown, hts⟩ hK hX hA (cu_fX12_compare l D tc sk (Ma 0) (Ma 1) (Ma 2) (Ma 3) (Ma 4) (Ma 5) (Ma 6) (Ma 7) (Ma 8) (Ma 9) (Ma 10) (Ma 11) (Ma 12) (Ma 13) (Ma 14) (Ma 15) (Ma 16) (Ma 17) (Ma 18) (Ma 19) (Ma 20) (Mv 0) (Mv 1) vy_11 vy_12 (Mv 4) (Mv 5) (Mv 6) vy_13 (Mv 8) vy_14 (Mv 10) (Mv 11) (Mv 12) (Mv 13) (Mv 14) (Mf 1) (Mf 2) (Mf 3) (Mj 0) b pn_26 pf_19 pf_28 ha_30 h_md h_bs ha_31) k_1334 k_1331 k_1333 k_52 k_106 pl_X12_compare ⟨Nat.le_of_ble_eq_true rfl, Nat.le_of_ble_eq_true rfl⟩ rfl rfl (va_recv hK hP (ci := 12) (q0 := 0) rfl rfl) hP hD hS [0, 1, 2, 3] [4] rfl rfl rfl rfl rfl (by decide) rfl hl.1 rfl (Nat.le_of_ble_eq_true rfl) dX12_fact_76 ⟨Nat.le_of_ble_eq_true rfl, Nat.le_of_ble_eq_true rfl⟩ (fun v_32 u_33 H locs hv_34 hP₀ hD₀ hS₀ => ?_)
        obtain ⟨sv_35, sv_36, sv_37, sv_38, sv_39, sv_40⟩ := u_33
        obtain ⟨r_44, rfl, he_45, pf_41, pf_42, pf_43, hm_47, hm_48⟩ := hv_34
        have he_45 : ((r_44.toInt = 0 ∧ ¬ (sv_36 : Int32).toInt = 0) ∨ (r_44.toInt = 1 ∧ ((Mf 3) (Mv 5).toNatClampNeg).toInt + 1 ≤ (sv_40 (Mv 5).toNatClampNeg).toInt ∧ (sv_40 (Mv 5).toNatClampNeg).toInt + (vy_11 : Int32).toInt ≤ ((Mf 3) (Mv 5).toNatClampNeg).toInt + (sv_35 : Int32).toInt ∧ (vy_11 : Int32).toInt + 1 ≤ (sv_35 : Int32).toInt)) := he_45
        have pf_41 : (vy_11 : Int32).toInt ≤ (sv_35 : Int32).toInt ∧ (sv_35 : Int32).toInt ≤ ((Mv 0) : Int32).toInt := pf_41
        have pf_42 : ((Mv 6) : Int32).toInt ≤ (sv_38 : Int32).toInt ∧ (sv_38 : Int32).toInt ≤ 60 := pf_42
        have pf_43 : Agr (Mf 2) sv_39 (400 * ((Mv 5) : Int32).toInt + ((Mf 3) (Mv 5).toNatClampNeg).toInt) := pf_43
        refine W.eq (g2 := F0 m 79 ls [.int r_44]) rfl ?_
        replace hP : va_P D classes [((Ma 7), .inl (tc 0, 400, .inl vy_15)), ((Ma 0), .inr (12, [.ref (Ma 1), .int (Mv 0), .int (Mv 1), .ref (Ma 2), .ref (Ma 3), .ref (Ma 4), .ref (Ma 5), .ref (Ma 6), .int sv_35, .int sv_36, .int sv_37, .int (Mv 5), .int sv_38, .int vy_13, .int (Mv 8), .ref (Ma 7), .int vy_14, .ref (Ma 8), .int (Mv 10), .ref (Ma 9), .ref (Ma 10), .int (Mv 11), .int (Mv 12), .int (Mv 13), .ref (Ma 11), .int (Mv 14), .ref (Ma 12), .ref (Ma 13), .ref (Ma 14), .ref (Ma 15), .ref (Ma 16), .long (Mj 0), .ref (Ma 17), .ref (Ma 18), .ref (Ma 19), .ref (Ma 20)])), ((Ma 1), .inl (tc 2, 400, .inl (Mf 1))), ((Ma 2), .inl (tc 0, 2400, .inl sv_39)), ((Ma 3), .inl (tc 0, 7, .inl sv_40))] H := hP₀
        replace hD : va_D A [((Ma 7), .inl (tc 0, 400, .inl vy_15)), ((Ma 0), .inr (12, [.ref (Ma 1), .int (Mv 0), .int (Mv 1), .ref (Ma 2), .ref (Ma 3), .ref (Ma 4), .ref (Ma 5), .ref (Ma 6), .int sv_35, .int sv_36, .int sv_37, .int (Mv 5), .int sv_38, .int vy_13, .int (Mv 8), .ref (Ma 7), .int vy_14, .ref (Ma 8), .int (Mv 10), .ref (Ma 9), .ref (Ma 10), .int (Mv 11), .int (Mv 12), .int (Mv 13), .ref (Ma 11), .int (Mv 14), .ref (Ma 12), .ref (Ma 13), .ref (Ma 14), .ref (Ma 15), .ref (Ma 16), .long (Mj 0), .ref (Ma 17), .ref (Ma 18), .ref (Ma 19), .ref (Ma 20)])), ((Ma 1), .inl (tc 2, 400, .inl (Mf 1))), ((Ma 2), .inl (tc 0, 2400, .inl sv_39)), ((Ma 3), .inl (tc 0, 7, .inl sv_40))] := hD₀
        replace hS := hS₀
        clear hP₀ hD₀ hS₀
        have ha_49 : ((Mv 2) : Int32).toInt ≤ (sv_35 : Int32).toInt ∧ (sv_35 : Int32).toInt ≤ ((Mv 0) : Int32).toInt := by
          have z_1 := congrArg Int32.toInt c_29
          have y_0 : (0 : Int32).toInt = 0 := by decide
          omega
        have hb_50 : (r_44 : Int32).toInt = 0 ∨ (r_44 : Int32).toInt = 1 := by
          have z_1 := congrArg Int32.toInt c_29
          have y_0 : (0 : Int32).toInt = 0 := by decide
          omega
        have hp_51 : (((r_44 : Int32).toInt = 0 ∧ ¬ (sv_36 : Int32).toInt = 0) ∨ ((r_44 : Int32).toInt = 1 ∧ (sv_40 (Mv 5).toNatClampNeg).toInt + (vy_14 : Int32).toInt + ((Mv 2) : Int32).toInt ≤ ((Mf 3) (Mv 5).toNatClampNeg).toInt + ((Mv 9) : Int32).toInt + (sv_35 : Int32).toInt ∧ ((Mv 2) : Int32).toInt + 1 ≤ (sv_35 : Int32).toInt ∧ ((Mf 3) (Mv 5).toNatClampNeg).toInt ≤ (sv_40 (Mv 5).toNatClampNeg).toInt)) := by
          have z_1 := congrArg Int32.toInt c_29
          have y_0 : (0 : Int32).toInt = 0 := by decide
          omega
        have hm_52 : (r_44 : Int32).toInt = 1 → (LSR vy_15 vy_14 sv_39 sv_40 (Mv 5) b sv_38) ∧ (FcO R (rB (Mf 1) (Mv 0)) vy_15 vy_14 vy_13 sv_35 sv_38 sv_36) := by
          intro h1r
          obtain ⟨pf_53, pf_54⟩ := hm_47 h1r
          have pf_53 : Cd sv_39 sv_40 (Mv 5) b sv_38 (pn_26 + 1) := pf_53
          have ar_pf_53 := Cd.ar pf_53
          have pf_54 : RfO (pz_com (rB (Mf 1) (Mv 0)) (St0 (rB (Mf 1) (Mv 0)) vy_11 (Mv 6))) (rB (Mf 1) (Mv 0)) sv_36 sv_35 sv_38 := pf_54
          have ar_pf_54 := RfO.wr pf_54
          have hr_55 : (vy_10 : Int32).toInt = 0 := by
            have z_1 := congrArg Int32.toInt c_29
            have y_0 : (0 : Int32).toInt = 0 := by decide
            omega
          exact ⟨⟨pn_26, pf_27, pf_53⟩, (FcL.out pf_24 hr_55 pf_54)⟩
        have hm_56 : (r_44 : Int32).toInt = 0 → (RfE R sv_36) := by
          intro h1r
          obtain pf_57 := hm_48 h1r
          have pf_57 : RfE (pz_com (rB (Mf 1) (Mv 0)) (St0 (rB (Mf 1) (Mv 0)) vy_11 (Mv 6))) sv_36 := pf_57
          have hr_58 : (vy_10 : Int32).toInt = 0 := by
            have z_1 := congrArg Int32.toInt c_29
            have y_0 : (0 : Int32).toInt = 0 := by decide
            omega
          exact (FcL.er pf_24 hr_58 pf_57)
        exact retI (v := r_44) hx hb hr hlk (nar01 hb_50) hP hD hS (sv_35, sv_36, sv_37, sv_38, vy_13, vy_14, sv_39, sv_40, vy_15) ⟨_, rfl, hp_51, ha_49, pf_42, pf_43, hm_52, hm_56⟩ [1, 2, 3, 4, 0] rfl rfl dX12_fact_79 (Nat.le_of_ble_eq_true rfl) (Nat.le_of_ble_eq_true rfl) rfl
      · skip
        refine lv_iconst (v := 0) hx hb dX12_fact_6 (by decide) ?_
        refine lv_istore_n (lv' := [(1, .int 0), (0, .ref (Ma 0))]) hx hb dX12_fact_7 rfl hl (by decide) rfl (fun ls hl₀ => ?_)
        replace hl := hl₀
        clear hl₀
        refine lv_aload_n hx hb dX12_fact_8 rfl (lv_at hl 1 rfl) ?_
        refine cV (a := (Ma 0)) (As := []) (rest := []) (wr := [((Ma 2), .inl (tc 0, 2400, .inl (Mf 2))), ((Ma 3), .inl (tc 0, 7, .inl (Mf 3))), ((Ma 7), .inl (tc 0, 400, .inl vy_15))]) ⟨hx, hb, hml, hown, hts⟩ hK hX hA (cu_fX12_see l D tc sk (Ma 0) (Ma 1) (Ma 2) (Ma 3) (Ma 4) (Ma 5) (Ma 6) (Ma 7) (Ma 8) (Ma 9) (Ma 10) (Ma 11) (Ma 12) (Ma 13) (Ma 14) (Ma 15) (Ma 16) (Ma 17) (Ma 18) (Ma 19) (Ma 20) (Mv 0) (Mv 1) vy_11 vy_12 (Mv 4) (Mv 5) (Mv 6) vy_13 (Mv 8) vy_14 (Mv 10) (Mv 11) (Mv 12) (Mv 13) (Mv 14) (Mf 1) (Mj 0) pf_19 h_bs) k_1211 k_1208 k_1210 k_27 k_106 pl_X12_see ⟨Nat.le_of_ble_eq_true rfl, Nat.le_of_ble_eq_true rfl⟩ rfl rfl (va_recv hK hP (ci := 12) (q0 := 0) rfl rfl) hP hD hS [0, 1] [2, 3, 4] rfl rfl rfl rfl rfl (by decide) rfl hl.1 rfl (Nat.le_of_ble_eq_true rfl) dX12_fact_9 ⟨Nat.le_of_ble_eq_true rfl, Nat.le_of_ble_eq_true rfl⟩ (fun v_59 u_60 H locs hv_61 hP₀ hD₀ hS₀ => ?_)
        obtain ⟨sv_62, rfl⟩ : ∃ z, z = u_60 := ⟨_, rfl⟩
        obtain ⟨r_67, rfl, he_68, pf_63, pf_64, pf_65, pf_66⟩ := hv_61
        have he_68 : (r_67.toInt = rB (Mf 1) (Mv 0) (sv_62 : Int32).toInt.toNat ∧ (r_67.toInt = -1 ∨ (sv_62 : Int32).toInt < (Mv 0).toInt)) := he_68
        have pf_63 : (vy_11 : Int32).toInt ≤ (sv_62 : Int32).toInt ∧ (sv_62 : Int32).toInt ≤ ((Mv 0) : Int32).toInt := pf_63
        have pf_64 : NSq (Mf 1) (Mv 0) sv_62 := pf_64
        have pf_65 : Stl (Mf 1) (Mv 0) vy_11 sv_62 := pf_65
        have pf_66 : SkR (rB (Mf 1) (Mv 0)) vy_11 sv_62 := pf_66
        refine W.eq (g2 := F0 m 12 ls [.int r_67]) rfl ?_
        replace hP : va_P D classes [((Ma 2), .inl (tc 0, 2400, .inl (Mf 2))), ((Ma 3), .inl (tc 0, 7, .inl (Mf 3))), ((Ma 7), .inl (tc 0, 400, .inl vy_15)), ((Ma 0), .inr (12, [.ref (Ma 1), .int (Mv 0), .int (Mv 1), .ref (Ma 2), .ref (Ma 3), .ref (Ma 4), .ref (Ma 5), .ref (Ma 6), .int sv_62, .int vy_12, .int (Mv 4), .int (Mv 5), .int (Mv 6), .int vy_13, .int (Mv 8), .ref (Ma 7), .int vy_14, .ref (Ma 8), .int (Mv 10), .ref (Ma 9), .ref (Ma 10), .int (Mv 11), .int (Mv 12), .int (Mv 13), .ref (Ma 11), .int (Mv 14), .ref (Ma 12), .ref (Ma 13), .ref (Ma 14), .ref (Ma 15), .ref (Ma 16), .long (Mj 0), .ref (Ma 17), .ref (Ma 18), .ref (Ma 19), .ref (Ma 20)])), ((Ma 1), .inl (tc 2, 400, .inl (Mf 1)))] H := hP₀
        replace hD : va_D A [((Ma 2), .inl (tc 0, 2400, .inl (Mf 2))), ((Ma 3), .inl (tc 0, 7, .inl (Mf 3))), ((Ma 7), .inl (tc 0, 400, .inl vy_15)), ((Ma 0), .inr (12, [.ref (Ma 1), .int (Mv 0), .int (Mv 1), .ref (Ma 2), .ref (Ma 3), .ref (Ma 4), .ref (Ma 5), .ref (Ma 6), .int sv_62, .int vy_12, .int (Mv 4), .int (Mv 5), .int (Mv 6), .int vy_13, .int (Mv 8), .ref (Ma 7), .int vy_14, .ref (Ma 8), .int (Mv 10), .ref (Ma 9), .ref (Ma 10), .int (Mv 11), .int (Mv 12), .int (Mv 13), .ref (Ma 11), .int (Mv 14), .ref (Ma 12), .ref (Ma 13), .ref (Ma 14), .ref (Ma 15), .ref (Ma 16), .long (Mj 0), .ref (Ma 17), .ref (Ma 18), .ref (Ma 19), .ref (Ma 20)])), ((Ma 1), .inl (tc 2, 400, .inl (Mf 1)))] := hD₀
        replace hS := hS₀
        clear hP₀ hD₀ hS₀
        refine lv_istore_n (lv' := [(2, .int r_67), (1, .int 0), (0, .ref (Ma 0))]) hx hb dX12_fact_12 rfl hl (by decide) rfl (fun ls hl₀ => ?_)
        replace hl := hl₀
        clear hl₀
        refine lv_aload_n hx hb dX12_fact_13 rfl (lv_at hl 2 rfl) ?_
        refine lv_ldc2 hx hb hown (hts _ k_1326) dX12_fact_14 ?_
        have ha_70 : 0 ≤ (sv_62 : Int32).toInt ∧ (sv_62 : Int32).toInt ≤ ((Mv 0) : Int32).toInt ∧ ((Mv 0) : Int32).toInt ≤ 400 := by
          have z_1 : ¬ (vy_10 : Int32).toInt = (0 : Int32).toInt := fun z => c_29 (Int32.toInt_inj.mp z)
          have y_0 : (0 : Int32).toInt = 0 := by decide
          omega
        refine cV (a := (Ma 0)) (As := [.long 7237492]) (rest := []) (wr := [((Ma 2), .inl (tc 0, 2400, .inl (Mf 2))), ((Ma 3), .inl (tc 0, 7, .inl (Mf 3))), ((Ma 7), .inl (tc 0, 400, .inl vy_15))]) ⟨hx, hb, hml, hown, hts⟩ hK hX hA (cu_fX12_isWord l D tc sk (Ma 0) (Ma 1) (Ma 2) (Ma 3) (Ma 4) (Ma 5) (Ma 6) (Ma 7) (Ma 8) (Ma 9) (Ma 10) (Ma 11) (Ma 12) (Ma 13) (Ma 14) (Ma 15) (Ma 16) (Ma 17) (Ma 18) (Ma 19) (Ma 20) (Mv 0) (Mv 1) sv_62 vy_12 (Mv 4) (Mv 5) (Mv 6) vy_13 (Mv 8) vy_14 (Mv 10) (Mv 11) (Mv 12) (Mv 13) (Mv 14) (Mf 1) (Mj 0) 7237492 ha_70 h_bs) k_1220 k_1217 k_1219 k_29 k_106 pl_X12_isWord ⟨Nat.le_of_ble_eq_true rfl, Nat.le_of_ble_eq_true rfl⟩ rfl rfl (va_recv hK hP (ci := 12) (q0 := 3) rfl rfl) hP hD hS [3, 4] [0, 1, 2] rfl rfl rfl rfl rfl (by decide) rfl hl.1 rfl (Nat.le_of_ble_eq_true rfl) dX12_fact_17 ⟨Nat.le_of_ble_eq_true rfl, Nat.le_of_ble_eq_true rfl⟩ (fun v_71 u_72 H locs hv_73 hP₀ hD₀ hS₀ => ?_)
        obtain ⟨sv_74, rfl⟩ : ∃ z, z = u_72 := ⟨_, rfl⟩
        obtain ⟨r_79, rfl, he_80, pf_75, pf_76, pf_77, pf_78, hm_82, hm_83⟩ := hv_73
        have he_80 : (r_79.toInt = 0 ∨ r_79.toInt = 1) := he_80
        have pf_75 : (sv_62 : Int32).toInt ≤ (sv_74 : Int32).toInt ∧ (sv_74 : Int32).toInt ≤ ((Mv 0) : Int32).toInt := pf_75
        have pf_76 : NSq (Mf 1) (Mv 0) sv_74 := pf_76
        have pf_77 : Stl (Mf 1) (Mv 0) sv_62 sv_74 := pf_77
        have ar_pf_77 := Stl.or pf_77 pf_64
        have pf_78 : SkR (rB (Mf 1) (Mv 0)) sv_62 sv_74 := pf_78
        refine W.eq (g2 := F0 m 20 ls [.int r_79]) rfl ?_
        replace hP : va_P D classes [((Ma 2), .inl (tc 0, 2400, .inl (Mf 2))), ((Ma 3), .inl (tc 0, 7, .inl (Mf 3))), ((Ma 7), .inl (tc 0, 400, .inl vy_15)), ((Ma 0), .inr (12, [.ref (Ma 1), .int (Mv 0), .int (Mv 1), .ref (Ma 2), .ref (Ma 3), .ref (Ma 4), .ref (Ma 5), .ref (Ma 6), .int sv_74, .int vy_12, .int (Mv 4), .int (Mv 5), .int (Mv 6), .int vy_13, .int (Mv 8), .ref (Ma 7), .int vy_14, .ref (Ma 8), .int (Mv 10), .ref (Ma 9), .ref (Ma 10), .int (Mv 11), .int (Mv 12), .int (Mv 13), .ref (Ma 11), .int (Mv 14), .ref (Ma 12), .ref (Ma 13), .ref (Ma 14), .ref (Ma 15), .ref (Ma 16), .long (Mj 0), .ref (Ma 17), .ref (Ma 18), .ref (Ma 19), .ref (Ma 20)])), ((Ma 1), .inl (tc 2, 400, .inl (Mf 1)))] H := hP₀
        replace hD : va_D A [((Ma 2), .inl (tc 0, 2400, .inl (Mf 2))), ((Ma 3), .inl (tc 0, 7, .inl (Mf 3))), ((Ma 7), .inl (tc 0, 400, .inl vy_15)), ((Ma 0), .inr (12, [.ref (Ma 1), .int (Mv 0), .int (Mv 1), .ref (Ma 2), .ref (Ma 3), .ref (Ma 4), .ref (Ma 5), .ref (Ma 6), .int sv_74, .int vy_12, .int (Mv 4), .int (Mv 5), .int (Mv 6), .int vy_13, .int (Mv 8), .ref (Ma 7), .int vy_14, .ref (Ma 8), .int (Mv 10), .ref (Ma 9), .ref (Ma 10), .int (Mv 11), .int (Mv 12), .int (Mv 13), .ref (Ma 11), .int (Mv 14), .ref (Ma 12), .ref (Ma 13), .ref (Ma 14), .ref (Ma 15), .ref (Ma 16), .long (Mj 0), .ref (Ma 17), .ref (Ma 18), .ref (Ma 19), .ref (Ma 20)])), ((Ma 1), .inl (tc 2, 400, .inl (Mf 1)))] := hD₀
        replace hS := hS₀
        clear hP₀ hD₀ hS₀
        have hE_84 := SkR.eqB pf_66 pf_78
        refine lv_if_eq (tgt := 43) hx hb dX12_fact_20 (by decide) (fun c_85 => ?_) (fun c_85 => ?_)
        · skip
          have hz_87 : (r_79 : Int32).toInt = 0 := by
            have z_1 : ¬ (vy_10 : Int32).toInt = (0 : Int32).toInt := fun z => c_29 (Int32.toInt_inj.mp z)
            have z_2 := congrArg Int32.toInt c_85
            have y_0 : (0 : Int32).toInt = 0 := by decide
            omega
          obtain pf_86 := hm_83 hz_87
          have pf_86 : NPk (rB (Mf 1) (Mv 0)) ((sv_74 : Int32).toInt.toNat) (7237492 : Int64).toInt := pf_86
          refine lv_iload_n hx hb dX12_fact_43 rfl (lv_at hl 0 rfl) ?_
          refine lv_bipush (v := 91) hx hb dX12_fact_44 (by decide) ?_
          refine lv_icmp_ne (tgt := 72) hx hb dX12_fact_46 (by decide) (fun c_88 => ?_) (fun c_88 => ?_)
          · skip
            refine lv_goto (tgt := 2) hx hb dX12_fact_72 (by decide) ?_
            have hb_89 : 2 * (400 - (sv_74 : Int32).toInt) + (0 : Int32).toInt < 2 * (400 - (vy_11 : Int32).toInt) + (vy_10 : Int32).toInt ∧ 1 ≤ 2 * (400 - (vy_11 : Int32).toInt) + (vy_10 : Int32).toInt := by
              have z_1 : ¬ (vy_10 : Int32).toInt = (0 : Int32).toInt := fun z => c_29 (Int32.toInt_inj.mp z)
              have z_2 := congrArg Int32.toInt c_85
              have z_3 : ¬ (r_67 : Int32).toInt = (91 : Int32).toInt := fun z => c_88 (Int32.toInt_inj.mp z)
              have y_0 : (0 : Int32).toInt = 0 := by decide
              have y_91 : (91 : Int32).toInt = 91 := by decide
              omega
            have ha_90 : 0 ≤ (sv_74 : Int32).toInt ∧ (sv_74 : Int32).toInt ≤ ((Mv 0) : Int32).toInt ∧ ((Mv 0) : Int32).toInt ≤ 400 := by
              have z_1 : ¬ (vy_10 : Int32).toInt = (0 : Int32).toInt := fun z => c_29 (Int32.toInt_inj.mp z)
              have z_2 := congrArg Int32.toInt c_85
              have z_3 : ¬ (r_67 : Int32).toInt = (91 : Int32).toInt := fun z => c_88 (Int32.toInt_inj.mp z)
              have y_0 : (0 : Int32).toInt = 0 := by decide
              have y_91 : (91 : Int32).toInt = 91 := by decide
              omega
            have ha_91 : (Mv 2).toInt ≤ (sv_74 : Int32).toInt := by
              have z_1 : ¬ (vy_10 : Int32).toInt = (0 : Int32).toInt := fun z => c_29 (Int32.toInt_inj.mp z)
              have z_2 := congrArg Int32.toInt c_85
              have z_3 : ¬ (r_67 : Int32).toInt = (91 : Int32).toInt := fun z => c_88 (Int32.toInt_inj.mp z)
              have y_0 : (0 : Int32).toInt = 0 := by decide
              have y_91 : (91 : Int32).toInt = 91 := by decide
              omega
            have ha_92 : 0 ≤ (0 : Int32).toInt ∧ (0 : Int32).toInt ≤ 1 := by
              have z_1 : ¬ (vy_10 : Int32).toInt = (0 : Int32).toInt := fun z => c_29 (Int32.toInt_inj.mp z)
              have z_2 := congrArg Int32.toInt c_85
              have z_3 : ¬ (r_67 : Int32).toInt = (91 : Int32).toInt := fun z => c_88 (Int32.toInt_inj.mp z)
              have y_0 : (0 : Int32).toInt = 0 := by decide
              have y_91 : (91 : Int32).toInt = 91 := by decide
              omega
            have ha_93 : (vy_14 : Int32).toInt + ((Mv 2) : Int32).toInt ≤ ((Mv 9) : Int32).toInt + (sv_74 : Int32).toInt ∧ 0 ≤ (vy_14 : Int32).toInt := by
              have z_1 : ¬ (vy_10 : Int32).toInt = (0 : Int32).toInt := fun z => c_29 (Int32.toInt_inj.mp z)
              have z_2 := congrArg Int32.toInt c_85
              have z_3 : ¬ (r_67 : Int32).toInt = (91 : Int32).toInt := fun z => c_88 (Int32.toInt_inj.mp z)
              have y_0 : (0 : Int32).toInt = 0 := by decide
              have y_91 : (91 : Int32).toInt = 91 := by decide
              omega
            have hr_94 : (vy_10 : Int32).toInt = 1 := by
              have z_1 : ¬ (vy_10 : Int32).toInt = (0 : Int32).toInt := fun z => c_29 (Int32.toInt_inj.mp z)
              have z_2 := congrArg Int32.toInt c_85
              have z_3 : ¬ (r_67 : Int32).toInt = (91 : Int32).toInt := fun z => c_88 (Int32.toInt_inj.mp z)
              have y_0 : (0 : Int32).toInt = 0 := by decide
              have y_91 : (91 : Int32).toInt = 91 := by decide
              omega
            have hw_95 : ¬ pz_wd (rB (Mf 1) (Mv 0)) (sv_74 : Int32).toInt.toNat pz_not = true := by
              have hq := pf_86
              rw [show (7237492 : Int64).toInt = pz_pl pz_not by decide] at hq
              exact fun z => hq ((PkW.wd (by decide) (by decide) (by decide)).mpr z)
            have hr_96 : ¬ (rB (Mf 1) (Mv 0) (sv_74 : Int32).toInt.toNat = 91) := by
              have z_1 : ¬ (vy_10 : Int32).toInt = (0 : Int32).toInt := fun z => c_29 (Int32.toInt_inj.mp z)
              have z_2 := congrArg Int32.toInt c_85
              have z_3 : ¬ (r_67 : Int32).toInt = (91 : Int32).toInt := fun z => c_88 (Int32.toInt_inj.mp z)
              have y_0 : (0 : Int32).toInt = 0 := by decide
              have y_91 : (91 : Int32).toInt = 91 := by decide
              omega
            have hr_97 : (0 : Int32).toInt = 0 := by
              have z_1 : ¬ (vy_10 : Int32).toInt = (0 : Int32).toInt := fun z => c_29 (Int32.toInt_inj.mp z)
              have z_2 := congrArg Int32.toInt c_85
              have z_3 : ¬ (r_67 : Int32).toInt = (91 : Int32).toInt := fun z => c_88 (Int32.toInt_inj.mp z)
              have y_0 : (0 : Int32).toInt = 0 := by decide
              have y_91 : (91 : Int32).toInt = 91 := by decide
              omega
            exact ih_17 0 sv_74 vy_12 vy_13 vy_14 vy_15 _ _ _ (by omega) ha_90 ha_91 ha_92 pf_22 ha_93 (FcL.com pf_24 hr_94 (SkR.trans pf_66 pf_78) hw_95 hr_96 hr_97) (hP.sub [3, 4, 0, 1, 2] rfl) (hD.sub [3, 4, 0, 1, 2] rfl rfl) hS (lv_sub hl [1, 2] rfl)
          · skip
            refine lv_aload_n hx hb dX12_fact_49 rfl (lv_at hl 2 rfl) ?_
            refine lv_bipush (v := 91) hx hb dX12_fact_50 (by decide) ?_
            have ha_98 : 0 ≤ (sv_74 : Int32).toInt ∧ (sv_74 : Int32).toInt ≤ ((Mv 0) : Int32).toInt ∧ ((Mv 0) : Int32).toInt ≤ 400 := by
              have z_1 : ¬ (vy_10 : Int32).toInt = (0 : Int32).toInt := fun z => c_29 (Int32.toInt_inj.mp z)
              have z_2 := congrArg Int32.toInt c_85
              have z_3 := congrArg Int32.toInt c_88
              have y_0 : (0 : Int32).toInt = 0 := by decide
              have y_91 : (91 : Int32).toInt = 91 := by decide
              omega
            have ha_99 : (vy_14 : Int32).toInt < 400 := by
              have z_1 : ¬ (vy_10 : Int32).toInt = (0 : Int32).toInt := fun z => c_29 (Int32.toInt_inj.mp z)
              have z_2 := congrArg Int32.toInt c_85
              have z_3 := congrArg Int32.toInt c_88
              have y_0 : (0 : Int32).toInt = 0 := by decide
              have y_91 : (91 : Int32).toInt = 91 := by decide
              omega
            have ha_100 : (91 : Int32).toInt = 11 ∨ (91 : Int32).toInt = 91 := by
              have z_1 : ¬ (vy_10 : Int32).toInt = (0 : Int32).toInt := fun z => c_29 (Int32.toInt_inj.mp z)
              have z_2 := congrArg Int32.toInt c_85
              have z_3 := congrArg Int32.toInt c_88
              have y_0 : (0 : Int32).toInt = 0 := by decide
              have y_91 : (91 : Int32).toInt = 91 := by decide
              omega
            have ha_101 : (vy_12 : Int32).toInt = 0 := by
              have z_1 : ¬ (vy_10 : Int32).toInt = (0 : Int32).toInt := fun z => c_29 (Int32.toInt_inj.mp z)
              have z_2 := congrArg Int32.toInt c_85
              have z_3 := congrArg Int32.toInt c_88
              have y_0 : (0 : Int32).toInt = 0 := by decide
              have y_91 : (91 : Int32).toInt = 91 := by decide
              omega
            refine cV (a := (Ma 0)) (As := [.int 91]) (rest := []) (wr := [((Ma 2), .inl (tc 0, 2400, .inl (Mf 2))), ((Ma 3), .inl (tc 0, 7, .inl (Mf 3))), ((Ma 1), .inl (tc 2, 400, .inl (Mf 1)))]) ⟨hx, hb, hml, hown, hts⟩ hK hX hA (cu_fX12_opens l D tc sk (Ma 0) (Ma 1) (Ma 2) (Ma 3) (Ma 4) (Ma 5) (Ma 6) (Ma 7) (Ma 8) (Ma 9) (Ma 10) (Ma 11) (Ma 12) (Ma 13) (Ma 14) (Ma 15) (Ma 16) (Ma 17) (Ma 18) (Ma 19) (Ma 20) (Mv 0) (Mv 1) sv_74 vy_12 (Mv 4) (Mv 5) (Mv 6) vy_13 (Mv 8) vy_14 (Mv 10) (Mv 11) (Mv 12) (Mv 13) (Mv 14) vy_15 (Mj 0) 91 pn_26 ha_98 pf_27 ha_99 ha_100 pf_24.1.1 ha_101) k_1330 k_1327 k_1329 k_51 k_106 pl_X12_opens ⟨Nat.le_of_ble_eq_true rfl, Nat.le_of_ble_eq_true rfl⟩ rfl rfl (va_recv hK hP (ci := 12) (q0 := 3) rfl rfl) hP hD hS [3, 2] [0, 1, 4] rfl rfl rfl rfl rfl (by decide) rfl hl.1 rfl (Nat.le_of_ble_eq_true rfl) dX12_fact_52 ⟨Nat.le_of_ble_eq_true rfl, Nat.le_of_ble_eq_true rfl⟩ (fun v_102 u_103 H locs hv_104 hP₀ hD₀ hS₀ => ?_)
            obtain ⟨sv_105, sv_106, sv_107, sv_108⟩ := u_103
            obtain ⟨r_109, rfl, he_110, hm_112⟩ := hv_104
            have he_110 : ((r_109.toInt = 0 ∧ ¬ (sv_105 : Int32).toInt = 0 ∧ vy_13.toInt = 10 ∧ (sv_105 : Int32).toInt = 1 + 8 * sv_74.toInt + 2) ∨ (r_109.toInt = 1 ∧ (sv_107 : Int32).toInt = (vy_14 : Int32).toInt + 1 ∧ (sv_106 : Int32).toInt = vy_13.toInt + 1 ∧ vy_13.toInt < 10 ∧ (sv_105 : Int32).toInt = 0)) := he_110
            refine W.eq (g2 := F0 m 55 ls [.int r_109]) rfl ?_
            replace hP : va_P D classes [((Ma 2), .inl (tc 0, 2400, .inl (Mf 2))), ((Ma 3), .inl (tc 0, 7, .inl (Mf 3))), ((Ma 1), .inl (tc 2, 400, .inl (Mf 1))), ((Ma 0), .inr (12, [.ref (Ma 1), .int (Mv 0), .int (Mv 1), .ref (Ma 2), .ref (Ma 3), .ref (Ma 4), .ref (Ma 5), .ref (Ma 6), .int sv_74, .int sv_105, .int (Mv 4), .int (Mv 5), .int (Mv 6), .int sv_106, .int (Mv 8), .ref (Ma 7), .int sv_107, .ref (Ma 8), .int (Mv 10), .ref (Ma 9), .ref (Ma 10), .int (Mv 11), .int (Mv 12), .int (Mv 13), .ref (Ma 11), .int (Mv 14), .ref (Ma 12), .ref (Ma 13), .ref (Ma 14), .ref (Ma 15), .ref (Ma 16), .long (Mj 0), .ref (Ma 17), .ref (Ma 18), .ref (Ma 19), .ref (Ma 20)])), ((Ma 7), .inl (tc 0, 400, .inl sv_108))] H := hP₀
            replace hD : va_D A [((Ma 2), .inl (tc 0, 2400, .inl (Mf 2))), ((Ma 3), .inl (tc 0, 7, .inl (Mf 3))), ((Ma 1), .inl (tc 2, 400, .inl (Mf 1))), ((Ma 0), .inr (12, [.ref (Ma 1), .int (Mv 0), .int (Mv 1), .ref (Ma 2), .ref (Ma 3), .ref (Ma 4), .ref (Ma 5), .ref (Ma 6), .int sv_74, .int sv_105, .int (Mv 4), .int (Mv 5), .int (Mv 6), .int sv_106, .int (Mv 8), .ref (Ma 7), .int sv_107, .ref (Ma 8), .int (Mv 10), .ref (Ma 9), .ref (Ma 10), .int (Mv 11), .int (Mv 12), .int (Mv 13), .ref (Ma 11), .int (Mv 14), .ref (Ma 12), .ref (Ma 13), .ref (Ma 14), .ref (Ma 15), .ref (Ma 16), .long (Mj 0), .ref (Ma 17), .ref (Ma 18), .ref (Ma 19), .ref (Ma 20)])), ((Ma 7), .inl (tc 0, 400, .inl sv_108))] := hD₀
            replace hS := hS₀
            clear hP₀ hD₀ hS₀
            refine lv_if_ne (tgt := 60) hx hb dX12_fact_55 (by decide) (fun c_113 => ?_) (fun c_113 => ?_)
            · skip
              have hz_116 : (r_109 : Int32).toInt = 1 := by
                have z_1 : ¬ (vy_10 : Int32).toInt = (0 : Int32).toInt := fun z => c_29 (Int32.toInt_inj.mp z)
                have z_2 := congrArg Int32.toInt c_85
                have z_3 := congrArg Int32.toInt c_88
                have z_4 : ¬ (r_109 : Int32).toInt = (0 : Int32).toInt := fun z => c_113 (Int32.toInt_inj.mp z)
                have y_0 : (0 : Int32).toInt = 0 := by decide
                have y_91 : (91 : Int32).toInt = 91 := by decide
                omega
              obtain ⟨pf_114, pf_115⟩ := hm_112 hz_116
              have pf_114 : OpS sv_108 sv_107 pn_26 := pf_114
              have ar_pf_114 := OpS.ar pf_114
              have pf_115 : OpP vy_15 vy_14 sv_108 sv_107 sv_106 (91 : Int32) := pf_115
              have ar_pf_115 := OsP.ar pf_115.1
              refine lv_aload_n hx hb dX12_fact_60 rfl (lv_at hl 2 rfl) ?_
              refine lv_dup hx hb dX12_fact_61 rfl ?_
              refine gf_X12_87 hx hb hts hown hK hP 3 rfl rfl dX12_fact_62 ?_
              refine lv_iconst (v := 1) hx hb dX12_fact_65 (by decide) ?_
              refine lv_iadd hx hb dX12_fact_66 ?_
              refine lv_topi (fun x_117 ex_117 => ?_)
              refine pf_X12_87 hx hb hts hown hK hP hD hS 3 rfl (Nat.le_of_ble_eq_true rfl) rfl rfl dX12_fact_67 (fun H locs hP₀ hD₀ hS₀ => ?_)
              replace hP : va_P D classes [((Ma 2), .inl (tc 0, 2400, .inl (Mf 2))), ((Ma 3), .inl (tc 0, 7, .inl (Mf 3))), ((Ma 1), .inl (tc 2, 400, .inl (Mf 1))), ((Ma 0), .inr (12, [.ref (Ma 1), .int (Mv 0), .int (Mv 1), .ref (Ma 2), .ref (Ma 3), .ref (Ma 4), .ref (Ma 5), .ref (Ma 6), .int x_117, .int sv_105, .int (Mv 4), .int (Mv 5), .int (Mv 6), .int sv_106, .int (Mv 8), .ref (Ma 7), .int sv_107, .ref (Ma 8), .int (Mv 10), .ref (Ma 9), .ref (Ma 10), .int (Mv 11), .int (Mv 12), .int (Mv 13), .ref (Ma 11), .int (Mv 14), .ref (Ma 12), .ref (Ma 13), .ref (Ma 14), .ref (Ma 15), .ref (Ma 16), .long (Mj 0), .ref (Ma 17), .ref (Ma 18), .ref (Ma 19), .ref (Ma 20)])), ((Ma 7), .inl (tc 0, 400, .inl sv_108))] H := hP₀
              replace hD : va_D A [((Ma 2), .inl (tc 0, 2400, .inl (Mf 2))), ((Ma 3), .inl (tc 0, 7, .inl (Mf 3))), ((Ma 1), .inl (tc 2, 400, .inl (Mf 1))), ((Ma 0), .inr (12, [.ref (Ma 1), .int (Mv 0), .int (Mv 1), .ref (Ma 2), .ref (Ma 3), .ref (Ma 4), .ref (Ma 5), .ref (Ma 6), .int x_117, .int sv_105, .int (Mv 4), .int (Mv 5), .int (Mv 6), .int sv_106, .int (Mv 8), .ref (Ma 7), .int sv_107, .ref (Ma 8), .int (Mv 10), .ref (Ma 9), .ref (Ma 10), .int (Mv 11), .int (Mv 12), .int (Mv 13), .ref (Ma 11), .int (Mv 14), .ref (Ma 12), .ref (Ma 13), .ref (Ma 14), .ref (Ma 15), .ref (Ma 16), .long (Mj 0), .ref (Ma 17), .ref (Ma 18), .ref (Ma 19), .ref (Ma 20)])), ((Ma 7), .inl (tc 0, 400, .inl sv_108))] := hD₀
              replace hS := hS₀
              clear hP₀ hD₀ hS₀
              have tp_x_117 : (x_117 : Int32).toInt = (sv_74 : Int32).toInt + 1 := by
                have z_1 : ¬ (vy_10 : Int32).toInt = (0 : Int32).toInt := fun z => c_29 (Int32.toInt_inj.mp z)
                have z_2 := congrArg Int32.toInt c_85
                have z_3 := congrArg Int32.toInt c_88
                have z_4 : ¬ (r_109 : Int32).toInt = (0 : Int32).toInt := fun z => c_113 (Int32.toInt_inj.mp z)
                have y_0 : (0 : Int32).toInt = 0 := by decide
                have y_91 : (91 : Int32).toInt = 91 := by decide
                have y_1 : (1 : Int32).toInt = 1 := by decide
                have t_x_117 : x_117.toInt = (sv_74 : Int32).toInt + (1 : Int32).toInt := by rw [ex_117]; exact add_toInt (by omega) (by omega)
                omega
              refine lv_iconst (v := 1) hx hb dX12_fact_70 (by decide) ?_
              refine lv_istore_n (lv' := [(1, .int 1), (2, .int r_67), (0, .ref (Ma 0))]) hx hb dX12_fact_71 rfl hl (by decide) rfl (fun ls hl₀ => ?_)
              replace hl := hl₀
              clear hl₀
              refine lv_goto (tgt := 2) hx hb dX12_fact_72 (by decide) ?_
              have hb_118 : 2 * (400 - (x_117 : Int32).toInt) + (1 : Int32).toInt < 2 * (400 - (vy_11 : Int32).toInt) + (vy_10 : Int32).toInt ∧ 1 ≤ 2 * (400 - (vy_11 : Int32).toInt) + (vy_10 : Int32).toInt := by
                have z_1 : ¬ (vy_10 : Int32).toInt = (0 : Int32).toInt := fun z => c_29 (Int32.toInt_inj.mp z)
                have z_2 := congrArg Int32.toInt c_85
                have z_3 := congrArg Int32.toInt c_88
                have z_4 : ¬ (r_109 : Int32).toInt = (0 : Int32).toInt := fun z => c_113 (Int32.toInt_inj.mp z)
                have y_0 : (0 : Int32).toInt = 0 := by decide
                have y_91 : (91 : Int32).toInt = 91 := by decide
                have y_1 : (1 : Int32).toInt = 1 := by decide
                have t_x_117 : x_117.toInt = (sv_74 : Int32).toInt + (1 : Int32).toInt := by rw [ex_117]; exact add_toInt (by omega) (by omega)
                omega
              have ha_119 : 0 ≤ (x_117 : Int32).toInt ∧ (x_117 : Int32).toInt ≤ ((Mv 0) : Int32).toInt ∧ ((Mv 0) : Int32).toInt ≤ 400 := by
                have z_1 : ¬ (vy_10 : Int32).toInt = (0 : Int32).toInt := fun z => c_29 (Int32.toInt_inj.mp z)
                have z_2 := congrArg Int32.toInt c_85
                have z_3 := congrArg Int32.toInt c_88
                have z_4 : ¬ (r_109 : Int32).toInt = (0 : Int32).toInt := fun z => c_113 (Int32.toInt_inj.mp z)
                have y_0 : (0 : Int32).toInt = 0 := by decide
                have y_91 : (91 : Int32).toInt = 91 := by decide
                have y_1 : (1 : Int32).toInt = 1 := by decide
                have t_x_117 : x_117.toInt = (sv_74 : Int32).toInt + (1 : Int32).toInt := by rw [ex_117]; exact add_toInt (by omega) (by omega)
                omega
              have ha_120 : (Mv 2).toInt ≤ (x_117 : Int32).toInt := by
                have z_1 : ¬ (vy_10 : Int32).toInt = (0 : Int32).toInt := fun z => c_29 (Int32.toInt_inj.mp z)
                have z_2 := congrArg Int32.toInt c_85
                have z_3 := congrArg Int32.toInt c_88
                have z_4 : ¬ (r_109 : Int32).toInt = (0 : Int32).toInt := fun z => c_113 (Int32.toInt_inj.mp z)
                have y_0 : (0 : Int32).toInt = 0 := by decide
                have y_91 : (91 : Int32).toInt = 91 := by decide
                have y_1 : (1 : Int32).toInt = 1 := by decide
                have t_x_117 : x_117.toInt = (sv_74 : Int32).toInt + (1 : Int32).toInt := by rw [ex_117]; exact add_toInt (by omega) (by omega)
                omega
              have ha_121 : 0 ≤ (1 : Int32).toInt ∧ (1 : Int32).toInt ≤ 1 := by
                have z_1 : ¬ (vy_10 : Int32).toInt = (0 : Int32).toInt := fun z => c_29 (Int32.toInt_inj.mp z)
                have z_2 := congrArg Int32.toInt c_85
                have z_3 := congrArg Int32.toInt c_88
                have z_4 : ¬ (r_109 : Int32).toInt = (0 : Int32).toInt := fun z => c_113 (Int32.toInt_inj.mp z)
                have y_0 : (0 : Int32).toInt = 0 := by decide
                have y_91 : (91 : Int32).toInt = 91 := by decide
                have y_1 : (1 : Int32).toInt = 1 := by decide
                omega
              have ha_122 : (sv_107 : Int32).toInt + ((Mv 2) : Int32).toInt ≤ ((Mv 9) : Int32).toInt + (x_117 : Int32).toInt ∧ 0 ≤ (sv_107 : Int32).toInt := by
                have z_1 : ¬ (vy_10 : Int32).toInt = (0 : Int32).toInt := fun z => c_29 (Int32.toInt_inj.mp z)
                have z_2 := congrArg Int32.toInt c_85
                have z_3 := congrArg Int32.toInt c_88
                have z_4 : ¬ (r_109 : Int32).toInt = (0 : Int32).toInt := fun z => c_113 (Int32.toInt_inj.mp z)
                have y_0 : (0 : Int32).toInt = 0 := by decide
                have y_91 : (91 : Int32).toInt = 91 := by decide
                have y_1 : (1 : Int32).toInt = 1 := by decide
                have t_x_117 : x_117.toInt = (sv_74 : Int32).toInt + (1 : Int32).toInt := by rw [ex_117]; exact add_toInt (by omega) (by omega)
                omega
              have hr_123 : (vy_10 : Int32).toInt = 1 := by
                have z_1 : ¬ (vy_10 : Int32).toInt = (0 : Int32).toInt := fun z => c_29 (Int32.toInt_inj.mp z)
                have z_2 := congrArg Int32.toInt c_85
                have z_3 := congrArg Int32.toInt c_88
                have z_4 : ¬ (r_109 : Int32).toInt = (0 : Int32).toInt := fun z => c_113 (Int32.toInt_inj.mp z)
                have y_0 : (0 : Int32).toInt = 0 := by decide
                have y_91 : (91 : Int32).toInt = 91 := by decide
                omega
              have hw_124 : ¬ pz_wd (rB (Mf 1) (Mv 0)) (sv_74 : Int32).toInt.toNat pz_not = true := by
                have hq := pf_86
                rw [show (7237492 : Int64).toInt = pz_pl pz_not by decide] at hq
                exact fun z => hq ((PkW.wd (by decide) (by decide) (by decide)).mpr z)
              have hr_125 : ((91 : Int32) : Int32).toInt = 91 := by
                have z_1 : ¬ (vy_10 : Int32).toInt = (0 : Int32).toInt := fun z => c_29 (Int32.toInt_inj.mp z)
                have z_2 := congrArg Int32.toInt c_85
                have z_3 := congrArg Int32.toInt c_88
                have z_4 : ¬ (r_109 : Int32).toInt = (0 : Int32).toInt := fun z => c_113 (Int32.toInt_inj.mp z)
                have y_0 : (0 : Int32).toInt = 0 := by decide
                have y_91 : (91 : Int32).toInt = 91 := by decide
                omega
              have hr_126 : (sv_106 : Int32).toInt = (vy_13 : Int32).toInt + 1 := by
                have z_1 : ¬ (vy_10 : Int32).toInt = (0 : Int32).toInt := fun z => c_29 (Int32.toInt_inj.mp z)
                have z_2 := congrArg Int32.toInt c_85
                have z_3 := congrArg Int32.toInt c_88
                have z_4 : ¬ (r_109 : Int32).toInt = (0 : Int32).toInt := fun z => c_113 (Int32.toInt_inj.mp z)
                have y_0 : (0 : Int32).toInt = 0 := by decide
                have y_91 : (91 : Int32).toInt = 91 := by decide
                omega
              have hr_127 : (sv_105 : Int32).toInt = 0 := by
                have z_1 : ¬ (vy_10 : Int32).toInt = (0 : Int32).toInt := fun z => c_29 (Int32.toInt_inj.mp z)
                have z_2 := congrArg Int32.toInt c_85
                have z_3 := congrArg Int32.toInt c_88
                have z_4 : ¬ (r_109 : Int32).toInt = (0 : Int32).toInt := fun z => c_113 (Int32.toInt_inj.mp z)
                have y_0 : (0 : Int32).toInt = 0 := by decide
                have y_91 : (91 : Int32).toInt = 91 := by decide
                omega
              have hr_128 : (1 : Int32).toInt = 1 := by
                have z_1 : ¬ (vy_10 : Int32).toInt = (0 : Int32).toInt := fun z => c_29 (Int32.toInt_inj.mp z)
                have z_2 := congrArg Int32.toInt c_85
                have z_3 := congrArg Int32.toInt c_88
                have z_4 : ¬ (r_109 : Int32).toInt = (0 : Int32).toInt := fun z => c_113 (Int32.toInt_inj.mp z)
                have y_0 : (0 : Int32).toInt = 0 := by decide
                have y_91 : (91 : Int32).toInt = 91 := by decide
                have y_1 : (1 : Int32).toInt = 1 := by decide
                omega
              have hr_129 : (rB (Mf 1) (Mv 0) (sv_74 : Int32).toInt.toNat = 91) := by
                have z_1 : ¬ (vy_10 : Int32).toInt = (0 : Int32).toInt := fun z => c_29 (Int32.toInt_inj.mp z)
                have z_2 := congrArg Int32.toInt c_85
                have z_3 := congrArg Int32.toInt c_88
                have z_4 : ¬ (r_109 : Int32).toInt = (0 : Int32).toInt := fun z => c_113 (Int32.toInt_inj.mp z)
                have y_0 : (0 : Int32).toInt = 0 := by decide
                have y_91 : (91 : Int32).toInt = 91 := by decide
                omega
              have hi_130 : (x_117 : Int32).toInt = (sv_74 : Int32).toInt + 1 := by
                have z_1 : ¬ (vy_10 : Int32).toInt = (0 : Int32).toInt := fun z => c_29 (Int32.toInt_inj.mp z)
                have z_2 := congrArg Int32.toInt c_85
                have z_3 := congrArg Int32.toInt c_88
                have z_4 : ¬ (r_109 : Int32).toInt = (0 : Int32).toInt := fun z => c_113 (Int32.toInt_inj.mp z)
                have y_0 : (0 : Int32).toInt = 0 := by decide
                have y_91 : (91 : Int32).toInt = 91 := by decide
                have y_1 : (1 : Int32).toInt = 1 := by decide
                have t_x_117 : x_117.toInt = (sv_74 : Int32).toInt + (1 : Int32).toInt := by rw [ex_117]; exact add_toInt (by omega) (by omega)
                omega
              exact ih_17 1 x_117 sv_105 sv_106 sv_107 sv_108 _ _ _ (by omega) ha_119 ha_120 ha_121 ⟨pn_26, pf_114, pf_28⟩ ha_122 (FcL.br pf_24 hr_123 (SkR.trans pf_66 pf_78) hw_124 hr_129 pf_115 hr_125 hr_126 hi_130 hr_127 hr_128) (hP.sub [3, 2, 0, 1, 4] rfl) (hD.sub [3, 2, 0, 1, 4] rfl rfl) hS (lv_sub hl [0, 2] rfl)
            · skip
              refine lv_iconst (v := 0) hx hb dX12_fact_58 (by decide) ?_
              have ha_131 : ((Mv 2) : Int32).toInt ≤ (sv_74 : Int32).toInt ∧ (sv_74 : Int32).toInt ≤ ((Mv 0) : Int32).toInt := by
                have z_1 : ¬ (vy_10 : Int32).toInt = (0 : Int32).toInt := fun z => c_29 (Int32.toInt_inj.mp z)
                have z_2 := congrArg Int32.toInt c_85
                have z_3 := congrArg Int32.toInt c_88
                have z_4 := congrArg Int32.toInt c_113
                have y_0 : (0 : Int32).toInt = 0 := by decide
                have y_91 : (91 : Int32).toInt = 91 := by decide
                omega
              have ha_132 : ((Mv 6) : Int32).toInt ≤ ((Mv 6) : Int32).toInt ∧ ((Mv 6) : Int32).toInt ≤ 60 := by
                have z_1 : ¬ (vy_10 : Int32).toInt = (0 : Int32).toInt := fun z => c_29 (Int32.toInt_inj.mp z)
                have z_2 := congrArg Int32.toInt c_85
                have z_3 := congrArg Int32.toInt c_88
                have z_4 := congrArg Int32.toInt c_113
                have y_0 : (0 : Int32).toInt = 0 := by decide
                have y_91 : (91 : Int32).toInt = 91 := by decide
                omega
              have hp_133 : (((0 : Int32).toInt = 0 ∧ ¬ (sv_105 : Int32).toInt = 0) ∨ ((0 : Int32).toInt = 1 ∧ ((Mf 3) (Mv 5).toNatClampNeg).toInt + (sv_107 : Int32).toInt + ((Mv 2) : Int32).toInt ≤ ((Mf 3) (Mv 5).toNatClampNeg).toInt + ((Mv 9) : Int32).toInt + (sv_74 : Int32).toInt ∧ ((Mv 2) : Int32).toInt + 1 ≤ (sv_74 : Int32).toInt ∧ ((Mf 3) (Mv 5).toNatClampNeg).toInt ≤ ((Mf 3) (Mv 5).toNatClampNeg).toInt)) := by
                have z_1 : ¬ (vy_10 : Int32).toInt = (0 : Int32).toInt := fun z => c_29 (Int32.toInt_inj.mp z)
                have z_2 := congrArg Int32.toInt c_85
                have z_3 := congrArg Int32.toInt c_88
                have z_4 := congrArg Int32.toInt c_113
                have y_0 : (0 : Int32).toInt = 0 := by decide
                have y_91 : (91 : Int32).toInt = 91 := by decide
                omega
              have hm_134 : (0 : Int32).toInt = 0 → (RfE R sv_105) := by
                intro h1r
                have hr_135 : (vy_10 : Int32).toInt = 1 := by
                  have z_1 : ¬ (vy_10 : Int32).toInt = (0 : Int32).toInt := fun z => c_29 (Int32.toInt_inj.mp z)
                  have z_2 := congrArg Int32.toInt c_85
                  have z_3 := congrArg Int32.toInt c_88
                  have z_4 := congrArg Int32.toInt c_113
                  have y_0 : (0 : Int32).toInt = 0 := by decide
                  have y_91 : (91 : Int32).toInt = 91 := by decide
                  omega
                have hw_136 : ¬ pz_wd (rB (Mf 1) (Mv 0)) (sv_74 : Int32).toInt.toNat pz_not = true := by
                  have hq := pf_86
                  rw [show (7237492 : Int64).toInt = pz_pl pz_not by decide] at hq
                  exact fun z => hq ((PkW.wd (by decide) (by decide) (by decide)).mpr z)
                have hr_137 : (rB (Mf 1) (Mv 0) (sv_74 : Int32).toInt.toNat = 91) := by
                  have z_1 : ¬ (vy_10 : Int32).toInt = (0 : Int32).toInt := fun z => c_29 (Int32.toInt_inj.mp z)
                  have z_2 := congrArg Int32.toInt c_85
                  have z_3 := congrArg Int32.toInt c_88
                  have z_4 := congrArg Int32.toInt c_113
                  have y_0 : (0 : Int32).toInt = 0 := by decide
                  have y_91 : (91 : Int32).toInt = 91 := by decide
                  omega
                have hr_138 : (vy_13 : Int32).toInt = 10 := by
                  have z_1 : ¬ (vy_10 : Int32).toInt = (0 : Int32).toInt := fun z => c_29 (Int32.toInt_inj.mp z)
                  have z_2 := congrArg Int32.toInt c_85
                  have z_3 := congrArg Int32.toInt c_88
                  have z_4 := congrArg Int32.toInt c_113
                  have y_0 : (0 : Int32).toInt = 0 := by decide
                  have y_91 : (91 : Int32).toInt = 91 := by decide
                  omega
                have hi_139 : (sv_105 : Int32).toInt = 1 + 8 * (sv_74 : Int32).toInt + 2 := by
                  have z_1 : ¬ (vy_10 : Int32).toInt = (0 : Int32).toInt := fun z => c_29 (Int32.toInt_inj.mp z)
                  have z_2 := congrArg Int32.toInt c_85
                  have z_3 := congrArg Int32.toInt c_88
                  have z_4 := congrArg Int32.toInt c_113
                  have y_0 : (0 : Int32).toInt = 0 := by decide
                  have y_91 : (91 : Int32).toInt = 91 := by decide
                  omega
                exact (FcL.deep pf_24 hr_135 (SkR.trans pf_66 pf_78) (Or.inr hr_137) hr_138 hi_139)
              exact retI (v := 0) hx hb hr hlk (rfl) hP hD hS (sv_74, sv_105, (Mv 4), (Mv 6), sv_106, sv_107, (Mf 2), (Mf 3), sv_108) ⟨_, rfl, hp_133, ha_131, ha_132, (Agr.rf), (fun h => absurd h (by decide)), hm_134⟩ [3, 2, 0, 1, 4] rfl rfl dX12_fact_59 (Nat.le_of_ble_eq_true rfl) (Nat.le_of_ble_eq_true rfl) rfl
        · skip
          have hz_142 : (r_79 : Int32).toInt = 1 := by
            have z_1 : ¬ (vy_10 : Int32).toInt = (0 : Int32).toInt := fun z => c_29 (Int32.toInt_inj.mp z)
            have z_2 : ¬ (r_79 : Int32).toInt = (0 : Int32).toInt := fun z => c_85 (Int32.toInt_inj.mp z)
            have y_0 : (0 : Int32).toInt = 0 := by decide
            omega
          obtain ⟨pf_140, pf_141⟩ := hm_82 hz_142
          have pf_140 : Ltr (Mf 1) (Mv 0) sv_74 := pf_140
          have ar_pf_140 := pf_140.1
          have at_pf_140 : 97 ≤ ((Mf 1) (sv_74 : Int32).toInt.toNat).toInt ∧ ((Mf 1) (sv_74 : Int32).toInt.toNat).toInt ≤ 122 := pf_140.2
          have pf_141 : PkW (rB (Mf 1) (Mv 0)) ((sv_74 : Int32).toInt.toNat) (7237492 : Int64).toInt := pf_141
          refine lv_aload_n hx hb dX12_fact_23 rfl (lv_at hl 2 rfl) ?_
          refine lv_bipush (v := 11) hx hb dX12_fact_24 (by decide) ?_
          have ha_143 : 0 ≤ (sv_74 : Int32).toInt ∧ (sv_74 : Int32).toInt ≤ ((Mv 0) : Int32).toInt ∧ ((Mv 0) : Int32).toInt ≤ 400 := by
            have z_1 : ¬ (vy_10 : Int32).toInt = (0 : Int32).toInt := fun z => c_29 (Int32.toInt_inj.mp z)
            have z_2 : ¬ (r_79 : Int32).toInt = (0 : Int32).toInt := fun z => c_85 (Int32.toInt_inj.mp z)
            have y_0 : (0 : Int32).toInt = 0 := by decide
            omega
          have ha_144 : (vy_14 : Int32).toInt < 400 := by
            have z_1 : ¬ (vy_10 : Int32).toInt = (0 : Int32).toInt := fun z => c_29 (Int32.toInt_inj.mp z)
            have z_2 : ¬ (r_79 : Int32).toInt = (0 : Int32).toInt := fun z => c_85 (Int32.toInt_inj.mp z)
            have y_0 : (0 : Int32).toInt = 0 := by decide
            omega
          have ha_145 : (11 : Int32).toInt = 11 ∨ (11 : Int32).toInt = 91 := by
            have z_1 : ¬ (vy_10 : Int32).toInt = (0 : Int32).toInt := fun z => c_29 (Int32.toInt_inj.mp z)
            have z_2 : ¬ (r_79 : Int32).toInt = (0 : Int32).toInt := fun z => c_85 (Int32.toInt_inj.mp z)
            have y_0 : (0 : Int32).toInt = 0 := by decide
            have y_11 : (11 : Int32).toInt = 11 := by decide
            omega
          have ha_146 : (vy_12 : Int32).toInt = 0 := by
            have z_1 : ¬ (vy_10 : Int32).toInt = (0 : Int32).toInt := fun z => c_29 (Int32.toInt_inj.mp z)
            have z_2 : ¬ (r_79 : Int32).toInt = (0 : Int32).toInt := fun z => c_85 (Int32.toInt_inj.mp z)
            have y_0 : (0 : Int32).toInt = 0 := by decide
            omega
          refine cV (a := (Ma 0)) (As := [.int 11]) (rest := []) (wr := [((Ma 2), .inl (tc 0, 2400, .inl (Mf 2))), ((Ma 3), .inl (tc 0, 7, .inl (Mf 3))), ((Ma 1), .inl (tc 2, 400, .inl (Mf 1)))]) ⟨hx, hb, hml, hown, hts⟩ hK hX hA (cu_fX12_opens l D tc sk (Ma 0) (Ma 1) (Ma 2) (Ma 3) (Ma 4) (Ma 5) (Ma 6) (Ma 7) (Ma 8) (Ma 9) (Ma 10) (Ma 11) (Ma 12) (Ma 13) (Ma 14) (Ma 15) (Ma 16) (Ma 17) (Ma 18) (Ma 19) (Ma 20) (Mv 0) (Mv 1) sv_74 vy_12 (Mv 4) (Mv 5) (Mv 6) vy_13 (Mv 8) vy_14 (Mv 10) (Mv 11) (Mv 12) (Mv 13) (Mv 14) vy_15 (Mj 0) 11 pn_26 ha_143 pf_27 ha_144 ha_145 pf_24.1.1 ha_146) k_1330 k_1327 k_1329 k_51 k_106 pl_X12_opens ⟨Nat.le_of_ble_eq_true rfl, Nat.le_of_ble_eq_true rfl⟩ rfl rfl (va_recv hK hP (ci := 12) (q0 := 3) rfl rfl) hP hD hS [3, 2] [0, 1, 4] rfl rfl rfl rfl rfl (by decide) rfl hl.1 rfl (Nat.le_of_ble_eq_true rfl) dX12_fact_26 ⟨Nat.le_of_ble_eq_true rfl, Nat.le_of_ble_eq_true rfl⟩ (fun v_147 u_148 H locs hv_149 hP₀ hD₀ hS₀ => ?_)
          obtain ⟨sv_150, sv_151, sv_152, sv_153⟩ := u_148
          obtain ⟨r_154, rfl, he_155, hm_157⟩ := hv_149
          have he_155 : ((r_154.toInt = 0 ∧ ¬ (sv_150 : Int32).toInt = 0 ∧ vy_13.toInt = 10 ∧ (sv_150 : Int32).toInt = 1 + 8 * sv_74.toInt + 2) ∨ (r_154.toInt = 1 ∧ (sv_152 : Int32).toInt = (vy_14 : Int32).toInt + 1 ∧ (sv_151 : Int32).toInt = vy_13.toInt + 1 ∧ vy_13.toInt < 10 ∧ (sv_150 : Int32).toInt = 0)) := he_155
          refine W.eq (g2 := F0 m 29 ls [.int r_154]) rfl ?_
          replace hP : va_P D classes [((Ma 2), .inl (tc 0, 2400, .inl (Mf 2))), ((Ma 3), .inl (tc 0, 7, .inl (Mf 3))), ((Ma 1), .inl (tc 2, 400, .inl (Mf 1))), ((Ma 0), .inr (12, [.ref (Ma 1), .int (Mv 0), .int (Mv 1), .ref (Ma 2), .ref (Ma 3), .ref (Ma 4), .ref (Ma 5), .ref (Ma 6), .int sv_74, .int sv_150, .int (Mv 4), .int (Mv 5), .int (Mv 6), .int sv_151, .int (Mv 8), .ref (Ma 7), .int sv_152, .ref (Ma 8), .int (Mv 10), .ref (Ma 9), .ref (Ma 10), .int (Mv 11), .int (Mv 12), .int (Mv 13), .ref (Ma 11), .int (Mv 14), .ref (Ma 12), .ref (Ma 13), .ref (Ma 14), .ref (Ma 15), .ref (Ma 16), .long (Mj 0), .ref (Ma 17), .ref (Ma 18), .ref (Ma 19), .ref (Ma 20)])), ((Ma 7), .inl (tc 0, 400, .inl sv_153))] H := hP₀
          replace hD : va_D A [((Ma 2), .inl (tc 0, 2400, .inl (Mf 2))), ((Ma 3), .inl (tc 0, 7, .inl (Mf 3))), ((Ma 1), .inl (tc 2, 400, .inl (Mf 1))), ((Ma 0), .inr (12, [.ref (Ma 1), .int (Mv 0), .int (Mv 1), .ref (Ma 2), .ref (Ma 3), .ref (Ma 4), .ref (Ma 5), .ref (Ma 6), .int sv_74, .int sv_150, .int (Mv 4), .int (Mv 5), .int (Mv 6), .int sv_151, .int (Mv 8), .ref (Ma 7), .int sv_152, .ref (Ma 8), .int (Mv 10), .ref (Ma 9), .ref (Ma 10), .int (Mv 11), .int (Mv 12), .int (Mv 13), .ref (Ma 11), .int (Mv 14), .ref (Ma 12), .ref (Ma 13), .ref (Ma 14), .ref (Ma 15), .ref (Ma 16), .long (Mj 0), .ref (Ma 17), .ref (Ma 18), .ref (Ma 19), .ref (Ma 20)])), ((Ma 7), .inl (tc 0, 400, .inl sv_153))] := hD₀
          replace hS := hS₀
          clear hP₀ hD₀ hS₀
          refine lv_if_ne (tgt := 34) hx hb dX12_fact_29 (by decide) (fun c_158 => ?_) (fun c_158 => ?_)
          · skip
            have hz_161 : (r_154 : Int32).toInt = 1 := by
              have z_1 : ¬ (vy_10 : Int32).toInt = (0 : Int32).toInt := fun z => c_29 (Int32.toInt_inj.mp z)
              have z_2 : ¬ (r_79 : Int32).toInt = (0 : Int32).toInt := fun z => c_85 (Int32.toInt_inj.mp z)
              have z_3 : ¬ (r_154 : Int32).toInt = (0 : Int32).toInt := fun z => c_158 (Int32.toInt_inj.mp z)
              have y_0 : (0 : Int32).toInt = 0 := by decide
              omega
            obtain ⟨pf_159, pf_160⟩ := hm_157 hz_161
            have pf_159 : OpS sv_153 sv_152 pn_26 := pf_159
            have ar_pf_159 := OpS.ar pf_159
            have pf_160 : OpP vy_15 vy_14 sv_153 sv_152 sv_151 (11 : Int32) := pf_160
            have ar_pf_160 := OsP.ar pf_160.1
            refine lv_aload_n hx hb dX12_fact_34 rfl (lv_at hl 2 rfl) ?_
            have ha_162 : 0 ≤ (sv_74 : Int32).toInt ∧ (sv_74 : Int32).toInt ≤ ((Mv 0) : Int32).toInt ∧ ((Mv 0) : Int32).toInt ≤ 400 := by
              have z_1 : ¬ (vy_10 : Int32).toInt = (0 : Int32).toInt := fun z => c_29 (Int32.toInt_inj.mp z)
              have z_2 : ¬ (r_79 : Int32).toInt = (0 : Int32).toInt := fun z => c_85 (Int32.toInt_inj.mp z)
              have z_3 : ¬ (r_154 : Int32).toInt = (0 : Int32).toInt := fun z => c_158 (Int32.toInt_inj.mp z)
              have y_0 : (0 : Int32).toInt = 0 := by decide
              omega
            refine cV (a := (Ma 0)) (As := []) (rest := []) (wr := [((Ma 2), .inl (tc 0, 2400, .inl (Mf 2))), ((Ma 3), .inl (tc 0, 7, .inl (Mf 3))), ((Ma 7), .inl (tc 0, 400, .inl sv_153))]) ⟨hx, hb, hml, hown, hts⟩ hK hX hA (cu_fX12_passWord l D tc sk (Ma 0) (Ma 1) (Ma 2) (Ma 3) (Ma 4) (Ma 5) (Ma 6) (Ma 7) (Ma 8) (Ma 9) (Ma 10) (Ma 11) (Ma 12) (Ma 13) (Ma 14) (Ma 15) (Ma 16) (Ma 17) (Ma 18) (Ma 19) (Ma 20) (Mv 0) (Mv 1) sv_74 sv_150 (Mv 4) (Mv 5) (Mv 6) sv_151 (Mv 8) sv_152 (Mv 10) (Mv 11) (Mv 12) (Mv 13) (Mv 14) (Mf 1) (Mj 0) ha_162 h_bs) k_1244 k_1241 k_1243 k_34 k_106 pl_X12_passWord ⟨Nat.le_of_ble_eq_true rfl, Nat.le_of_ble_eq_true rfl⟩ rfl rfl (va_recv hK hP (ci := 12) (q0 := 3) rfl rfl) hP hD hS [3, 2] [0, 1, 4] rfl rfl rfl rfl rfl (by decide) rfl hl.1 rfl (Nat.le_of_ble_eq_true rfl) dX12_fact_35 ⟨Nat.le_of_ble_eq_true rfl, Nat.le_of_ble_eq_true rfl⟩ (fun v_163 u_164 H locs hv_165 hP₀ hD₀ hS₀ => ?_)
            obtain ⟨sv_166, rfl⟩ : ∃ z, z = u_164 := ⟨_, rfl⟩
            obtain ⟨rfl, pf_167, pf_168, pf_169⟩ := hv_165
            have pf_167 : (sv_74 : Int32).toInt ≤ (sv_166 : Int32).toInt ∧ (sv_166 : Int32).toInt ≤ ((Mv 0) : Int32).toInt := pf_167
            have pf_168 : Pw (Mf 1) (Mv 0) sv_74 sv_166 := pf_168
            have ar_pf_168 := pf_168 pf_140
            have pf_169 : PsR (rB (Mf 1) (Mv 0)) sv_74 sv_166 := pf_169
            refine W.eq (g2 := F0 m 38 ls []) rfl ?_
            replace hP : va_P D classes [((Ma 2), .inl (tc 0, 2400, .inl (Mf 2))), ((Ma 3), .inl (tc 0, 7, .inl (Mf 3))), ((Ma 7), .inl (tc 0, 400, .inl sv_153)), ((Ma 0), .inr (12, [.ref (Ma 1), .int (Mv 0), .int (Mv 1), .ref (Ma 2), .ref (Ma 3), .ref (Ma 4), .ref (Ma 5), .ref (Ma 6), .int sv_166, .int sv_150, .int (Mv 4), .int (Mv 5), .int (Mv 6), .int sv_151, .int (Mv 8), .ref (Ma 7), .int sv_152, .ref (Ma 8), .int (Mv 10), .ref (Ma 9), .ref (Ma 10), .int (Mv 11), .int (Mv 12), .int (Mv 13), .ref (Ma 11), .int (Mv 14), .ref (Ma 12), .ref (Ma 13), .ref (Ma 14), .ref (Ma 15), .ref (Ma 16), .long (Mj 0), .ref (Ma 17), .ref (Ma 18), .ref (Ma 19), .ref (Ma 20)])), ((Ma 1), .inl (tc 2, 400, .inl (Mf 1)))] H := hP₀
            replace hD : va_D A [((Ma 2), .inl (tc 0, 2400, .inl (Mf 2))), ((Ma 3), .inl (tc 0, 7, .inl (Mf 3))), ((Ma 7), .inl (tc 0, 400, .inl sv_153)), ((Ma 0), .inr (12, [.ref (Ma 1), .int (Mv 0), .int (Mv 1), .ref (Ma 2), .ref (Ma 3), .ref (Ma 4), .ref (Ma 5), .ref (Ma 6), .int sv_166, .int sv_150, .int (Mv 4), .int (Mv 5), .int (Mv 6), .int sv_151, .int (Mv 8), .ref (Ma 7), .int sv_152, .ref (Ma 8), .int (Mv 10), .ref (Ma 9), .ref (Ma 10), .int (Mv 11), .int (Mv 12), .int (Mv 13), .ref (Ma 11), .int (Mv 14), .ref (Ma 12), .ref (Ma 13), .ref (Ma 14), .ref (Ma 15), .ref (Ma 16), .long (Mj 0), .ref (Ma 17), .ref (Ma 18), .ref (Ma 19), .ref (Ma 20)])), ((Ma 1), .inl (tc 2, 400, .inl (Mf 1)))] := hD₀
            replace hS := hS₀
            clear hP₀ hD₀ hS₀
            refine lv_iconst (v := 1) hx hb dX12_fact_38 (by decide) ?_
            refine lv_istore_n (lv' := [(1, .int 1), (2, .int r_67), (0, .ref (Ma 0))]) hx hb dX12_fact_39 rfl hl (by decide) rfl (fun ls hl₀ => ?_)
            replace hl := hl₀
            clear hl₀
            refine lv_goto (tgt := 72) hx hb dX12_fact_40 (by decide) ?_
            refine lv_goto (tgt := 2) hx hb dX12_fact_72 (by decide) ?_
            have hb_170 : 2 * (400 - (sv_166 : Int32).toInt) + (1 : Int32).toInt < 2 * (400 - (vy_11 : Int32).toInt) + (vy_10 : Int32).toInt ∧ 1 ≤ 2 * (400 - (vy_11 : Int32).toInt) + (vy_10 : Int32).toInt := by
              have z_1 : ¬ (vy_10 : Int32).toInt = (0 : Int32).toInt := fun z => c_29 (Int32.toInt_inj.mp z)
              have z_2 : ¬ (r_79 : Int32).toInt = (0 : Int32).toInt := fun z => c_85 (Int32.toInt_inj.mp z)
              have z_3 : ¬ (r_154 : Int32).toInt = (0 : Int32).toInt := fun z => c_158 (Int32.toInt_inj.mp z)
              have y_0 : (0 : Int32).toInt = 0 := by decide
              have y_1 : (1 : Int32).toInt = 1 := by decide
              omega
            have ha_171 : 0 ≤ (sv_166 : Int32).toInt ∧ (sv_166 : Int32).toInt ≤ ((Mv 0) : Int32).toInt ∧ ((Mv 0) : Int32).toInt ≤ 400 := by
              have z_1 : ¬ (vy_10 : Int32).toInt = (0 : Int32).toInt := fun z => c_29 (Int32.toInt_inj.mp z)
              have z_2 : ¬ (r_79 : Int32).toInt = (0 : Int32).toInt := fun z => c_85 (Int32.toInt_inj.mp z)
              have z_3 : ¬ (r_154 : Int32).toInt = (0 : Int32).toInt := fun z => c_158 (Int32.toInt_inj.mp z)
              have y_0 : (0 : Int32).toInt = 0 := by decide
              omega
            have ha_172 : (Mv 2).toInt ≤ (sv_166 : Int32).toInt := by
              have z_1 : ¬ (vy_10 : Int32).toInt = (0 : Int32).toInt := fun z => c_29 (Int32.toInt_inj.mp z)
              have z_2 : ¬ (r_79 : Int32).toInt = (0 : Int32).toInt := fun z => c_85 (Int32.toInt_inj.mp z)
              have z_3 : ¬ (r_154 : Int32).toInt = (0 : Int32).toInt := fun z => c_158 (Int32.toInt_inj.mp z)
              have y_0 : (0 : Int32).toInt = 0 := by decide
              omega
            have ha_173 : 0 ≤ (1 : Int32).toInt ∧ (1 : Int32).toInt ≤ 1 := by
              have z_1 : ¬ (vy_10 : Int32).toInt = (0 : Int32).toInt := fun z => c_29 (Int32.toInt_inj.mp z)
              have z_2 : ¬ (r_79 : Int32).toInt = (0 : Int32).toInt := fun z => c_85 (Int32.toInt_inj.mp z)
              have z_3 : ¬ (r_154 : Int32).toInt = (0 : Int32).toInt := fun z => c_158 (Int32.toInt_inj.mp z)
              have y_0 : (0 : Int32).toInt = 0 := by decide
              have y_1 : (1 : Int32).toInt = 1 := by decide
              omega
            have ha_174 : (sv_152 : Int32).toInt + ((Mv 2) : Int32).toInt ≤ ((Mv 9) : Int32).toInt + (sv_166 : Int32).toInt ∧ 0 ≤ (sv_152 : Int32).toInt := by
              have z_1 : ¬ (vy_10 : Int32).toInt = (0 : Int32).toInt := fun z => c_29 (Int32.toInt_inj.mp z)
              have z_2 : ¬ (r_79 : Int32).toInt = (0 : Int32).toInt := fun z => c_85 (Int32.toInt_inj.mp z)
              have z_3 : ¬ (r_154 : Int32).toInt = (0 : Int32).toInt := fun z => c_158 (Int32.toInt_inj.mp z)
              have y_0 : (0 : Int32).toInt = 0 := by decide
              omega
            have hr_175 : (vy_10 : Int32).toInt = 1 := by
              have z_1 : ¬ (vy_10 : Int32).toInt = (0 : Int32).toInt := fun z => c_29 (Int32.toInt_inj.mp z)
              have z_2 : ¬ (r_79 : Int32).toInt = (0 : Int32).toInt := fun z => c_85 (Int32.toInt_inj.mp z)
              have z_3 : ¬ (r_154 : Int32).toInt = (0 : Int32).toInt := fun z => c_158 (Int32.toInt_inj.mp z)
              have y_0 : (0 : Int32).toInt = 0 := by decide
              omega
            have hw_176 : pz_wd (rB (Mf 1) (Mv 0)) (sv_74 : Int32).toInt.toNat pz_not = true := by
              have hq := pf_141
              rw [show (7237492 : Int64).toInt = pz_pl pz_not by decide] at hq
              exact (PkW.wd (by decide) (by decide) (by decide)).mp hq
            have hr_177 : ((11 : Int32) : Int32).toInt = 11 := by
              have z_1 : ¬ (vy_10 : Int32).toInt = (0 : Int32).toInt := fun z => c_29 (Int32.toInt_inj.mp z)
              have z_2 : ¬ (r_79 : Int32).toInt = (0 : Int32).toInt := fun z => c_85 (Int32.toInt_inj.mp z)
              have z_3 : ¬ (r_154 : Int32).toInt = (0 : Int32).toInt := fun z => c_158 (Int32.toInt_inj.mp z)
              have y_0 : (0 : Int32).toInt = 0 := by decide
              have y_11 : (11 : Int32).toInt = 11 := by decide
              omega
            have hr_178 : (sv_151 : Int32).toInt = (vy_13 : Int32).toInt + 1 := by
              have z_1 : ¬ (vy_10 : Int32).toInt = (0 : Int32).toInt := fun z => c_29 (Int32.toInt_inj.mp z)
              have z_2 : ¬ (r_79 : Int32).toInt = (0 : Int32).toInt := fun z => c_85 (Int32.toInt_inj.mp z)
              have z_3 : ¬ (r_154 : Int32).toInt = (0 : Int32).toInt := fun z => c_158 (Int32.toInt_inj.mp z)
              have y_0 : (0 : Int32).toInt = 0 := by decide
              omega
            have hr_179 : (sv_150 : Int32).toInt = 0 := by
              have z_1 : ¬ (vy_10 : Int32).toInt = (0 : Int32).toInt := fun z => c_29 (Int32.toInt_inj.mp z)
              have z_2 : ¬ (r_79 : Int32).toInt = (0 : Int32).toInt := fun z => c_85 (Int32.toInt_inj.mp z)
              have z_3 : ¬ (r_154 : Int32).toInt = (0 : Int32).toInt := fun z => c_158 (Int32.toInt_inj.mp z)
              have y_0 : (0 : Int32).toInt = 0 := by decide
              omega
            have hr_180 : (1 : Int32).toInt = 1 := by
              have z_1 : ¬ (vy_10 : Int32).toInt = (0 : Int32).toInt := fun z => c_29 (Int32.toInt_inj.mp z)
              have z_2 : ¬ (r_79 : Int32).toInt = (0 : Int32).toInt := fun z => c_85 (Int32.toInt_inj.mp z)
              have z_3 : ¬ (r_154 : Int32).toInt = (0 : Int32).toInt := fun z => c_158 (Int32.toInt_inj.mp z)
              have y_0 : (0 : Int32).toInt = 0 := by decide
              have y_1 : (1 : Int32).toInt = 1 := by decide
              omega
            exact ih_17 1 sv_166 sv_150 sv_151 sv_152 sv_153 _ _ _ (by omega) ha_171 ha_172 ha_173 ⟨pn_26, pf_159, pf_28⟩ ha_174 (FcL.not pf_24 hr_175 (SkR.trans pf_66 pf_78) hw_176 pf_160 hr_177 hr_178 pf_169 hr_179 hr_180) (hP.sub [3, 4, 0, 1, 2] rfl) (hD.sub [3, 4, 0, 1, 2] rfl rfl) hS (lv_sub hl [0, 2] rfl)
          · skip
            refine lv_iconst (v := 0) hx hb dX12_fact_32 (by decide) ?_
            have ha_181 : ((Mv 2) : Int32).toInt ≤ (sv_74 : Int32).toInt ∧ (sv_74 : Int32).toInt ≤ ((Mv 0) : Int32).toInt := by
              have z_1 : ¬ (vy_10 : Int32).toInt = (0 : Int32).toInt := fun z => c_29 (Int32.toInt_inj.mp z)
              have z_2 : ¬ (r_79 : Int32).toInt = (0 : Int32).toInt := fun z => c_85 (Int32.toInt_inj.mp z)
              have z_3 := congrArg Int32.toInt c_158
              have y_0 : (0 : Int32).toInt = 0 := by decide
              omega
            have ha_182 : ((Mv 6) : Int32).toInt ≤ ((Mv 6) : Int32).toInt ∧ ((Mv 6) : Int32).toInt ≤ 60 := by
              have z_1 : ¬ (vy_10 : Int32).toInt = (0 : Int32).toInt := fun z => c_29 (Int32.toInt_inj.mp z)
              have z_2 : ¬ (r_79 : Int32).toInt = (0 : Int32).toInt := fun z => c_85 (Int32.toInt_inj.mp z)
              have z_3 := congrArg Int32.toInt c_158
              have y_0 : (0 : Int32).toInt = 0 := by decide
              omega
            have hp_183 : (((0 : Int32).toInt = 0 ∧ ¬ (sv_150 : Int32).toInt = 0) ∨ ((0 : Int32).toInt = 1 ∧ ((Mf 3) (Mv 5).toNatClampNeg).toInt + (sv_152 : Int32).toInt + ((Mv 2) : Int32).toInt ≤ ((Mf 3) (Mv 5).toNatClampNeg).toInt + ((Mv 9) : Int32).toInt + (sv_74 : Int32).toInt ∧ ((Mv 2) : Int32).toInt + 1 ≤ (sv_74 : Int32).toInt ∧ ((Mf 3) (Mv 5).toNatClampNeg).toInt ≤ ((Mf 3) (Mv 5).toNatClampNeg).toInt)) := by
              have z_1 : ¬ (vy_10 : Int32).toInt = (0 : Int32).toInt := fun z => c_29 (Int32.toInt_inj.mp z)
              have z_2 : ¬ (r_79 : Int32).toInt = (0 : Int32).toInt := fun z => c_85 (Int32.toInt_inj.mp z)
              have z_3 := congrArg Int32.toInt c_158
              have y_0 : (0 : Int32).toInt = 0 := by decide
              omega
            have hm_184 : (0 : Int32).toInt = 0 → (RfE R sv_150) := by
              intro h1r
              have hr_185 : (vy_10 : Int32).toInt = 1 := by
                have z_1 : ¬ (vy_10 : Int32).toInt = (0 : Int32).toInt := fun z => c_29 (Int32.toInt_inj.mp z)
                have z_2 : ¬ (r_79 : Int32).toInt = (0 : Int32).toInt := fun z => c_85 (Int32.toInt_inj.mp z)
                have z_3 := congrArg Int32.toInt c_158
                have y_0 : (0 : Int32).toInt = 0 := by decide
                omega
              have hw_186 : pz_wd (rB (Mf 1) (Mv 0)) (sv_74 : Int32).toInt.toNat pz_not = true := by
                have hq := pf_141
                rw [show (7237492 : Int64).toInt = pz_pl pz_not by decide] at hq
                exact (PkW.wd (by decide) (by decide) (by decide)).mp hq
              have hr_187 : (vy_13 : Int32).toInt = 10 := by
                have z_1 : ¬ (vy_10 : Int32).toInt = (0 : Int32).toInt := fun z => c_29 (Int32.toInt_inj.mp z)
                have z_2 : ¬ (r_79 : Int32).toInt = (0 : Int32).toInt := fun z => c_85 (Int32.toInt_inj.mp z)
                have z_3 := congrArg Int32.toInt c_158
                have y_0 : (0 : Int32).toInt = 0 := by decide
                omega
              have hi_188 : (sv_150 : Int32).toInt = 1 + 8 * (sv_74 : Int32).toInt + 2 := by
                have z_1 : ¬ (vy_10 : Int32).toInt = (0 : Int32).toInt := fun z => c_29 (Int32.toInt_inj.mp z)
                have z_2 : ¬ (r_79 : Int32).toInt = (0 : Int32).toInt := fun z => c_85 (Int32.toInt_inj.mp z)
                have z_3 := congrArg Int32.toInt c_158
                have y_0 : (0 : Int32).toInt = 0 := by decide
                omega
              exact (FcL.deep pf_24 hr_185 (SkR.trans pf_66 pf_78) (Or.inl hw_186) hr_187 hi_188)
            exact retI (v := 0) hx hb hr hlk (rfl) hP hD hS (sv_74, sv_150, (Mv 4), (Mv 6), sv_151, sv_152, (Mf 2), (Mf 3), sv_153) ⟨_, rfl, hp_183, ha_181, ha_182, (Agr.rf), (fun h => absurd h (by decide)), hm_184⟩ [3, 2, 0, 1, 4] rfl rfl dX12_fact_33 (Nat.le_of_ble_eq_true rfl) (Nat.le_of_ble_eq_true rfl) rfl
  have ha_189 : (Mv 2).toInt ≤ ((Mv 2) : Int32).toInt := by
    omega
  have ha_190 : 0 ≤ (1 : Int32).toInt ∧ (1 : Int32).toInt ≤ 1 := by
    have y_1 : (1 : Int32).toInt = 1 := by decide
    omega
  have ha_191 : ((Mv 9) : Int32).toInt + ((Mv 2) : Int32).toInt ≤ ((Mv 9) : Int32).toInt + ((Mv 2) : Int32).toInt ∧ 0 ≤ ((Mv 9) : Int32).toInt := by
    omega
  have hr_192 : (1 : Int32).toInt = 1 := by
    have y_1 : (1 : Int32).toInt = 1 := by decide
    omega
  exact loop_18 _ 1 (Mv 2) (Mv 3) (Mv 7) (Mv 9) (Mf 7) _ _ _ (Nat.lt_succ_self _) h_nx ha_189 ha_190 h_lb ha_191 (FcL.first h_fc hr_192) hP hD hS hl
set_option maxRecDepth 100000 in
theorem cu_fX12_fact (l : Launch) (D : va_G) (tc : Nat → ClassId) (sk : (Nat → Nat) × (Nat → Nat)) (Ma_0 : Nat) (Ma_1 : Nat) (Ma_2 : Nat) (Ma_3 : Nat) (Ma_4 : Nat) (Ma_5 : Nat) (Ma_6 : Nat) (Ma_7 : Nat) (Ma_8 : Nat) (Ma_9 : Nat) (Ma_10 : Nat) (Ma_11 : Nat) (Ma_12 : Nat) (Ma_13 : Nat) (Ma_14 : Nat) (Ma_15 : Nat) (Ma_16 : Nat) (Ma_17 : Nat) (Ma_18 : Nat) (Ma_19 : Nat) (Ma_20 : Nat) (Mv_0 : Int32) (Mv_1 : Int32) (Mv_2 : Int32) (Mv_3 : Int32) (Mv_4 : Int32) (Mv_5 : Int32) (Mv_6 : Int32) (Mv_7 : Int32) (Mv_8 : Int32) (Mv_9 : Int32) (Mv_10 : Int32) (Mv_11 : Int32) (Mv_12 : Int32) (Mv_13 : Int32) (Mv_14 : Int32) (Mf_1 : Nat → Int32) (Mf_2 : Nat → Int32) (Mf_3 : Nat → Int32) (Mf_7 : Nat → Int32) (Mj_0 : Int64) (b : Int32) (R : Except Int (Nat × Nat)) (h_nx : 0 ≤ (Mv_2 : Int32).toInt ∧ (Mv_2 : Int32).toInt ≤ (Mv_0 : Int32).toInt ∧ (Mv_0 : Int32).toInt ≤ 400) (h_lb : LBR Mf_7 Mv_9 Mf_2 Mf_3 Mv_5 b Mv_6) (h_s : (Mf_3 Mv_5.toNatClampNeg).toInt + (Mv_9 : Int32).toInt ≤ (Mv_2 : Int32).toInt) (h_md : 0 ≤ (Mv_6 : Int32).toInt ∧ (Mv_6 : Int32).toInt ≤ 60) (h_bs : ByS Mf_1) (h_fc : FcI R (rB Mf_1 Mv_0) Mf_7 Mv_9 Mv_7 Mv_2 Mv_6 Mv_3) : Ct l yX12_fact cX12_fact 3 (some .boolean) { frames := 7, cells := 0, slots := 0, locals := 154 } D tc sk [.ref Ma_0] [(Ma_0, .inr (12, [.ref Ma_1, .int Mv_0, .int Mv_1, .ref Ma_2, .ref Ma_3, .ref Ma_4, .ref Ma_5, .ref Ma_6, .int Mv_2, .int Mv_3, .int Mv_4, .int Mv_5, .int Mv_6, .int Mv_7, .int Mv_8, .ref Ma_7, .int Mv_9, .ref Ma_8, .int Mv_10, .ref Ma_9, .ref Ma_10, .int Mv_11, .int Mv_12, .int Mv_13, .ref Ma_11, .int Mv_14, .ref Ma_12, .ref Ma_13, .ref Ma_14, .ref Ma_15, .ref Ma_16, .long Mj_0, .ref Ma_17, .ref Ma_18, .ref Ma_19, .ref Ma_20])), (Ma_1, .inl (tc 2, 400, .inl Mf_1)), (Ma_2, .inl (tc 0, 2400, .inl Mf_2)), (Ma_3, .inl (tc 0, 7, .inl Mf_3)), (Ma_7, .inl (tc 0, 400, .inl Mf_7))] (fun (v : Option Value) (u : (Int32) × (Int32) × (Int32) × (Int32) × (Int32) × (Int32) × (Nat → Int32) × (Nat → Int32) × (Nat → Int32)) => match u with | (oo0x1, oo0x2, oo0x3, oo0x4, oo0x5, oo0x6, oo0x7, oo0x8, oo0x9) => ∃ r : Int32, v = some (.int r) ∧ (((r.toInt = 0 ∧ ¬ (oo0x2 : Int32).toInt = 0) ∨ (r.toInt = 1 ∧ (oo0x8 Mv_5.toNatClampNeg).toInt + (oo0x6 : Int32).toInt + (Mv_2 : Int32).toInt ≤ (Mf_3 Mv_5.toNatClampNeg).toInt + (Mv_9 : Int32).toInt + (oo0x1 : Int32).toInt ∧ (Mv_2 : Int32).toInt + 1 ≤ (oo0x1 : Int32).toInt ∧ (Mf_3 Mv_5.toNatClampNeg).toInt ≤ (oo0x8 Mv_5.toNatClampNeg).toInt))) ∧ ((Mv_2 : Int32).toInt ≤ (oo0x1 : Int32).toInt ∧ (oo0x1 : Int32).toInt ≤ (Mv_0 : Int32).toInt) ∧ ((Mv_6 : Int32).toInt ≤ (oo0x4 : Int32).toInt ∧ (oo0x4 : Int32).toInt ≤ 60) ∧ (Agr Mf_2 oo0x7 (400 * (Mv_5 : Int32).toInt + (Mf_3 Mv_5.toNatClampNeg).toInt)) ∧ (r.toInt = 1 → (LSR oo0x9 oo0x6 oo0x7 oo0x8 Mv_5 b oo0x4) ∧ (FcO R (rB Mf_1 Mv_0) oo0x9 oo0x6 oo0x5 oo0x1 oo0x4 oo0x2)) ∧ (r.toInt = 0 → (RfE R oo0x2))) (fun (u : (Int32) × (Int32) × (Int32) × (Int32) × (Int32) × (Int32) × (Nat → Int32) × (Nat → Int32) × (Nat → Int32)) => match u with | (oo0x1, oo0x2, oo0x3, oo0x4, oo0x5, oo0x6, oo0x7, oo0x8, oo0x9) => [(Ma_0, .inr (12, [.ref Ma_1, .int Mv_0, .int Mv_1, .ref Ma_2, .ref Ma_3, .ref Ma_4, .ref Ma_5, .ref Ma_6, .int oo0x1, .int oo0x2, .int oo0x3, .int Mv_5, .int oo0x4, .int oo0x5, .int Mv_8, .ref Ma_7, .int oo0x6, .ref Ma_8, .int Mv_10, .ref Ma_9, .ref Ma_10, .int Mv_11, .int Mv_12, .int Mv_13, .ref Ma_11, .int Mv_14, .ref Ma_12, .ref Ma_13, .ref Ma_14, .ref Ma_15, .ref Ma_16, .long Mj_0, .ref Ma_17, .ref Ma_18, .ref Ma_19, .ref Ma_20])), (Ma_1, .inl (tc 2, 400, .inl Mf_1)), (Ma_2, .inl (tc 0, 2400, .inl oo0x7)), (Ma_3, .inl (tc 0, 7, .inl oo0x8)), (Ma_7, .inl (tc 0, 400, .inl oo0x9))]) 0 0 :=
  ct_fX12_fact l D tc sk (fun k => ([Ma_0, Ma_1, Ma_2, Ma_3, Ma_4, Ma_5, Ma_6, Ma_7, Ma_8, Ma_9, Ma_10, Ma_11, Ma_12, Ma_13, Ma_14, Ma_15, Ma_16, Ma_17, Ma_18, Ma_19, Ma_20] : List (Nat)).getD k 0) (fun k => ([Mv_0, Mv_1, Mv_2, Mv_3, Mv_4, Mv_5, Mv_6, Mv_7, Mv_8, Mv_9, Mv_10, Mv_11, Mv_12, Mv_13, Mv_14] : List (Int32)).getD k 0) (fun k => ([(fun _ => 0), Mf_1, Mf_2, Mf_3, (fun _ => 0), (fun _ => 0), (fun _ => 0), Mf_7] : List (Nat → Int32)).getD k (fun _ => 0)) (fun k => ([Mj_0] : List (Int64)).getD k 0) b R h_nx h_lb h_s h_md h_bs h_fc
set_option maxHeartbeats 4000000 in
set_option maxRecDepth 100000 in
theorem ct_fX12_closes (l : Launch) (D : va_G) (tc : Nat → ClassId) (sk : (Nat → Nat) × (Nat → Nat)) (Ma : Nat → Nat) (Mv : Nat → Int32) (Mf : Nat → Nat → Int32) (Mj : Nat → Int64) (b : Int32) (R : Except Int (Nat × Nat)) (h_nx : 0 ≤ ((Mv 2) : Int32).toInt ∧ ((Mv 2) : Int32).toInt ≤ ((Mv 0) : Int32).toInt ∧ ((Mv 0) : Int32).toInt ≤ 400) (h_ls : LSR (Mf 7) (Mv 9) (Mf 2) (Mf 3) (Mv 5) b (Mv 6)) (h_s : ((Mf 3) (Mv 5).toNatClampNeg).toInt + ((Mv 9) : Int32).toInt ≤ ((Mv 2) : Int32).toInt) (h_bs : ByS (Mf 1)) (h_fo : FcO R (rB (Mf 1) (Mv 0)) (Mf 7) (Mv 9) (Mv 7) (Mv 2) (Mv 6) (Mv 3)) : Ct l yX12_closes cX12_closes 1 none { frames := 2, cells := 0, slots := 0, locals := 43 } D tc sk [.ref (Ma 0)] [((Ma 0), .inr (12, [.ref (Ma 1), .int (Mv 0), .int (Mv 1), .ref (Ma 2), .ref (Ma 3), .ref (Ma 4), .ref (Ma 5), .ref (Ma 6), .int (Mv 2), .int (Mv 3), .int (Mv 4), .int (Mv 5), .int (Mv 6), .int (Mv 7), .int (Mv 8), .ref (Ma 7), .int (Mv 9), .ref (Ma 8), .int (Mv 10), .ref (Ma 9), .ref (Ma 10), .int (Mv 11), .int (Mv 12), .int (Mv 13), .ref (Ma 11), .int (Mv 14), .ref (Ma 12), .ref (Ma 13), .ref (Ma 14), .ref (Ma 15), .ref (Ma 16), .long (Mj 0), .ref (Ma 17), .ref (Ma 18), .ref (Ma 19), .ref (Ma 20)])), ((Ma 1), .inl (tc 2, 400, .inl (Mf 1))), ((Ma 2), .inl (tc 0, 2400, .inl (Mf 2))), ((Ma 3), .inl (tc 0, 7, .inl (Mf 3))), ((Ma 7), .inl (tc 0, 400, .inl (Mf 7)))] (fun (v : Option Value) (u : (Int32) × (Int32) × (Int32) × (Nat → Int32) × (Nat → Int32)) => match u with | (oo0x1, oo0x2, oo0x3, oo0x4, oo0x5) => v = none ∧ (((Mv 2) : Int32).toInt ≤ (oo0x1 : Int32).toInt ∧ (oo0x1 : Int32).toInt ≤ ((Mv 0) : Int32).toInt) ∧ (Agr (Mf 2) oo0x4 (400 * ((Mv 5) : Int32).toInt + ((Mf 3) (Mv 5).toNatClampNeg).toInt)) ∧ (LSR (Mf 7) oo0x3 oo0x4 oo0x5 (Mv 5) b (Mv 6)) ∧ ((oo0x5 (Mv 5).toNatClampNeg).toInt + (oo0x3 : Int32).toInt + ((Mv 2) : Int32).toInt ≤ ((Mf 3) (Mv 5).toNatClampNeg).toInt + ((Mv 9) : Int32).toInt + (oo0x1 : Int32).toInt ∧ ((Mf 3) (Mv 5).toNatClampNeg).toInt ≤ (oo0x5 (Mv 5).toNatClampNeg).toInt) ∧ (FcO R (rB (Mf 1) (Mv 0)) (Mf 7) oo0x3 oo0x2 oo0x1 (Mv 6) (Mv 3)) ∧ (T11 (Mf 7) oo0x3) ∧ (NBr (rB (Mf 1) (Mv 0)) (Mf 7) oo0x3 oo0x1)) (fun (u : (Int32) × (Int32) × (Int32) × (Nat → Int32) × (Nat → Int32)) => match u with | (oo0x1, oo0x2, oo0x3, oo0x4, oo0x5) => [((Ma 0), .inr (12, [.ref (Ma 1), .int (Mv 0), .int (Mv 1), .ref (Ma 2), .ref (Ma 3), .ref (Ma 4), .ref (Ma 5), .ref (Ma 6), .int oo0x1, .int (Mv 3), .int (Mv 4), .int (Mv 5), .int (Mv 6), .int oo0x2, .int (Mv 8), .ref (Ma 7), .int oo0x3, .ref (Ma 8), .int (Mv 10), .ref (Ma 9), .ref (Ma 10), .int (Mv 11), .int (Mv 12), .int (Mv 13), .ref (Ma 11), .int (Mv 14), .ref (Ma 12), .ref (Ma 13), .ref (Ma 14), .ref (Ma 15), .ref (Ma 16), .long (Mj 0), .ref (Ma 17), .ref (Ma 18), .ref (Ma 19), .ref (Ma 20)])), ((Ma 1), .inl (tc 2, 400, .inl (Mf 1))), ((Ma 2), .inl (tc 0, 2400, .inl oo0x4)), ((Ma 3), .inl (tc 0, 7, .inl oo0x5)), ((Ma 7), .inl (tc 0, 400, .inl (Mf 7)))]) 0 0 := by
  refine Ct.start (by decide) (Nat.le_of_ble_eq_true rfl) (fun p e s m below meth c A ls hx hb hr hlk hin hml hown hts hK hX hP hD hA hl hS => ?_)
  have hl : lv_has ls 1 [(0, .ref (Ma 0))] := hl
  obtain ⟨pn_1, pf_2, pf_3⟩ := id h_ls
  have ar_h_ls := LSR.ar h_ls
  have ar_pf_3 := Cd.ar pf_3
  have ar_h_fo := OsP.ar h_fo.1
  have aw_h_fo := h_fo.2.1
  refine lv_aload_n hx hb dX12_closes_0 rfl (lv_at hl 0 rfl) ?_
  refine lv_iconst (v := 3) hx hb dX12_closes_1 (by decide) ?_
  have ha_4 : 1 ≤ (3 : Int32).toInt ∧ (3 : Int32).toInt ≤ 3 := by
    have y_3 : (3 : Int32).toInt = 3 := by decide
    omega
  have ha_5 : ((Mf 3) (Mv 5).toNatClampNeg).toInt + ((Mv 9) : Int32).toInt ≤ 400 := by
    omega
  refine cV (a := (Ma 0)) (As := [.int 3]) (rest := []) (wr := [((Ma 1), .inl (tc 2, 400, .inl (Mf 1)))]) ⟨hx, hb, hml, hown, hts⟩ hK hX hA (cu_fX12_layDown l D tc sk (Ma 0) (Ma 1) (Ma 2) (Ma 3) (Ma 4) (Ma 5) (Ma 6) (Ma 7) (Ma 8) (Ma 9) (Ma 10) (Ma 11) (Ma 12) (Ma 13) (Ma 14) (Ma 15) (Ma 16) (Ma 17) (Ma 18) (Ma 19) (Ma 20) (Mv 0) (Mv 1) (Mv 2) (Mv 3) (Mv 4) (Mv 5) (Mv 6) (Mv 7) (Mv 8) (Mv 9) (Mv 10) (Mv 11) (Mv 12) (Mv 13) (Mv 14) (Mf 2) (Mf 3) (Mf 7) (Mj 0) 3 b h_ls ha_4 ha_5 h_fo.1) k_1342 k_1339 k_1341 k_54 k_106 pl_X12_layDown ⟨Nat.le_of_ble_eq_true rfl, Nat.le_of_ble_eq_true rfl⟩ rfl rfl (va_recv hK hP (ci := 12) (q0 := 0) rfl rfl) hP hD hS [0, 2, 3, 4] [1] rfl rfl rfl rfl rfl (by decide) rfl hl.1 rfl (Nat.le_of_ble_eq_true rfl) dX12_closes_2 ⟨Nat.le_of_ble_eq_true rfl, Nat.le_of_ble_eq_true rfl⟩ (fun v_6 u_7 H locs hv_8 hP₀ hD₀ hS₀ => ?_)
  obtain ⟨sv_9, sv_10, sv_11, sv_12⟩ := u_7
  obtain ⟨rfl, pf_13, pf_14, pf_15, pf_16, pf_17, pf_18, pf_19⟩ := hv_8
  have pf_13 : LSR (Mf 7) sv_10 sv_11 sv_12 (Mv 5) b (Mv 6) := pf_13
  obtain ⟨pn_20, pf_21, pf_22⟩ := id pf_13
  have ar_pf_13 := LSR.ar pf_13
  have ar_pf_22 := Cd.ar pf_22
  have pf_14 : (sv_12 (Mv 5).toNatClampNeg).toInt + (sv_10 : Int32).toInt = ((Mf 3) (Mv 5).toNatClampNeg).toInt + ((Mv 9) : Int32).toInt ∧ 0 ≤ (sv_10 : Int32).toInt ∧ (sv_10 : Int32).toInt ≤ ((Mv 9) : Int32).toInt := pf_14
  have pf_15 : Agr (Mf 2) sv_11 (400 * ((Mv 5) : Int32).toInt + ((Mf 3) (Mv 5).toNatClampNeg).toInt) := pf_15
  have pf_16 : LdE (Mf 7) sv_10 (3 : Int32) := pf_16
  have pf_17 : InK (Mf 7) (Mv 9) sv_10 := pf_17
  have pf_18 : LdP (Mf 7) (Mv 9) sv_10 sv_9 := pf_18
  have ar_pf_18 := OsP.ar pf_18.1
  have pf_19 : T11 (Mf 7) sv_10 := pf_19
  refine W.eq (g2 := F0 m 5 ls []) rfl ?_
  replace hP : va_P D classes [((Ma 1), .inl (tc 2, 400, .inl (Mf 1))), ((Ma 0), .inr (12, [.ref (Ma 1), .int (Mv 0), .int (Mv 1), .ref (Ma 2), .ref (Ma 3), .ref (Ma 4), .ref (Ma 5), .ref (Ma 6), .int (Mv 2), .int (Mv 3), .int (Mv 4), .int (Mv 5), .int (Mv 6), .int sv_9, .int (Mv 8), .ref (Ma 7), .int sv_10, .ref (Ma 8), .int (Mv 10), .ref (Ma 9), .ref (Ma 10), .int (Mv 11), .int (Mv 12), .int (Mv 13), .ref (Ma 11), .int (Mv 14), .ref (Ma 12), .ref (Ma 13), .ref (Ma 14), .ref (Ma 15), .ref (Ma 16), .long (Mj 0), .ref (Ma 17), .ref (Ma 18), .ref (Ma 19), .ref (Ma 20)])), ((Ma 2), .inl (tc 0, 2400, .inl sv_11)), ((Ma 3), .inl (tc 0, 7, .inl sv_12)), ((Ma 7), .inl (tc 0, 400, .inl (Mf 7)))] H := hP₀
  replace hD : va_D A [((Ma 1), .inl (tc 2, 400, .inl (Mf 1))), ((Ma 0), .inr (12, [.ref (Ma 1), .int (Mv 0), .int (Mv 1), .ref (Ma 2), .ref (Ma 3), .ref (Ma 4), .ref (Ma 5), .ref (Ma 6), .int (Mv 2), .int (Mv 3), .int (Mv 4), .int (Mv 5), .int (Mv 6), .int sv_9, .int (Mv 8), .ref (Ma 7), .int sv_10, .ref (Ma 8), .int (Mv 10), .ref (Ma 9), .ref (Ma 10), .int (Mv 11), .int (Mv 12), .int (Mv 13), .ref (Ma 11), .int (Mv 14), .ref (Ma 12), .ref (Ma 13), .ref (Ma 14), .ref (Ma 15), .ref (Ma 16), .long (Mj 0), .ref (Ma 17), .ref (Ma 18), .ref (Ma 19), .ref (Ma 20)])), ((Ma 2), .inl (tc 0, 2400, .inl sv_11)), ((Ma 3), .inl (tc 0, 7, .inl sv_12)), ((Ma 7), .inl (tc 0, 400, .inl (Mf 7)))] := hD₀
  replace hS := hS₀
  clear hP₀ hD₀ hS₀
  have loop_35 : ∀ (n_33 : Nat) (vy_28 : Int32) (vy_29 : Int32) (vy_30 : Int32) (vy_31 : Nat → Int32) (vy_32 : Nat → Int32) (H : Heap) (locs : List Loc) (ls : Array Slot), (401 - (vy_28 : Int32).toInt).toNat < n_33 → (0 ≤ (vy_28 : Int32).toInt ∧ (vy_28 : Int32).toInt ≤ ((Mv 0) : Int32).toInt ∧ ((Mv 0) : Int32).toInt ≤ 400) → ((Mv 2).toInt ≤ (vy_28 : Int32).toInt) → (LSR (Mf 7) vy_30 vy_31 vy_32 (Mv 5) b (Mv 6)) → ((vy_32 (Mv 5).toNatClampNeg).toInt + (vy_30 : Int32).toInt + ((Mv 2) : Int32).toInt ≤ ((Mf 3) (Mv 5).toNatClampNeg).toInt + ((Mv 9) : Int32).toInt + (vy_28 : Int32).toInt ∧ ((Mf 3) (Mv 5).toNatClampNeg).toInt ≤ (vy_32 (Mv 5).toNatClampNeg).toInt) → (Agr (Mf 2) vy_31 (400 * ((Mv 5) : Int32).toInt + ((Mf 3) (Mv 5).toNatClampNeg).toInt)) → (FcO R (rB (Mf 1) (Mv 0)) (Mf 7) vy_30 vy_29 vy_28 (Mv 6) (Mv 3)) → (T11 (Mf 7) vy_30) → va_P D classes [((Ma 1), .inl (tc 2, 400, .inl (Mf 1))), ((Ma 0), .inr (12, [.ref (Ma 1), .int (Mv 0), .int (Mv 1), .ref (Ma 2), .ref (Ma 3), .ref (Ma 4), .ref (Ma 5), .ref (Ma 6), .int vy_28, .int (Mv 3), .int (Mv 4), .int (Mv 5), .int (Mv 6), .int vy_29, .int (Mv 8), .ref (Ma 7), .int vy_30, .ref (Ma 8), .int (Mv 10), .ref (Ma 9), .ref (Ma 10), .int (Mv 11), .int (Mv 12), .int (Mv 13), .ref (Ma 11), .int (Mv 14), .ref (Ma 12), .ref (Ma 13), .ref (Ma 14), .ref (Ma 15), .ref (Ma 16), .long (Mj 0), .ref (Ma 17), .ref (Ma 18), .ref (Ma 19), .ref (Ma 20)])), ((Ma 2), .inl (tc 0, 2400, .inl vy_31)), ((Ma 3), .inl (tc 0, 7, .inl vy_32)), ((Ma 7), .inl (tc 0, 400, .inl (Mf 7)))] H → va_D A [((Ma 1), .inl (tc 2, 400, .inl (Mf 1))), ((Ma 0), .inr (12, [.ref (Ma 1), .int (Mv 0), .int (Mv 1), .ref (Ma 2), .ref (Ma 3), .ref (Ma 4), .ref (Ma 5), .ref (Ma 6), .int vy_28, .int (Mv 3), .int (Mv 4), .int (Mv 5), .int (Mv 6), .int vy_29, .int (Mv 8), .ref (Ma 7), .int vy_30, .ref (Ma 8), .int (Mv 10), .ref (Ma 9), .ref (Ma 10), .int (Mv 11), .int (Mv 12), .int (Mv 13), .ref (Ma 11), .int (Mv 14), .ref (Ma 12), .ref (Ma 13), .ref (Ma 14), .ref (Ma 15), .ref (Ma 16), .long (Mj 0), .ref (Ma 17), .ref (Ma 18), .ref (Ma 19), .ref (Ma 20)])), ((Ma 2), .inl (tc 0, 2400, .inl vy_31)), ((Ma 3), .inl (tc 0, 7, .inl vy_32)), ((Ma 7), .inl (tc 0, 400, .inl (Mf 7)))] → va_S A s.heap H locs → lv_has ls 1 [(0, .ref (Ma 0))] → W p l e ({ frames := 2, cells := 0, slots := 0, locals := 43 }) s m ([.ref (Ma 0)].toArray) below meth c H locs 0 0 (MQ below (QW (fun (v : Option Value) (u : (Int32) × (Int32) × (Int32) × (Nat → Int32) × (Nat → Int32)) => match u with | (oo0x1, oo0x2, oo0x3, oo0x4, oo0x5) => v = none ∧ (((Mv 2) : Int32).toInt ≤ (oo0x1 : Int32).toInt ∧ (oo0x1 : Int32).toInt ≤ ((Mv 0) : Int32).toInt) ∧ (Agr (Mf 2) oo0x4 (400 * ((Mv 5) : Int32).toInt + ((Mf 3) (Mv 5).toNatClampNeg).toInt)) ∧ (LSR (Mf 7) oo0x3 oo0x4 oo0x5 (Mv 5) b (Mv 6)) ∧ ((oo0x5 (Mv 5).toNatClampNeg).toInt + (oo0x3 : Int32).toInt + ((Mv 2) : Int32).toInt ≤ ((Mf 3) (Mv 5).toNatClampNeg).toInt + ((Mv 9) : Int32).toInt + (oo0x1 : Int32).toInt ∧ ((Mf 3) (Mv 5).toNatClampNeg).toInt ≤ (oo0x5 (Mv 5).toNatClampNeg).toInt) ∧ (FcO R (rB (Mf 1) (Mv 0)) (Mf 7) oo0x3 oo0x2 oo0x1 (Mv 6) (Mv 3)) ∧ (T11 (Mf 7) oo0x3) ∧ (NBr (rB (Mf 1) (Mv 0)) (Mf 7) oo0x3 oo0x1)) (BW D (fun (u : (Int32) × (Int32) × (Int32) × (Nat → Int32) × (Nat → Int32)) => match u with | (oo0x1, oo0x2, oo0x3, oo0x4, oo0x5) => [((Ma 0), .inr (12, [.ref (Ma 1), .int (Mv 0), .int (Mv 1), .ref (Ma 2), .ref (Ma 3), .ref (Ma 4), .ref (Ma 5), .ref (Ma 6), .int oo0x1, .int (Mv 3), .int (Mv 4), .int (Mv 5), .int (Mv 6), .int oo0x2, .int (Mv 8), .ref (Ma 7), .int oo0x3, .ref (Ma 8), .int (Mv 10), .ref (Ma 9), .ref (Ma 10), .int (Mv 11), .int (Mv 12), .int (Mv 13), .ref (Ma 11), .int (Mv 14), .ref (Ma 12), .ref (Ma 13), .ref (Ma 14), .ref (Ma 15), .ref (Ma 16), .long (Mj 0), .ref (Ma 17), .ref (Ma 18), .ref (Ma 19), .ref (Ma 20)])), ((Ma 1), .inl (tc 2, 400, .inl (Mf 1))), ((Ma 2), .inl (tc 0, 2400, .inl oo0x4)), ((Ma 3), .inl (tc 0, 7, .inl oo0x5)), ((Ma 7), .inl (tc 0, 400, .inl (Mf 7)))]) A) A) ([.ref (Ma 0)].toArray) s 0 0 A) (F0 m 5 ls []) := by
    clear hP hD hS hl
    intro n_33
    induction n_33 with
    | zero =>
      intro vy_28 vy_29 vy_30 vy_31 vy_32 H locs ls h1
      exact absurd h1 (Nat.not_lt_zero _)
    | succ n_33 ih_34 =>
      intro vy_28 vy_29 vy_30 vy_31 vy_32 H locs ls hn_43 pf_36 pf_37 pf_38 pf_39 pf_40 pf_41 pf_42 hP hD hS hl
      obtain ⟨pn_44, pf_45, pf_46⟩ := id pf_38
      have ar_pf_38 := LSR.ar pf_38
      have ar_pf_46 := Cd.ar pf_46
      have ar_pf_41 := OsP.ar pf_41.1
      have aw_pf_41 := pf_41.2.1
      refine lv_aload_n hx hb dX12_closes_5 rfl (lv_at hl 0 rfl) ?_
      refine cV (a := (Ma 0)) (As := []) (rest := []) (wr := [((Ma 2), .inl (tc 0, 2400, .inl vy_31)), ((Ma 3), .inl (tc 0, 7, .inl vy_32)), ((Ma 7), .inl (tc 0, 400, .inl (Mf 7)))]) ⟨hx, hb, hml, hown, hts⟩ hK hX hA (cu_fX12_see l D tc sk (Ma 0) (Ma 1) (Ma 2) (Ma 3) (Ma 4) (Ma 5) (Ma 6) (Ma 7) (Ma 8) (Ma 9) (Ma 10) (Ma 11) (Ma 12) (Ma 13) (Ma 14) (Ma 15) (Ma 16) (Ma 17) (Ma 18) (Ma 19) (Ma 20) (Mv 0) (Mv 1) vy_28 (Mv 3) (Mv 4) (Mv 5) (Mv 6) vy_29 (Mv 8) vy_30 (Mv 10) (Mv 11) (Mv 12) (Mv 13) (Mv 14) (Mf 1) (Mj 0) pf_36 h_bs) k_1211 k_1208 k_1210 k_27 k_106 pl_X12_see ⟨Nat.le_of_ble_eq_true rfl, Nat.le_of_ble_eq_true rfl⟩ rfl rfl (va_recv hK hP (ci := 12) (q0 := 1) rfl rfl) hP hD hS [1, 0] [2, 3, 4] rfl rfl rfl rfl rfl (by decide) rfl hl.1 rfl (Nat.le_of_ble_eq_true rfl) dX12_closes_6 ⟨Nat.le_of_ble_eq_true rfl, Nat.le_of_ble_eq_true rfl⟩ (fun v_47 u_48 H locs hv_49 hP₀ hD₀ hS₀ => ?_)
      obtain ⟨sv_50, rfl⟩ : ∃ z, z = u_48 := ⟨_, rfl⟩
      obtain ⟨r_55, rfl, he_56, pf_51, pf_52, pf_53, pf_54⟩ := hv_49
      have he_56 : (r_55.toInt = rB (Mf 1) (Mv 0) (sv_50 : Int32).toInt.toNat ∧ (r_55.toInt = -1 ∨ (sv_50 : Int32).toInt < (Mv 0).toInt)) := he_56
      have pf_51 : (vy_28 : Int32).toInt ≤ (sv_50 : Int32).toInt ∧ (sv_50 : Int32).toInt ≤ ((Mv 0) : Int32).toInt := pf_51
      have pf_52 : NSq (Mf 1) (Mv 0) sv_50 := pf_52
      have pf_53 : Stl (Mf 1) (Mv 0) vy_28 sv_50 := pf_53
      have pf_54 : SkR (rB (Mf 1) (Mv 0)) vy_28 sv_50 := pf_54
      refine W.eq (g2 := F0 m 9 ls [.int r_55]) rfl ?_
      replace hP : va_P D classes [((Ma 2), .inl (tc 0, 2400, .inl vy_31)), ((Ma 3), .inl (tc 0, 7, .inl vy_32)), ((Ma 7), .inl (tc 0, 400, .inl (Mf 7))), ((Ma 0), .inr (12, [.ref (Ma 1), .int (Mv 0), .int (Mv 1), .ref (Ma 2), .ref (Ma 3), .ref (Ma 4), .ref (Ma 5), .ref (Ma 6), .int sv_50, .int (Mv 3), .int (Mv 4), .int (Mv 5), .int (Mv 6), .int vy_29, .int (Mv 8), .ref (Ma 7), .int vy_30, .ref (Ma 8), .int (Mv 10), .ref (Ma 9), .ref (Ma 10), .int (Mv 11), .int (Mv 12), .int (Mv 13), .ref (Ma 11), .int (Mv 14), .ref (Ma 12), .ref (Ma 13), .ref (Ma 14), .ref (Ma 15), .ref (Ma 16), .long (Mj 0), .ref (Ma 17), .ref (Ma 18), .ref (Ma 19), .ref (Ma 20)])), ((Ma 1), .inl (tc 2, 400, .inl (Mf 1)))] H := hP₀
      replace hD : va_D A [((Ma 2), .inl (tc 0, 2400, .inl vy_31)), ((Ma 3), .inl (tc 0, 7, .inl vy_32)), ((Ma 7), .inl (tc 0, 400, .inl (Mf 7))), ((Ma 0), .inr (12, [.ref (Ma 1), .int (Mv 0), .int (Mv 1), .ref (Ma 2), .ref (Ma 3), .ref (Ma 4), .ref (Ma 5), .ref (Ma 6), .int sv_50, .int (Mv 3), .int (Mv 4), .int (Mv 5), .int (Mv 6), .int vy_29, .int (Mv 8), .ref (Ma 7), .int vy_30, .ref (Ma 8), .int (Mv 10), .ref (Ma 9), .ref (Ma 10), .int (Mv 11), .int (Mv 12), .int (Mv 13), .ref (Ma 11), .int (Mv 14), .ref (Ma 12), .ref (Ma 13), .ref (Ma 14), .ref (Ma 15), .ref (Ma 16), .long (Mj 0), .ref (Ma 17), .ref (Ma 18), .ref (Ma 19), .ref (Ma 20)])), ((Ma 1), .inl (tc 2, 400, .inl (Mf 1)))] := hD₀
      replace hS := hS₀
      clear hP₀ hD₀ hS₀
      refine lv_bipush (v := 93) hx hb dX12_closes_9 (by decide) ?_
      refine lv_icmp_ne (tgt := 64) hx hb dX12_closes_11 (by decide) (fun c_58 => ?_) (fun c_58 => ?_)
      · skip
        have ha_59 : ((Mv 2) : Int32).toInt ≤ (sv_50 : Int32).toInt ∧ (sv_50 : Int32).toInt ≤ ((Mv 0) : Int32).toInt := by
          have z_1 : ¬ (r_55 : Int32).toInt = (93 : Int32).toInt := fun z => c_58 (Int32.toInt_inj.mp z)
          have y_93 : (93 : Int32).toInt = 93 := by decide
          omega
        have ha_60 : (vy_32 (Mv 5).toNatClampNeg).toInt + (vy_30 : Int32).toInt + ((Mv 2) : Int32).toInt ≤ ((Mf 3) (Mv 5).toNatClampNeg).toInt + ((Mv 9) : Int32).toInt + (sv_50 : Int32).toInt ∧ ((Mf 3) (Mv 5).toNatClampNeg).toInt ≤ (vy_32 (Mv 5).toNatClampNeg).toInt := by
          have z_1 : ¬ (r_55 : Int32).toInt = (93 : Int32).toInt := fun z => c_58 (Int32.toInt_inj.mp z)
          have y_93 : (93 : Int32).toInt = 93 := by decide
          omega
        have pf_61 : FcO R (rB (Mf 1) (Mv 0)) (Mf 7) vy_30 vy_29 sv_50 (Mv 6) (Mv 3) := (FcO.sk pf_41 pf_54)
        have hr_62 : ¬ (rB (Mf 1) (Mv 0) (sv_50 : Int32).toInt.toNat = 93) := by
          have z_1 : ¬ (r_55 : Int32).toInt = (93 : Int32).toInt := fun z => c_58 (Int32.toInt_inj.mp z)
          have y_93 : (93 : Int32).toInt = 93 := by decide
          omega
        exact retV hx hb hr hlk hP hD hS (sv_50, vy_29, vy_30, vy_31, vy_32) ⟨rfl, ha_59, pf_40, pf_38, ha_60, pf_61, pf_42, (NBr.no pf_54 hr_62)⟩ [3, 4, 0, 1, 2] rfl rfl dX12_closes_64 (Nat.le_of_ble_eq_true rfl) (Nat.le_of_ble_eq_true rfl) rfl
      · skip
        refine lv_aload_n hx hb dX12_closes_14 rfl (lv_at hl 0 rfl) ?_
        have ha_63 : 0 ≤ (vy_30 : Int32).toInt ∧ (vy_30 : Int32).toInt ≤ 400 := by
          have z_1 := congrArg Int32.toInt c_58
          have y_93 : (93 : Int32).toInt = 93 := by decide
          omega
        refine cV (a := (Ma 0)) (As := []) (rest := []) (wr := [((Ma 2), .inl (tc 0, 2400, .inl vy_31)), ((Ma 3), .inl (tc 0, 7, .inl vy_32)), ((Ma 1), .inl (tc 2, 400, .inl (Mf 1)))]) ⟨hx, hb, hml, hown, hts⟩ hK hX hA (cu_X12_isInside l D tc sk (Ma 0) (Ma 1) (Ma 2) (Ma 3) (Ma 4) (Ma 5) (Ma 6) (Ma 7) (Ma 8) (Ma 9) (Ma 10) (Ma 11) (Ma 12) (Ma 13) (Ma 14) (Ma 15) (Ma 16) (Ma 17) (Ma 18) (Ma 19) (Ma 20) (Mv 0) (Mv 1) sv_50 (Mv 3) (Mv 4) (Mv 5) (Mv 6) vy_29 (Mv 8) vy_30 (Mv 10) (Mv 11) (Mv 12) (Mv 13) (Mv 14) (Mf 7) (Mj 0) ha_63) k_1349 k_1346 k_1348 k_55 k_106 pl_X12_isInside ⟨Nat.le_of_ble_eq_true rfl, Nat.le_of_ble_eq_true rfl⟩ rfl rfl (va_recv hK hP (ci := 12) (q0 := 3) rfl rfl) hP hD hS [3, 2] [0, 1, 4] rfl rfl rfl rfl rfl (by decide) rfl hl.1 rfl (Nat.le_of_ble_eq_true rfl) dX12_closes_15 ⟨Nat.le_of_ble_eq_true rfl, Nat.le_of_ble_eq_true rfl⟩ (fun v_64 u_65 H locs hv_66 hP₀ hD₀ hS₀ => ?_)
        obtain ⟨r_67, rfl, he_68, hm_70, hm_71⟩ := hv_66
        have he_68 : (r_67.toInt = 0 ∨ r_67.toInt = 1) := he_68
        refine W.eq (g2 := F0 m 18 ls [.int r_67]) rfl ?_
        replace hP : va_P D classes [((Ma 2), .inl (tc 0, 2400, .inl vy_31)), ((Ma 3), .inl (tc 0, 7, .inl vy_32)), ((Ma 1), .inl (tc 2, 400, .inl (Mf 1))), ((Ma 0), .inr (12, [.ref (Ma 1), .int (Mv 0), .int (Mv 1), .ref (Ma 2), .ref (Ma 3), .ref (Ma 4), .ref (Ma 5), .ref (Ma 6), .int sv_50, .int (Mv 3), .int (Mv 4), .int (Mv 5), .int (Mv 6), .int vy_29, .int (Mv 8), .ref (Ma 7), .int vy_30, .ref (Ma 8), .int (Mv 10), .ref (Ma 9), .ref (Ma 10), .int (Mv 11), .int (Mv 12), .int (Mv 13), .ref (Ma 11), .int (Mv 14), .ref (Ma 12), .ref (Ma 13), .ref (Ma 14), .ref (Ma 15), .ref (Ma 16), .long (Mj 0), .ref (Ma 17), .ref (Ma 18), .ref (Ma 19), .ref (Ma 20)])), ((Ma 7), .inl (tc 0, 400, .inl (Mf 7)))] H := hP₀
        replace hD : va_D A [((Ma 2), .inl (tc 0, 2400, .inl vy_31)), ((Ma 3), .inl (tc 0, 7, .inl vy_32)), ((Ma 1), .inl (tc 2, 400, .inl (Mf 1))), ((Ma 0), .inr (12, [.ref (Ma 1), .int (Mv 0), .int (Mv 1), .ref (Ma 2), .ref (Ma 3), .ref (Ma 4), .ref (Ma 5), .ref (Ma 6), .int sv_50, .int (Mv 3), .int (Mv 4), .int (Mv 5), .int (Mv 6), .int vy_29, .int (Mv 8), .ref (Ma 7), .int vy_30, .ref (Ma 8), .int (Mv 10), .ref (Ma 9), .ref (Ma 10), .int (Mv 11), .int (Mv 12), .int (Mv 13), .ref (Ma 11), .int (Mv 14), .ref (Ma 12), .ref (Ma 13), .ref (Ma 14), .ref (Ma 15), .ref (Ma 16), .long (Mj 0), .ref (Ma 17), .ref (Ma 18), .ref (Ma 19), .ref (Ma 20)])), ((Ma 7), .inl (tc 0, 400, .inl (Mf 7)))] := hD₀
        replace hS := hS₀
        clear hP₀ hD₀ hS₀
        refine lv_if_eq (tgt := 64) hx hb dX12_closes_18 (by decide) (fun c_72 => ?_) (fun c_72 => ?_)
        · skip
          have hz_74 : (r_67 : Int32).toInt = 0 := by
            have z_1 := congrArg Int32.toInt c_58
            have z_2 := congrArg Int32.toInt c_72
            have y_0 : (0 : Int32).toInt = 0 := by decide
            have y_93 : (93 : Int32).toInt = 93 := by decide
            omega
          obtain pf_73 := hm_71 hz_74
          have pf_73 : NIns (Mf 7) vy_30 := pf_73
          have ha_75 : ((Mv 2) : Int32).toInt ≤ (sv_50 : Int32).toInt ∧ (sv_50 : Int32).toInt ≤ ((Mv 0) : Int32).toInt := by
            have z_1 := congrArg Int32.toInt c_58
            have z_2 := congrArg Int32.toInt c_72
            have y_0 : (0 : Int32).toInt = 0 := by decide
            have y_93 : (93 : Int32).toInt = 93 := by decide
            omega
          have ha_76 : (vy_32 (Mv 5).toNatClampNeg).toInt + (vy_30 : Int32).toInt + ((Mv 2) : Int32).toInt ≤ ((Mf 3) (Mv 5).toNatClampNeg).toInt + ((Mv 9) : Int32).toInt + (sv_50 : Int32).toInt ∧ ((Mf 3) (Mv 5).toNatClampNeg).toInt ≤ (vy_32 (Mv 5).toNatClampNeg).toInt := by
            have z_1 := congrArg Int32.toInt c_58
            have z_2 := congrArg Int32.toInt c_72
            have y_0 : (0 : Int32).toInt = 0 := by decide
            have y_93 : (93 : Int32).toInt = 93 := by decide
            omega
          have pf_77 : FcO R (rB (Mf 1) (Mv 0)) (Mf 7) vy_30 vy_29 sv_50 (Mv 6) (Mv 3) := (FcO.sk pf_41 pf_54)
          exact retV hx hb hr hlk hP hD hS (sv_50, vy_29, vy_30, vy_31, vy_32) ⟨rfl, ha_75, pf_40, pf_38, ha_76, pf_77, pf_42, (Or.inl pf_73)⟩ [3, 2, 0, 1, 4] rfl rfl dX12_closes_64 (Nat.le_of_ble_eq_true rfl) (Nat.le_of_ble_eq_true rfl) rfl
        · skip
          have hz_79 : (r_67 : Int32).toInt = 1 := by
            have z_1 := congrArg Int32.toInt c_58
            have z_2 : ¬ (r_67 : Int32).toInt = (0 : Int32).toInt := fun z => c_72 (Int32.toInt_inj.mp z)
            have y_0 : (0 : Int32).toInt = 0 := by decide
            have y_93 : (93 : Int32).toInt = 93 := by decide
            omega
          obtain pf_78 := hm_70 hz_79
          have pf_78 : Ins (Mf 7) vy_30 := pf_78
          have ar_pf_78 := Ins.ar pf_78
          refine lv_aload_n hx hb dX12_closes_21 rfl (lv_at hl 0 rfl) ?_
          refine lv_iconst (v := 1) hx hb dX12_closes_22 (by decide) ?_
          have ha_80 : 1 ≤ (1 : Int32).toInt ∧ (1 : Int32).toInt ≤ 3 := by
            have z_1 := congrArg Int32.toInt c_58
            have z_2 : ¬ (r_67 : Int32).toInt = (0 : Int32).toInt := fun z => c_72 (Int32.toInt_inj.mp z)
            have y_0 : (0 : Int32).toInt = 0 := by decide
            have y_93 : (93 : Int32).toInt = 93 := by decide
            have y_1 : (1 : Int32).toInt = 1 := by decide
            omega
          have ha_81 : (vy_32 (Mv 5).toNatClampNeg).toInt + (vy_30 : Int32).toInt ≤ 400 := by
            have z_1 := congrArg Int32.toInt c_58
            have z_2 : ¬ (r_67 : Int32).toInt = (0 : Int32).toInt := fun z => c_72 (Int32.toInt_inj.mp z)
            have y_0 : (0 : Int32).toInt = 0 := by decide
            have y_93 : (93 : Int32).toInt = 93 := by decide
            omega
          refine cV (a := (Ma 0)) (As := [.int 1]) (rest := []) (wr := [((Ma 1), .inl (tc 2, 400, .inl (Mf 1)))]) ⟨hx, hb, hml, hown, hts⟩ hK hX hA (cu_fX12_layDown l D tc sk (Ma 0) (Ma 1) (Ma 2) (Ma 3) (Ma 4) (Ma 5) (Ma 6) (Ma 7) (Ma 8) (Ma 9) (Ma 10) (Ma 11) (Ma 12) (Ma 13) (Ma 14) (Ma 15) (Ma 16) (Ma 17) (Ma 18) (Ma 19) (Ma 20) (Mv 0) (Mv 1) sv_50 (Mv 3) (Mv 4) (Mv 5) (Mv 6) vy_29 (Mv 8) vy_30 (Mv 10) (Mv 11) (Mv 12) (Mv 13) (Mv 14) vy_31 vy_32 (Mf 7) (Mj 0) 1 b pf_38 ha_80 ha_81 pf_41.1) k_1342 k_1339 k_1341 k_54 k_106 pl_X12_layDown ⟨Nat.le_of_ble_eq_true rfl, Nat.le_of_ble_eq_true rfl⟩ rfl rfl (va_recv hK hP (ci := 12) (q0 := 3) rfl rfl) hP hD hS [3, 0, 1, 4] [2] rfl rfl rfl rfl rfl (by decide) rfl hl.1 rfl (Nat.le_of_ble_eq_true rfl) dX12_closes_23 ⟨Nat.le_of_ble_eq_true rfl, Nat.le_of_ble_eq_true rfl⟩ (fun v_82 u_83 H locs hv_84 hP₀ hD₀ hS₀ => ?_)
          obtain ⟨sv_85, sv_86, sv_87, sv_88⟩ := u_83
          obtain ⟨rfl, pf_89, pf_90, pf_91, pf_92, pf_93, pf_94, pf_95⟩ := hv_84
          have pf_89 : LSR (Mf 7) sv_86 sv_87 sv_88 (Mv 5) b (Mv 6) := pf_89
          obtain ⟨pn_96, pf_97, pf_98⟩ := id pf_89
          have ar_pf_89 := LSR.ar pf_89
          have ar_pf_98 := Cd.ar pf_98
          have pf_90 : (sv_88 (Mv 5).toNatClampNeg).toInt + (sv_86 : Int32).toInt = (vy_32 (Mv 5).toNatClampNeg).toInt + (vy_30 : Int32).toInt ∧ 0 ≤ (sv_86 : Int32).toInt ∧ (sv_86 : Int32).toInt ≤ (vy_30 : Int32).toInt := pf_90
          have pf_91 : Agr vy_31 sv_87 (400 * ((Mv 5) : Int32).toInt + (vy_32 (Mv 5).toNatClampNeg).toInt) := pf_91
          have pf_92 : LdE (Mf 7) sv_86 (1 : Int32) := pf_92
          have pf_93 : InK (Mf 7) vy_30 sv_86 := pf_93
          have pf_94 : LdP (Mf 7) vy_30 sv_86 sv_85 := pf_94
          have ar_pf_94 := OsP.ar pf_94.1
          have pf_95 : T11 (Mf 7) sv_86 := pf_95
          refine W.eq (g2 := F0 m 26 ls []) rfl ?_
          replace hP : va_P D classes [((Ma 1), .inl (tc 2, 400, .inl (Mf 1))), ((Ma 0), .inr (12, [.ref (Ma 1), .int (Mv 0), .int (Mv 1), .ref (Ma 2), .ref (Ma 3), .ref (Ma 4), .ref (Ma 5), .ref (Ma 6), .int sv_50, .int (Mv 3), .int (Mv 4), .int (Mv 5), .int (Mv 6), .int sv_85, .int (Mv 8), .ref (Ma 7), .int sv_86, .ref (Ma 8), .int (Mv 10), .ref (Ma 9), .ref (Ma 10), .int (Mv 11), .int (Mv 12), .int (Mv 13), .ref (Ma 11), .int (Mv 14), .ref (Ma 12), .ref (Ma 13), .ref (Ma 14), .ref (Ma 15), .ref (Ma 16), .long (Mj 0), .ref (Ma 17), .ref (Ma 18), .ref (Ma 19), .ref (Ma 20)])), ((Ma 2), .inl (tc 0, 2400, .inl sv_87)), ((Ma 3), .inl (tc 0, 7, .inl sv_88)), ((Ma 7), .inl (tc 0, 400, .inl (Mf 7)))] H := hP₀
          replace hD : va_D A [((Ma 1), .inl (tc 2, 400, .inl (Mf 1))), ((Ma 0), .inr (12, [.ref (Ma 1), .int (Mv 0), .int (Mv 1), .ref (Ma 2), .ref (Ma 3), .ref (Ma 4), .ref (Ma 5), .ref (Ma 6), .int sv_50, .int (Mv 3), .int (Mv 4), .int (Mv 5), .int (Mv 6), .int sv_85, .int (Mv 8), .ref (Ma 7), .int sv_86, .ref (Ma 8), .int (Mv 10), .ref (Ma 9), .ref (Ma 10), .int (Mv 11), .int (Mv 12), .int (Mv 13), .ref (Ma 11), .int (Mv 14), .ref (Ma 12), .ref (Ma 13), .ref (Ma 14), .ref (Ma 15), .ref (Ma 16), .long (Mj 0), .ref (Ma 17), .ref (Ma 18), .ref (Ma 19), .ref (Ma 20)])), ((Ma 2), .inl (tc 0, 2400, .inl sv_87)), ((Ma 3), .inl (tc 0, 7, .inl sv_88)), ((Ma 7), .inl (tc 0, 400, .inl (Mf 7)))] := hD₀
          replace hS := hS₀
          clear hP₀ hD₀ hS₀
          refine lv_aload_n hx hb dX12_closes_26 rfl (lv_at hl 0 rfl) ?_
          refine lv_dup hx hb dX12_closes_27 rfl ?_
          refine gf_X12_154 hx hb hts hown hK hP 1 rfl rfl dX12_closes_28 ?_
          refine lv_iconst (v := 1) hx hb dX12_closes_31 (by decide) ?_
          refine lv_isub hx hb dX12_closes_32 ?_
          refine lv_topi (fun x_99 ex_99 => ?_)
          refine pf_X12_154 hx hb hts hown hK hP hD hS 1 rfl (Nat.le_of_ble_eq_true rfl) rfl rfl dX12_closes_33 (fun H locs hP₀ hD₀ hS₀ => ?_)
          replace hP : va_P D classes [((Ma 1), .inl (tc 2, 400, .inl (Mf 1))), ((Ma 0), .inr (12, [.ref (Ma 1), .int (Mv 0), .int (Mv 1), .ref (Ma 2), .ref (Ma 3), .ref (Ma 4), .ref (Ma 5), .ref (Ma 6), .int sv_50, .int (Mv 3), .int (Mv 4), .int (Mv 5), .int (Mv 6), .int sv_85, .int (Mv 8), .ref (Ma 7), .int x_99, .ref (Ma 8), .int (Mv 10), .ref (Ma 9), .ref (Ma 10), .int (Mv 11), .int (Mv 12), .int (Mv 13), .ref (Ma 11), .int (Mv 14), .ref (Ma 12), .ref (Ma 13), .ref (Ma 14), .ref (Ma 15), .ref (Ma 16), .long (Mj 0), .ref (Ma 17), .ref (Ma 18), .ref (Ma 19), .ref (Ma 20)])), ((Ma 2), .inl (tc 0, 2400, .inl sv_87)), ((Ma 3), .inl (tc 0, 7, .inl sv_88)), ((Ma 7), .inl (tc 0, 400, .inl (Mf 7)))] H := hP₀
          replace hD : va_D A [((Ma 1), .inl (tc 2, 400, .inl (Mf 1))), ((Ma 0), .inr (12, [.ref (Ma 1), .int (Mv 0), .int (Mv 1), .ref (Ma 2), .ref (Ma 3), .ref (Ma 4), .ref (Ma 5), .ref (Ma 6), .int sv_50, .int (Mv 3), .int (Mv 4), .int (Mv 5), .int (Mv 6), .int sv_85, .int (Mv 8), .ref (Ma 7), .int x_99, .ref (Ma 8), .int (Mv 10), .ref (Ma 9), .ref (Ma 10), .int (Mv 11), .int (Mv 12), .int (Mv 13), .ref (Ma 11), .int (Mv 14), .ref (Ma 12), .ref (Ma 13), .ref (Ma 14), .ref (Ma 15), .ref (Ma 16), .long (Mj 0), .ref (Ma 17), .ref (Ma 18), .ref (Ma 19), .ref (Ma 20)])), ((Ma 2), .inl (tc 0, 2400, .inl sv_87)), ((Ma 3), .inl (tc 0, 7, .inl sv_88)), ((Ma 7), .inl (tc 0, 400, .inl (Mf 7)))] := hD₀
          replace hS := hS₀
          clear hP₀ hD₀ hS₀
          have tp_x_99 : (x_99 : Int32).toInt = (sv_86 : Int32).toInt - 1 := by
            have z_1 := congrArg Int32.toInt c_58
            have z_2 : ¬ (r_67 : Int32).toInt = (0 : Int32).toInt := fun z => c_72 (Int32.toInt_inj.mp z)
            have y_0 : (0 : Int32).toInt = 0 := by decide
            have y_93 : (93 : Int32).toInt = 93 := by decide
            have y_1 : (1 : Int32).toInt = 1 := by decide
            have t_x_99 : x_99.toInt = (sv_86 : Int32).toInt - (1 : Int32).toInt := by rw [ex_99]; exact sub_toInt (by omega) (by omega)
            omega
          have hk_100 := Ins.ar (Ins.keep pf_78 pf_93)
          have hi_102 : (x_99 : Int32).toInt = (sv_86 : Int32).toInt - 1 := by
            have z_1 := congrArg Int32.toInt c_58
            have z_2 : ¬ (r_67 : Int32).toInt = (0 : Int32).toInt := fun z => c_72 (Int32.toInt_inj.mp z)
            have y_0 : (0 : Int32).toInt = 0 := by decide
            have y_93 : (93 : Int32).toInt = 93 := by decide
            have y_1 : (1 : Int32).toInt = 1 := by decide
            have t_x_99 : x_99.toInt = (sv_86 : Int32).toInt - (1 : Int32).toInt := by rw [ex_99]; exact sub_toInt (by omega) (by omega)
            omega
          have pf_101 : LSR (Mf 7) x_99 sv_87 sv_88 (Mv 5) b (Mv 6) := LSR.drop pf_89 pf_92 (by decide) hk_100 hi_102
          obtain ⟨pn_103, pf_104, pf_105⟩ := id pf_101
          have ar_pf_101 := LSR.ar pf_101
          have ar_pf_105 := Cd.ar pf_105
          refine lv_aload_n hx hb dX12_closes_36 rfl (lv_at hl 0 rfl) ?_
          refine lv_dup hx hb dX12_closes_37 rfl ?_
          refine gf_X12_151 hx hb hts hown hK hP 1 rfl rfl dX12_closes_38 ?_
          refine lv_iconst (v := 1) hx hb dX12_closes_41 (by decide) ?_
          refine lv_isub hx hb dX12_closes_42 ?_
          refine lv_topi (fun x_106 ex_106 => ?_)
          refine pf_X12_151 hx hb hts hown hK hP hD hS 1 rfl (Nat.le_of_ble_eq_true rfl) rfl rfl dX12_closes_43 (fun H locs hP₀ hD₀ hS₀ => ?_)
          replace hP : va_P D classes [((Ma 1), .inl (tc 2, 400, .inl (Mf 1))), ((Ma 0), .inr (12, [.ref (Ma 1), .int (Mv 0), .int (Mv 1), .ref (Ma 2), .ref (Ma 3), .ref (Ma 4), .ref (Ma 5), .ref (Ma 6), .int sv_50, .int (Mv 3), .int (Mv 4), .int (Mv 5), .int (Mv 6), .int x_106, .int (Mv 8), .ref (Ma 7), .int x_99, .ref (Ma 8), .int (Mv 10), .ref (Ma 9), .ref (Ma 10), .int (Mv 11), .int (Mv 12), .int (Mv 13), .ref (Ma 11), .int (Mv 14), .ref (Ma 12), .ref (Ma 13), .ref (Ma 14), .ref (Ma 15), .ref (Ma 16), .long (Mj 0), .ref (Ma 17), .ref (Ma 18), .ref (Ma 19), .ref (Ma 20)])), ((Ma 2), .inl (tc 0, 2400, .inl sv_87)), ((Ma 3), .inl (tc 0, 7, .inl sv_88)), ((Ma 7), .inl (tc 0, 400, .inl (Mf 7)))] H := hP₀
          replace hD : va_D A [((Ma 1), .inl (tc 2, 400, .inl (Mf 1))), ((Ma 0), .inr (12, [.ref (Ma 1), .int (Mv 0), .int (Mv 1), .ref (Ma 2), .ref (Ma 3), .ref (Ma 4), .ref (Ma 5), .ref (Ma 6), .int sv_50, .int (Mv 3), .int (Mv 4), .int (Mv 5), .int (Mv 6), .int x_106, .int (Mv 8), .ref (Ma 7), .int x_99, .ref (Ma 8), .int (Mv 10), .ref (Ma 9), .ref (Ma 10), .int (Mv 11), .int (Mv 12), .int (Mv 13), .ref (Ma 11), .int (Mv 14), .ref (Ma 12), .ref (Ma 13), .ref (Ma 14), .ref (Ma 15), .ref (Ma 16), .long (Mj 0), .ref (Ma 17), .ref (Ma 18), .ref (Ma 19), .ref (Ma 20)])), ((Ma 2), .inl (tc 0, 2400, .inl sv_87)), ((Ma 3), .inl (tc 0, 7, .inl sv_88)), ((Ma 7), .inl (tc 0, 400, .inl (Mf 7)))] := hD₀
          replace hS := hS₀
          clear hP₀ hD₀ hS₀
          refine lv_aload_n hx hb dX12_closes_46 rfl (lv_at hl 0 rfl) ?_
          refine lv_dup hx hb dX12_closes_47 rfl ?_
          refine gf_X12_87 hx hb hts hown hK hP 1 rfl rfl dX12_closes_48 ?_
          refine lv_iconst (v := 1) hx hb dX12_closes_51 (by decide) ?_
          refine lv_iadd hx hb dX12_closes_52 ?_
          refine lv_topi (fun x_107 ex_107 => ?_)
          refine pf_X12_87 hx hb hts hown hK hP hD hS 1 rfl (Nat.le_of_ble_eq_true rfl) rfl rfl dX12_closes_53 (fun H locs hP₀ hD₀ hS₀ => ?_)
          replace hP : va_P D classes [((Ma 1), .inl (tc 2, 400, .inl (Mf 1))), ((Ma 0), .inr (12, [.ref (Ma 1), .int (Mv 0), .int (Mv 1), .ref (Ma 2), .ref (Ma 3), .ref (Ma 4), .ref (Ma 5), .ref (Ma 6), .int x_107, .int (Mv 3), .int (Mv 4), .int (Mv 5), .int (Mv 6), .int x_106, .int (Mv 8), .ref (Ma 7), .int x_99, .ref (Ma 8), .int (Mv 10), .ref (Ma 9), .ref (Ma 10), .int (Mv 11), .int (Mv 12), .int (Mv 13), .ref (Ma 11), .int (Mv 14), .ref (Ma 12), .ref (Ma 13), .ref (Ma 14), .ref (Ma 15), .ref (Ma 16), .long (Mj 0), .ref (Ma 17), .ref (Ma 18), .ref (Ma 19), .ref (Ma 20)])), ((Ma 2), .inl (tc 0, 2400, .inl sv_87)), ((Ma 3), .inl (tc 0, 7, .inl sv_88)), ((Ma 7), .inl (tc 0, 400, .inl (Mf 7)))] H := hP₀
          replace hD : va_D A [((Ma 1), .inl (tc 2, 400, .inl (Mf 1))), ((Ma 0), .inr (12, [.ref (Ma 1), .int (Mv 0), .int (Mv 1), .ref (Ma 2), .ref (Ma 3), .ref (Ma 4), .ref (Ma 5), .ref (Ma 6), .int x_107, .int (Mv 3), .int (Mv 4), .int (Mv 5), .int (Mv 6), .int x_106, .int (Mv 8), .ref (Ma 7), .int x_99, .ref (Ma 8), .int (Mv 10), .ref (Ma 9), .ref (Ma 10), .int (Mv 11), .int (Mv 12), .int (Mv 13), .ref (Ma 11), .int (Mv 14), .ref (Ma 12), .ref (Ma 13), .ref (Ma 14), .ref (Ma 15), .ref (Ma 16), .long (Mj 0), .ref (Ma 17), .ref (Ma 18), .ref (Ma 19), .ref (Ma 20)])), ((Ma 2), .inl (tc 0, 2400, .inl sv_87)), ((Ma 3), .inl (tc 0, 7, .inl sv_88)), ((Ma 7), .inl (tc 0, 400, .inl (Mf 7)))] := hD₀
          replace hS := hS₀
          clear hP₀ hD₀ hS₀
          have tp_x_107 : (x_107 : Int32).toInt = (sv_50 : Int32).toInt + 1 := by
            have z_1 := congrArg Int32.toInt c_58
            have z_2 : ¬ (r_67 : Int32).toInt = (0 : Int32).toInt := fun z => c_72 (Int32.toInt_inj.mp z)
            have y_0 : (0 : Int32).toInt = 0 := by decide
            have y_93 : (93 : Int32).toInt = 93 := by decide
            have y_1 : (1 : Int32).toInt = 1 := by decide
            have t_x_107 : x_107.toInt = (sv_50 : Int32).toInt + (1 : Int32).toInt := by rw [ex_107]; exact add_toInt (by omega) (by omega)
            omega
          refine lv_aload_n hx hb dX12_closes_56 rfl (lv_at hl 0 rfl) ?_
          refine lv_iconst (v := 3) hx hb dX12_closes_57 (by decide) ?_
          have hi_109 : (x_99 : Int32).toInt = (sv_86 : Int32).toInt - 1 := by
            have z_1 := congrArg Int32.toInt c_58
            have z_2 : ¬ (r_67 : Int32).toInt = (0 : Int32).toInt := fun z => c_72 (Int32.toInt_inj.mp z)
            have y_0 : (0 : Int32).toInt = 0 := by decide
            have y_93 : (93 : Int32).toInt = 93 := by decide
            have y_1 : (1 : Int32).toInt = 1 := by decide
            have t_x_99 : x_99.toInt = (sv_86 : Int32).toInt - (1 : Int32).toInt := by rw [ex_99]; exact sub_toInt (by omega) (by omega)
            omega
          have hi_110 : (x_106 : Int32).toInt = (sv_85 : Int32).toInt - 1 := by
            have z_1 := congrArg Int32.toInt c_58
            have z_2 : ¬ (r_67 : Int32).toInt = (0 : Int32).toInt := fun z => c_72 (Int32.toInt_inj.mp z)
            have y_0 : (0 : Int32).toInt = 0 := by decide
            have y_93 : (93 : Int32).toInt = 93 := by decide
            have y_1 : (1 : Int32).toInt = 1 := by decide
            have t_x_106 : x_106.toInt = (sv_85 : Int32).toInt - (1 : Int32).toInt := by rw [ex_106]; exact sub_toInt (by omega) (by omega)
            omega
          have hr_111 : (rB (Mf 1) (Mv 0) (sv_50 : Int32).toInt.toNat = 93) := by
            have z_1 := congrArg Int32.toInt c_58
            have z_2 : ¬ (r_67 : Int32).toInt = (0 : Int32).toInt := fun z => c_72 (Int32.toInt_inj.mp z)
            have y_0 : (0 : Int32).toInt = 0 := by decide
            have y_93 : (93 : Int32).toInt = 93 := by decide
            omega
          have hi_112 : (x_107 : Int32).toInt = (sv_50 : Int32).toInt + 1 := by
            have z_1 := congrArg Int32.toInt c_58
            have z_2 : ¬ (r_67 : Int32).toInt = (0 : Int32).toInt := fun z => c_72 (Int32.toInt_inj.mp z)
            have y_0 : (0 : Int32).toInt = 0 := by decide
            have y_93 : (93 : Int32).toInt = 93 := by decide
            have y_1 : (1 : Int32).toInt = 1 := by decide
            have t_x_107 : x_107.toInt = (sv_50 : Int32).toInt + (1 : Int32).toInt := by rw [ex_107]; exact add_toInt (by omega) (by omega)
            omega
          have pf_108 : FcO R (rB (Mf 1) (Mv 0)) (Mf 7) x_99 x_106 x_107 (Mv 6) (Mv 3) := FcO.close pf_41 pf_78 pf_94 pf_92 (by decide) hi_109 hi_110 pf_54 hr_111 hi_112
          have ha_113 : 1 ≤ (3 : Int32).toInt ∧ (3 : Int32).toInt ≤ 3 := by
            have z_1 := congrArg Int32.toInt c_58
            have z_2 : ¬ (r_67 : Int32).toInt = (0 : Int32).toInt := fun z => c_72 (Int32.toInt_inj.mp z)
            have y_0 : (0 : Int32).toInt = 0 := by decide
            have y_93 : (93 : Int32).toInt = 93 := by decide
            have y_3 : (3 : Int32).toInt = 3 := by decide
            omega
          have ha_114 : (sv_88 (Mv 5).toNatClampNeg).toInt + (x_99 : Int32).toInt ≤ 400 := by
            have z_1 := congrArg Int32.toInt c_58
            have z_2 : ¬ (r_67 : Int32).toInt = (0 : Int32).toInt := fun z => c_72 (Int32.toInt_inj.mp z)
            have y_0 : (0 : Int32).toInt = 0 := by decide
            have y_93 : (93 : Int32).toInt = 93 := by decide
            have y_1 : (1 : Int32).toInt = 1 := by decide
            have t_x_99 : x_99.toInt = (sv_86 : Int32).toInt - (1 : Int32).toInt := by rw [ex_99]; exact sub_toInt (by omega) (by omega)
            omega
          refine cV (a := (Ma 0)) (As := [.int 3]) (rest := []) (wr := [((Ma 1), .inl (tc 2, 400, .inl (Mf 1)))]) ⟨hx, hb, hml, hown, hts⟩ hK hX hA (cu_fX12_layDown l D tc sk (Ma 0) (Ma 1) (Ma 2) (Ma 3) (Ma 4) (Ma 5) (Ma 6) (Ma 7) (Ma 8) (Ma 9) (Ma 10) (Ma 11) (Ma 12) (Ma 13) (Ma 14) (Ma 15) (Ma 16) (Ma 17) (Ma 18) (Ma 19) (Ma 20) (Mv 0) (Mv 1) x_107 (Mv 3) (Mv 4) (Mv 5) (Mv 6) x_106 (Mv 8) x_99 (Mv 10) (Mv 11) (Mv 12) (Mv 13) (Mv 14) sv_87 sv_88 (Mf 7) (Mj 0) 3 b pf_101 ha_113 ha_114 pf_108.1) k_1342 k_1339 k_1341 k_54 k_106 pl_X12_layDown ⟨Nat.le_of_ble_eq_true rfl, Nat.le_of_ble_eq_true rfl⟩ rfl rfl (va_recv hK hP (ci := 12) (q0 := 1) rfl rfl) hP hD hS [1, 2, 3, 4] [0] rfl rfl rfl rfl rfl (by decide) rfl hl.1 rfl (Nat.le_of_ble_eq_true rfl) dX12_closes_58 ⟨Nat.le_of_ble_eq_true rfl, Nat.le_of_ble_eq_true rfl⟩ (fun v_115 u_116 H locs hv_117 hP₀ hD₀ hS₀ => ?_)
          obtain ⟨sv_118, sv_119, sv_120, sv_121⟩ := u_116
          obtain ⟨rfl, pf_122, pf_123, pf_124, pf_125, pf_126, pf_127, pf_128⟩ := hv_117
          have pf_122 : LSR (Mf 7) sv_119 sv_120 sv_121 (Mv 5) b (Mv 6) := pf_122
          obtain ⟨pn_129, pf_130, pf_131⟩ := id pf_122
          have ar_pf_122 := LSR.ar pf_122
          have ar_pf_131 := Cd.ar pf_131
          have pf_123 : (sv_121 (Mv 5).toNatClampNeg).toInt + (sv_119 : Int32).toInt = (sv_88 (Mv 5).toNatClampNeg).toInt + (x_99 : Int32).toInt ∧ 0 ≤ (sv_119 : Int32).toInt ∧ (sv_119 : Int32).toInt ≤ (x_99 : Int32).toInt := pf_123
          have pf_124 : Agr sv_87 sv_120 (400 * ((Mv 5) : Int32).toInt + (sv_88 (Mv 5).toNatClampNeg).toInt) := pf_124
          have pf_125 : LdE (Mf 7) sv_119 (3 : Int32) := pf_125
          have pf_126 : InK (Mf 7) x_99 sv_119 := pf_126
          have pf_127 : LdP (Mf 7) x_99 sv_119 sv_118 := pf_127
          have ar_pf_127 := OsP.ar pf_127.1
          have pf_128 : T11 (Mf 7) sv_119 := pf_128
          refine W.eq (g2 := F0 m 61 ls []) rfl ?_
          replace hP : va_P D classes [((Ma 1), .inl (tc 2, 400, .inl (Mf 1))), ((Ma 0), .inr (12, [.ref (Ma 1), .int (Mv 0), .int (Mv 1), .ref (Ma 2), .ref (Ma 3), .ref (Ma 4), .ref (Ma 5), .ref (Ma 6), .int x_107, .int (Mv 3), .int (Mv 4), .int (Mv 5), .int (Mv 6), .int sv_118, .int (Mv 8), .ref (Ma 7), .int sv_119, .ref (Ma 8), .int (Mv 10), .ref (Ma 9), .ref (Ma 10), .int (Mv 11), .int (Mv 12), .int (Mv 13), .ref (Ma 11), .int (Mv 14), .ref (Ma 12), .ref (Ma 13), .ref (Ma 14), .ref (Ma 15), .ref (Ma 16), .long (Mj 0), .ref (Ma 17), .ref (Ma 18), .ref (Ma 19), .ref (Ma 20)])), ((Ma 2), .inl (tc 0, 2400, .inl sv_120)), ((Ma 3), .inl (tc 0, 7, .inl sv_121)), ((Ma 7), .inl (tc 0, 400, .inl (Mf 7)))] H := hP₀
          replace hD : va_D A [((Ma 1), .inl (tc 2, 400, .inl (Mf 1))), ((Ma 0), .inr (12, [.ref (Ma 1), .int (Mv 0), .int (Mv 1), .ref (Ma 2), .ref (Ma 3), .ref (Ma 4), .ref (Ma 5), .ref (Ma 6), .int x_107, .int (Mv 3), .int (Mv 4), .int (Mv 5), .int (Mv 6), .int sv_118, .int (Mv 8), .ref (Ma 7), .int sv_119, .ref (Ma 8), .int (Mv 10), .ref (Ma 9), .ref (Ma 10), .int (Mv 11), .int (Mv 12), .int (Mv 13), .ref (Ma 11), .int (Mv 14), .ref (Ma 12), .ref (Ma 13), .ref (Ma 14), .ref (Ma 15), .ref (Ma 16), .long (Mj 0), .ref (Ma 17), .ref (Ma 18), .ref (Ma 19), .ref (Ma 20)])), ((Ma 2), .inl (tc 0, 2400, .inl sv_120)), ((Ma 3), .inl (tc 0, 7, .inl sv_121)), ((Ma 7), .inl (tc 0, 400, .inl (Mf 7)))] := hD₀
          replace hS := hS₀
          clear hP₀ hD₀ hS₀
          refine lv_goto (tgt := 5) hx hb dX12_closes_61 (by decide) ?_
          have hb_132 : 401 - (x_107 : Int32).toInt < 401 - (vy_28 : Int32).toInt ∧ 1 ≤ 401 - (vy_28 : Int32).toInt := by
            have z_1 := congrArg Int32.toInt c_58
            have z_2 : ¬ (r_67 : Int32).toInt = (0 : Int32).toInt := fun z => c_72 (Int32.toInt_inj.mp z)
            have y_0 : (0 : Int32).toInt = 0 := by decide
            have y_93 : (93 : Int32).toInt = 93 := by decide
            have y_1 : (1 : Int32).toInt = 1 := by decide
            have t_x_107 : x_107.toInt = (sv_50 : Int32).toInt + (1 : Int32).toInt := by rw [ex_107]; exact add_toInt (by omega) (by omega)
            omega
          have ha_133 : 0 ≤ (x_107 : Int32).toInt ∧ (x_107 : Int32).toInt ≤ ((Mv 0) : Int32).toInt ∧ ((Mv 0) : Int32).toInt ≤ 400 := by
            have z_1 := congrArg Int32.toInt c_58
            have z_2 : ¬ (r_67 : Int32).toInt = (0 : Int32).toInt := fun z => c_72 (Int32.toInt_inj.mp z)
            have y_0 : (0 : Int32).toInt = 0 := by decide
            have y_93 : (93 : Int32).toInt = 93 := by decide
            have y_1 : (1 : Int32).toInt = 1 := by decide
            have t_x_107 : x_107.toInt = (sv_50 : Int32).toInt + (1 : Int32).toInt := by rw [ex_107]; exact add_toInt (by omega) (by omega)
            omega
          have ha_134 : (Mv 2).toInt ≤ (x_107 : Int32).toInt := by
            have z_1 := congrArg Int32.toInt c_58
            have z_2 : ¬ (r_67 : Int32).toInt = (0 : Int32).toInt := fun z => c_72 (Int32.toInt_inj.mp z)
            have y_0 : (0 : Int32).toInt = 0 := by decide
            have y_93 : (93 : Int32).toInt = 93 := by decide
            have y_1 : (1 : Int32).toInt = 1 := by decide
            have t_x_107 : x_107.toInt = (sv_50 : Int32).toInt + (1 : Int32).toInt := by rw [ex_107]; exact add_toInt (by omega) (by omega)
            omega
          have ha_135 : (sv_121 (Mv 5).toNatClampNeg).toInt + (sv_119 : Int32).toInt + ((Mv 2) : Int32).toInt ≤ ((Mf 3) (Mv 5).toNatClampNeg).toInt + ((Mv 9) : Int32).toInt + (x_107 : Int32).toInt ∧ ((Mf 3) (Mv 5).toNatClampNeg).toInt ≤ (sv_121 (Mv 5).toNatClampNeg).toInt := by
            have z_1 := congrArg Int32.toInt c_58
            have z_2 : ¬ (r_67 : Int32).toInt = (0 : Int32).toInt := fun z => c_72 (Int32.toInt_inj.mp z)
            have y_0 : (0 : Int32).toInt = 0 := by decide
            have y_93 : (93 : Int32).toInt = 93 := by decide
            have y_1 : (1 : Int32).toInt = 1 := by decide
            have t_x_107 : x_107.toInt = (sv_50 : Int32).toInt + (1 : Int32).toInt := by rw [ex_107]; exact add_toInt (by omega) (by omega)
            omega
          have hr_136 : (400 * ((Mv 5) : Int32).toInt + ((Mf 3) (Mv 5).toNatClampNeg).toInt) ≤ (400 * ((Mv 5) : Int32).toInt + ((Mf 3) (Mv 5).toNatClampNeg).toInt) := by
            have z_1 := congrArg Int32.toInt c_58
            have z_2 : ¬ (r_67 : Int32).toInt = (0 : Int32).toInt := fun z => c_72 (Int32.toInt_inj.mp z)
            have y_0 : (0 : Int32).toInt = 0 := by decide
            have y_93 : (93 : Int32).toInt = 93 := by decide
            omega
          have hr_137 : (400 * ((Mv 5) : Int32).toInt + ((Mf 3) (Mv 5).toNatClampNeg).toInt) ≤ (400 * ((Mv 5) : Int32).toInt + (vy_32 (Mv 5).toNatClampNeg).toInt) := by
            have z_1 := congrArg Int32.toInt c_58
            have z_2 : ¬ (r_67 : Int32).toInt = (0 : Int32).toInt := fun z => c_72 (Int32.toInt_inj.mp z)
            have y_0 : (0 : Int32).toInt = 0 := by decide
            have y_93 : (93 : Int32).toInt = 93 := by decide
            omega
          have hr_138 : (400 * ((Mv 5) : Int32).toInt + ((Mf 3) (Mv 5).toNatClampNeg).toInt) ≤ (400 * ((Mv 5) : Int32).toInt + (sv_88 (Mv 5).toNatClampNeg).toInt) := by
            have z_1 := congrArg Int32.toInt c_58
            have z_2 : ¬ (r_67 : Int32).toInt = (0 : Int32).toInt := fun z => c_72 (Int32.toInt_inj.mp z)
            have y_0 : (0 : Int32).toInt = 0 := by decide
            have y_93 : (93 : Int32).toInt = 93 := by decide
            omega
          have pf_139 : FcO R (rB (Mf 1) (Mv 0)) (Mf 7) sv_119 sv_118 x_107 (Mv 6) (Mv 3) := (FcO.ld pf_108 pf_127)
          exact ih_34 x_107 sv_118 sv_119 sv_120 sv_121 _ _ _ (by omega) ha_133 ha_134 pf_122 ha_135 (Agr.trans (k' := (400 * ((Mv 5) : Int32).toInt + ((Mf 3) (Mv 5).toNatClampNeg).toInt)) (Agr.trans (k' := (400 * ((Mv 5) : Int32).toInt + ((Mf 3) (Mv 5).toNatClampNeg).toInt)) (Agr.mono pf_40 hr_136) pf_91 ⟨Int.le_refl _, hr_137⟩) pf_124 ⟨Int.le_refl _, hr_138⟩) pf_139 pf_128 (hP.sub [0, 1, 2, 3, 4] rfl) (hD.sub [0, 1, 2, 3, 4] rfl rfl) hS (lv_sub hl [0] rfl)
  have ha_140 : (Mv 2).toInt ≤ ((Mv 2) : Int32).toInt := by
    omega
  have ha_141 : (sv_12 (Mv 5).toNatClampNeg).toInt + (sv_10 : Int32).toInt + ((Mv 2) : Int32).toInt ≤ ((Mf 3) (Mv 5).toNatClampNeg).toInt + ((Mv 9) : Int32).toInt + ((Mv 2) : Int32).toInt ∧ ((Mf 3) (Mv 5).toNatClampNeg).toInt ≤ (sv_12 (Mv 5).toNatClampNeg).toInt := by
    omega
  have pf_142 : FcO R (rB (Mf 1) (Mv 0)) (Mf 7) sv_10 sv_9 (Mv 2) (Mv 6) (Mv 3) := (FcO.ld h_fo pf_18)
  exact loop_35 _ (Mv 2) sv_9 sv_10 sv_11 sv_12 _ _ _ (Nat.lt_succ_self _) h_nx ha_140 pf_13 ha_141 pf_15 pf_142 pf_19 hP hD hS hl
set_option maxRecDepth 100000 in
theorem cu_fX12_closes (l : Launch) (D : va_G) (tc : Nat → ClassId) (sk : (Nat → Nat) × (Nat → Nat)) (Ma_0 : Nat) (Ma_1 : Nat) (Ma_2 : Nat) (Ma_3 : Nat) (Ma_4 : Nat) (Ma_5 : Nat) (Ma_6 : Nat) (Ma_7 : Nat) (Ma_8 : Nat) (Ma_9 : Nat) (Ma_10 : Nat) (Ma_11 : Nat) (Ma_12 : Nat) (Ma_13 : Nat) (Ma_14 : Nat) (Ma_15 : Nat) (Ma_16 : Nat) (Ma_17 : Nat) (Ma_18 : Nat) (Ma_19 : Nat) (Ma_20 : Nat) (Mv_0 : Int32) (Mv_1 : Int32) (Mv_2 : Int32) (Mv_3 : Int32) (Mv_4 : Int32) (Mv_5 : Int32) (Mv_6 : Int32) (Mv_7 : Int32) (Mv_8 : Int32) (Mv_9 : Int32) (Mv_10 : Int32) (Mv_11 : Int32) (Mv_12 : Int32) (Mv_13 : Int32) (Mv_14 : Int32) (Mf_1 : Nat → Int32) (Mf_2 : Nat → Int32) (Mf_3 : Nat → Int32) (Mf_7 : Nat → Int32) (Mj_0 : Int64) (b : Int32) (R : Except Int (Nat × Nat)) (h_nx : 0 ≤ (Mv_2 : Int32).toInt ∧ (Mv_2 : Int32).toInt ≤ (Mv_0 : Int32).toInt ∧ (Mv_0 : Int32).toInt ≤ 400) (h_ls : LSR Mf_7 Mv_9 Mf_2 Mf_3 Mv_5 b Mv_6) (h_s : (Mf_3 Mv_5.toNatClampNeg).toInt + (Mv_9 : Int32).toInt ≤ (Mv_2 : Int32).toInt) (h_bs : ByS Mf_1) (h_fo : FcO R (rB Mf_1 Mv_0) Mf_7 Mv_9 Mv_7 Mv_2 Mv_6 Mv_3) : Ct l yX12_closes cX12_closes 1 none { frames := 2, cells := 0, slots := 0, locals := 43 } D tc sk [.ref Ma_0] [(Ma_0, .inr (12, [.ref Ma_1, .int Mv_0, .int Mv_1, .ref Ma_2, .ref Ma_3, .ref Ma_4, .ref Ma_5, .ref Ma_6, .int Mv_2, .int Mv_3, .int Mv_4, .int Mv_5, .int Mv_6, .int Mv_7, .int Mv_8, .ref Ma_7, .int Mv_9, .ref Ma_8, .int Mv_10, .ref Ma_9, .ref Ma_10, .int Mv_11, .int Mv_12, .int Mv_13, .ref Ma_11, .int Mv_14, .ref Ma_12, .ref Ma_13, .ref Ma_14, .ref Ma_15, .ref Ma_16, .long Mj_0, .ref Ma_17, .ref Ma_18, .ref Ma_19, .ref Ma_20])), (Ma_1, .inl (tc 2, 400, .inl Mf_1)), (Ma_2, .inl (tc 0, 2400, .inl Mf_2)), (Ma_3, .inl (tc 0, 7, .inl Mf_3)), (Ma_7, .inl (tc 0, 400, .inl Mf_7))] (fun (v : Option Value) (u : (Int32) × (Int32) × (Int32) × (Nat → Int32) × (Nat → Int32)) => match u with | (oo0x1, oo0x2, oo0x3, oo0x4, oo0x5) => v = none ∧ ((Mv_2 : Int32).toInt ≤ (oo0x1 : Int32).toInt ∧ (oo0x1 : Int32).toInt ≤ (Mv_0 : Int32).toInt) ∧ (Agr Mf_2 oo0x4 (400 * (Mv_5 : Int32).toInt + (Mf_3 Mv_5.toNatClampNeg).toInt)) ∧ (LSR Mf_7 oo0x3 oo0x4 oo0x5 Mv_5 b Mv_6) ∧ ((oo0x5 Mv_5.toNatClampNeg).toInt + (oo0x3 : Int32).toInt + (Mv_2 : Int32).toInt ≤ (Mf_3 Mv_5.toNatClampNeg).toInt + (Mv_9 : Int32).toInt + (oo0x1 : Int32).toInt ∧ (Mf_3 Mv_5.toNatClampNeg).toInt ≤ (oo0x5 Mv_5.toNatClampNeg).toInt) ∧ (FcO R (rB Mf_1 Mv_0) Mf_7 oo0x3 oo0x2 oo0x1 Mv_6 Mv_3) ∧ (T11 Mf_7 oo0x3) ∧ (NBr (rB Mf_1 Mv_0) Mf_7 oo0x3 oo0x1)) (fun (u : (Int32) × (Int32) × (Int32) × (Nat → Int32) × (Nat → Int32)) => match u with | (oo0x1, oo0x2, oo0x3, oo0x4, oo0x5) => [(Ma_0, .inr (12, [.ref Ma_1, .int Mv_0, .int Mv_1, .ref Ma_2, .ref Ma_3, .ref Ma_4, .ref Ma_5, .ref Ma_6, .int oo0x1, .int Mv_3, .int Mv_4, .int Mv_5, .int Mv_6, .int oo0x2, .int Mv_8, .ref Ma_7, .int oo0x3, .ref Ma_8, .int Mv_10, .ref Ma_9, .ref Ma_10, .int Mv_11, .int Mv_12, .int Mv_13, .ref Ma_11, .int Mv_14, .ref Ma_12, .ref Ma_13, .ref Ma_14, .ref Ma_15, .ref Ma_16, .long Mj_0, .ref Ma_17, .ref Ma_18, .ref Ma_19, .ref Ma_20])), (Ma_1, .inl (tc 2, 400, .inl Mf_1)), (Ma_2, .inl (tc 0, 2400, .inl oo0x4)), (Ma_3, .inl (tc 0, 7, .inl oo0x5)), (Ma_7, .inl (tc 0, 400, .inl Mf_7))]) 0 0 :=
  ct_fX12_closes l D tc sk (fun k => ([Ma_0, Ma_1, Ma_2, Ma_3, Ma_4, Ma_5, Ma_6, Ma_7, Ma_8, Ma_9, Ma_10, Ma_11, Ma_12, Ma_13, Ma_14, Ma_15, Ma_16, Ma_17, Ma_18, Ma_19, Ma_20] : List (Nat)).getD k 0) (fun k => ([Mv_0, Mv_1, Mv_2, Mv_3, Mv_4, Mv_5, Mv_6, Mv_7, Mv_8, Mv_9, Mv_10, Mv_11, Mv_12, Mv_13, Mv_14] : List (Int32)).getD k 0) (fun k => ([(fun _ => 0), Mf_1, Mf_2, Mf_3, (fun _ => 0), (fun _ => 0), (fun _ => 0), Mf_7] : List (Nat → Int32)).getD k (fun _ => 0)) (fun k => ([Mj_0] : List (Int64)).getD k 0) b R h_nx h_ls h_s h_bs h_fo
