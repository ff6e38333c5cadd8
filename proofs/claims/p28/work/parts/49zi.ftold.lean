set_option maxHeartbeats 4000000 in
set_option maxRecDepth 100000 in
theorem ct_fX12_readsAll_b (l : Launch) (D : va_G) (tc : Nat → ClassId) (sk : (Nat → Nat) × (Nat → Nat)) (Ma : Nat → Nat) (Mv : Nat → Int32) (Mf : Nat → Nat → Int32) (Mj : Nat → Int64) (h_tp : 0 ≤ ((Mv 0) : Int32).toInt ∧ ((Mv 0) : Int32).toInt ≤ 400) (h_ro : RdO (Mf 6)) (h_bs : ByS (Mf 1)) (h_z0 : ((Mf 6) 0).toInt = 0 ∧ ((Mf 6) 2).toInt = 0 ∧ ((Mf 6) 3).toInt = 0) : Ct l yX12_readsAll cX12_readsAll 2 (some .boolean) { frames := 6, cells := 0, slots := 0, locals := 137 } D tc sk [.ref (Ma 0)] [((Ma 0), .inr (12, [.ref (Ma 1), .int (Mv 0), .int (Mv 1), .ref (Ma 2), .ref (Ma 3), .ref (Ma 4), .ref (Ma 5), .ref (Ma 6), .int (Mv 2), .int (Mv 3), .int (Mv 4), .int 6, .int (Mv 6), .int (Mv 7), .int (Mv 8), .ref (Ma 7), .int (Mv 9), .ref (Ma 8), .int (Mv 10), .ref (Ma 9), .ref (Ma 10), .int (Mv 11), .int (Mv 12), .int (Mv 13), .ref (Ma 11), .int (Mv 14), .ref (Ma 12), .ref (Ma 13), .ref (Ma 14), .ref (Ma 15), .ref (Ma 16), .long (Mj 0), .ref (Ma 17), .ref (Ma 18), .ref (Ma 19), .ref (Ma 20)])), ((Ma 1), .inl (tc 2, 400, .inl (Mf 1))), ((Ma 3), .inl (tc 0, 7, .inl (Mf 3))), ((Ma 6), .inl (tc 0, 95, .inl (Mf 6)))] (fun (v : Option Value) (u : (Int32) × (Int32) × (Int32) × (Int32) × (Nat → Int32) × (Nat → Int32)) => match u with | (oo0x1, oo0x2, oo0x3, oo0x4, oo0x5, oo0x6) => ∃ r : Int32, v = some (.int r) ∧ (((r.toInt = 0 ∧ ¬ (oo0x2 : Int32).toInt = 0) ∨ (r.toInt = 1 ∧ (oo0x2 : Int32).toInt = 0))) ∧ (BkR (rB (Mf 1) (Mv 0)) oo0x2 (oo0x6 3)) ∧ (r.toInt = 1 → (RdO oo0x6))) (fun (u : (Int32) × (Int32) × (Int32) × (Int32) × (Nat → Int32) × (Nat → Int32)) => match u with | (oo0x1, oo0x2, oo0x3, oo0x4, oo0x5, oo0x6) => [((Ma 0), .inr (12, [.ref (Ma 1), .int 0, .int (Mv 1), .ref (Ma 2), .ref (Ma 3), .ref (Ma 4), .ref (Ma 5), .ref (Ma 6), .int oo0x1, .int oo0x2, .int oo0x3, .int 6, .int 0, .int (Mv 7), .int oo0x4, .ref (Ma 7), .int (Mv 9), .ref (Ma 8), .int (Mv 10), .ref (Ma 9), .ref (Ma 10), .int (Mv 11), .int (Mv 12), .int (Mv 13), .ref (Ma 11), .int (Mv 14), .ref (Ma 12), .ref (Ma 13), .ref (Ma 14), .ref (Ma 15), .ref (Ma 16), .long (Mj 0), .ref (Ma 17), .ref (Ma 18), .ref (Ma 19), .ref (Ma 20)])), ((Ma 1), .inl (tc 2, 400, .inl (Mf 1))), ((Ma 3), .inl (tc 0, 7, .inl oo0x5)), ((Ma 6), .inl (tc 0, 95, .inl oo0x6))]) 0 0 := by
  refine Ct.start (by decide) (Nat.le_of_ble_eq_true rfl) (fun p e s m below meth c A ls hx hb hr hlk hin hml hown hts hK hX hP hD hA hl hS => ?_)
  have hl : lv_has ls 2 [(0, .ref (Ma 0))] := hl
  have ar_h_ro := RdO.ar h_ro
  refine lv_aload_n hx hb dX12_readsAll_0 rfl (lv_at hl 0 rfl) ?_
  refine gf_X12_17 hx hb hts hown hK hP 0 rfl rfl dX12_readsAll_1 ?_
  refine lv_aload_n hx hb dX12_readsAll_4 rfl (lv_at hl 0 rfl) ?_
  refine gf_X12_145 hx hb hts hown hK hP 0 rfl rfl dX12_readsAll_5 ?_
  refine lv_iconst (v := 0) hx hb dX12_readsAll_8 (by decide) ?_
  refine st_int hx hb hK hP hD hS 2 0 rfl rfl (vin_dec (by decide +kernel)) dX12_readsAll_9 (fun g_1 H locs eg_1 hP₀ hD₀ hS₀ => ?_)
  replace hP : va_P D classes [((Ma 0), .inr (12, [.ref (Ma 1), .int (Mv 0), .int (Mv 1), .ref (Ma 2), .ref (Ma 3), .ref (Ma 4), .ref (Ma 5), .ref (Ma 6), .int (Mv 2), .int (Mv 3), .int (Mv 4), .int 6, .int (Mv 6), .int (Mv 7), .int (Mv 8), .ref (Ma 7), .int (Mv 9), .ref (Ma 8), .int (Mv 10), .ref (Ma 9), .ref (Ma 10), .int (Mv 11), .int (Mv 12), .int (Mv 13), .ref (Ma 11), .int (Mv 14), .ref (Ma 12), .ref (Ma 13), .ref (Ma 14), .ref (Ma 15), .ref (Ma 16), .long (Mj 0), .ref (Ma 17), .ref (Ma 18), .ref (Ma 19), .ref (Ma 20)])), ((Ma 1), .inl (tc 2, 400, .inl (Mf 1))), ((Ma 3), .inl (tc 0, 7, .inl g_1)), ((Ma 6), .inl (tc 0, 95, .inl (Mf 6)))] H := hP₀
  replace hD : va_D A [((Ma 0), .inr (12, [.ref (Ma 1), .int (Mv 0), .int (Mv 1), .ref (Ma 2), .ref (Ma 3), .ref (Ma 4), .ref (Ma 5), .ref (Ma 6), .int (Mv 2), .int (Mv 3), .int (Mv 4), .int 6, .int (Mv 6), .int (Mv 7), .int (Mv 8), .ref (Ma 7), .int (Mv 9), .ref (Ma 8), .int (Mv 10), .ref (Ma 9), .ref (Ma 10), .int (Mv 11), .int (Mv 12), .int (Mv 13), .ref (Ma 11), .int (Mv 14), .ref (Ma 12), .ref (Ma 13), .ref (Ma 14), .ref (Ma 15), .ref (Ma 16), .long (Mj 0), .ref (Ma 17), .ref (Ma 18), .ref (Ma 19), .ref (Ma 20)])), ((Ma 1), .inl (tc 2, 400, .inl (Mf 1))), ((Ma 3), .inl (tc 0, 7, .inl g_1)), ((Ma 6), .inl (tc 0, 95, .inl (Mf 6)))] := hD₀
  replace hS := hS₀
  clear hP₀ hD₀ hS₀
  refine lv_aload_n hx hb dX12_readsAll_10 rfl (lv_at hl 0 rfl) ?_
  refine lv_iconst (v := 0) hx hb dX12_readsAll_11 (by decide) ?_
  refine pf_X12_244 hx hb hts hown hK hP hD hS 0 rfl (Nat.le_of_ble_eq_true rfl) rfl rfl dX12_readsAll_12 (fun H locs hP₀ hD₀ hS₀ => ?_)
  replace hP : va_P D classes [((Ma 0), .inr (12, [.ref (Ma 1), .int (Mv 0), .int (Mv 1), .ref (Ma 2), .ref (Ma 3), .ref (Ma 4), .ref (Ma 5), .ref (Ma 6), .int (Mv 2), .int (Mv 3), .int (Mv 4), .int 6, .int (Mv 6), .int (Mv 7), .int 0, .ref (Ma 7), .int (Mv 9), .ref (Ma 8), .int (Mv 10), .ref (Ma 9), .ref (Ma 10), .int (Mv 11), .int (Mv 12), .int (Mv 13), .ref (Ma 11), .int (Mv 14), .ref (Ma 12), .ref (Ma 13), .ref (Ma 14), .ref (Ma 15), .ref (Ma 16), .long (Mj 0), .ref (Ma 17), .ref (Ma 18), .ref (Ma 19), .ref (Ma 20)])), ((Ma 1), .inl (tc 2, 400, .inl (Mf 1))), ((Ma 3), .inl (tc 0, 7, .inl g_1)), ((Ma 6), .inl (tc 0, 95, .inl (Mf 6)))] H := hP₀
  replace hD : va_D A [((Ma 0), .inr (12, [.ref (Ma 1), .int (Mv 0), .int (Mv 1), .ref (Ma 2), .ref (Ma 3), .ref (Ma 4), .ref (Ma 5), .ref (Ma 6), .int (Mv 2), .int (Mv 3), .int (Mv 4), .int 6, .int (Mv 6), .int (Mv 7), .int 0, .ref (Ma 7), .int (Mv 9), .ref (Ma 8), .int (Mv 10), .ref (Ma 9), .ref (Ma 10), .int (Mv 11), .int (Mv 12), .int (Mv 13), .ref (Ma 11), .int (Mv 14), .ref (Ma 12), .ref (Ma 13), .ref (Ma 14), .ref (Ma 15), .ref (Ma 16), .long (Mj 0), .ref (Ma 17), .ref (Ma 18), .ref (Ma 19), .ref (Ma 20)])), ((Ma 1), .inl (tc 2, 400, .inl (Mf 1))), ((Ma 3), .inl (tc 0, 7, .inl g_1)), ((Ma 6), .inl (tc 0, 95, .inl (Mf 6)))] := hD₀
  replace hS := hS₀
  clear hP₀ hD₀ hS₀
  refine lv_aload_n hx hb dX12_readsAll_15 rfl (lv_at hl 0 rfl) ?_
  refine lv_iconst (v := 0) hx hb dX12_readsAll_16 (by decide) ?_
  refine pf_X12_87 hx hb hts hown hK hP hD hS 0 rfl (Nat.le_of_ble_eq_true rfl) rfl rfl dX12_readsAll_17 (fun H locs hP₀ hD₀ hS₀ => ?_)
  replace hP : va_P D classes [((Ma 0), .inr (12, [.ref (Ma 1), .int (Mv 0), .int (Mv 1), .ref (Ma 2), .ref (Ma 3), .ref (Ma 4), .ref (Ma 5), .ref (Ma 6), .int 0, .int (Mv 3), .int (Mv 4), .int 6, .int (Mv 6), .int (Mv 7), .int 0, .ref (Ma 7), .int (Mv 9), .ref (Ma 8), .int (Mv 10), .ref (Ma 9), .ref (Ma 10), .int (Mv 11), .int (Mv 12), .int (Mv 13), .ref (Ma 11), .int (Mv 14), .ref (Ma 12), .ref (Ma 13), .ref (Ma 14), .ref (Ma 15), .ref (Ma 16), .long (Mj 0), .ref (Ma 17), .ref (Ma 18), .ref (Ma 19), .ref (Ma 20)])), ((Ma 1), .inl (tc 2, 400, .inl (Mf 1))), ((Ma 3), .inl (tc 0, 7, .inl g_1)), ((Ma 6), .inl (tc 0, 95, .inl (Mf 6)))] H := hP₀
  replace hD : va_D A [((Ma 0), .inr (12, [.ref (Ma 1), .int (Mv 0), .int (Mv 1), .ref (Ma 2), .ref (Ma 3), .ref (Ma 4), .ref (Ma 5), .ref (Ma 6), .int 0, .int (Mv 3), .int (Mv 4), .int 6, .int (Mv 6), .int (Mv 7), .int 0, .ref (Ma 7), .int (Mv 9), .ref (Ma 8), .int (Mv 10), .ref (Ma 9), .ref (Ma 10), .int (Mv 11), .int (Mv 12), .int (Mv 13), .ref (Ma 11), .int (Mv 14), .ref (Ma 12), .ref (Ma 13), .ref (Ma 14), .ref (Ma 15), .ref (Ma 16), .long (Mj 0), .ref (Ma 17), .ref (Ma 18), .ref (Ma 19), .ref (Ma 20)])), ((Ma 1), .inl (tc 2, 400, .inl (Mf 1))), ((Ma 3), .inl (tc 0, 7, .inl g_1)), ((Ma 6), .inl (tc 0, 95, .inl (Mf 6)))] := hD₀
  replace hS := hS₀
  clear hP₀ hD₀ hS₀
  refine lv_aload_n hx hb dX12_readsAll_20 rfl (lv_at hl 0 rfl) ?_
  refine lv_iconst (v := 0) hx hb dX12_readsAll_21 (by decide) ?_
  refine pf_X12_84 hx hb hts hown hK hP hD hS 0 rfl (Nat.le_of_ble_eq_true rfl) rfl rfl dX12_readsAll_22 (fun H locs hP₀ hD₀ hS₀ => ?_)
  replace hP : va_P D classes [((Ma 0), .inr (12, [.ref (Ma 1), .int (Mv 0), .int (Mv 1), .ref (Ma 2), .ref (Ma 3), .ref (Ma 4), .ref (Ma 5), .ref (Ma 6), .int 0, .int 0, .int (Mv 4), .int 6, .int (Mv 6), .int (Mv 7), .int 0, .ref (Ma 7), .int (Mv 9), .ref (Ma 8), .int (Mv 10), .ref (Ma 9), .ref (Ma 10), .int (Mv 11), .int (Mv 12), .int (Mv 13), .ref (Ma 11), .int (Mv 14), .ref (Ma 12), .ref (Ma 13), .ref (Ma 14), .ref (Ma 15), .ref (Ma 16), .long (Mj 0), .ref (Ma 17), .ref (Ma 18), .ref (Ma 19), .ref (Ma 20)])), ((Ma 1), .inl (tc 2, 400, .inl (Mf 1))), ((Ma 3), .inl (tc 0, 7, .inl g_1)), ((Ma 6), .inl (tc 0, 95, .inl (Mf 6)))] H := hP₀
  replace hD : va_D A [((Ma 0), .inr (12, [.ref (Ma 1), .int (Mv 0), .int (Mv 1), .ref (Ma 2), .ref (Ma 3), .ref (Ma 4), .ref (Ma 5), .ref (Ma 6), .int 0, .int 0, .int (Mv 4), .int 6, .int (Mv 6), .int (Mv 7), .int 0, .ref (Ma 7), .int (Mv 9), .ref (Ma 8), .int (Mv 10), .ref (Ma 9), .ref (Ma 10), .int (Mv 11), .int (Mv 12), .int (Mv 13), .ref (Ma 11), .int (Mv 14), .ref (Ma 12), .ref (Ma 13), .ref (Ma 14), .ref (Ma 15), .ref (Ma 16), .long (Mj 0), .ref (Ma 17), .ref (Ma 18), .ref (Ma 19), .ref (Ma 20)])), ((Ma 1), .inl (tc 2, 400, .inl (Mf 1))), ((Ma 3), .inl (tc 0, 7, .inl g_1)), ((Ma 6), .inl (tc 0, 95, .inl (Mf 6)))] := hD₀
  replace hS := hS₀
  clear hP₀ hD₀ hS₀
  refine lv_aload_n hx hb dX12_readsAll_25 rfl (lv_at hl 0 rfl) ?_
  refine lv_iconst (v := 0) hx hb dX12_readsAll_26 (by decide) ?_
  refine pf_X12_148 hx hb hts hown hK hP hD hS 0 rfl (Nat.le_of_ble_eq_true rfl) rfl rfl dX12_readsAll_27 (fun H locs hP₀ hD₀ hS₀ => ?_)
  replace hP : va_P D classes [((Ma 0), .inr (12, [.ref (Ma 1), .int (Mv 0), .int (Mv 1), .ref (Ma 2), .ref (Ma 3), .ref (Ma 4), .ref (Ma 5), .ref (Ma 6), .int 0, .int 0, .int (Mv 4), .int 6, .int 0, .int (Mv 7), .int 0, .ref (Ma 7), .int (Mv 9), .ref (Ma 8), .int (Mv 10), .ref (Ma 9), .ref (Ma 10), .int (Mv 11), .int (Mv 12), .int (Mv 13), .ref (Ma 11), .int (Mv 14), .ref (Ma 12), .ref (Ma 13), .ref (Ma 14), .ref (Ma 15), .ref (Ma 16), .long (Mj 0), .ref (Ma 17), .ref (Ma 18), .ref (Ma 19), .ref (Ma 20)])), ((Ma 1), .inl (tc 2, 400, .inl (Mf 1))), ((Ma 3), .inl (tc 0, 7, .inl g_1)), ((Ma 6), .inl (tc 0, 95, .inl (Mf 6)))] H := hP₀
  replace hD : va_D A [((Ma 0), .inr (12, [.ref (Ma 1), .int (Mv 0), .int (Mv 1), .ref (Ma 2), .ref (Ma 3), .ref (Ma 4), .ref (Ma 5), .ref (Ma 6), .int 0, .int 0, .int (Mv 4), .int 6, .int 0, .int (Mv 7), .int 0, .ref (Ma 7), .int (Mv 9), .ref (Ma 8), .int (Mv 10), .ref (Ma 9), .ref (Ma 10), .int (Mv 11), .int (Mv 12), .int (Mv 13), .ref (Ma 11), .int (Mv 14), .ref (Ma 12), .ref (Ma 13), .ref (Ma 14), .ref (Ma 15), .ref (Ma 16), .long (Mj 0), .ref (Ma 17), .ref (Ma 18), .ref (Ma 19), .ref (Ma 20)])), ((Ma 1), .inl (tc 2, 400, .inl (Mf 1))), ((Ma 3), .inl (tc 0, 7, .inl g_1)), ((Ma 6), .inl (tc 0, 95, .inl (Mf 6)))] := hD₀
  replace hS := hS₀
  clear hP₀ hD₀ hS₀
  refine lv_aload_n hx hb dX12_readsAll_30 rfl (lv_at hl 0 rfl) ?_
  have ha_2 : 0 ≤ ((0 : Int32) : Int32).toInt ∧ ((0 : Int32) : Int32).toInt ≤ ((Mv 0) : Int32).toInt ∧ ((Mv 0) : Int32).toInt ≤ 400 := by
    have y_0 : (0 : Int32).toInt = 0 := by decide
    omega
  have ha_3 : ((0 : Int32) : Int32).toInt = 0 := by
    have y_0 : (0 : Int32).toInt = 0 := by decide
    omega
  have ha_4 : ((((Mf 6) 0).toInt = 0 ∧ (0 : Int32).toInt = 0) ∨ (((Mf 6) 0).toInt = 1 ∧ 1 ≤ (0 : Int32).toInt ∧ (0 : Int32).toInt ≤ 40)) := by
    have y_0 : (0 : Int32).toInt = 0 := by decide
    omega
  refine cV (a := (Ma 0)) (As := []) (rest := []) (wr := []) ⟨hx, hb, hml, hown, hts⟩ hK hX hA (cu_fX12_clauseHere_b l D tc sk (Ma 0) (Ma 1) (Ma 2) (Ma 3) (Ma 4) (Ma 5) (Ma 6) (Ma 7) (Ma 8) (Ma 9) (Ma 10) (Ma 11) (Ma 12) (Ma 13) (Ma 14) (Ma 15) (Ma 16) (Ma 17) (Ma 18) (Ma 19) (Ma 20) (Mv 0) (Mv 1) 0 0 (Mv 4) 0 (Mv 7) 0 (Mv 9) (Mv 10) (Mv 11) (Mv 12) (Mv 13) (Mv 14) (Mf 1) g_1 (Mf 6) (Mj 0) ha_2 h_ro h_bs ha_3 ha_4) k_1207 k_1204 k_1206 k_26 k_106 pl_X12_clauseHere ⟨Nat.le_of_ble_eq_true rfl, Nat.le_of_ble_eq_true rfl⟩ rfl rfl (va_recv hK hP (ci := 12) (q0 := 0) rfl rfl) hP hD hS [0, 1, 2, 3] [] rfl rfl rfl rfl rfl (by decide) rfl hl.1 rfl (Nat.le_of_ble_eq_true rfl) dX12_readsAll_31 ⟨Nat.le_of_ble_eq_true rfl, Nat.le_of_ble_eq_true rfl⟩ (fun v_5 u_6 H locs hv_7 hP₀ hD₀ hS₀ => ?_)
  obtain ⟨sv_8, sv_9, sv_10, sv_11, sv_12⟩ := u_6
  obtain ⟨r_14, rfl, he_15, pf_13, hm_17, hm_18⟩ := hv_7
  have he_15 : ((r_14.toInt = 0 ∧ ¬ (sv_9 : Int32).toInt = 0) ∨ (r_14.toInt = 1 ∧ (sv_12 0).toInt = 1 ∧ (sv_9 : Int32).toInt = 0 ∧ (sv_11 : Int32).toInt = (0 : Int32).toInt + 1 ∧ (sv_11 : Int32).toInt ≤ 40)) := he_15
  have yl_he_15_0 : (0 : Int32).toInt = 0 := by decide
  have pf_13 : ((0 : Int32) : Int32).toInt ≤ (sv_8 : Int32).toInt ∧ (sv_8 : Int32).toInt ≤ ((Mv 0) : Int32).toInt := pf_13
  refine W.eq (g2 := F0 m 34 ls [.int r_14]) rfl ?_
  replace hP : va_P D classes [((Ma 0), .inr (12, [.ref (Ma 1), .int (Mv 0), .int (Mv 1), .ref (Ma 2), .ref (Ma 3), .ref (Ma 4), .ref (Ma 5), .ref (Ma 6), .int sv_8, .int sv_9, .int sv_10, .int 6, .int 0, .int (Mv 7), .int sv_11, .ref (Ma 7), .int (Mv 9), .ref (Ma 8), .int (Mv 10), .ref (Ma 9), .ref (Ma 10), .int (Mv 11), .int (Mv 12), .int (Mv 13), .ref (Ma 11), .int (Mv 14), .ref (Ma 12), .ref (Ma 13), .ref (Ma 14), .ref (Ma 15), .ref (Ma 16), .long (Mj 0), .ref (Ma 17), .ref (Ma 18), .ref (Ma 19), .ref (Ma 20)])), ((Ma 1), .inl (tc 2, 400, .inl (Mf 1))), ((Ma 3), .inl (tc 0, 7, .inl g_1)), ((Ma 6), .inl (tc 0, 95, .inl sv_12))] H := hP₀
  replace hD : va_D A [((Ma 0), .inr (12, [.ref (Ma 1), .int (Mv 0), .int (Mv 1), .ref (Ma 2), .ref (Ma 3), .ref (Ma 4), .ref (Ma 5), .ref (Ma 6), .int sv_8, .int sv_9, .int sv_10, .int 6, .int 0, .int (Mv 7), .int sv_11, .ref (Ma 7), .int (Mv 9), .ref (Ma 8), .int (Mv 10), .ref (Ma 9), .ref (Ma 10), .int (Mv 11), .int (Mv 12), .int (Mv 13), .ref (Ma 11), .int (Mv 14), .ref (Ma 12), .ref (Ma 13), .ref (Ma 14), .ref (Ma 15), .ref (Ma 16), .long (Mj 0), .ref (Ma 17), .ref (Ma 18), .ref (Ma 19), .ref (Ma 20)])), ((Ma 1), .inl (tc 2, 400, .inl (Mf 1))), ((Ma 3), .inl (tc 0, 7, .inl g_1)), ((Ma 6), .inl (tc 0, 95, .inl sv_12))] := hD₀
  replace hS := hS₀
  clear hP₀ hD₀ hS₀
  refine lv_istore_n (lv' := [(1, .int r_14), (0, .ref (Ma 0))]) hx hb dX12_readsAll_34 rfl hl (by decide) rfl (fun ls hl₀ => ?_)
  replace hl := hl₀
  clear hl₀
  have loop_33 : ∀ (n_31 : Nat) (vy_25 : Int32) (vy_26 : Int32) (vy_27 : Int32) (vy_28 : Int32) (vy_29 : Int32) (vy_30 : Nat → Int32) (H : Heap) (locs : List Loc) (ls : Array Slot), (2 * (401 - (vy_26 : Int32).toInt) + (vy_25 : Int32).toInt).toNat < n_31 → (0 ≤ (vy_26 : Int32).toInt ∧ (vy_26 : Int32).toInt ≤ ((Mv 0) : Int32).toInt ∧ ((Mv 0) : Int32).toInt ≤ 400) → ((((vy_25 : Int32).toInt = 0 ∧ ¬ (vy_27 : Int32).toInt = 0) ∨ ((vy_25 : Int32).toInt = 1 ∧ (vy_30 0).toInt = 1 ∧ (vy_27 : Int32).toInt = 0 ∧ 1 ≤ (vy_29 : Int32).toInt ∧ (vy_29 : Int32).toInt ≤ 40))) → (RdG vy_30 vy_25) → (BaL (rB (Mf 1) (Mv 0)) vy_26 vy_29 vy_27 vy_25 (vy_30 2) (vy_30 3)) → va_P D classes [((Ma 0), .inr (12, [.ref (Ma 1), .int (Mv 0), .int (Mv 1), .ref (Ma 2), .ref (Ma 3), .ref (Ma 4), .ref (Ma 5), .ref (Ma 6), .int vy_26, .int vy_27, .int vy_28, .int 6, .int 0, .int (Mv 7), .int vy_29, .ref (Ma 7), .int (Mv 9), .ref (Ma 8), .int (Mv 10), .ref (Ma 9), .ref (Ma 10), .int (Mv 11), .int (Mv 12), .int (Mv 13), .ref (Ma 11), .int (Mv 14), .ref (Ma 12), .ref (Ma 13), .ref (Ma 14), .ref (Ma 15), .ref (Ma 16), .long (Mj 0), .ref (Ma 17), .ref (Ma 18), .ref (Ma 19), .ref (Ma 20)])), ((Ma 1), .inl (tc 2, 400, .inl (Mf 1))), ((Ma 3), .inl (tc 0, 7, .inl g_1)), ((Ma 6), .inl (tc 0, 95, .inl vy_30))] H → va_D A [((Ma 0), .inr (12, [.ref (Ma 1), .int (Mv 0), .int (Mv 1), .ref (Ma 2), .ref (Ma 3), .ref (Ma 4), .ref (Ma 5), .ref (Ma 6), .int vy_26, .int vy_27, .int vy_28, .int 6, .int 0, .int (Mv 7), .int vy_29, .ref (Ma 7), .int (Mv 9), .ref (Ma 8), .int (Mv 10), .ref (Ma 9), .ref (Ma 10), .int (Mv 11), .int (Mv 12), .int (Mv 13), .ref (Ma 11), .int (Mv 14), .ref (Ma 12), .ref (Ma 13), .ref (Ma 14), .ref (Ma 15), .ref (Ma 16), .long (Mj 0), .ref (Ma 17), .ref (Ma 18), .ref (Ma 19), .ref (Ma 20)])), ((Ma 1), .inl (tc 2, 400, .inl (Mf 1))), ((Ma 3), .inl (tc 0, 7, .inl g_1)), ((Ma 6), .inl (tc 0, 95, .inl vy_30))] → va_S A s.heap H locs → lv_has ls 2 [(1, .int vy_25), (0, .ref (Ma 0))] → W p l e ({ frames := 6, cells := 0, slots := 0, locals := 137 }) s m ([.ref (Ma 0)].toArray) below meth c H locs 0 0 (MQ below (QW (fun (v : Option Value) (u : (Int32) × (Int32) × (Int32) × (Int32) × (Nat → Int32) × (Nat → Int32)) => match u with | (oo0x1, oo0x2, oo0x3, oo0x4, oo0x5, oo0x6) => ∃ r : Int32, v = some (.int r) ∧ (((r.toInt = 0 ∧ ¬ (oo0x2 : Int32).toInt = 0) ∨ (r.toInt = 1 ∧ (oo0x2 : Int32).toInt = 0))) ∧ (BkR (rB (Mf 1) (Mv 0)) oo0x2 (oo0x6 3)) ∧ (r.toInt = 1 → (RdO oo0x6))) (BW D (fun (u : (Int32) × (Int32) × (Int32) × (Int32) × (Nat → Int32) × (Nat → Int32)) => match u with | (oo0x1, oo0x2, oo0x3, oo0x4, oo0x5, oo0x6) => [((Ma 0), .inr (12, [.ref (Ma 1), .int 0, .int (Mv 1), .ref (Ma 2), .ref (Ma 3), .ref (Ma 4), .ref (Ma 5), .ref (Ma 6), .int oo0x1, .int oo0x2, .int oo0x3, .int 6, .int 0, .int (Mv 7), .int oo0x4, .ref (Ma 7), .int (Mv 9), .ref (Ma 8), .int (Mv 10), .ref (Ma 9), .ref (Ma 10), .int (Mv 11), .int (Mv 12), .int (Mv 13), .ref (Ma 11), .int (Mv 14), .ref (Ma 12), .ref (Ma 13), .ref (Ma 14), .ref (Ma 15), .ref (Ma 16), .long (Mj 0), .ref (Ma 17), .ref (Ma 18), .ref (Ma 19), .ref (Ma 20)])), ((Ma 1), .inl (tc 2, 400, .inl (Mf 1))), ((Ma 3), .inl (tc 0, 7, .inl oo0x5)), ((Ma 6), .inl (tc 0, 95, .inl oo0x6))]) A) A) ([.ref (Ma 0)].toArray) s 0 0 A) (F0 m 35 ls []) := by
    clear hP hD hS hl
    intro n_31
    induction n_31 with
    | zero =>
      intro vy_25 vy_26 vy_27 vy_28 vy_29 vy_30 H locs ls h1
      exact absurd h1 (Nat.not_lt_zero _)
    | succ n_31 ih_32 =>
      intro vy_25 vy_26 vy_27 vy_28 vy_29 vy_30 H locs ls hn_38 pf_34 pf_35 pf_36 pf_37 hP hD hS hl
      refine lv_iload_n hx hb dX12_readsAll_35 rfl (lv_at hl 0 rfl) ?_
      refine lv_if_eq (tgt := 66) hx hb dX12_readsAll_36 (by decide) (fun c_39 => ?_) (fun c_39 => ?_)
      · skip
        refine lv_iload_n hx hb dX12_readsAll_66 rfl (lv_at hl 0 rfl) ?_
        refine lv_if_eq (tgt := 88) hx hb dX12_readsAll_67 (by decide) (fun c_40 => ?_) (fun c_40 => ?_)
        · skip
          refine lv_aload_n hx hb dX12_readsAll_88 rfl (lv_at hl 1 rfl) ?_
          refine lv_iconst (v := 0) hx hb dX12_readsAll_89 (by decide) ?_
          refine pf_X12_77 hx hb hts hown hK hP hD hS 0 rfl (Nat.le_of_ble_eq_true rfl) rfl rfl dX12_readsAll_90 (fun H locs hP₀ hD₀ hS₀ => ?_)
          replace hP : va_P D classes [((Ma 0), .inr (12, [.ref (Ma 1), .int 0, .int (Mv 1), .ref (Ma 2), .ref (Ma 3), .ref (Ma 4), .ref (Ma 5), .ref (Ma 6), .int vy_26, .int vy_27, .int vy_28, .int 6, .int 0, .int (Mv 7), .int vy_29, .ref (Ma 7), .int (Mv 9), .ref (Ma 8), .int (Mv 10), .ref (Ma 9), .ref (Ma 10), .int (Mv 11), .int (Mv 12), .int (Mv 13), .ref (Ma 11), .int (Mv 14), .ref (Ma 12), .ref (Ma 13), .ref (Ma 14), .ref (Ma 15), .ref (Ma 16), .long (Mj 0), .ref (Ma 17), .ref (Ma 18), .ref (Ma 19), .ref (Ma 20)])), ((Ma 1), .inl (tc 2, 400, .inl (Mf 1))), ((Ma 3), .inl (tc 0, 7, .inl g_1)), ((Ma 6), .inl (tc 0, 95, .inl vy_30))] H := hP₀
          replace hD : va_D A [((Ma 0), .inr (12, [.ref (Ma 1), .int 0, .int (Mv 1), .ref (Ma 2), .ref (Ma 3), .ref (Ma 4), .ref (Ma 5), .ref (Ma 6), .int vy_26, .int vy_27, .int vy_28, .int 6, .int 0, .int (Mv 7), .int vy_29, .ref (Ma 7), .int (Mv 9), .ref (Ma 8), .int (Mv 10), .ref (Ma 9), .ref (Ma 10), .int (Mv 11), .int (Mv 12), .int (Mv 13), .ref (Ma 11), .int (Mv 14), .ref (Ma 12), .ref (Ma 13), .ref (Ma 14), .ref (Ma 15), .ref (Ma 16), .long (Mj 0), .ref (Ma 17), .ref (Ma 18), .ref (Ma 19), .ref (Ma 20)])), ((Ma 1), .inl (tc 2, 400, .inl (Mf 1))), ((Ma 3), .inl (tc 0, 7, .inl g_1)), ((Ma 6), .inl (tc 0, 95, .inl vy_30))] := hD₀
          replace hS := hS₀
          clear hP₀ hD₀ hS₀
          refine lv_aload_n hx hb dX12_readsAll_93 rfl (lv_at hl 1 rfl) ?_
          refine gf_X12_84 hx hb hts hown hK hP 0 rfl rfl dX12_readsAll_94 ?_
          refine lv_if_ne (tgt := 104) hx hb dX12_readsAll_97 (by decide) (fun c_41 => ?_) (fun c_41 => ?_)
          · skip
            refine lv_iconst (v := 0) hx hb dX12_readsAll_104 (by decide) ?_
            have hr_42 : (vy_25 : Int32).toInt = 0 := by
              have z_1 := congrArg Int32.toInt c_39
              have z_2 := congrArg Int32.toInt c_40
              have z_3 : ¬ (vy_27 : Int32).toInt = (0 : Int32).toInt := fun z => c_41 (Int32.toInt_inj.mp z)
              have y_0 : (0 : Int32).toInt = 0 := by decide
              omega
            have hr_43 : ¬ (vy_27 : Int32).toInt = 0 := by
              have z_1 := congrArg Int32.toInt c_39
              have z_2 := congrArg Int32.toInt c_40
              have z_3 : ¬ (vy_27 : Int32).toInt = (0 : Int32).toInt := fun z => c_41 (Int32.toInt_inj.mp z)
              have y_0 : (0 : Int32).toInt = 0 := by decide
              omega
            have hp_44 : (((0 : Int32).toInt = 0 ∧ ¬ (vy_27 : Int32).toInt = 0) ∨ ((0 : Int32).toInt = 1 ∧ (vy_27 : Int32).toInt = 0)) := by
              have z_1 := congrArg Int32.toInt c_39
              have z_2 := congrArg Int32.toInt c_40
              have z_3 : ¬ (vy_27 : Int32).toInt = (0 : Int32).toInt := fun z => c_41 (Int32.toInt_inj.mp z)
              have y_0 : (0 : Int32).toInt = 0 := by decide
              omega
            exact retI (v := 0) hx hb hr hlk (rfl) hP hD hS (vy_26, vy_27, vy_28, vy_29, g_1, vy_30) ⟨_, rfl, hp_44, (BkR.rbad pf_37 hr_42 hr_43), (fun h => absurd h (by decide))⟩ [0, 1, 2, 3] rfl rfl dX12_readsAll_105 (Nat.le_of_ble_eq_true rfl) (Nat.le_of_ble_eq_true rfl) rfl
          · skip
            refine lv_iconst (v := 1) hx hb dX12_readsAll_100 (by decide) ?_
            refine lv_goto (tgt := 105) hx hb dX12_readsAll_101 (by decide) ?_
            have hr_45 : (vy_25 : Int32).toInt = 0 := by
              have z_1 := congrArg Int32.toInt c_39
              have z_2 := congrArg Int32.toInt c_40
              have z_3 := congrArg Int32.toInt c_41
              have y_0 : (0 : Int32).toInt = 0 := by decide
              omega
            have hr_46 : ¬ (vy_27 : Int32).toInt = 0 := by
              have z_1 := congrArg Int32.toInt c_39
              have z_2 := congrArg Int32.toInt c_40
              have z_3 := congrArg Int32.toInt c_41
              have y_0 : (0 : Int32).toInt = 0 := by decide
              omega
            have hp_47 : (((1 : Int32).toInt = 0 ∧ ¬ (vy_27 : Int32).toInt = 0) ∨ ((1 : Int32).toInt = 1 ∧ (vy_27 : Int32).toInt = 0)) := by
              have z_1 := congrArg Int32.toInt c_39
              have z_2 := congrArg Int32.toInt c_40
              have z_3 := congrArg Int32.toInt c_41
              have y_0 : (0 : Int32).toInt = 0 := by decide
              have y_1 : (1 : Int32).toInt = 1 := by decide
              have yr : (1 : Int32).toInt = 1 := by decide
              omega
            have hm_48 : (1 : Int32).toInt = 1 → (RdO vy_30) := by
              intro h1r
              have hf_49 : False := by
                have z_1 := congrArg Int32.toInt c_39
                have z_2 := congrArg Int32.toInt c_40
                have z_3 := congrArg Int32.toInt c_41
                have y_0 : (0 : Int32).toInt = 0 := by decide
                omega
              exact (hf_49.elim)
            exact retI (v := 1) hx hb hr hlk (rfl) hP hD hS (vy_26, vy_27, vy_28, vy_29, g_1, vy_30) ⟨_, rfl, hp_47, (BkR.rbad pf_37 hr_45 hr_46), hm_48⟩ [0, 1, 2, 3] rfl rfl dX12_readsAll_105 (Nat.le_of_ble_eq_true rfl) (Nat.le_of_ble_eq_true rfl) rfl
        · skip
          exfalso
          have z_1 := congrArg Int32.toInt c_39
          have z_2 : ¬ (vy_25 : Int32).toInt = (0 : Int32).toInt := fun z => c_40 (Int32.toInt_inj.mp z)
          have y_0 : (0 : Int32).toInt = 0 := by decide
          omega
      · skip
        have hr_51 : (vy_25 : Int32).toInt = 1 := by
          have z_1 : ¬ (vy_25 : Int32).toInt = (0 : Int32).toInt := fun z => c_39 (Int32.toInt_inj.mp z)
          have y_0 : (0 : Int32).toInt = 0 := by decide
          omega
        have pf_50 : RdO vy_30 := pf_36 hr_51
        have ar_pf_50 := RdO.ar pf_50
        refine lv_aload_n hx hb dX12_readsAll_39 rfl (lv_at hl 1 rfl) ?_
        refine cV (a := (Ma 0)) (As := []) (rest := []) (wr := [((Ma 3), .inl (tc 0, 7, .inl g_1)), ((Ma 6), .inl (tc 0, 95, .inl vy_30))]) ⟨hx, hb, hml, hown, hts⟩ hK hX hA (cu_fX12_see l D tc sk (Ma 0) (Ma 1) (Ma 2) (Ma 3) (Ma 4) (Ma 5) (Ma 6) (Ma 7) (Ma 8) (Ma 9) (Ma 10) (Ma 11) (Ma 12) (Ma 13) (Ma 14) (Ma 15) (Ma 16) (Ma 17) (Ma 18) (Ma 19) (Ma 20) (Mv 0) (Mv 1) vy_26 vy_27 vy_28 6 0 (Mv 7) vy_29 (Mv 9) (Mv 10) (Mv 11) (Mv 12) (Mv 13) (Mv 14) (Mf 1) (Mj 0) pf_34 h_bs) k_1211 k_1208 k_1210 k_27 k_106 pl_X12_see ⟨Nat.le_of_ble_eq_true rfl, Nat.le_of_ble_eq_true rfl⟩ rfl rfl (va_recv hK hP (ci := 12) (q0 := 0) rfl rfl) hP hD hS [0, 1] [2, 3] rfl rfl rfl rfl rfl (by decide) rfl hl.1 rfl (Nat.le_of_ble_eq_true rfl) dX12_readsAll_40 ⟨Nat.le_of_ble_eq_true rfl, Nat.le_of_ble_eq_true rfl⟩ (fun v_52 u_53 H locs hv_54 hP₀ hD₀ hS₀ => ?_)
        obtain ⟨sv_55, rfl⟩ : ∃ z, z = u_53 := ⟨_, rfl⟩
        obtain ⟨r_60, rfl, he_61, pf_56, pf_57, pf_58, pf_59⟩ := hv_54
        have he_61 : (r_60.toInt = rB (Mf 1) (Mv 0) (sv_55 : Int32).toInt.toNat ∧ (r_60.toInt = -1 ∨ (sv_55 : Int32).toInt < (Mv 0).toInt)) := he_61
        have pf_56 : (vy_26 : Int32).toInt ≤ (sv_55 : Int32).toInt ∧ (sv_55 : Int32).toInt ≤ ((Mv 0) : Int32).toInt := pf_56
        have pf_57 : NSq (Mf 1) (Mv 0) sv_55 := pf_57
        have pf_58 : Stl (Mf 1) (Mv 0) vy_26 sv_55 := pf_58
        have pf_59 : SkR (rB (Mf 1) (Mv 0)) vy_26 sv_55 := pf_59
        refine W.eq (g2 := F0 m 43 ls [.int r_60]) rfl ?_
        replace hP : va_P D classes [((Ma 3), .inl (tc 0, 7, .inl g_1)), ((Ma 6), .inl (tc 0, 95, .inl vy_30)), ((Ma 0), .inr (12, [.ref (Ma 1), .int (Mv 0), .int (Mv 1), .ref (Ma 2), .ref (Ma 3), .ref (Ma 4), .ref (Ma 5), .ref (Ma 6), .int sv_55, .int vy_27, .int vy_28, .int 6, .int 0, .int (Mv 7), .int vy_29, .ref (Ma 7), .int (Mv 9), .ref (Ma 8), .int (Mv 10), .ref (Ma 9), .ref (Ma 10), .int (Mv 11), .int (Mv 12), .int (Mv 13), .ref (Ma 11), .int (Mv 14), .ref (Ma 12), .ref (Ma 13), .ref (Ma 14), .ref (Ma 15), .ref (Ma 16), .long (Mj 0), .ref (Ma 17), .ref (Ma 18), .ref (Ma 19), .ref (Ma 20)])), ((Ma 1), .inl (tc 2, 400, .inl (Mf 1)))] H := hP₀
        replace hD : va_D A [((Ma 3), .inl (tc 0, 7, .inl g_1)), ((Ma 6), .inl (tc 0, 95, .inl vy_30)), ((Ma 0), .inr (12, [.ref (Ma 1), .int (Mv 0), .int (Mv 1), .ref (Ma 2), .ref (Ma 3), .ref (Ma 4), .ref (Ma 5), .ref (Ma 6), .int sv_55, .int vy_27, .int vy_28, .int 6, .int 0, .int (Mv 7), .int vy_29, .ref (Ma 7), .int (Mv 9), .ref (Ma 8), .int (Mv 10), .ref (Ma 9), .ref (Ma 10), .int (Mv 11), .int (Mv 12), .int (Mv 13), .ref (Ma 11), .int (Mv 14), .ref (Ma 12), .ref (Ma 13), .ref (Ma 14), .ref (Ma 15), .ref (Ma 16), .long (Mj 0), .ref (Ma 17), .ref (Ma 18), .ref (Ma 19), .ref (Ma 20)])), ((Ma 1), .inl (tc 2, 400, .inl (Mf 1)))] := hD₀
        replace hS := hS₀
        clear hP₀ hD₀ hS₀
        refine lv_bipush (v := 59) hx hb dX12_readsAll_43 (by decide) ?_
        refine lv_icmp_ne (tgt := 66) hx hb dX12_readsAll_45 (by decide) (fun c_63 => ?_) (fun c_63 => ?_)
        · skip
          refine lv_iload_n hx hb dX12_readsAll_66 rfl (lv_at hl 0 rfl) ?_
          refine lv_if_eq (tgt := 88) hx hb dX12_readsAll_67 (by decide) (fun c_64 => ?_) (fun c_64 => ?_)
          · skip
            exfalso
            have z_1 : ¬ (vy_25 : Int32).toInt = (0 : Int32).toInt := fun z => c_39 (Int32.toInt_inj.mp z)
            have z_2 : ¬ (r_60 : Int32).toInt = (59 : Int32).toInt := fun z => c_63 (Int32.toInt_inj.mp z)
            have z_3 := congrArg Int32.toInt c_64
            have y_0 : (0 : Int32).toInt = 0 := by decide
            have y_59 : (59 : Int32).toInt = 59 := by decide
            omega
          · skip
            refine lv_aload_n hx hb dX12_readsAll_70 rfl (lv_at hl 1 rfl) ?_
            have ha_65 : 0 ≤ (sv_55 : Int32).toInt ∧ (sv_55 : Int32).toInt ≤ ((Mv 0) : Int32).toInt ∧ ((Mv 0) : Int32).toInt ≤ 400 := by
              have z_1 : ¬ (vy_25 : Int32).toInt = (0 : Int32).toInt := fun z => c_39 (Int32.toInt_inj.mp z)
              have z_2 : ¬ (r_60 : Int32).toInt = (59 : Int32).toInt := fun z => c_63 (Int32.toInt_inj.mp z)
              have z_3 : ¬ (vy_25 : Int32).toInt = (0 : Int32).toInt := fun z => c_64 (Int32.toInt_inj.mp z)
              have y_0 : (0 : Int32).toInt = 0 := by decide
              have y_59 : (59 : Int32).toInt = 59 := by decide
              omega
            refine cV (a := (Ma 0)) (As := []) (rest := []) (wr := [((Ma 3), .inl (tc 0, 7, .inl g_1)), ((Ma 6), .inl (tc 0, 95, .inl vy_30))]) ⟨hx, hb, hml, hown, hts⟩ hK hX hA (cu_fX12_see l D tc sk (Ma 0) (Ma 1) (Ma 2) (Ma 3) (Ma 4) (Ma 5) (Ma 6) (Ma 7) (Ma 8) (Ma 9) (Ma 10) (Ma 11) (Ma 12) (Ma 13) (Ma 14) (Ma 15) (Ma 16) (Ma 17) (Ma 18) (Ma 19) (Ma 20) (Mv 0) (Mv 1) sv_55 vy_27 vy_28 6 0 (Mv 7) vy_29 (Mv 9) (Mv 10) (Mv 11) (Mv 12) (Mv 13) (Mv 14) (Mf 1) (Mj 0) ha_65 h_bs) k_1211 k_1208 k_1210 k_27 k_106 pl_X12_see ⟨Nat.le_of_ble_eq_true rfl, Nat.le_of_ble_eq_true rfl⟩ rfl rfl (va_recv hK hP (ci := 12) (q0 := 2) rfl rfl) hP hD hS [2, 3] [0, 1] rfl rfl rfl rfl rfl (by decide) rfl hl.1 rfl (Nat.le_of_ble_eq_true rfl) dX12_readsAll_71 ⟨Nat.le_of_ble_eq_true rfl, Nat.le_of_ble_eq_true rfl⟩ (fun v_66 u_67 H locs hv_68 hP₀ hD₀ hS₀ => ?_)
            obtain ⟨sv_69, rfl⟩ : ∃ z, z = u_67 := ⟨_, rfl⟩
            obtain ⟨r_74, rfl, he_75, pf_70, pf_71, pf_72, pf_73⟩ := hv_68
            have he_75 : (r_74.toInt = rB (Mf 1) (Mv 0) (sv_69 : Int32).toInt.toNat ∧ (r_74.toInt = -1 ∨ (sv_69 : Int32).toInt < (Mv 0).toInt)) := he_75
            have pf_70 : (sv_55 : Int32).toInt ≤ (sv_69 : Int32).toInt ∧ (sv_69 : Int32).toInt ≤ ((Mv 0) : Int32).toInt := pf_70
            have pf_71 : NSq (Mf 1) (Mv 0) sv_69 := pf_71
            have pf_72 : Stl (Mf 1) (Mv 0) sv_55 sv_69 := pf_72
            have ar_pf_72 := Stl.or pf_72 pf_57
            have pf_73 : SkR (rB (Mf 1) (Mv 0)) sv_55 sv_69 := pf_73
            refine W.eq (g2 := F0 m 74 ls [.int r_74]) rfl ?_
            replace hP : va_P D classes [((Ma 3), .inl (tc 0, 7, .inl g_1)), ((Ma 6), .inl (tc 0, 95, .inl vy_30)), ((Ma 0), .inr (12, [.ref (Ma 1), .int (Mv 0), .int (Mv 1), .ref (Ma 2), .ref (Ma 3), .ref (Ma 4), .ref (Ma 5), .ref (Ma 6), .int sv_69, .int vy_27, .int vy_28, .int 6, .int 0, .int (Mv 7), .int vy_29, .ref (Ma 7), .int (Mv 9), .ref (Ma 8), .int (Mv 10), .ref (Ma 9), .ref (Ma 10), .int (Mv 11), .int (Mv 12), .int (Mv 13), .ref (Ma 11), .int (Mv 14), .ref (Ma 12), .ref (Ma 13), .ref (Ma 14), .ref (Ma 15), .ref (Ma 16), .long (Mj 0), .ref (Ma 17), .ref (Ma 18), .ref (Ma 19), .ref (Ma 20)])), ((Ma 1), .inl (tc 2, 400, .inl (Mf 1)))] H := hP₀
            replace hD : va_D A [((Ma 3), .inl (tc 0, 7, .inl g_1)), ((Ma 6), .inl (tc 0, 95, .inl vy_30)), ((Ma 0), .inr (12, [.ref (Ma 1), .int (Mv 0), .int (Mv 1), .ref (Ma 2), .ref (Ma 3), .ref (Ma 4), .ref (Ma 5), .ref (Ma 6), .int sv_69, .int vy_27, .int vy_28, .int 6, .int 0, .int (Mv 7), .int vy_29, .ref (Ma 7), .int (Mv 9), .ref (Ma 8), .int (Mv 10), .ref (Ma 9), .ref (Ma 10), .int (Mv 11), .int (Mv 12), .int (Mv 13), .ref (Ma 11), .int (Mv 14), .ref (Ma 12), .ref (Ma 13), .ref (Ma 14), .ref (Ma 15), .ref (Ma 16), .long (Mj 0), .ref (Ma 17), .ref (Ma 18), .ref (Ma 19), .ref (Ma 20)])), ((Ma 1), .inl (tc 2, 400, .inl (Mf 1)))] := hD₀
            replace hS := hS₀
            clear hP₀ hD₀ hS₀
            have hE_77 := SkR.eqB pf_59 pf_73
            refine lv_iconst (v := (-1)) hx hb dX12_readsAll_74 (by decide) ?_
            refine lv_icmp_eq (tgt := 88) hx hb dX12_readsAll_75 (by decide) (fun c_78 => ?_) (fun c_78 => ?_)
            · skip
              refine lv_aload_n hx hb dX12_readsAll_88 rfl (lv_at hl 1 rfl) ?_
              refine lv_iconst (v := 0) hx hb dX12_readsAll_89 (by decide) ?_
              refine pf_X12_77 hx hb hts hown hK hP hD hS 2 rfl (Nat.le_of_ble_eq_true rfl) rfl rfl dX12_readsAll_90 (fun H locs hP₀ hD₀ hS₀ => ?_)
              replace hP : va_P D classes [((Ma 3), .inl (tc 0, 7, .inl g_1)), ((Ma 6), .inl (tc 0, 95, .inl vy_30)), ((Ma 0), .inr (12, [.ref (Ma 1), .int 0, .int (Mv 1), .ref (Ma 2), .ref (Ma 3), .ref (Ma 4), .ref (Ma 5), .ref (Ma 6), .int sv_69, .int vy_27, .int vy_28, .int 6, .int 0, .int (Mv 7), .int vy_29, .ref (Ma 7), .int (Mv 9), .ref (Ma 8), .int (Mv 10), .ref (Ma 9), .ref (Ma 10), .int (Mv 11), .int (Mv 12), .int (Mv 13), .ref (Ma 11), .int (Mv 14), .ref (Ma 12), .ref (Ma 13), .ref (Ma 14), .ref (Ma 15), .ref (Ma 16), .long (Mj 0), .ref (Ma 17), .ref (Ma 18), .ref (Ma 19), .ref (Ma 20)])), ((Ma 1), .inl (tc 2, 400, .inl (Mf 1)))] H := hP₀
              replace hD : va_D A [((Ma 3), .inl (tc 0, 7, .inl g_1)), ((Ma 6), .inl (tc 0, 95, .inl vy_30)), ((Ma 0), .inr (12, [.ref (Ma 1), .int 0, .int (Mv 1), .ref (Ma 2), .ref (Ma 3), .ref (Ma 4), .ref (Ma 5), .ref (Ma 6), .int sv_69, .int vy_27, .int vy_28, .int 6, .int 0, .int (Mv 7), .int vy_29, .ref (Ma 7), .int (Mv 9), .ref (Ma 8), .int (Mv 10), .ref (Ma 9), .ref (Ma 10), .int (Mv 11), .int (Mv 12), .int (Mv 13), .ref (Ma 11), .int (Mv 14), .ref (Ma 12), .ref (Ma 13), .ref (Ma 14), .ref (Ma 15), .ref (Ma 16), .long (Mj 0), .ref (Ma 17), .ref (Ma 18), .ref (Ma 19), .ref (Ma 20)])), ((Ma 1), .inl (tc 2, 400, .inl (Mf 1)))] := hD₀
              replace hS := hS₀
              clear hP₀ hD₀ hS₀
              refine lv_aload_n hx hb dX12_readsAll_93 rfl (lv_at hl 1 rfl) ?_
              refine gf_X12_84 hx hb hts hown hK hP 2 rfl rfl dX12_readsAll_94 ?_
              refine lv_if_ne (tgt := 104) hx hb dX12_readsAll_97 (by decide) (fun c_79 => ?_) (fun c_79 => ?_)
              · skip
                refine lv_iconst (v := 0) hx hb dX12_readsAll_104 (by decide) ?_
                have hr_80 : (vy_25 : Int32).toInt = 1 := by
                  have z_1 : ¬ (vy_25 : Int32).toInt = (0 : Int32).toInt := fun z => c_39 (Int32.toInt_inj.mp z)
                  have z_2 : ¬ (r_60 : Int32).toInt = (59 : Int32).toInt := fun z => c_63 (Int32.toInt_inj.mp z)
                  have z_3 : ¬ (vy_25 : Int32).toInt = (0 : Int32).toInt := fun z => c_64 (Int32.toInt_inj.mp z)
                  have z_4 := congrArg Int32.toInt c_78
                  have z_5 : ¬ (vy_27 : Int32).toInt = (0 : Int32).toInt := fun z => c_79 (Int32.toInt_inj.mp z)
                  have y_m1 : (-1 : Int32).toInt = -1 := by decide
                  have y_0 : (0 : Int32).toInt = 0 := by decide
                  have y_59 : (59 : Int32).toInt = 59 := by decide
                  omega
                have hr_81 : (rB (Mf 1) (Mv 0) (sv_69 : Int32).toInt.toNat = -1) := by
                  have z_1 : ¬ (vy_25 : Int32).toInt = (0 : Int32).toInt := fun z => c_39 (Int32.toInt_inj.mp z)
                  have z_2 : ¬ (r_60 : Int32).toInt = (59 : Int32).toInt := fun z => c_63 (Int32.toInt_inj.mp z)
                  have z_3 : ¬ (vy_25 : Int32).toInt = (0 : Int32).toInt := fun z => c_64 (Int32.toInt_inj.mp z)
                  have z_4 := congrArg Int32.toInt c_78
                  have z_5 : ¬ (vy_27 : Int32).toInt = (0 : Int32).toInt := fun z => c_79 (Int32.toInt_inj.mp z)
                  have y_m1 : (-1 : Int32).toInt = -1 := by decide
                  have y_0 : (0 : Int32).toInt = 0 := by decide
                  have y_59 : (59 : Int32).toInt = 59 := by decide
                  omega
                have hp_82 : (((0 : Int32).toInt = 0 ∧ ¬ (vy_27 : Int32).toInt = 0) ∨ ((0 : Int32).toInt = 1 ∧ (vy_27 : Int32).toInt = 0)) := by
                  have z_1 : ¬ (vy_25 : Int32).toInt = (0 : Int32).toInt := fun z => c_39 (Int32.toInt_inj.mp z)
                  have z_2 : ¬ (r_60 : Int32).toInt = (59 : Int32).toInt := fun z => c_63 (Int32.toInt_inj.mp z)
                  have z_3 : ¬ (vy_25 : Int32).toInt = (0 : Int32).toInt := fun z => c_64 (Int32.toInt_inj.mp z)
                  have z_4 := congrArg Int32.toInt c_78
                  have z_5 : ¬ (vy_27 : Int32).toInt = (0 : Int32).toInt := fun z => c_79 (Int32.toInt_inj.mp z)
                  have y_m1 : (-1 : Int32).toInt = -1 := by decide
                  have y_0 : (0 : Int32).toInt = 0 := by decide
                  have y_59 : (59 : Int32).toInt = 59 := by decide
                  omega
                exact retI (v := 0) hx hb hr hlk (rfl) hP hD hS (sv_69, vy_27, vy_28, vy_29, g_1, vy_30) ⟨_, rfl, hp_82, (BkR.rend pf_37 hr_80 (SkR.trans pf_59 pf_73) hr_81), (fun h => absurd h (by decide))⟩ [2, 3, 0, 1] rfl rfl dX12_readsAll_105 (Nat.le_of_ble_eq_true rfl) (Nat.le_of_ble_eq_true rfl) rfl
              · skip
                refine lv_iconst (v := 1) hx hb dX12_readsAll_100 (by decide) ?_
                refine lv_goto (tgt := 105) hx hb dX12_readsAll_101 (by decide) ?_
                have hr_83 : (vy_25 : Int32).toInt = 1 := by
                  have z_1 : ¬ (vy_25 : Int32).toInt = (0 : Int32).toInt := fun z => c_39 (Int32.toInt_inj.mp z)
                  have z_2 : ¬ (r_60 : Int32).toInt = (59 : Int32).toInt := fun z => c_63 (Int32.toInt_inj.mp z)
                  have z_3 : ¬ (vy_25 : Int32).toInt = (0 : Int32).toInt := fun z => c_64 (Int32.toInt_inj.mp z)
                  have z_4 := congrArg Int32.toInt c_78
                  have z_5 := congrArg Int32.toInt c_79
                  have y_m1 : (-1 : Int32).toInt = -1 := by decide
                  have y_0 : (0 : Int32).toInt = 0 := by decide
                  have y_59 : (59 : Int32).toInt = 59 := by decide
                  omega
                have hr_84 : (rB (Mf 1) (Mv 0) (sv_69 : Int32).toInt.toNat = -1) := by
                  have z_1 : ¬ (vy_25 : Int32).toInt = (0 : Int32).toInt := fun z => c_39 (Int32.toInt_inj.mp z)
                  have z_2 : ¬ (r_60 : Int32).toInt = (59 : Int32).toInt := fun z => c_63 (Int32.toInt_inj.mp z)
                  have z_3 : ¬ (vy_25 : Int32).toInt = (0 : Int32).toInt := fun z => c_64 (Int32.toInt_inj.mp z)
                  have z_4 := congrArg Int32.toInt c_78
                  have z_5 := congrArg Int32.toInt c_79
                  have y_m1 : (-1 : Int32).toInt = -1 := by decide
                  have y_0 : (0 : Int32).toInt = 0 := by decide
                  have y_59 : (59 : Int32).toInt = 59 := by decide
                  omega
                have hp_85 : (((1 : Int32).toInt = 0 ∧ ¬ (vy_27 : Int32).toInt = 0) ∨ ((1 : Int32).toInt = 1 ∧ (vy_27 : Int32).toInt = 0)) := by
                  have z_1 : ¬ (vy_25 : Int32).toInt = (0 : Int32).toInt := fun z => c_39 (Int32.toInt_inj.mp z)
                  have z_2 : ¬ (r_60 : Int32).toInt = (59 : Int32).toInt := fun z => c_63 (Int32.toInt_inj.mp z)
                  have z_3 : ¬ (vy_25 : Int32).toInt = (0 : Int32).toInt := fun z => c_64 (Int32.toInt_inj.mp z)
                  have z_4 := congrArg Int32.toInt c_78
                  have z_5 := congrArg Int32.toInt c_79
                  have y_m1 : (-1 : Int32).toInt = -1 := by decide
                  have y_0 : (0 : Int32).toInt = 0 := by decide
                  have y_59 : (59 : Int32).toInt = 59 := by decide
                  have y_1 : (1 : Int32).toInt = 1 := by decide
                  have yr : (1 : Int32).toInt = 1 := by decide
                  omega
                have hm_86 : (1 : Int32).toInt = 1 → (RdO vy_30) := by
                  intro h1r
                  exact pf_50
                exact retI (v := 1) hx hb hr hlk (rfl) hP hD hS (sv_69, vy_27, vy_28, vy_29, g_1, vy_30) ⟨_, rfl, hp_85, (BkR.rend pf_37 hr_83 (SkR.trans pf_59 pf_73) hr_84), hm_86⟩ [2, 3, 0, 1] rfl rfl dX12_readsAll_105 (Nat.le_of_ble_eq_true rfl) (Nat.le_of_ble_eq_true rfl) rfl
            · skip
              refine lv_aload_n hx hb dX12_readsAll_78 rfl (lv_at hl 1 rfl) ?_
              refine lv_iconst (v := 0) hx hb dX12_readsAll_79 (by decide) ?_
              refine lv_aload_n hx hb dX12_readsAll_80 rfl (lv_at hl 1 rfl) ?_
              refine gf_X12_87 hx hb hts hown hK hP 2 rfl rfl dX12_readsAll_81 ?_
              have ha_87 : 0 ≤ (0 : Int32).toInt ∧ (0 : Int32).toInt ≤ 4 := by
                have z_1 : ¬ (vy_25 : Int32).toInt = (0 : Int32).toInt := fun z => c_39 (Int32.toInt_inj.mp z)
                have z_2 : ¬ (r_60 : Int32).toInt = (59 : Int32).toInt := fun z => c_63 (Int32.toInt_inj.mp z)
                have z_3 : ¬ (vy_25 : Int32).toInt = (0 : Int32).toInt := fun z => c_64 (Int32.toInt_inj.mp z)
                have z_4 : ¬ (r_74 : Int32).toInt = ((-1) : Int32).toInt := fun z => c_78 (Int32.toInt_inj.mp z)
                have y_m1 : (-1 : Int32).toInt = -1 := by decide
                have y_0 : (0 : Int32).toInt = 0 := by decide
                have y_59 : (59 : Int32).toInt = 59 := by decide
                omega
              have ha_88 : 0 ≤ sv_69.toInt ∧ sv_69.toInt ≤ 400 := by
                have z_1 : ¬ (vy_25 : Int32).toInt = (0 : Int32).toInt := fun z => c_39 (Int32.toInt_inj.mp z)
                have z_2 : ¬ (r_60 : Int32).toInt = (59 : Int32).toInt := fun z => c_63 (Int32.toInt_inj.mp z)
                have z_3 : ¬ (vy_25 : Int32).toInt = (0 : Int32).toInt := fun z => c_64 (Int32.toInt_inj.mp z)
                have z_4 : ¬ (r_74 : Int32).toInt = ((-1) : Int32).toInt := fun z => c_78 (Int32.toInt_inj.mp z)
                have y_m1 : (-1 : Int32).toInt = -1 := by decide
                have y_0 : (0 : Int32).toInt = 0 := by decide
                have y_59 : (59 : Int32).toInt = 59 := by decide
                omega
              have ha_89 : (vy_27 : Int32).toInt = 0 := by
                have z_1 : ¬ (vy_25 : Int32).toInt = (0 : Int32).toInt := fun z => c_39 (Int32.toInt_inj.mp z)
                have z_2 : ¬ (r_60 : Int32).toInt = (59 : Int32).toInt := fun z => c_63 (Int32.toInt_inj.mp z)
                have z_3 : ¬ (vy_25 : Int32).toInt = (0 : Int32).toInt := fun z => c_64 (Int32.toInt_inj.mp z)
                have z_4 : ¬ (r_74 : Int32).toInt = ((-1) : Int32).toInt := fun z => c_78 (Int32.toInt_inj.mp z)
                have y_m1 : (-1 : Int32).toInt = -1 := by decide
                have y_0 : (0 : Int32).toInt = 0 := by decide
                have y_59 : (59 : Int32).toInt = 59 := by decide
                omega
              refine cV (a := (Ma 0)) (As := [.int 0, .int sv_69]) (rest := []) (wr := [((Ma 3), .inl (tc 0, 7, .inl g_1)), ((Ma 6), .inl (tc 0, 95, .inl vy_30)), ((Ma 1), .inl (tc 2, 400, .inl (Mf 1)))]) ⟨hx, hb, hml, hown, hts⟩ hK hX hA (cu_fX12_fails l D tc sk (Ma 0) (Ma 1) (Ma 2) (Ma 3) (Ma 4) (Ma 5) (Ma 6) (Ma 7) (Ma 8) (Ma 9) (Ma 10) (Ma 11) (Ma 12) (Ma 13) (Ma 14) (Ma 15) (Ma 16) (Ma 17) (Ma 18) (Ma 19) (Ma 20) (Mv 0) (Mv 1) sv_69 vy_27 vy_28 6 0 (Mv 7) vy_29 (Mv 9) (Mv 10) (Mv 11) (Mv 12) (Mv 13) (Mv 14) (Mj 0) 0 sv_69 ha_87 ha_88 ha_89) k_1232 k_1229 k_1231 k_31 k_106 pl_X12_fails ⟨Nat.le_of_ble_eq_true rfl, Nat.le_of_ble_eq_true rfl⟩ rfl rfl (va_recv hK hP (ci := 12) (q0 := 2) rfl rfl) hP hD hS [2] [0, 1, 3] rfl rfl rfl rfl rfl (by decide) rfl hl.1 rfl (Nat.le_of_ble_eq_true rfl) dX12_readsAll_84 ⟨Nat.le_of_ble_eq_true rfl, Nat.le_of_ble_eq_true rfl⟩ (fun v_90 u_91 H locs hv_92 hP₀ hD₀ hS₀ => ?_)
              obtain ⟨sv_93, rfl⟩ : ∃ z, z = u_91 := ⟨_, rfl⟩
              obtain ⟨r_96, rfl, he_97, pf_94, pf_95⟩ := hv_92
              have he_97 : r_96.toInt = 0 := he_97
              have pf_94 : ¬ (sv_93 : Int32).toInt = 0 := pf_94
              have pf_95 : (sv_93 : Int32).toInt = 1 + 8 * sv_69.toInt + (0 : Int32).toInt := pf_95
              refine W.eq (g2 := F0 m 87 ls [.int r_96]) rfl ?_
              replace hP : va_P D classes [((Ma 3), .inl (tc 0, 7, .inl g_1)), ((Ma 6), .inl (tc 0, 95, .inl vy_30)), ((Ma 1), .inl (tc 2, 400, .inl (Mf 1))), ((Ma 0), .inr (12, [.ref (Ma 1), .int (Mv 0), .int (Mv 1), .ref (Ma 2), .ref (Ma 3), .ref (Ma 4), .ref (Ma 5), .ref (Ma 6), .int sv_69, .int sv_93, .int vy_28, .int 6, .int 0, .int (Mv 7), .int vy_29, .ref (Ma 7), .int (Mv 9), .ref (Ma 8), .int (Mv 10), .ref (Ma 9), .ref (Ma 10), .int (Mv 11), .int (Mv 12), .int (Mv 13), .ref (Ma 11), .int (Mv 14), .ref (Ma 12), .ref (Ma 13), .ref (Ma 14), .ref (Ma 15), .ref (Ma 16), .long (Mj 0), .ref (Ma 17), .ref (Ma 18), .ref (Ma 19), .ref (Ma 20)]))] H := hP₀
              replace hD : va_D A [((Ma 3), .inl (tc 0, 7, .inl g_1)), ((Ma 6), .inl (tc 0, 95, .inl vy_30)), ((Ma 1), .inl (tc 2, 400, .inl (Mf 1))), ((Ma 0), .inr (12, [.ref (Ma 1), .int (Mv 0), .int (Mv 1), .ref (Ma 2), .ref (Ma 3), .ref (Ma 4), .ref (Ma 5), .ref (Ma 6), .int sv_69, .int sv_93, .int vy_28, .int 6, .int 0, .int (Mv 7), .int vy_29, .ref (Ma 7), .int (Mv 9), .ref (Ma 8), .int (Mv 10), .ref (Ma 9), .ref (Ma 10), .int (Mv 11), .int (Mv 12), .int (Mv 13), .ref (Ma 11), .int (Mv 14), .ref (Ma 12), .ref (Ma 13), .ref (Ma 14), .ref (Ma 15), .ref (Ma 16), .long (Mj 0), .ref (Ma 17), .ref (Ma 18), .ref (Ma 19), .ref (Ma 20)]))] := hD₀
              replace hS := hS₀
              clear hP₀ hD₀ hS₀
              have yf_99 : (0 : Int32).toInt = 0 := by decide
              refine lv_pop hx hb dX12_readsAll_87 rfl ?_
              refine lv_aload_n hx hb dX12_readsAll_88 rfl (lv_at hl 1 rfl) ?_
              refine lv_iconst (v := 0) hx hb dX12_readsAll_89 (by decide) ?_
              refine pf_X12_77 hx hb hts hown hK hP hD hS 3 rfl (Nat.le_of_ble_eq_true rfl) rfl rfl dX12_readsAll_90 (fun H locs hP₀ hD₀ hS₀ => ?_)
              replace hP : va_P D classes [((Ma 3), .inl (tc 0, 7, .inl g_1)), ((Ma 6), .inl (tc 0, 95, .inl vy_30)), ((Ma 1), .inl (tc 2, 400, .inl (Mf 1))), ((Ma 0), .inr (12, [.ref (Ma 1), .int 0, .int (Mv 1), .ref (Ma 2), .ref (Ma 3), .ref (Ma 4), .ref (Ma 5), .ref (Ma 6), .int sv_69, .int sv_93, .int vy_28, .int 6, .int 0, .int (Mv 7), .int vy_29, .ref (Ma 7), .int (Mv 9), .ref (Ma 8), .int (Mv 10), .ref (Ma 9), .ref (Ma 10), .int (Mv 11), .int (Mv 12), .int (Mv 13), .ref (Ma 11), .int (Mv 14), .ref (Ma 12), .ref (Ma 13), .ref (Ma 14), .ref (Ma 15), .ref (Ma 16), .long (Mj 0), .ref (Ma 17), .ref (Ma 18), .ref (Ma 19), .ref (Ma 20)]))] H := hP₀
              replace hD : va_D A [((Ma 3), .inl (tc 0, 7, .inl g_1)), ((Ma 6), .inl (tc 0, 95, .inl vy_30)), ((Ma 1), .inl (tc 2, 400, .inl (Mf 1))), ((Ma 0), .inr (12, [.ref (Ma 1), .int 0, .int (Mv 1), .ref (Ma 2), .ref (Ma 3), .ref (Ma 4), .ref (Ma 5), .ref (Ma 6), .int sv_69, .int sv_93, .int vy_28, .int 6, .int 0, .int (Mv 7), .int vy_29, .ref (Ma 7), .int (Mv 9), .ref (Ma 8), .int (Mv 10), .ref (Ma 9), .ref (Ma 10), .int (Mv 11), .int (Mv 12), .int (Mv 13), .ref (Ma 11), .int (Mv 14), .ref (Ma 12), .ref (Ma 13), .ref (Ma 14), .ref (Ma 15), .ref (Ma 16), .long (Mj 0), .ref (Ma 17), .ref (Ma 18), .ref (Ma 19), .ref (Ma 20)]))] := hD₀
              replace hS := hS₀
              clear hP₀ hD₀ hS₀
              refine lv_aload_n hx hb dX12_readsAll_93 rfl (lv_at hl 1 rfl) ?_
              refine gf_X12_84 hx hb hts hown hK hP 3 rfl rfl dX12_readsAll_94 ?_
              refine lv_if_ne (tgt := 104) hx hb dX12_readsAll_97 (by decide) (fun c_100 => ?_) (fun c_100 => ?_)
              · skip
                refine lv_iconst (v := 0) hx hb dX12_readsAll_104 (by decide) ?_
                have hr_101 : (vy_25 : Int32).toInt = 1 := by
                  have z_1 : ¬ (vy_25 : Int32).toInt = (0 : Int32).toInt := fun z => c_39 (Int32.toInt_inj.mp z)
                  have z_2 : ¬ (r_60 : Int32).toInt = (59 : Int32).toInt := fun z => c_63 (Int32.toInt_inj.mp z)
                  have z_3 : ¬ (vy_25 : Int32).toInt = (0 : Int32).toInt := fun z => c_64 (Int32.toInt_inj.mp z)
                  have z_4 : ¬ (r_74 : Int32).toInt = ((-1) : Int32).toInt := fun z => c_78 (Int32.toInt_inj.mp z)
                  have z_5 : ¬ (sv_93 : Int32).toInt = (0 : Int32).toInt := fun z => c_100 (Int32.toInt_inj.mp z)
                  have y_m1 : (-1 : Int32).toInt = -1 := by decide
                  have y_0 : (0 : Int32).toInt = 0 := by decide
                  have y_59 : (59 : Int32).toInt = 59 := by decide
                  omega
                have hr_102 : ¬ (rB (Mf 1) (Mv 0) (sv_69 : Int32).toInt.toNat = 59) := by
                  have z_1 : ¬ (vy_25 : Int32).toInt = (0 : Int32).toInt := fun z => c_39 (Int32.toInt_inj.mp z)
                  have z_2 : ¬ (r_60 : Int32).toInt = (59 : Int32).toInt := fun z => c_63 (Int32.toInt_inj.mp z)
                  have z_3 : ¬ (vy_25 : Int32).toInt = (0 : Int32).toInt := fun z => c_64 (Int32.toInt_inj.mp z)
                  have z_4 : ¬ (r_74 : Int32).toInt = ((-1) : Int32).toInt := fun z => c_78 (Int32.toInt_inj.mp z)
                  have z_5 : ¬ (sv_93 : Int32).toInt = (0 : Int32).toInt := fun z => c_100 (Int32.toInt_inj.mp z)
                  have y_m1 : (-1 : Int32).toInt = -1 := by decide
                  have y_0 : (0 : Int32).toInt = 0 := by decide
                  have y_59 : (59 : Int32).toInt = 59 := by decide
                  omega
                have hr_103 : ¬ (rB (Mf 1) (Mv 0) (sv_69 : Int32).toInt.toNat = -1) := by
                  have z_1 : ¬ (vy_25 : Int32).toInt = (0 : Int32).toInt := fun z => c_39 (Int32.toInt_inj.mp z)
                  have z_2 : ¬ (r_60 : Int32).toInt = (59 : Int32).toInt := fun z => c_63 (Int32.toInt_inj.mp z)
                  have z_3 : ¬ (vy_25 : Int32).toInt = (0 : Int32).toInt := fun z => c_64 (Int32.toInt_inj.mp z)
                  have z_4 : ¬ (r_74 : Int32).toInt = ((-1) : Int32).toInt := fun z => c_78 (Int32.toInt_inj.mp z)
                  have z_5 : ¬ (sv_93 : Int32).toInt = (0 : Int32).toInt := fun z => c_100 (Int32.toInt_inj.mp z)
                  have y_m1 : (-1 : Int32).toInt = -1 := by decide
                  have y_0 : (0 : Int32).toInt = 0 := by decide
                  have y_59 : (59 : Int32).toInt = 59 := by decide
                  omega
                have hi_104 : (sv_93 : Int32).toInt = 1 + 8 * (sv_69 : Int32).toInt := by
                  have z_1 : ¬ (vy_25 : Int32).toInt = (0 : Int32).toInt := fun z => c_39 (Int32.toInt_inj.mp z)
                  have z_2 : ¬ (r_60 : Int32).toInt = (59 : Int32).toInt := fun z => c_63 (Int32.toInt_inj.mp z)
                  have z_3 : ¬ (vy_25 : Int32).toInt = (0 : Int32).toInt := fun z => c_64 (Int32.toInt_inj.mp z)
                  have z_4 : ¬ (r_74 : Int32).toInt = ((-1) : Int32).toInt := fun z => c_78 (Int32.toInt_inj.mp z)
                  have z_5 : ¬ (sv_93 : Int32).toInt = (0 : Int32).toInt := fun z => c_100 (Int32.toInt_inj.mp z)
                  have y_m1 : (-1 : Int32).toInt = -1 := by decide
                  have y_0 : (0 : Int32).toInt = 0 := by decide
                  have y_59 : (59 : Int32).toInt = 59 := by decide
                  omega
                have hp_105 : (((0 : Int32).toInt = 0 ∧ ¬ (sv_93 : Int32).toInt = 0) ∨ ((0 : Int32).toInt = 1 ∧ (sv_93 : Int32).toInt = 0)) := by
                  have z_1 : ¬ (vy_25 : Int32).toInt = (0 : Int32).toInt := fun z => c_39 (Int32.toInt_inj.mp z)
                  have z_2 : ¬ (r_60 : Int32).toInt = (59 : Int32).toInt := fun z => c_63 (Int32.toInt_inj.mp z)
                  have z_3 : ¬ (vy_25 : Int32).toInt = (0 : Int32).toInt := fun z => c_64 (Int32.toInt_inj.mp z)
                  have z_4 : ¬ (r_74 : Int32).toInt = ((-1) : Int32).toInt := fun z => c_78 (Int32.toInt_inj.mp z)
                  have z_5 : ¬ (sv_93 : Int32).toInt = (0 : Int32).toInt := fun z => c_100 (Int32.toInt_inj.mp z)
                  have y_m1 : (-1 : Int32).toInt = -1 := by decide
                  have y_0 : (0 : Int32).toInt = 0 := by decide
                  have y_59 : (59 : Int32).toInt = 59 := by decide
                  omega
                exact retI (v := 0) hx hb hr hlk (rfl) hP hD hS (sv_69, sv_93, vy_28, vy_29, g_1, vy_30) ⟨_, rfl, hp_105, (BkR.rmore pf_37 hr_101 (SkR.trans pf_59 pf_73) hr_102 hr_103 hi_104), (fun h => absurd h (by decide))⟩ [3, 2, 0, 1] rfl rfl dX12_readsAll_105 (Nat.le_of_ble_eq_true rfl) (Nat.le_of_ble_eq_true rfl) rfl
              · skip
                refine lv_iconst (v := 1) hx hb dX12_readsAll_100 (by decide) ?_
                refine lv_goto (tgt := 105) hx hb dX12_readsAll_101 (by decide) ?_
                have hr_106 : (vy_25 : Int32).toInt = 1 := by
                  have z_1 : ¬ (vy_25 : Int32).toInt = (0 : Int32).toInt := fun z => c_39 (Int32.toInt_inj.mp z)
                  have z_2 : ¬ (r_60 : Int32).toInt = (59 : Int32).toInt := fun z => c_63 (Int32.toInt_inj.mp z)
                  have z_3 : ¬ (vy_25 : Int32).toInt = (0 : Int32).toInt := fun z => c_64 (Int32.toInt_inj.mp z)
                  have z_4 : ¬ (r_74 : Int32).toInt = ((-1) : Int32).toInt := fun z => c_78 (Int32.toInt_inj.mp z)
                  have z_5 := congrArg Int32.toInt c_100
                  have y_m1 : (-1 : Int32).toInt = -1 := by decide
                  have y_0 : (0 : Int32).toInt = 0 := by decide
                  have y_59 : (59 : Int32).toInt = 59 := by decide
                  omega
                have hr_107 : ¬ (rB (Mf 1) (Mv 0) (sv_69 : Int32).toInt.toNat = 59) := by
                  have z_1 : ¬ (vy_25 : Int32).toInt = (0 : Int32).toInt := fun z => c_39 (Int32.toInt_inj.mp z)
                  have z_2 : ¬ (r_60 : Int32).toInt = (59 : Int32).toInt := fun z => c_63 (Int32.toInt_inj.mp z)
                  have z_3 : ¬ (vy_25 : Int32).toInt = (0 : Int32).toInt := fun z => c_64 (Int32.toInt_inj.mp z)
                  have z_4 : ¬ (r_74 : Int32).toInt = ((-1) : Int32).toInt := fun z => c_78 (Int32.toInt_inj.mp z)
                  have z_5 := congrArg Int32.toInt c_100
                  have y_m1 : (-1 : Int32).toInt = -1 := by decide
                  have y_0 : (0 : Int32).toInt = 0 := by decide
                  have y_59 : (59 : Int32).toInt = 59 := by decide
                  omega
                have hr_108 : ¬ (rB (Mf 1) (Mv 0) (sv_69 : Int32).toInt.toNat = -1) := by
                  have z_1 : ¬ (vy_25 : Int32).toInt = (0 : Int32).toInt := fun z => c_39 (Int32.toInt_inj.mp z)
                  have z_2 : ¬ (r_60 : Int32).toInt = (59 : Int32).toInt := fun z => c_63 (Int32.toInt_inj.mp z)
                  have z_3 : ¬ (vy_25 : Int32).toInt = (0 : Int32).toInt := fun z => c_64 (Int32.toInt_inj.mp z)
                  have z_4 : ¬ (r_74 : Int32).toInt = ((-1) : Int32).toInt := fun z => c_78 (Int32.toInt_inj.mp z)
                  have z_5 := congrArg Int32.toInt c_100
                  have y_m1 : (-1 : Int32).toInt = -1 := by decide
                  have y_0 : (0 : Int32).toInt = 0 := by decide
                  have y_59 : (59 : Int32).toInt = 59 := by decide
                  omega
                have hi_109 : (sv_93 : Int32).toInt = 1 + 8 * (sv_69 : Int32).toInt := by
                  have z_1 : ¬ (vy_25 : Int32).toInt = (0 : Int32).toInt := fun z => c_39 (Int32.toInt_inj.mp z)
                  have z_2 : ¬ (r_60 : Int32).toInt = (59 : Int32).toInt := fun z => c_63 (Int32.toInt_inj.mp z)
                  have z_3 : ¬ (vy_25 : Int32).toInt = (0 : Int32).toInt := fun z => c_64 (Int32.toInt_inj.mp z)
                  have z_4 : ¬ (r_74 : Int32).toInt = ((-1) : Int32).toInt := fun z => c_78 (Int32.toInt_inj.mp z)
                  have z_5 := congrArg Int32.toInt c_100
                  have y_m1 : (-1 : Int32).toInt = -1 := by decide
                  have y_0 : (0 : Int32).toInt = 0 := by decide
                  have y_59 : (59 : Int32).toInt = 59 := by decide
                  omega
                have hp_110 : (((1 : Int32).toInt = 0 ∧ ¬ (sv_93 : Int32).toInt = 0) ∨ ((1 : Int32).toInt = 1 ∧ (sv_93 : Int32).toInt = 0)) := by
                  have z_1 : ¬ (vy_25 : Int32).toInt = (0 : Int32).toInt := fun z => c_39 (Int32.toInt_inj.mp z)
                  have z_2 : ¬ (r_60 : Int32).toInt = (59 : Int32).toInt := fun z => c_63 (Int32.toInt_inj.mp z)
                  have z_3 : ¬ (vy_25 : Int32).toInt = (0 : Int32).toInt := fun z => c_64 (Int32.toInt_inj.mp z)
                  have z_4 : ¬ (r_74 : Int32).toInt = ((-1) : Int32).toInt := fun z => c_78 (Int32.toInt_inj.mp z)
                  have z_5 := congrArg Int32.toInt c_100
                  have y_m1 : (-1 : Int32).toInt = -1 := by decide
                  have y_0 : (0 : Int32).toInt = 0 := by decide
                  have y_59 : (59 : Int32).toInt = 59 := by decide
                  have y_1 : (1 : Int32).toInt = 1 := by decide
                  have yr : (1 : Int32).toInt = 1 := by decide
                  omega
                have hm_111 : (1 : Int32).toInt = 1 → (RdO vy_30) := by
                  intro h1r
                  exact pf_50
                exact retI (v := 1) hx hb hr hlk (rfl) hP hD hS (sv_69, sv_93, vy_28, vy_29, g_1, vy_30) ⟨_, rfl, hp_110, (BkR.rmore pf_37 hr_106 (SkR.trans pf_59 pf_73) hr_107 hr_108 hi_109), hm_111⟩ [3, 2, 0, 1] rfl rfl dX12_readsAll_105 (Nat.le_of_ble_eq_true rfl) (Nat.le_of_ble_eq_true rfl) rfl
        · skip
          refine lv_aload_n hx hb dX12_readsAll_48 rfl (lv_at hl 1 rfl) ?_
          refine lv_dup hx hb dX12_readsAll_49 rfl ?_
          refine gf_X12_87 hx hb hts hown hK hP 2 rfl rfl dX12_readsAll_50 ?_
          refine lv_iconst (v := 1) hx hb dX12_readsAll_53 (by decide) ?_
          refine lv_iadd hx hb dX12_readsAll_54 ?_
          refine lv_topi (fun x_112 ex_112 => ?_)
          refine pf_X12_87 hx hb hts hown hK hP hD hS 2 rfl (Nat.le_of_ble_eq_true rfl) rfl rfl dX12_readsAll_55 (fun H locs hP₀ hD₀ hS₀ => ?_)
          replace hP : va_P D classes [((Ma 3), .inl (tc 0, 7, .inl g_1)), ((Ma 6), .inl (tc 0, 95, .inl vy_30)), ((Ma 0), .inr (12, [.ref (Ma 1), .int (Mv 0), .int (Mv 1), .ref (Ma 2), .ref (Ma 3), .ref (Ma 4), .ref (Ma 5), .ref (Ma 6), .int x_112, .int vy_27, .int vy_28, .int 6, .int 0, .int (Mv 7), .int vy_29, .ref (Ma 7), .int (Mv 9), .ref (Ma 8), .int (Mv 10), .ref (Ma 9), .ref (Ma 10), .int (Mv 11), .int (Mv 12), .int (Mv 13), .ref (Ma 11), .int (Mv 14), .ref (Ma 12), .ref (Ma 13), .ref (Ma 14), .ref (Ma 15), .ref (Ma 16), .long (Mj 0), .ref (Ma 17), .ref (Ma 18), .ref (Ma 19), .ref (Ma 20)])), ((Ma 1), .inl (tc 2, 400, .inl (Mf 1)))] H := hP₀
          replace hD : va_D A [((Ma 3), .inl (tc 0, 7, .inl g_1)), ((Ma 6), .inl (tc 0, 95, .inl vy_30)), ((Ma 0), .inr (12, [.ref (Ma 1), .int (Mv 0), .int (Mv 1), .ref (Ma 2), .ref (Ma 3), .ref (Ma 4), .ref (Ma 5), .ref (Ma 6), .int x_112, .int vy_27, .int vy_28, .int 6, .int 0, .int (Mv 7), .int vy_29, .ref (Ma 7), .int (Mv 9), .ref (Ma 8), .int (Mv 10), .ref (Ma 9), .ref (Ma 10), .int (Mv 11), .int (Mv 12), .int (Mv 13), .ref (Ma 11), .int (Mv 14), .ref (Ma 12), .ref (Ma 13), .ref (Ma 14), .ref (Ma 15), .ref (Ma 16), .long (Mj 0), .ref (Ma 17), .ref (Ma 18), .ref (Ma 19), .ref (Ma 20)])), ((Ma 1), .inl (tc 2, 400, .inl (Mf 1)))] := hD₀
          replace hS := hS₀
          clear hP₀ hD₀ hS₀
          have tp_x_112 : (x_112 : Int32).toInt = (sv_55 : Int32).toInt + 1 := by
            have z_1 : ¬ (vy_25 : Int32).toInt = (0 : Int32).toInt := fun z => c_39 (Int32.toInt_inj.mp z)
            have z_2 := congrArg Int32.toInt c_63
            have y_0 : (0 : Int32).toInt = 0 := by decide
            have y_59 : (59 : Int32).toInt = 59 := by decide
            have y_1 : (1 : Int32).toInt = 1 := by decide
            have t_x_112 : x_112.toInt = (sv_55 : Int32).toInt + (1 : Int32).toInt := by rw [ex_112]; exact add_toInt (by omega) (by omega)
            omega
          refine lv_aload_n hx hb dX12_readsAll_58 rfl (lv_at hl 1 rfl) ?_
          have ha_113 : 0 ≤ (x_112 : Int32).toInt ∧ (x_112 : Int32).toInt ≤ ((Mv 0) : Int32).toInt ∧ ((Mv 0) : Int32).toInt ≤ 400 := by
            have z_1 : ¬ (vy_25 : Int32).toInt = (0 : Int32).toInt := fun z => c_39 (Int32.toInt_inj.mp z)
            have z_2 := congrArg Int32.toInt c_63
            have y_0 : (0 : Int32).toInt = 0 := by decide
            have y_59 : (59 : Int32).toInt = 59 := by decide
            have y_1 : (1 : Int32).toInt = 1 := by decide
            have t_x_112 : x_112.toInt = (sv_55 : Int32).toInt + (1 : Int32).toInt := by rw [ex_112]; exact add_toInt (by omega) (by omega)
            omega
          have ha_114 : (vy_27 : Int32).toInt = 0 := by
            have z_1 : ¬ (vy_25 : Int32).toInt = (0 : Int32).toInt := fun z => c_39 (Int32.toInt_inj.mp z)
            have z_2 := congrArg Int32.toInt c_63
            have y_0 : (0 : Int32).toInt = 0 := by decide
            have y_59 : (59 : Int32).toInt = 59 := by decide
            omega
          have ha_115 : (((vy_30 0).toInt = 0 ∧ vy_29.toInt = 0) ∨ ((vy_30 0).toInt = 1 ∧ 1 ≤ vy_29.toInt ∧ vy_29.toInt ≤ 40)) := by
            have z_1 : ¬ (vy_25 : Int32).toInt = (0 : Int32).toInt := fun z => c_39 (Int32.toInt_inj.mp z)
            have z_2 := congrArg Int32.toInt c_63
            have y_0 : (0 : Int32).toInt = 0 := by decide
            have y_59 : (59 : Int32).toInt = 59 := by decide
            omega
          refine cV (a := (Ma 0)) (As := []) (rest := []) (wr := []) ⟨hx, hb, hml, hown, hts⟩ hK hX hA (cu_fX12_clauseHere_b l D tc sk (Ma 0) (Ma 1) (Ma 2) (Ma 3) (Ma 4) (Ma 5) (Ma 6) (Ma 7) (Ma 8) (Ma 9) (Ma 10) (Ma 11) (Ma 12) (Ma 13) (Ma 14) (Ma 15) (Ma 16) (Ma 17) (Ma 18) (Ma 19) (Ma 20) (Mv 0) (Mv 1) x_112 vy_27 vy_28 0 (Mv 7) vy_29 (Mv 9) (Mv 10) (Mv 11) (Mv 12) (Mv 13) (Mv 14) (Mf 1) g_1 vy_30 (Mj 0) ha_113 pf_50 h_bs ha_114 ha_115) k_1207 k_1204 k_1206 k_26 k_106 pl_X12_clauseHere ⟨Nat.le_of_ble_eq_true rfl, Nat.le_of_ble_eq_true rfl⟩ rfl rfl (va_recv hK hP (ci := 12) (q0 := 2) rfl rfl) hP hD hS [2, 3, 0, 1] [] rfl rfl rfl rfl rfl (by decide) rfl hl.1 rfl (Nat.le_of_ble_eq_true rfl) dX12_readsAll_59 ⟨Nat.le_of_ble_eq_true rfl, Nat.le_of_ble_eq_true rfl⟩ (fun v_116 u_117 H locs hv_118 hP₀ hD₀ hS₀ => ?_)
          obtain ⟨sv_119, sv_120, sv_121, sv_122, sv_123⟩ := u_117
          obtain ⟨r_125, rfl, he_126, pf_124, hm_128, hm_129⟩ := hv_118
          have he_126 : ((r_125.toInt = 0 ∧ ¬ (sv_120 : Int32).toInt = 0) ∨ (r_125.toInt = 1 ∧ (sv_123 0).toInt = 1 ∧ (sv_120 : Int32).toInt = 0 ∧ (sv_122 : Int32).toInt = vy_29.toInt + 1 ∧ (sv_122 : Int32).toInt ≤ 40)) := he_126
          have pf_124 : (x_112 : Int32).toInt ≤ (sv_119 : Int32).toInt ∧ (sv_119 : Int32).toInt ≤ ((Mv 0) : Int32).toInt := pf_124
          refine W.eq (g2 := F0 m 62 ls [.int r_125]) rfl ?_
          replace hP : va_P D classes [((Ma 0), .inr (12, [.ref (Ma 1), .int (Mv 0), .int (Mv 1), .ref (Ma 2), .ref (Ma 3), .ref (Ma 4), .ref (Ma 5), .ref (Ma 6), .int sv_119, .int sv_120, .int sv_121, .int 6, .int 0, .int (Mv 7), .int sv_122, .ref (Ma 7), .int (Mv 9), .ref (Ma 8), .int (Mv 10), .ref (Ma 9), .ref (Ma 10), .int (Mv 11), .int (Mv 12), .int (Mv 13), .ref (Ma 11), .int (Mv 14), .ref (Ma 12), .ref (Ma 13), .ref (Ma 14), .ref (Ma 15), .ref (Ma 16), .long (Mj 0), .ref (Ma 17), .ref (Ma 18), .ref (Ma 19), .ref (Ma 20)])), ((Ma 1), .inl (tc 2, 400, .inl (Mf 1))), ((Ma 3), .inl (tc 0, 7, .inl g_1)), ((Ma 6), .inl (tc 0, 95, .inl sv_123))] H := hP₀
          replace hD : va_D A [((Ma 0), .inr (12, [.ref (Ma 1), .int (Mv 0), .int (Mv 1), .ref (Ma 2), .ref (Ma 3), .ref (Ma 4), .ref (Ma 5), .ref (Ma 6), .int sv_119, .int sv_120, .int sv_121, .int 6, .int 0, .int (Mv 7), .int sv_122, .ref (Ma 7), .int (Mv 9), .ref (Ma 8), .int (Mv 10), .ref (Ma 9), .ref (Ma 10), .int (Mv 11), .int (Mv 12), .int (Mv 13), .ref (Ma 11), .int (Mv 14), .ref (Ma 12), .ref (Ma 13), .ref (Ma 14), .ref (Ma 15), .ref (Ma 16), .long (Mj 0), .ref (Ma 17), .ref (Ma 18), .ref (Ma 19), .ref (Ma 20)])), ((Ma 1), .inl (tc 2, 400, .inl (Mf 1))), ((Ma 3), .inl (tc 0, 7, .inl g_1)), ((Ma 6), .inl (tc 0, 95, .inl sv_123))] := hD₀
          replace hS := hS₀
          clear hP₀ hD₀ hS₀
          refine lv_istore_n (lv' := [(1, .int r_125), (0, .ref (Ma 0))]) hx hb dX12_readsAll_62 rfl hl (by decide) rfl (fun ls hl₀ => ?_)
          replace hl := hl₀
          clear hl₀
          refine lv_goto (tgt := 35) hx hb dX12_readsAll_63 (by decide) ?_
          have hb_130 : 2 * (401 - (sv_119 : Int32).toInt) + (r_125 : Int32).toInt < 2 * (401 - (vy_26 : Int32).toInt) + (vy_25 : Int32).toInt ∧ 1 ≤ 2 * (401 - (vy_26 : Int32).toInt) + (vy_25 : Int32).toInt := by
            have z_1 : ¬ (vy_25 : Int32).toInt = (0 : Int32).toInt := fun z => c_39 (Int32.toInt_inj.mp z)
            have z_2 := congrArg Int32.toInt c_63
            have y_0 : (0 : Int32).toInt = 0 := by decide
            have y_59 : (59 : Int32).toInt = 59 := by decide
            omega
          have ha_131 : 0 ≤ (sv_119 : Int32).toInt ∧ (sv_119 : Int32).toInt ≤ ((Mv 0) : Int32).toInt ∧ ((Mv 0) : Int32).toInt ≤ 400 := by
            have z_1 : ¬ (vy_25 : Int32).toInt = (0 : Int32).toInt := fun z => c_39 (Int32.toInt_inj.mp z)
            have z_2 := congrArg Int32.toInt c_63
            have y_0 : (0 : Int32).toInt = 0 := by decide
            have y_59 : (59 : Int32).toInt = 59 := by decide
            omega
          have ha_132 : (((r_125 : Int32).toInt = 0 ∧ ¬ (sv_120 : Int32).toInt = 0) ∨ ((r_125 : Int32).toInt = 1 ∧ (sv_123 0).toInt = 1 ∧ (sv_120 : Int32).toInt = 0 ∧ 1 ≤ (sv_122 : Int32).toInt ∧ (sv_122 : Int32).toInt ≤ 40)) := by
            have z_1 : ¬ (vy_25 : Int32).toInt = (0 : Int32).toInt := fun z => c_39 (Int32.toInt_inj.mp z)
            have z_2 := congrArg Int32.toInt c_63
            have y_0 : (0 : Int32).toInt = 0 := by decide
            have y_59 : (59 : Int32).toInt = 59 := by decide
            omega
          have hc_133 : BlR (rB (Mf 1) (Mv 0)) vy_29 x_112 (vy_30 2) (vy_30 3) r_125 sv_120 sv_119 (sv_123 2) (sv_123 3) := ⟨fun z => (hm_128 z).2, hm_129⟩
          have hl_134 : (r_125 : Int32).toInt = 1 → (sv_122 : Int32).toInt = (vy_29 : Int32).toInt + 1 := by
            intro hz
            have z_1 : ¬ (vy_25 : Int32).toInt = (0 : Int32).toInt := fun z => c_39 (Int32.toInt_inj.mp z)
            have z_2 := congrArg Int32.toInt c_63
            have y_0 : (0 : Int32).toInt = 0 := by decide
            have y_59 : (59 : Int32).toInt = 59 := by decide
            omega
          have hr_135 : (vy_25 : Int32).toInt = 1 := by
            have z_1 : ¬ (vy_25 : Int32).toInt = (0 : Int32).toInt := fun z => c_39 (Int32.toInt_inj.mp z)
            have z_2 := congrArg Int32.toInt c_63
            have y_0 : (0 : Int32).toInt = 0 := by decide
            have y_59 : (59 : Int32).toInt = 59 := by decide
            omega
          have hr_136 : (rB (Mf 1) (Mv 0) (sv_55 : Int32).toInt.toNat = 59) := by
            have z_1 : ¬ (vy_25 : Int32).toInt = (0 : Int32).toInt := fun z => c_39 (Int32.toInt_inj.mp z)
            have z_2 := congrArg Int32.toInt c_63
            have y_0 : (0 : Int32).toInt = 0 := by decide
            have y_59 : (59 : Int32).toInt = 59 := by decide
            omega
          have hi_137 : (x_112 : Int32).toInt = (sv_55 : Int32).toInt + 1 := by
            have z_1 : ¬ (vy_25 : Int32).toInt = (0 : Int32).toInt := fun z => c_39 (Int32.toInt_inj.mp z)
            have z_2 := congrArg Int32.toInt c_63
            have y_0 : (0 : Int32).toInt = 0 := by decide
            have y_59 : (59 : Int32).toInt = 59 := by decide
            have y_1 : (1 : Int32).toInt = 1 := by decide
            have t_x_112 : x_112.toInt = (sv_55 : Int32).toInt + (1 : Int32).toInt := by rw [ex_112]; exact add_toInt (by omega) (by omega)
            omega
          have hr_138 : 0 ≤ (vy_29 : Int32).toInt := by
            have z_1 : ¬ (vy_25 : Int32).toInt = (0 : Int32).toInt := fun z => c_39 (Int32.toInt_inj.mp z)
            have z_2 := congrArg Int32.toInt c_63
            have y_0 : (0 : Int32).toInt = 0 := by decide
            have y_59 : (59 : Int32).toInt = 59 := by decide
            omega
          exact ih_32 r_125 sv_119 sv_120 sv_121 sv_122 sv_123 _ _ _ (by omega) ha_131 ha_132 (fun z => (hm_128 z).1) (BaL.next (rB_fi h_tp.2) pf_37 hr_135 pf_59 hr_136 hi_137 hc_133 hl_134 hr_138) (hP.sub [0, 1, 2, 3] rfl) (hD.sub [0, 1, 2, 3] rfl rfl) hS (lv_sub hl [0, 1] rfl)
  have ha_139 : 0 ≤ (sv_8 : Int32).toInt ∧ (sv_8 : Int32).toInt ≤ ((Mv 0) : Int32).toInt ∧ ((Mv 0) : Int32).toInt ≤ 400 := by
    omega
  have ha_140 : (((r_14 : Int32).toInt = 0 ∧ ¬ (sv_9 : Int32).toInt = 0) ∨ ((r_14 : Int32).toInt = 1 ∧ (sv_12 0).toInt = 1 ∧ (sv_9 : Int32).toInt = 0 ∧ 1 ≤ (sv_11 : Int32).toInt ∧ (sv_11 : Int32).toInt ≤ 40)) := by
    omega
  have hc_141 : BlR (rB (Mf 1) (Mv 0)) 0 (0 : Int32) ((Mf 6) 2) ((Mf 6) 3) r_14 sv_9 sv_8 (sv_12 2) (sv_12 3) := ⟨fun z => (hm_17 z).2, hm_18⟩
  have hl_142 : (r_14 : Int32).toInt = 1 → (sv_11 : Int32).toInt = (0 : Int32).toInt + 1 := by
    intro hz
    omega
  have hl_143 : (r_14 : Int32).toInt = 1 → (sv_11 : Int32).toInt = 1 := by
    intro hz
    have h1 := hl_142 hz
    have h2 : (0 : Int32).toInt = 0 := by decide
    omega
  have hr_144 : ((Mf 6) 2).toInt = 0 := by
    omega
  have hr_145 : ((Mf 6) 3).toInt = 0 := by
    omega
  exact loop_33 _ r_14 sv_8 sv_9 sv_10 sv_11 sv_12 _ _ _ (Nat.lt_succ_self _) ha_139 ha_140 (fun z => (hm_17 z).1) (BaL.first (by decide) (by decide) hr_144 hr_145 hc_141 hl_143) hP hD hS hl
set_option maxRecDepth 100000 in
theorem cu_fX12_readsAll_b (l : Launch) (D : va_G) (tc : Nat → ClassId) (sk : (Nat → Nat) × (Nat → Nat)) (Ma_0 : Nat) (Ma_1 : Nat) (Ma_2 : Nat) (Ma_3 : Nat) (Ma_4 : Nat) (Ma_5 : Nat) (Ma_6 : Nat) (Ma_7 : Nat) (Ma_8 : Nat) (Ma_9 : Nat) (Ma_10 : Nat) (Ma_11 : Nat) (Ma_12 : Nat) (Ma_13 : Nat) (Ma_14 : Nat) (Ma_15 : Nat) (Ma_16 : Nat) (Ma_17 : Nat) (Ma_18 : Nat) (Ma_19 : Nat) (Ma_20 : Nat) (Mv_0 : Int32) (Mv_1 : Int32) (Mv_2 : Int32) (Mv_3 : Int32) (Mv_4 : Int32) (Mv_6 : Int32) (Mv_7 : Int32) (Mv_8 : Int32) (Mv_9 : Int32) (Mv_10 : Int32) (Mv_11 : Int32) (Mv_12 : Int32) (Mv_13 : Int32) (Mv_14 : Int32) (Mf_1 : Nat → Int32) (Mf_3 : Nat → Int32) (Mf_6 : Nat → Int32) (Mj_0 : Int64) (h_tp : 0 ≤ (Mv_0 : Int32).toInt ∧ (Mv_0 : Int32).toInt ≤ 400) (h_ro : RdO Mf_6) (h_bs : ByS Mf_1) (h_z0 : (Mf_6 0).toInt = 0 ∧ (Mf_6 2).toInt = 0 ∧ (Mf_6 3).toInt = 0) : Ct l yX12_readsAll cX12_readsAll 2 (some .boolean) { frames := 6, cells := 0, slots := 0, locals := 137 } D tc sk [.ref Ma_0] [(Ma_0, .inr (12, [.ref Ma_1, .int Mv_0, .int Mv_1, .ref Ma_2, .ref Ma_3, .ref Ma_4, .ref Ma_5, .ref Ma_6, .int Mv_2, .int Mv_3, .int Mv_4, .int 6, .int Mv_6, .int Mv_7, .int Mv_8, .ref Ma_7, .int Mv_9, .ref Ma_8, .int Mv_10, .ref Ma_9, .ref Ma_10, .int Mv_11, .int Mv_12, .int Mv_13, .ref Ma_11, .int Mv_14, .ref Ma_12, .ref Ma_13, .ref Ma_14, .ref Ma_15, .ref Ma_16, .long Mj_0, .ref Ma_17, .ref Ma_18, .ref Ma_19, .ref Ma_20])), (Ma_1, .inl (tc 2, 400, .inl Mf_1)), (Ma_3, .inl (tc 0, 7, .inl Mf_3)), (Ma_6, .inl (tc 0, 95, .inl Mf_6))] (fun (v : Option Value) (u : (Int32) × (Int32) × (Int32) × (Int32) × (Nat → Int32) × (Nat → Int32)) => match u with | (oo0x1, oo0x2, oo0x3, oo0x4, oo0x5, oo0x6) => ∃ r : Int32, v = some (.int r) ∧ (((r.toInt = 0 ∧ ¬ (oo0x2 : Int32).toInt = 0) ∨ (r.toInt = 1 ∧ (oo0x2 : Int32).toInt = 0))) ∧ (BkR (rB Mf_1 Mv_0) oo0x2 (oo0x6 3)) ∧ (r.toInt = 1 → (RdO oo0x6))) (fun (u : (Int32) × (Int32) × (Int32) × (Int32) × (Nat → Int32) × (Nat → Int32)) => match u with | (oo0x1, oo0x2, oo0x3, oo0x4, oo0x5, oo0x6) => [(Ma_0, .inr (12, [.ref Ma_1, .int 0, .int Mv_1, .ref Ma_2, .ref Ma_3, .ref Ma_4, .ref Ma_5, .ref Ma_6, .int oo0x1, .int oo0x2, .int oo0x3, .int 6, .int 0, .int Mv_7, .int oo0x4, .ref Ma_7, .int Mv_9, .ref Ma_8, .int Mv_10, .ref Ma_9, .ref Ma_10, .int Mv_11, .int Mv_12, .int Mv_13, .ref Ma_11, .int Mv_14, .ref Ma_12, .ref Ma_13, .ref Ma_14, .ref Ma_15, .ref Ma_16, .long Mj_0, .ref Ma_17, .ref Ma_18, .ref Ma_19, .ref Ma_20])), (Ma_1, .inl (tc 2, 400, .inl Mf_1)), (Ma_3, .inl (tc 0, 7, .inl oo0x5)), (Ma_6, .inl (tc 0, 95, .inl oo0x6))]) 0 0 :=
  ct_fX12_readsAll_b l D tc sk (fun k => ([Ma_0, Ma_1, Ma_2, Ma_3, Ma_4, Ma_5, Ma_6, Ma_7, Ma_8, Ma_9, Ma_10, Ma_11, Ma_12, Ma_13, Ma_14, Ma_15, Ma_16, Ma_17, Ma_18, Ma_19, Ma_20] : List (Nat)).getD k 0) (fun k => ([Mv_0, Mv_1, Mv_2, Mv_3, Mv_4, 0, Mv_6, Mv_7, Mv_8, Mv_9, Mv_10, Mv_11, Mv_12, Mv_13, Mv_14] : List (Int32)).getD k 0) (fun k => ([(fun _ => 0), Mf_1, (fun _ => 0), Mf_3, (fun _ => 0), (fun _ => 0), Mf_6] : List (Nat → Int32)).getD k (fun _ => 0)) (fun k => ([Mj_0] : List (Int64)).getD k 0) h_tp h_ro h_bs h_z0
