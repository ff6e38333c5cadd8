set_option maxHeartbeats 4000000 in
set_option maxRecDepth 100000 in
theorem ct_fX12_readsAll_b (l : Launch) (D : va_G) (tc : Nat → ClassId) (sk : (Nat → Nat) × (Nat → Nat)) (Ma : Nat → Nat) (Mv : Nat → Int32) (Mf : Nat → Nat → Int32) (Mj : Nat → Int64) (h_tp : 0 ≤ ((Mv 0) : Int32).toInt ∧ ((Mv 0) : Int32).toInt ≤ 400) (h_ro : RdO (Mf 6)) (h_bs : ByS (Mf 1)) (h_z0 : ((Mf 6) 0).toInt = 0 ∧ ((Mf 6) 2).toInt = 0 ∧ ((Mf 6) 3).toInt = 0) : Ct l yX12_readsAll cX12_readsAll 2 (some .boolean) { frames := 6, cells := 0, slots := 0, locals := 137 } D tc sk [.ref (Ma 0)] [((Ma 0), .inr (12, [.ref (Ma 1), .int (Mv 0), .int (Mv 1), .ref (Ma 2), .ref (Ma 3), .ref (Ma 4), .ref (Ma 5), .ref (Ma 6), .int (Mv 2), .int (Mv 3), .int (Mv 4), .int 6, .int (Mv 6), .int (Mv 7), .int (Mv 8), .ref (Ma 7), .int (Mv 9), .ref (Ma 8), .int (Mv 10), .ref (Ma 9), .ref (Ma 10), .int (Mv 11), .int (Mv 12), .int (Mv 13), .ref (Ma 11), .int (Mv 14), .ref (Ma 12), .ref (Ma 13), .ref (Ma 14), .ref (Ma 15), .ref (Ma 16), .long (Mj 0), .ref (Ma 17), .ref (Ma 18), .ref (Ma 19), .ref (Ma 20)])), ((Ma 1), .inl (tc 2, 400, .inl (Mf 1))), ((Ma 3), .inl (tc 0, 7, .inl (Mf 3))), ((Ma 6), .inl (tc 0, 95, .inl (Mf 6)))] (fun (v : Option Value) (u : (Int32) × (Int32) × (Int32) × (Int32) × (Nat → Int32) × (Nat → Int32)) => match u with | (oo0x1, oo0x2, oo0x3, oo0x4, oo0x5, oo0x6) => ∃ r : Int32, v = some (.int r) ∧ (((r.toInt = 0 ∧ ¬ (oo0x2 : Int32).toInt = 0) ∨ (r.toInt = 1 ∧ (oo0x2 : Int32).toInt = 0))) ∧ (BkR (rB (Mf 1) (Mv 0)) oo0x2 (oo0x6 3)) ∧ (r.toInt = 1 → (RdO oo0x6))) (fun (u : (Int32) × (Int32) × (Int32) × (Int32) × (Nat → Int32) × (Nat → Int32)) => match u with | (oo0x1, oo0x2, oo0x3, oo0x4, oo0x5, oo0x6) => [((Ma 0), .inr (12, [.ref (Ma 1), .int 0, .int (Mv 1), .ref (Ma 2), .ref (Ma 3), .ref (Ma 4), .ref (Ma 5), .ref (Ma 6), .int oo0x1, .int oo0x2, .int oo0x3, .int 6, .int 0, .int (Mv 7), .int oo0x4, .ref (Ma 7), .int (Mv 9), .ref (Ma 8), .int (Mv 10), .ref (Ma 9), .ref (Ma 10), .int (Mv 11), .int (Mv 12), .int (Mv 13), .ref (Ma 11), .int (Mv 14), .ref (Ma 12), .ref (Ma 13), .ref (Ma 14), .ref (Ma 15), .ref (Ma 16), .long (Mj 0), .ref (Ma 17), .ref (Ma 18), .ref (Ma 19), .ref (Ma 20)])), ((Ma 1), .inl (tc 2, 400, .inl (Mf 1))), ((Ma 3), .inl (tc 0, 7, .inl oo0x5)), ((Ma 6), .inl (tc 0, 95, .inl oo0x6))]) 0 0 := by
  refine Ct.start (by decide) (Nat.le_of_ble_eq_true rfl) (fun p e s m below meth c A ls hx hb hr hlk hin hml hown hts hK hX hP hD hA hl hS => ?_)
  have hl : lv_has ls 2 [(0, .ref (Ma 0))] := hl
  have ar_h_ro := RdO.ar h_ro
  refine lv_aload_n hx hb dX12_readsAll_0 rfl (lv_at hl 0 rfl) ?_
  refine gf_X12_17 hx hb hts hown hK hP 0 rfl rfl dX12_readsAll_1 ?_
  refine lv_aload_n hx hb dX12_readsAll_4 rfl (lv_at hl 0 rfl) ?_
  refine gf_X12_145 hx hb hts hown hK hP 0 rfl rfl dX12_readsAll_5 ?_
  refine lv_iconst (v := 0) hx hb dX12_readsAll_8 (by decide) ?_
  refine st_int hx hb hK hP hD hS 2 0 rfl rfl (vin_dec (by decide +kernel)) dX12_readsAll_9 (fun g_1 H locs eg_1 hP₀ hD₀ hS₀ => ?_)
  replace hP : va_P D classes [((Ma 0), .inr (12, [.ref (Ma 1), .int (Mv 0), .int (Mv 1), .ref (Ma 2), .ref (Ma 3), .ref (Ma 4), .ref (Ma 5), .ref (Ma 6), .int (Mv 2), .int (Mv 3), .int (Mv 4), .int 6, .int (Mv 6), .int (Mv 7), .int (Mv 8), .ref (Ma 7), .int (Mv 9), .ref (Ma 8), .int (Mv 10), .ref (Ma 9), .ref (Ma 10), .int (Mv 11), .int (Mv 12), .int (Mv 13), .ref (Ma 11), .int (Mv 14), .ref (Ma 12), .ref (Ma 13), .ref (Ma 14), .ref (Ma 15), .ref (Ma 16), .long (Mj 0), .ref (Ma 17), .ref (Ma 18), .ref (Ma 19), .ref (Ma 20)])), ((Ma 1), .inl (tc 2, 400, .inl (Mf 1))), ((Ma 3), .inl (tc 0, 7, .inl g_1)), ((Ma 6), .inl (tc 0, 95, .inl (Mf 6)))] H := hP₀
  replace hD : va_D A [((Ma 0), .inr (12, [.ref (Ma 1), .int (Mv 0), .int (Mv 1), .ref (Ma 2), .ref (Ma 3), .ref (Ma 4), .ref (Ma 5), .ref (Ma 6), .int (Mv 2), .int (Mv 3), .int (Mv 4), .int 6, .int (Mv 6), .int (Mv 7), .int (Mv 8), .ref (Ma 7), .int (Mv 9), .ref (Ma 8), .int (Mv 10), .ref (Ma 9), .ref (Ma 10), .int (Mv 11), .int (Mv 12), .int (Mv 13), .ref (Ma 11), .int (Mv 14), .ref (Ma 12), .ref (Ma 13), .ref (Ma 14), .ref (Ma 15), .ref (Ma 16), .long (Mj 0), .ref (Ma 17), .ref (Ma 18), .ref (Ma 19), .ref (Ma 20)])), ((Ma 1), .inl (tc 2, 400, .inl (Mf 1))), ((Ma 3), .inl (tc 0, 7, .inl g_1)), ((Ma 6), .inl (tc 0, 95, .inl (Mf 6)))] := hD₀
  replace hS := hS₀
  clear hP₀ hD₀ hS₀
  refine lv_aload_n hx hb dX12_readsAll_10 rfl (lv_at hl 0 rfl) ?_
  refine lv_iconst (v := 0) hx hb dX12_readsAll_11 (by decide) ?_
  refine pf_X12_244 hx hb hts hown hK hP hD hS 0 rfl (Nat.le_of_ble_eq_true rfl) rfl rfl dX12_readsAll_12 (fun H locs hP₀ hD₀ hS₀ => ?_)
  replace hP : va_P D classes [((Ma 0), .inr (12, [.ref (Ma 1), .int (Mv 0), .int (Mv 1), .ref (Ma 2), .ref (Ma 3), .ref (Ma 4), .ref (Ma 5), .ref (Ma 6), .int (Mv 2), .int (Mv 3), .int (Mv 4), .int 6, .int (Mv 6), .int (Mv 7), .int 0, .ref (Ma 7), .int (Mv 9), .ref (Ma 8), .int (Mv 10), .ref (Ma 9), .ref (Ma 10), .int (Mv 11), .int (Mv 12), .int (Mv 13), .ref (Ma 11), .int (Mv 14), .ref (Ma 12), .ref (Ma 13), .ref (Ma 14), .ref (Ma 15), .ref (Ma 16), .long (Mj 0), .ref (Ma 17), .ref (Ma 18), .ref (Ma 19), .ref (Ma 20)])), ((Ma 1), .inl (tc 2, 400, .inl (Mf 1))), ((Ma 3), .inl (tc 0, 7, .inl g_1)), ((Ma 6), .inl (tc 0, 95, .inl (Mf 6)))] H := hP₀
  replace hD : va_D A [((Ma 0), .inr (12, [.ref (Ma 1), .int (Mv 0), .int (Mv 1), .ref (Ma 2), .ref (Ma 3), .ref (Ma 4), .ref (Ma 5), .ref (Ma 6), .int (Mv 2), .int (Mv 3), .int (Mv 4), .int 6, .int (Mv 6), .int (Mv 7), .int 0, .ref (Ma 7), .int (Mv 9), .ref (Ma 8), .int (Mv 10), .ref (Ma 9), .ref (Ma 10), .int (Mv 11), .int (Mv 12), .int (Mv 13), .ref (Ma 11), .int (Mv 14), .ref (Ma 12), .ref (Ma 13), .ref (Ma 14), .ref (Ma 15), .ref (Ma 16), .long (Mj 0), .ref (Ma 17), .ref (Ma 18), .ref (Ma 19), .ref (Ma 20)])), ((Ma 1), .inl (tc 2, 400, .inl (Mf 1))), ((Ma 3), .inl (tc 0, 7, .inl g_1)), ((Ma 6), .inl (tc 0, 95, .inl (Mf 6)))] := hD₀
  replace hS := hS₀
  clear hP₀ hD₀ hS₀
  refine lv_aload_n hx hb dX12_readsAll_15 rfl (lv_at hl 0 rfl) ?_
  refine lv_iconst (v := 0) hx hb dX12_readsAll_16 (by decide) ?_
  refine pf_X12_87 hx hb hts hown hK hP hD hS 0 rfl (Nat.le_of_ble_eq_true rfl) rfl rfl dX12_readsAll_17 (fun H locs hP₀ hD₀ hS₀ => ?_)
  replace hP : va_P D classes [((Ma 0), .inr (12, [.ref (Ma 1), .int (Mv 0), .int (Mv 1), .ref (Ma 2), .ref (Ma 3), .ref (Ma 4), .ref (Ma 5), .ref (Ma 6), .int 0, .int (Mv 3), .int (Mv 4), .int 6, .int (Mv 6), .int (Mv 7), .int 0, .ref (Ma 7), .int (Mv 9), .ref (Ma 8), .int (Mv 10), .ref (Ma 9), .ref (Ma 10), .int (Mv 11), .int (Mv 12), .int (Mv 13), .ref (Ma 11), .int (Mv 14), .ref (Ma 12), .ref (Ma 13), .ref (Ma 14), .ref (Ma 15), .ref (Ma 16), .long (Mj 0), .ref (Ma 17), .ref (Ma 18), .ref (Ma 19), .ref (Ma 20)])), ((Ma 1), .inl (tc 2, 400, .inl (Mf 1))), ((Ma 3), .inl (tc 0, 7, .inl g_1)), ((Ma 6), .inl (tc 0, 95, .inl (Mf 6)))] H := hP₀
  replace hD : va_D A [((Ma 0), .inr (12, [.ref (Ma 1), .int (Mv 0), .int (Mv 1), .ref (Ma 2), .ref (Ma 3), .ref (Ma 4), .ref (Ma 5), .ref (Ma 6), .int 0, .int (Mv 3), .int (Mv 4), .int 6, .int (Mv 6), .int (Mv 7), .int 0, .ref (Ma 7), .int (Mv 9), .ref (Ma 8), .int (Mv 10), .ref (Ma 9), .ref (Ma 10), .int (Mv 11), .int (Mv 12), .int (Mv 13), .ref (Ma 11), .int (Mv 14), .ref (Ma 12), .ref (Ma 13), .ref (Ma 14), .ref (Ma 15), .ref (Ma 16), .long (Mj 0), .ref (Ma 17), .ref (Ma 18), .ref (Ma 19), .ref (Ma 20)])), ((Ma 1), .inl (tc 2, 400, .inl (Mf 1))), ((Ma 3), .inl (tc 0, 7, .inl g_1)), ((Ma 6), .inl (tc 0, 95, .inl (Mf 6)))] := hD₀
  replace hS := hS₀
  clear hP₀ hD₀ hS₀
  refine lv_aload_n hx hb dX12_readsAll_20 rfl (lv_at hl 0 rfl) ?_
  refine lv_iconst (v := 0) hx hb dX12_readsAll_21 (by decide) ?_
  refine pf_X12_84 hx hb hts hown hK hP hD hS 0 rfl (Nat.le_of_ble_eq_true rfl) rfl rfl dX12_readsAll_22 (fun H locs hP₀ hD₀ hS₀ => ?_)
  replace hP : va_P D classes [((Ma 0), .inr (12, [.ref (Ma 1), .int (Mv 0), .int (Mv 1), .ref (Ma 2), .ref (Ma 3), .ref (Ma 4), .ref (Ma 5), .ref (Ma 6), .int 0, .int 0, .int (Mv 4), .int 6, .int (Mv 6), .int (Mv 7), .int 0, .ref (Ma 7), .int (Mv 9), .ref (Ma 8), .int (Mv 10), .ref (Ma 9), .ref (Ma 10), .int (Mv 11), .int (Mv 12), .int (Mv 13), .ref (Ma 11), .int (Mv 14), .ref (Ma 12), .ref (Ma 13), .ref (Ma 14), .ref (Ma 15), .ref (Ma 16), .long (Mj 0), .ref (Ma 17), .ref (Ma 18), .ref (Ma 19), .ref (Ma 20)])), ((Ma 1), .inl (tc 2, 400, .inl (Mf 1))), ((Ma 3), .inl (tc 0, 7, .inl g_1)), ((Ma 6), .inl (tc 0, 95, .inl (Mf 6)))] H := hP₀
  replace hD : va_D A [((Ma 0), .inr (12, [.ref (Ma 1), .int (Mv 0), .int (Mv 1), .ref (Ma 2), .ref (Ma 3), .ref (Ma 4), .ref (Ma 5), .ref (Ma 6), .int 0, .int 0, .int (Mv 4), .int 6, .int (Mv 6), .int (Mv 7), .int 0, .ref (Ma 7), .int (Mv 9), .ref (Ma 8), .int (Mv 10), .ref (Ma 9), .ref (Ma 10), .int (Mv 11), .int (Mv 12), .int (Mv 13), .ref (Ma 11), .int (Mv 14), .ref (Ma 12), .ref (Ma 13), .ref (Ma 14), .ref (Ma 15), .ref (Ma 16), .long (Mj 0), .ref (Ma 17), .ref (Ma 18), .ref (Ma 19), .ref (Ma 20)])), ((Ma 1), .inl (tc 2, 400, .inl (Mf 1))), ((Ma 3), .inl (tc 0, 7, .inl g_1)), ((Ma 6), .inl (tc 0, 95, .inl (Mf 6)))] := hD₀
  replace hS := hS₀
  clear hP₀ hD₀ hS₀
  refine lv_aload_n hx hb dX12_readsAll_25 rfl (lv_at hl 0 rfl) ?_
  refine lv_iconst (v := 0) hx hb dX12_readsAll_26 (by decide) ?_
  refine pf_X12_148 hx hb hts hown hK hP hD hS 0 rfl (Nat.le_of_ble_eq_true rfl) rfl rfl dX12_readsAll_27 (fun H locs hP₀ hD₀ hS₀ => ?_)
  replace hP : va_P D classes [((Ma 0), .inr (12, [.ref (Ma 1), .int (Mv 0), .int (Mv 1), .ref (Ma 2), .ref (Ma 3), .ref (Ma 4), .ref (Ma 5), .ref (Ma 6), .int 0, .int 0, .int (Mv 4), .int 6, .int 0, .int (Mv 7), .int 0, .ref (Ma 7), .int (Mv 9), .ref (Ma 8), .int (Mv 10), .ref (Ma 9), .ref (Ma 10), .int (Mv 11), .int (Mv 12), .int (Mv 13), .ref (Ma 11), .int (Mv 14), .ref (Ma 12), .ref (Ma 13), .ref (Ma 14), .ref (Ma 15), .ref (Ma 16), .long (Mj 0), .ref (Ma 17), .ref (Ma 18), .ref (Ma 19), .ref (Ma 20)])), ((Ma 1), .inl (tc 2, 400, .inl (Mf 1))), ((Ma 3), .inl (tc 0, 7, .inl g_1)), ((Ma 6), .inl (tc 0, 95, .inl (Mf 6)))] H := hP₀
  replace hD : va_D A [((Ma 0), .inr (12, [.ref (Ma 1), .int (Mv 0), .int (Mv 1), .ref (Ma 2), .ref (Ma 3), .ref (Ma 4), .ref (Ma 5), .ref (Ma 6), .int 0, .int 0, .int (Mv 4), .int 6, .int 0, .int (Mv 7), .int 0, .ref (Ma 7), .int (Mv 9), .ref (Ma 8), .int (Mv 10), .ref (Ma 9), .ref (Ma 10), .int (Mv 11), .int (Mv 12), .int (Mv 13), .ref (Ma 11), .int (Mv 14), .ref (Ma 12), .ref (Ma 13), .ref (Ma 14), .ref (Ma 15), .ref (Ma 16), .long (Mj 0), .ref (Ma 17), .ref (Ma 18), .ref (Ma 19), .ref (Ma 20)])), ((Ma 1), .inl (tc 2, 400, .inl (Mf 1))), ((Ma 3), .inl (tc 0, 7, .inl g_1)), ((Ma 6), .inl (tc 0, 95, .inl (Mf 6)))] := hD₀
  replace hS := hS₀
  clear hP₀ hD₀ hS₀
  refine lv_aload_n hx hb dX12_readsAll_30 rfl (lv_at hl 0 rfl) ?_
  have ha_2 : 0 ≤ ((0 : Int32) : Int32).toInt ∧ ((0 : Int32) : Int32).toInt ≤ ((Mv 0) : Int32).toInt ∧ ((Mv 0) : Int32).toInt ≤ 400 := by
    have y_0 : (0 : Int32).toInt = 0 := by decide
    omega
  have ha_3 : ((0 : Int32) : Int32).toInt = 0 := by
    have y_0 : (0 : Int32).toInt = 0 := by decide
    omega
  have ha_4 : ((((Mf 6) 0).toInt = 0 ∧ (0 : Int32).toInt = 0) ∨ (((Mf 6) 0).toInt = 1 ∧ 1 ≤ (0 : Int32).toInt ∧ (0 : Int32).toInt ≤ 40)) := by
    have y_0 : (0 : Int32).toInt = 0 := by decide
    omega
  refine cV (a := (Ma 0)) (As := []) (rest := []) (wr := []) ⟨hx, hb, hml, hown, hts⟩ hK hX hA (cu_fX12_clauseHere_b l D tc sk (Ma 0) (Ma 1) (Ma 2) (Ma 3) (Ma 4) (Ma 5) (Ma 6) (Ma 7) (Ma 8) (Ma 9) (Ma 10) (Ma 11) (Ma 12) (Ma 13) (Ma 14) (Ma 15) (Ma 16) (Ma 17) (Ma 18) (Ma 19) (Ma 20) (Mv 0) (Mv 1) 0 0 (Mv 4) 0 (Mv 7) 0 (Mv 9) (Mv 10) (Mv 11) (Mv 12) (Mv 13) (Mv 14) (Mf 1) g_1 (Mf 6) (Mj 0) ha_2 h_ro h_bs ha_3 ha_4) k_1207 k_1204 k_1206 k_26 k_106 pl_X12_clauseHere ⟨Nat.le_of_ble_eq_true rfl, Nat.le_of_ble_eq_true rfl⟩ rfl rfl (va_recv hK hP (ci := 12) (q0 := 0) rfl rfl) hP hD hS [0, 1, 2, 3] [] rfl rfl rfl rfl rfl (by decide) rfl hl.1 rfl (Nat.le_of_ble_eq_true rfl) dX12_readsAll_31 ⟨Nat.le_of_ble_eq_true rfl, Nat.le_of_ble_eq_true rfl⟩ (fun v_5 u_6 H locs hv_7 hP₀ hD₀ hS₀ => ?_)
  obtain ⟨sv_8, sv_9, sv_10, sv_11, sv_12⟩ := u_6
  obtain ⟨r_14, rfl, he_15, pf_13, hm_17, hm_18⟩ := hv_7
  have he_15 : ((r_14.toInt = 0 ∧ ¬ (sv_9 : Int32).toInt = 0) ∨ (r_14.toInt = 1 ∧ (sv_12 0).toInt = 1 ∧ (sv_9 : Int32).toInt = 0 ∧ (sv_11 : Int32).toInt = (0 : Int32).toInt + 1 ∧ (sv_11 : Int32).toInt ≤ 40)) := he_15
  have yl_he_15_0 : (0 : Int32).toInt = 0 := by decide
  have pf_13 : ((0 : Int32) : Int32).toInt ≤ (sv_8 : Int32).toInt ∧ (sv_8 : Int32).toInt ≤ ((Mv 0) : Int32).toInt := pf_13
  refine W.eq (g2 := F0 m 34 ls [.int r_14]) rfl ?_
  replace hP : va_P D classes [((Ma 0), .inr (12, [.ref (Ma 1), .int (Mv 0), .int (Mv 1), .ref (Ma 2), .ref (Ma 3), .ref (Ma 4), .ref (Ma 5), .ref (Ma 6), .int sv_8, .int sv_9, .int sv_10, .int 6, .int 0, .int (Mv 7), .int sv_11, .ref (Ma 7), .int (Mv 9), .ref (Ma 8), .int (Mv 10), .ref (Ma 9), .ref (Ma 10), .int (Mv 11), .int (Mv 12), .int (Mv 13), .ref (Ma 11), .int (Mv 14), .ref (Ma 12), .ref (Ma 13), .ref (Ma 14), .ref (Ma 15), .ref (Ma 16), .long (Mj 0), .ref (Ma 17), .ref (Ma 18), .ref (Ma 19), .ref (Ma 20)])), ((Ma 1), .inl (tc 2, 400, .inl (Mf 1))), ((Ma 3), .inl (tc 0, 7, .inl g_1)), ((Ma 6), .inl (tc 0, 95, .inl sv_12))] H := hP₀
  replace hD : va_D A [((Ma 0), .inr (12, [.ref (Ma 1), .int (Mv 0), .int (Mv 1), .ref (Ma 2), .ref (Ma 3), .ref (Ma 4), .ref (Ma 5), .ref (Ma 6), .int sv_8, .int sv_9, .int sv_10, .int 6, .int 0, .int (Mv 7), .int sv_11, .ref (Ma 7), .int (Mv 9), .ref (Ma 8), .int (Mv 10), .ref (Ma 9), .ref (Ma 10), .int (Mv 11), .int (Mv 12), .int (Mv 13), .ref (Ma 11), .int (Mv 14), .ref (Ma 12), .ref (Ma 13), .ref (Ma 14), .ref (Ma 15), .ref (Ma 16), .long (Mj 0), .ref (Ma 17), .ref (Ma 18), .ref (Ma 19), .ref (Ma 20)])), ((Ma 1), .inl (tc 2, 400, .inl (Mf 1))), ((Ma 3), .inl (tc 0, 7, .inl g_1)), ((Ma 6), .inl (tc 0, 95, .inl sv_12))] := hD₀
  replace hS := hS₀
  clear hP₀ hD₀ hS₀
  refine lv_istore_n (lv' := [(1, .int r_14), (0, .ref (Ma 0))]) hx hb dX12_readsAll_34 rfl hl (by decide) rfl (fun ls hl₀ => ?_)
  replace hl := hl₀
  clear hl₀
  have loop_33 : ∀ (n_31 : Nat) (vy_25 : Int32) (vy_26 : Int32) (vy_27 : Int32) (vy_28 : Int32) (vy_29 : Int32) (vy_30 : Nat → Int32) (H : Heap) (locs : List Loc) (ls : Array Slot), (2 * (401 - (vy_26 : Int32).toInt) + (vy_25 : Int32).toInt).toNat < n_31 → (0 ≤ (vy_26 : Int32).toInt ∧ (vy_26 : Int32).toInt ≤ ((Mv 0) : Int32).toInt ∧ ((Mv 0) : Int32).toInt ≤ 400) → ((((vy_25 : Int32).toInt = 0 ∧ ¬ (vy_27 : Int32).toInt = 0) ∨ ((vy_25 : Int32).toInt = 1 ∧ (vy_30 0).toInt = 1 ∧ (vy_27 : Int32).toInt = 0 ∧ 1 ≤ (vy_29 : Int32).toInt ∧ (vy_29 : Int32).toInt ≤ 40))) → (RdG vy_30 vy_25) → (BaL (rB (Mf 1) (Mv 0)) vy_26 vy_29 vy_27 vy_25 (vy_30 2) (vy_30 3)) → va_P D classes [((Ma 0), .inr (12, [.ref (Ma 1), .int (Mv 0), .int (Mv 1), .ref (Ma 2), .ref (Ma 3), .ref (Ma 4), .ref (Ma 5), .ref (Ma 6), .int vy_26, .int vy_27, .int vy_28, .int 6, .int 0, .int (Mv 7), .int vy_29, .ref (Ma 7), .int (Mv 9), .ref (Ma 8), .int (Mv 10), .ref (Ma 9), .ref (Ma 10), .int (Mv 11), .int (Mv 12), .int (Mv 13), .ref (Ma 11), .int (Mv 14), .ref (Ma 12), .ref (Ma 13), .ref (Ma 14), .ref (Ma 15), .ref (Ma 16), .long (Mj 0), .ref (Ma 17), .ref (Ma 18), .ref (Ma 19), .ref (Ma 20)])), ((Ma 1), .inl (tc 2, 400, .inl (Mf 1))), ((Ma 3), .inl (tc 0, 7, .inl g_1)), ((Ma 6), .inl (tc 0, 95, .inl vy_30))] H → va_D A [((Ma 0), .inr (12, [.ref (Ma 1), .int (Mv 0), .int (Mv 1), .ref (Ma 2), .ref (Ma 3), .ref (Ma 4), .ref (Ma 5), .ref (Ma 6), .int vy_26, .int vy_27, .int vy_28, .int 6, .int 0, .int (Mv 7), .int vy_29, .ref (Ma 7), .int (Mv 9), .ref (Ma 8), .int (Mv 10), .ref (Ma 9), .ref (Ma 10), .int (Mv 11), .int (Mv 12), .int (Mv 13), .ref (Ma 11), .int (Mv 14), .ref (Ma 12), .ref (Ma 13), .ref (Ma 14), .ref (Ma 15), .ref (Ma 16), .long (Mj 0), .ref (Ma 17), .ref (Ma 18), .ref (Ma 19), .ref (Ma 20)])), ((Ma 1), .inl (tc 2, 400, .inl (Mf 1))), ((Ma 3), .inl (tc 0, 7, .inl g_1)), ((Ma 6), .inl (tc 0, 95, .inl vy_30))] → va_S A s.heap H locs → lv_has ls 2 [(1, .int vy_25), (0, .ref (Ma 0))] → W p l e ({ frames := 6, cells := 0, slots := 0, locals := 137 }) s m ([.ref (Ma 0)].toArray) below meth c H locs 0 0 (MQ below (QW (fun (v : Option Value) (u : (Int32) × (Int32) × (Int32) × (Int32) × (Nat → Int32) × (Nat → Int32)) => match u with | (oo0x1, oo0x2, oo0x3, oo0x4, oo0x5, oo0x6) => ∃ r : Int32, v = some (.int r) ∧ (((r.toInt = 0 ∧ ¬ (oo0x2 : Int32).toInt = 0) ∨ (r.toInt = 1 ∧ (oo0x2 : Int32).toInt = 0))) ∧ (BkR (rB (Mf 1) (Mv 0)) oo0x2 (oo0x6 3)) ∧ (r.toInt = 1 → (RdO oo0x6))) (BW D (fun (u : (Int32) × (Int32) × (Int32) × (Int32) × (Nat → Int32) × (Nat → Int32)) => match u with | (oo0x1, oo0x2, oo0x3, oo0x4, oo0x5, oo0x6) => [((Ma 0), .inr (12, [.ref (Ma 1), .int 0, .int (Mv 1), .ref (Ma 2), .ref (Ma 3), .ref (Ma 4), .ref (Ma 5), .ref (Ma 6), .int oo0x1, .int oo0x2, .int oo0x3, .int 6, .int 0, .int (Mv 7), .int oo0x4, .ref (Ma 7), .int (Mv 9), .ref (Ma 8), .int (Mv 10), .ref (Ma 9), .ref (Ma 10), .int (Mv 11), .int (Mv 12), .int (Mv 13), .ref (Ma 11), .int (Mv 14), .ref (Ma 12), .ref (Ma 13), .ref (Ma 14), .ref (Ma 15), .ref (Ma 16), .long (Mj 0), .ref (Ma 17), .ref (Ma 18), .ref (Ma 19), .ref (Ma 20)])), ((Ma 1), .inl (tc 2, 400, .inl (Mf 1))), ((Ma 3), .inl (tc 0, 7, .inl oo0x5)), ((Ma 6), .inl (tc 0, 95, .inl oo0x6))]) A) A) ([.ref (Ma 0)].toArray) s 0 0 A) (F0 m 35 ls []) := by
    clear hP hD hS hl
    intro n_31
    induction n_31 with
    | zero =>
      intro vy_25 vy_26 vy_27 vy_28 vy_29 vy_30 H locs ls h1
      exact absurd h1 (Nat.not_lt_zero _)
    | succ n_31 ih_32 =>
      intro vy_25 vy_26 vy_27 vy_28 vy_29 vy_30 H locs ls hn_38 pf_34 pf_35 pf_36 pf_37 hP hD hS hl
      refine lv_iload_n hx hb dX12_readsAll_35 rfl (lv_at hl 0 rfl) ?_
      refine lv_if_eq (tgt := 66) hx hb dX12_readsAll_36 (by decide) (fun c_39 => ?_) (fun c_39 => ?_)
      · skip
        refine lv_iload_n hx hb dX12_readsAll_66 rfl (lv_at hl 0 rfl) ?_
        refine lv_if_eq (tgt := 88) hx hb dX12_readsAll_67 (by decide) (fun c_40 => ?_) (fun c_40 => ?_)
        · skip
          refine lv_aload_n hx hb dX12_readsAll_88 rfl (lv_at hl 1 rfl) ?_
          refine lv_iconst (v := 0) hx hb dX12_readsAll_89 (by decide) ?_
          refine pf_X12_77 hx hb hts hown hK hP hD hS 0 rfl (Nat.le_of_ble_eq_true rfl) rfl rfl dX12_readsAll_90 (fun H locs hP₀ hD₀ hS₀ => ?_)
          replace hP : va_P D classes [((Ma 0), .inr (12, [.ref (Ma 1), .int 0, .int (Mv 1), .ref (Ma 2), .ref (Ma 3), .ref (Ma 4), .ref (Ma 5), .ref (Ma 6), .int vy_26, .int vy_27, .int vy_28, .int 6, .int 0, .int (Mv 7), .int vy_29, .ref (Ma 7), .int (Mv 9), .ref (Ma 8), .int (Mv 10), .ref (Ma 9), .ref (Ma 10), .int (Mv 11), .int (Mv 12), .int (Mv 13), .ref (Ma 11), .int (Mv 14), .ref (Ma 12), .ref (Ma 13), .ref (Ma 14), .ref (Ma 15), .ref (Ma 16), .long (Mj 0), .ref (Ma 17), .ref (Ma 18), .ref (Ma 19), .ref (Ma 20)])), ((Ma 1), .inl (tc 2, 400, .inl (Mf 1))), ((Ma 3), .inl (tc 0, 7, .inl g_1)), ((Ma 6), .inl (tc 0, 95, .inl vy_30))] H := hP₀
          replace hD : va_D A [((Ma 0), .inr (12, [.ref (Ma 1), .int 0, .int (Mv 1), .ref (Ma 2), .ref (Ma 3), .ref (Ma 4), .ref (Ma 5), .ref (Ma 6), .int vy_26, .int vy_27, .int vy_28, .int 6, .int 0, .int (Mv 7), .int vy_29, .ref (Ma 7), .int (Mv 9), .ref (Ma 8), .int (Mv 10), .ref (Ma 9), .ref (Ma 10), .int (Mv 11), .int (Mv 12), .int (Mv 13), .ref (Ma 11), .int (Mv 14), .ref (Ma 12), .ref (Ma 13), .ref (Ma 14), .ref (Ma 15), .ref (Ma 16), .long (Mj 0), .ref (Ma 17), .ref (Ma 18), .ref (Ma 19), .ref (Ma 20)])), ((Ma 1), .inl (tc 2, 400, .inl (Mf 1))), ((Ma 3), .inl (tc 0, 7, .inl g_1)), ((Ma 6), .inl (tc 0, 95, .inl vy_30))] := hD₀
          replace hS := hS₀
          clear hP₀ hD₀ hS₀
          refine lv_aload_n hx hb dX12_readsAll_93 rfl (lv_at hl 1 rfl) ?_
          refine gf_X12_84 hx hb hts hown hK hP 0 rfl rfl dX12_readsAll_94 ?_
          refine lv_if_ne (tgt := 104) hx hb dX12_readsAll_97 (by decide) (fun c_41 => ?_) (fun c_41 => ?_)
          · skip
            refine lv_iconst (v := 0) hx hb dX12_readsAll_104 (by decide) ?_
            have hr_42 : (vy_25 : Int32).toInt = 0 := by
              have z_1 := congrArg Int32.toInt c_39
              have z_2 := congrArg Int32.toInt c_40
              have z_3 : ¬ (vy_27 : Int32).toInt = (0 : Int32).toInt := fun z => c_41 (Int32.toInt_inj.mp z)
              have y_0 : (0 : Int32).toInt = 0 := by decide
              omega
            have hr_43 : ¬ (vy_27 : Int32).toInt = 0 := by
              have z_1 := congrArg Int32.toInt c_39
              have z_2 := congrArg Int32.toInt c_40
              have z_3 : ¬ (vy_27 : Int32).toInt = (0 : Int32).toInt := fun z => c_41 (Int32.toInt_inj.mp z)
              have y_0 : (0 : Int32).toInt = 0 := by decide
              omega
            have hp_44 : (((0 : Int32).toInt = 0 ∧ ¬ (vy_27 : Int32).toInt = 0) ∨ ((0 : Int32).toInt = 1 ∧ (vy_27 : Int32).toInt = 0)) := by
              have z_1 := congrArg Int32.toInt c_39
              have z_2 := congrArg Int32.toInt c_40
              have z_3 : ¬ (vy_27 : Int32).toInt = (0 : Int32).toInt := fun z => c_41 (Int32.toInt_inj.mp z)
              have y_0 : (0 : Int32).toInt = 0 := by decide
              omega
            exact retI (v := 0) hx hb hr hlk (rfl) hP hD hS (vy_26, vy_27, vy_28, vy_29, g_1, vy_30) ⟨_, rfl, hp_44, (BkR.rbad pf_37 hr_42 hr_43), (fun h => absurd h (by decide))⟩ [0, 1, 2, 3] rfl rfl dX12_readsAll_105 (Nat.le_of_ble_eq_true rfl) (Nat.le_of_ble_eq_true rfl) rfl
          · skip
            refine lv_iconst (v := 1) hx hb dX12_readsAll_100 (by decide) ?_
            refine lv_goto (tgt := 105) hx hb dX12_readsAll_101 (by decide) ?_
            have hr_45 : (vy_25 : Int32).toInt = 0 := by
              have z_1 := congrArg Int32.toInt c_39
              have z_2 := congrArg Int32.toInt c_40
              have z_3 := congrArg Int32.toInt c_41
              have y_0 : (0 : Int32).toInt = 0 := by decide
              omega
            have hr_46 : ¬ (vy_27 : Int32).toInt = 0 := by
              have z_1 := congrArg Int32.toInt c_39
              have z_2 := congrArg Int32.toInt c_40
              have z_3 := congrArg Int32.toInt c_41
              have y_0 : (0 : Int32).toInt = 0 := by decide
              omega
            have hp_47 : (((1 : Int32).toInt = 0 ∧ ¬ (vy_27 : Int32).toInt = 0) ∨ ((1 : Int32).toInt = 1 ∧ (vy_27 : Int32).toInt = 0)) := by
              have z_1 := congrArg Int32.toInt c_39
              have z_2 := congrArg Int32.toInt c_40
              have z_3 := congrArg Int32.toInt c_41
              have y_0 : (0 : Int32).toInt = 0 := by decide
              have y_1 : (1 : Int32).toInt = 1 := by decide
              have yr : (1 : Int32).toInt = 1 := by decide
              omega
            have hm_48 : (1 : Int32).toInt = 1 → (RdO vy_30) := by
              intro h1r
              have hf_49 : False := by
                have z_1 := congrArg Int32.toInt c_39
                have z_2 := congrArg Int32.toInt c_40
                have z_3 := congrArg Int32.toInt c_41
                have y_0 : (0 : Int32).toInt = 0 := by decide
                omega
              exact (hf_49.elim)
            exact retI (v := 1) hx hb hr hlk (rfl) hP hD hS (vy_26, vy_27, vy_28, vy_29, g_1, vy_30) ⟨_, rfl, hp_47, (BkR.rbad pf_37 hr_45 hr_46), hm_48⟩ [0, 1, 2, 3] rfl rfl dX12_readsAll_105 (Nat.le_of_ble_eq_true rfl) (Nat.le_of_ble_eq_true rfl) rfl
        · skip
          exfalso
          have z_1 := congrArg Int32.toInt c_39
          have z_2 : ¬ (vy_25 : Int32).toInt = (0 : Int32).toInt := fun z => c_40 (Int32.toInt_inj.mp z)
          have y_0 : (0 : Int32).toInt = 0 := by decide
          omega
      · skip
        have hr_51 : (vy_25 : Int32).toInt = 1 := by
          have z_1 : ¬ (vy_25 : Int32).toInt = (0 : Int32).toInt := fun z => c_39 (Int32.toInt_inj.mp z)
          have y_0 : (0 : Int32).toInt = 0 := by decide
          omega
        have pf_50 : RdO vy_30 := pf_36 hr_51
        have ar_pf_50 := RdO.ar pf_50
        refine lv_aload_n hx hb dX12_readsAll_39 rfl (lv_at hl 1 rfl) ?_
        refine cV (a := (Ma 0)) (As := []) (rest := []) (wr := [((Ma 3), .inl (tc 0, 7, .inl g_1)), ((Ma 6), .inl (tc 0, 95, .inl vy_30))]) ⟨hx, hb, hml, hown, hts⟩ hK hX hA (cu_fX12_see l D tc sk (Ma 0) (Ma 1) (Ma 2) (Ma 3) (Ma 4) (Ma 5) (Ma 6) (Ma 7) (Ma 8) (Ma 9) (Ma 10) (Ma 11) (Ma 12) (Ma 13) (Ma 14) (Ma 15) (Ma 16) (Ma 17) (Ma 18) (Ma 19) (Ma 20) (Mv 0) (Mv 1) vy_26 vy_27 vy_28 6 0 (Mv 7) vy_29 (Mv 9) (Mv 10) (Mv 11) (Mv 12) (Mv 13) (Mv 14) (Mf 1) (Mj 0) pf_34 h_bs) k_1211 k_1208 k_1210 k_27 k_106 pl_X12_see ⟨Nat.le_of_ble_eq_true rfl, Nat.le_of_ble_eq_true rfl⟩ rfl rfl (va_recv hK hP (ci := 12) (q0 := 0) rfl rfl) hP hD hS [0, 1] [2, 3] rfl rfl rfl rfl rfl (by decide) rfl hl.1 rfl (Nat.le_of_ble_eq_true rfl) dX12_readsAll_40 ⟨Nat.le_of_ble_eq_true rfl, Nat.le_of_ble_eq_true rfl⟩ (fun v_52 u_53 H locs hv_54 hP₀ hD₀ hS₀ => ?_)
        obtain ⟨sv_55, rfl⟩ : ∃ z, z = u_53 := ⟨_, rfl⟩
        obtain ⟨r_60, rfl, he_61, pf_56, pf_57, pf_58, pf_59⟩ := hv_54
        have he_61 : (r_60.toInt = rB (Mf 1) (Mv 0) (sv_55 : Int32).toInt.toNat ∧ (r_60.toInt = -1 ∨ (sv_55 : Int32).toInt < (Mv 0).toInt)) := he_61
        have pf_56 : (vy_26 : Int32).toInt ≤ (sv_55 : Int32).toInt ∧ (sv_55 : Int32).toInt ≤ ((Mv 0) : Int32).toInt := pf_56
        have pf_57 : NSq (Mf 1) (Mv 0) sv_55 := pf_57
        have pf_58 : Stl (Mf 1) (Mv 0) vy_26 sv_55 := pf_58
        have pf_59 : SkR (rB (Mf 1) (Mv 0)) vy_26 sv_55 := pf_59
        refine W.eq (g2 := F0 m 43 ls [.int r_60]) rfl ?_
        replace hP : va_P D classes [((Ma 3), .inl (tc 0, 7, .inl g_1)), ((Ma 6), .inl (tc 0, 95, .inl vy_30)), ((Ma 0), .inr (12, [.ref (Ma 1), .int (Mv 0), .int (Mv 1), .ref (Ma 2), .ref (Ma 3), .ref (Ma 4), .ref (Ma 5), .ref (Ma 6), .int sv_55, .int vy_27, .int vy_28, .int 6, .int 0, .int (Mv 7), .int vy_29, .ref (Ma 7), .int (Mv 9), .ref (Ma 8), .int (Mv 10), .ref (Ma 9), .ref (Ma 10), .int (Mv 11), .int (Mv 12), .int (Mv 13), .ref (Ma 11), .int (Mv 14), .ref (Ma 12), .ref (Ma 13), .ref (Ma 14), .ref (Ma 15), .ref (Ma 16), .long (Mj 0), .ref (Ma 17), .ref (Ma 18), .ref (Ma 19), .ref (Ma 20)])), ((Ma 1), .inl (tc 2, 400, .inl (Mf 1)))] H := hP₀
        replace hD : va_D A [((Ma 3), .inl (tc 0, 7, .inl g_1)), ((Ma 6), .inl (tc 0, 95, .inl vy_30)), ((Ma 0), .inr (12, [.ref (Ma 1), .int (Mv 0), .int (Mv 1), .ref (Ma 2), .ref (Ma 3), .ref (Ma 4), .ref (Ma 5), .ref (Ma 6), .int sv_55, .int vy_27, .int vy_28, .int 6, .int 0, .int (Mv 7), .int vy_29, .ref (Ma 7), .int (Mv 9), .ref (Ma 8), .int (Mv 10), .ref (Ma 9), .ref (Ma 10), .int (Mv 11), .int (Mv 12), .int (Mv 13), .ref (Ma 11), .int (Mv 14), .ref (Ma 12), .ref (Ma 13), .ref (Ma 14), .ref (Ma 15), .ref (Ma 16), .long (Mj 0), .ref (Ma 17), .ref (Ma 18), .ref (Ma 19), .ref (Ma 20)])), ((Ma 1), .inl (tc 2, 400, .inl (Mf 1)))] := hD₀
        replace hS := hS₀
        clear hP₀ hD₀ hS₀
        refine lv_bipush (v := 59) hx hb dX12_readsAll_43 (by decide) ?_
        refine lv_icmp_ne (tgt := 66) hx hb dX12_readsAll_45 (by decide) (fun c_63 => ?_) (fun c_63 => ?_)
        · skip
          refine lv_iload_n hx hb dX12_readsAll_66 rfl (lv_at hl 0 rfl) ?_
          refine lv_if_eq (tgt := 88) hx hb dX12_readsAll_67 (by decide) (fun c_64 => ?_) (fun c_64 => ?_)
          · skip
            exfalso
            have z_1 : ¬ (vy_25 : Int32).toInt = (0 : Int32).toInt := fun z => c_39 (Int32.toInt_inj.mp z)
            have z_2 : ¬ (r_60 : Int32).toInt = (59 : Int32).toInt := fun z => c_63 (Int32.toInt_inj.mp z)
            have z_3 := congrArg Int32.toInt c_64
            have y_0 : (0 : Int32).toInt = 0 := by decide
            have y_59 : (59 : Int32).toInt = 59 := by decide
            omega
          · skip
            refine lv_aload_n hx hb dX12_readsAll_70 rfl (lv_at hl 1 rfl) ?_
            have ha_65 : 0 ≤ (sv_55 : Int32).toInt ∧ (sv_55 : Int32).toInt ≤ ((Mv 0) : Int32).toInt ∧ ((Mv 0) : Int32).toInt ≤ 400 := by
              have z_1 : ¬ (vy_25 : Int32).toInt = (0 : Int32).toInt := fun z => c_39 (Int32.toInt_inj.mp z)
              have z_2 : ¬ (r_60 : Int32).toInt = (59 : Int32).toInt := fun z => c_63 (Int32.toInt_inj.mp z)
              have z_3 : ¬ (vy_25 : Int32).toInt = (0 : Int32).toInt := fun z => c_64 (Int32.toInt_inj.mp z)
              have y_0 : (0 : Int32).toInt = 0 := by decide
              have y_59 : (59 : Int32).toInt = 59 := by decide
              omega
            refine cV (a := (Ma 0)) (As := []) (rest := []) (wr := [((Ma 3), .inl (tc 0, 7, .inl g_1)), ((Ma 6), .inl (tc 0, 95, .inl vy_30))]) ⟨hx, hb, hml, hown, hts⟩ hK hX hA (cu_fX12_see l D tc sk (Ma 0) (Ma 1) (Ma 2) (Ma 3) (Ma 4) (Ma 5) (Ma 6) (Ma 7) (Ma 8) (Ma 9) (Ma 10) (Ma 11) (Ma 12) (Ma 13) (Ma 14) (Ma 15) (Ma 16) (Ma 17) (Ma 18) (Ma 19) (Ma 20) (Mv 0) (Mv 1) sv_55 vy_27 vy_28 6 0 (Mv 7) vy_29 (Mv 9) (Mv 10) (Mv 11) (Mv 12) (Mv 13) (Mv 14) (Mf 1) (Mj 0) ha_65 h_bs) k_1211 k_1208 k_1210 k_27 k_106 pl_X12_see ⟨Nat.le_of_ble_eq_true rfl, Nat.le_of_ble_eq_true rfl⟩ rfl rfl (va_recv hK hP (ci := 12) (q0 := 2) rfl rfl) hP hD hS [2, 3] [0, 1] rfl rfl rfl rfl rfl (by decide) rfl hl.1 rfl (Nat.le_of_ble_eq_true rfl) dX12_readsAll_71 ⟨Nat.le_of_ble_eq_true rfl, Nat.le_of_ble_eq_true rfl⟩ (fun v_66 u_67 H locs hv_68 hP₀ hD₀ hS₀ => ?_)
            obtain ⟨sv_69, rfl⟩ : ∃ z, z = u_67 := ⟨_, rfl⟩
            obtain ⟨r_74, rfl, he_75, pf_70, pf_71, pf_72, pf_73⟩ := hv_68
            have he_75 : (r_74.toInt = rB (Mf 1) (Mv 0) (sv_69 : Int32).toInt.toNat ∧ (r_74.toInt = -1 ∨ (sv_69 : Int32).toInt < (Mv 0).toInt)) := he_75
            have pf_70 : (sv_55 : Int32).toInt ≤ (sv_69 : Int32).toInt ∧ (sv_69 : Int32).toInt ≤ ((Mv 0) : Int32).toInt := pf_70
            have pf_71 : NSq (Mf 1) (Mv 0) sv_69 := pf_71
            have pf_72 : Stl (Mf 1) (Mv 0) sv_55 sv_69 := pf_72
            have ar_pf_72 := Stl.or pf_72 pf_57
            have pf_73 : SkR (rB (Mf 1) (Mv 0)) sv_55 sv_69 := pf_73
            refine W.eq (g2 := F0 m 74 ls [.int r_74]) rfl ?_
            replace hP : va_P D classes [((Ma 3), .inl (tc 0, 7, .inl g_1)), ((Ma 6), .inl (tc 0, 95, .inl vy_30)), ((Ma 0), .inr (12, [.ref (Ma 1), .int (Mv 0), .int (Mv 1), .ref (Ma 2), .ref (Ma 3), .ref (Ma 4), .ref (Ma 5), .ref (Ma 6), .int sv_69, .int vy_27, .int vy_28, .int 6, .int 0, .int (Mv 7), .int vy_29, .ref (Ma 7), .int (Mv 9), .ref (Ma 8), .int (Mv 10), .ref (Ma 9), .ref (Ma 10), .int (Mv 11), .int (Mv 12), .int (Mv 13), .ref (Ma 11), .int (Mv 14), .ref (Ma 12), .ref (Ma 13), .ref (Ma 14), .ref (Ma 15), .ref (Ma 16), .long (Mj 0), .ref (Ma 17), .ref (Ma 18), .ref (Ma 19), .ref (Ma 20)])), ((Ma 1), .inl (tc 2, 400, .inl (Mf 1)))] H := hP₀
            replace hD : va_D A [((Ma 3), .inl (tc 0, 7, .inl g_1)), ((Ma 6), .inl (tc 0, 95, .inl vy_30)), ((Ma 0), .inr (12, [.ref (Ma 1), .int (Mv 0), .int (Mv 1), .ref (Ma 2), .ref (Ma 3), .ref (Ma 4), .ref (Ma 5), .ref (Ma 6), .int sv_69, .int vy_27, .int vy_28, .int 6, .int 0, .int (Mv 7), .int vy_29, .ref (Ma 7), .int (Mv 9), .ref (Ma 8), .int (Mv 10), .ref (Ma 9), .ref (Ma 10), .int (Mv 11), .int (Mv 12), .int (Mv 13), .ref (Ma 11), .int (Mv 14), .ref (Ma 12), .ref (Ma 13), .ref (Ma 14), .ref (Ma 15), .ref (Ma 16), .long (Mj 0), .ref (Ma 17), .ref (Ma 18), .ref (Ma 19), .ref (Ma 20)])), ((Ma 1), .inl (tc 2, 400, .inl (Mf 1)))] := hD₀
            replace hS := hS₀
            clear hP₀ hD₀ hS₀
            have hE_77 := SkR.eqB pf_59 pf_73
            refine lv_iconst (v := (-1)) hx hb dX12_readsAll_74 (by decide) ?_
            refine lv_icmp_eq (tgt := 88) hx hb dX12_readsAll_75 (by decide) (fun c_78 => ?_) (fun c_78 => ?_)
            · skip
              refine lv_aload_n hx hb dX12_readsAll_88 rfl (lv_at hl 1 rfl) ?_
              refine lv_iconst (v := 0) hx hb dX12_readsAll_89 (by decide) ?_
              refine pf_X12_77 hx hb hts hown hK hP hD hS 2 rfl (Nat.le_of_ble_eq_true rfl) rfl rfl dX12_readsAll_90 (fun H locs hP₀ hD₀ hS₀ => ?_)
              replace hP : va_P D classes [((Ma 3), .inl (tc 0, 7, .inl g_1)), ((Ma 6), .inl (tc 0, 95, .inl vy_30)), ((Ma 0), .inr (12, [.ref (Ma 1), .int 0, .int (Mv 1), .ref (Ma 2), .ref (Ma 3), .ref (Ma 4), .ref (Ma 5), .ref (Ma 6), .int sv_69, .int vy_27, .int vy_28, .int 6, .int 0, .int (Mv 7), .int vy_29, .ref (Ma 7), .int (Mv 9), .ref (Ma 8), .int (Mv 10), .ref (Ma 9), .ref (Ma 10), .int (Mv 11), .int (Mv 12), .int (Mv 13), .ref (Ma 11), .int (Mv 14), .ref (Ma 12), .ref (Ma 13), .ref (Ma 14), .ref (Ma 15), .ref (Ma 16), .long (Mj 0), .ref (Ma 17), .ref (Ma 18), .ref (Ma 19), .ref (Ma 20)])), ((Ma 1), .inl (tc 2, 400, .inl (Mf 1)))] H := hP₀
              replace hD : va_D A [((Ma 3), .inl (tc 0, 7, .inl g_1)), ((Ma 6), .inl (tc 0, 95, .inl vy_30)), ((Ma 0), .inr (12, [.ref (Ma 1), .int 0, .int (Mv 1), .ref (Ma 2), .ref (Ma 3), .ref (Ma 4), .ref (Ma 5), .ref (Ma 6), .int sv_69, .int vy_27, .int vy_28, .int 6, .int 0, .int (Mv 7), .int vy_29, .ref (Ma 7), .int (Mv 9), .ref (Ma 8), .int (Mv 10), .ref (Ma 9), .ref (Ma 10), .int (Mv 11), .int (Mv 12), .int (Mv 13), .ref (Ma 11), .int (Mv 14), .ref (Ma 12), .ref (Ma 13), .ref (Ma 14), .ref (Ma 15), .ref (Ma 16), .long (Mj 0), .ref (Ma 17), .ref (Ma 18), .ref (Ma 19), .ref (Ma 20)])), ((Ma 1), .inl (tc 2, 400, .inl (Mf 1)))] := hD₀
              replace hS := hS₀
              clear hP₀ hD₀ hS₀
              refine lv_aload_n hx hb dX12_readsAll_93 rfl (lv_at hl 1 rfl) ?_
              refine gf_X12_84 hx hb hts hown hK hP 2 rfl rfl dX12_readsAll_94 ?_
              refine lv_if_ne (tgt := 104) hx hb dX12_readsAll_97 (by decide) (fun c_79 => ?_) (fun c_79 => ?_)
              · skip
                refine lv_iconst (v := 0) hx hb dX12_readsAll_104 (by decide) ?_
                have hr_80 : (vy_25 : Int32).toInt = 1 := by
                  have z_1 : ¬ (vy_25 : Int32).toInt = (0 : Int32).toInt := fun z => c_39 (Int32.toInt_inj.mp z)
                  have z_2 : ¬ (r_60 : Int32).toInt = (59 : Int32).toInt := fun z => c_63 (Int32.toInt_inj.mp z)
                  have z_3 : ¬ (vy_25 : Int32).toInt = (0 : Int32).toInt := fun z => c_64 (Int32.toInt_inj.mp z)
                  have z_4 := congrArg Int32.toInt c_78
                  have z_5 : ¬ (vy_27 : Int32).toInt = (0 : Int32).toInt := fun z => c_79 (Int32.toInt_inj.mp z)
                  have y_m1 : (-1 : Int32).toInt = -1 := by decide
                  have y_0 : (0 : Int32).toInt = 0 := by decide
                  have y_59 : (59 : Int32).toInt = 59 := by decide
                  omega
                have hr_81 : (rB (Mf 1) (Mv 0) (sv_69 : Int32).toInt.toNat = -1) := by
                  have z_1 : ¬ (vy_25 : Int32).toInt = (0 : Int32).toInt := fun z => c_39 (Int32.toInt_inj.mp z)
                  have z_2 : ¬ (r_60 : Int32).toInt = (59 : Int32).toInt := fun z => c_63 (Int32.toInt_inj.mp z)
                  have z_3 : ¬ (vy_25 : Int32).toInt = (0 : Int32).toInt := fun z => c_64 (Int32.toInt_inj.mp z)
                  have z_4 := congrArg Int32.toInt c_78
                  have z_5 : ¬ (vy_27 : Int32).toInt = (0 : Int32).toInt := fun z => c_79 (Int32.toInt_inj.mp z)
                  have y_m1 : (-1 : Int32).toInt = -1 := by decide
                  have y_0 : (0 : Int32).toInt = 0 := by decide
                  have y_59 : (59 : Int32).toInt = 59 := by decide
                  omega
                have hp_82 : (((0 : Int32).toInt = 0 ∧ ¬ (vy_27 : Int32).toInt = 0) ∨ ((0 : Int32).toInt = 1 ∧ (vy_27 : Int32).toInt = 0)) := by
                  have z_1 : ¬ (vy_25 : Int32).toInt = (0 : Int32).toInt := fun z => c_39 (Int32.toInt_inj.mp z)
                  have z_2 : ¬ (r_60 : Int32).toInt = (59 : Int32).toInt := fun z => c_63 (Int32.toInt_inj.mp z)
                  have z_3 : ¬ (vy_25 : Int32).toInt = (0 : Int32).toInt := fun z => c_64 (Int32.toInt_inj.mp z)
                  have z_4 := congrArg Int32.toInt c_78
                  have z_5 : ¬ (vy_27 : Int32).toInt = (0 : Int32).toInt := fun z => c_79 (Int32.toInt_inj.mp z)
                  have y_m1 : (-1 : Int32).toInt = -1 := by decide
                  have y_0 : (0 : Int32).toInt = 0 := by decide
                  have y_59 : (59 : Int32).toInt = 59 := by decide
                  omega
                exact retI (v := 0) hx hb hr hlk (rfl) hP hD hS (sv_69, vy_27, vy_28, vy_29, g_1, vy_30) ⟨_, rfl, hp_82, (BkR.rend pf_37 hr_80 (SkR.trans pf_59 pf_73) hr_81), (fun h => absurd h (by decide))⟩ [2, 3, 0, 1] rfl rfl dX12_readsAll_105 (Nat.le_of_ble_eq_true rfl) (Nat.le_of_ble_eq_true rfl) rfl
              · skip
                refine lv_iconst (v := 1) hx hb dX12_readsAll_100 (by decide) ?_
                refine lv_goto (tgt := 105) hx hb dX12_readsAll_101 (by decide) ?_
                have hr_83 : (vy_25 : Int32).toInt = 1 := by
                  have z_1 : ¬ (vy_25 : Int32).toInt = (0 : Int32).toInt := fun z => c_39 (Int32.toInt_inj.mp z)
                  have z_2 : ¬ (r_60 : Int32).toInt = (59 : Int32).toInt := fun z => c_63 (Int32.toInt_inj.mp z)
                  have z_3 : ¬ (vy_25 : Int32).toInt = (0 : Int32).toInt := fun z => c_64 (Int32.toInt_inj.mp z)
                  have z_4 := congrArg Int32.toInt c_78
                  have z_5 := congrArg Int32.toInt c_79
                  have y_m1 : (-1 : Int32).toInt = -1 := by decide
                  have y_0 : (0 : Int32).toInt = 0 := by decide
                  have y_59 : (59 : Int32).toInt = 59 := by decide
                  omega
                have hr_84 : (rB (Mf 1) (Mv 0) (sv_69 : Int32).toInt.toNat = -1) := by
                  have z_1 : ¬ (vy_25 : Int32).toInt = (0 : Int32).toInt := fun z => c_39 (Int32.toInt_inj.mp z)
                  have z_2 : ¬ (r_60 : Int32).toInt = (59 : Int32).toInt := fun z => c_63 (Int32.toInt_inj.mp z)
                  have z_3 : ¬ (vy_25 : Int32).toInt = (0 : Int32).toInt := fun z => c_64 (Int32.toInt_inj.mp z)
                  have z_4 := congrArg Int32.toInt c_78
                  have z_5 := congrArg Int32.toInt c_79
                  have y_m1 : (-1 : Int32).toInt = -1 := by decide
                  have y_0 : (0 : Int32).toInt = 0 := by decide
                  have y_59 : (59 : Int32).toInt = 59 := by decide
                  omega
                have hp_85 : (((1 : Int32).toInt = 0 ∧ ¬ (vy_27 : Int32).toInt = 0) ∨ ((1 : Int32).toInt = 1 ∧ (vy_27 : Int32).toInt = 0)) := by
                  have z_1 : ¬ (vy_25 : Int32).toInt = (0 : Int32).toInt := fun z => c_39 (Int32.toInt_inj.mp z)
                  have z_2 : ¬ (r_60 : Int32).toInt = (59 : Int32).toInt := fun z => c_63 (Int32.toInt_inj.mp z)
                  have z_3 : ¬ (vy_25 : Int32).toInt = (0 : Int32).toInt := fun z => c_64 (Int32.toInt_inj.mp z)
                  have z_4 := congrArg Int32.toInt c_78
                  have z_5 := congrArg Int32.toInt c_79
                  have y_m1 : (-1 : Int32).toInt = -1 := by decide
                  have y_0 : (0 : Int32).toInt = 0 := by decide
                  have y_59 : (59 : Int32).toInt = 59 := by decide
                  have y_1 : (1 : Int32).toInt = 1 := by decide
                  have yr : (1 : Int32).toInt = 1 := by decide
                  omega
                have hm_86 : (1 : Int32).toInt = 1 → (RdO vy_30) := by
                  intro h1r
                  exact pf_50
                exact retI (v := 1) hx hb hr hlk (rfl) hP hD hS (sv_69, vy_27, vy_28, vy_29, g_1, vy_30) ⟨_, rfl, hp_85, (BkR.rend pf_37 hr_83 (SkR.trans pf_59 pf_73) hr_84), hm_86⟩ [2, 3, 0, 1] rfl rfl dX12_readsAll_105 (Nat.le_of_ble_eq_true rfl) (Nat.le_of_ble_eq_true rfl) rfl
            · skip
              refine lv_aload_n hx hb dX12_readsAll_78 rfl (lv_at hl 1 rfl) ?_
              refine lv_iconst (v := 0) hx hb dX12_readsAll_79 (by decide) ?_
              refine lv_aload_n hx hb dX12_readsAll_80 rfl (lv_at hl 1 rfl) ?_
              refine gf_X12_87 hx hb hts hown hK hP 2 rfl rfl dX12_readsAll_81 ?_
              have ha_87 : 0 ≤ (0 : Int32).toInt ∧ (0 : Int32).toInt ≤ 4 := by
                have z_1 : ¬ (vy_25 : Int32).toInt = (0 : Int32).toInt := fun z => c_39 (Int32.toInt_inj.mp z)
                have z_2 : ¬ (r_60 : Int32).toInt = (59 : Int32).toInt := fun z => c_63 (Int32.toInt_inj.mp z)
                have z_3 : ¬ (vy_25 : Int32).toInt = (0 : Int32).toInt := fun z => c_64 (Int32.toInt_inj.mp z)
                have z_4 : ¬ (r_74 : Int32).toInt = ((-1) : Int32).toInt := fun z => c_78 (Int32.toInt_inj.mp z)
                have y_m1 : (-1 : Int32).toInt = -1 := by decide
                have y_0 : (0 : Int32).toInt = 0 := by decide
                have y_59 : (59 : Int32).toInt = 59 := by decide
                omega
              have ha_88 : 0 ≤ sv_69.toInt ∧ sv_69.toInt ≤ 400 := by
                have z_1 : ¬ (vy_25 : Int32).toInt = (0 : Int32).toInt := fun z => c_39 (Int32.toInt_inj.mp z)
                have z_2 : ¬ (r_60 : Int32).toInt = (59 : Int32).toInt := fun z => c_63 (Int32.toInt_inj.mp z)
                have z_3 : ¬ (vy_25 : Int32).toInt = (0 : Int32).toInt := fun z => c_64 (Int32.toInt_inj.mp z)
                have z_4 : ¬ (r_74 : Int32).toInt = ((-1) : Int32).toInt := fun z => c_78 (Int32.toInt_inj.mp z)
                have y_m1 : (-1 : Int32).toInt = -1 := by decide
                have y_0 : (0 : Int32).toInt = 0 := by decide
                have y_59 : (59 : Int32).toInt = 59 := by decide
                omega
              have ha_89 : (vy_27 : Int32).toInt = 0 := by
                have z_1 : ¬ (vy_25 : Int32).toInt = (0 : Int32).toInt := fun z => c_39 (Int32.toInt_inj.mp z)
                have z_2 : ¬ (r_60 : Int32).toInt = (59 : Int32).toInt := fun z => c_63 (Int32.toInt_inj.mp z)
                have z_3 : ¬ (vy_25 : Int32).toInt = (0 : Int32).toInt := fun z => c_64 (Int32.toInt_inj.mp z)
                have z_4 : ¬ (r_74 : Int32).toInt = ((-1) : Int32).toInt := fun z => c_78 (Int32.toInt_inj.mp z)
                have y_m1 : (-1 : Int32).toInt = -1 := by decide
                have y_0 : (0 : Int32).toInt = 0 := by decide
                have y_59 : (59 : Int32).toInt = 59 := by decide
                omega
              refine cV (a := (Ma 0)) (As := [.int 0, .int sv_69]) (rest := []) (wr := [((Ma 3), .inl (tc 0, 7, .inl g_1)), ((Ma 6), .inl (tc 0, 95, .inl vy_30)), ((Ma 1), .inl (tc 2, 400, .inl (Mf 1)))]) ⟨hx, hb, hml, hown, hts⟩ hK hX hA (cu_fX12_fails l D tc sk (Ma 0) (Ma 1) (Ma 2) (Ma 3) (Ma 4) (Ma 5) (Ma 6) (Ma 7) (Ma 8) (Ma 9) (Ma 10) (Ma 11) (Ma 12) (Ma 13) (Ma 14) (Ma 15) (Ma 16) (Ma 17) (Ma 18) (Ma 19) (Ma 20) (Mv 0) (Mv 1) sv_69 vy_27 vy_28 6 0 (Mv 7) vy_29 (Mv 9) (Mv 10) (Mv 11) (Mv 12) (Mv 13) (Mv 14) (Mj 0) 0 sv_69 ha_87 ha_88 ha_89) k_1232 k_1229 k_1231 k_31 k_106 pl_X12_fails ⟨Nat.le_of_ble_eq_true rfl, Nat.le_of_ble_eq_true rfl⟩ rfl rfl (va_recv hK hP (ci := 12) (q0 := 2) rfl rfl) hP hD hS [2] [0, 1, 3] rfl rfl rfl rfl rfl (by decide) rfl hl.1 rfl (Nat.le_of_ble_eq_true rfl) dX12_readsAll_84 ⟨Nat.le_of_ble_eq_true rfl, Nat.le_of_ble_eq_true rfl⟩ (fun v_90 u_91 H locs hv_92 hP₀ hD₀ hS₀ => ?_)
              obtain ⟨sv_93, rfl⟩ : ∃ z, z = u_91 := ⟨_, rfl⟩
              obtain ⟨r_96, rfl, he_97, pf_94, pf_95⟩ := hv_92
              have he_97 : r_96.toInt = 0 := he_97
              have pf_94 : ¬ (sv_93 : Int32).toInt = 0 := pf_94
              have pf_95 : (sv_93 : Int32).toInt = 1 + 8 * sv_69.toInt + (0 : Int32).toInt := pf_95
              refine W.eq (g2 := F0 m 87 ls [.int r_96]) rfl ?_
              replace hP : va_P D classes [((Ma 3), .inl (tc 0, 7, .inl g_1)), ((Ma 6), .inl (tc 0, 95, .inl vy_30)), ((Ma 1), .inl (tc 2, 400, .inl (Mf 1))), ((Ma 0), .inr (12, [.ref (Ma 1), .int (Mv 0), .int (Mv 1), .ref (Ma 2), .ref (Ma 3), .ref (Ma 4), .ref (Ma 5), .ref (Ma 6), .int sv_69, .int sv_93, .int vy_28, .int 6, .int 0, .int (Mv 7), .int vy_29, .ref (Ma 7), .int (Mv 9), .ref (Ma 8), .int (Mv 10), .ref (Ma 9), .ref (Ma 10), .int (Mv 11), .int (Mv 12), .int (Mv 13), .ref (Ma 11), .int (Mv 14), .ref (Ma 12), .ref (Ma 13), .ref (Ma 14), .ref (Ma 15), .ref (Ma 16), .long (Mj 0), .ref (Ma 17), .ref (Ma 18), .ref (Ma 19), .ref (Ma 20)]))] H := hP₀
              replace hD : va_D A [((Ma 3), .inl (tc 0, 7, .inl g_1)), ((Ma 6), .inl (tc 0, 95, .inl vy_30)), ((Ma 1), .inl (tc 2, 400, .inl (Mf 1))), ((Ma 0), .inr (12, [.ref (Ma 1), .int (Mv 0), .int (Mv 1), .ref (Ma 2), .ref (Ma 3), .ref (Ma 4), .ref (Ma 5), .ref (Ma 6), .int sv_69, .int sv_93, .int vy_28, .int 6, .int 0, .int (Mv 7), .int vy_29, .ref (Ma 7), .int (Mv 9), .ref (Ma 8), .int (Mv 10), .ref (Ma 9), .ref (Ma 10), .int (Mv 11), .int (Mv 12), .int (Mv 13), .ref (Ma 11), .int (Mv 14), .ref (Ma 12), .ref (Ma 13), .ref (Ma 14), .ref (Ma 15), .ref (Ma 16), .long (Mj 0), .ref (Ma 17), .ref (Ma 18), .ref (Ma 19), .ref (Ma 20)]))] := hD₀
              replace hS := hS₀
              clear hP₀ hD₀ hS₀
              have yf_99 : (0 : Int32).toInt = 0 := by decide
              refine lv_pop hx hb dX12_readsAll_87 rfl ?_
              refine lv_aload_n hx hb dX12_readsAll_88 rfl (lv_at hl 1 rfl) ?_
              refine lv_iconst (v := 0) hx hb dX12_readsAll_89 (by decide) ?_
              refine pf_X12_77 hx hb hts hown hK hP hD hS 3 rfl (Nat.le_of_ble_eq_true rfl) rfl rfl dX12_readsAll_90 (fun H locs hP₀ hD₀ hS₀ => ?_)
              replace hP : va_P D classes [((Ma 3), .inl (tc 0, 7, .inl g_1)), ((Ma 6), .inl (tc 0, 95, .inl vy_30)), ((Ma 1), .inl (tc 2, 400, .inl (Mf 1))), ((Ma 0), .inr (12, [.ref (Ma 1), .int 0, .int (Mv 1), .ref (Ma 2), .ref (Ma 3), .ref (Ma 4), .ref (Ma 5), .ref (Ma 6), .int sv_69, .int sv_93, .int vy_28, .int 6, .int 0, .int (Mv 7), .int vy_29, .ref (Ma 7), .int (Mv 9), .ref (Ma 8), .int (Mv 10), .ref (Ma 9), .ref (Ma 10), .int (Mv 11), .int (Mv 12), .int (Mv 13), .ref (Ma 11), .int (Mv 14), .ref (Ma 12), .ref (Ma 13), .ref (Ma 14), .ref (Ma 15), .ref (Ma 16), .long (Mj 0), .ref (Ma 17), .ref (Ma 18), .ref (Ma 19), .ref (Ma 20)]))] H := hP₀
              replace hD : va_D A [((Ma 3), .inl (tc 0, 7, .inl g_1)), ((Ma 6), .inl (tc 0, 95, .inl vy_30)), ((Ma 1), .inl (tc 2, 400, .inl (Mf 1))), ((Ma 0), .inr (12, [.ref (Ma 1), .int 0, .int (Mv 1), .ref (Ma 2), .ref (Ma 3), .ref (Ma 4), .ref (Ma 5), .ref (Ma 6), .int sv_69, .int sv_93, .int vy_28, .int 6, .int 0, .int (Mv 7), .int vy_29, .ref (Ma 7), .int (Mv 9), .ref (Ma 8), .int (Mv 10), .ref (Ma 9), .ref (Ma 10), .int (Mv 11), .int (Mv 12), .int (Mv 13), .ref (Ma 11), .int (Mv 14), .ref (Ma 12), .ref (Ma 13), .ref (Ma 14), .ref (Ma 15), .ref (Ma 16), .long (Mj 0), .ref (Ma 17), .ref (Ma 18), .ref (Ma 19), .ref (Ma 20)]))] := hD₀
              replace hS := hS₀
              clear hP₀ hD₀ hS₀
              refine lv_aload_n hx hb dX12_readsAll_93 rfl (lv_at hl 1 rfl) ?_
              refine gf_X12_84 hx hb hts hown hK hP 3 rfl rfl dX12_readsAll_94 ?_
              refine lv_if_ne (tgt := 104) hx hb dX12_readsAll_97 (by decide) (fun c_100 => ?_) (fun c_100 => ?_)
              · skip
                refine lv_iconst (v := 0) hx hb dX12_readsAll_104 (by decide) ?_
                have hr_101 : (vy_25 : Int32).toInt = 1 := by
                  have z_1 : ¬ (vy_25 : Int32).toInt = (0 : Int32).toInt := fun z => c_39 (Int32.toInt_inj.mp z)
                  have z_2 : ¬ (r_60 : Int32).toInt = (59 : Int32).toInt := fun z => c_63 (Int32.toInt_inj.mp z)
                  have z_3 : ¬ (vy_25 : Int32).toInt = (0 : Int32).toInt := fun z => c_64 (Int32.toInt_inj.mp z)
                  have z_4 : ¬ (r_74 : Int32).toInt = ((-1) : Int32).toInt := fun z => c_78 (Int32.toInt_inj.mp z)
                  have z_5 : ¬ (sv_93 : Int32).toInt = (0 : Int32).toInt := fun z => c_100 (Int32.toInt_inj.mp z)
                  have y_m1 : (-1 : Int32).toInt = -1 := by decide
                  have y_0 : (0 : Int32).toInt = 0 := by decide
                  have y_59 : (59 : Int32).toInt = 59 := by decide
                  omega
                have hr_102 : ¬ (rB (Mf 1) (Mv 0) (sv_69 : Int32).toInt.toNat = 59) := by
                  have z_1 : ¬ (vy_25 : Int32).toInt = (0 : Int32).toInt := fun z => c_39 (Int32.toInt_inj.mp z)
                  have z_2 : ¬ (r_60 : Int32).toInt = (59 : Int32).toInt := fun z => c_63 (Int32.toInt_inj.mp z)
                  have z_3 : ¬ (vy_25 : Int32).toInt = (0 : Int32).toInt := fun z => c_64 (Int32.toInt_inj.mp z)
                  have z_4 : ¬ (r_74 : Int32).toInt = ((-1) : Int32).toInt := fun z => c_78 (Int32.toInt_inj.mp z)
                  have z_5 : ¬ (sv_93 : Int32).toInt = (0 : Int32).toInt := fun z => c_100 (Int32.toInt_inj.mp z)
                  have y_m1 : (-1 : Int32).toInt = -1 := by decide
                  have y_0 : (0 : Int32).toInt = 0 := by decide
                  have y_59 : (59 : Int32).toInt = 59 := by decide
                  omega
                have hr_103 : ¬ (rB (Mf 1) (Mv 0) (sv_69 : Int32).toInt.toNat = -1) := by
                  have z_1 : ¬ (vy_25 : Int32).toInt = (0 : Int32).toInt := fun z => c_39 (Int32.toInt_inj.mp z)
                  have z_2 : ¬ (r_60 : Int32).toInt = (59 : Int32).toInt := fun z => c_63 (Int32.toInt_inj.mp z)
                  have z_3 : ¬ (vy_25 : Int32).toInt = (0 : Int32).toInt := fun z => c_64 (Int32.toInt_inj.mp z)
                  have z_4 : ¬ (r_74 : Int32).toInt = ((-1) : Int32).toInt := fun z => c_78 (Int32.toInt_inj.mp z)
                  have z_5 : ¬ (sv_93 : Int32).toInt = (0 : Int32).toInt := fun z => c_100 (Int32.toInt_inj.mp z)
                  have y_m1 : (-1 : Int32).toInt = -1 := by decide
                  have y_0 : (0 : Int32).toInt = 0 := by decide
                  have y_59 : (59 : Int32).toInt = 59 := by decide
                  omega
                have hi_104 : (sv_93 : Int32).toInt = 1 + 8 * (sv_69 : Int32).toInt := by
                  have z_1 : ¬ (vy_25 : Int32).toInt = (0 : Int32).toInt := fun z => c_39 (Int32.toInt_inj.mp z)
                  have z_2 : ¬ (r_60 : Int32).toInt = (59 : Int32).toInt := fun z => c_63 (Int32.toInt_inj.mp z)
                  have z_3 : ¬ (vy_25 : Int32).toInt = (0 : Int32).toInt := fun z => c_64 (Int32.toInt_inj.mp z)
                  have z_4 : ¬ (r_74 : Int32).toInt = ((-1) : Int32).toInt := fun z => c_78 (Int32.toInt_inj.mp z)
                  have z_5 : ¬ (sv_93 : Int32).toInt = (0 : Int32).toInt := fun z => c_100 (Int32.toInt_inj.mp z)
                  have y_m1 : (-1 : Int32).toInt = -1 := by decide
                  have y_0 : (0 : Int32).toInt = 0 := by decide
                  have y_59 : (59 : Int32).toInt = 59 := by decide
                  omega
                have hp_105 : (((0 : Int32).toInt = 0 ∧ ¬ (sv_93 : Int32).toInt = 0) ∨ ((0 : Int32).toInt = 1 ∧ (sv_93 : Int32).toInt = 0)) := by
                  have z_1 : ¬ (vy_25 : Int32).toInt = (0 : Int32).toInt := fun z => c_39 (Int32.toInt_inj.mp z)
                  have z_2 : ¬ (r_60 : Int32).toInt = (59 : Int32).toInt := fun z => c_63 (Int32.toInt_inj.mp z)
                  have z_3 : ¬ (vy_25 : Int32).toInt = (0 : Int32).toInt := fun z => c_64 (Int32.toInt_inj.mp z)
                  have z_4 : ¬ (r_74 : Int32).toInt = ((-1) : Int32).toInt := fun z => c_78 (Int32.toInt_inj.mp z)
                  have z_5 : ¬ (sv_93 : Int32).toInt = (0 : Int32).toInt := fun z => c_100 (Int32.toInt_inj.mp z)
                  have y_m1 : (-1 : Int32).toInt = -1 := by decide
                  have y_0 : (0 : Int32).toInt = 0 := by decide
                  have y_59 : (59 : Int32).toInt = 59 := by decide
                  omega
                exact retI (v := 0) hx hb hr hlk (rfl) hP hD hS (sv_69, sv_93, vy_28, vy_29, g_1, vy_30) ⟨_, rfl, hp_105, (BkR.rmore pf_37 hr_101 (SkR.trans pf_59 pf_73) hr_102 hr_103 hi_104), (fun h => absurd h (by decide))⟩ [3, 2, 0, 1] rfl rfl dX12_readsAll_105 (Nat.le_of_ble_eq_true rfl) (Nat.le_of_ble_eq_true rfl) rfl
              · skip
                refine lv_iconst (v := 1) hx hb dX12_readsAll_100 (by decide) ?_
                refine lv_goto (tgt := 105) hx hb dX12_readsAll_101 (by decide) ?_
                have hr_106 : (vy_25 : Int32).toInt = 1 := by
                  have z_1 : ¬ (vy_25 : Int32).toInt = (0 : Int32).toInt := fun z => c_39 (Int32.toInt_inj.mp z)
                  have z_2 : ¬ (r_60 : Int32).toInt = (59 : Int32).toInt := fun z => c_63 (Int32.toInt_inj.mp z)
                  have z_3 : ¬ (vy_25 : Int32).toInt = (0 : Int32).toInt := fun z => c_64 (Int32.toInt_inj.mp z)
                  have z_4 : ¬ (r_74 : Int32).toInt = ((-1) : Int32).toInt := fun z => c_78 (Int32.toInt_inj.mp z)
                  have z_5 := congrArg Int32.toInt c_100
                  have y_m1 : (-1 : Int32).toInt = -1 := by decide
                  have y_0 : (0 : Int32).toInt = 0 := by decide
                  have y_59 : (59 : Int32).toInt = 59 := by decide
                  omega
                have hr_107 : ¬ (rB (Mf 1) (Mv 0) (sv_69 : Int32).toInt.toNat = 59) := by
                  have z_1 : ¬ (vy_25 : Int32).toInt = (0 : Int32).toInt := fun z => c_39 (Int32.toInt_inj.mp z)
                  have z_2 : ¬ (r_60 : Int32).toInt = (59 : Int32).toInt := fun z => c_63 (Int32.toInt_inj.mp z)
                  have z_3 : ¬ (vy_25 : Int32).toInt = (0 : Int32).toInt := fun z => c_64 (Int32.toInt_inj.mp z)
                  have z_4 : ¬ (r_74 : Int32).toInt = ((-1) : Int32).toInt := fun z => c_78 (Int32.toInt_inj.mp z)
                  have z_5 := congrArg Int32.toInt c_100
                  have y_m1 : (-1 : Int32).toInt = -1 := by decide
                  have y_0 : (0 : Int32).toInt = 0 := by decide
                  have y_59 : (59 : Int32).toInt = 59 := by decide
                  omega
                have hr_108 : ¬ (rB (Mf 1) (Mv 0) (sv_69 : Int32).toInt.toNat = -1) := by
                  have z_1 : ¬ (vy_25 : Int32).toInt = (0 : Int32).toInt := fun z => c_39 (Int32.toInt_inj.mp z)
                  have z_2 : ¬ (r_60 : Int32).toInt = (59 : Int32).toInt := fun z => c_63 (Int32.toInt_inj.mp z)
                  have z_3 : ¬ (vy_25 : Int32).toInt = (0 : Int32).toInt := fun z => c_64 (Int32.toInt_inj.mp z)
                  have z_4 : ¬ (r_74 : Int32).toInt = ((-1) : Int32).toInt := fun z => c_78 (Int32.toInt_inj.mp z)
                  have z_5 := congrArg Int32.toInt c_100
                  have y_m1 : (-1 : Int32).toInt = -1 := by decide
                  have y_0 : (0 : Int32).toInt = 0 := by decide
                  have y_59 : (59 : Int32).toInt = 59 := by decide
                  omega
                have hi_109 : (sv_93 : Int32).toInt = 1 + 8 * (sv_69 : Int32).toInt := by
                  have z_1 : ¬ (vy_25 : Int32).toInt = (0 : Int32).toInt := fun z => c_39 (Int32.toInt_inj.mp z)
                  have z_2 : ¬ (r_60 : Int32).toInt = (59 : Int32).toInt := fun z => c_63 (Int32.toInt_inj.mp z)
                  have z_3 : ¬ (vy_25 : Int32).toInt = (0 : Int32).toInt := fun z => c_64 (Int32.toInt_inj.mp z)
                  have z_4 : ¬ (r_74 : Int32).toInt = ((-1) : Int32).toInt := fun z => c_78 (Int32.toInt_inj.mp z)
                  have z_5 := congrArg Int32.toInt c_100
                  have y_m1 : (-1 : Int32).toInt = -1 := by decide
                  have y_0 : (0 : Int32).toInt = 0 := by decide
                  have y_59 : (59 : Int32).toInt = 59 := by decide
                  omega
                have hp_110 : (((1 : Int32).toInt = 0 ∧ ¬ (sv_93 : Int32).toInt = 0) ∨ ((1 : Int32).toInt = 1 ∧ (sv_93 : Int32).toInt = 0)) := by
                  have z_1 : ¬ (vy_25 : Int32).toInt = (0 : Int32).toInt := fun z => c_39 (Int32.toInt_inj.mp z)
                  have z_2 : ¬ (r_60 : Int32).toInt = (59 : Int32).toInt := fun z => c_63 (Int32.toInt_inj.mp z)
                  have z_3 : ¬ (vy_25 : Int32).toInt = (0 : Int32).toInt := fun z => c_64 (Int32.toInt_inj.mp z)
                  have z_4 : ¬ (r_74 : Int32).toInt = ((-1) : Int32).toInt := fun z => c_78 (Int32.toInt_inj.mp z)
                  have z_5 := congrArg Int32.toInt c_100
                  have y_m1 : (-1 : Int32).toInt = -1 := by decide
                  have y_0 : (0 : Int32).toInt = 0 := by decide
                  have y_59 : (59 : Int32).toInt = 59 := by decide
                  have y_1 : (1 : Int32).toInt = 1 := by decide
                  have yr : (1 : Int32).toInt = 1 := by decide
                  omega
                have hm_111 : (1 : Int32).toInt = 1 → (RdO vy_30) := by
                  intro h1r
                  exact pf_50
                exact retI (v := 1) hx hb hr hlk (rfl) hP hD hS (sv_69, sv_93, vy_28, vy_29, g_1, vy_30) ⟨_, rfl, hp_110, (BkR.rmore pf_37 hr_106 (SkR.trans pf_59 pf_73) hr_107 hr_108 hi_109), hm_111⟩ [3, 2, 0, 1] rfl rfl dX12_readsAll_105 (Nat.le_of_ble_eq_true rfl) (Nat.le_of_ble_eq_true rfl) rfl
        · skip
          refine lv_aload_n hx hb dX12_readsAll_48 rfl (lv_at hl 1 rfl) ?_
          refine lv_dup hx hb dX12_readsAll_49 rfl ?_
          refine gf_X12_87 hx hb hts hown hK hP 2 rfl rfl dX12_readsAll_50 ?_
          refine lv_iconst (v := 1) hx hb dX12_readsAll_53 (by decide) ?_
          refine lv_iadd hx hb dX12_readsAll_54 ?_
          refine lv_topi (fun x_112 ex_112 => ?_)
          refine pf_X12_87 hx hb hts hown hK hP hD hS 2 rfl (Nat.le_of_ble_eq_true rfl) rfl rfl dX12_readsAll_55 (fun H locs hP₀ hD₀ hS₀ => ?_)
          replace hP : va_P D classes [((Ma 3), .inl (tc 0, 7, .inl g_1)), ((Ma 6), .inl (tc 0, 95, .inl vy_30)), ((Ma 0), .inr (12, [.ref (Ma 1), .int (Mv 0), .int (Mv 1), .ref (Ma 2), .ref (Ma 3), .ref (Ma 4), .ref (Ma 5), .ref (Ma 6), .int x_112, .int vy_27, .int vy_28, .int 6, .int 0, .int (Mv 7), .int vy_29, .ref (Ma 7), .int (Mv 9), .ref (Ma 8), .int (Mv 10), .ref (Ma 9), .ref (Ma 10), .int (Mv 11), .int (Mv 12), .int (Mv 13), .ref (Ma 11), .int (Mv 14), .ref (Ma 12), .ref (Ma 13), .ref (Ma 14), .ref (Ma 15), .ref (Ma 16), .long (Mj 0), .ref (Ma 17), .ref (Ma 18), .ref (Ma 19), .ref (Ma 20)])), ((Ma 1), .inl (tc 2, 400, .inl (Mf 1)))] H := hP₀
          replace hD : va_D A [((Ma 3), .inl (tc 0, 7, .inl g_1)), ((Ma 6), .inl (tc 0, 95, .inl vy_30)), ((Ma 0), .inr (12, [.ref (Ma 1), .int (Mv 0), .int (Mv 1), .ref (Ma 2), .ref (Ma 3), .ref (Ma 4), .ref (Ma 5), .ref (Ma 6), .int x_112, .int vy_27, .int vy_28, .int 6, .int 0, .int (Mv 7), .int vy_29, .ref (Ma 7), .int (Mv 9), .ref (Ma 8), .int (Mv 10), .ref (Ma 9), .ref (Ma 10), .int (Mv 11), .int (Mv 12), .int (Mv 13), .ref (Ma 11), .int (Mv 14), .ref (Ma 12), .ref (Ma 13), .ref (Ma 14), .ref (Ma 15), .ref (Ma 16), .long (Mj 0), .ref (Ma 17), .ref (Ma 18), .ref (Ma 19), .ref (Ma 20)])), ((Ma 1), .inl (tc 2, 400, .inl (Mf 1)))] := hD₀
          replace hS := hS₀
          clear hP₀ hD₀ hS₀
          have tp_x_112 : (x_112 : Int32).toInt = (sv_55 : Int32).toInt + 1 := by
            have z_1 : ¬ (vy_25 : Int32).toInt = (0 : Int32).toInt := fun z => c_39 (Int32.toInt_inj.mp z)
            have z_2 := congrArg Int32.toInt c_63
            have y_0 : (0 : Int32).toInt = 0 := by decide
            have y_59 : (59 : Int32).toInt = 59 := by decide
            have y_1 : (1 : Int32).toInt = 1 := by decide
            have t_x_112 : x_112.toInt = (sv_55 : Int32).toInt + (1 : Int32).toInt := by rw [ex_112]; exact add_toInt (by omega) (by omega)
            omega
          refine lv_aload_n hx hb dX12_readsAll_58 rfl (lv_at hl 1 rfl) ?_
          have ha_113 : 0 ≤ (x_112 : Int32).toInt ∧ (x_112 : Int32).toInt ≤ ((Mv 0) : Int32).toInt ∧ ((Mv 0) : Int32).toInt ≤ 400 := by
            have z_1 : ¬ (vy_25 : Int32).toInt = (0 : Int32).toInt := fun z => c_39 (Int32.toInt_inj.mp z)
            have z_2 := congrArg Int32.toInt c_63
            have y_0 : (0 : Int32).toInt = 0 := by decide
            have y_59 : (59 : Int32).toInt = 59 := by decide
            have y_1 : (1 : Int32).toInt = 1 := by decide
            have t_x_112 : x_112.toInt = (sv_55 : Int32).toInt + (1 : Int32).toInt := by rw [ex_112]; exact add_toInt (by omega) (by omega)
            omega
          have ha_114 : (vy_27 : Int32).toInt = 0 := by
            have z_1 : ¬ (vy_25 : Int32).toInt = (0 : Int32).toInt := fun z => c_39 (Int32.toInt_inj.mp z)
            have z_2 := congrArg Int32.toInt c_63
            have y_0 : (0 : Int32).toInt = 0 := by decide
            have y_59 : (59 : Int32).toInt = 59 := by decide
            omega
          have ha_115 : (((vy_30 0).toInt = 0 ∧ vy_29.toInt = 0) ∨ ((vy_30 0).toInt = 1 ∧ 1 ≤ vy_29.toInt ∧ vy_29.toInt ≤ 40)) := by
            have z_1 : ¬ (vy_25 : Int32).toInt = (0 : Int32).toInt := fun z => c_39 (Int32.toInt_inj.mp z)
            have z_2 := congrArg Int32.toInt c_63
            have y_0 : (0 : Int32).toInt = 0 := by decide
            have y_59 : (59 : Int32).toInt = 59 := by decide
            omega
          refine cV (a := (Ma 0)) (As := []) (rest := []) (wr := []) ⟨hx, hb, hml, hown, hts⟩ hK hX hA (cu_fX12_clauseHere_b l D tc sk (Ma 0) (Ma 1) (Ma 2) (Ma 3) (Ma 4) (Ma 5) (Ma 6) (Ma 7) (Ma 8) (Ma 9) (Ma 10) (Ma 11) (Ma 12) (Ma 13) (Ma 14) (Ma 15) (Ma 16) (Ma 17) (Ma 18) (Ma 19) (Ma 20) (Mv 0) (Mv 1) x_112 vy_27 vy_28 0 (Mv 7) vy_29 (Mv 9) (Mv 10) (Mv 11) (Mv 12) (Mv 13) (Mv 14) (Mf 1) g_1 vy_30 (Mj 0) ha_113 pf_50 h_bs ha_114 ha_115) k_1207 k_1204 k_1206 k_26 k_106 pl_X12_clauseHere ⟨Nat.le_of_ble_eq_true rfl, Nat.le_of_ble_eq_true rfl⟩ rfl rfl (va_recv hK hP (ci := 12) (q0 := 2) rfl rfl) hP hD hS [2, 3, 0, 1] [] rfl rfl rfl rfl rfl (by decide) rfl hl.1 rfl (Nat.le_of_ble_eq_true rfl) dX12_readsAll_59 ⟨Nat.le_of_ble_eq_true rfl, Nat.le_of_ble_eq_true rfl⟩ (fun v_116 u_117 H locs hv_118 hP₀ hD₀ hS₀ => ?_)
          obtain ⟨sv_119, sv_120, sv_121, sv_122, sv_123⟩ := u_117
          obtain ⟨r_125, rfl, he_126, pf_124, hm_128, hm_129⟩ := hv_118
          have he_126 : ((r_125.toInt = 0 ∧ ¬ (sv_120 : Int32).toInt = 0) ∨ (r_125.toInt = 1 ∧ (sv_123 0).toInt = 1 ∧ (sv_120 : Int32).toInt = 0 ∧ (sv_122 : Int32).toInt = vy_29.toInt + 1 ∧ (sv_122 : Int32).toInt ≤ 40)) := he_126
          have pf_124 : (x_112 : Int32).toInt ≤ (sv_119 : Int32).toInt ∧ (sv_119 : Int32).toInt ≤ ((Mv 0) : Int32).toInt := pf_124
          refine W.eq (g2 := F0 m 62 ls [.int r_125]) rfl ?_
          replace hP : va_P D classes [((Ma 0), .inr (12, [.ref (Ma 1), .int (Mv 0), .int (Mv 1), .ref (Ma 2), .ref (Ma 3), .ref (Ma 4), .ref (Ma 5), .ref (Ma 6), .int sv_119, .int sv_120, .int sv_121, .int 6, .int 0, .int (Mv 7), .int sv_122, .ref (Ma 7), .int (Mv 9), .ref (Ma 8), .int (Mv 10), .ref (Ma 9), .ref (Ma 10), .int (Mv 11), .int (Mv 12), .int (Mv 13), .ref (Ma 11), .int (Mv 14), .ref (Ma 12), .ref (Ma 13), .ref (Ma 14), .ref (Ma 15), .ref (Ma 16), .long (Mj 0), .ref (Ma 17), .ref (Ma 18), .ref (Ma 19), .ref (Ma 20)])), ((Ma 1), .inl (tc 2, 400, .inl (Mf 1))), ((Ma 3), .inl (tc 0, 7, .inl g_1)), ((Ma 6), .inl (tc 0, 95, .inl sv_123))] H := hP₀
          replace hD : va_D A [((Ma 0), .inr (12, [.ref (Ma 1), .int (Mv 0), .int (Mv 1), .ref (Ma 2), .ref (Ma 3), .ref (Ma 4), .ref (Ma 5), .ref (Ma 6), .int sv_119, .int sv_120, .int sv_121, .int 6, .int 0, .int (Mv 7), .int sv_122, .ref (Ma 7), .int (Mv 9), .ref (Ma 8), .int (Mv 10), .ref (Ma 9), .ref (Ma 10), .int (Mv 11), .int (Mv 12), .int (Mv 13), .ref (Ma 11), .int (Mv 14), .ref (Ma 12), .ref (Ma 13), .ref (Ma 14), .ref (Ma 15), .ref (Ma 16), .long (Mj 0), .ref (Ma 17), .ref (Ma 18), .ref (Ma 19), .ref (Ma 20)])), ((Ma 1), .inl (tc 2, 400, .inl (Mf 1))), ((Ma 3), .inl (tc 0, 7, .inl g_1)), ((Ma 6), .inl (tc 0, 95, .inl sv_123))] := hD₀
          replace hS := hS₀
          clear hP₀ hD₀ hS₀
          refine lv_istore_n (lv' := [(1, .int r_125), (0, .ref (Ma 0))]) hx hb dX12_readsAll_62 rfl hl (by decide) rfl (fun ls hl₀ => ?_)
          replace hl := hl₀
          clear hl₀
          refine lv_goto (tgt := 35) hx hb dX12_readsAll_63 (by decide) ?_
          have hb_130 : 2 * (401 - (sv_119 : Int32).toInt) + (r_125 : Int32).toInt < 2 * (401 - (vy_26 : Int32).toInt) + (vy_25 : Int32).toInt ∧ 1 ≤ 2 * (401 - (vy_26 : Int32).toInt) + (vy_25 : Int32).toInt := by
            have z_1 : ¬ (vy_25 : Int32).toInt = (0 : Int32).toInt := fun z => c_39 (Int32.toInt_inj.mp z)
            have z_2 := congrArg Int32.toInt c_63
            have y_0 : (0 : Int32).toInt = 0 := by decide
            have y_59 : (59 : Int32).toInt = 59 := by decide
            omega
          have ha_131 : 0 ≤ (sv_119 : Int32).toInt ∧ (sv_119 : Int32).toInt ≤ ((Mv 0) : Int32).toInt ∧ ((Mv 0) : Int32).toInt ≤ 400 := by
            have z_1 : ¬ (vy_25 : Int32).toInt = (0 : Int32).toInt := fun z => c_39 (Int32.toInt_inj.mp z)
            have z_2 := congrArg Int32.toInt c_63
            have y_0 : (0 : Int32).toInt = 0 := by decide
            have y_59 : (59 : Int32).toInt = 59 := by decide
            omega
          have ha_132 : (((r_125 : Int32).toInt = 0 ∧ ¬ (sv_120 : Int32).toInt = 0) ∨ ((r_125 : Int32).toInt = 1 ∧ (sv_123 0).toInt = 1 ∧ (sv_120 : Int32).toInt = 0 ∧ 1 ≤ (sv_122 : Int32).toInt ∧ (sv_122 : Int32).toInt ≤ 40)) := by
            have z_1 : ¬ (vy_25 : Int32).toInt = (0 : Int32).toInt := fun z => c_39 (Int32.toInt_inj.mp z)
            have z_2 := congrArg Int32.toInt c_63
            have y_0 : (0 : Int32).toInt = 0 := by decide
            have y_59 : (59 : Int32).toInt = 59 := by decide
            omega
          have hc_133 : BlR (rB (Mf 1) (Mv 0)) vy_29 x_112 (vy_30 2) (vy_30 3) r_125 sv_120 sv_119 (sv_123 2) (sv_123 3) := ⟨fun z => (hm_128 z).2, hm_129⟩
          have hl_134 : (r_125 : Int32).toInt = 1 → (sv_122 : Int32).toInt = (vy_29 : Int32).toInt + 1 := by
            intro hz
            have z_1 : ¬ (vy_25 : Int32).toInt = (0 : Int32).toInt := fun z => c_39 (Int32.toInt_inj.mp z)
            have z_2 := congrArg Int32.toInt c_63
            have y_0 : (0 : Int32).toInt = 0 := by decide
            have y_59 : (59 : Int32).toInt = 59 := by decide
            omega
          have hr_135 : (vy_25 : Int32).toInt = 1 := by
            have z_1 : ¬ (vy_25 : Int32).toInt = (0 : Int32).toInt := fun z => c_39 (Int32.toInt_inj.mp z)
            have z_2 := congrArg Int32.toInt c_63
            have y_0 : (0 : Int32).toInt = 0 := by decide
            have y_59 : (59 : Int32).toInt = 59 := by decide
            omega
          have hr_136 : (rB (Mf 1) (Mv 0) (sv_55 : Int32).toInt.toNat = 59) := by
            have z_1 : ¬ (vy_25 : Int32).toInt = (0 : Int32).toInt := fun z => c_39 (Int32.toInt_inj.mp z)
            have z_2 := congrArg Int32.toInt c_63
            have y_0 : (0 : Int32).toInt = 0 := by decide
            have y_59 : (59 : Int32).toInt = 59 := by decide
            omega
          have hi_137 : (x_112 : Int32).toInt = (sv_55 : Int32).toInt + 1 := by
            have z_1 : ¬ (vy_25 : Int32).toInt = (0 : Int32).toInt := fun z => c_39 (Int32.toInt_inj.mp z)
            have z_2 := congrArg Int32.toInt c_63
            have y_0 : (0 : Int32).toInt = 0 := by decide
            have y_59 : (59 : Int32).toInt = 59 := by decide
            have y_1 : (1 : Int32).toInt = 1 := by decide
            have t_x_112 : x_112.toInt = (sv_55 : Int32).toInt + (1 : Int32).toInt := by rw [ex_112]; exact add_toInt (by omega) (by omega)
            omega
          have hr_138 : 0 ≤ (vy_29 : Int32).toInt := by
            have z_1 : ¬ (vy_25 : Int32).toInt = (0 : Int32).toInt := fun z => c_39 (Int32.toInt_inj.mp z)
            have z_2 := congrArg Int32.toInt c_63
            have y_0 : (0 : Int32).toInt = 0 := by decide
            have y_59 : (59 : Int32).toInt = 59 := by decide
            omega
          exact ih_32 r_125 sv_119 sv_120 sv_121 sv_122 sv_123 _ _ _ (by omega) ha_131 ha_132 (fun z => (hm_128 z).1) (BaL.next (rB_fi h_tp.2) pf_37 hr_135 pf_59 hr_136 hi_137 hc_133 hl_134 hr_138) (hP.sub [0, 1, 2, 3] rfl) (hD.sub [0, 1, 2, 3] rfl rfl) hS (lv_sub hl [0, 1] rfl)
  have ha_139 : 0 ≤ (sv_8 : Int32).toInt ∧ (sv_8 : Int32).toInt ≤ ((Mv 0) : Int32).toInt ∧ ((Mv 0) : Int32).toInt ≤ 400 := by
    omega
  have ha_140 : (((r_14 : Int32).toInt = 0 ∧ ¬ (sv_9 : Int32).toInt = 0) ∨ ((r_14 : Int32).toInt = 1 ∧ (sv_12 0).toInt = 1 ∧ (sv_9 : Int32).toInt = 0 ∧ 1 ≤ (sv_11 : Int32).toInt ∧ (sv_11 : Int32).toInt ≤ 40)) := by
    omega
  have hc_141 : BlR (rB (Mf 1) (Mv 0)) 0 (0 : Int32) ((Mf 6) 2) ((Mf 6) 3) r_14 sv_9 sv_8 (sv_12 2) (sv_12 3) := ⟨fun z => (hm_17 z).2, hm_18⟩
  have hl_142 : (r_14 : Int32).toInt = 1 → (sv_11 : Int32).toInt = (0 : Int32).toInt + 1 := by
    intro hz
    omega
  have hl_143 : (r_14 : Int32).toInt = 1 → (sv_11 : Int32).toInt = 1 := by
    intro hz
    have h1 := hl_142 hz
    have h2 : (0 : Int32).toInt = 0 := by decide
    omega
  have hr_144 : ((Mf 6) 2).toInt = 0 := by
    omega
  have hr_145 : ((Mf 6) 3).toInt = 0 := by
    omega
  exact loop_33 _ r_14 sv_8 sv_9 sv_10 sv_11 sv_12 _ _ _ (Nat.lt_succ_self _) ha_139 ha_140 (fun z => (hm_17 z).1) (BaL.first (by decide) (by decide) hr_144 hr_145 hc_141 hl_143) hP hD hS hl
set_option maxRecDepth 100000 in
theorem cu_fX12_readsAll_b (l : Launch) (D : va_G) (tc : Nat → ClassId) (sk : (Nat → Nat) × (Nat → Nat)) (Ma_0 : Nat) (Ma_1 : Nat) (Ma_2 : Nat) (Ma_3 : Nat) (Ma_4 : Nat) (Ma_5 : Nat) (Ma_6 : Nat) (Ma_7 : Nat) (Ma_8 : Nat) (Ma_9 : Nat) (Ma_10 : Nat) (Ma_11 : Nat) (Ma_12 : Nat) (Ma_13 : Nat) (Ma_14 : Nat) (Ma_15 : Nat) (Ma_16 : Nat) (Ma_17 : Nat) (Ma_18 : Nat) (Ma_19 : Nat) (Ma_20 : Nat) (Mv_0 : Int32) (Mv_1 : Int32) (Mv_2 : Int32) (Mv_3 : Int32) (Mv_4 : Int32) (Mv_6 : Int32) (Mv_7 : Int32) (Mv_8 : Int32) (Mv_9 : Int32) (Mv_10 : Int32) (Mv_11 : Int32) (Mv_12 : Int32) (Mv_13 : Int32) (Mv_14 : Int32) (Mf_1 : Nat → Int32) (Mf_3 : Nat → Int32) (Mf_6 : Nat → Int32) (Mj_0 : Int64) (h_tp : 0 ≤ (Mv_0 : Int32).toInt ∧ (Mv_0 : Int32).toInt ≤ 400) (h_ro : RdO Mf_6) (h_bs : ByS Mf_1) (h_z0 : (Mf_6 0).toInt = 0 ∧ (Mf_6 2).toInt = 0 ∧ (Mf_6 3).toInt = 0) : Ct l yX12_readsAll cX12_readsAll 2 (some .boolean) { frames := 6, cells := 0, slots := 0, locals := 137 } D tc sk [.ref Ma_0] [(Ma_0, .inr (12, [.ref Ma_1, .int Mv_0, .int Mv_1, .ref Ma_2, .ref Ma_3, .ref Ma_4, .ref Ma_5, .ref Ma_6, .int Mv_2, .int Mv_3, .int Mv_4, .int 6, .int Mv_6, .int Mv_7, .int Mv_8, .ref Ma_7, .int Mv_9, .ref Ma_8, .int Mv_10, .ref Ma_9, .ref Ma_10, .int Mv_11, .int Mv_12, .int Mv_13, .ref Ma_11, .int Mv_14, .ref Ma_12, .ref Ma_13, .ref Ma_14, .ref Ma_15, .ref Ma_16, .long Mj_0, .ref Ma_17, .ref Ma_18, .ref Ma_19, .ref Ma_20])), (Ma_1, .inl (tc 2, 400, .inl Mf_1)), (Ma_3, .inl (tc 0, 7, .inl Mf_3)), (Ma_6, .inl (tc 0, 95, .inl Mf_6))] (fun (v : Option Value) (u : (Int32) × (Int32) × (Int32) × (Int32) × (Nat → Int32) × (Nat → Int32)) => match u with | (oo0x1, oo0x2, oo0x3, oo0x4, oo0x5, oo0x6) => ∃ r : Int32, v = some (.int r) ∧ (((r.toInt = 0 ∧ ¬ (oo0x2 : Int32).toInt = 0) ∨ (r.toInt = 1 ∧ (oo0x2 : Int32).toInt = 0))) ∧ (BkR (rB Mf_1 Mv_0) oo0x2 (oo0x6 3)) ∧ (r.toInt = 1 → (RdO oo0x6))) (fun (u : (Int32) × (Int32) × (Int32) × (Int32) × (Nat → Int32) × (Nat → Int32)) => match u with | (oo0x1, oo0x2, oo0x3, oo0x4, oo0x5, oo0x6) => [(Ma_0, .inr (12, [.ref Ma_1, .int 0, .int Mv_1, .ref Ma_2, .ref Ma_3, .ref Ma_4, .ref Ma_5, .ref Ma_6, .int oo0x1, .int oo0x2, .int oo0x3, .int 6, .int 0, .int Mv_7, .int oo0x4, .ref Ma_7, .int Mv_9, .ref Ma_8, .int Mv_10, .ref Ma_9, .ref Ma_10, .int Mv_11, .int Mv_12, .int Mv_13, .ref Ma_11, .int Mv_14, .ref Ma_12, .ref Ma_13, .ref Ma_14, .ref Ma_15, .ref Ma_16, .long Mj_0, .ref Ma_17, .ref Ma_18, .ref Ma_19, .ref Ma_20])), (Ma_1, .inl (tc 2, 400, .inl Mf_1)), (Ma_3, .inl (tc 0, 7, .inl oo0x5)), (Ma_6, .inl (tc 0, 95, .inl oo0x6))]) 0 0 :=
  ct_fX12_readsAll_b l D tc sk (fun k => ([Ma_0, Ma_1, Ma_2, Ma_3, Ma_4, Ma_5, Ma_6, Ma_7, Ma_8, Ma_9, Ma_10, Ma_11, Ma_12, Ma_13, Ma_14, Ma_15, Ma_16, Ma_17, Ma_18, Ma_19, Ma_20] : List (Nat)).getD k 0) (fun k => ([Mv_0, Mv_1, Mv_2, Mv_3, Mv_4, 0, Mv_6, Mv_7, Mv_8, Mv_9, Mv_10, Mv_11, Mv_12, Mv_13, Mv_14] : List (Int32)).getD k 0) (fun k => ([(fun _ => 0), Mf_1, (fun _ => 0), Mf_3, (fun _ => 0), (fun _ => 0), Mf_6] : List (Nat → Int32)).getD k (fun _ => 0)) (fun k => ([Mj_0] : List (Int64)).getD k 0) h_tp h_ro h_bs h_z0
set_option maxHeartbeats 4000000 in
set_option maxRecDepth 100000 in
theorem ct_fX12_begins (l : Launch) (D : va_G) (tc : Nat → ClassId) (sk : (Nat → Nat) × (Nat → Nat)) (Ma : Nat → Nat) (Mv : Nat → Int32) (Mf : Nat → Nat → Int32) (Mj : Nat → Int64) (h_said : SaidB (Mf 10)) (h_s3 : Sd3 (Mf 10) (Mf 10)) : Ct l yX12_begins cX12_begins 3 none { frames := 0, cells := 0, slots := 0, locals := 0 } D tc sk [.ref (Ma 0)] [((Ma 0), .inr (12, [.ref (Ma 1), .int (Mv 0), .int (Mv 1), .ref (Ma 2), .ref (Ma 3), .ref (Ma 4), .ref (Ma 5), .ref (Ma 6), .int (Mv 2), .int (Mv 3), .int (Mv 4), .int (Mv 5), .int (Mv 6), .int (Mv 7), .int (Mv 8), .ref (Ma 7), .int (Mv 9), .ref (Ma 8), .int (Mv 10), .ref (Ma 9), .ref (Ma 10), .int (Mv 11), .int (Mv 12), .int (Mv 13), .ref (Ma 11), .int (Mv 14), .ref (Ma 12), .ref (Ma 13), .ref (Ma 14), .ref (Ma 15), .ref (Ma 16), .long (Mj 0), .ref (Ma 17), .ref (Ma 18), .ref (Ma 19), .ref (Ma 20)])), ((Ma 10), .inl (tc 0, 126, .inl (Mf 10)))] (fun (v : Option Value) (oo0x1 : Nat → Int32) => v = none ∧ (SaidD oo0x1 0) ∧ (Sd3 (Mf 10) oo0x1)) (fun (oo0x1 : Nat → Int32) => [((Ma 0), .inr (12, [.ref (Ma 1), .int (Mv 0), .int (Mv 1), .ref (Ma 2), .ref (Ma 3), .ref (Ma 4), .ref (Ma 5), .ref (Ma 6), .int (Mv 2), .int (Mv 3), .int (Mv 4), .int (Mv 5), .int (Mv 6), .int (Mv 7), .int (Mv 8), .ref (Ma 7), .int (Mv 9), .ref (Ma 8), .int (Mv 10), .ref (Ma 9), .ref (Ma 10), .int (Mv 11), .int (Mv 12), .int (Mv 13), .ref (Ma 11), .int (Mv 14), .ref (Ma 12), .ref (Ma 13), .ref (Ma 14), .ref (Ma 15), .ref (Ma 16), .long (Mj 0), .ref (Ma 17), .ref (Ma 18), .ref (Ma 19), .ref (Ma 20)])), ((Ma 10), .inl (tc 0, 126, .inl oo0x1))]) 0 0 := by
  refine Ct.start (by decide) (Nat.le_of_ble_eq_true rfl) (fun p e s m below meth c A ls hx hb hr hlk hin hml hown hts hK hX hP hD hA hl hS => ?_)
  have hl : lv_has ls 3 [(0, .ref (Ma 0))] := hl
  have ar_h_said := SaidB.al h_said
  have ar_h_s3 : ((Mf 10) 3).toInt = ((Mf 10) 3).toInt := congrArg Int32.toInt h_s3
  refine lv_aload_n hx hb dX12_begins_0 rfl (lv_at hl 0 rfl) ?_
  refine gf_X12_39 hx hb hts hown hK hP 0 rfl rfl dX12_begins_1 ?_
  refine lv_bipush (v := 10) hx hb dX12_begins_4 (by decide) ?_
  refine lv_iconst (v := 0) hx hb dX12_begins_6 (by decide) ?_
  refine st_int hx hb hK hP hD hS 1 0 rfl rfl (vin_dec (by decide +kernel)) dX12_begins_7 (fun g_1 H locs eg_1 hP₀ hD₀ hS₀ => ?_)
  replace hP : va_P D classes [((Ma 0), .inr (12, [.ref (Ma 1), .int (Mv 0), .int (Mv 1), .ref (Ma 2), .ref (Ma 3), .ref (Ma 4), .ref (Ma 5), .ref (Ma 6), .int (Mv 2), .int (Mv 3), .int (Mv 4), .int (Mv 5), .int (Mv 6), .int (Mv 7), .int (Mv 8), .ref (Ma 7), .int (Mv 9), .ref (Ma 8), .int (Mv 10), .ref (Ma 9), .ref (Ma 10), .int (Mv 11), .int (Mv 12), .int (Mv 13), .ref (Ma 11), .int (Mv 14), .ref (Ma 12), .ref (Ma 13), .ref (Ma 14), .ref (Ma 15), .ref (Ma 16), .long (Mj 0), .ref (Ma 17), .ref (Ma 18), .ref (Ma 19), .ref (Ma 20)])), ((Ma 10), .inl (tc 0, 126, .inl g_1))] H := hP₀
  replace hD : va_D A [((Ma 0), .inr (12, [.ref (Ma 1), .int (Mv 0), .int (Mv 1), .ref (Ma 2), .ref (Ma 3), .ref (Ma 4), .ref (Ma 5), .ref (Ma 6), .int (Mv 2), .int (Mv 3), .int (Mv 4), .int (Mv 5), .int (Mv 6), .int (Mv 7), .int (Mv 8), .ref (Ma 7), .int (Mv 9), .ref (Ma 8), .int (Mv 10), .ref (Ma 9), .ref (Ma 10), .int (Mv 11), .int (Mv 12), .int (Mv 13), .ref (Ma 11), .int (Mv 14), .ref (Ma 12), .ref (Ma 13), .ref (Ma 14), .ref (Ma 15), .ref (Ma 16), .long (Mj 0), .ref (Ma 17), .ref (Ma 18), .ref (Ma 19), .ref (Ma 20)])), ((Ma 10), .inl (tc 0, 126, .inl g_1))] := hD₀
  replace hS := hS₀
  clear hP₀ hD₀ hS₀
  have pf_2 : SaidD g_1 0 := SaidD.day h_said eg_1 (by decide) (by decide)
  have ar_pf_2 := SaidD.al pf_2
  have hr_4 : 4 ≤ (10 : Int32).toInt := by
    have y_10 : (10 : Int32).toInt = 10 := by decide
    omega
  have pf_3 : Sd3 (Mf 10) g_1 := Sd3.up h_s3 eg_1 hr_4
  have ar_pf_3 : (g_1 3).toInt = ((Mf 10) 3).toInt := congrArg Int32.toInt pf_3
  refine lv_aload_n hx hb dX12_begins_8 rfl (lv_at hl 0 rfl) ?_
  refine gf_X12_39 hx hb hts hown hK hP 0 rfl rfl dX12_begins_9 ?_
  refine lv_bipush (v := 11) hx hb dX12_begins_12 (by decide) ?_
  refine lv_aload_n hx hb dX12_begins_14 rfl (lv_at hl 0 rfl) ?_
  refine gf_X12_39 hx hb hts hown hK hP 0 rfl rfl dX12_begins_15 ?_
  refine lv_bipush (v := 94) hx hb dX12_begins_18 (by decide) ?_
  refine va_iald hx hb hK hP 1 0 rfl rfl (vin_dec (by decide +kernel)) dX12_begins_20 ?_
  refine lv_topi (fun x_5 ex_5 => ?_)
  have lx_5 : x_5.toInt = (g_1 94).toInt := congrArg Int32.toInt ex_5
  refine st_int hx hb hK hP hD hS 1 0 rfl rfl (vin_dec (by decide +kernel)) dX12_begins_21 (fun g_6 H locs eg_6 hP₀ hD₀ hS₀ => ?_)
  replace hP : va_P D classes [((Ma 0), .inr (12, [.ref (Ma 1), .int (Mv 0), .int (Mv 1), .ref (Ma 2), .ref (Ma 3), .ref (Ma 4), .ref (Ma 5), .ref (Ma 6), .int (Mv 2), .int (Mv 3), .int (Mv 4), .int (Mv 5), .int (Mv 6), .int (Mv 7), .int (Mv 8), .ref (Ma 7), .int (Mv 9), .ref (Ma 8), .int (Mv 10), .ref (Ma 9), .ref (Ma 10), .int (Mv 11), .int (Mv 12), .int (Mv 13), .ref (Ma 11), .int (Mv 14), .ref (Ma 12), .ref (Ma 13), .ref (Ma 14), .ref (Ma 15), .ref (Ma 16), .long (Mj 0), .ref (Ma 17), .ref (Ma 18), .ref (Ma 19), .ref (Ma 20)])), ((Ma 10), .inl (tc 0, 126, .inl g_6))] H := hP₀
  replace hD : va_D A [((Ma 0), .inr (12, [.ref (Ma 1), .int (Mv 0), .int (Mv 1), .ref (Ma 2), .ref (Ma 3), .ref (Ma 4), .ref (Ma 5), .ref (Ma 6), .int (Mv 2), .int (Mv 3), .int (Mv 4), .int (Mv 5), .int (Mv 6), .int (Mv 7), .int (Mv 8), .ref (Ma 7), .int (Mv 9), .ref (Ma 8), .int (Mv 10), .ref (Ma 9), .ref (Ma 10), .int (Mv 11), .int (Mv 12), .int (Mv 13), .ref (Ma 11), .int (Mv 14), .ref (Ma 12), .ref (Ma 13), .ref (Ma 14), .ref (Ma 15), .ref (Ma 16), .long (Mj 0), .ref (Ma 17), .ref (Ma 18), .ref (Ma 19), .ref (Ma 20)])), ((Ma 10), .inl (tc 0, 126, .inl g_6))] := hD₀
  replace hS := hS₀
  clear hP₀ hD₀ hS₀
  have pf_7 : SaidD g_6 0 := SaidD.keep pf_2 eg_6 (by decide)
  have ar_pf_7 := SaidD.al pf_7
  have hr_9 : 4 ≤ (11 : Int32).toInt := by
    have y_11 : (11 : Int32).toInt = 11 := by decide
    omega
  have pf_8 : Sd3 (Mf 10) g_6 := Sd3.up pf_3 eg_6 hr_9
  have ar_pf_8 : (g_6 3).toInt = ((Mf 10) 3).toInt := congrArg Int32.toInt pf_8
  refine lv_iconst (v := 0) hx hb dX12_begins_22 (by decide) ?_
  refine lv_istore_n (lv' := [(1, .int 0), (0, .ref (Ma 0))]) hx hb dX12_begins_23 rfl hl (by decide) rfl (fun ls hl₀ => ?_)
  replace hl := hl₀
  clear hl₀
  have loop_16 : ∀ (n_14 : Nat) (vy_12 : Int32) (vy_13 : Nat → Int32) (H : Heap) (locs : List Loc) (ls : Array Slot), (6 - (vy_12 : Int32).toInt).toNat < n_14 → (0 ≤ (vy_12 : Int32).toInt) → (SaidD vy_13 0) → (Sd3 (Mf 10) vy_13) → va_P D classes [((Ma 0), .inr (12, [.ref (Ma 1), .int (Mv 0), .int (Mv 1), .ref (Ma 2), .ref (Ma 3), .ref (Ma 4), .ref (Ma 5), .ref (Ma 6), .int (Mv 2), .int (Mv 3), .int (Mv 4), .int (Mv 5), .int (Mv 6), .int (Mv 7), .int (Mv 8), .ref (Ma 7), .int (Mv 9), .ref (Ma 8), .int (Mv 10), .ref (Ma 9), .ref (Ma 10), .int (Mv 11), .int (Mv 12), .int (Mv 13), .ref (Ma 11), .int (Mv 14), .ref (Ma 12), .ref (Ma 13), .ref (Ma 14), .ref (Ma 15), .ref (Ma 16), .long (Mj 0), .ref (Ma 17), .ref (Ma 18), .ref (Ma 19), .ref (Ma 20)])), ((Ma 10), .inl (tc 0, 126, .inl vy_13))] H → va_D A [((Ma 0), .inr (12, [.ref (Ma 1), .int (Mv 0), .int (Mv 1), .ref (Ma 2), .ref (Ma 3), .ref (Ma 4), .ref (Ma 5), .ref (Ma 6), .int (Mv 2), .int (Mv 3), .int (Mv 4), .int (Mv 5), .int (Mv 6), .int (Mv 7), .int (Mv 8), .ref (Ma 7), .int (Mv 9), .ref (Ma 8), .int (Mv 10), .ref (Ma 9), .ref (Ma 10), .int (Mv 11), .int (Mv 12), .int (Mv 13), .ref (Ma 11), .int (Mv 14), .ref (Ma 12), .ref (Ma 13), .ref (Ma 14), .ref (Ma 15), .ref (Ma 16), .long (Mj 0), .ref (Ma 17), .ref (Ma 18), .ref (Ma 19), .ref (Ma 20)])), ((Ma 10), .inl (tc 0, 126, .inl vy_13))] → va_S A s.heap H locs → lv_has ls 3 [(1, .int vy_12), (0, .ref (Ma 0))] → W p l e ({ frames := 0, cells := 0, slots := 0, locals := 0 }) s m ([.ref (Ma 0)].toArray) below meth c H locs 0 0 (MQ below (QW (fun (v : Option Value) (oo0x1 : Nat → Int32) => v = none ∧ (SaidD oo0x1 0) ∧ (Sd3 (Mf 10) oo0x1)) (BW D (fun (oo0x1 : Nat → Int32) => [((Ma 0), .inr (12, [.ref (Ma 1), .int (Mv 0), .int (Mv 1), .ref (Ma 2), .ref (Ma 3), .ref (Ma 4), .ref (Ma 5), .ref (Ma 6), .int (Mv 2), .int (Mv 3), .int (Mv 4), .int (Mv 5), .int (Mv 6), .int (Mv 7), .int (Mv 8), .ref (Ma 7), .int (Mv 9), .ref (Ma 8), .int (Mv 10), .ref (Ma 9), .ref (Ma 10), .int (Mv 11), .int (Mv 12), .int (Mv 13), .ref (Ma 11), .int (Mv 14), .ref (Ma 12), .ref (Ma 13), .ref (Ma 14), .ref (Ma 15), .ref (Ma 16), .long (Mj 0), .ref (Ma 17), .ref (Ma 18), .ref (Ma 19), .ref (Ma 20)])), ((Ma 10), .inl (tc 0, 126, .inl oo0x1))]) A) A) ([.ref (Ma 0)].toArray) s 0 0 A) (F0 m 24 ls []) := by
    clear hP hD hS hl
    intro n_14
    induction n_14 with
    | zero =>
      intro vy_12 vy_13 H locs ls h1
      exact absurd h1 (Nat.not_lt_zero _)
    | succ n_14 ih_15 =>
      intro vy_12 vy_13 H locs ls hn_20 pf_17 pf_18 pf_19 hP hD hS hl
      have ar_pf_18 := SaidD.al pf_18
      have ar_pf_19 : (vy_13 3).toInt = ((Mf 10) 3).toInt := congrArg Int32.toInt pf_19
      refine lv_iload_n hx hb dX12_begins_24 rfl (lv_at hl 0 rfl) ?_
      refine lv_bipush (v := 6) hx hb dX12_begins_25 (by decide) ?_
      refine lv_icmp_ge (tgt := 85) hx hb dX12_begins_27 (by decide) (fun c_21 => ?_) (fun c_21 => ?_)
      · skip
        refine lv_iconst (v := 0) hx hb dX12_begins_85 (by decide) ?_
        refine lv_istore_n (lv' := [(1, .int 0), (0, .ref (Ma 0))]) hx hb dX12_begins_86 rfl hl (by decide) rfl (fun ls hl₀ => ?_)
        replace hl := hl₀
        clear hl₀
        have loop_28 : ∀ (n_26 : Nat) (vy_24 : Int32) (vy_25 : Nat → Int32) (H : Heap) (locs : List Loc) (ls : Array Slot), (10 - (vy_24 : Int32).toInt).toNat < n_26 → (0 ≤ (vy_24 : Int32).toInt) → (SaidD vy_25 0) → (Sd3 (Mf 10) vy_25) → va_P D classes [((Ma 0), .inr (12, [.ref (Ma 1), .int (Mv 0), .int (Mv 1), .ref (Ma 2), .ref (Ma 3), .ref (Ma 4), .ref (Ma 5), .ref (Ma 6), .int (Mv 2), .int (Mv 3), .int (Mv 4), .int (Mv 5), .int (Mv 6), .int (Mv 7), .int (Mv 8), .ref (Ma 7), .int (Mv 9), .ref (Ma 8), .int (Mv 10), .ref (Ma 9), .ref (Ma 10), .int (Mv 11), .int (Mv 12), .int (Mv 13), .ref (Ma 11), .int (Mv 14), .ref (Ma 12), .ref (Ma 13), .ref (Ma 14), .ref (Ma 15), .ref (Ma 16), .long (Mj 0), .ref (Ma 17), .ref (Ma 18), .ref (Ma 19), .ref (Ma 20)])), ((Ma 10), .inl (tc 0, 126, .inl vy_25))] H → va_D A [((Ma 0), .inr (12, [.ref (Ma 1), .int (Mv 0), .int (Mv 1), .ref (Ma 2), .ref (Ma 3), .ref (Ma 4), .ref (Ma 5), .ref (Ma 6), .int (Mv 2), .int (Mv 3), .int (Mv 4), .int (Mv 5), .int (Mv 6), .int (Mv 7), .int (Mv 8), .ref (Ma 7), .int (Mv 9), .ref (Ma 8), .int (Mv 10), .ref (Ma 9), .ref (Ma 10), .int (Mv 11), .int (Mv 12), .int (Mv 13), .ref (Ma 11), .int (Mv 14), .ref (Ma 12), .ref (Ma 13), .ref (Ma 14), .ref (Ma 15), .ref (Ma 16), .long (Mj 0), .ref (Ma 17), .ref (Ma 18), .ref (Ma 19), .ref (Ma 20)])), ((Ma 10), .inl (tc 0, 126, .inl vy_25))] → va_S A s.heap H locs → lv_has ls 3 [(1, .int vy_24), (0, .ref (Ma 0))] → W p l e ({ frames := 0, cells := 0, slots := 0, locals := 0 }) s m ([.ref (Ma 0)].toArray) below meth c H locs 0 0 (MQ below (QW (fun (v : Option Value) (oo0x1 : Nat → Int32) => v = none ∧ (SaidD oo0x1 0) ∧ (Sd3 (Mf 10) oo0x1)) (BW D (fun (oo0x1 : Nat → Int32) => [((Ma 0), .inr (12, [.ref (Ma 1), .int (Mv 0), .int (Mv 1), .ref (Ma 2), .ref (Ma 3), .ref (Ma 4), .ref (Ma 5), .ref (Ma 6), .int (Mv 2), .int (Mv 3), .int (Mv 4), .int (Mv 5), .int (Mv 6), .int (Mv 7), .int (Mv 8), .ref (Ma 7), .int (Mv 9), .ref (Ma 8), .int (Mv 10), .ref (Ma 9), .ref (Ma 10), .int (Mv 11), .int (Mv 12), .int (Mv 13), .ref (Ma 11), .int (Mv 14), .ref (Ma 12), .ref (Ma 13), .ref (Ma 14), .ref (Ma 15), .ref (Ma 16), .long (Mj 0), .ref (Ma 17), .ref (Ma 18), .ref (Ma 19), .ref (Ma 20)])), ((Ma 10), .inl (tc 0, 126, .inl oo0x1))]) A) A) ([.ref (Ma 0)].toArray) s 0 0 A) (F0 m 87 ls []) := by
          clear hP hD hS hl
          intro n_26
          induction n_26 with
          | zero =>
            intro vy_24 vy_25 H locs ls h1
            exact absurd h1 (Nat.not_lt_zero _)
          | succ n_26 ih_27 =>
            intro vy_24 vy_25 H locs ls hn_32 pf_29 pf_30 pf_31 hP hD hS hl
            have ar_pf_30 := SaidD.al pf_30
            have ar_pf_31 : (vy_25 3).toInt = ((Mf 10) 3).toInt := congrArg Int32.toInt pf_31
            refine lv_iload_n hx hb dX12_begins_87 rfl (lv_at hl 0 rfl) ?_
            refine lv_bipush (v := 10) hx hb dX12_begins_88 (by decide) ?_
            refine lv_icmp_ge (tgt := 135) hx hb dX12_begins_90 (by decide) (fun c_33 => ?_) (fun c_33 => ?_)
            · skip
              exact retV hx hb hr hlk hP hD hS vy_25 ⟨rfl, pf_30, pf_31⟩ [0, 1] rfl rfl dX12_begins_135 (Nat.le_of_ble_eq_true rfl) (Nat.le_of_ble_eq_true rfl) rfl
            · skip
              refine lv_aload_n hx hb dX12_begins_93 rfl (lv_at hl 1 rfl) ?_
              refine gf_X12_39 hx hb hts hown hK hP 0 rfl rfl dX12_begins_94 ?_
              refine lv_bipush (v := 36) hx hb dX12_begins_97 (by decide) ?_
              refine lv_iload_n hx hb dX12_begins_99 rfl (lv_at hl 0 rfl) ?_
              refine lv_iadd hx hb dX12_begins_100 ?_
              refine lv_topi (fun x_34 ex_34 => ?_)
              refine lv_aload_n hx hb dX12_begins_101 rfl (lv_at hl 1 rfl) ?_
              refine gf_X12_39 hx hb hts hown hK hP 0 rfl rfl dX12_begins_102 ?_
              refine lv_bipush (v := 74) hx hb dX12_begins_105 (by decide) ?_
              refine lv_iload_n hx hb dX12_begins_107 rfl (lv_at hl 0 rfl) ?_
              refine lv_iadd hx hb dX12_begins_108 ?_
              refine lv_topi (fun x_35 ex_35 => ?_)
              have hi_36 : vp_in x_35 126 := by
                have z_1 := Int32.le_iff_toInt_le.mp c_21
                have z_2 := Int32.lt_iff_toInt_lt.mp (Int32.not_le.mp c_33)
                have y_6 : (6 : Int32).toInt = 6 := by decide
                have y_10 : (10 : Int32).toInt = 10 := by decide
                have y_74 : (74 : Int32).toInt = 74 := by decide
                have t_x_35 : x_35.toInt = (74 : Int32).toInt + (vy_24 : Int32).toInt := by rw [ex_35]; exact add_toInt (by omega) (by omega)
                refine vp_in_iff.mpr ⟨?_, ?_⟩ <;> omega
              refine va_iald hx hb hK hP 1 0 rfl rfl hi_36 dX12_begins_109 ?_
              refine lv_topi (fun x_37 ex_37 => ?_)
              have hi_38 : vp_in x_34 126 := by
                have z_1 := Int32.le_iff_toInt_le.mp c_21
                have z_2 := Int32.lt_iff_toInt_lt.mp (Int32.not_le.mp c_33)
                have y_6 : (6 : Int32).toInt = 6 := by decide
                have y_10 : (10 : Int32).toInt = 10 := by decide
                have y_36 : (36 : Int32).toInt = 36 := by decide
                have t_x_34 : x_34.toInt = (36 : Int32).toInt + (vy_24 : Int32).toInt := by rw [ex_34]; exact add_toInt (by omega) (by omega)
                refine vp_in_iff.mpr ⟨?_, ?_⟩ <;> omega
              refine st_int hx hb hK hP hD hS 1 0 rfl rfl hi_38 dX12_begins_110 (fun g_39 H locs eg_39 hP₀ hD₀ hS₀ => ?_)
              replace hP : va_P D classes [((Ma 0), .inr (12, [.ref (Ma 1), .int (Mv 0), .int (Mv 1), .ref (Ma 2), .ref (Ma 3), .ref (Ma 4), .ref (Ma 5), .ref (Ma 6), .int (Mv 2), .int (Mv 3), .int (Mv 4), .int (Mv 5), .int (Mv 6), .int (Mv 7), .int (Mv 8), .ref (Ma 7), .int (Mv 9), .ref (Ma 8), .int (Mv 10), .ref (Ma 9), .ref (Ma 10), .int (Mv 11), .int (Mv 12), .int (Mv 13), .ref (Ma 11), .int (Mv 14), .ref (Ma 12), .ref (Ma 13), .ref (Ma 14), .ref (Ma 15), .ref (Ma 16), .long (Mj 0), .ref (Ma 17), .ref (Ma 18), .ref (Ma 19), .ref (Ma 20)])), ((Ma 10), .inl (tc 0, 126, .inl g_39))] H := hP₀
              replace hD : va_D A [((Ma 0), .inr (12, [.ref (Ma 1), .int (Mv 0), .int (Mv 1), .ref (Ma 2), .ref (Ma 3), .ref (Ma 4), .ref (Ma 5), .ref (Ma 6), .int (Mv 2), .int (Mv 3), .int (Mv 4), .int (Mv 5), .int (Mv 6), .int (Mv 7), .int (Mv 8), .ref (Ma 7), .int (Mv 9), .ref (Ma 8), .int (Mv 10), .ref (Ma 9), .ref (Ma 10), .int (Mv 11), .int (Mv 12), .int (Mv 13), .ref (Ma 11), .int (Mv 14), .ref (Ma 12), .ref (Ma 13), .ref (Ma 14), .ref (Ma 15), .ref (Ma 16), .long (Mj 0), .ref (Ma 17), .ref (Ma 18), .ref (Ma 19), .ref (Ma 20)])), ((Ma 10), .inl (tc 0, 126, .inl g_39))] := hD₀
              replace hS := hS₀
              clear hP₀ hD₀ hS₀
              have hx_41 : (x_34 : Int32).toNatClampNeg = 1 ∨ (4 ≤ (x_34 : Int32).toNatClampNeg ∧ (x_34 : Int32).toNatClampNeg < 10) ∨ (11 ≤ (x_34 : Int32).toNatClampNeg ∧ (x_34 : Int32).toNatClampNeg < 95) := by
                have z_1 := Int32.le_iff_toInt_le.mp c_21
                have z_2 := Int32.lt_iff_toInt_lt.mp (Int32.not_le.mp c_33)
                have y_6 : (6 : Int32).toInt = 6 := by decide
                have y_10 : (10 : Int32).toInt = 10 := by decide
                have y_36 : (36 : Int32).toInt = 36 := by decide
                have t_x_34 : x_34.toInt = (36 : Int32).toInt + (vy_24 : Int32).toInt := by rw [ex_34]; exact add_toInt (by omega) (by omega)
                have hcl : (x_34 : Int32).toNatClampNeg = (x_34 : Int32).toInt.toNat := rfl
                omega
              have pf_40 : SaidD g_39 0 := SaidD.keep pf_30 eg_39 hx_41
              have ar_pf_40 := SaidD.al pf_40
              have hr_43 : 4 ≤ (x_34 : Int32).toInt := by
                have z_1 := Int32.le_iff_toInt_le.mp c_21
                have z_2 := Int32.lt_iff_toInt_lt.mp (Int32.not_le.mp c_33)
                have y_6 : (6 : Int32).toInt = 6 := by decide
                have y_10 : (10 : Int32).toInt = 10 := by decide
                have y_36 : (36 : Int32).toInt = 36 := by decide
                have t_x_34 : x_34.toInt = (36 : Int32).toInt + (vy_24 : Int32).toInt := by rw [ex_34]; exact add_toInt (by omega) (by omega)
                omega
              have pf_42 : Sd3 (Mf 10) g_39 := Sd3.up pf_31 eg_39 hr_43
              have ar_pf_42 : (g_39 3).toInt = ((Mf 10) 3).toInt := congrArg Int32.toInt pf_42
              refine lv_aload_n hx hb dX12_begins_111 rfl (lv_at hl 1 rfl) ?_
              refine gf_X12_39 hx hb hts hown hK hP 0 rfl rfl dX12_begins_112 ?_
              refine lv_bipush (v := 46) hx hb dX12_begins_115 (by decide) ?_
              refine lv_iload_n hx hb dX12_begins_117 rfl (lv_at hl 0 rfl) ?_
              refine lv_iadd hx hb dX12_begins_118 ?_
              refine lv_topi (fun x_44 ex_44 => ?_)
              refine lv_aload_n hx hb dX12_begins_119 rfl (lv_at hl 1 rfl) ?_
              refine gf_X12_39 hx hb hts hown hK hP 0 rfl rfl dX12_begins_120 ?_
              refine lv_bipush (v := 84) hx hb dX12_begins_123 (by decide) ?_
              refine lv_iload_n hx hb dX12_begins_125 rfl (lv_at hl 0 rfl) ?_
              refine lv_iadd hx hb dX12_begins_126 ?_
              refine lv_topi (fun x_45 ex_45 => ?_)
              have hi_46 : vp_in x_45 126 := by
                have z_1 := Int32.le_iff_toInt_le.mp c_21
                have z_2 := Int32.lt_iff_toInt_lt.mp (Int32.not_le.mp c_33)
                have y_6 : (6 : Int32).toInt = 6 := by decide
                have y_10 : (10 : Int32).toInt = 10 := by decide
                have y_84 : (84 : Int32).toInt = 84 := by decide
                have t_x_45 : x_45.toInt = (84 : Int32).toInt + (vy_24 : Int32).toInt := by rw [ex_45]; exact add_toInt (by omega) (by omega)
                refine vp_in_iff.mpr ⟨?_, ?_⟩ <;> omega
              refine va_iald hx hb hK hP 1 0 rfl rfl hi_46 dX12_begins_127 ?_
              refine lv_topi (fun x_47 ex_47 => ?_)
              have hi_48 : vp_in x_44 126 := by
                have z_1 := Int32.le_iff_toInt_le.mp c_21
                have z_2 := Int32.lt_iff_toInt_lt.mp (Int32.not_le.mp c_33)
                have y_6 : (6 : Int32).toInt = 6 := by decide
                have y_10 : (10 : Int32).toInt = 10 := by decide
                have y_46 : (46 : Int32).toInt = 46 := by decide
                have t_x_44 : x_44.toInt = (46 : Int32).toInt + (vy_24 : Int32).toInt := by rw [ex_44]; exact add_toInt (by omega) (by omega)
                refine vp_in_iff.mpr ⟨?_, ?_⟩ <;> omega
              refine st_int hx hb hK hP hD hS 1 0 rfl rfl hi_48 dX12_begins_128 (fun g_49 H locs eg_49 hP₀ hD₀ hS₀ => ?_)
              replace hP : va_P D classes [((Ma 0), .inr (12, [.ref (Ma 1), .int (Mv 0), .int (Mv 1), .ref (Ma 2), .ref (Ma 3), .ref (Ma 4), .ref (Ma 5), .ref (Ma 6), .int (Mv 2), .int (Mv 3), .int (Mv 4), .int (Mv 5), .int (Mv 6), .int (Mv 7), .int (Mv 8), .ref (Ma 7), .int (Mv 9), .ref (Ma 8), .int (Mv 10), .ref (Ma 9), .ref (Ma 10), .int (Mv 11), .int (Mv 12), .int (Mv 13), .ref (Ma 11), .int (Mv 14), .ref (Ma 12), .ref (Ma 13), .ref (Ma 14), .ref (Ma 15), .ref (Ma 16), .long (Mj 0), .ref (Ma 17), .ref (Ma 18), .ref (Ma 19), .ref (Ma 20)])), ((Ma 10), .inl (tc 0, 126, .inl g_49))] H := hP₀
              replace hD : va_D A [((Ma 0), .inr (12, [.ref (Ma 1), .int (Mv 0), .int (Mv 1), .ref (Ma 2), .ref (Ma 3), .ref (Ma 4), .ref (Ma 5), .ref (Ma 6), .int (Mv 2), .int (Mv 3), .int (Mv 4), .int (Mv 5), .int (Mv 6), .int (Mv 7), .int (Mv 8), .ref (Ma 7), .int (Mv 9), .ref (Ma 8), .int (Mv 10), .ref (Ma 9), .ref (Ma 10), .int (Mv 11), .int (Mv 12), .int (Mv 13), .ref (Ma 11), .int (Mv 14), .ref (Ma 12), .ref (Ma 13), .ref (Ma 14), .ref (Ma 15), .ref (Ma 16), .long (Mj 0), .ref (Ma 17), .ref (Ma 18), .ref (Ma 19), .ref (Ma 20)])), ((Ma 10), .inl (tc 0, 126, .inl g_49))] := hD₀
              replace hS := hS₀
              clear hP₀ hD₀ hS₀
              have hx_51 : (x_44 : Int32).toNatClampNeg = 1 ∨ (4 ≤ (x_44 : Int32).toNatClampNeg ∧ (x_44 : Int32).toNatClampNeg < 10) ∨ (11 ≤ (x_44 : Int32).toNatClampNeg ∧ (x_44 : Int32).toNatClampNeg < 95) := by
                have z_1 := Int32.le_iff_toInt_le.mp c_21
                have z_2 := Int32.lt_iff_toInt_lt.mp (Int32.not_le.mp c_33)
                have y_6 : (6 : Int32).toInt = 6 := by decide
                have y_10 : (10 : Int32).toInt = 10 := by decide
                have y_46 : (46 : Int32).toInt = 46 := by decide
                have t_x_44 : x_44.toInt = (46 : Int32).toInt + (vy_24 : Int32).toInt := by rw [ex_44]; exact add_toInt (by omega) (by omega)
                have hcl : (x_44 : Int32).toNatClampNeg = (x_44 : Int32).toInt.toNat := rfl
                omega
              have pf_50 : SaidD g_49 0 := SaidD.keep pf_40 eg_49 hx_51
              have ar_pf_50 := SaidD.al pf_50
              have hr_53 : 4 ≤ (x_44 : Int32).toInt := by
                have z_1 := Int32.le_iff_toInt_le.mp c_21
                have z_2 := Int32.lt_iff_toInt_lt.mp (Int32.not_le.mp c_33)
                have y_6 : (6 : Int32).toInt = 6 := by decide
                have y_10 : (10 : Int32).toInt = 10 := by decide
                have y_46 : (46 : Int32).toInt = 46 := by decide
                have t_x_44 : x_44.toInt = (46 : Int32).toInt + (vy_24 : Int32).toInt := by rw [ex_44]; exact add_toInt (by omega) (by omega)
                omega
              have pf_52 : Sd3 (Mf 10) g_49 := Sd3.up pf_42 eg_49 hr_53
              have ar_pf_52 : (g_49 3).toInt = ((Mf 10) 3).toInt := congrArg Int32.toInt pf_52
              obtain ⟨x_54, ex_54⟩ : ∃ y : Int32, y = vy_24 + 1 := ⟨_, rfl⟩
              refine lv_iinc (v := x_54) (lv' := [(1, .int x_54), (0, .ref (Ma 0))]) hx hb dX12_begins_129 hl (k := 0) rfl (by rw [ex_54]; rfl) (by decide) rfl (fun ls hl₀ => ?_)
              replace hl := hl₀
              clear hl₀
              refine lv_goto (tgt := 87) hx hb dX12_begins_132 (by decide) ?_
              have hb_55 : 10 - (x_54 : Int32).toInt < 10 - (vy_24 : Int32).toInt ∧ 1 ≤ 10 - (vy_24 : Int32).toInt := by
                have z_1 := Int32.le_iff_toInt_le.mp c_21
                have z_2 := Int32.lt_iff_toInt_lt.mp (Int32.not_le.mp c_33)
                have y_6 : (6 : Int32).toInt = 6 := by decide
                have y_10 : (10 : Int32).toInt = 10 := by decide
                have y_1 : (1 : Int32).toInt = 1 := by decide
                have t_x_54 : x_54.toInt = (vy_24 : Int32).toInt + (1 : Int32).toInt := by rw [ex_54]; exact add_toInt (by omega) (by omega)
                omega
              have ha_56 : 0 ≤ (x_54 : Int32).toInt := by
                have z_1 := Int32.le_iff_toInt_le.mp c_21
                have z_2 := Int32.lt_iff_toInt_lt.mp (Int32.not_le.mp c_33)
                have y_6 : (6 : Int32).toInt = 6 := by decide
                have y_10 : (10 : Int32).toInt = 10 := by decide
                have y_1 : (1 : Int32).toInt = 1 := by decide
                have t_x_54 : x_54.toInt = (vy_24 : Int32).toInt + (1 : Int32).toInt := by rw [ex_54]; exact add_toInt (by omega) (by omega)
                omega
              exact ih_27 x_54 g_49 _ _ _ (by omega) ha_56 pf_50 pf_52 (hP.sub [0, 1] rfl) (hD.sub [0, 1] rfl rfl) hS (lv_sub hl [0, 1] rfl)
        have ha_57 : 0 ≤ (0 : Int32).toInt := by
          have z_1 := Int32.le_iff_toInt_le.mp c_21
          have y_6 : (6 : Int32).toInt = 6 := by decide
          have y_0 : (0 : Int32).toInt = 0 := by decide
          omega
        exact loop_28 _ 0 vy_13 _ _ _ (Nat.lt_succ_self _) ha_57 pf_18 pf_19 hP hD hS hl
      · skip
        refine lv_bipush (v := 12) hx hb dX12_begins_30 (by decide) ?_
        refine lv_iconst (v := 4) hx hb dX12_begins_32 (by decide) ?_
        refine lv_iload_n hx hb dX12_begins_33 rfl (lv_at hl 0 rfl) ?_
        refine lv_imul hx hb dX12_begins_34 ?_
        refine lv_topi (fun x_58 ex_58 => ?_)
        refine lv_iadd hx hb dX12_begins_35 ?_
        refine lv_topi (fun x_59 ex_59 => ?_)
        refine lv_istore_n (lv' := [(2, .int x_59), (1, .int vy_12), (0, .ref (Ma 0))]) hx hb dX12_begins_36 rfl hl (by decide) rfl (fun ls hl₀ => ?_)
        replace hl := hl₀
        clear hl₀
        refine lv_aload_n hx hb dX12_begins_37 rfl (lv_at hl 2 rfl) ?_
        refine gf_X12_39 hx hb hts hown hK hP 0 rfl rfl dX12_begins_38 ?_
        refine lv_iload_n hx hb dX12_begins_41 rfl (lv_at hl 0 rfl) ?_
        refine lv_aload_n hx hb dX12_begins_42 rfl (lv_at hl 2 rfl) ?_
        refine gf_X12_39 hx hb hts hown hK hP 0 rfl rfl dX12_begins_43 ?_
        refine lv_bipush (v := 68) hx hb dX12_begins_46 (by decide) ?_
        refine lv_iload_n hx hb dX12_begins_48 rfl (lv_at hl 1 rfl) ?_
        refine lv_iadd hx hb dX12_begins_49 ?_
        refine lv_topi (fun x_60 ex_60 => ?_)
        have hi_61 : vp_in x_60 126 := by
          have z_1 := Int32.lt_iff_toInt_lt.mp (Int32.not_le.mp c_21)
          have y_6 : (6 : Int32).toInt = 6 := by decide
          have y_68 : (68 : Int32).toInt = 68 := by decide
          have t_x_60 : x_60.toInt = (68 : Int32).toInt + (vy_12 : Int32).toInt := by rw [ex_60]; exact add_toInt (by omega) (by omega)
          refine vp_in_iff.mpr ⟨?_, ?_⟩ <;> omega
        refine va_iald hx hb hK hP 1 0 rfl rfl hi_61 dX12_begins_50 ?_
        refine lv_topi (fun x_62 ex_62 => ?_)
        have hi_63 : vp_in x_59 126 := by
          have z_1 := Int32.lt_iff_toInt_lt.mp (Int32.not_le.mp c_21)
          have y_6 : (6 : Int32).toInt = 6 := by decide
          have y_4 : (4 : Int32).toInt = 4 := by decide
          have y_12 : (12 : Int32).toInt = 12 := by decide
          have t_x_58 : x_58.toInt = (4 : Int32).toInt * (vy_12 : Int32).toInt := by rw [ex_58]; exact mul_toInt (by first | omega | (rw [y_4]; omega)) (by first | omega | (rw [y_4]; omega))
          rw [y_4] at t_x_58
          have t_x_59 : x_59.toInt = (12 : Int32).toInt + (x_58 : Int32).toInt := by rw [ex_59]; exact add_toInt (by omega) (by omega)
          refine vp_in_iff.mpr ⟨?_, ?_⟩ <;> omega
        refine st_int hx hb hK hP hD hS 1 0 rfl rfl hi_63 dX12_begins_51 (fun g_64 H locs eg_64 hP₀ hD₀ hS₀ => ?_)
        replace hP : va_P D classes [((Ma 0), .inr (12, [.ref (Ma 1), .int (Mv 0), .int (Mv 1), .ref (Ma 2), .ref (Ma 3), .ref (Ma 4), .ref (Ma 5), .ref (Ma 6), .int (Mv 2), .int (Mv 3), .int (Mv 4), .int (Mv 5), .int (Mv 6), .int (Mv 7), .int (Mv 8), .ref (Ma 7), .int (Mv 9), .ref (Ma 8), .int (Mv 10), .ref (Ma 9), .ref (Ma 10), .int (Mv 11), .int (Mv 12), .int (Mv 13), .ref (Ma 11), .int (Mv 14), .ref (Ma 12), .ref (Ma 13), .ref (Ma 14), .ref (Ma 15), .ref (Ma 16), .long (Mj 0), .ref (Ma 17), .ref (Ma 18), .ref (Ma 19), .ref (Ma 20)])), ((Ma 10), .inl (tc 0, 126, .inl g_64))] H := hP₀
        replace hD : va_D A [((Ma 0), .inr (12, [.ref (Ma 1), .int (Mv 0), .int (Mv 1), .ref (Ma 2), .ref (Ma 3), .ref (Ma 4), .ref (Ma 5), .ref (Ma 6), .int (Mv 2), .int (Mv 3), .int (Mv 4), .int (Mv 5), .int (Mv 6), .int (Mv 7), .int (Mv 8), .ref (Ma 7), .int (Mv 9), .ref (Ma 8), .int (Mv 10), .ref (Ma 9), .ref (Ma 10), .int (Mv 11), .int (Mv 12), .int (Mv 13), .ref (Ma 11), .int (Mv 14), .ref (Ma 12), .ref (Ma 13), .ref (Ma 14), .ref (Ma 15), .ref (Ma 16), .long (Mj 0), .ref (Ma 17), .ref (Ma 18), .ref (Ma 19), .ref (Ma 20)])), ((Ma 10), .inl (tc 0, 126, .inl g_64))] := hD₀
        replace hS := hS₀
        clear hP₀ hD₀ hS₀
        have hx_66 : (x_59 : Int32).toNatClampNeg = 1 ∨ (4 ≤ (x_59 : Int32).toNatClampNeg ∧ (x_59 : Int32).toNatClampNeg < 10) ∨ (11 ≤ (x_59 : Int32).toNatClampNeg ∧ (x_59 : Int32).toNatClampNeg < 95) := by
          have z_1 := Int32.lt_iff_toInt_lt.mp (Int32.not_le.mp c_21)
          have y_6 : (6 : Int32).toInt = 6 := by decide
          have y_4 : (4 : Int32).toInt = 4 := by decide
          have y_12 : (12 : Int32).toInt = 12 := by decide
          have t_x_58 : x_58.toInt = (4 : Int32).toInt * (vy_12 : Int32).toInt := by rw [ex_58]; exact mul_toInt (by first | omega | (rw [y_4]; omega)) (by first | omega | (rw [y_4]; omega))
          rw [y_4] at t_x_58
          have t_x_59 : x_59.toInt = (12 : Int32).toInt + (x_58 : Int32).toInt := by rw [ex_59]; exact add_toInt (by omega) (by omega)
          have hcl : (x_59 : Int32).toNatClampNeg = (x_59 : Int32).toInt.toNat := rfl
          omega
        have pf_65 : SaidD g_64 0 := SaidD.keep pf_18 eg_64 hx_66
        have ar_pf_65 := SaidD.al pf_65
        have hr_68 : 4 ≤ (x_59 : Int32).toInt := by
          have z_1 := Int32.lt_iff_toInt_lt.mp (Int32.not_le.mp c_21)
          have y_6 : (6 : Int32).toInt = 6 := by decide
          have y_4 : (4 : Int32).toInt = 4 := by decide
          have y_12 : (12 : Int32).toInt = 12 := by decide
          have t_x_58 : x_58.toInt = (4 : Int32).toInt * (vy_12 : Int32).toInt := by rw [ex_58]; exact mul_toInt (by first | omega | (rw [y_4]; omega)) (by first | omega | (rw [y_4]; omega))
          rw [y_4] at t_x_58
          have t_x_59 : x_59.toInt = (12 : Int32).toInt + (x_58 : Int32).toInt := by rw [ex_59]; exact add_toInt (by omega) (by omega)
          omega
        have pf_67 : Sd3 (Mf 10) g_64 := Sd3.up pf_19 eg_64 hr_68
        have ar_pf_67 : (g_64 3).toInt = ((Mf 10) 3).toInt := congrArg Int32.toInt pf_67
        refine lv_aload_n hx hb dX12_begins_52 rfl (lv_at hl 2 rfl) ?_
        refine gf_X12_39 hx hb hts hown hK hP 0 rfl rfl dX12_begins_53 ?_
        refine lv_iload_n hx hb dX12_begins_56 rfl (lv_at hl 0 rfl) ?_
        refine lv_iconst (v := 1) hx hb dX12_begins_57 (by decide) ?_
        refine lv_iadd hx hb dX12_begins_58 ?_
        refine lv_topi (fun x_69 ex_69 => ?_)
        refine lv_iconst (v := 0) hx hb dX12_begins_59 (by decide) ?_
        have hi_70 : vp_in x_69 126 := by
          have z_1 := Int32.lt_iff_toInt_lt.mp (Int32.not_le.mp c_21)
          have y_6 : (6 : Int32).toInt = 6 := by decide
          have y_1 : (1 : Int32).toInt = 1 := by decide
          have y_4 : (4 : Int32).toInt = 4 := by decide
          have y_12 : (12 : Int32).toInt = 12 := by decide
          have t_x_58 : x_58.toInt = (4 : Int32).toInt * (vy_12 : Int32).toInt := by rw [ex_58]; exact mul_toInt (by first | omega | (rw [y_4]; omega)) (by first | omega | (rw [y_4]; omega))
          rw [y_4] at t_x_58
          have t_x_59 : x_59.toInt = (12 : Int32).toInt + (x_58 : Int32).toInt := by rw [ex_59]; exact add_toInt (by omega) (by omega)
          have t_x_69 : x_69.toInt = (x_59 : Int32).toInt + (1 : Int32).toInt := by rw [ex_69]; exact add_toInt (by omega) (by omega)
          refine vp_in_iff.mpr ⟨?_, ?_⟩ <;> omega
        refine st_int hx hb hK hP hD hS 1 0 rfl rfl hi_70 dX12_begins_60 (fun g_71 H locs eg_71 hP₀ hD₀ hS₀ => ?_)
        replace hP : va_P D classes [((Ma 0), .inr (12, [.ref (Ma 1), .int (Mv 0), .int (Mv 1), .ref (Ma 2), .ref (Ma 3), .ref (Ma 4), .ref (Ma 5), .ref (Ma 6), .int (Mv 2), .int (Mv 3), .int (Mv 4), .int (Mv 5), .int (Mv 6), .int (Mv 7), .int (Mv 8), .ref (Ma 7), .int (Mv 9), .ref (Ma 8), .int (Mv 10), .ref (Ma 9), .ref (Ma 10), .int (Mv 11), .int (Mv 12), .int (Mv 13), .ref (Ma 11), .int (Mv 14), .ref (Ma 12), .ref (Ma 13), .ref (Ma 14), .ref (Ma 15), .ref (Ma 16), .long (Mj 0), .ref (Ma 17), .ref (Ma 18), .ref (Ma 19), .ref (Ma 20)])), ((Ma 10), .inl (tc 0, 126, .inl g_71))] H := hP₀
        replace hD : va_D A [((Ma 0), .inr (12, [.ref (Ma 1), .int (Mv 0), .int (Mv 1), .ref (Ma 2), .ref (Ma 3), .ref (Ma 4), .ref (Ma 5), .ref (Ma 6), .int (Mv 2), .int (Mv 3), .int (Mv 4), .int (Mv 5), .int (Mv 6), .int (Mv 7), .int (Mv 8), .ref (Ma 7), .int (Mv 9), .ref (Ma 8), .int (Mv 10), .ref (Ma 9), .ref (Ma 10), .int (Mv 11), .int (Mv 12), .int (Mv 13), .ref (Ma 11), .int (Mv 14), .ref (Ma 12), .ref (Ma 13), .ref (Ma 14), .ref (Ma 15), .ref (Ma 16), .long (Mj 0), .ref (Ma 17), .ref (Ma 18), .ref (Ma 19), .ref (Ma 20)])), ((Ma 10), .inl (tc 0, 126, .inl g_71))] := hD₀
        replace hS := hS₀
        clear hP₀ hD₀ hS₀
        have hx_73 : (x_69 : Int32).toNatClampNeg = 1 ∨ (4 ≤ (x_69 : Int32).toNatClampNeg ∧ (x_69 : Int32).toNatClampNeg < 10) ∨ (11 ≤ (x_69 : Int32).toNatClampNeg ∧ (x_69 : Int32).toNatClampNeg < 95) := by
          have z_1 := Int32.lt_iff_toInt_lt.mp (Int32.not_le.mp c_21)
          have y_6 : (6 : Int32).toInt = 6 := by decide
          have y_1 : (1 : Int32).toInt = 1 := by decide
          have y_4 : (4 : Int32).toInt = 4 := by decide
          have y_12 : (12 : Int32).toInt = 12 := by decide
          have t_x_58 : x_58.toInt = (4 : Int32).toInt * (vy_12 : Int32).toInt := by rw [ex_58]; exact mul_toInt (by first | omega | (rw [y_4]; omega)) (by first | omega | (rw [y_4]; omega))
          rw [y_4] at t_x_58
          have t_x_59 : x_59.toInt = (12 : Int32).toInt + (x_58 : Int32).toInt := by rw [ex_59]; exact add_toInt (by omega) (by omega)
          have t_x_69 : x_69.toInt = (x_59 : Int32).toInt + (1 : Int32).toInt := by rw [ex_69]; exact add_toInt (by omega) (by omega)
          have hcl : (x_69 : Int32).toNatClampNeg = (x_69 : Int32).toInt.toNat := rfl
          omega
        have pf_72 : SaidD g_71 0 := SaidD.keep pf_65 eg_71 hx_73
        have ar_pf_72 := SaidD.al pf_72
        have hr_75 : 4 ≤ (x_69 : Int32).toInt := by
          have z_1 := Int32.lt_iff_toInt_lt.mp (Int32.not_le.mp c_21)
          have y_6 : (6 : Int32).toInt = 6 := by decide
          have y_1 : (1 : Int32).toInt = 1 := by decide
          have y_4 : (4 : Int32).toInt = 4 := by decide
          have y_12 : (12 : Int32).toInt = 12 := by decide
          have t_x_58 : x_58.toInt = (4 : Int32).toInt * (vy_12 : Int32).toInt := by rw [ex_58]; exact mul_toInt (by first | omega | (rw [y_4]; omega)) (by first | omega | (rw [y_4]; omega))
          rw [y_4] at t_x_58
          have t_x_59 : x_59.toInt = (12 : Int32).toInt + (x_58 : Int32).toInt := by rw [ex_59]; exact add_toInt (by omega) (by omega)
          have t_x_69 : x_69.toInt = (x_59 : Int32).toInt + (1 : Int32).toInt := by rw [ex_69]; exact add_toInt (by omega) (by omega)
          omega
        have pf_74 : Sd3 (Mf 10) g_71 := Sd3.up pf_67 eg_71 hr_75
        have ar_pf_74 : (g_71 3).toInt = ((Mf 10) 3).toInt := congrArg Int32.toInt pf_74
        refine lv_aload_n hx hb dX12_begins_61 rfl (lv_at hl 2 rfl) ?_
        refine gf_X12_39 hx hb hts hown hK hP 0 rfl rfl dX12_begins_62 ?_
        refine lv_iload_n hx hb dX12_begins_65 rfl (lv_at hl 0 rfl) ?_
        refine lv_iconst (v := 2) hx hb dX12_begins_66 (by decide) ?_
        refine lv_iadd hx hb dX12_begins_67 ?_
        refine lv_topi (fun x_76 ex_76 => ?_)
        refine lv_iconst (v := 0) hx hb dX12_begins_68 (by decide) ?_
        have hi_77 : vp_in x_76 126 := by
          have z_1 := Int32.lt_iff_toInt_lt.mp (Int32.not_le.mp c_21)
          have y_6 : (6 : Int32).toInt = 6 := by decide
          have y_2 : (2 : Int32).toInt = 2 := by decide
          have y_4 : (4 : Int32).toInt = 4 := by decide
          have y_12 : (12 : Int32).toInt = 12 := by decide
          have t_x_58 : x_58.toInt = (4 : Int32).toInt * (vy_12 : Int32).toInt := by rw [ex_58]; exact mul_toInt (by first | omega | (rw [y_4]; omega)) (by first | omega | (rw [y_4]; omega))
          rw [y_4] at t_x_58
          have t_x_59 : x_59.toInt = (12 : Int32).toInt + (x_58 : Int32).toInt := by rw [ex_59]; exact add_toInt (by omega) (by omega)
          have t_x_76 : x_76.toInt = (x_59 : Int32).toInt + (2 : Int32).toInt := by rw [ex_76]; exact add_toInt (by omega) (by omega)
          refine vp_in_iff.mpr ⟨?_, ?_⟩ <;> omega
        refine st_int hx hb hK hP hD hS 1 0 rfl rfl hi_77 dX12_begins_69 (fun g_78 H locs eg_78 hP₀ hD₀ hS₀ => ?_)
        replace hP : va_P D classes [((Ma 0), .inr (12, [.ref (Ma 1), .int (Mv 0), .int (Mv 1), .ref (Ma 2), .ref (Ma 3), .ref (Ma 4), .ref (Ma 5), .ref (Ma 6), .int (Mv 2), .int (Mv 3), .int (Mv 4), .int (Mv 5), .int (Mv 6), .int (Mv 7), .int (Mv 8), .ref (Ma 7), .int (Mv 9), .ref (Ma 8), .int (Mv 10), .ref (Ma 9), .ref (Ma 10), .int (Mv 11), .int (Mv 12), .int (Mv 13), .ref (Ma 11), .int (Mv 14), .ref (Ma 12), .ref (Ma 13), .ref (Ma 14), .ref (Ma 15), .ref (Ma 16), .long (Mj 0), .ref (Ma 17), .ref (Ma 18), .ref (Ma 19), .ref (Ma 20)])), ((Ma 10), .inl (tc 0, 126, .inl g_78))] H := hP₀
        replace hD : va_D A [((Ma 0), .inr (12, [.ref (Ma 1), .int (Mv 0), .int (Mv 1), .ref (Ma 2), .ref (Ma 3), .ref (Ma 4), .ref (Ma 5), .ref (Ma 6), .int (Mv 2), .int (Mv 3), .int (Mv 4), .int (Mv 5), .int (Mv 6), .int (Mv 7), .int (Mv 8), .ref (Ma 7), .int (Mv 9), .ref (Ma 8), .int (Mv 10), .ref (Ma 9), .ref (Ma 10), .int (Mv 11), .int (Mv 12), .int (Mv 13), .ref (Ma 11), .int (Mv 14), .ref (Ma 12), .ref (Ma 13), .ref (Ma 14), .ref (Ma 15), .ref (Ma 16), .long (Mj 0), .ref (Ma 17), .ref (Ma 18), .ref (Ma 19), .ref (Ma 20)])), ((Ma 10), .inl (tc 0, 126, .inl g_78))] := hD₀
        replace hS := hS₀
        clear hP₀ hD₀ hS₀
        have hx_80 : (x_76 : Int32).toNatClampNeg = 1 ∨ (4 ≤ (x_76 : Int32).toNatClampNeg ∧ (x_76 : Int32).toNatClampNeg < 10) ∨ (11 ≤ (x_76 : Int32).toNatClampNeg ∧ (x_76 : Int32).toNatClampNeg < 95) := by
          have z_1 := Int32.lt_iff_toInt_lt.mp (Int32.not_le.mp c_21)
          have y_6 : (6 : Int32).toInt = 6 := by decide
          have y_2 : (2 : Int32).toInt = 2 := by decide
          have y_4 : (4 : Int32).toInt = 4 := by decide
          have y_12 : (12 : Int32).toInt = 12 := by decide
          have t_x_58 : x_58.toInt = (4 : Int32).toInt * (vy_12 : Int32).toInt := by rw [ex_58]; exact mul_toInt (by first | omega | (rw [y_4]; omega)) (by first | omega | (rw [y_4]; omega))
          rw [y_4] at t_x_58
          have t_x_59 : x_59.toInt = (12 : Int32).toInt + (x_58 : Int32).toInt := by rw [ex_59]; exact add_toInt (by omega) (by omega)
          have t_x_76 : x_76.toInt = (x_59 : Int32).toInt + (2 : Int32).toInt := by rw [ex_76]; exact add_toInt (by omega) (by omega)
          have hcl : (x_76 : Int32).toNatClampNeg = (x_76 : Int32).toInt.toNat := rfl
          omega
        have pf_79 : SaidD g_78 0 := SaidD.keep pf_72 eg_78 hx_80
        have ar_pf_79 := SaidD.al pf_79
        have hr_82 : 4 ≤ (x_76 : Int32).toInt := by
          have z_1 := Int32.lt_iff_toInt_lt.mp (Int32.not_le.mp c_21)
          have y_6 : (6 : Int32).toInt = 6 := by decide
          have y_2 : (2 : Int32).toInt = 2 := by decide
          have y_4 : (4 : Int32).toInt = 4 := by decide
          have y_12 : (12 : Int32).toInt = 12 := by decide
          have t_x_58 : x_58.toInt = (4 : Int32).toInt * (vy_12 : Int32).toInt := by rw [ex_58]; exact mul_toInt (by first | omega | (rw [y_4]; omega)) (by first | omega | (rw [y_4]; omega))
          rw [y_4] at t_x_58
          have t_x_59 : x_59.toInt = (12 : Int32).toInt + (x_58 : Int32).toInt := by rw [ex_59]; exact add_toInt (by omega) (by omega)
          have t_x_76 : x_76.toInt = (x_59 : Int32).toInt + (2 : Int32).toInt := by rw [ex_76]; exact add_toInt (by omega) (by omega)
          omega
        have pf_81 : Sd3 (Mf 10) g_78 := Sd3.up pf_74 eg_78 hr_82
        have ar_pf_81 : (g_78 3).toInt = ((Mf 10) 3).toInt := congrArg Int32.toInt pf_81
        refine lv_aload_n hx hb dX12_begins_70 rfl (lv_at hl 2 rfl) ?_
        refine gf_X12_39 hx hb hts hown hK hP 0 rfl rfl dX12_begins_71 ?_
        refine lv_iload_n hx hb dX12_begins_74 rfl (lv_at hl 0 rfl) ?_
        refine lv_iconst (v := 3) hx hb dX12_begins_75 (by decide) ?_
        refine lv_iadd hx hb dX12_begins_76 ?_
        refine lv_topi (fun x_83 ex_83 => ?_)
        refine lv_iconst (v := (-1)) hx hb dX12_begins_77 (by decide) ?_
        have hi_84 : vp_in x_83 126 := by
          have z_1 := Int32.lt_iff_toInt_lt.mp (Int32.not_le.mp c_21)
          have y_6 : (6 : Int32).toInt = 6 := by decide
          have y_3 : (3 : Int32).toInt = 3 := by decide
          have y_4 : (4 : Int32).toInt = 4 := by decide
          have y_12 : (12 : Int32).toInt = 12 := by decide
          have t_x_58 : x_58.toInt = (4 : Int32).toInt * (vy_12 : Int32).toInt := by rw [ex_58]; exact mul_toInt (by first | omega | (rw [y_4]; omega)) (by first | omega | (rw [y_4]; omega))
          rw [y_4] at t_x_58
          have t_x_59 : x_59.toInt = (12 : Int32).toInt + (x_58 : Int32).toInt := by rw [ex_59]; exact add_toInt (by omega) (by omega)
          have t_x_83 : x_83.toInt = (x_59 : Int32).toInt + (3 : Int32).toInt := by rw [ex_83]; exact add_toInt (by omega) (by omega)
          refine vp_in_iff.mpr ⟨?_, ?_⟩ <;> omega
        refine st_int hx hb hK hP hD hS 1 0 rfl rfl hi_84 dX12_begins_78 (fun g_85 H locs eg_85 hP₀ hD₀ hS₀ => ?_)
        replace hP : va_P D classes [((Ma 0), .inr (12, [.ref (Ma 1), .int (Mv 0), .int (Mv 1), .ref (Ma 2), .ref (Ma 3), .ref (Ma 4), .ref (Ma 5), .ref (Ma 6), .int (Mv 2), .int (Mv 3), .int (Mv 4), .int (Mv 5), .int (Mv 6), .int (Mv 7), .int (Mv 8), .ref (Ma 7), .int (Mv 9), .ref (Ma 8), .int (Mv 10), .ref (Ma 9), .ref (Ma 10), .int (Mv 11), .int (Mv 12), .int (Mv 13), .ref (Ma 11), .int (Mv 14), .ref (Ma 12), .ref (Ma 13), .ref (Ma 14), .ref (Ma 15), .ref (Ma 16), .long (Mj 0), .ref (Ma 17), .ref (Ma 18), .ref (Ma 19), .ref (Ma 20)])), ((Ma 10), .inl (tc 0, 126, .inl g_85))] H := hP₀
        replace hD : va_D A [((Ma 0), .inr (12, [.ref (Ma 1), .int (Mv 0), .int (Mv 1), .ref (Ma 2), .ref (Ma 3), .ref (Ma 4), .ref (Ma 5), .ref (Ma 6), .int (Mv 2), .int (Mv 3), .int (Mv 4), .int (Mv 5), .int (Mv 6), .int (Mv 7), .int (Mv 8), .ref (Ma 7), .int (Mv 9), .ref (Ma 8), .int (Mv 10), .ref (Ma 9), .ref (Ma 10), .int (Mv 11), .int (Mv 12), .int (Mv 13), .ref (Ma 11), .int (Mv 14), .ref (Ma 12), .ref (Ma 13), .ref (Ma 14), .ref (Ma 15), .ref (Ma 16), .long (Mj 0), .ref (Ma 17), .ref (Ma 18), .ref (Ma 19), .ref (Ma 20)])), ((Ma 10), .inl (tc 0, 126, .inl g_85))] := hD₀
        replace hS := hS₀
        clear hP₀ hD₀ hS₀
        have hx_87 : (x_83 : Int32).toNatClampNeg = 1 ∨ (4 ≤ (x_83 : Int32).toNatClampNeg ∧ (x_83 : Int32).toNatClampNeg < 10) ∨ (11 ≤ (x_83 : Int32).toNatClampNeg ∧ (x_83 : Int32).toNatClampNeg < 95) := by
          have z_1 := Int32.lt_iff_toInt_lt.mp (Int32.not_le.mp c_21)
          have y_6 : (6 : Int32).toInt = 6 := by decide
          have y_3 : (3 : Int32).toInt = 3 := by decide
          have y_4 : (4 : Int32).toInt = 4 := by decide
          have y_12 : (12 : Int32).toInt = 12 := by decide
          have t_x_58 : x_58.toInt = (4 : Int32).toInt * (vy_12 : Int32).toInt := by rw [ex_58]; exact mul_toInt (by first | omega | (rw [y_4]; omega)) (by first | omega | (rw [y_4]; omega))
          rw [y_4] at t_x_58
          have t_x_59 : x_59.toInt = (12 : Int32).toInt + (x_58 : Int32).toInt := by rw [ex_59]; exact add_toInt (by omega) (by omega)
          have t_x_83 : x_83.toInt = (x_59 : Int32).toInt + (3 : Int32).toInt := by rw [ex_83]; exact add_toInt (by omega) (by omega)
          have hcl : (x_83 : Int32).toNatClampNeg = (x_83 : Int32).toInt.toNat := rfl
          omega
        have pf_86 : SaidD g_85 0 := SaidD.keep pf_79 eg_85 hx_87
        have ar_pf_86 := SaidD.al pf_86
        have hr_89 : 4 ≤ (x_83 : Int32).toInt := by
          have z_1 := Int32.lt_iff_toInt_lt.mp (Int32.not_le.mp c_21)
          have y_6 : (6 : Int32).toInt = 6 := by decide
          have y_3 : (3 : Int32).toInt = 3 := by decide
          have y_4 : (4 : Int32).toInt = 4 := by decide
          have y_12 : (12 : Int32).toInt = 12 := by decide
          have t_x_58 : x_58.toInt = (4 : Int32).toInt * (vy_12 : Int32).toInt := by rw [ex_58]; exact mul_toInt (by first | omega | (rw [y_4]; omega)) (by first | omega | (rw [y_4]; omega))
          rw [y_4] at t_x_58
          have t_x_59 : x_59.toInt = (12 : Int32).toInt + (x_58 : Int32).toInt := by rw [ex_59]; exact add_toInt (by omega) (by omega)
          have t_x_83 : x_83.toInt = (x_59 : Int32).toInt + (3 : Int32).toInt := by rw [ex_83]; exact add_toInt (by omega) (by omega)
          omega
        have pf_88 : Sd3 (Mf 10) g_85 := Sd3.up pf_81 eg_85 hr_89
        have ar_pf_88 : (g_85 3).toInt = ((Mf 10) 3).toInt := congrArg Int32.toInt pf_88
        obtain ⟨x_90, ex_90⟩ : ∃ y : Int32, y = vy_12 + 1 := ⟨_, rfl⟩
        refine lv_iinc (v := x_90) (lv' := [(1, .int x_90), (2, .int x_59), (0, .ref (Ma 0))]) hx hb dX12_begins_79 hl (k := 1) rfl (by rw [ex_90]; rfl) (by decide) rfl (fun ls hl₀ => ?_)
        replace hl := hl₀
        clear hl₀
        refine lv_goto (tgt := 24) hx hb dX12_begins_82 (by decide) ?_
        have hb_91 : 6 - (x_90 : Int32).toInt < 6 - (vy_12 : Int32).toInt ∧ 1 ≤ 6 - (vy_12 : Int32).toInt := by
          have z_1 := Int32.lt_iff_toInt_lt.mp (Int32.not_le.mp c_21)
          have y_6 : (6 : Int32).toInt = 6 := by decide
          have y_1 : (1 : Int32).toInt = 1 := by decide
          have t_x_90 : x_90.toInt = (vy_12 : Int32).toInt + (1 : Int32).toInt := by rw [ex_90]; exact add_toInt (by omega) (by omega)
          omega
        have ha_92 : 0 ≤ (x_90 : Int32).toInt := by
          have z_1 := Int32.lt_iff_toInt_lt.mp (Int32.not_le.mp c_21)
          have y_6 : (6 : Int32).toInt = 6 := by decide
          have y_1 : (1 : Int32).toInt = 1 := by decide
          have t_x_90 : x_90.toInt = (vy_12 : Int32).toInt + (1 : Int32).toInt := by rw [ex_90]; exact add_toInt (by omega) (by omega)
          omega
        exact ih_15 x_90 g_85 _ _ _ (by omega) ha_92 pf_86 pf_88 (hP.sub [0, 1] rfl) (hD.sub [0, 1] rfl rfl) hS (lv_sub hl [0, 2] rfl)
  have ha_93 : 0 ≤ (0 : Int32).toInt := by
    have y_0 : (0 : Int32).toInt = 0 := by decide
    omega
  exact loop_16 _ 0 g_6 _ _ _ (Nat.lt_succ_self _) ha_93 pf_7 pf_8 hP hD hS hl
set_option maxRecDepth 100000 in
theorem cu_fX12_begins (l : Launch) (D : va_G) (tc : Nat → ClassId) (sk : (Nat → Nat) × (Nat → Nat)) (Ma_0 : Nat) (Ma_1 : Nat) (Ma_2 : Nat) (Ma_3 : Nat) (Ma_4 : Nat) (Ma_5 : Nat) (Ma_6 : Nat) (Ma_7 : Nat) (Ma_8 : Nat) (Ma_9 : Nat) (Ma_10 : Nat) (Ma_11 : Nat) (Ma_12 : Nat) (Ma_13 : Nat) (Ma_14 : Nat) (Ma_15 : Nat) (Ma_16 : Nat) (Ma_17 : Nat) (Ma_18 : Nat) (Ma_19 : Nat) (Ma_20 : Nat) (Mv_0 : Int32) (Mv_1 : Int32) (Mv_2 : Int32) (Mv_3 : Int32) (Mv_4 : Int32) (Mv_5 : Int32) (Mv_6 : Int32) (Mv_7 : Int32) (Mv_8 : Int32) (Mv_9 : Int32) (Mv_10 : Int32) (Mv_11 : Int32) (Mv_12 : Int32) (Mv_13 : Int32) (Mv_14 : Int32) (Mf_10 : Nat → Int32) (Mj_0 : Int64) (h_said : SaidB Mf_10) (h_s3 : Sd3 Mf_10 Mf_10) : Ct l yX12_begins cX12_begins 3 none { frames := 0, cells := 0, slots := 0, locals := 0 } D tc sk [.ref Ma_0] [(Ma_0, .inr (12, [.ref Ma_1, .int Mv_0, .int Mv_1, .ref Ma_2, .ref Ma_3, .ref Ma_4, .ref Ma_5, .ref Ma_6, .int Mv_2, .int Mv_3, .int Mv_4, .int Mv_5, .int Mv_6, .int Mv_7, .int Mv_8, .ref Ma_7, .int Mv_9, .ref Ma_8, .int Mv_10, .ref Ma_9, .ref Ma_10, .int Mv_11, .int Mv_12, .int Mv_13, .ref Ma_11, .int Mv_14, .ref Ma_12, .ref Ma_13, .ref Ma_14, .ref Ma_15, .ref Ma_16, .long Mj_0, .ref Ma_17, .ref Ma_18, .ref Ma_19, .ref Ma_20])), (Ma_10, .inl (tc 0, 126, .inl Mf_10))] (fun (v : Option Value) (oo0x1 : Nat → Int32) => v = none ∧ (SaidD oo0x1 0) ∧ (Sd3 Mf_10 oo0x1)) (fun (oo0x1 : Nat → Int32) => [(Ma_0, .inr (12, [.ref Ma_1, .int Mv_0, .int Mv_1, .ref Ma_2, .ref Ma_3, .ref Ma_4, .ref Ma_5, .ref Ma_6, .int Mv_2, .int Mv_3, .int Mv_4, .int Mv_5, .int Mv_6, .int Mv_7, .int Mv_8, .ref Ma_7, .int Mv_9, .ref Ma_8, .int Mv_10, .ref Ma_9, .ref Ma_10, .int Mv_11, .int Mv_12, .int Mv_13, .ref Ma_11, .int Mv_14, .ref Ma_12, .ref Ma_13, .ref Ma_14, .ref Ma_15, .ref Ma_16, .long Mj_0, .ref Ma_17, .ref Ma_18, .ref Ma_19, .ref Ma_20])), (Ma_10, .inl (tc 0, 126, .inl oo0x1))]) 0 0 :=
  ct_fX12_begins l D tc sk (fun k => ([Ma_0, Ma_1, Ma_2, Ma_3, Ma_4, Ma_5, Ma_6, Ma_7, Ma_8, Ma_9, Ma_10, Ma_11, Ma_12, Ma_13, Ma_14, Ma_15, Ma_16, Ma_17, Ma_18, Ma_19, Ma_20] : List (Nat)).getD k 0) (fun k => ([Mv_0, Mv_1, Mv_2, Mv_3, Mv_4, Mv_5, Mv_6, Mv_7, Mv_8, Mv_9, Mv_10, Mv_11, Mv_12, Mv_13, Mv_14] : List (Int32)).getD k 0) (fun k => ([(fun _ => 0), (fun _ => 0), (fun _ => 0), (fun _ => 0), (fun _ => 0), (fun _ => 0), (fun _ => 0), (fun _ => 0), (fun _ => 0), (fun _ => 0), Mf_10] : List (Nat → Int32)).getD k (fun _ => 0)) (fun k => ([Mj_0] : List (Int64)).getD k 0) h_said h_s3
set_option maxHeartbeats 4000000 in
set_option maxRecDepth 100000 in
theorem ct_fX12_book (l : Launch) (D : va_G) (tc : Nat → ClassId) (sk : (Nat → Nat) × (Nat → Nat)) (Ma : Nat → Nat) (Mv : Nat → Int32) (Mf : Nat → Nat → Int32) (Mj : Nat → Int64) (h_tp : 0 ≤ ((Mv 0) : Int32).toInt ∧ ((Mv 0) : Int32).toInt ≤ 400) (h_said : SaidD (Mf 10) 999) (h_un : 0 ≤ ((Mv 14) : Int32).toInt ∧ ((Mv 14) : Int32).toInt ≤ 20) (h_bs : ByS (Mf 1)) : Ct l yX12_book cX12_book 2 (some .int) { frames := 7, cells := 0, slots := 0, locals := 158 } D tc sk [.ref (Ma 0)] [((Ma 0), .inr (12, [.ref (Ma 1), .int (Mv 0), .int (Mv 1), .ref (Ma 2), .ref (Ma 3), .ref (Ma 4), .ref (Ma 5), .ref (Ma 6), .int (Mv 2), .int (Mv 3), .int (Mv 4), .int (Mv 5), .int (Mv 6), .int (Mv 7), .int (Mv 8), .ref (Ma 7), .int (Mv 9), .ref (Ma 8), .int (Mv 10), .ref (Ma 9), .ref (Ma 10), .int (Mv 11), .int (Mv 12), .int (Mv 13), .ref (Ma 11), .int (Mv 14), .ref (Ma 12), .ref (Ma 13), .ref (Ma 14), .ref (Ma 15), .ref (Ma 16), .long (Mj 0), .ref (Ma 17), .ref (Ma 18), .ref (Ma 19), .ref (Ma 20)])), ((Ma 1), .inl (tc 2, 400, .inl (Mf 1))), ((Ma 3), .inl (tc 0, 7, .inl (Mf 3))), ((Ma 6), .inl (tc 0, 95, .inl (Mf 6))), ((Ma 10), .inl (tc 0, 126, .inl (Mf 10)))] (fun (v : Option Value) (u : (Int32) × (Int32) × (Int32) × (Int32) × (Int32) × (Nat → Int32) × (Nat → Int32) × (Nat → Int32)) => match u with | (oo0x1, oo0x2, oo0x3, oo0x4, oo0x5, oo0x6, oo0x7, oo0x8) => ∃ r : Int32, v = some (.int r) ∧ (RbC (rB (Mf 1) (Mv 0)) r) ∧ (0 ≤ (0 : Int32).toInt ∧ (0 : Int32).toInt ≤ 400) ∧ (SaidD oo0x8 999) ∧ (0 ≤ (oo0x5 : Int32).toInt ∧ (oo0x5 : Int32).toInt ≤ 20)) (fun (u : (Int32) × (Int32) × (Int32) × (Int32) × (Int32) × (Nat → Int32) × (Nat → Int32) × (Nat → Int32)) => match u with | (oo0x1, oo0x2, oo0x3, oo0x4, oo0x5, oo0x6, oo0x7, oo0x8) => [((Ma 0), .inr (12, [.ref (Ma 1), .int 0, .int (Mv 1), .ref (Ma 2), .ref (Ma 3), .ref (Ma 4), .ref (Ma 5), .ref (Ma 6), .int oo0x1, .int oo0x2, .int oo0x3, .int 6, .int 0, .int (Mv 7), .int oo0x4, .ref (Ma 7), .int (Mv 9), .ref (Ma 8), .int (Mv 10), .ref (Ma 9), .ref (Ma 10), .int (Mv 11), .int (Mv 12), .int (Mv 13), .ref (Ma 11), .int oo0x5, .ref (Ma 12), .ref (Ma 13), .ref (Ma 14), .ref (Ma 15), .ref (Ma 16), .long (Mj 0), .ref (Ma 17), .ref (Ma 18), .ref (Ma 19), .ref (Ma 20)])), ((Ma 1), .inl (tc 2, 400, .inl (Mf 1))), ((Ma 3), .inl (tc 0, 7, .inl oo0x6)), ((Ma 6), .inl (tc 0, 95, .inl oo0x7)), ((Ma 10), .inl (tc 0, 126, .inl oo0x8))]) 0 0 := by
  refine Ct.start (by decide) (Nat.le_of_ble_eq_true rfl) (fun p e s m below meth c A ls hx hb hr hlk hin hml hown hts hK hX hP hD hA hl hS => ?_)
  have hl : lv_has ls 2 [(0, .ref (Ma 0))] := hl
  have ar_h_said := SaidD.al h_said
  refine lv_aload_n hx hb dX12_book_0 rfl (lv_at hl 0 rfl) ?_
  refine lv_bipush (v := 6) hx hb dX12_book_1 (by decide) ?_
  refine pf_X12_145 hx hb hts hown hK hP hD hS 0 rfl (Nat.le_of_ble_eq_true rfl) rfl rfl dX12_book_3 (fun H locs hP₀ hD₀ hS₀ => ?_)
  replace hP : va_P D classes [((Ma 0), .inr (12, [.ref (Ma 1), .int (Mv 0), .int (Mv 1), .ref (Ma 2), .ref (Ma 3), .ref (Ma 4), .ref (Ma 5), .ref (Ma 6), .int (Mv 2), .int (Mv 3), .int (Mv 4), .int 6, .int (Mv 6), .int (Mv 7), .int (Mv 8), .ref (Ma 7), .int (Mv 9), .ref (Ma 8), .int (Mv 10), .ref (Ma 9), .ref (Ma 10), .int (Mv 11), .int (Mv 12), .int (Mv 13), .ref (Ma 11), .int (Mv 14), .ref (Ma 12), .ref (Ma 13), .ref (Ma 14), .ref (Ma 15), .ref (Ma 16), .long (Mj 0), .ref (Ma 17), .ref (Ma 18), .ref (Ma 19), .ref (Ma 20)])), ((Ma 1), .inl (tc 2, 400, .inl (Mf 1))), ((Ma 3), .inl (tc 0, 7, .inl (Mf 3))), ((Ma 6), .inl (tc 0, 95, .inl (Mf 6))), ((Ma 10), .inl (tc 0, 126, .inl (Mf 10)))] H := hP₀
  replace hD : va_D A [((Ma 0), .inr (12, [.ref (Ma 1), .int (Mv 0), .int (Mv 1), .ref (Ma 2), .ref (Ma 3), .ref (Ma 4), .ref (Ma 5), .ref (Ma 6), .int (Mv 2), .int (Mv 3), .int (Mv 4), .int 6, .int (Mv 6), .int (Mv 7), .int (Mv 8), .ref (Ma 7), .int (Mv 9), .ref (Ma 8), .int (Mv 10), .ref (Ma 9), .ref (Ma 10), .int (Mv 11), .int (Mv 12), .int (Mv 13), .ref (Ma 11), .int (Mv 14), .ref (Ma 12), .ref (Ma 13), .ref (Ma 14), .ref (Ma 15), .ref (Ma 16), .long (Mj 0), .ref (Ma 17), .ref (Ma 18), .ref (Ma 19), .ref (Ma 20)])), ((Ma 1), .inl (tc 2, 400, .inl (Mf 1))), ((Ma 3), .inl (tc 0, 7, .inl (Mf 3))), ((Ma 6), .inl (tc 0, 95, .inl (Mf 6))), ((Ma 10), .inl (tc 0, 126, .inl (Mf 10)))] := hD₀
  replace hS := hS₀
  clear hP₀ hD₀ hS₀
  refine lv_iconst (v := 0) hx hb dX12_book_6 (by decide) ?_
  refine lv_istore_n (lv' := [(1, .int 0), (0, .ref (Ma 0))]) hx hb dX12_book_7 rfl hl (by decide) rfl (fun ls hl₀ => ?_)
  replace hl := hl₀
  clear hl₀
  have loop_7 : ∀ (n_5 : Nat) (vy_3 : Int32) (vy_4 : Nat → Int32) (H : Heap) (locs : List Loc) (ls : Array Slot), (95 - (vy_3 : Int32).toInt).toNat < n_5 → (0 ≤ (vy_3 : Int32).toInt) → (Rd0 vy_4 vy_3) → va_P D classes [((Ma 0), .inr (12, [.ref (Ma 1), .int (Mv 0), .int (Mv 1), .ref (Ma 2), .ref (Ma 3), .ref (Ma 4), .ref (Ma 5), .ref (Ma 6), .int (Mv 2), .int (Mv 3), .int (Mv 4), .int 6, .int (Mv 6), .int (Mv 7), .int (Mv 8), .ref (Ma 7), .int (Mv 9), .ref (Ma 8), .int (Mv 10), .ref (Ma 9), .ref (Ma 10), .int (Mv 11), .int (Mv 12), .int (Mv 13), .ref (Ma 11), .int (Mv 14), .ref (Ma 12), .ref (Ma 13), .ref (Ma 14), .ref (Ma 15), .ref (Ma 16), .long (Mj 0), .ref (Ma 17), .ref (Ma 18), .ref (Ma 19), .ref (Ma 20)])), ((Ma 1), .inl (tc 2, 400, .inl (Mf 1))), ((Ma 3), .inl (tc 0, 7, .inl (Mf 3))), ((Ma 6), .inl (tc 0, 95, .inl vy_4)), ((Ma 10), .inl (tc 0, 126, .inl (Mf 10)))] H → va_D A [((Ma 0), .inr (12, [.ref (Ma 1), .int (Mv 0), .int (Mv 1), .ref (Ma 2), .ref (Ma 3), .ref (Ma 4), .ref (Ma 5), .ref (Ma 6), .int (Mv 2), .int (Mv 3), .int (Mv 4), .int 6, .int (Mv 6), .int (Mv 7), .int (Mv 8), .ref (Ma 7), .int (Mv 9), .ref (Ma 8), .int (Mv 10), .ref (Ma 9), .ref (Ma 10), .int (Mv 11), .int (Mv 12), .int (Mv 13), .ref (Ma 11), .int (Mv 14), .ref (Ma 12), .ref (Ma 13), .ref (Ma 14), .ref (Ma 15), .ref (Ma 16), .long (Mj 0), .ref (Ma 17), .ref (Ma 18), .ref (Ma 19), .ref (Ma 20)])), ((Ma 1), .inl (tc 2, 400, .inl (Mf 1))), ((Ma 3), .inl (tc 0, 7, .inl (Mf 3))), ((Ma 6), .inl (tc 0, 95, .inl vy_4)), ((Ma 10), .inl (tc 0, 126, .inl (Mf 10)))] → va_S A s.heap H locs → lv_has ls 2 [(1, .int vy_3), (0, .ref (Ma 0))] → W p l e ({ frames := 7, cells := 0, slots := 0, locals := 158 }) s m ([.ref (Ma 0)].toArray) below meth c H locs 0 0 (MQ below (QW (fun (v : Option Value) (u : (Int32) × (Int32) × (Int32) × (Int32) × (Int32) × (Nat → Int32) × (Nat → Int32) × (Nat → Int32)) => match u with | (oo0x1, oo0x2, oo0x3, oo0x4, oo0x5, oo0x6, oo0x7, oo0x8) => ∃ r : Int32, v = some (.int r) ∧ (RbC (rB (Mf 1) (Mv 0)) r) ∧ (0 ≤ (0 : Int32).toInt ∧ (0 : Int32).toInt ≤ 400) ∧ (SaidD oo0x8 999) ∧ (0 ≤ (oo0x5 : Int32).toInt ∧ (oo0x5 : Int32).toInt ≤ 20)) (BW D (fun (u : (Int32) × (Int32) × (Int32) × (Int32) × (Int32) × (Nat → Int32) × (Nat → Int32) × (Nat → Int32)) => match u with | (oo0x1, oo0x2, oo0x3, oo0x4, oo0x5, oo0x6, oo0x7, oo0x8) => [((Ma 0), .inr (12, [.ref (Ma 1), .int 0, .int (Mv 1), .ref (Ma 2), .ref (Ma 3), .ref (Ma 4), .ref (Ma 5), .ref (Ma 6), .int oo0x1, .int oo0x2, .int oo0x3, .int 6, .int 0, .int (Mv 7), .int oo0x4, .ref (Ma 7), .int (Mv 9), .ref (Ma 8), .int (Mv 10), .ref (Ma 9), .ref (Ma 10), .int (Mv 11), .int (Mv 12), .int (Mv 13), .ref (Ma 11), .int oo0x5, .ref (Ma 12), .ref (Ma 13), .ref (Ma 14), .ref (Ma 15), .ref (Ma 16), .long (Mj 0), .ref (Ma 17), .ref (Ma 18), .ref (Ma 19), .ref (Ma 20)])), ((Ma 1), .inl (tc 2, 400, .inl (Mf 1))), ((Ma 3), .inl (tc 0, 7, .inl oo0x6)), ((Ma 6), .inl (tc 0, 95, .inl oo0x7)), ((Ma 10), .inl (tc 0, 126, .inl oo0x8))]) A) A) ([.ref (Ma 0)].toArray) s 0 0 A) (F0 m 8 ls []) := by
    clear hP hD hS hl
    intro n_5
    induction n_5 with
    | zero =>
      intro vy_3 vy_4 H locs ls h1
      exact absurd h1 (Nat.not_lt_zero _)
    | succ n_5 ih_6 =>
      intro vy_3 vy_4 H locs ls hn_10 pf_8 pf_9 hP hD hS hl
      refine lv_iload_n hx hb dX12_book_8 rfl (lv_at hl 0 rfl) ?_
      refine lv_bipush (v := 95) hx hb dX12_book_9 (by decide) ?_
      refine lv_icmp_ge (tgt := 27) hx hb dX12_book_11 (by decide) (fun c_11 => ?_) (fun c_11 => ?_)
      · skip
        refine lv_aload_n hx hb dX12_book_27 rfl (lv_at hl 1 rfl) ?_
        have hr_12 : 95 ≤ (vy_3 : Int32).toInt := by
          have z_1 := Int32.le_iff_toInt_le.mp c_11
          have y_95 : (95 : Int32).toInt = 95 := by decide
          omega
        have hr_13 : 95 ≤ (vy_3 : Int32).toInt := by
          have z_1 := Int32.le_iff_toInt_le.mp c_11
          have y_95 : (95 : Int32).toInt = 95 := by decide
          omega
        have hz_14 : (vy_4 0).toInt = 0 ∧ (vy_4 2).toInt = 0 ∧ (vy_4 3).toInt = 0 := ⟨pf_9 0 (by omega), pf_9 2 (by omega), pf_9 3 (by omega)⟩
        refine cV (a := (Ma 0)) (As := []) (rest := []) (wr := [((Ma 10), .inl (tc 0, 126, .inl (Mf 10)))]) ⟨hx, hb, hml, hown, hts⟩ hK hX hA (cu_fX12_readsAll_b l D tc sk (Ma 0) (Ma 1) (Ma 2) (Ma 3) (Ma 4) (Ma 5) (Ma 6) (Ma 7) (Ma 8) (Ma 9) (Ma 10) (Ma 11) (Ma 12) (Ma 13) (Ma 14) (Ma 15) (Ma 16) (Ma 17) (Ma 18) (Ma 19) (Ma 20) (Mv 0) (Mv 1) (Mv 2) (Mv 3) (Mv 4) (Mv 6) (Mv 7) (Mv 8) (Mv 9) (Mv 10) (Mv 11) (Mv 12) (Mv 13) (Mv 14) (Mf 1) (Mf 3) vy_4 (Mj 0) h_tp (Rd0.done pf_9 hr_12) h_bs hz_14) k_1203 k_1200 k_1202 k_25 k_106 pl_X12_readsAll ⟨Nat.le_of_ble_eq_true rfl, Nat.le_of_ble_eq_true rfl⟩ rfl rfl (va_recv hK hP (ci := 12) (q0 := 0) rfl rfl) hP hD hS [0, 1, 2, 3] [4] rfl rfl rfl rfl rfl (by decide) rfl hl.1 rfl (Nat.le_of_ble_eq_true rfl) dX12_book_28 ⟨Nat.le_of_ble_eq_true rfl, Nat.le_of_ble_eq_true rfl⟩ (fun v_15 u_16 H locs hv_17 hP₀ hD₀ hS₀ => ?_)
        obtain ⟨sv_18, sv_19, sv_20, sv_21, sv_22, sv_23⟩ := u_16
        obtain ⟨r_25, rfl, he_26, pf_24, hm_28⟩ := hv_17
        have he_26 : ((r_25.toInt = 0 ∧ ¬ (sv_19 : Int32).toInt = 0) ∨ (r_25.toInt = 1 ∧ (sv_19 : Int32).toInt = 0)) := he_26
        have pf_24 : BkR (rB (Mf 1) (Mv 0)) sv_19 (sv_23 3) := pf_24
        refine W.eq (g2 := F0 m 31 ls [.int r_25]) rfl ?_
        replace hP : va_P D classes [((Ma 10), .inl (tc 0, 126, .inl (Mf 10))), ((Ma 0), .inr (12, [.ref (Ma 1), .int 0, .int (Mv 1), .ref (Ma 2), .ref (Ma 3), .ref (Ma 4), .ref (Ma 5), .ref (Ma 6), .int sv_18, .int sv_19, .int sv_20, .int 6, .int 0, .int (Mv 7), .int sv_21, .ref (Ma 7), .int (Mv 9), .ref (Ma 8), .int (Mv 10), .ref (Ma 9), .ref (Ma 10), .int (Mv 11), .int (Mv 12), .int (Mv 13), .ref (Ma 11), .int (Mv 14), .ref (Ma 12), .ref (Ma 13), .ref (Ma 14), .ref (Ma 15), .ref (Ma 16), .long (Mj 0), .ref (Ma 17), .ref (Ma 18), .ref (Ma 19), .ref (Ma 20)])), ((Ma 1), .inl (tc 2, 400, .inl (Mf 1))), ((Ma 3), .inl (tc 0, 7, .inl sv_22)), ((Ma 6), .inl (tc 0, 95, .inl sv_23))] H := hP₀
        replace hD : va_D A [((Ma 10), .inl (tc 0, 126, .inl (Mf 10))), ((Ma 0), .inr (12, [.ref (Ma 1), .int 0, .int (Mv 1), .ref (Ma 2), .ref (Ma 3), .ref (Ma 4), .ref (Ma 5), .ref (Ma 6), .int sv_18, .int sv_19, .int sv_20, .int 6, .int 0, .int (Mv 7), .int sv_21, .ref (Ma 7), .int (Mv 9), .ref (Ma 8), .int (Mv 10), .ref (Ma 9), .ref (Ma 10), .int (Mv 11), .int (Mv 12), .int (Mv 13), .ref (Ma 11), .int (Mv 14), .ref (Ma 12), .ref (Ma 13), .ref (Ma 14), .ref (Ma 15), .ref (Ma 16), .long (Mj 0), .ref (Ma 17), .ref (Ma 18), .ref (Ma 19), .ref (Ma 20)])), ((Ma 1), .inl (tc 2, 400, .inl (Mf 1))), ((Ma 3), .inl (tc 0, 7, .inl sv_22)), ((Ma 6), .inl (tc 0, 95, .inl sv_23))] := hD₀
        replace hS := hS₀
        clear hP₀ hD₀ hS₀
        refine lv_if_ne (tgt := 42) hx hb dX12_book_31 (by decide) (fun c_29 => ?_) (fun c_29 => ?_)
        · skip
          have hz_31 : (r_25 : Int32).toInt = 1 := by
            have z_1 := Int32.le_iff_toInt_le.mp c_11
            have z_2 : ¬ (r_25 : Int32).toInt = (0 : Int32).toInt := fun z => c_29 (Int32.toInt_inj.mp z)
            have y_0 : (0 : Int32).toInt = 0 := by decide
            have y_95 : (95 : Int32).toInt = 95 := by decide
            omega
          obtain pf_30 := hm_28 hz_31
          have pf_30 : RdO sv_23 := pf_30
          have ar_pf_30 := RdO.ar pf_30
          refine lv_iconst (v := 0) hx hb dX12_book_42 (by decide) ?_
          refine lv_istore_n (lv' := [(1, .int 0), (0, .ref (Ma 0))]) hx hb dX12_book_43 rfl hl (by decide) rfl (fun ls hl₀ => ?_)
          replace hl := hl₀
          clear hl₀
          have loop_38 : ∀ (n_36 : Nat) (vy_34 : Int32) (vy_35 : Nat → Int32) (H : Heap) (locs : List Loc) (ls : Array Slot), (126 - (vy_34 : Int32).toInt).toNat < n_36 → (0 ≤ (vy_34 : Int32).toInt) → (SdK vy_35 sv_23 vy_34) → va_P D classes [((Ma 10), .inl (tc 0, 126, .inl vy_35)), ((Ma 0), .inr (12, [.ref (Ma 1), .int 0, .int (Mv 1), .ref (Ma 2), .ref (Ma 3), .ref (Ma 4), .ref (Ma 5), .ref (Ma 6), .int sv_18, .int sv_19, .int sv_20, .int 6, .int 0, .int (Mv 7), .int sv_21, .ref (Ma 7), .int (Mv 9), .ref (Ma 8), .int (Mv 10), .ref (Ma 9), .ref (Ma 10), .int (Mv 11), .int (Mv 12), .int (Mv 13), .ref (Ma 11), .int (Mv 14), .ref (Ma 12), .ref (Ma 13), .ref (Ma 14), .ref (Ma 15), .ref (Ma 16), .long (Mj 0), .ref (Ma 17), .ref (Ma 18), .ref (Ma 19), .ref (Ma 20)])), ((Ma 1), .inl (tc 2, 400, .inl (Mf 1))), ((Ma 3), .inl (tc 0, 7, .inl sv_22)), ((Ma 6), .inl (tc 0, 95, .inl sv_23))] H → va_D A [((Ma 10), .inl (tc 0, 126, .inl vy_35)), ((Ma 0), .inr (12, [.ref (Ma 1), .int 0, .int (Mv 1), .ref (Ma 2), .ref (Ma 3), .ref (Ma 4), .ref (Ma 5), .ref (Ma 6), .int sv_18, .int sv_19, .int sv_20, .int 6, .int 0, .int (Mv 7), .int sv_21, .ref (Ma 7), .int (Mv 9), .ref (Ma 8), .int (Mv 10), .ref (Ma 9), .ref (Ma 10), .int (Mv 11), .int (Mv 12), .int (Mv 13), .ref (Ma 11), .int (Mv 14), .ref (Ma 12), .ref (Ma 13), .ref (Ma 14), .ref (Ma 15), .ref (Ma 16), .long (Mj 0), .ref (Ma 17), .ref (Ma 18), .ref (Ma 19), .ref (Ma 20)])), ((Ma 1), .inl (tc 2, 400, .inl (Mf 1))), ((Ma 3), .inl (tc 0, 7, .inl sv_22)), ((Ma 6), .inl (tc 0, 95, .inl sv_23))] → va_S A s.heap H locs → lv_has ls 2 [(1, .int vy_34), (0, .ref (Ma 0))] → W p l e ({ frames := 7, cells := 0, slots := 0, locals := 158 }) s m ([.ref (Ma 0)].toArray) below meth c H locs 0 0 (MQ below (QW (fun (v : Option Value) (u : (Int32) × (Int32) × (Int32) × (Int32) × (Int32) × (Nat → Int32) × (Nat → Int32) × (Nat → Int32)) => match u with | (oo0x1, oo0x2, oo0x3, oo0x4, oo0x5, oo0x6, oo0x7, oo0x8) => ∃ r : Int32, v = some (.int r) ∧ (RbC (rB (Mf 1) (Mv 0)) r) ∧ (0 ≤ (0 : Int32).toInt ∧ (0 : Int32).toInt ≤ 400) ∧ (SaidD oo0x8 999) ∧ (0 ≤ (oo0x5 : Int32).toInt ∧ (oo0x5 : Int32).toInt ≤ 20)) (BW D (fun (u : (Int32) × (Int32) × (Int32) × (Int32) × (Int32) × (Nat → Int32) × (Nat → Int32) × (Nat → Int32)) => match u with | (oo0x1, oo0x2, oo0x3, oo0x4, oo0x5, oo0x6, oo0x7, oo0x8) => [((Ma 0), .inr (12, [.ref (Ma 1), .int 0, .int (Mv 1), .ref (Ma 2), .ref (Ma 3), .ref (Ma 4), .ref (Ma 5), .ref (Ma 6), .int oo0x1, .int oo0x2, .int oo0x3, .int 6, .int 0, .int (Mv 7), .int oo0x4, .ref (Ma 7), .int (Mv 9), .ref (Ma 8), .int (Mv 10), .ref (Ma 9), .ref (Ma 10), .int (Mv 11), .int (Mv 12), .int (Mv 13), .ref (Ma 11), .int oo0x5, .ref (Ma 12), .ref (Ma 13), .ref (Ma 14), .ref (Ma 15), .ref (Ma 16), .long (Mj 0), .ref (Ma 17), .ref (Ma 18), .ref (Ma 19), .ref (Ma 20)])), ((Ma 1), .inl (tc 2, 400, .inl (Mf 1))), ((Ma 3), .inl (tc 0, 7, .inl oo0x6)), ((Ma 6), .inl (tc 0, 95, .inl oo0x7)), ((Ma 10), .inl (tc 0, 126, .inl oo0x8))]) A) A) ([.ref (Ma 0)].toArray) s 0 0 A) (F0 m 44 ls []) := by
            clear hP hD hS hl
            intro n_36
            induction n_36 with
            | zero =>
              intro vy_34 vy_35 H locs ls h1
              exact absurd h1 (Nat.not_lt_zero _)
            | succ n_36 ih_37 =>
              intro vy_34 vy_35 H locs ls hn_41 pf_39 pf_40 hP hD hS hl
              refine lv_iload_n hx hb dX12_book_44 rfl (lv_at hl 0 rfl) ?_
              refine lv_bipush (v := 126) hx hb dX12_book_45 (by decide) ?_
              refine lv_icmp_ge (tgt := 78) hx hb dX12_book_47 (by decide) (fun c_42 => ?_) (fun c_42 => ?_)
              · skip
                refine lv_aload_n hx hb dX12_book_78 rfl (lv_at hl 1 rfl) ?_
                have hr_43 : 126 ≤ (vy_34 : Int32).toInt := by
                  have z_1 := Int32.le_iff_toInt_le.mp c_11
                  have z_2 : ¬ (r_25 : Int32).toInt = (0 : Int32).toInt := fun z => c_29 (Int32.toInt_inj.mp z)
                  have z_3 := Int32.le_iff_toInt_le.mp c_42
                  have y_0 : (0 : Int32).toInt = 0 := by decide
                  have y_95 : (95 : Int32).toInt = 95 := by decide
                  have y_126 : (126 : Int32).toInt = 126 := by decide
                  omega
                refine cV (a := (Ma 0)) (As := []) (rest := []) (wr := [((Ma 1), .inl (tc 2, 400, .inl (Mf 1))), ((Ma 3), .inl (tc 0, 7, .inl sv_22)), ((Ma 6), .inl (tc 0, 95, .inl sv_23))]) ⟨hx, hb, hml, hown, hts⟩ hK hX hA (cu_fX12_begins l D tc sk (Ma 0) (Ma 1) (Ma 2) (Ma 3) (Ma 4) (Ma 5) (Ma 6) (Ma 7) (Ma 8) (Ma 9) (Ma 10) (Ma 11) (Ma 12) (Ma 13) (Ma 14) (Ma 15) (Ma 16) (Ma 17) (Ma 18) (Ma 19) (Ma 20) 0 (Mv 1) sv_18 sv_19 sv_20 6 0 (Mv 7) sv_21 (Mv 9) (Mv 10) (Mv 11) (Mv 12) (Mv 13) (Mv 14) vy_35 (Mj 0) (SdK.done pf_40 pf_30 hr_43) (Sd3.rf)) k_1359 k_1356 k_1358 k_56 k_106 pl_X12_begins ⟨Nat.le_of_ble_eq_true rfl, Nat.le_of_ble_eq_true rfl⟩ rfl rfl (va_recv hK hP (ci := 12) (q0 := 1) rfl rfl) hP hD hS [1, 0] [2, 3, 4] rfl rfl rfl rfl rfl (by decide) rfl hl.1 rfl (Nat.le_of_ble_eq_true rfl) dX12_book_79 ⟨Nat.le_of_ble_eq_true rfl, Nat.le_of_ble_eq_true rfl⟩ (fun v_44 u_45 H locs hv_46 hP₀ hD₀ hS₀ => ?_)
                obtain ⟨sv_47, rfl⟩ : ∃ z, z = u_45 := ⟨_, rfl⟩
                obtain ⟨rfl, pf_48, pf_49⟩ := hv_46
                have pf_48 : SaidD sv_47 0 := pf_48
                have ar_pf_48 := SaidD.al pf_48
                have pf_49 : Sd3 vy_35 sv_47 := pf_49
                have ar_pf_49 : (sv_47 3).toInt = (vy_35 3).toInt := congrArg Int32.toInt pf_49
                refine W.eq (g2 := F0 m 82 ls []) rfl ?_
                replace hP : va_P D classes [((Ma 1), .inl (tc 2, 400, .inl (Mf 1))), ((Ma 3), .inl (tc 0, 7, .inl sv_22)), ((Ma 6), .inl (tc 0, 95, .inl sv_23)), ((Ma 0), .inr (12, [.ref (Ma 1), .int 0, .int (Mv 1), .ref (Ma 2), .ref (Ma 3), .ref (Ma 4), .ref (Ma 5), .ref (Ma 6), .int sv_18, .int sv_19, .int sv_20, .int 6, .int 0, .int (Mv 7), .int sv_21, .ref (Ma 7), .int (Mv 9), .ref (Ma 8), .int (Mv 10), .ref (Ma 9), .ref (Ma 10), .int (Mv 11), .int (Mv 12), .int (Mv 13), .ref (Ma 11), .int (Mv 14), .ref (Ma 12), .ref (Ma 13), .ref (Ma 14), .ref (Ma 15), .ref (Ma 16), .long (Mj 0), .ref (Ma 17), .ref (Ma 18), .ref (Ma 19), .ref (Ma 20)])), ((Ma 10), .inl (tc 0, 126, .inl sv_47))] H := hP₀
                replace hD : va_D A [((Ma 1), .inl (tc 2, 400, .inl (Mf 1))), ((Ma 3), .inl (tc 0, 7, .inl sv_22)), ((Ma 6), .inl (tc 0, 95, .inl sv_23)), ((Ma 0), .inr (12, [.ref (Ma 1), .int 0, .int (Mv 1), .ref (Ma 2), .ref (Ma 3), .ref (Ma 4), .ref (Ma 5), .ref (Ma 6), .int sv_18, .int sv_19, .int sv_20, .int 6, .int 0, .int (Mv 7), .int sv_21, .ref (Ma 7), .int (Mv 9), .ref (Ma 8), .int (Mv 10), .ref (Ma 9), .ref (Ma 10), .int (Mv 11), .int (Mv 12), .int (Mv 13), .ref (Ma 11), .int (Mv 14), .ref (Ma 12), .ref (Ma 13), .ref (Ma 14), .ref (Ma 15), .ref (Ma 16), .long (Mj 0), .ref (Ma 17), .ref (Ma 18), .ref (Ma 19), .ref (Ma 20)])), ((Ma 10), .inl (tc 0, 126, .inl sv_47))] := hD₀
                replace hS := hS₀
                clear hP₀ hD₀ hS₀
                refine lv_aload_n hx hb dX12_book_82 rfl (lv_at hl 1 rfl) ?_
                refine lv_iconst (v := 0) hx hb dX12_book_83 (by decide) ?_
                refine pf_X12_265 hx hb hts hown hK hP hD hS 3 rfl (Nat.le_of_ble_eq_true rfl) rfl rfl dX12_book_84 (fun H locs hP₀ hD₀ hS₀ => ?_)
                replace hP : va_P D classes [((Ma 1), .inl (tc 2, 400, .inl (Mf 1))), ((Ma 3), .inl (tc 0, 7, .inl sv_22)), ((Ma 6), .inl (tc 0, 95, .inl sv_23)), ((Ma 0), .inr (12, [.ref (Ma 1), .int 0, .int (Mv 1), .ref (Ma 2), .ref (Ma 3), .ref (Ma 4), .ref (Ma 5), .ref (Ma 6), .int sv_18, .int sv_19, .int sv_20, .int 6, .int 0, .int (Mv 7), .int sv_21, .ref (Ma 7), .int (Mv 9), .ref (Ma 8), .int (Mv 10), .ref (Ma 9), .ref (Ma 10), .int (Mv 11), .int (Mv 12), .int (Mv 13), .ref (Ma 11), .int 0, .ref (Ma 12), .ref (Ma 13), .ref (Ma 14), .ref (Ma 15), .ref (Ma 16), .long (Mj 0), .ref (Ma 17), .ref (Ma 18), .ref (Ma 19), .ref (Ma 20)])), ((Ma 10), .inl (tc 0, 126, .inl sv_47))] H := hP₀
                replace hD : va_D A [((Ma 1), .inl (tc 2, 400, .inl (Mf 1))), ((Ma 3), .inl (tc 0, 7, .inl sv_22)), ((Ma 6), .inl (tc 0, 95, .inl sv_23)), ((Ma 0), .inr (12, [.ref (Ma 1), .int 0, .int (Mv 1), .ref (Ma 2), .ref (Ma 3), .ref (Ma 4), .ref (Ma 5), .ref (Ma 6), .int sv_18, .int sv_19, .int sv_20, .int 6, .int 0, .int (Mv 7), .int sv_21, .ref (Ma 7), .int (Mv 9), .ref (Ma 8), .int (Mv 10), .ref (Ma 9), .ref (Ma 10), .int (Mv 11), .int (Mv 12), .int (Mv 13), .ref (Ma 11), .int 0, .ref (Ma 12), .ref (Ma 13), .ref (Ma 14), .ref (Ma 15), .ref (Ma 16), .long (Mj 0), .ref (Ma 17), .ref (Ma 18), .ref (Ma 19), .ref (Ma 20)])), ((Ma 10), .inl (tc 0, 126, .inl sv_47))] := hD₀
                replace hS := hS₀
                clear hP₀ hD₀ hS₀
                refine lv_aload_n hx hb dX12_book_87 rfl (lv_at hl 1 rfl) ?_
                refine gf_X12_39 hx hb hts hown hK hP 3 rfl rfl dX12_book_88 ?_
                refine lv_iconst (v := 3) hx hb dX12_book_91 (by decide) ?_
                refine va_iald hx hb hK hP 4 0 rfl rfl (vin_dec (by decide +kernel)) dX12_book_92 ?_
                refine lv_topi (fun x_50 ex_50 => ?_)
                have lx_50 : x_50.toInt = (sv_47 3).toInt := congrArg Int32.toInt ex_50
                have ha_51 : 0 ≤ (0 : Int32).toInt ∧ (0 : Int32).toInt ≤ 400 := by
                  have z_1 := Int32.le_iff_toInt_le.mp c_11
                  have z_2 : ¬ (r_25 : Int32).toInt = (0 : Int32).toInt := fun z => c_29 (Int32.toInt_inj.mp z)
                  have z_3 := Int32.le_iff_toInt_le.mp c_42
                  have y_0 : (0 : Int32).toInt = 0 := by decide
                  have y_95 : (95 : Int32).toInt = 95 := by decide
                  have y_126 : (126 : Int32).toInt = 126 := by decide
                  omega
                have ha_52 : (0 : Int) ≤ 999 := by
                  have z_1 := Int32.le_iff_toInt_le.mp c_11
                  have z_2 : ¬ (r_25 : Int32).toInt = (0 : Int32).toInt := fun z => c_29 (Int32.toInt_inj.mp z)
                  have z_3 := Int32.le_iff_toInt_le.mp c_42
                  have y_0 : (0 : Int32).toInt = 0 := by decide
                  have y_95 : (95 : Int32).toInt = 95 := by decide
                  have y_126 : (126 : Int32).toInt = 126 := by decide
                  omega
                have ha_53 : 0 ≤ (0 : Int32).toInt ∧ (0 : Int32).toInt ≤ 20 := by
                  have z_1 := Int32.le_iff_toInt_le.mp c_11
                  have z_2 : ¬ (r_25 : Int32).toInt = (0 : Int32).toInt := fun z => c_29 (Int32.toInt_inj.mp z)
                  have z_3 := Int32.le_iff_toInt_le.mp c_42
                  have y_0 : (0 : Int32).toInt = 0 := by decide
                  have y_95 : (95 : Int32).toInt = 95 := by decide
                  have y_126 : (126 : Int32).toInt = 126 := by decide
                  omega
                have hr_54 : 126 ≤ (vy_34 : Int32).toInt := by
                  have z_1 := Int32.le_iff_toInt_le.mp c_11
                  have z_2 : ¬ (r_25 : Int32).toInt = (0 : Int32).toInt := fun z => c_29 (Int32.toInt_inj.mp z)
                  have z_3 := Int32.le_iff_toInt_le.mp c_42
                  have y_0 : (0 : Int32).toInt = 0 := by decide
                  have y_95 : (95 : Int32).toInt = 95 := by decide
                  have y_126 : (126 : Int32).toInt = 126 := by decide
                  omega
                have hr_55 : (x_50 : Int32).toInt = (sv_23 3).toInt := by
                  have he3 : vy_35 3 = sv_23 3 := (pf_40 3 (by omega)).1 (by decide)
                  have he4 : (vy_35 3).toInt = (sv_23 3).toInt := congrArg Int32.toInt he3
                  have z_1 := Int32.le_iff_toInt_le.mp c_11
                  have z_2 : ¬ (r_25 : Int32).toInt = (0 : Int32).toInt := fun z => c_29 (Int32.toInt_inj.mp z)
                  have z_3 := Int32.le_iff_toInt_le.mp c_42
                  have y_0 : (0 : Int32).toInt = 0 := by decide
                  have y_95 : (95 : Int32).toInt = 95 := by decide
                  have y_126 : (126 : Int32).toInt = 126 := by decide
                  omega
                have hr_56 : (sv_19 : Int32).toInt = 0 := by
                  have z_1 := Int32.le_iff_toInt_le.mp c_11
                  have z_2 : ¬ (r_25 : Int32).toInt = (0 : Int32).toInt := fun z => c_29 (Int32.toInt_inj.mp z)
                  have z_3 := Int32.le_iff_toInt_le.mp c_42
                  have y_0 : (0 : Int32).toInt = 0 := by decide
                  have y_95 : (95 : Int32).toInt = 95 := by decide
                  have y_126 : (126 : Int32).toInt = 126 := by decide
                  omega
                exact retI (v := x_50) hx hb hr hlk (rfl) hP hD hS (sv_18, sv_19, sv_20, sv_21, 0, sv_22, sv_23, sv_47) ⟨_, rfl, (RbC.good pf_24 hr_56 hr_55), ha_51, (SaidD.mono pf_48 ha_52), ha_53⟩ [3, 0, 1, 2, 4] rfl rfl dX12_book_93 (Nat.le_of_ble_eq_true rfl) (Nat.le_of_ble_eq_true rfl) rfl
              · skip
                refine lv_aload_n hx hb dX12_book_50 rfl (lv_at hl 1 rfl) ?_
                refine gf_X12_39 hx hb hts hown hK hP 1 rfl rfl dX12_book_51 ?_
                refine lv_iload_n hx hb dX12_book_54 rfl (lv_at hl 0 rfl) ?_
                refine lv_iload_n hx hb dX12_book_55 rfl (lv_at hl 0 rfl) ?_
                refine lv_bipush (v := 95) hx hb dX12_book_56 (by decide) ?_
                refine lv_icmp_ge (tgt := 70) hx hb dX12_book_58 (by decide) (fun c_57 => ?_) (fun c_57 => ?_)
                · skip
                  refine lv_iconst (v := 0) hx hb dX12_book_70 (by decide) ?_
                  have hi_58 : vp_in vy_34 126 := by
                    have z_1 := Int32.le_iff_toInt_le.mp c_11
                    have z_2 : ¬ (r_25 : Int32).toInt = (0 : Int32).toInt := fun z => c_29 (Int32.toInt_inj.mp z)
                    have z_3 := Int32.lt_iff_toInt_lt.mp (Int32.not_le.mp c_42)
                    have z_4 := Int32.le_iff_toInt_le.mp c_57
                    have y_0 : (0 : Int32).toInt = 0 := by decide
                    have y_95 : (95 : Int32).toInt = 95 := by decide
                    have y_126 : (126 : Int32).toInt = 126 := by decide
                    refine vp_in_iff.mpr ⟨?_, ?_⟩ <;> omega
                  refine st_int hx hb hK hP hD hS 0 0 rfl rfl hi_58 dX12_book_71 (fun g_59 H locs eg_59 hP₀ hD₀ hS₀ => ?_)
                  replace hP : va_P D classes [((Ma 10), .inl (tc 0, 126, .inl g_59)), ((Ma 0), .inr (12, [.ref (Ma 1), .int 0, .int (Mv 1), .ref (Ma 2), .ref (Ma 3), .ref (Ma 4), .ref (Ma 5), .ref (Ma 6), .int sv_18, .int sv_19, .int sv_20, .int 6, .int 0, .int (Mv 7), .int sv_21, .ref (Ma 7), .int (Mv 9), .ref (Ma 8), .int (Mv 10), .ref (Ma 9), .ref (Ma 10), .int (Mv 11), .int (Mv 12), .int (Mv 13), .ref (Ma 11), .int (Mv 14), .ref (Ma 12), .ref (Ma 13), .ref (Ma 14), .ref (Ma 15), .ref (Ma 16), .long (Mj 0), .ref (Ma 17), .ref (Ma 18), .ref (Ma 19), .ref (Ma 20)])), ((Ma 1), .inl (tc 2, 400, .inl (Mf 1))), ((Ma 3), .inl (tc 0, 7, .inl sv_22)), ((Ma 6), .inl (tc 0, 95, .inl sv_23))] H := hP₀
                  replace hD : va_D A [((Ma 10), .inl (tc 0, 126, .inl g_59)), ((Ma 0), .inr (12, [.ref (Ma 1), .int 0, .int (Mv 1), .ref (Ma 2), .ref (Ma 3), .ref (Ma 4), .ref (Ma 5), .ref (Ma 6), .int sv_18, .int sv_19, .int sv_20, .int 6, .int 0, .int (Mv 7), .int sv_21, .ref (Ma 7), .int (Mv 9), .ref (Ma 8), .int (Mv 10), .ref (Ma 9), .ref (Ma 10), .int (Mv 11), .int (Mv 12), .int (Mv 13), .ref (Ma 11), .int (Mv 14), .ref (Ma 12), .ref (Ma 13), .ref (Ma 14), .ref (Ma 15), .ref (Ma 16), .long (Mj 0), .ref (Ma 17), .ref (Ma 18), .ref (Ma 19), .ref (Ma 20)])), ((Ma 1), .inl (tc 2, 400, .inl (Mf 1))), ((Ma 3), .inl (tc 0, 7, .inl sv_22)), ((Ma 6), .inl (tc 0, 95, .inl sv_23))] := hD₀
                  replace hS := hS₀
                  clear hP₀ hD₀ hS₀
                  obtain ⟨x_60, ex_60⟩ : ∃ y : Int32, y = vy_34 + 1 := ⟨_, rfl⟩
                  refine lv_iinc (v := x_60) (lv' := [(1, .int x_60), (0, .ref (Ma 0))]) hx hb dX12_book_72 hl (k := 0) rfl (by rw [ex_60]; rfl) (by decide) rfl (fun ls hl₀ => ?_)
                  replace hl := hl₀
                  clear hl₀
                  refine lv_goto (tgt := 44) hx hb dX12_book_75 (by decide) ?_
                  have hb_61 : 126 - (x_60 : Int32).toInt < 126 - (vy_34 : Int32).toInt ∧ 1 ≤ 126 - (vy_34 : Int32).toInt := by
                    have z_1 := Int32.le_iff_toInt_le.mp c_11
                    have z_2 : ¬ (r_25 : Int32).toInt = (0 : Int32).toInt := fun z => c_29 (Int32.toInt_inj.mp z)
                    have z_3 := Int32.lt_iff_toInt_lt.mp (Int32.not_le.mp c_42)
                    have z_4 := Int32.le_iff_toInt_le.mp c_57
                    have y_0 : (0 : Int32).toInt = 0 := by decide
                    have y_95 : (95 : Int32).toInt = 95 := by decide
                    have y_126 : (126 : Int32).toInt = 126 := by decide
                    have y_1 : (1 : Int32).toInt = 1 := by decide
                    have t_x_60 : x_60.toInt = (vy_34 : Int32).toInt + (1 : Int32).toInt := by rw [ex_60]; exact add_toInt (by omega) (by omega)
                    omega
                  have ha_62 : 0 ≤ (x_60 : Int32).toInt := by
                    have z_1 := Int32.le_iff_toInt_le.mp c_11
                    have z_2 : ¬ (r_25 : Int32).toInt = (0 : Int32).toInt := fun z => c_29 (Int32.toInt_inj.mp z)
                    have z_3 := Int32.lt_iff_toInt_lt.mp (Int32.not_le.mp c_42)
                    have z_4 := Int32.le_iff_toInt_le.mp c_57
                    have y_0 : (0 : Int32).toInt = 0 := by decide
                    have y_95 : (95 : Int32).toInt = 95 := by decide
                    have y_126 : (126 : Int32).toInt = 126 := by decide
                    have y_1 : (1 : Int32).toInt = 1 := by decide
                    have t_x_60 : x_60.toInt = (vy_34 : Int32).toInt + (1 : Int32).toInt := by rw [ex_60]; exact add_toInt (by omega) (by omega)
                    omega
                  have hr_63 : 95 ≤ (vy_34 : Int32).toInt := by
                    have z_1 := Int32.le_iff_toInt_le.mp c_11
                    have z_2 : ¬ (r_25 : Int32).toInt = (0 : Int32).toInt := fun z => c_29 (Int32.toInt_inj.mp z)
                    have z_3 := Int32.lt_iff_toInt_lt.mp (Int32.not_le.mp c_42)
                    have z_4 := Int32.le_iff_toInt_le.mp c_57
                    have y_0 : (0 : Int32).toInt = 0 := by decide
                    have y_95 : (95 : Int32).toInt = 95 := by decide
                    have y_126 : (126 : Int32).toInt = 126 := by decide
                    omega
                  have hi_64 : (x_60 : Int32).toInt = (vy_34 : Int32).toInt + 1 := by
                    have z_1 := Int32.le_iff_toInt_le.mp c_11
                    have z_2 : ¬ (r_25 : Int32).toInt = (0 : Int32).toInt := fun z => c_29 (Int32.toInt_inj.mp z)
                    have z_3 := Int32.lt_iff_toInt_lt.mp (Int32.not_le.mp c_42)
                    have z_4 := Int32.le_iff_toInt_le.mp c_57
                    have y_0 : (0 : Int32).toInt = 0 := by decide
                    have y_95 : (95 : Int32).toInt = 95 := by decide
                    have y_126 : (126 : Int32).toInt = 126 := by decide
                    have y_1 : (1 : Int32).toInt = 1 := by decide
                    have t_x_60 : x_60.toInt = (vy_34 : Int32).toInt + (1 : Int32).toInt := by rw [ex_60]; exact add_toInt (by omega) (by omega)
                    omega
                  have hr_65 : 0 ≤ (vy_34 : Int32).toInt := by
                    have z_1 := Int32.le_iff_toInt_le.mp c_11
                    have z_2 : ¬ (r_25 : Int32).toInt = (0 : Int32).toInt := fun z => c_29 (Int32.toInt_inj.mp z)
                    have z_3 := Int32.lt_iff_toInt_lt.mp (Int32.not_le.mp c_42)
                    have z_4 := Int32.le_iff_toInt_le.mp c_57
                    have y_0 : (0 : Int32).toInt = 0 := by decide
                    have y_95 : (95 : Int32).toInt = 95 := by decide
                    have y_126 : (126 : Int32).toInt = 126 := by decide
                    omega
                  exact ih_37 x_60 g_59 _ _ _ (by omega) ha_62 (SdK.step pf_40 eg_59 (Or.inr ⟨hr_63, by decide⟩) hi_64 hr_65) (hP.sub [0, 1, 2, 3, 4] rfl) (hD.sub [0, 1, 2, 3, 4] rfl rfl) hS (lv_sub hl [0, 1] rfl)
                · skip
                  refine lv_aload_n hx hb dX12_book_61 rfl (lv_at hl 1 rfl) ?_
                  refine gf_X12_26 hx hb hts hown hK hP 1 rfl rfl dX12_book_62 ?_
                  refine lv_iload_n hx hb dX12_book_65 rfl (lv_at hl 0 rfl) ?_
                  have hi_66 : vp_in vy_34 95 := by
                    have z_1 := Int32.le_iff_toInt_le.mp c_11
                    have z_2 : ¬ (r_25 : Int32).toInt = (0 : Int32).toInt := fun z => c_29 (Int32.toInt_inj.mp z)
                    have z_3 := Int32.lt_iff_toInt_lt.mp (Int32.not_le.mp c_42)
                    have z_4 := Int32.lt_iff_toInt_lt.mp (Int32.not_le.mp c_57)
                    have y_0 : (0 : Int32).toInt = 0 := by decide
                    have y_95 : (95 : Int32).toInt = 95 := by decide
                    have y_126 : (126 : Int32).toInt = 126 := by decide
                    refine vp_in_iff.mpr ⟨?_, ?_⟩ <;> omega
                  refine va_iald hx hb hK hP 4 0 rfl rfl hi_66 dX12_book_66 ?_
                  refine lv_topi (fun x_67 ex_67 => ?_)
                  refine lv_goto (tgt := 71) hx hb dX12_book_67 (by decide) ?_
                  have hi_68 : vp_in vy_34 126 := by
                    have z_1 := Int32.le_iff_toInt_le.mp c_11
                    have z_2 : ¬ (r_25 : Int32).toInt = (0 : Int32).toInt := fun z => c_29 (Int32.toInt_inj.mp z)
                    have z_3 := Int32.lt_iff_toInt_lt.mp (Int32.not_le.mp c_42)
                    have z_4 := Int32.lt_iff_toInt_lt.mp (Int32.not_le.mp c_57)
                    have y_0 : (0 : Int32).toInt = 0 := by decide
                    have y_95 : (95 : Int32).toInt = 95 := by decide
                    have y_126 : (126 : Int32).toInt = 126 := by decide
                    refine vp_in_iff.mpr ⟨?_, ?_⟩ <;> omega
                  refine st_int hx hb hK hP hD hS 0 0 rfl rfl hi_68 dX12_book_71 (fun g_69 H locs eg_69 hP₀ hD₀ hS₀ => ?_)
                  replace hP : va_P D classes [((Ma 10), .inl (tc 0, 126, .inl g_69)), ((Ma 0), .inr (12, [.ref (Ma 1), .int 0, .int (Mv 1), .ref (Ma 2), .ref (Ma 3), .ref (Ma 4), .ref (Ma 5), .ref (Ma 6), .int sv_18, .int sv_19, .int sv_20, .int 6, .int 0, .int (Mv 7), .int sv_21, .ref (Ma 7), .int (Mv 9), .ref (Ma 8), .int (Mv 10), .ref (Ma 9), .ref (Ma 10), .int (Mv 11), .int (Mv 12), .int (Mv 13), .ref (Ma 11), .int (Mv 14), .ref (Ma 12), .ref (Ma 13), .ref (Ma 14), .ref (Ma 15), .ref (Ma 16), .long (Mj 0), .ref (Ma 17), .ref (Ma 18), .ref (Ma 19), .ref (Ma 20)])), ((Ma 1), .inl (tc 2, 400, .inl (Mf 1))), ((Ma 3), .inl (tc 0, 7, .inl sv_22)), ((Ma 6), .inl (tc 0, 95, .inl sv_23))] H := hP₀
                  replace hD : va_D A [((Ma 10), .inl (tc 0, 126, .inl g_69)), ((Ma 0), .inr (12, [.ref (Ma 1), .int 0, .int (Mv 1), .ref (Ma 2), .ref (Ma 3), .ref (Ma 4), .ref (Ma 5), .ref (Ma 6), .int sv_18, .int sv_19, .int sv_20, .int 6, .int 0, .int (Mv 7), .int sv_21, .ref (Ma 7), .int (Mv 9), .ref (Ma 8), .int (Mv 10), .ref (Ma 9), .ref (Ma 10), .int (Mv 11), .int (Mv 12), .int (Mv 13), .ref (Ma 11), .int (Mv 14), .ref (Ma 12), .ref (Ma 13), .ref (Ma 14), .ref (Ma 15), .ref (Ma 16), .long (Mj 0), .ref (Ma 17), .ref (Ma 18), .ref (Ma 19), .ref (Ma 20)])), ((Ma 1), .inl (tc 2, 400, .inl (Mf 1))), ((Ma 3), .inl (tc 0, 7, .inl sv_22)), ((Ma 6), .inl (tc 0, 95, .inl sv_23))] := hD₀
                  replace hS := hS₀
                  clear hP₀ hD₀ hS₀
                  obtain ⟨x_70, ex_70⟩ : ∃ y : Int32, y = vy_34 + 1 := ⟨_, rfl⟩
                  refine lv_iinc (v := x_70) (lv' := [(1, .int x_70), (0, .ref (Ma 0))]) hx hb dX12_book_72 hl (k := 0) rfl (by rw [ex_70]; rfl) (by decide) rfl (fun ls hl₀ => ?_)
                  replace hl := hl₀
                  clear hl₀
                  refine lv_goto (tgt := 44) hx hb dX12_book_75 (by decide) ?_
                  have hb_71 : 126 - (x_70 : Int32).toInt < 126 - (vy_34 : Int32).toInt ∧ 1 ≤ 126 - (vy_34 : Int32).toInt := by
                    have z_1 := Int32.le_iff_toInt_le.mp c_11
                    have z_2 : ¬ (r_25 : Int32).toInt = (0 : Int32).toInt := fun z => c_29 (Int32.toInt_inj.mp z)
                    have z_3 := Int32.lt_iff_toInt_lt.mp (Int32.not_le.mp c_42)
                    have z_4 := Int32.lt_iff_toInt_lt.mp (Int32.not_le.mp c_57)
                    have y_0 : (0 : Int32).toInt = 0 := by decide
                    have y_95 : (95 : Int32).toInt = 95 := by decide
                    have y_126 : (126 : Int32).toInt = 126 := by decide
                    have y_1 : (1 : Int32).toInt = 1 := by decide
                    have t_x_70 : x_70.toInt = (vy_34 : Int32).toInt + (1 : Int32).toInt := by rw [ex_70]; exact add_toInt (by omega) (by omega)
                    omega
                  have ha_72 : 0 ≤ (x_70 : Int32).toInt := by
                    have z_1 := Int32.le_iff_toInt_le.mp c_11
                    have z_2 : ¬ (r_25 : Int32).toInt = (0 : Int32).toInt := fun z => c_29 (Int32.toInt_inj.mp z)
                    have z_3 := Int32.lt_iff_toInt_lt.mp (Int32.not_le.mp c_42)
                    have z_4 := Int32.lt_iff_toInt_lt.mp (Int32.not_le.mp c_57)
                    have y_0 : (0 : Int32).toInt = 0 := by decide
                    have y_95 : (95 : Int32).toInt = 95 := by decide
                    have y_126 : (126 : Int32).toInt = 126 := by decide
                    have y_1 : (1 : Int32).toInt = 1 := by decide
                    have t_x_70 : x_70.toInt = (vy_34 : Int32).toInt + (1 : Int32).toInt := by rw [ex_70]; exact add_toInt (by omega) (by omega)
                    omega
                  have hr_73 : (vy_34 : Int32).toInt < 95 := by
                    have z_1 := Int32.le_iff_toInt_le.mp c_11
                    have z_2 : ¬ (r_25 : Int32).toInt = (0 : Int32).toInt := fun z => c_29 (Int32.toInt_inj.mp z)
                    have z_3 := Int32.lt_iff_toInt_lt.mp (Int32.not_le.mp c_42)
                    have z_4 := Int32.lt_iff_toInt_lt.mp (Int32.not_le.mp c_57)
                    have y_0 : (0 : Int32).toInt = 0 := by decide
                    have y_95 : (95 : Int32).toInt = 95 := by decide
                    have y_126 : (126 : Int32).toInt = 126 := by decide
                    omega
                  have hi_74 : (x_70 : Int32).toInt = (vy_34 : Int32).toInt + 1 := by
                    have z_1 := Int32.le_iff_toInt_le.mp c_11
                    have z_2 : ¬ (r_25 : Int32).toInt = (0 : Int32).toInt := fun z => c_29 (Int32.toInt_inj.mp z)
                    have z_3 := Int32.lt_iff_toInt_lt.mp (Int32.not_le.mp c_42)
                    have z_4 := Int32.lt_iff_toInt_lt.mp (Int32.not_le.mp c_57)
                    have y_0 : (0 : Int32).toInt = 0 := by decide
                    have y_95 : (95 : Int32).toInt = 95 := by decide
                    have y_126 : (126 : Int32).toInt = 126 := by decide
                    have y_1 : (1 : Int32).toInt = 1 := by decide
                    have t_x_70 : x_70.toInt = (vy_34 : Int32).toInt + (1 : Int32).toInt := by rw [ex_70]; exact add_toInt (by omega) (by omega)
                    omega
                  have hr_75 : 0 ≤ (vy_34 : Int32).toInt := by
                    have z_1 := Int32.le_iff_toInt_le.mp c_11
                    have z_2 : ¬ (r_25 : Int32).toInt = (0 : Int32).toInt := fun z => c_29 (Int32.toInt_inj.mp z)
                    have z_3 := Int32.lt_iff_toInt_lt.mp (Int32.not_le.mp c_42)
                    have z_4 := Int32.lt_iff_toInt_lt.mp (Int32.not_le.mp c_57)
                    have y_0 : (0 : Int32).toInt = 0 := by decide
                    have y_95 : (95 : Int32).toInt = 95 := by decide
                    have y_126 : (126 : Int32).toInt = 126 := by decide
                    omega
                  exact ih_37 x_70 g_69 _ _ _ (by omega) ha_72 (SdK.step pf_40 eg_69 (Or.inl ⟨hr_73, ex_67⟩) hi_74 hr_75) (hP.sub [0, 1, 2, 3, 4] rfl) (hD.sub [0, 1, 2, 3, 4] rfl rfl) hS (lv_sub hl [0, 1] rfl)
          have ha_76 : 0 ≤ (0 : Int32).toInt := by
            have z_1 := Int32.le_iff_toInt_le.mp c_11
            have z_2 : ¬ (r_25 : Int32).toInt = (0 : Int32).toInt := fun z => c_29 (Int32.toInt_inj.mp z)
            have y_0 : (0 : Int32).toInt = 0 := by decide
            have y_95 : (95 : Int32).toInt = 95 := by decide
            omega
          have ha_77 : SdK (Mf 10) sv_23 0 := fun i hi => absurd hi (by have h0z : (0 : Int32).toInt = 0 := (by decide); omega)
          exact loop_38 _ 0 (Mf 10) _ _ _ (Nat.lt_succ_self _) ha_76 ha_77 hP hD hS hl
        · skip
          refine lv_bipush (v := (-2)) hx hb dX12_book_34 (by decide) ?_
          refine lv_aload_n hx hb dX12_book_36 rfl (lv_at hl 1 rfl) ?_
          refine gf_X12_84 hx hb hts hown hK hP 1 rfl rfl dX12_book_37 ?_
          refine lv_isub hx hb dX12_book_40 ?_
          refine lv_topi (fun x_78 ex_78 => ?_)
          have ha_79 : 0 ≤ (0 : Int32).toInt ∧ (0 : Int32).toInt ≤ 400 := by
            have z_1 := Int32.le_iff_toInt_le.mp c_11
            have z_2 := congrArg Int32.toInt c_29
            have y_0 : (0 : Int32).toInt = 0 := by decide
            have y_95 : (95 : Int32).toInt = 95 := by decide
            omega
          have hr_80 : ¬ (sv_19 : Int32).toInt = 0 := by
            have z_1 := Int32.le_iff_toInt_le.mp c_11
            have z_2 := congrArg Int32.toInt c_29
            have y_0 : (0 : Int32).toInt = 0 := by decide
            have y_95 : (95 : Int32).toInt = 95 := by decide
            omega
          exact retI (v := x_78) hx hb hr hlk (rfl) hP hD hS (sv_18, sv_19, sv_20, sv_21, (Mv 14), sv_22, sv_23, (Mf 10)) ⟨_, rfl, (RbC.bad pf_24 hr_80 ex_78), ha_79, h_said, h_un⟩ [1, 2, 3, 4, 0] rfl rfl dX12_book_41 (Nat.le_of_ble_eq_true rfl) (Nat.le_of_ble_eq_true rfl) rfl
      · skip
        refine lv_aload_n hx hb dX12_book_14 rfl (lv_at hl 1 rfl) ?_
        refine gf_X12_26 hx hb hts hown hK hP 0 rfl rfl dX12_book_15 ?_
        refine lv_iload_n hx hb dX12_book_18 rfl (lv_at hl 0 rfl) ?_
        refine lv_iconst (v := 0) hx hb dX12_book_19 (by decide) ?_
        have hi_81 : vp_in vy_3 95 := by
          have z_1 := Int32.lt_iff_toInt_lt.mp (Int32.not_le.mp c_11)
          have y_95 : (95 : Int32).toInt = 95 := by decide
          refine vp_in_iff.mpr ⟨?_, ?_⟩ <;> omega
        refine st_int hx hb hK hP hD hS 3 0 rfl rfl hi_81 dX12_book_20 (fun g_82 H locs eg_82 hP₀ hD₀ hS₀ => ?_)
        replace hP : va_P D classes [((Ma 0), .inr (12, [.ref (Ma 1), .int (Mv 0), .int (Mv 1), .ref (Ma 2), .ref (Ma 3), .ref (Ma 4), .ref (Ma 5), .ref (Ma 6), .int (Mv 2), .int (Mv 3), .int (Mv 4), .int 6, .int (Mv 6), .int (Mv 7), .int (Mv 8), .ref (Ma 7), .int (Mv 9), .ref (Ma 8), .int (Mv 10), .ref (Ma 9), .ref (Ma 10), .int (Mv 11), .int (Mv 12), .int (Mv 13), .ref (Ma 11), .int (Mv 14), .ref (Ma 12), .ref (Ma 13), .ref (Ma 14), .ref (Ma 15), .ref (Ma 16), .long (Mj 0), .ref (Ma 17), .ref (Ma 18), .ref (Ma 19), .ref (Ma 20)])), ((Ma 1), .inl (tc 2, 400, .inl (Mf 1))), ((Ma 3), .inl (tc 0, 7, .inl (Mf 3))), ((Ma 6), .inl (tc 0, 95, .inl g_82)), ((Ma 10), .inl (tc 0, 126, .inl (Mf 10)))] H := hP₀
        replace hD : va_D A [((Ma 0), .inr (12, [.ref (Ma 1), .int (Mv 0), .int (Mv 1), .ref (Ma 2), .ref (Ma 3), .ref (Ma 4), .ref (Ma 5), .ref (Ma 6), .int (Mv 2), .int (Mv 3), .int (Mv 4), .int 6, .int (Mv 6), .int (Mv 7), .int (Mv 8), .ref (Ma 7), .int (Mv 9), .ref (Ma 8), .int (Mv 10), .ref (Ma 9), .ref (Ma 10), .int (Mv 11), .int (Mv 12), .int (Mv 13), .ref (Ma 11), .int (Mv 14), .ref (Ma 12), .ref (Ma 13), .ref (Ma 14), .ref (Ma 15), .ref (Ma 16), .long (Mj 0), .ref (Ma 17), .ref (Ma 18), .ref (Ma 19), .ref (Ma 20)])), ((Ma 1), .inl (tc 2, 400, .inl (Mf 1))), ((Ma 3), .inl (tc 0, 7, .inl (Mf 3))), ((Ma 6), .inl (tc 0, 95, .inl g_82)), ((Ma 10), .inl (tc 0, 126, .inl (Mf 10)))] := hD₀
        replace hS := hS₀
        clear hP₀ hD₀ hS₀
        obtain ⟨x_83, ex_83⟩ : ∃ y : Int32, y = vy_3 + 1 := ⟨_, rfl⟩
        refine lv_iinc (v := x_83) (lv' := [(1, .int x_83), (0, .ref (Ma 0))]) hx hb dX12_book_21 hl (k := 0) rfl (by rw [ex_83]; rfl) (by decide) rfl (fun ls hl₀ => ?_)
        replace hl := hl₀
        clear hl₀
        refine lv_goto (tgt := 8) hx hb dX12_book_24 (by decide) ?_
        have hb_84 : 95 - (x_83 : Int32).toInt < 95 - (vy_3 : Int32).toInt ∧ 1 ≤ 95 - (vy_3 : Int32).toInt := by
          have z_1 := Int32.lt_iff_toInt_lt.mp (Int32.not_le.mp c_11)
          have y_95 : (95 : Int32).toInt = 95 := by decide
          have y_1 : (1 : Int32).toInt = 1 := by decide
          have t_x_83 : x_83.toInt = (vy_3 : Int32).toInt + (1 : Int32).toInt := by rw [ex_83]; exact add_toInt (by omega) (by omega)
          omega
        have ha_85 : 0 ≤ (x_83 : Int32).toInt := by
          have z_1 := Int32.lt_iff_toInt_lt.mp (Int32.not_le.mp c_11)
          have y_95 : (95 : Int32).toInt = 95 := by decide
          have y_1 : (1 : Int32).toInt = 1 := by decide
          have t_x_83 : x_83.toInt = (vy_3 : Int32).toInt + (1 : Int32).toInt := by rw [ex_83]; exact add_toInt (by omega) (by omega)
          omega
        have hi_86 : (x_83 : Int32).toInt = (vy_3 : Int32).toInt + 1 := by
          have z_1 := Int32.lt_iff_toInt_lt.mp (Int32.not_le.mp c_11)
          have y_95 : (95 : Int32).toInt = 95 := by decide
          have y_1 : (1 : Int32).toInt = 1 := by decide
          have t_x_83 : x_83.toInt = (vy_3 : Int32).toInt + (1 : Int32).toInt := by rw [ex_83]; exact add_toInt (by omega) (by omega)
          omega
        have hr_87 : 0 ≤ (vy_3 : Int32).toInt := by
          have z_1 := Int32.lt_iff_toInt_lt.mp (Int32.not_le.mp c_11)
          have y_95 : (95 : Int32).toInt = 95 := by decide
          omega
        exact ih_6 x_83 g_82 _ _ _ (by omega) ha_85 (Rd0.step pf_9 eg_82 hi_86 hr_87) (hP.sub [0, 1, 2, 3, 4] rfl) (hD.sub [0, 1, 2, 3, 4] rfl rfl) hS (lv_sub hl [0, 1] rfl)
  have ha_88 : 0 ≤ (0 : Int32).toInt := by
    have y_0 : (0 : Int32).toInt = 0 := by decide
    omega
  have ha_89 : Rd0 (Mf 6) 0 := fun i hi => absurd hi (by have h0z : (0 : Int32).toInt = 0 := (by decide); omega)
  exact loop_7 _ 0 (Mf 6) _ _ _ (Nat.lt_succ_self _) ha_88 ha_89 hP hD hS hl
