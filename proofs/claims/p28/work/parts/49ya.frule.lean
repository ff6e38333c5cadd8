set_option maxHeartbeats 4000000 in
set_option maxRecDepth 100000 in
theorem ct_fX12_readsAll_r (l : Launch) (D : va_G) (tc : Nat → ClassId) (sk : (Nat → Nat) × (Nat → Nat)) (Ma : Nat → Nat) (Mv : Nat → Int32) (Mf : Nat → Nat → Int32) (Mj : Nat → Int64) (h_tp : 0 ≤ ((Mv 0) : Int32).toInt ∧ ((Mv 0) : Int32).toInt ≤ 400) (h_t : 0 ≤ ((Mv 5) : Int32).toInt ∧ ((Mv 5) : Int32).toInt ≤ 5) (h_rp : RulP (Mf 2) (Mf 4) (Mf 5) (Mv 5) 0) (h_c : ((Mf 5) (Mv 5).toInt.toNat).toInt = 0) (h_bs : ByS (Mf 1)) : Ct l yX12_readsAll cX12_readsAll 2 (some .boolean) { frames := 11, cells := 0, slots := 0, locals := 241 } D tc sk [.ref (Ma 0)] [((Ma 0), .inr (12, [.ref (Ma 1), .int (Mv 0), .int (Mv 1), .ref (Ma 2), .ref (Ma 3), .ref (Ma 4), .ref (Ma 5), .ref (Ma 6), .int (Mv 2), .int (Mv 3), .int (Mv 4), .int (Mv 5), .int (Mv 6), .int (Mv 7), .int (Mv 8), .ref (Ma 7), .int (Mv 9), .ref (Ma 8), .int (Mv 10), .ref (Ma 9), .ref (Ma 10), .int (Mv 11), .int (Mv 12), .int (Mv 13), .ref (Ma 11), .int (Mv 14), .ref (Ma 12), .ref (Ma 13), .ref (Ma 14), .ref (Ma 15), .ref (Ma 16), .long (Mj 0), .ref (Ma 17), .ref (Ma 18), .ref (Ma 19), .ref (Ma 20)])), ((Ma 1), .inl (tc 2, 400, .inl (Mf 1))), ((Ma 2), .inl (tc 0, 2400, .inl (Mf 2))), ((Ma 3), .inl (tc 0, 7, .inl (Mf 3))), ((Ma 4), .inl (tc 0, 288, .inl (Mf 4))), ((Ma 5), .inl (tc 0, 6, .inl (Mf 5))), ((Ma 7), .inl (tc 0, 400, .inl (Mf 7)))] (fun (v : Option Value) (u : (Int32) × (Int32) × (Int32) × (Int32) × (Int32) × (Int32) × (Int32) × (Nat → Int32) × (Nat → Int32) × (Nat → Int32) × (Nat → Int32) × (Nat → Int32)) => match u with | (oo0x1, oo0x2, oo0x3, oo0x4, oo0x5, oo0x6, oo0x7, oo0x8, oo0x9, oo0x10, oo0x11, oo0x12) => ∃ r : Int32, v = some (.int r) ∧ (((r.toInt = 0 ∧ ¬ (oo0x2 : Int32).toInt = 0) ∨ (r.toInt = 1 ∧ (oo0x2 : Int32).toInt = 0 ∧ (oo0x11 (Mv 5).toInt.toNat).toInt ≤ 12))) ∧ (RulD oo0x8 oo0x10 oo0x11 (Mv 5)) ∧ (RuE (rB (Mf 1) (Mv 0)) oo0x2) ∧ (r.toInt = 1 → (RulP oo0x8 oo0x10 oo0x11 (Mv 5) ((oo0x9 (Mv 5).toNatClampNeg).toInt)))) (fun (u : (Int32) × (Int32) × (Int32) × (Int32) × (Int32) × (Int32) × (Int32) × (Nat → Int32) × (Nat → Int32) × (Nat → Int32) × (Nat → Int32) × (Nat → Int32)) => match u with | (oo0x1, oo0x2, oo0x3, oo0x4, oo0x5, oo0x6, oo0x7, oo0x8, oo0x9, oo0x10, oo0x11, oo0x12) => [((Ma 0), .inr (12, [.ref (Ma 1), .int 0, .int (Mv 1), .ref (Ma 2), .ref (Ma 3), .ref (Ma 4), .ref (Ma 5), .ref (Ma 6), .int oo0x1, .int oo0x2, .int oo0x3, .int (Mv 5), .int oo0x4, .int oo0x5, .int oo0x6, .ref (Ma 7), .int oo0x7, .ref (Ma 8), .int (Mv 10), .ref (Ma 9), .ref (Ma 10), .int (Mv 11), .int (Mv 12), .int (Mv 13), .ref (Ma 11), .int (Mv 14), .ref (Ma 12), .ref (Ma 13), .ref (Ma 14), .ref (Ma 15), .ref (Ma 16), .long (Mj 0), .ref (Ma 17), .ref (Ma 18), .ref (Ma 19), .ref (Ma 20)])), ((Ma 1), .inl (tc 2, 400, .inl (Mf 1))), ((Ma 2), .inl (tc 0, 2400, .inl oo0x8)), ((Ma 3), .inl (tc 0, 7, .inl oo0x9)), ((Ma 4), .inl (tc 0, 288, .inl oo0x10)), ((Ma 5), .inl (tc 0, 6, .inl oo0x11)), ((Ma 7), .inl (tc 0, 400, .inl oo0x12))]) 0 0 := by
  refine Ct.start (by decide) (Nat.le_of_ble_eq_true rfl) (fun p e s m below meth c A ls hx hb hr hlk hin hml hown hts hK hX hP hD hA hl hS => ?_)
  have hl : lv_has ls 2 [(0, .ref (Ma 0))] := hl
  have ar_h_rp := h_rp.2.1
  refine lv_aload_n hx hb dX12_readsAll_0 rfl (lv_at hl 0 rfl) ?_
  refine gf_X12_17 hx hb hts hown hK hP 0 rfl rfl dX12_readsAll_1 ?_
  refine lv_aload_n hx hb dX12_readsAll_4 rfl (lv_at hl 0 rfl) ?_
  refine gf_X12_145 hx hb hts hown hK hP 0 rfl rfl dX12_readsAll_5 ?_
  refine lv_iconst (v := 0) hx hb dX12_readsAll_8 (by decide) ?_
  have hi_1 : vp_in (Mv 5) 7 := by
    refine vp_in_iff.mpr ⟨?_, ?_⟩ <;> omega
  refine st_int hx hb hK hP hD hS 3 0 rfl rfl hi_1 dX12_readsAll_9 (fun g_2 H locs eg_2 hP₀ hD₀ hS₀ => ?_)
  replace hP : va_P D classes [((Ma 0), .inr (12, [.ref (Ma 1), .int (Mv 0), .int (Mv 1), .ref (Ma 2), .ref (Ma 3), .ref (Ma 4), .ref (Ma 5), .ref (Ma 6), .int (Mv 2), .int (Mv 3), .int (Mv 4), .int (Mv 5), .int (Mv 6), .int (Mv 7), .int (Mv 8), .ref (Ma 7), .int (Mv 9), .ref (Ma 8), .int (Mv 10), .ref (Ma 9), .ref (Ma 10), .int (Mv 11), .int (Mv 12), .int (Mv 13), .ref (Ma 11), .int (Mv 14), .ref (Ma 12), .ref (Ma 13), .ref (Ma 14), .ref (Ma 15), .ref (Ma 16), .long (Mj 0), .ref (Ma 17), .ref (Ma 18), .ref (Ma 19), .ref (Ma 20)])), ((Ma 1), .inl (tc 2, 400, .inl (Mf 1))), ((Ma 2), .inl (tc 0, 2400, .inl (Mf 2))), ((Ma 3), .inl (tc 0, 7, .inl g_2)), ((Ma 4), .inl (tc 0, 288, .inl (Mf 4))), ((Ma 5), .inl (tc 0, 6, .inl (Mf 5))), ((Ma 7), .inl (tc 0, 400, .inl (Mf 7)))] H := hP₀
  replace hD : va_D A [((Ma 0), .inr (12, [.ref (Ma 1), .int (Mv 0), .int (Mv 1), .ref (Ma 2), .ref (Ma 3), .ref (Ma 4), .ref (Ma 5), .ref (Ma 6), .int (Mv 2), .int (Mv 3), .int (Mv 4), .int (Mv 5), .int (Mv 6), .int (Mv 7), .int (Mv 8), .ref (Ma 7), .int (Mv 9), .ref (Ma 8), .int (Mv 10), .ref (Ma 9), .ref (Ma 10), .int (Mv 11), .int (Mv 12), .int (Mv 13), .ref (Ma 11), .int (Mv 14), .ref (Ma 12), .ref (Ma 13), .ref (Ma 14), .ref (Ma 15), .ref (Ma 16), .long (Mj 0), .ref (Ma 17), .ref (Ma 18), .ref (Ma 19), .ref (Ma 20)])), ((Ma 1), .inl (tc 2, 400, .inl (Mf 1))), ((Ma 2), .inl (tc 0, 2400, .inl (Mf 2))), ((Ma 3), .inl (tc 0, 7, .inl g_2)), ((Ma 4), .inl (tc 0, 288, .inl (Mf 4))), ((Ma 5), .inl (tc 0, 6, .inl (Mf 5))), ((Ma 7), .inl (tc 0, 400, .inl (Mf 7)))] := hD₀
  replace hS := hS₀
  clear hP₀ hD₀ hS₀
  have kl_g_2 : (g_2 (Mv 5).toNatClampNeg).toInt = (0 : Int32).toInt := upd_toInt_at eg_2
  have kz0 : (0 : Int32).toInt = 0 := by decide
  refine lv_aload_n hx hb dX12_readsAll_10 rfl (lv_at hl 0 rfl) ?_
  refine lv_iconst (v := 0) hx hb dX12_readsAll_11 (by decide) ?_
  refine pf_X12_244 hx hb hts hown hK hP hD hS 0 rfl (Nat.le_of_ble_eq_true rfl) rfl rfl dX12_readsAll_12 (fun H locs hP₀ hD₀ hS₀ => ?_)
  replace hP : va_P D classes [((Ma 0), .inr (12, [.ref (Ma 1), .int (Mv 0), .int (Mv 1), .ref (Ma 2), .ref (Ma 3), .ref (Ma 4), .ref (Ma 5), .ref (Ma 6), .int (Mv 2), .int (Mv 3), .int (Mv 4), .int (Mv 5), .int (Mv 6), .int (Mv 7), .int 0, .ref (Ma 7), .int (Mv 9), .ref (Ma 8), .int (Mv 10), .ref (Ma 9), .ref (Ma 10), .int (Mv 11), .int (Mv 12), .int (Mv 13), .ref (Ma 11), .int (Mv 14), .ref (Ma 12), .ref (Ma 13), .ref (Ma 14), .ref (Ma 15), .ref (Ma 16), .long (Mj 0), .ref (Ma 17), .ref (Ma 18), .ref (Ma 19), .ref (Ma 20)])), ((Ma 1), .inl (tc 2, 400, .inl (Mf 1))), ((Ma 2), .inl (tc 0, 2400, .inl (Mf 2))), ((Ma 3), .inl (tc 0, 7, .inl g_2)), ((Ma 4), .inl (tc 0, 288, .inl (Mf 4))), ((Ma 5), .inl (tc 0, 6, .inl (Mf 5))), ((Ma 7), .inl (tc 0, 400, .inl (Mf 7)))] H := hP₀
  replace hD : va_D A [((Ma 0), .inr (12, [.ref (Ma 1), .int (Mv 0), .int (Mv 1), .ref (Ma 2), .ref (Ma 3), .ref (Ma 4), .ref (Ma 5), .ref (Ma 6), .int (Mv 2), .int (Mv 3), .int (Mv 4), .int (Mv 5), .int (Mv 6), .int (Mv 7), .int 0, .ref (Ma 7), .int (Mv 9), .ref (Ma 8), .int (Mv 10), .ref (Ma 9), .ref (Ma 10), .int (Mv 11), .int (Mv 12), .int (Mv 13), .ref (Ma 11), .int (Mv 14), .ref (Ma 12), .ref (Ma 13), .ref (Ma 14), .ref (Ma 15), .ref (Ma 16), .long (Mj 0), .ref (Ma 17), .ref (Ma 18), .ref (Ma 19), .ref (Ma 20)])), ((Ma 1), .inl (tc 2, 400, .inl (Mf 1))), ((Ma 2), .inl (tc 0, 2400, .inl (Mf 2))), ((Ma 3), .inl (tc 0, 7, .inl g_2)), ((Ma 4), .inl (tc 0, 288, .inl (Mf 4))), ((Ma 5), .inl (tc 0, 6, .inl (Mf 5))), ((Ma 7), .inl (tc 0, 400, .inl (Mf 7)))] := hD₀
  replace hS := hS₀
  clear hP₀ hD₀ hS₀
  refine lv_aload_n hx hb dX12_readsAll_15 rfl (lv_at hl 0 rfl) ?_
  refine lv_iconst (v := 0) hx hb dX12_readsAll_16 (by decide) ?_
  refine pf_X12_87 hx hb hts hown hK hP hD hS 0 rfl (Nat.le_of_ble_eq_true rfl) rfl rfl dX12_readsAll_17 (fun H locs hP₀ hD₀ hS₀ => ?_)
  replace hP : va_P D classes [((Ma 0), .inr (12, [.ref (Ma 1), .int (Mv 0), .int (Mv 1), .ref (Ma 2), .ref (Ma 3), .ref (Ma 4), .ref (Ma 5), .ref (Ma 6), .int 0, .int (Mv 3), .int (Mv 4), .int (Mv 5), .int (Mv 6), .int (Mv 7), .int 0, .ref (Ma 7), .int (Mv 9), .ref (Ma 8), .int (Mv 10), .ref (Ma 9), .ref (Ma 10), .int (Mv 11), .int (Mv 12), .int (Mv 13), .ref (Ma 11), .int (Mv 14), .ref (Ma 12), .ref (Ma 13), .ref (Ma 14), .ref (Ma 15), .ref (Ma 16), .long (Mj 0), .ref (Ma 17), .ref (Ma 18), .ref (Ma 19), .ref (Ma 20)])), ((Ma 1), .inl (tc 2, 400, .inl (Mf 1))), ((Ma 2), .inl (tc 0, 2400, .inl (Mf 2))), ((Ma 3), .inl (tc 0, 7, .inl g_2)), ((Ma 4), .inl (tc 0, 288, .inl (Mf 4))), ((Ma 5), .inl (tc 0, 6, .inl (Mf 5))), ((Ma 7), .inl (tc 0, 400, .inl (Mf 7)))] H := hP₀
  replace hD : va_D A [((Ma 0), .inr (12, [.ref (Ma 1), .int (Mv 0), .int (Mv 1), .ref (Ma 2), .ref (Ma 3), .ref (Ma 4), .ref (Ma 5), .ref (Ma 6), .int 0, .int (Mv 3), .int (Mv 4), .int (Mv 5), .int (Mv 6), .int (Mv 7), .int 0, .ref (Ma 7), .int (Mv 9), .ref (Ma 8), .int (Mv 10), .ref (Ma 9), .ref (Ma 10), .int (Mv 11), .int (Mv 12), .int (Mv 13), .ref (Ma 11), .int (Mv 14), .ref (Ma 12), .ref (Ma 13), .ref (Ma 14), .ref (Ma 15), .ref (Ma 16), .long (Mj 0), .ref (Ma 17), .ref (Ma 18), .ref (Ma 19), .ref (Ma 20)])), ((Ma 1), .inl (tc 2, 400, .inl (Mf 1))), ((Ma 2), .inl (tc 0, 2400, .inl (Mf 2))), ((Ma 3), .inl (tc 0, 7, .inl g_2)), ((Ma 4), .inl (tc 0, 288, .inl (Mf 4))), ((Ma 5), .inl (tc 0, 6, .inl (Mf 5))), ((Ma 7), .inl (tc 0, 400, .inl (Mf 7)))] := hD₀
  replace hS := hS₀
  clear hP₀ hD₀ hS₀
  refine lv_aload_n hx hb dX12_readsAll_20 rfl (lv_at hl 0 rfl) ?_
  refine lv_iconst (v := 0) hx hb dX12_readsAll_21 (by decide) ?_
  refine pf_X12_84 hx hb hts hown hK hP hD hS 0 rfl (Nat.le_of_ble_eq_true rfl) rfl rfl dX12_readsAll_22 (fun H locs hP₀ hD₀ hS₀ => ?_)
  replace hP : va_P D classes [((Ma 0), .inr (12, [.ref (Ma 1), .int (Mv 0), .int (Mv 1), .ref (Ma 2), .ref (Ma 3), .ref (Ma 4), .ref (Ma 5), .ref (Ma 6), .int 0, .int 0, .int (Mv 4), .int (Mv 5), .int (Mv 6), .int (Mv 7), .int 0, .ref (Ma 7), .int (Mv 9), .ref (Ma 8), .int (Mv 10), .ref (Ma 9), .ref (Ma 10), .int (Mv 11), .int (Mv 12), .int (Mv 13), .ref (Ma 11), .int (Mv 14), .ref (Ma 12), .ref (Ma 13), .ref (Ma 14), .ref (Ma 15), .ref (Ma 16), .long (Mj 0), .ref (Ma 17), .ref (Ma 18), .ref (Ma 19), .ref (Ma 20)])), ((Ma 1), .inl (tc 2, 400, .inl (Mf 1))), ((Ma 2), .inl (tc 0, 2400, .inl (Mf 2))), ((Ma 3), .inl (tc 0, 7, .inl g_2)), ((Ma 4), .inl (tc 0, 288, .inl (Mf 4))), ((Ma 5), .inl (tc 0, 6, .inl (Mf 5))), ((Ma 7), .inl (tc 0, 400, .inl (Mf 7)))] H := hP₀
  replace hD : va_D A [((Ma 0), .inr (12, [.ref (Ma 1), .int (Mv 0), .int (Mv 1), .ref (Ma 2), .ref (Ma 3), .ref (Ma 4), .ref (Ma 5), .ref (Ma 6), .int 0, .int 0, .int (Mv 4), .int (Mv 5), .int (Mv 6), .int (Mv 7), .int 0, .ref (Ma 7), .int (Mv 9), .ref (Ma 8), .int (Mv 10), .ref (Ma 9), .ref (Ma 10), .int (Mv 11), .int (Mv 12), .int (Mv 13), .ref (Ma 11), .int (Mv 14), .ref (Ma 12), .ref (Ma 13), .ref (Ma 14), .ref (Ma 15), .ref (Ma 16), .long (Mj 0), .ref (Ma 17), .ref (Ma 18), .ref (Ma 19), .ref (Ma 20)])), ((Ma 1), .inl (tc 2, 400, .inl (Mf 1))), ((Ma 2), .inl (tc 0, 2400, .inl (Mf 2))), ((Ma 3), .inl (tc 0, 7, .inl g_2)), ((Ma 4), .inl (tc 0, 288, .inl (Mf 4))), ((Ma 5), .inl (tc 0, 6, .inl (Mf 5))), ((Ma 7), .inl (tc 0, 400, .inl (Mf 7)))] := hD₀
  replace hS := hS₀
  clear hP₀ hD₀ hS₀
  refine lv_aload_n hx hb dX12_readsAll_25 rfl (lv_at hl 0 rfl) ?_
  refine lv_iconst (v := 0) hx hb dX12_readsAll_26 (by decide) ?_
  refine pf_X12_148 hx hb hts hown hK hP hD hS 0 rfl (Nat.le_of_ble_eq_true rfl) rfl rfl dX12_readsAll_27 (fun H locs hP₀ hD₀ hS₀ => ?_)
  replace hP : va_P D classes [((Ma 0), .inr (12, [.ref (Ma 1), .int (Mv 0), .int (Mv 1), .ref (Ma 2), .ref (Ma 3), .ref (Ma 4), .ref (Ma 5), .ref (Ma 6), .int 0, .int 0, .int (Mv 4), .int (Mv 5), .int 0, .int (Mv 7), .int 0, .ref (Ma 7), .int (Mv 9), .ref (Ma 8), .int (Mv 10), .ref (Ma 9), .ref (Ma 10), .int (Mv 11), .int (Mv 12), .int (Mv 13), .ref (Ma 11), .int (Mv 14), .ref (Ma 12), .ref (Ma 13), .ref (Ma 14), .ref (Ma 15), .ref (Ma 16), .long (Mj 0), .ref (Ma 17), .ref (Ma 18), .ref (Ma 19), .ref (Ma 20)])), ((Ma 1), .inl (tc 2, 400, .inl (Mf 1))), ((Ma 2), .inl (tc 0, 2400, .inl (Mf 2))), ((Ma 3), .inl (tc 0, 7, .inl g_2)), ((Ma 4), .inl (tc 0, 288, .inl (Mf 4))), ((Ma 5), .inl (tc 0, 6, .inl (Mf 5))), ((Ma 7), .inl (tc 0, 400, .inl (Mf 7)))] H := hP₀
  replace hD : va_D A [((Ma 0), .inr (12, [.ref (Ma 1), .int (Mv 0), .int (Mv 1), .ref (Ma 2), .ref (Ma 3), .ref (Ma 4), .ref (Ma 5), .ref (Ma 6), .int 0, .int 0, .int (Mv 4), .int (Mv 5), .int 0, .int (Mv 7), .int 0, .ref (Ma 7), .int (Mv 9), .ref (Ma 8), .int (Mv 10), .ref (Ma 9), .ref (Ma 10), .int (Mv 11), .int (Mv 12), .int (Mv 13), .ref (Ma 11), .int (Mv 14), .ref (Ma 12), .ref (Ma 13), .ref (Ma 14), .ref (Ma 15), .ref (Ma 16), .long (Mj 0), .ref (Ma 17), .ref (Ma 18), .ref (Ma 19), .ref (Ma 20)])), ((Ma 1), .inl (tc 2, 400, .inl (Mf 1))), ((Ma 2), .inl (tc 0, 2400, .inl (Mf 2))), ((Ma 3), .inl (tc 0, 7, .inl g_2)), ((Ma 4), .inl (tc 0, 288, .inl (Mf 4))), ((Ma 5), .inl (tc 0, 6, .inl (Mf 5))), ((Ma 7), .inl (tc 0, 400, .inl (Mf 7)))] := hD₀
  replace hS := hS₀
  clear hP₀ hD₀ hS₀
  refine lv_aload_n hx hb dX12_readsAll_30 rfl (lv_at hl 0 rfl) ?_
  have hr_3 : 0 ≤ ((g_2 (Mv 5).toNatClampNeg).toInt) := by
    omega
  have ha_4 : 0 ≤ ((0 : Int32) : Int32).toInt ∧ ((0 : Int32) : Int32).toInt ≤ ((Mv 0) : Int32).toInt ∧ ((Mv 0) : Int32).toInt ≤ 400 := by
    have y_0 : (0 : Int32).toInt = 0 := by decide
    omega
  have ha_5 : 0 ≤ ((0 : Int32) : Int32).toInt ∧ ((0 : Int32) : Int32).toInt ≤ 60 := by
    have y_0 : (0 : Int32).toInt = 0 := by decide
    omega
  have ha_6 : 0 ≤ (g_2 (Mv 5).toNatClampNeg).toInt ∧ (g_2 (Mv 5).toNatClampNeg).toInt ≤ ((0 : Int32) : Int32).toInt := by
    have y_0 : (0 : Int32).toInt = 0 := by decide
    omega
  have ha_7 : ((Mf 5) (Mv 5).toInt.toNat).toInt = ((0 : Int32) : Int32).toInt ∧ 0 ≤ ((0 : Int32) : Int32).toInt ∧ ((0 : Int32) : Int32).toInt ≤ 12 := by
    have y_0 : (0 : Int32).toInt = 0 := by decide
    omega
  have ha_8 : ((0 : Int32) : Int32).toInt = 0 := by
    have y_0 : (0 : Int32).toInt = 0 := by decide
    omega
  refine cV (a := (Ma 0)) (As := []) (rest := []) (wr := []) ⟨hx, hb, hml, hown, hts⟩ hK hX hA (cu_fX12_clauseHere_r l D tc sk (Ma 0) (Ma 1) (Ma 2) (Ma 3) (Ma 4) (Ma 5) (Ma 6) (Ma 7) (Ma 8) (Ma 9) (Ma 10) (Ma 11) (Ma 12) (Ma 13) (Ma 14) (Ma 15) (Ma 16) (Ma 17) (Ma 18) (Ma 19) (Ma 20) (Mv 0) (Mv 1) 0 0 (Mv 4) (Mv 5) 0 (Mv 7) 0 (Mv 9) (Mv 10) (Mv 11) (Mv 12) (Mv 13) (Mv 14) (Mf 1) (Mf 2) g_2 (Mf 4) (Mf 5) (Mf 7) (Mj 0) ha_4 ha_5 h_t ha_6 (RulP.mono h_rp hr_3) ha_7 h_bs ha_8) k_1207 k_1204 k_1206 k_26 k_106 pl_X12_clauseHere ⟨Nat.le_of_ble_eq_true rfl, Nat.le_of_ble_eq_true rfl⟩ rfl rfl (va_recv hK hP (ci := 12) (q0 := 0) rfl rfl) hP hD hS [0, 1, 2, 3, 4, 5, 6] [] rfl rfl rfl rfl rfl (by decide) rfl hl.1 rfl (Nat.le_of_ble_eq_true rfl) dX12_readsAll_31 ⟨Nat.le_of_ble_eq_true rfl, Nat.le_of_ble_eq_true rfl⟩ (fun v_9 u_10 H locs hv_11 hP₀ hD₀ hS₀ => ?_)
  obtain ⟨sv_12, sv_13, sv_14, sv_15, sv_16, sv_17, sv_18, sv_19, sv_20, sv_21, sv_22, sv_23⟩ := u_10
  obtain ⟨r_27, rfl, he_28, pf_24, pf_25, pf_26, hm_30, hm_31⟩ := hv_11
  have he_28 : ((r_27.toInt = 0 ∧ ¬ (sv_13 : Int32).toInt = 0) ∨ (r_27.toInt = 1 ∧ 0 ≤ (sv_20 (Mv 5).toNatClampNeg).toInt ∧ (sv_20 (Mv 5).toNatClampNeg).toInt ≤ (sv_12 : Int32).toInt ∧ (sv_22 (Mv 5).toInt.toNat).toInt = (sv_17 : Int32).toInt ∧ 0 ≤ (sv_17 : Int32).toInt ∧ (sv_17 : Int32).toInt ≤ 12 ∧ (sv_17 : Int32).toInt = (0 : Int32).toInt + 1 ∧ (sv_13 : Int32).toInt = 0)) := he_28
  have pf_24 : ((0 : Int32) : Int32).toInt ≤ (sv_12 : Int32).toInt ∧ (sv_12 : Int32).toInt ≤ ((Mv 0) : Int32).toInt := pf_24
  have pf_25 : ((0 : Int32) : Int32).toInt ≤ (sv_15 : Int32).toInt ∧ (sv_15 : Int32).toInt ≤ 60 := pf_25
  have pf_26 : RulD sv_19 sv_21 sv_22 (Mv 5) := pf_26
  refine W.eq (g2 := F0 m 34 ls [.int r_27]) rfl ?_
  replace hP : va_P D classes [((Ma 0), .inr (12, [.ref (Ma 1), .int (Mv 0), .int (Mv 1), .ref (Ma 2), .ref (Ma 3), .ref (Ma 4), .ref (Ma 5), .ref (Ma 6), .int sv_12, .int sv_13, .int sv_14, .int (Mv 5), .int sv_15, .int sv_16, .int sv_17, .ref (Ma 7), .int sv_18, .ref (Ma 8), .int (Mv 10), .ref (Ma 9), .ref (Ma 10), .int (Mv 11), .int (Mv 12), .int (Mv 13), .ref (Ma 11), .int (Mv 14), .ref (Ma 12), .ref (Ma 13), .ref (Ma 14), .ref (Ma 15), .ref (Ma 16), .long (Mj 0), .ref (Ma 17), .ref (Ma 18), .ref (Ma 19), .ref (Ma 20)])), ((Ma 1), .inl (tc 2, 400, .inl (Mf 1))), ((Ma 2), .inl (tc 0, 2400, .inl sv_19)), ((Ma 3), .inl (tc 0, 7, .inl sv_20)), ((Ma 4), .inl (tc 0, 288, .inl sv_21)), ((Ma 5), .inl (tc 0, 6, .inl sv_22)), ((Ma 7), .inl (tc 0, 400, .inl sv_23))] H := hP₀
  replace hD : va_D A [((Ma 0), .inr (12, [.ref (Ma 1), .int (Mv 0), .int (Mv 1), .ref (Ma 2), .ref (Ma 3), .ref (Ma 4), .ref (Ma 5), .ref (Ma 6), .int sv_12, .int sv_13, .int sv_14, .int (Mv 5), .int sv_15, .int sv_16, .int sv_17, .ref (Ma 7), .int sv_18, .ref (Ma 8), .int (Mv 10), .ref (Ma 9), .ref (Ma 10), .int (Mv 11), .int (Mv 12), .int (Mv 13), .ref (Ma 11), .int (Mv 14), .ref (Ma 12), .ref (Ma 13), .ref (Ma 14), .ref (Ma 15), .ref (Ma 16), .long (Mj 0), .ref (Ma 17), .ref (Ma 18), .ref (Ma 19), .ref (Ma 20)])), ((Ma 1), .inl (tc 2, 400, .inl (Mf 1))), ((Ma 2), .inl (tc 0, 2400, .inl sv_19)), ((Ma 3), .inl (tc 0, 7, .inl sv_20)), ((Ma 4), .inl (tc 0, 288, .inl sv_21)), ((Ma 5), .inl (tc 0, 6, .inl sv_22)), ((Ma 7), .inl (tc 0, 400, .inl sv_23))] := hD₀
  replace hS := hS₀
  clear hP₀ hD₀ hS₀
  refine lv_istore_n (lv' := [(1, .int r_27), (0, .ref (Ma 0))]) hx hb dX12_readsAll_34 rfl hl (by decide) rfl (fun ls hl₀ => ?_)
  replace hl := hl₀
  clear hl₀
  have loop_60 : ∀ (n_58 : Nat) (vy_45 : Int32) (vy_46 : Int32) (vy_47 : Int32) (vy_48 : Int32) (vy_49 : Int32) (vy_50 : Int32) (vy_51 : Int32) (vy_52 : Int32) (vy_53 : Nat → Int32) (vy_54 : Nat → Int32) (vy_55 : Nat → Int32) (vy_56 : Nat → Int32) (vy_57 : Nat → Int32) (H : Heap) (locs : List Loc) (ls : Array Slot), (2 * (401 - (vy_46 : Int32).toInt) + (vy_45 : Int32).toInt).toNat < n_58 → (0 ≤ (vy_46 : Int32).toInt ∧ (vy_46 : Int32).toInt ≤ ((Mv 0) : Int32).toInt ∧ ((Mv 0) : Int32).toInt ≤ 400) → (0 ≤ (vy_49 : Int32).toInt ∧ (vy_49 : Int32).toInt ≤ 60) → ((((vy_45 : Int32).toInt = 0 ∧ ¬ (vy_47 : Int32).toInt = 0) ∨ ((vy_45 : Int32).toInt = 1 ∧ 0 ≤ (vy_54 (Mv 5).toNatClampNeg).toInt ∧ (vy_54 (Mv 5).toNatClampNeg).toInt ≤ (vy_46 : Int32).toInt ∧ (vy_56 (Mv 5).toInt.toNat).toInt = (vy_51 : Int32).toInt ∧ 0 ≤ (vy_51 : Int32).toInt ∧ (vy_51 : Int32).toInt ≤ 12 ∧ (vy_47 : Int32).toInt = 0))) → (RuG vy_53 vy_55 vy_56 (Mv 5) ((vy_54 (Mv 5).toNatClampNeg).toInt) vy_45) → (RulD vy_53 vy_55 vy_56 (Mv 5)) → (RaL (rB (Mf 1) (Mv 0)) vy_46 vy_49 vy_51 vy_47 vy_45) → va_P D classes [((Ma 0), .inr (12, [.ref (Ma 1), .int (Mv 0), .int (Mv 1), .ref (Ma 2), .ref (Ma 3), .ref (Ma 4), .ref (Ma 5), .ref (Ma 6), .int vy_46, .int vy_47, .int vy_48, .int (Mv 5), .int vy_49, .int vy_50, .int vy_51, .ref (Ma 7), .int vy_52, .ref (Ma 8), .int (Mv 10), .ref (Ma 9), .ref (Ma 10), .int (Mv 11), .int (Mv 12), .int (Mv 13), .ref (Ma 11), .int (Mv 14), .ref (Ma 12), .ref (Ma 13), .ref (Ma 14), .ref (Ma 15), .ref (Ma 16), .long (Mj 0), .ref (Ma 17), .ref (Ma 18), .ref (Ma 19), .ref (Ma 20)])), ((Ma 1), .inl (tc 2, 400, .inl (Mf 1))), ((Ma 2), .inl (tc 0, 2400, .inl vy_53)), ((Ma 3), .inl (tc 0, 7, .inl vy_54)), ((Ma 4), .inl (tc 0, 288, .inl vy_55)), ((Ma 5), .inl (tc 0, 6, .inl vy_56)), ((Ma 7), .inl (tc 0, 400, .inl vy_57))] H → va_D A [((Ma 0), .inr (12, [.ref (Ma 1), .int (Mv 0), .int (Mv 1), .ref (Ma 2), .ref (Ma 3), .ref (Ma 4), .ref (Ma 5), .ref (Ma 6), .int vy_46, .int vy_47, .int vy_48, .int (Mv 5), .int vy_49, .int vy_50, .int vy_51, .ref (Ma 7), .int vy_52, .ref (Ma 8), .int (Mv 10), .ref (Ma 9), .ref (Ma 10), .int (Mv 11), .int (Mv 12), .int (Mv 13), .ref (Ma 11), .int (Mv 14), .ref (Ma 12), .ref (Ma 13), .ref (Ma 14), .ref (Ma 15), .ref (Ma 16), .long (Mj 0), .ref (Ma 17), .ref (Ma 18), .ref (Ma 19), .ref (Ma 20)])), ((Ma 1), .inl (tc 2, 400, .inl (Mf 1))), ((Ma 2), .inl (tc 0, 2400, .inl vy_53)), ((Ma 3), .inl (tc 0, 7, .inl vy_54)), ((Ma 4), .inl (tc 0, 288, .inl vy_55)), ((Ma 5), .inl (tc 0, 6, .inl vy_56)), ((Ma 7), .inl (tc 0, 400, .inl vy_57))] → va_S A s.heap H locs → lv_has ls 2 [(1, .int vy_45), (0, .ref (Ma 0))] → W p l e ({ frames := 11, cells := 0, slots := 0, locals := 241 }) s m ([.ref (Ma 0)].toArray) below meth c H locs 0 0 (MQ below (QW (fun (v : Option Value) (u : (Int32) × (Int32) × (Int32) × (Int32) × (Int32) × (Int32) × (Int32) × (Nat → Int32) × (Nat → Int32) × (Nat → Int32) × (Nat → Int32) × (Nat → Int32)) => match u with | (oo0x1, oo0x2, oo0x3, oo0x4, oo0x5, oo0x6, oo0x7, oo0x8, oo0x9, oo0x10, oo0x11, oo0x12) => ∃ r : Int32, v = some (.int r) ∧ (((r.toInt = 0 ∧ ¬ (oo0x2 : Int32).toInt = 0) ∨ (r.toInt = 1 ∧ (oo0x2 : Int32).toInt = 0 ∧ (oo0x11 (Mv 5).toInt.toNat).toInt ≤ 12))) ∧ (RulD oo0x8 oo0x10 oo0x11 (Mv 5)) ∧ (RuE (rB (Mf 1) (Mv 0)) oo0x2) ∧ (r.toInt = 1 → (RulP oo0x8 oo0x10 oo0x11 (Mv 5) ((oo0x9 (Mv 5).toNatClampNeg).toInt)))) (BW D (fun (u : (Int32) × (Int32) × (Int32) × (Int32) × (Int32) × (Int32) × (Int32) × (Nat → Int32) × (Nat → Int32) × (Nat → Int32) × (Nat → Int32) × (Nat → Int32)) => match u with | (oo0x1, oo0x2, oo0x3, oo0x4, oo0x5, oo0x6, oo0x7, oo0x8, oo0x9, oo0x10, oo0x11, oo0x12) => [((Ma 0), .inr (12, [.ref (Ma 1), .int 0, .int (Mv 1), .ref (Ma 2), .ref (Ma 3), .ref (Ma 4), .ref (Ma 5), .ref (Ma 6), .int oo0x1, .int oo0x2, .int oo0x3, .int (Mv 5), .int oo0x4, .int oo0x5, .int oo0x6, .ref (Ma 7), .int oo0x7, .ref (Ma 8), .int (Mv 10), .ref (Ma 9), .ref (Ma 10), .int (Mv 11), .int (Mv 12), .int (Mv 13), .ref (Ma 11), .int (Mv 14), .ref (Ma 12), .ref (Ma 13), .ref (Ma 14), .ref (Ma 15), .ref (Ma 16), .long (Mj 0), .ref (Ma 17), .ref (Ma 18), .ref (Ma 19), .ref (Ma 20)])), ((Ma 1), .inl (tc 2, 400, .inl (Mf 1))), ((Ma 2), .inl (tc 0, 2400, .inl oo0x8)), ((Ma 3), .inl (tc 0, 7, .inl oo0x9)), ((Ma 4), .inl (tc 0, 288, .inl oo0x10)), ((Ma 5), .inl (tc 0, 6, .inl oo0x11)), ((Ma 7), .inl (tc 0, 400, .inl oo0x12))]) A) A) ([.ref (Ma 0)].toArray) s 0 0 A) (F0 m 35 ls []) := by
    clear hP hD hS hl
    intro n_58
    induction n_58 with
    | zero =>
      intro vy_45 vy_46 vy_47 vy_48 vy_49 vy_50 vy_51 vy_52 vy_53 vy_54 vy_55 vy_56 vy_57 H locs ls h1
      exact absurd h1 (Nat.not_lt_zero _)
    | succ n_58 ih_59 =>
      intro vy_45 vy_46 vy_47 vy_48 vy_49 vy_50 vy_51 vy_52 vy_53 vy_54 vy_55 vy_56 vy_57 H locs ls hn_67 pf_61 pf_62 pf_63 pf_64 pf_65 pf_66 hP hD hS hl
      refine lv_iload_n hx hb dX12_readsAll_35 rfl (lv_at hl 0 rfl) ?_
      refine lv_if_eq (tgt := 66) hx hb dX12_readsAll_36 (by decide) (fun c_68 => ?_) (fun c_68 => ?_)
      · skip
        refine lv_iload_n hx hb dX12_readsAll_66 rfl (lv_at hl 0 rfl) ?_
        refine lv_if_eq (tgt := 88) hx hb dX12_readsAll_67 (by decide) (fun c_69 => ?_) (fun c_69 => ?_)
        · skip
          refine lv_aload_n hx hb dX12_readsAll_88 rfl (lv_at hl 1 rfl) ?_
          refine lv_iconst (v := 0) hx hb dX12_readsAll_89 (by decide) ?_
          refine pf_X12_77 hx hb hts hown hK hP hD hS 0 rfl (Nat.le_of_ble_eq_true rfl) rfl rfl dX12_readsAll_90 (fun H locs hP₀ hD₀ hS₀ => ?_)
          replace hP : va_P D classes [((Ma 0), .inr (12, [.ref (Ma 1), .int 0, .int (Mv 1), .ref (Ma 2), .ref (Ma 3), .ref (Ma 4), .ref (Ma 5), .ref (Ma 6), .int vy_46, .int vy_47, .int vy_48, .int (Mv 5), .int vy_49, .int vy_50, .int vy_51, .ref (Ma 7), .int vy_52, .ref (Ma 8), .int (Mv 10), .ref (Ma 9), .ref (Ma 10), .int (Mv 11), .int (Mv 12), .int (Mv 13), .ref (Ma 11), .int (Mv 14), .ref (Ma 12), .ref (Ma 13), .ref (Ma 14), .ref (Ma 15), .ref (Ma 16), .long (Mj 0), .ref (Ma 17), .ref (Ma 18), .ref (Ma 19), .ref (Ma 20)])), ((Ma 1), .inl (tc 2, 400, .inl (Mf 1))), ((Ma 2), .inl (tc 0, 2400, .inl vy_53)), ((Ma 3), .inl (tc 0, 7, .inl vy_54)), ((Ma 4), .inl (tc 0, 288, .inl vy_55)), ((Ma 5), .inl (tc 0, 6, .inl vy_56)), ((Ma 7), .inl (tc 0, 400, .inl vy_57))] H := hP₀
          replace hD : va_D A [((Ma 0), .inr (12, [.ref (Ma 1), .int 0, .int (Mv 1), .ref (Ma 2), .ref (Ma 3), .ref (Ma 4), .ref (Ma 5), .ref (Ma 6), .int vy_46, .int vy_47, .int vy_48, .int (Mv 5), .int vy_49, .int vy_50, .int vy_51, .ref (Ma 7), .int vy_52, .ref (Ma 8), .int (Mv 10), .ref (Ma 9), .ref (Ma 10), .int (Mv 11), .int (Mv 12), .int (Mv 13), .ref (Ma 11), .int (Mv 14), .ref (Ma 12), .ref (Ma 13), .ref (Ma 14), .ref (Ma 15), .ref (Ma 16), .long (Mj 0), .ref (Ma 17), .ref (Ma 18), .ref (Ma 19), .ref (Ma 20)])), ((Ma 1), .inl (tc 2, 400, .inl (Mf 1))), ((Ma 2), .inl (tc 0, 2400, .inl vy_53)), ((Ma 3), .inl (tc 0, 7, .inl vy_54)), ((Ma 4), .inl (tc 0, 288, .inl vy_55)), ((Ma 5), .inl (tc 0, 6, .inl vy_56)), ((Ma 7), .inl (tc 0, 400, .inl vy_57))] := hD₀
          replace hS := hS₀
          clear hP₀ hD₀ hS₀
          refine lv_aload_n hx hb dX12_readsAll_93 rfl (lv_at hl 1 rfl) ?_
          refine gf_X12_84 hx hb hts hown hK hP 0 rfl rfl dX12_readsAll_94 ?_
          refine lv_if_ne (tgt := 104) hx hb dX12_readsAll_97 (by decide) (fun c_70 => ?_) (fun c_70 => ?_)
          · skip
            refine lv_iconst (v := 0) hx hb dX12_readsAll_104 (by decide) ?_
            have hr_71 : (vy_45 : Int32).toInt = 0 := by
              have z_1 := congrArg Int32.toInt c_68
              have z_2 := congrArg Int32.toInt c_69
              have z_3 : ¬ (vy_47 : Int32).toInt = (0 : Int32).toInt := fun z => c_70 (Int32.toInt_inj.mp z)
              have y_0 : (0 : Int32).toInt = 0 := by decide
              omega
            have hr_72 : ¬ (vy_47 : Int32).toInt = 0 := by
              have z_1 := congrArg Int32.toInt c_68
              have z_2 := congrArg Int32.toInt c_69
              have z_3 : ¬ (vy_47 : Int32).toInt = (0 : Int32).toInt := fun z => c_70 (Int32.toInt_inj.mp z)
              have y_0 : (0 : Int32).toInt = 0 := by decide
              omega
            have hp_73 : (((0 : Int32).toInt = 0 ∧ ¬ (vy_47 : Int32).toInt = 0) ∨ ((0 : Int32).toInt = 1 ∧ (vy_47 : Int32).toInt = 0 ∧ (vy_56 (Mv 5).toInt.toNat).toInt ≤ 12)) := by
              have z_1 := congrArg Int32.toInt c_68
              have z_2 := congrArg Int32.toInt c_69
              have z_3 : ¬ (vy_47 : Int32).toInt = (0 : Int32).toInt := fun z => c_70 (Int32.toInt_inj.mp z)
              have y_0 : (0 : Int32).toInt = 0 := by decide
              omega
            exact retI (v := 0) hx hb hr hlk (rfl) hP hD hS (vy_46, vy_47, vy_48, vy_49, vy_50, vy_51, vy_52, vy_53, vy_54, vy_55, vy_56, vy_57) ⟨_, rfl, hp_73, pf_65, (RuE.bad pf_66 hr_71 hr_72), (fun h => absurd h (by decide))⟩ [0, 1, 2, 3, 4, 5, 6] rfl rfl dX12_readsAll_105 (Nat.le_of_ble_eq_true rfl) (Nat.le_of_ble_eq_true rfl) rfl
          · skip
            refine lv_iconst (v := 1) hx hb dX12_readsAll_100 (by decide) ?_
            refine lv_goto (tgt := 105) hx hb dX12_readsAll_101 (by decide) ?_
            have hr_74 : (vy_45 : Int32).toInt = 0 := by
              have z_1 := congrArg Int32.toInt c_68
              have z_2 := congrArg Int32.toInt c_69
              have z_3 := congrArg Int32.toInt c_70
              have y_0 : (0 : Int32).toInt = 0 := by decide
              omega
            have hr_75 : ¬ (vy_47 : Int32).toInt = 0 := by
              have z_1 := congrArg Int32.toInt c_68
              have z_2 := congrArg Int32.toInt c_69
              have z_3 := congrArg Int32.toInt c_70
              have y_0 : (0 : Int32).toInt = 0 := by decide
              omega
            have hp_76 : (((1 : Int32).toInt = 0 ∧ ¬ (vy_47 : Int32).toInt = 0) ∨ ((1 : Int32).toInt = 1 ∧ (vy_47 : Int32).toInt = 0 ∧ (vy_56 (Mv 5).toInt.toNat).toInt ≤ 12)) := by
              have z_1 := congrArg Int32.toInt c_68
              have z_2 := congrArg Int32.toInt c_69
              have z_3 := congrArg Int32.toInt c_70
              have y_0 : (0 : Int32).toInt = 0 := by decide
              have y_1 : (1 : Int32).toInt = 1 := by decide
              have yr : (1 : Int32).toInt = 1 := by decide
              omega
            have hm_77 : (1 : Int32).toInt = 1 → (RulP vy_53 vy_55 vy_56 (Mv 5) ((vy_54 (Mv 5).toNatClampNeg).toInt)) := by
              intro h1r
              have hf_78 : False := by
                have z_1 := congrArg Int32.toInt c_68
                have z_2 := congrArg Int32.toInt c_69
                have z_3 := congrArg Int32.toInt c_70
                have y_0 : (0 : Int32).toInt = 0 := by decide
                omega
              exact (hf_78.elim)
            exact retI (v := 1) hx hb hr hlk (rfl) hP hD hS (vy_46, vy_47, vy_48, vy_49, vy_50, vy_51, vy_52, vy_53, vy_54, vy_55, vy_56, vy_57) ⟨_, rfl, hp_76, pf_65, (RuE.bad pf_66 hr_74 hr_75), hm_77⟩ [0, 1, 2, 3, 4, 5, 6] rfl rfl dX12_readsAll_105 (Nat.le_of_ble_eq_true rfl) (Nat.le_of_ble_eq_true rfl) rfl
        · skip
          exfalso
          have z_1 := congrArg Int32.toInt c_68
          have z_2 : ¬ (vy_45 : Int32).toInt = (0 : Int32).toInt := fun z => c_69 (Int32.toInt_inj.mp z)
          have y_0 : (0 : Int32).toInt = 0 := by decide
          omega
      · skip
        have hr_80 : (vy_45 : Int32).toInt = 1 := by
          have z_1 : ¬ (vy_45 : Int32).toInt = (0 : Int32).toInt := fun z => c_68 (Int32.toInt_inj.mp z)
          have y_0 : (0 : Int32).toInt = 0 := by decide
          omega
        have pf_79 : RulP vy_53 vy_55 vy_56 (Mv 5) ((vy_54 (Mv 5).toNatClampNeg).toInt) := pf_64 hr_80
        have ar_pf_79 := pf_79.2.1
        refine lv_aload_n hx hb dX12_readsAll_39 rfl (lv_at hl 1 rfl) ?_
        refine cV (a := (Ma 0)) (As := []) (rest := []) (wr := [((Ma 2), .inl (tc 0, 2400, .inl vy_53)), ((Ma 3), .inl (tc 0, 7, .inl vy_54)), ((Ma 4), .inl (tc 0, 288, .inl vy_55)), ((Ma 5), .inl (tc 0, 6, .inl vy_56)), ((Ma 7), .inl (tc 0, 400, .inl vy_57))]) ⟨hx, hb, hml, hown, hts⟩ hK hX hA (cu_fX12_see l D tc sk (Ma 0) (Ma 1) (Ma 2) (Ma 3) (Ma 4) (Ma 5) (Ma 6) (Ma 7) (Ma 8) (Ma 9) (Ma 10) (Ma 11) (Ma 12) (Ma 13) (Ma 14) (Ma 15) (Ma 16) (Ma 17) (Ma 18) (Ma 19) (Ma 20) (Mv 0) (Mv 1) vy_46 vy_47 vy_48 (Mv 5) vy_49 vy_50 vy_51 vy_52 (Mv 10) (Mv 11) (Mv 12) (Mv 13) (Mv 14) (Mf 1) (Mj 0) pf_61 h_bs) k_1211 k_1208 k_1210 k_27 k_106 pl_X12_see ⟨Nat.le_of_ble_eq_true rfl, Nat.le_of_ble_eq_true rfl⟩ rfl rfl (va_recv hK hP (ci := 12) (q0 := 0) rfl rfl) hP hD hS [0, 1] [2, 3, 4, 5, 6] rfl rfl rfl rfl rfl (by decide) rfl hl.1 rfl (Nat.le_of_ble_eq_true rfl) dX12_readsAll_40 ⟨Nat.le_of_ble_eq_true rfl, Nat.le_of_ble_eq_true rfl⟩ (fun v_81 u_82 H locs hv_83 hP₀ hD₀ hS₀ => ?_)
        obtain ⟨sv_84, rfl⟩ : ∃ z, z = u_82 := ⟨_, rfl⟩
        obtain ⟨r_89, rfl, he_90, pf_85, pf_86, pf_87, pf_88⟩ := hv_83
        have he_90 : (r_89.toInt = rB (Mf 1) (Mv 0) (sv_84 : Int32).toInt.toNat ∧ (r_89.toInt = -1 ∨ (sv_84 : Int32).toInt < (Mv 0).toInt)) := he_90
        have pf_85 : (vy_46 : Int32).toInt ≤ (sv_84 : Int32).toInt ∧ (sv_84 : Int32).toInt ≤ ((Mv 0) : Int32).toInt := pf_85
        have pf_86 : NSq (Mf 1) (Mv 0) sv_84 := pf_86
        have pf_87 : Stl (Mf 1) (Mv 0) vy_46 sv_84 := pf_87
        have pf_88 : SkR (rB (Mf 1) (Mv 0)) vy_46 sv_84 := pf_88
        refine W.eq (g2 := F0 m 43 ls [.int r_89]) rfl ?_
        replace hP : va_P D classes [((Ma 2), .inl (tc 0, 2400, .inl vy_53)), ((Ma 3), .inl (tc 0, 7, .inl vy_54)), ((Ma 4), .inl (tc 0, 288, .inl vy_55)), ((Ma 5), .inl (tc 0, 6, .inl vy_56)), ((Ma 7), .inl (tc 0, 400, .inl vy_57)), ((Ma 0), .inr (12, [.ref (Ma 1), .int (Mv 0), .int (Mv 1), .ref (Ma 2), .ref (Ma 3), .ref (Ma 4), .ref (Ma 5), .ref (Ma 6), .int sv_84, .int vy_47, .int vy_48, .int (Mv 5), .int vy_49, .int vy_50, .int vy_51, .ref (Ma 7), .int vy_52, .ref (Ma 8), .int (Mv 10), .ref (Ma 9), .ref (Ma 10), .int (Mv 11), .int (Mv 12), .int (Mv 13), .ref (Ma 11), .int (Mv 14), .ref (Ma 12), .ref (Ma 13), .ref (Ma 14), .ref (Ma 15), .ref (Ma 16), .long (Mj 0), .ref (Ma 17), .ref (Ma 18), .ref (Ma 19), .ref (Ma 20)])), ((Ma 1), .inl (tc 2, 400, .inl (Mf 1)))] H := hP₀
        replace hD : va_D A [((Ma 2), .inl (tc 0, 2400, .inl vy_53)), ((Ma 3), .inl (tc 0, 7, .inl vy_54)), ((Ma 4), .inl (tc 0, 288, .inl vy_55)), ((Ma 5), .inl (tc 0, 6, .inl vy_56)), ((Ma 7), .inl (tc 0, 400, .inl vy_57)), ((Ma 0), .inr (12, [.ref (Ma 1), .int (Mv 0), .int (Mv 1), .ref (Ma 2), .ref (Ma 3), .ref (Ma 4), .ref (Ma 5), .ref (Ma 6), .int sv_84, .int vy_47, .int vy_48, .int (Mv 5), .int vy_49, .int vy_50, .int vy_51, .ref (Ma 7), .int vy_52, .ref (Ma 8), .int (Mv 10), .ref (Ma 9), .ref (Ma 10), .int (Mv 11), .int (Mv 12), .int (Mv 13), .ref (Ma 11), .int (Mv 14), .ref (Ma 12), .ref (Ma 13), .ref (Ma 14), .ref (Ma 15), .ref (Ma 16), .long (Mj 0), .ref (Ma 17), .ref (Ma 18), .ref (Ma 19), .ref (Ma 20)])), ((Ma 1), .inl (tc 2, 400, .inl (Mf 1)))] := hD₀
        replace hS := hS₀
        clear hP₀ hD₀ hS₀
        refine lv_bipush (v := 59) hx hb dX12_readsAll_43 (by decide) ?_
        refine lv_icmp_ne (tgt := 66) hx hb dX12_readsAll_45 (by decide) (fun c_92 => ?_) (fun c_92 => ?_)
        · skip
          refine lv_iload_n hx hb dX12_readsAll_66 rfl (lv_at hl 0 rfl) ?_
          refine lv_if_eq (tgt := 88) hx hb dX12_readsAll_67 (by decide) (fun c_93 => ?_) (fun c_93 => ?_)
          · skip
            exfalso
            have z_1 : ¬ (vy_45 : Int32).toInt = (0 : Int32).toInt := fun z => c_68 (Int32.toInt_inj.mp z)
            have z_2 : ¬ (r_89 : Int32).toInt = (59 : Int32).toInt := fun z => c_92 (Int32.toInt_inj.mp z)
            have z_3 := congrArg Int32.toInt c_93
            have y_0 : (0 : Int32).toInt = 0 := by decide
            have y_59 : (59 : Int32).toInt = 59 := by decide
            omega
          · skip
            refine lv_aload_n hx hb dX12_readsAll_70 rfl (lv_at hl 1 rfl) ?_
            have ha_94 : 0 ≤ (sv_84 : Int32).toInt ∧ (sv_84 : Int32).toInt ≤ ((Mv 0) : Int32).toInt ∧ ((Mv 0) : Int32).toInt ≤ 400 := by
              have z_1 : ¬ (vy_45 : Int32).toInt = (0 : Int32).toInt := fun z => c_68 (Int32.toInt_inj.mp z)
              have z_2 : ¬ (r_89 : Int32).toInt = (59 : Int32).toInt := fun z => c_92 (Int32.toInt_inj.mp z)
              have z_3 : ¬ (vy_45 : Int32).toInt = (0 : Int32).toInt := fun z => c_93 (Int32.toInt_inj.mp z)
              have y_0 : (0 : Int32).toInt = 0 := by decide
              have y_59 : (59 : Int32).toInt = 59 := by decide
              omega
            refine cV (a := (Ma 0)) (As := []) (rest := []) (wr := [((Ma 2), .inl (tc 0, 2400, .inl vy_53)), ((Ma 3), .inl (tc 0, 7, .inl vy_54)), ((Ma 4), .inl (tc 0, 288, .inl vy_55)), ((Ma 5), .inl (tc 0, 6, .inl vy_56)), ((Ma 7), .inl (tc 0, 400, .inl vy_57))]) ⟨hx, hb, hml, hown, hts⟩ hK hX hA (cu_fX12_see l D tc sk (Ma 0) (Ma 1) (Ma 2) (Ma 3) (Ma 4) (Ma 5) (Ma 6) (Ma 7) (Ma 8) (Ma 9) (Ma 10) (Ma 11) (Ma 12) (Ma 13) (Ma 14) (Ma 15) (Ma 16) (Ma 17) (Ma 18) (Ma 19) (Ma 20) (Mv 0) (Mv 1) sv_84 vy_47 vy_48 (Mv 5) vy_49 vy_50 vy_51 vy_52 (Mv 10) (Mv 11) (Mv 12) (Mv 13) (Mv 14) (Mf 1) (Mj 0) ha_94 h_bs) k_1211 k_1208 k_1210 k_27 k_106 pl_X12_see ⟨Nat.le_of_ble_eq_true rfl, Nat.le_of_ble_eq_true rfl⟩ rfl rfl (va_recv hK hP (ci := 12) (q0 := 5) rfl rfl) hP hD hS [5, 6] [0, 1, 2, 3, 4] rfl rfl rfl rfl rfl (by decide) rfl hl.1 rfl (Nat.le_of_ble_eq_true rfl) dX12_readsAll_71 ⟨Nat.le_of_ble_eq_true rfl, Nat.le_of_ble_eq_true rfl⟩ (fun v_95 u_96 H locs hv_97 hP₀ hD₀ hS₀ => ?_)
            obtain ⟨sv_98, rfl⟩ : ∃ z, z = u_96 := ⟨_, rfl⟩
            obtain ⟨r_103, rfl, he_104, pf_99, pf_100, pf_101, pf_102⟩ := hv_97
            have he_104 : (r_103.toInt = rB (Mf 1) (Mv 0) (sv_98 : Int32).toInt.toNat ∧ (r_103.toInt = -1 ∨ (sv_98 : Int32).toInt < (Mv 0).toInt)) := he_104
            have pf_99 : (sv_84 : Int32).toInt ≤ (sv_98 : Int32).toInt ∧ (sv_98 : Int32).toInt ≤ ((Mv 0) : Int32).toInt := pf_99
            have pf_100 : NSq (Mf 1) (Mv 0) sv_98 := pf_100
            have pf_101 : Stl (Mf 1) (Mv 0) sv_84 sv_98 := pf_101
            have ar_pf_101 := Stl.or pf_101 pf_86
            have pf_102 : SkR (rB (Mf 1) (Mv 0)) sv_84 sv_98 := pf_102
            refine W.eq (g2 := F0 m 74 ls [.int r_103]) rfl ?_
            replace hP : va_P D classes [((Ma 2), .inl (tc 0, 2400, .inl vy_53)), ((Ma 3), .inl (tc 0, 7, .inl vy_54)), ((Ma 4), .inl (tc 0, 288, .inl vy_55)), ((Ma 5), .inl (tc 0, 6, .inl vy_56)), ((Ma 7), .inl (tc 0, 400, .inl vy_57)), ((Ma 0), .inr (12, [.ref (Ma 1), .int (Mv 0), .int (Mv 1), .ref (Ma 2), .ref (Ma 3), .ref (Ma 4), .ref (Ma 5), .ref (Ma 6), .int sv_98, .int vy_47, .int vy_48, .int (Mv 5), .int vy_49, .int vy_50, .int vy_51, .ref (Ma 7), .int vy_52, .ref (Ma 8), .int (Mv 10), .ref (Ma 9), .ref (Ma 10), .int (Mv 11), .int (Mv 12), .int (Mv 13), .ref (Ma 11), .int (Mv 14), .ref (Ma 12), .ref (Ma 13), .ref (Ma 14), .ref (Ma 15), .ref (Ma 16), .long (Mj 0), .ref (Ma 17), .ref (Ma 18), .ref (Ma 19), .ref (Ma 20)])), ((Ma 1), .inl (tc 2, 400, .inl (Mf 1)))] H := hP₀
            replace hD : va_D A [((Ma 2), .inl (tc 0, 2400, .inl vy_53)), ((Ma 3), .inl (tc 0, 7, .inl vy_54)), ((Ma 4), .inl (tc 0, 288, .inl vy_55)), ((Ma 5), .inl (tc 0, 6, .inl vy_56)), ((Ma 7), .inl (tc 0, 400, .inl vy_57)), ((Ma 0), .inr (12, [.ref (Ma 1), .int (Mv 0), .int (Mv 1), .ref (Ma 2), .ref (Ma 3), .ref (Ma 4), .ref (Ma 5), .ref (Ma 6), .int sv_98, .int vy_47, .int vy_48, .int (Mv 5), .int vy_49, .int vy_50, .int vy_51, .ref (Ma 7), .int vy_52, .ref (Ma 8), .int (Mv 10), .ref (Ma 9), .ref (Ma 10), .int (Mv 11), .int (Mv 12), .int (Mv 13), .ref (Ma 11), .int (Mv 14), .ref (Ma 12), .ref (Ma 13), .ref (Ma 14), .ref (Ma 15), .ref (Ma 16), .long (Mj 0), .ref (Ma 17), .ref (Ma 18), .ref (Ma 19), .ref (Ma 20)])), ((Ma 1), .inl (tc 2, 400, .inl (Mf 1)))] := hD₀
            replace hS := hS₀
            clear hP₀ hD₀ hS₀
            have hE_106 := SkR.eqB pf_88 pf_102
            refine lv_iconst (v := (-1)) hx hb dX12_readsAll_74 (by decide) ?_
            refine lv_icmp_eq (tgt := 88) hx hb dX12_readsAll_75 (by decide) (fun c_107 => ?_) (fun c_107 => ?_)
            · skip
              refine lv_aload_n hx hb dX12_readsAll_88 rfl (lv_at hl 1 rfl) ?_
              refine lv_iconst (v := 0) hx hb dX12_readsAll_89 (by decide) ?_
              refine pf_X12_77 hx hb hts hown hK hP hD hS 5 rfl (Nat.le_of_ble_eq_true rfl) rfl rfl dX12_readsAll_90 (fun H locs hP₀ hD₀ hS₀ => ?_)
              replace hP : va_P D classes [((Ma 2), .inl (tc 0, 2400, .inl vy_53)), ((Ma 3), .inl (tc 0, 7, .inl vy_54)), ((Ma 4), .inl (tc 0, 288, .inl vy_55)), ((Ma 5), .inl (tc 0, 6, .inl vy_56)), ((Ma 7), .inl (tc 0, 400, .inl vy_57)), ((Ma 0), .inr (12, [.ref (Ma 1), .int 0, .int (Mv 1), .ref (Ma 2), .ref (Ma 3), .ref (Ma 4), .ref (Ma 5), .ref (Ma 6), .int sv_98, .int vy_47, .int vy_48, .int (Mv 5), .int vy_49, .int vy_50, .int vy_51, .ref (Ma 7), .int vy_52, .ref (Ma 8), .int (Mv 10), .ref (Ma 9), .ref (Ma 10), .int (Mv 11), .int (Mv 12), .int (Mv 13), .ref (Ma 11), .int (Mv 14), .ref (Ma 12), .ref (Ma 13), .ref (Ma 14), .ref (Ma 15), .ref (Ma 16), .long (Mj 0), .ref (Ma 17), .ref (Ma 18), .ref (Ma 19), .ref (Ma 20)])), ((Ma 1), .inl (tc 2, 400, .inl (Mf 1)))] H := hP₀
              replace hD : va_D A [((Ma 2), .inl (tc 0, 2400, .inl vy_53)), ((Ma 3), .inl (tc 0, 7, .inl vy_54)), ((Ma 4), .inl (tc 0, 288, .inl vy_55)), ((Ma 5), .inl (tc 0, 6, .inl vy_56)), ((Ma 7), .inl (tc 0, 400, .inl vy_57)), ((Ma 0), .inr (12, [.ref (Ma 1), .int 0, .int (Mv 1), .ref (Ma 2), .ref (Ma 3), .ref (Ma 4), .ref (Ma 5), .ref (Ma 6), .int sv_98, .int vy_47, .int vy_48, .int (Mv 5), .int vy_49, .int vy_50, .int vy_51, .ref (Ma 7), .int vy_52, .ref (Ma 8), .int (Mv 10), .ref (Ma 9), .ref (Ma 10), .int (Mv 11), .int (Mv 12), .int (Mv 13), .ref (Ma 11), .int (Mv 14), .ref (Ma 12), .ref (Ma 13), .ref (Ma 14), .ref (Ma 15), .ref (Ma 16), .long (Mj 0), .ref (Ma 17), .ref (Ma 18), .ref (Ma 19), .ref (Ma 20)])), ((Ma 1), .inl (tc 2, 400, .inl (Mf 1)))] := hD₀
              replace hS := hS₀
              clear hP₀ hD₀ hS₀
              refine lv_aload_n hx hb dX12_readsAll_93 rfl (lv_at hl 1 rfl) ?_
              refine gf_X12_84 hx hb hts hown hK hP 5 rfl rfl dX12_readsAll_94 ?_
              refine lv_if_ne (tgt := 104) hx hb dX12_readsAll_97 (by decide) (fun c_108 => ?_) (fun c_108 => ?_)
              · skip
                refine lv_iconst (v := 0) hx hb dX12_readsAll_104 (by decide) ?_
                have hr_109 : (vy_45 : Int32).toInt = 1 := by
                  have z_1 : ¬ (vy_45 : Int32).toInt = (0 : Int32).toInt := fun z => c_68 (Int32.toInt_inj.mp z)
                  have z_2 : ¬ (r_89 : Int32).toInt = (59 : Int32).toInt := fun z => c_92 (Int32.toInt_inj.mp z)
                  have z_3 : ¬ (vy_45 : Int32).toInt = (0 : Int32).toInt := fun z => c_93 (Int32.toInt_inj.mp z)
                  have z_4 := congrArg Int32.toInt c_107
                  have z_5 : ¬ (vy_47 : Int32).toInt = (0 : Int32).toInt := fun z => c_108 (Int32.toInt_inj.mp z)
                  have y_m1 : (-1 : Int32).toInt = -1 := by decide
                  have y_0 : (0 : Int32).toInt = 0 := by decide
                  have y_59 : (59 : Int32).toInt = 59 := by decide
                  omega
                have hr_110 : (rB (Mf 1) (Mv 0) (sv_98 : Int32).toInt.toNat = -1) := by
                  have z_1 : ¬ (vy_45 : Int32).toInt = (0 : Int32).toInt := fun z => c_68 (Int32.toInt_inj.mp z)
                  have z_2 : ¬ (r_89 : Int32).toInt = (59 : Int32).toInt := fun z => c_92 (Int32.toInt_inj.mp z)
                  have z_3 : ¬ (vy_45 : Int32).toInt = (0 : Int32).toInt := fun z => c_93 (Int32.toInt_inj.mp z)
                  have z_4 := congrArg Int32.toInt c_107
                  have z_5 : ¬ (vy_47 : Int32).toInt = (0 : Int32).toInt := fun z => c_108 (Int32.toInt_inj.mp z)
                  have y_m1 : (-1 : Int32).toInt = -1 := by decide
                  have y_0 : (0 : Int32).toInt = 0 := by decide
                  have y_59 : (59 : Int32).toInt = 59 := by decide
                  omega
                have hp_111 : (((0 : Int32).toInt = 0 ∧ ¬ (vy_47 : Int32).toInt = 0) ∨ ((0 : Int32).toInt = 1 ∧ (vy_47 : Int32).toInt = 0 ∧ (vy_56 (Mv 5).toInt.toNat).toInt ≤ 12)) := by
                  have z_1 : ¬ (vy_45 : Int32).toInt = (0 : Int32).toInt := fun z => c_68 (Int32.toInt_inj.mp z)
                  have z_2 : ¬ (r_89 : Int32).toInt = (59 : Int32).toInt := fun z => c_92 (Int32.toInt_inj.mp z)
                  have z_3 : ¬ (vy_45 : Int32).toInt = (0 : Int32).toInt := fun z => c_93 (Int32.toInt_inj.mp z)
                  have z_4 := congrArg Int32.toInt c_107
                  have z_5 : ¬ (vy_47 : Int32).toInt = (0 : Int32).toInt := fun z => c_108 (Int32.toInt_inj.mp z)
                  have y_m1 : (-1 : Int32).toInt = -1 := by decide
                  have y_0 : (0 : Int32).toInt = 0 := by decide
                  have y_59 : (59 : Int32).toInt = 59 := by decide
                  omega
                exact retI (v := 0) hx hb hr hlk (rfl) hP hD hS (sv_98, vy_47, vy_48, vy_49, vy_50, vy_51, vy_52, vy_53, vy_54, vy_55, vy_56, vy_57) ⟨_, rfl, hp_111, pf_65, (RuE.end pf_66 hr_109 (SkR.trans pf_88 pf_102) hr_110), (fun h => absurd h (by decide))⟩ [5, 6, 0, 1, 2, 3, 4] rfl rfl dX12_readsAll_105 (Nat.le_of_ble_eq_true rfl) (Nat.le_of_ble_eq_true rfl) rfl
              · skip
                refine lv_iconst (v := 1) hx hb dX12_readsAll_100 (by decide) ?_
                refine lv_goto (tgt := 105) hx hb dX12_readsAll_101 (by decide) ?_
                have hr_112 : (vy_45 : Int32).toInt = 1 := by
                  have z_1 : ¬ (vy_45 : Int32).toInt = (0 : Int32).toInt := fun z => c_68 (Int32.toInt_inj.mp z)
                  have z_2 : ¬ (r_89 : Int32).toInt = (59 : Int32).toInt := fun z => c_92 (Int32.toInt_inj.mp z)
                  have z_3 : ¬ (vy_45 : Int32).toInt = (0 : Int32).toInt := fun z => c_93 (Int32.toInt_inj.mp z)
                  have z_4 := congrArg Int32.toInt c_107
                  have z_5 := congrArg Int32.toInt c_108
                  have y_m1 : (-1 : Int32).toInt = -1 := by decide
                  have y_0 : (0 : Int32).toInt = 0 := by decide
                  have y_59 : (59 : Int32).toInt = 59 := by decide
                  omega
                have hr_113 : (rB (Mf 1) (Mv 0) (sv_98 : Int32).toInt.toNat = -1) := by
                  have z_1 : ¬ (vy_45 : Int32).toInt = (0 : Int32).toInt := fun z => c_68 (Int32.toInt_inj.mp z)
                  have z_2 : ¬ (r_89 : Int32).toInt = (59 : Int32).toInt := fun z => c_92 (Int32.toInt_inj.mp z)
                  have z_3 : ¬ (vy_45 : Int32).toInt = (0 : Int32).toInt := fun z => c_93 (Int32.toInt_inj.mp z)
                  have z_4 := congrArg Int32.toInt c_107
                  have z_5 := congrArg Int32.toInt c_108
                  have y_m1 : (-1 : Int32).toInt = -1 := by decide
                  have y_0 : (0 : Int32).toInt = 0 := by decide
                  have y_59 : (59 : Int32).toInt = 59 := by decide
                  omega
                have hp_114 : (((1 : Int32).toInt = 0 ∧ ¬ (vy_47 : Int32).toInt = 0) ∨ ((1 : Int32).toInt = 1 ∧ (vy_47 : Int32).toInt = 0 ∧ (vy_56 (Mv 5).toInt.toNat).toInt ≤ 12)) := by
                  have z_1 : ¬ (vy_45 : Int32).toInt = (0 : Int32).toInt := fun z => c_68 (Int32.toInt_inj.mp z)
                  have z_2 : ¬ (r_89 : Int32).toInt = (59 : Int32).toInt := fun z => c_92 (Int32.toInt_inj.mp z)
                  have z_3 : ¬ (vy_45 : Int32).toInt = (0 : Int32).toInt := fun z => c_93 (Int32.toInt_inj.mp z)
                  have z_4 := congrArg Int32.toInt c_107
                  have z_5 := congrArg Int32.toInt c_108
                  have y_m1 : (-1 : Int32).toInt = -1 := by decide
                  have y_0 : (0 : Int32).toInt = 0 := by decide
                  have y_59 : (59 : Int32).toInt = 59 := by decide
                  have y_1 : (1 : Int32).toInt = 1 := by decide
                  have yr : (1 : Int32).toInt = 1 := by decide
                  omega
                have hm_115 : (1 : Int32).toInt = 1 → (RulP vy_53 vy_55 vy_56 (Mv 5) ((vy_54 (Mv 5).toNatClampNeg).toInt)) := by
                  intro h1r
                  exact pf_79
                exact retI (v := 1) hx hb hr hlk (rfl) hP hD hS (sv_98, vy_47, vy_48, vy_49, vy_50, vy_51, vy_52, vy_53, vy_54, vy_55, vy_56, vy_57) ⟨_, rfl, hp_114, pf_65, (RuE.end pf_66 hr_112 (SkR.trans pf_88 pf_102) hr_113), hm_115⟩ [5, 6, 0, 1, 2, 3, 4] rfl rfl dX12_readsAll_105 (Nat.le_of_ble_eq_true rfl) (Nat.le_of_ble_eq_true rfl) rfl
            · skip
              refine lv_aload_n hx hb dX12_readsAll_78 rfl (lv_at hl 1 rfl) ?_
              refine lv_iconst (v := 0) hx hb dX12_readsAll_79 (by decide) ?_
              refine lv_aload_n hx hb dX12_readsAll_80 rfl (lv_at hl 1 rfl) ?_
              refine gf_X12_87 hx hb hts hown hK hP 5 rfl rfl dX12_readsAll_81 ?_
              have ha_116 : 0 ≤ (0 : Int32).toInt ∧ (0 : Int32).toInt ≤ 4 := by
                have z_1 : ¬ (vy_45 : Int32).toInt = (0 : Int32).toInt := fun z => c_68 (Int32.toInt_inj.mp z)
                have z_2 : ¬ (r_89 : Int32).toInt = (59 : Int32).toInt := fun z => c_92 (Int32.toInt_inj.mp z)
                have z_3 : ¬ (vy_45 : Int32).toInt = (0 : Int32).toInt := fun z => c_93 (Int32.toInt_inj.mp z)
                have z_4 : ¬ (r_103 : Int32).toInt = ((-1) : Int32).toInt := fun z => c_107 (Int32.toInt_inj.mp z)
                have y_m1 : (-1 : Int32).toInt = -1 := by decide
                have y_0 : (0 : Int32).toInt = 0 := by decide
                have y_59 : (59 : Int32).toInt = 59 := by decide
                omega
              have ha_117 : 0 ≤ sv_98.toInt ∧ sv_98.toInt ≤ 400 := by
                have z_1 : ¬ (vy_45 : Int32).toInt = (0 : Int32).toInt := fun z => c_68 (Int32.toInt_inj.mp z)
                have z_2 : ¬ (r_89 : Int32).toInt = (59 : Int32).toInt := fun z => c_92 (Int32.toInt_inj.mp z)
                have z_3 : ¬ (vy_45 : Int32).toInt = (0 : Int32).toInt := fun z => c_93 (Int32.toInt_inj.mp z)
                have z_4 : ¬ (r_103 : Int32).toInt = ((-1) : Int32).toInt := fun z => c_107 (Int32.toInt_inj.mp z)
                have y_m1 : (-1 : Int32).toInt = -1 := by decide
                have y_0 : (0 : Int32).toInt = 0 := by decide
                have y_59 : (59 : Int32).toInt = 59 := by decide
                omega
              have ha_118 : (vy_47 : Int32).toInt = 0 := by
                have z_1 : ¬ (vy_45 : Int32).toInt = (0 : Int32).toInt := fun z => c_68 (Int32.toInt_inj.mp z)
                have z_2 : ¬ (r_89 : Int32).toInt = (59 : Int32).toInt := fun z => c_92 (Int32.toInt_inj.mp z)
                have z_3 : ¬ (vy_45 : Int32).toInt = (0 : Int32).toInt := fun z => c_93 (Int32.toInt_inj.mp z)
                have z_4 : ¬ (r_103 : Int32).toInt = ((-1) : Int32).toInt := fun z => c_107 (Int32.toInt_inj.mp z)
                have y_m1 : (-1 : Int32).toInt = -1 := by decide
                have y_0 : (0 : Int32).toInt = 0 := by decide
                have y_59 : (59 : Int32).toInt = 59 := by decide
                omega
              refine cV (a := (Ma 0)) (As := [.int 0, .int sv_98]) (rest := []) (wr := [((Ma 2), .inl (tc 0, 2400, .inl vy_53)), ((Ma 3), .inl (tc 0, 7, .inl vy_54)), ((Ma 4), .inl (tc 0, 288, .inl vy_55)), ((Ma 5), .inl (tc 0, 6, .inl vy_56)), ((Ma 7), .inl (tc 0, 400, .inl vy_57)), ((Ma 1), .inl (tc 2, 400, .inl (Mf 1)))]) ⟨hx, hb, hml, hown, hts⟩ hK hX hA (cu_fX12_fails l D tc sk (Ma 0) (Ma 1) (Ma 2) (Ma 3) (Ma 4) (Ma 5) (Ma 6) (Ma 7) (Ma 8) (Ma 9) (Ma 10) (Ma 11) (Ma 12) (Ma 13) (Ma 14) (Ma 15) (Ma 16) (Ma 17) (Ma 18) (Ma 19) (Ma 20) (Mv 0) (Mv 1) sv_98 vy_47 vy_48 (Mv 5) vy_49 vy_50 vy_51 vy_52 (Mv 10) (Mv 11) (Mv 12) (Mv 13) (Mv 14) (Mj 0) 0 sv_98 ha_116 ha_117 ha_118) k_1232 k_1229 k_1231 k_31 k_106 pl_X12_fails ⟨Nat.le_of_ble_eq_true rfl, Nat.le_of_ble_eq_true rfl⟩ rfl rfl (va_recv hK hP (ci := 12) (q0 := 5) rfl rfl) hP hD hS [5] [0, 1, 2, 3, 4, 6] rfl rfl rfl rfl rfl (by decide) rfl hl.1 rfl (Nat.le_of_ble_eq_true rfl) dX12_readsAll_84 ⟨Nat.le_of_ble_eq_true rfl, Nat.le_of_ble_eq_true rfl⟩ (fun v_119 u_120 H locs hv_121 hP₀ hD₀ hS₀ => ?_)
              obtain ⟨sv_122, rfl⟩ : ∃ z, z = u_120 := ⟨_, rfl⟩
              obtain ⟨r_125, rfl, he_126, pf_123, pf_124⟩ := hv_121
              have he_126 : r_125.toInt = 0 := he_126
              have pf_123 : ¬ (sv_122 : Int32).toInt = 0 := pf_123
              have pf_124 : (sv_122 : Int32).toInt = 1 + 8 * sv_98.toInt + (0 : Int32).toInt := pf_124
              refine W.eq (g2 := F0 m 87 ls [.int r_125]) rfl ?_
              replace hP : va_P D classes [((Ma 2), .inl (tc 0, 2400, .inl vy_53)), ((Ma 3), .inl (tc 0, 7, .inl vy_54)), ((Ma 4), .inl (tc 0, 288, .inl vy_55)), ((Ma 5), .inl (tc 0, 6, .inl vy_56)), ((Ma 7), .inl (tc 0, 400, .inl vy_57)), ((Ma 1), .inl (tc 2, 400, .inl (Mf 1))), ((Ma 0), .inr (12, [.ref (Ma 1), .int (Mv 0), .int (Mv 1), .ref (Ma 2), .ref (Ma 3), .ref (Ma 4), .ref (Ma 5), .ref (Ma 6), .int sv_98, .int sv_122, .int vy_48, .int (Mv 5), .int vy_49, .int vy_50, .int vy_51, .ref (Ma 7), .int vy_52, .ref (Ma 8), .int (Mv 10), .ref (Ma 9), .ref (Ma 10), .int (Mv 11), .int (Mv 12), .int (Mv 13), .ref (Ma 11), .int (Mv 14), .ref (Ma 12), .ref (Ma 13), .ref (Ma 14), .ref (Ma 15), .ref (Ma 16), .long (Mj 0), .ref (Ma 17), .ref (Ma 18), .ref (Ma 19), .ref (Ma 20)]))] H := hP₀
              replace hD : va_D A [((Ma 2), .inl (tc 0, 2400, .inl vy_53)), ((Ma 3), .inl (tc 0, 7, .inl vy_54)), ((Ma 4), .inl (tc 0, 288, .inl vy_55)), ((Ma 5), .inl (tc 0, 6, .inl vy_56)), ((Ma 7), .inl (tc 0, 400, .inl vy_57)), ((Ma 1), .inl (tc 2, 400, .inl (Mf 1))), ((Ma 0), .inr (12, [.ref (Ma 1), .int (Mv 0), .int (Mv 1), .ref (Ma 2), .ref (Ma 3), .ref (Ma 4), .ref (Ma 5), .ref (Ma 6), .int sv_98, .int sv_122, .int vy_48, .int (Mv 5), .int vy_49, .int vy_50, .int vy_51, .ref (Ma 7), .int vy_52, .ref (Ma 8), .int (Mv 10), .ref (Ma 9), .ref (Ma 10), .int (Mv 11), .int (Mv 12), .int (Mv 13), .ref (Ma 11), .int (Mv 14), .ref (Ma 12), .ref (Ma 13), .ref (Ma 14), .ref (Ma 15), .ref (Ma 16), .long (Mj 0), .ref (Ma 17), .ref (Ma 18), .ref (Ma 19), .ref (Ma 20)]))] := hD₀
              replace hS := hS₀
              clear hP₀ hD₀ hS₀
              have yf_128 : (0 : Int32).toInt = 0 := by decide
              refine lv_pop hx hb dX12_readsAll_87 rfl ?_
              refine lv_aload_n hx hb dX12_readsAll_88 rfl (lv_at hl 1 rfl) ?_
              refine lv_iconst (v := 0) hx hb dX12_readsAll_89 (by decide) ?_
              refine pf_X12_77 hx hb hts hown hK hP hD hS 6 rfl (Nat.le_of_ble_eq_true rfl) rfl rfl dX12_readsAll_90 (fun H locs hP₀ hD₀ hS₀ => ?_)
              replace hP : va_P D classes [((Ma 2), .inl (tc 0, 2400, .inl vy_53)), ((Ma 3), .inl (tc 0, 7, .inl vy_54)), ((Ma 4), .inl (tc 0, 288, .inl vy_55)), ((Ma 5), .inl (tc 0, 6, .inl vy_56)), ((Ma 7), .inl (tc 0, 400, .inl vy_57)), ((Ma 1), .inl (tc 2, 400, .inl (Mf 1))), ((Ma 0), .inr (12, [.ref (Ma 1), .int 0, .int (Mv 1), .ref (Ma 2), .ref (Ma 3), .ref (Ma 4), .ref (Ma 5), .ref (Ma 6), .int sv_98, .int sv_122, .int vy_48, .int (Mv 5), .int vy_49, .int vy_50, .int vy_51, .ref (Ma 7), .int vy_52, .ref (Ma 8), .int (Mv 10), .ref (Ma 9), .ref (Ma 10), .int (Mv 11), .int (Mv 12), .int (Mv 13), .ref (Ma 11), .int (Mv 14), .ref (Ma 12), .ref (Ma 13), .ref (Ma 14), .ref (Ma 15), .ref (Ma 16), .long (Mj 0), .ref (Ma 17), .ref (Ma 18), .ref (Ma 19), .ref (Ma 20)]))] H := hP₀
              replace hD : va_D A [((Ma 2), .inl (tc 0, 2400, .inl vy_53)), ((Ma 3), .inl (tc 0, 7, .inl vy_54)), ((Ma 4), .inl (tc 0, 288, .inl vy_55)), ((Ma 5), .inl (tc 0, 6, .inl vy_56)), ((Ma 7), .inl (tc 0, 400, .inl vy_57)), ((Ma 1), .inl (tc 2, 400, .inl (Mf 1))), ((Ma 0), .inr (12, [.ref (Ma 1), .int 0, .int (Mv 1), .ref (Ma 2), .ref (Ma 3), .ref (Ma 4), .ref (Ma 5), .ref (Ma 6), .int sv_98, .int sv_122, .int vy_48, .int (Mv 5), .int vy_49, .int vy_50, .int vy_51, .ref (Ma 7), .int vy_52, .ref (Ma 8), .int (Mv 10), .ref (Ma 9), .ref (Ma 10), .int (Mv 11), .int (Mv 12), .int (Mv 13), .ref (Ma 11), .int (Mv 14), .ref (Ma 12), .ref (Ma 13), .ref (Ma 14), .ref (Ma 15), .ref (Ma 16), .long (Mj 0), .ref (Ma 17), .ref (Ma 18), .ref (Ma 19), .ref (Ma 20)]))] := hD₀
              replace hS := hS₀
              clear hP₀ hD₀ hS₀
              refine lv_aload_n hx hb dX12_readsAll_93 rfl (lv_at hl 1 rfl) ?_
              refine gf_X12_84 hx hb hts hown hK hP 6 rfl rfl dX12_readsAll_94 ?_
              refine lv_if_ne (tgt := 104) hx hb dX12_readsAll_97 (by decide) (fun c_129 => ?_) (fun c_129 => ?_)
              · skip
                refine lv_iconst (v := 0) hx hb dX12_readsAll_104 (by decide) ?_
                have hr_130 : (vy_45 : Int32).toInt = 1 := by
                  have z_1 : ¬ (vy_45 : Int32).toInt = (0 : Int32).toInt := fun z => c_68 (Int32.toInt_inj.mp z)
                  have z_2 : ¬ (r_89 : Int32).toInt = (59 : Int32).toInt := fun z => c_92 (Int32.toInt_inj.mp z)
                  have z_3 : ¬ (vy_45 : Int32).toInt = (0 : Int32).toInt := fun z => c_93 (Int32.toInt_inj.mp z)
                  have z_4 : ¬ (r_103 : Int32).toInt = ((-1) : Int32).toInt := fun z => c_107 (Int32.toInt_inj.mp z)
                  have z_5 : ¬ (sv_122 : Int32).toInt = (0 : Int32).toInt := fun z => c_129 (Int32.toInt_inj.mp z)
                  have y_m1 : (-1 : Int32).toInt = -1 := by decide
                  have y_0 : (0 : Int32).toInt = 0 := by decide
                  have y_59 : (59 : Int32).toInt = 59 := by decide
                  omega
                have hr_131 : ¬ (rB (Mf 1) (Mv 0) (sv_98 : Int32).toInt.toNat = 59) := by
                  have z_1 : ¬ (vy_45 : Int32).toInt = (0 : Int32).toInt := fun z => c_68 (Int32.toInt_inj.mp z)
                  have z_2 : ¬ (r_89 : Int32).toInt = (59 : Int32).toInt := fun z => c_92 (Int32.toInt_inj.mp z)
                  have z_3 : ¬ (vy_45 : Int32).toInt = (0 : Int32).toInt := fun z => c_93 (Int32.toInt_inj.mp z)
                  have z_4 : ¬ (r_103 : Int32).toInt = ((-1) : Int32).toInt := fun z => c_107 (Int32.toInt_inj.mp z)
                  have z_5 : ¬ (sv_122 : Int32).toInt = (0 : Int32).toInt := fun z => c_129 (Int32.toInt_inj.mp z)
                  have y_m1 : (-1 : Int32).toInt = -1 := by decide
                  have y_0 : (0 : Int32).toInt = 0 := by decide
                  have y_59 : (59 : Int32).toInt = 59 := by decide
                  omega
                have hr_132 : ¬ (rB (Mf 1) (Mv 0) (sv_98 : Int32).toInt.toNat = -1) := by
                  have z_1 : ¬ (vy_45 : Int32).toInt = (0 : Int32).toInt := fun z => c_68 (Int32.toInt_inj.mp z)
                  have z_2 : ¬ (r_89 : Int32).toInt = (59 : Int32).toInt := fun z => c_92 (Int32.toInt_inj.mp z)
                  have z_3 : ¬ (vy_45 : Int32).toInt = (0 : Int32).toInt := fun z => c_93 (Int32.toInt_inj.mp z)
                  have z_4 : ¬ (r_103 : Int32).toInt = ((-1) : Int32).toInt := fun z => c_107 (Int32.toInt_inj.mp z)
                  have z_5 : ¬ (sv_122 : Int32).toInt = (0 : Int32).toInt := fun z => c_129 (Int32.toInt_inj.mp z)
                  have y_m1 : (-1 : Int32).toInt = -1 := by decide
                  have y_0 : (0 : Int32).toInt = 0 := by decide
                  have y_59 : (59 : Int32).toInt = 59 := by decide
                  omega
                have hi_133 : (sv_122 : Int32).toInt = 1 + 8 * (sv_98 : Int32).toInt := by
                  have z_1 : ¬ (vy_45 : Int32).toInt = (0 : Int32).toInt := fun z => c_68 (Int32.toInt_inj.mp z)
                  have z_2 : ¬ (r_89 : Int32).toInt = (59 : Int32).toInt := fun z => c_92 (Int32.toInt_inj.mp z)
                  have z_3 : ¬ (vy_45 : Int32).toInt = (0 : Int32).toInt := fun z => c_93 (Int32.toInt_inj.mp z)
                  have z_4 : ¬ (r_103 : Int32).toInt = ((-1) : Int32).toInt := fun z => c_107 (Int32.toInt_inj.mp z)
                  have z_5 : ¬ (sv_122 : Int32).toInt = (0 : Int32).toInt := fun z => c_129 (Int32.toInt_inj.mp z)
                  have y_m1 : (-1 : Int32).toInt = -1 := by decide
                  have y_0 : (0 : Int32).toInt = 0 := by decide
                  have y_59 : (59 : Int32).toInt = 59 := by decide
                  omega
                have hp_134 : (((0 : Int32).toInt = 0 ∧ ¬ (sv_122 : Int32).toInt = 0) ∨ ((0 : Int32).toInt = 1 ∧ (sv_122 : Int32).toInt = 0 ∧ (vy_56 (Mv 5).toInt.toNat).toInt ≤ 12)) := by
                  have z_1 : ¬ (vy_45 : Int32).toInt = (0 : Int32).toInt := fun z => c_68 (Int32.toInt_inj.mp z)
                  have z_2 : ¬ (r_89 : Int32).toInt = (59 : Int32).toInt := fun z => c_92 (Int32.toInt_inj.mp z)
                  have z_3 : ¬ (vy_45 : Int32).toInt = (0 : Int32).toInt := fun z => c_93 (Int32.toInt_inj.mp z)
                  have z_4 : ¬ (r_103 : Int32).toInt = ((-1) : Int32).toInt := fun z => c_107 (Int32.toInt_inj.mp z)
                  have z_5 : ¬ (sv_122 : Int32).toInt = (0 : Int32).toInt := fun z => c_129 (Int32.toInt_inj.mp z)
                  have y_m1 : (-1 : Int32).toInt = -1 := by decide
                  have y_0 : (0 : Int32).toInt = 0 := by decide
                  have y_59 : (59 : Int32).toInt = 59 := by decide
                  omega
                exact retI (v := 0) hx hb hr hlk (rfl) hP hD hS (sv_98, sv_122, vy_48, vy_49, vy_50, vy_51, vy_52, vy_53, vy_54, vy_55, vy_56, vy_57) ⟨_, rfl, hp_134, pf_65, (RuE.more pf_66 hr_130 (SkR.trans pf_88 pf_102) hr_131 hr_132 hi_133), (fun h => absurd h (by decide))⟩ [6, 5, 0, 1, 2, 3, 4] rfl rfl dX12_readsAll_105 (Nat.le_of_ble_eq_true rfl) (Nat.le_of_ble_eq_true rfl) rfl
              · skip
                refine lv_iconst (v := 1) hx hb dX12_readsAll_100 (by decide) ?_
                refine lv_goto (tgt := 105) hx hb dX12_readsAll_101 (by decide) ?_
                have hr_135 : (vy_45 : Int32).toInt = 1 := by
                  have z_1 : ¬ (vy_45 : Int32).toInt = (0 : Int32).toInt := fun z => c_68 (Int32.toInt_inj.mp z)
                  have z_2 : ¬ (r_89 : Int32).toInt = (59 : Int32).toInt := fun z => c_92 (Int32.toInt_inj.mp z)
                  have z_3 : ¬ (vy_45 : Int32).toInt = (0 : Int32).toInt := fun z => c_93 (Int32.toInt_inj.mp z)
                  have z_4 : ¬ (r_103 : Int32).toInt = ((-1) : Int32).toInt := fun z => c_107 (Int32.toInt_inj.mp z)
                  have z_5 := congrArg Int32.toInt c_129
                  have y_m1 : (-1 : Int32).toInt = -1 := by decide
                  have y_0 : (0 : Int32).toInt = 0 := by decide
                  have y_59 : (59 : Int32).toInt = 59 := by decide
                  omega
                have hr_136 : ¬ (rB (Mf 1) (Mv 0) (sv_98 : Int32).toInt.toNat = 59) := by
                  have z_1 : ¬ (vy_45 : Int32).toInt = (0 : Int32).toInt := fun z => c_68 (Int32.toInt_inj.mp z)
                  have z_2 : ¬ (r_89 : Int32).toInt = (59 : Int32).toInt := fun z => c_92 (Int32.toInt_inj.mp z)
                  have z_3 : ¬ (vy_45 : Int32).toInt = (0 : Int32).toInt := fun z => c_93 (Int32.toInt_inj.mp z)
                  have z_4 : ¬ (r_103 : Int32).toInt = ((-1) : Int32).toInt := fun z => c_107 (Int32.toInt_inj.mp z)
                  have z_5 := congrArg Int32.toInt c_129
                  have y_m1 : (-1 : Int32).toInt = -1 := by decide
                  have y_0 : (0 : Int32).toInt = 0 := by decide
                  have y_59 : (59 : Int32).toInt = 59 := by decide
                  omega
                have hr_137 : ¬ (rB (Mf 1) (Mv 0) (sv_98 : Int32).toInt.toNat = -1) := by
                  have z_1 : ¬ (vy_45 : Int32).toInt = (0 : Int32).toInt := fun z => c_68 (Int32.toInt_inj.mp z)
                  have z_2 : ¬ (r_89 : Int32).toInt = (59 : Int32).toInt := fun z => c_92 (Int32.toInt_inj.mp z)
                  have z_3 : ¬ (vy_45 : Int32).toInt = (0 : Int32).toInt := fun z => c_93 (Int32.toInt_inj.mp z)
                  have z_4 : ¬ (r_103 : Int32).toInt = ((-1) : Int32).toInt := fun z => c_107 (Int32.toInt_inj.mp z)
                  have z_5 := congrArg Int32.toInt c_129
                  have y_m1 : (-1 : Int32).toInt = -1 := by decide
                  have y_0 : (0 : Int32).toInt = 0 := by decide
                  have y_59 : (59 : Int32).toInt = 59 := by decide
                  omega
                have hi_138 : (sv_122 : Int32).toInt = 1 + 8 * (sv_98 : Int32).toInt := by
                  have z_1 : ¬ (vy_45 : Int32).toInt = (0 : Int32).toInt := fun z => c_68 (Int32.toInt_inj.mp z)
                  have z_2 : ¬ (r_89 : Int32).toInt = (59 : Int32).toInt := fun z => c_92 (Int32.toInt_inj.mp z)
                  have z_3 : ¬ (vy_45 : Int32).toInt = (0 : Int32).toInt := fun z => c_93 (Int32.toInt_inj.mp z)
                  have z_4 : ¬ (r_103 : Int32).toInt = ((-1) : Int32).toInt := fun z => c_107 (Int32.toInt_inj.mp z)
                  have z_5 := congrArg Int32.toInt c_129
                  have y_m1 : (-1 : Int32).toInt = -1 := by decide
                  have y_0 : (0 : Int32).toInt = 0 := by decide
                  have y_59 : (59 : Int32).toInt = 59 := by decide
                  omega
                have hp_139 : (((1 : Int32).toInt = 0 ∧ ¬ (sv_122 : Int32).toInt = 0) ∨ ((1 : Int32).toInt = 1 ∧ (sv_122 : Int32).toInt = 0 ∧ (vy_56 (Mv 5).toInt.toNat).toInt ≤ 12)) := by
                  have z_1 : ¬ (vy_45 : Int32).toInt = (0 : Int32).toInt := fun z => c_68 (Int32.toInt_inj.mp z)
                  have z_2 : ¬ (r_89 : Int32).toInt = (59 : Int32).toInt := fun z => c_92 (Int32.toInt_inj.mp z)
                  have z_3 : ¬ (vy_45 : Int32).toInt = (0 : Int32).toInt := fun z => c_93 (Int32.toInt_inj.mp z)
                  have z_4 : ¬ (r_103 : Int32).toInt = ((-1) : Int32).toInt := fun z => c_107 (Int32.toInt_inj.mp z)
                  have z_5 := congrArg Int32.toInt c_129
                  have y_m1 : (-1 : Int32).toInt = -1 := by decide
                  have y_0 : (0 : Int32).toInt = 0 := by decide
                  have y_59 : (59 : Int32).toInt = 59 := by decide
                  have y_1 : (1 : Int32).toInt = 1 := by decide
                  have yr : (1 : Int32).toInt = 1 := by decide
                  omega
                have hm_140 : (1 : Int32).toInt = 1 → (RulP vy_53 vy_55 vy_56 (Mv 5) ((vy_54 (Mv 5).toNatClampNeg).toInt)) := by
                  intro h1r
                  exact pf_79
                exact retI (v := 1) hx hb hr hlk (rfl) hP hD hS (sv_98, sv_122, vy_48, vy_49, vy_50, vy_51, vy_52, vy_53, vy_54, vy_55, vy_56, vy_57) ⟨_, rfl, hp_139, pf_65, (RuE.more pf_66 hr_135 (SkR.trans pf_88 pf_102) hr_136 hr_137 hi_138), hm_140⟩ [6, 5, 0, 1, 2, 3, 4] rfl rfl dX12_readsAll_105 (Nat.le_of_ble_eq_true rfl) (Nat.le_of_ble_eq_true rfl) rfl
        · skip
          refine lv_aload_n hx hb dX12_readsAll_48 rfl (lv_at hl 1 rfl) ?_
          refine lv_dup hx hb dX12_readsAll_49 rfl ?_
          refine gf_X12_87 hx hb hts hown hK hP 5 rfl rfl dX12_readsAll_50 ?_
          refine lv_iconst (v := 1) hx hb dX12_readsAll_53 (by decide) ?_
          refine lv_iadd hx hb dX12_readsAll_54 ?_
          refine lv_topi (fun x_141 ex_141 => ?_)
          refine pf_X12_87 hx hb hts hown hK hP hD hS 5 rfl (Nat.le_of_ble_eq_true rfl) rfl rfl dX12_readsAll_55 (fun H locs hP₀ hD₀ hS₀ => ?_)
          replace hP : va_P D classes [((Ma 2), .inl (tc 0, 2400, .inl vy_53)), ((Ma 3), .inl (tc 0, 7, .inl vy_54)), ((Ma 4), .inl (tc 0, 288, .inl vy_55)), ((Ma 5), .inl (tc 0, 6, .inl vy_56)), ((Ma 7), .inl (tc 0, 400, .inl vy_57)), ((Ma 0), .inr (12, [.ref (Ma 1), .int (Mv 0), .int (Mv 1), .ref (Ma 2), .ref (Ma 3), .ref (Ma 4), .ref (Ma 5), .ref (Ma 6), .int x_141, .int vy_47, .int vy_48, .int (Mv 5), .int vy_49, .int vy_50, .int vy_51, .ref (Ma 7), .int vy_52, .ref (Ma 8), .int (Mv 10), .ref (Ma 9), .ref (Ma 10), .int (Mv 11), .int (Mv 12), .int (Mv 13), .ref (Ma 11), .int (Mv 14), .ref (Ma 12), .ref (Ma 13), .ref (Ma 14), .ref (Ma 15), .ref (Ma 16), .long (Mj 0), .ref (Ma 17), .ref (Ma 18), .ref (Ma 19), .ref (Ma 20)])), ((Ma 1), .inl (tc 2, 400, .inl (Mf 1)))] H := hP₀
          replace hD : va_D A [((Ma 2), .inl (tc 0, 2400, .inl vy_53)), ((Ma 3), .inl (tc 0, 7, .inl vy_54)), ((Ma 4), .inl (tc 0, 288, .inl vy_55)), ((Ma 5), .inl (tc 0, 6, .inl vy_56)), ((Ma 7), .inl (tc 0, 400, .inl vy_57)), ((Ma 0), .inr (12, [.ref (Ma 1), .int (Mv 0), .int (Mv 1), .ref (Ma 2), .ref (Ma 3), .ref (Ma 4), .ref (Ma 5), .ref (Ma 6), .int x_141, .int vy_47, .int vy_48, .int (Mv 5), .int vy_49, .int vy_50, .int vy_51, .ref (Ma 7), .int vy_52, .ref (Ma 8), .int (Mv 10), .ref (Ma 9), .ref (Ma 10), .int (Mv 11), .int (Mv 12), .int (Mv 13), .ref (Ma 11), .int (Mv 14), .ref (Ma 12), .ref (Ma 13), .ref (Ma 14), .ref (Ma 15), .ref (Ma 16), .long (Mj 0), .ref (Ma 17), .ref (Ma 18), .ref (Ma 19), .ref (Ma 20)])), ((Ma 1), .inl (tc 2, 400, .inl (Mf 1)))] := hD₀
          replace hS := hS₀
          clear hP₀ hD₀ hS₀
          have tp_x_141 : (x_141 : Int32).toInt = (sv_84 : Int32).toInt + 1 := by
            have z_1 : ¬ (vy_45 : Int32).toInt = (0 : Int32).toInt := fun z => c_68 (Int32.toInt_inj.mp z)
            have z_2 := congrArg Int32.toInt c_92
            have y_0 : (0 : Int32).toInt = 0 := by decide
            have y_59 : (59 : Int32).toInt = 59 := by decide
            have y_1 : (1 : Int32).toInt = 1 := by decide
            have t_x_141 : x_141.toInt = (sv_84 : Int32).toInt + (1 : Int32).toInt := by rw [ex_141]; exact add_toInt (by omega) (by omega)
            omega
          refine lv_aload_n hx hb dX12_readsAll_58 rfl (lv_at hl 1 rfl) ?_
          have ha_142 : 0 ≤ (x_141 : Int32).toInt ∧ (x_141 : Int32).toInt ≤ ((Mv 0) : Int32).toInt ∧ ((Mv 0) : Int32).toInt ≤ 400 := by
            have z_1 : ¬ (vy_45 : Int32).toInt = (0 : Int32).toInt := fun z => c_68 (Int32.toInt_inj.mp z)
            have z_2 := congrArg Int32.toInt c_92
            have y_0 : (0 : Int32).toInt = 0 := by decide
            have y_59 : (59 : Int32).toInt = 59 := by decide
            have y_1 : (1 : Int32).toInt = 1 := by decide
            have t_x_141 : x_141.toInt = (sv_84 : Int32).toInt + (1 : Int32).toInt := by rw [ex_141]; exact add_toInt (by omega) (by omega)
            omega
          have ha_143 : 0 ≤ (vy_54 (Mv 5).toNatClampNeg).toInt ∧ (vy_54 (Mv 5).toNatClampNeg).toInt ≤ (x_141 : Int32).toInt := by
            have z_1 : ¬ (vy_45 : Int32).toInt = (0 : Int32).toInt := fun z => c_68 (Int32.toInt_inj.mp z)
            have z_2 := congrArg Int32.toInt c_92
            have y_0 : (0 : Int32).toInt = 0 := by decide
            have y_59 : (59 : Int32).toInt = 59 := by decide
            have y_1 : (1 : Int32).toInt = 1 := by decide
            have t_x_141 : x_141.toInt = (sv_84 : Int32).toInt + (1 : Int32).toInt := by rw [ex_141]; exact add_toInt (by omega) (by omega)
            omega
          have ha_144 : (vy_56 (Mv 5).toInt.toNat).toInt = (vy_51 : Int32).toInt ∧ 0 ≤ (vy_51 : Int32).toInt ∧ (vy_51 : Int32).toInt ≤ 12 := by
            have z_1 : ¬ (vy_45 : Int32).toInt = (0 : Int32).toInt := fun z => c_68 (Int32.toInt_inj.mp z)
            have z_2 := congrArg Int32.toInt c_92
            have y_0 : (0 : Int32).toInt = 0 := by decide
            have y_59 : (59 : Int32).toInt = 59 := by decide
            omega
          have ha_145 : (vy_47 : Int32).toInt = 0 := by
            have z_1 : ¬ (vy_45 : Int32).toInt = (0 : Int32).toInt := fun z => c_68 (Int32.toInt_inj.mp z)
            have z_2 := congrArg Int32.toInt c_92
            have y_0 : (0 : Int32).toInt = 0 := by decide
            have y_59 : (59 : Int32).toInt = 59 := by decide
            omega
          refine cV (a := (Ma 0)) (As := []) (rest := []) (wr := []) ⟨hx, hb, hml, hown, hts⟩ hK hX hA (cu_fX12_clauseHere_r l D tc sk (Ma 0) (Ma 1) (Ma 2) (Ma 3) (Ma 4) (Ma 5) (Ma 6) (Ma 7) (Ma 8) (Ma 9) (Ma 10) (Ma 11) (Ma 12) (Ma 13) (Ma 14) (Ma 15) (Ma 16) (Ma 17) (Ma 18) (Ma 19) (Ma 20) (Mv 0) (Mv 1) x_141 vy_47 vy_48 (Mv 5) vy_49 vy_50 vy_51 vy_52 (Mv 10) (Mv 11) (Mv 12) (Mv 13) (Mv 14) (Mf 1) vy_53 vy_54 vy_55 vy_56 vy_57 (Mj 0) ha_142 pf_62 h_t ha_143 pf_79 ha_144 h_bs ha_145) k_1207 k_1204 k_1206 k_26 k_106 pl_X12_clauseHere ⟨Nat.le_of_ble_eq_true rfl, Nat.le_of_ble_eq_true rfl⟩ rfl rfl (va_recv hK hP (ci := 12) (q0 := 5) rfl rfl) hP hD hS [5, 6, 0, 1, 2, 3, 4] [] rfl rfl rfl rfl rfl (by decide) rfl hl.1 rfl (Nat.le_of_ble_eq_true rfl) dX12_readsAll_59 ⟨Nat.le_of_ble_eq_true rfl, Nat.le_of_ble_eq_true rfl⟩ (fun v_146 u_147 H locs hv_148 hP₀ hD₀ hS₀ => ?_)
          obtain ⟨sv_149, sv_150, sv_151, sv_152, sv_153, sv_154, sv_155, sv_156, sv_157, sv_158, sv_159, sv_160⟩ := u_147
          obtain ⟨r_164, rfl, he_165, pf_161, pf_162, pf_163, hm_167, hm_168⟩ := hv_148
          have he_165 : ((r_164.toInt = 0 ∧ ¬ (sv_150 : Int32).toInt = 0) ∨ (r_164.toInt = 1 ∧ 0 ≤ (sv_157 (Mv 5).toNatClampNeg).toInt ∧ (sv_157 (Mv 5).toNatClampNeg).toInt ≤ (sv_149 : Int32).toInt ∧ (sv_159 (Mv 5).toInt.toNat).toInt = (sv_154 : Int32).toInt ∧ 0 ≤ (sv_154 : Int32).toInt ∧ (sv_154 : Int32).toInt ≤ 12 ∧ (sv_154 : Int32).toInt = vy_51.toInt + 1 ∧ (sv_150 : Int32).toInt = 0)) := he_165
          have pf_161 : (x_141 : Int32).toInt ≤ (sv_149 : Int32).toInt ∧ (sv_149 : Int32).toInt ≤ ((Mv 0) : Int32).toInt := pf_161
          have pf_162 : (vy_49 : Int32).toInt ≤ (sv_152 : Int32).toInt ∧ (sv_152 : Int32).toInt ≤ 60 := pf_162
          have pf_163 : RulD sv_156 sv_158 sv_159 (Mv 5) := pf_163
          refine W.eq (g2 := F0 m 62 ls [.int r_164]) rfl ?_
          replace hP : va_P D classes [((Ma 0), .inr (12, [.ref (Ma 1), .int (Mv 0), .int (Mv 1), .ref (Ma 2), .ref (Ma 3), .ref (Ma 4), .ref (Ma 5), .ref (Ma 6), .int sv_149, .int sv_150, .int sv_151, .int (Mv 5), .int sv_152, .int sv_153, .int sv_154, .ref (Ma 7), .int sv_155, .ref (Ma 8), .int (Mv 10), .ref (Ma 9), .ref (Ma 10), .int (Mv 11), .int (Mv 12), .int (Mv 13), .ref (Ma 11), .int (Mv 14), .ref (Ma 12), .ref (Ma 13), .ref (Ma 14), .ref (Ma 15), .ref (Ma 16), .long (Mj 0), .ref (Ma 17), .ref (Ma 18), .ref (Ma 19), .ref (Ma 20)])), ((Ma 1), .inl (tc 2, 400, .inl (Mf 1))), ((Ma 2), .inl (tc 0, 2400, .inl sv_156)), ((Ma 3), .inl (tc 0, 7, .inl sv_157)), ((Ma 4), .inl (tc 0, 288, .inl sv_158)), ((Ma 5), .inl (tc 0, 6, .inl sv_159)), ((Ma 7), .inl (tc 0, 400, .inl sv_160))] H := hP₀
          replace hD : va_D A [((Ma 0), .inr (12, [.ref (Ma 1), .int (Mv 0), .int (Mv 1), .ref (Ma 2), .ref (Ma 3), .ref (Ma 4), .ref (Ma 5), .ref (Ma 6), .int sv_149, .int sv_150, .int sv_151, .int (Mv 5), .int sv_152, .int sv_153, .int sv_154, .ref (Ma 7), .int sv_155, .ref (Ma 8), .int (Mv 10), .ref (Ma 9), .ref (Ma 10), .int (Mv 11), .int (Mv 12), .int (Mv 13), .ref (Ma 11), .int (Mv 14), .ref (Ma 12), .ref (Ma 13), .ref (Ma 14), .ref (Ma 15), .ref (Ma 16), .long (Mj 0), .ref (Ma 17), .ref (Ma 18), .ref (Ma 19), .ref (Ma 20)])), ((Ma 1), .inl (tc 2, 400, .inl (Mf 1))), ((Ma 2), .inl (tc 0, 2400, .inl sv_156)), ((Ma 3), .inl (tc 0, 7, .inl sv_157)), ((Ma 4), .inl (tc 0, 288, .inl sv_158)), ((Ma 5), .inl (tc 0, 6, .inl sv_159)), ((Ma 7), .inl (tc 0, 400, .inl sv_160))] := hD₀
          replace hS := hS₀
          clear hP₀ hD₀ hS₀
          refine lv_istore_n (lv' := [(1, .int r_164), (0, .ref (Ma 0))]) hx hb dX12_readsAll_62 rfl hl (by decide) rfl (fun ls hl₀ => ?_)
          replace hl := hl₀
          clear hl₀
          refine lv_goto (tgt := 35) hx hb dX12_readsAll_63 (by decide) ?_
          have hb_169 : 2 * (401 - (sv_149 : Int32).toInt) + (r_164 : Int32).toInt < 2 * (401 - (vy_46 : Int32).toInt) + (vy_45 : Int32).toInt ∧ 1 ≤ 2 * (401 - (vy_46 : Int32).toInt) + (vy_45 : Int32).toInt := by
            have z_1 : ¬ (vy_45 : Int32).toInt = (0 : Int32).toInt := fun z => c_68 (Int32.toInt_inj.mp z)
            have z_2 := congrArg Int32.toInt c_92
            have y_0 : (0 : Int32).toInt = 0 := by decide
            have y_59 : (59 : Int32).toInt = 59 := by decide
            omega
          have ha_170 : 0 ≤ (sv_149 : Int32).toInt ∧ (sv_149 : Int32).toInt ≤ ((Mv 0) : Int32).toInt ∧ ((Mv 0) : Int32).toInt ≤ 400 := by
            have z_1 : ¬ (vy_45 : Int32).toInt = (0 : Int32).toInt := fun z => c_68 (Int32.toInt_inj.mp z)
            have z_2 := congrArg Int32.toInt c_92
            have y_0 : (0 : Int32).toInt = 0 := by decide
            have y_59 : (59 : Int32).toInt = 59 := by decide
            omega
          have ha_171 : 0 ≤ (sv_152 : Int32).toInt ∧ (sv_152 : Int32).toInt ≤ 60 := by
            have z_1 : ¬ (vy_45 : Int32).toInt = (0 : Int32).toInt := fun z => c_68 (Int32.toInt_inj.mp z)
            have z_2 := congrArg Int32.toInt c_92
            have y_0 : (0 : Int32).toInt = 0 := by decide
            have y_59 : (59 : Int32).toInt = 59 := by decide
            omega
          have ha_172 : (((r_164 : Int32).toInt = 0 ∧ ¬ (sv_150 : Int32).toInt = 0) ∨ ((r_164 : Int32).toInt = 1 ∧ 0 ≤ (sv_157 (Mv 5).toNatClampNeg).toInt ∧ (sv_157 (Mv 5).toNatClampNeg).toInt ≤ (sv_149 : Int32).toInt ∧ (sv_159 (Mv 5).toInt.toNat).toInt = (sv_154 : Int32).toInt ∧ 0 ≤ (sv_154 : Int32).toInt ∧ (sv_154 : Int32).toInt ≤ 12 ∧ (sv_150 : Int32).toInt = 0)) := by
            have z_1 : ¬ (vy_45 : Int32).toInt = (0 : Int32).toInt := fun z => c_68 (Int32.toInt_inj.mp z)
            have z_2 := congrArg Int32.toInt c_92
            have y_0 : (0 : Int32).toInt = 0 := by decide
            have y_59 : (59 : Int32).toInt = 59 := by decide
            omega
          have hc_173 : ClR (rB (Mf 1) (Mv 0)) vy_51 x_141 vy_49 r_164 sv_150 sv_149 sv_152 := ⟨fun z => (hm_167 z).2, hm_168⟩
          have hl_174 : (r_164 : Int32).toInt = 1 → (sv_154 : Int32).toInt = (vy_51 : Int32).toInt + 1 := by
            intro hz
            have z_1 : ¬ (vy_45 : Int32).toInt = (0 : Int32).toInt := fun z => c_68 (Int32.toInt_inj.mp z)
            have z_2 := congrArg Int32.toInt c_92
            have y_0 : (0 : Int32).toInt = 0 := by decide
            have y_59 : (59 : Int32).toInt = 59 := by decide
            omega
          have hr_175 : (vy_45 : Int32).toInt = 1 := by
            have z_1 : ¬ (vy_45 : Int32).toInt = (0 : Int32).toInt := fun z => c_68 (Int32.toInt_inj.mp z)
            have z_2 := congrArg Int32.toInt c_92
            have y_0 : (0 : Int32).toInt = 0 := by decide
            have y_59 : (59 : Int32).toInt = 59 := by decide
            omega
          have hr_176 : (rB (Mf 1) (Mv 0) (sv_84 : Int32).toInt.toNat = 59) := by
            have z_1 : ¬ (vy_45 : Int32).toInt = (0 : Int32).toInt := fun z => c_68 (Int32.toInt_inj.mp z)
            have z_2 := congrArg Int32.toInt c_92
            have y_0 : (0 : Int32).toInt = 0 := by decide
            have y_59 : (59 : Int32).toInt = 59 := by decide
            omega
          have hi_177 : (x_141 : Int32).toInt = (sv_84 : Int32).toInt + 1 := by
            have z_1 : ¬ (vy_45 : Int32).toInt = (0 : Int32).toInt := fun z => c_68 (Int32.toInt_inj.mp z)
            have z_2 := congrArg Int32.toInt c_92
            have y_0 : (0 : Int32).toInt = 0 := by decide
            have y_59 : (59 : Int32).toInt = 59 := by decide
            have y_1 : (1 : Int32).toInt = 1 := by decide
            have t_x_141 : x_141.toInt = (sv_84 : Int32).toInt + (1 : Int32).toInt := by rw [ex_141]; exact add_toInt (by omega) (by omega)
            omega
          have hr_178 : 0 ≤ (vy_51 : Int32).toInt := by
            have z_1 : ¬ (vy_45 : Int32).toInt = (0 : Int32).toInt := fun z => c_68 (Int32.toInt_inj.mp z)
            have z_2 := congrArg Int32.toInt c_92
            have y_0 : (0 : Int32).toInt = 0 := by decide
            have y_59 : (59 : Int32).toInt = 59 := by decide
            omega
          exact ih_59 r_164 sv_149 sv_150 sv_151 sv_152 sv_153 sv_154 sv_155 sv_156 sv_157 sv_158 sv_159 sv_160 _ _ _ (by omega) ha_170 ha_171 ha_172 (fun z => (hm_167 z).1) pf_163 (RaL.next (rB_fi h_tp.2) pf_66 hr_175 pf_88 hr_176 hi_177 hc_173 hl_174 hr_178) (hP.sub [0, 1, 2, 3, 4, 5, 6] rfl) (hD.sub [0, 1, 2, 3, 4, 5, 6] rfl rfl) hS (lv_sub hl [0, 1] rfl)
  have ha_179 : 0 ≤ (sv_12 : Int32).toInt ∧ (sv_12 : Int32).toInt ≤ ((Mv 0) : Int32).toInt ∧ ((Mv 0) : Int32).toInt ≤ 400 := by
    omega
  have ha_180 : 0 ≤ (sv_15 : Int32).toInt ∧ (sv_15 : Int32).toInt ≤ 60 := by
    omega
  have ha_181 : (((r_27 : Int32).toInt = 0 ∧ ¬ (sv_13 : Int32).toInt = 0) ∨ ((r_27 : Int32).toInt = 1 ∧ 0 ≤ (sv_20 (Mv 5).toNatClampNeg).toInt ∧ (sv_20 (Mv 5).toNatClampNeg).toInt ≤ (sv_12 : Int32).toInt ∧ (sv_22 (Mv 5).toInt.toNat).toInt = (sv_17 : Int32).toInt ∧ 0 ≤ (sv_17 : Int32).toInt ∧ (sv_17 : Int32).toInt ≤ 12 ∧ (sv_13 : Int32).toInt = 0)) := by
    omega
  have hc_182 : ClR (rB (Mf 1) (Mv 0)) 0 (0 : Int32) (0 : Int32) r_27 sv_13 sv_12 sv_15 := ⟨fun z => (hm_30 z).2, hm_31⟩
  have hl_183 : (r_27 : Int32).toInt = 1 → (sv_17 : Int32).toInt = (0 : Int32).toInt + 1 := by
    intro hz
    omega
  have hl_184 : (r_27 : Int32).toInt = 1 → (sv_17 : Int32).toInt = 1 := by
    intro hz
    have h1 := hl_183 hz
    have h2 : (0 : Int32).toInt = 0 := by decide
    omega
  exact loop_60 _ r_27 sv_12 sv_13 sv_14 sv_15 sv_16 sv_17 sv_18 sv_19 sv_20 sv_21 sv_22 sv_23 _ _ _ (Nat.lt_succ_self _) ha_179 ha_180 ha_181 (fun z => (hm_30 z).1) pf_26 (RaL.first (by decide) (by decide) (by decide) hc_182 hl_184) hP hD hS hl
set_option maxRecDepth 100000 in
theorem cu_fX12_readsAll_r (l : Launch) (D : va_G) (tc : Nat → ClassId) (sk : (Nat → Nat) × (Nat → Nat)) (Ma_0 : Nat) (Ma_1 : Nat) (Ma_2 : Nat) (Ma_3 : Nat) (Ma_4 : Nat) (Ma_5 : Nat) (Ma_6 : Nat) (Ma_7 : Nat) (Ma_8 : Nat) (Ma_9 : Nat) (Ma_10 : Nat) (Ma_11 : Nat) (Ma_12 : Nat) (Ma_13 : Nat) (Ma_14 : Nat) (Ma_15 : Nat) (Ma_16 : Nat) (Ma_17 : Nat) (Ma_18 : Nat) (Ma_19 : Nat) (Ma_20 : Nat) (Mv_0 : Int32) (Mv_1 : Int32) (Mv_2 : Int32) (Mv_3 : Int32) (Mv_4 : Int32) (Mv_5 : Int32) (Mv_6 : Int32) (Mv_7 : Int32) (Mv_8 : Int32) (Mv_9 : Int32) (Mv_10 : Int32) (Mv_11 : Int32) (Mv_12 : Int32) (Mv_13 : Int32) (Mv_14 : Int32) (Mf_1 : Nat → Int32) (Mf_2 : Nat → Int32) (Mf_3 : Nat → Int32) (Mf_4 : Nat → Int32) (Mf_5 : Nat → Int32) (Mf_7 : Nat → Int32) (Mj_0 : Int64) (h_tp : 0 ≤ (Mv_0 : Int32).toInt ∧ (Mv_0 : Int32).toInt ≤ 400) (h_t : 0 ≤ (Mv_5 : Int32).toInt ∧ (Mv_5 : Int32).toInt ≤ 5) (h_rp : RulP Mf_2 Mf_4 Mf_5 Mv_5 0) (h_c : (Mf_5 Mv_5.toInt.toNat).toInt = 0) (h_bs : ByS Mf_1) : Ct l yX12_readsAll cX12_readsAll 2 (some .boolean) { frames := 11, cells := 0, slots := 0, locals := 241 } D tc sk [.ref Ma_0] [(Ma_0, .inr (12, [.ref Ma_1, .int Mv_0, .int Mv_1, .ref Ma_2, .ref Ma_3, .ref Ma_4, .ref Ma_5, .ref Ma_6, .int Mv_2, .int Mv_3, .int Mv_4, .int Mv_5, .int Mv_6, .int Mv_7, .int Mv_8, .ref Ma_7, .int Mv_9, .ref Ma_8, .int Mv_10, .ref Ma_9, .ref Ma_10, .int Mv_11, .int Mv_12, .int Mv_13, .ref Ma_11, .int Mv_14, .ref Ma_12, .ref Ma_13, .ref Ma_14, .ref Ma_15, .ref Ma_16, .long Mj_0, .ref Ma_17, .ref Ma_18, .ref Ma_19, .ref Ma_20])), (Ma_1, .inl (tc 2, 400, .inl Mf_1)), (Ma_2, .inl (tc 0, 2400, .inl Mf_2)), (Ma_3, .inl (tc 0, 7, .inl Mf_3)), (Ma_4, .inl (tc 0, 288, .inl Mf_4)), (Ma_5, .inl (tc 0, 6, .inl Mf_5)), (Ma_7, .inl (tc 0, 400, .inl Mf_7))] (fun (v : Option Value) (u : (Int32) × (Int32) × (Int32) × (Int32) × (Int32) × (Int32) × (Int32) × (Nat → Int32) × (Nat → Int32) × (Nat → Int32) × (Nat → Int32) × (Nat → Int32)) => match u with | (oo0x1, oo0x2, oo0x3, oo0x4, oo0x5, oo0x6, oo0x7, oo0x8, oo0x9, oo0x10, oo0x11, oo0x12) => ∃ r : Int32, v = some (.int r) ∧ (((r.toInt = 0 ∧ ¬ (oo0x2 : Int32).toInt = 0) ∨ (r.toInt = 1 ∧ (oo0x2 : Int32).toInt = 0 ∧ (oo0x11 Mv_5.toInt.toNat).toInt ≤ 12))) ∧ (RulD oo0x8 oo0x10 oo0x11 Mv_5) ∧ (RuE (rB Mf_1 Mv_0) oo0x2) ∧ (r.toInt = 1 → (RulP oo0x8 oo0x10 oo0x11 Mv_5 ((oo0x9 Mv_5.toNatClampNeg).toInt)))) (fun (u : (Int32) × (Int32) × (Int32) × (Int32) × (Int32) × (Int32) × (Int32) × (Nat → Int32) × (Nat → Int32) × (Nat → Int32) × (Nat → Int32) × (Nat → Int32)) => match u with | (oo0x1, oo0x2, oo0x3, oo0x4, oo0x5, oo0x6, oo0x7, oo0x8, oo0x9, oo0x10, oo0x11, oo0x12) => [(Ma_0, .inr (12, [.ref Ma_1, .int 0, .int Mv_1, .ref Ma_2, .ref Ma_3, .ref Ma_4, .ref Ma_5, .ref Ma_6, .int oo0x1, .int oo0x2, .int oo0x3, .int Mv_5, .int oo0x4, .int oo0x5, .int oo0x6, .ref Ma_7, .int oo0x7, .ref Ma_8, .int Mv_10, .ref Ma_9, .ref Ma_10, .int Mv_11, .int Mv_12, .int Mv_13, .ref Ma_11, .int Mv_14, .ref Ma_12, .ref Ma_13, .ref Ma_14, .ref Ma_15, .ref Ma_16, .long Mj_0, .ref Ma_17, .ref Ma_18, .ref Ma_19, .ref Ma_20])), (Ma_1, .inl (tc 2, 400, .inl Mf_1)), (Ma_2, .inl (tc 0, 2400, .inl oo0x8)), (Ma_3, .inl (tc 0, 7, .inl oo0x9)), (Ma_4, .inl (tc 0, 288, .inl oo0x10)), (Ma_5, .inl (tc 0, 6, .inl oo0x11)), (Ma_7, .inl (tc 0, 400, .inl oo0x12))]) 0 0 :=
  ct_fX12_readsAll_r l D tc sk (fun k => ([Ma_0, Ma_1, Ma_2, Ma_3, Ma_4, Ma_5, Ma_6, Ma_7, Ma_8, Ma_9, Ma_10, Ma_11, Ma_12, Ma_13, Ma_14, Ma_15, Ma_16, Ma_17, Ma_18, Ma_19, Ma_20] : List (Nat)).getD k 0) (fun k => ([Mv_0, Mv_1, Mv_2, Mv_3, Mv_4, Mv_5, Mv_6, Mv_7, Mv_8, Mv_9, Mv_10, Mv_11, Mv_12, Mv_13, Mv_14] : List (Int32)).getD k 0) (fun k => ([(fun _ => 0), Mf_1, Mf_2, Mf_3, Mf_4, Mf_5, (fun _ => 0), Mf_7] : List (Nat → Int32)).getD k (fun _ => 0)) (fun k => ([Mj_0] : List (Int64)).getD k 0) h_tp h_t h_rp h_c h_bs
set_option maxHeartbeats 4000000 in
set_option maxRecDepth 100000 in
theorem ct_fX12_rule (l : Launch) (D : va_G) (tc : Nat → ClassId) (sk : (Nat → Nat) × (Nat → Nat)) (Ma : Nat → Nat) (Mv : Nat → Int32) (Mf : Nat → Nat → Int32) (Mj : Nat → Int64) (h_tp : 0 ≤ ((Mv 0) : Int32).toInt ∧ ((Mv 0) : Int32).toInt ≤ 400) (h_r : 0 ≤ ((Mv 1) : Int32).toInt ∧ ((Mv 1) : Int32).toInt ≤ 6) (h_rul : RulD (Mf 2) (Mf 4) (Mf 5) (Mv 1)) (h_bs : ByS (Mf 1)) : Ct l yX12_rule cX12_rule 1 (some .int) { frames := 12, cells := 0, slots := 0, locals := 262 } D tc sk [.ref (Ma 0)] [((Ma 0), .inr (12, [.ref (Ma 1), .int (Mv 0), .int (Mv 1), .ref (Ma 2), .ref (Ma 3), .ref (Ma 4), .ref (Ma 5), .ref (Ma 6), .int (Mv 2), .int (Mv 3), .int (Mv 4), .int (Mv 5), .int (Mv 6), .int (Mv 7), .int (Mv 8), .ref (Ma 7), .int (Mv 9), .ref (Ma 8), .int (Mv 10), .ref (Ma 9), .ref (Ma 10), .int (Mv 11), .int (Mv 12), .int (Mv 13), .ref (Ma 11), .int (Mv 14), .ref (Ma 12), .ref (Ma 13), .ref (Ma 14), .ref (Ma 15), .ref (Ma 16), .long (Mj 0), .ref (Ma 17), .ref (Ma 18), .ref (Ma 19), .ref (Ma 20)])), ((Ma 1), .inl (tc 2, 400, .inl (Mf 1))), ((Ma 2), .inl (tc 0, 2400, .inl (Mf 2))), ((Ma 3), .inl (tc 0, 7, .inl (Mf 3))), ((Ma 4), .inl (tc 0, 288, .inl (Mf 4))), ((Ma 5), .inl (tc 0, 6, .inl (Mf 5))), ((Ma 7), .inl (tc 0, 400, .inl (Mf 7)))] (fun (v : Option Value) (u : (Int32) × (Int32) × (Int32) × (Int32) × (Int32) × (Int32) × (Int32) × (Int32) × (Int32) × (Int32) × (Nat → Int32) × (Nat → Int32) × (Nat → Int32) × (Nat → Int32) × (Nat → Int32)) => match u with | (oo0x1, oo0x2, oo0x3, oo0x4, oo0x5, oo0x6, oo0x7, oo0x8, oo0x9, oo0x10, oo0x11, oo0x12, oo0x13, oo0x14, oo0x15) => ∃ r : Int32, v = some (.int r) ∧ (RrC (rB (Mf 1) (Mv 0)) (Mv 1) oo0x2 (Mv 0) oo0x1 r) ∧ (0 ≤ (oo0x1 : Int32).toInt ∧ (oo0x1 : Int32).toInt ≤ 400) ∧ (((Mv 1) : Int32).toInt ≤ (oo0x2 : Int32).toInt ∧ (oo0x2 : Int32).toInt ≤ 6) ∧ (RulD oo0x11 oo0x13 oo0x14 oo0x2)) (fun (u : (Int32) × (Int32) × (Int32) × (Int32) × (Int32) × (Int32) × (Int32) × (Int32) × (Int32) × (Int32) × (Nat → Int32) × (Nat → Int32) × (Nat → Int32) × (Nat → Int32) × (Nat → Int32)) => match u with | (oo0x1, oo0x2, oo0x3, oo0x4, oo0x5, oo0x6, oo0x7, oo0x8, oo0x9, oo0x10, oo0x11, oo0x12, oo0x13, oo0x14, oo0x15) => [((Ma 0), .inr (12, [.ref (Ma 1), .int oo0x1, .int oo0x2, .ref (Ma 2), .ref (Ma 3), .ref (Ma 4), .ref (Ma 5), .ref (Ma 6), .int oo0x3, .int oo0x4, .int oo0x5, .int oo0x6, .int oo0x7, .int oo0x8, .int oo0x9, .ref (Ma 7), .int oo0x10, .ref (Ma 8), .int (Mv 10), .ref (Ma 9), .ref (Ma 10), .int (Mv 11), .int (Mv 12), .int (Mv 13), .ref (Ma 11), .int (Mv 14), .ref (Ma 12), .ref (Ma 13), .ref (Ma 14), .ref (Ma 15), .ref (Ma 16), .long (Mj 0), .ref (Ma 17), .ref (Ma 18), .ref (Ma 19), .ref (Ma 20)])), ((Ma 1), .inl (tc 2, 400, .inl (Mf 1))), ((Ma 2), .inl (tc 0, 2400, .inl oo0x11)), ((Ma 3), .inl (tc 0, 7, .inl oo0x12)), ((Ma 4), .inl (tc 0, 288, .inl oo0x13)), ((Ma 5), .inl (tc 0, 6, .inl oo0x14)), ((Ma 7), .inl (tc 0, 400, .inl oo0x15))]) 0 0 := by
  refine Ct.start (by decide) (Nat.le_of_ble_eq_true rfl) (fun p e s m below meth c A ls hx hb hr hlk hin hml hown hts hK hX hP hD hA hl hS => ?_)
  have hl : lv_has ls 1 [(0, .ref (Ma 0))] := hl
  refine lv_aload_n hx hb dX12_rule_0 rfl (lv_at hl 0 rfl) ?_
  refine gf_X12_256 hx hb hts hown hK hP 0 rfl rfl dX12_rule_1 ?_
  refine lv_bipush (v := 6) hx hb dX12_rule_4 (by decide) ?_
  refine lv_icmp_ne (tgt := 11) hx hb dX12_rule_6 (by decide) (fun c_1 => ?_) (fun c_1 => ?_)
  · skip
    refine lv_aload_n hx hb dX12_rule_11 rfl (lv_at hl 0 rfl) ?_
    refine lv_aload_n hx hb dX12_rule_12 rfl (lv_at hl 0 rfl) ?_
    refine gf_X12_256 hx hb hts hown hK hP 0 rfl rfl dX12_rule_13 ?_
    refine pf_X12_145 hx hb hts hown hK hP hD hS 0 rfl (Nat.le_of_ble_eq_true rfl) rfl rfl dX12_rule_16 (fun H locs hP₀ hD₀ hS₀ => ?_)
    replace hP : va_P D classes [((Ma 0), .inr (12, [.ref (Ma 1), .int (Mv 0), .int (Mv 1), .ref (Ma 2), .ref (Ma 3), .ref (Ma 4), .ref (Ma 5), .ref (Ma 6), .int (Mv 2), .int (Mv 3), .int (Mv 4), .int (Mv 1), .int (Mv 6), .int (Mv 7), .int (Mv 8), .ref (Ma 7), .int (Mv 9), .ref (Ma 8), .int (Mv 10), .ref (Ma 9), .ref (Ma 10), .int (Mv 11), .int (Mv 12), .int (Mv 13), .ref (Ma 11), .int (Mv 14), .ref (Ma 12), .ref (Ma 13), .ref (Ma 14), .ref (Ma 15), .ref (Ma 16), .long (Mj 0), .ref (Ma 17), .ref (Ma 18), .ref (Ma 19), .ref (Ma 20)])), ((Ma 1), .inl (tc 2, 400, .inl (Mf 1))), ((Ma 2), .inl (tc 0, 2400, .inl (Mf 2))), ((Ma 3), .inl (tc 0, 7, .inl (Mf 3))), ((Ma 4), .inl (tc 0, 288, .inl (Mf 4))), ((Ma 5), .inl (tc 0, 6, .inl (Mf 5))), ((Ma 7), .inl (tc 0, 400, .inl (Mf 7)))] H := hP₀
    replace hD : va_D A [((Ma 0), .inr (12, [.ref (Ma 1), .int (Mv 0), .int (Mv 1), .ref (Ma 2), .ref (Ma 3), .ref (Ma 4), .ref (Ma 5), .ref (Ma 6), .int (Mv 2), .int (Mv 3), .int (Mv 4), .int (Mv 1), .int (Mv 6), .int (Mv 7), .int (Mv 8), .ref (Ma 7), .int (Mv 9), .ref (Ma 8), .int (Mv 10), .ref (Ma 9), .ref (Ma 10), .int (Mv 11), .int (Mv 12), .int (Mv 13), .ref (Ma 11), .int (Mv 14), .ref (Ma 12), .ref (Ma 13), .ref (Ma 14), .ref (Ma 15), .ref (Ma 16), .long (Mj 0), .ref (Ma 17), .ref (Ma 18), .ref (Ma 19), .ref (Ma 20)])), ((Ma 1), .inl (tc 2, 400, .inl (Mf 1))), ((Ma 2), .inl (tc 0, 2400, .inl (Mf 2))), ((Ma 3), .inl (tc 0, 7, .inl (Mf 3))), ((Ma 4), .inl (tc 0, 288, .inl (Mf 4))), ((Ma 5), .inl (tc 0, 6, .inl (Mf 5))), ((Ma 7), .inl (tc 0, 400, .inl (Mf 7)))] := hD₀
    replace hS := hS₀
    clear hP₀ hD₀ hS₀
    refine lv_aload_n hx hb dX12_rule_19 rfl (lv_at hl 0 rfl) ?_
    refine gf_X12_23 hx hb hts hown hK hP 0 rfl rfl dX12_rule_20 ?_
    refine lv_aload_n hx hb dX12_rule_23 rfl (lv_at hl 0 rfl) ?_
    refine gf_X12_145 hx hb hts hown hK hP 0 rfl rfl dX12_rule_24 ?_
    refine lv_iconst (v := 0) hx hb dX12_rule_27 (by decide) ?_
    have hi_2 : vp_in (Mv 1) 6 := by
      have z_1 : ¬ ((Mv 1) : Int32).toInt = (6 : Int32).toInt := fun z => c_1 (Int32.toInt_inj.mp z)
      have y_6 : (6 : Int32).toInt = 6 := by decide
      refine vp_in_iff.mpr ⟨?_, ?_⟩ <;> omega
    refine st_int hx hb hK hP hD hS 5 0 rfl rfl hi_2 dX12_rule_28 (fun g_3 H locs eg_3 hP₀ hD₀ hS₀ => ?_)
    replace hP : va_P D classes [((Ma 0), .inr (12, [.ref (Ma 1), .int (Mv 0), .int (Mv 1), .ref (Ma 2), .ref (Ma 3), .ref (Ma 4), .ref (Ma 5), .ref (Ma 6), .int (Mv 2), .int (Mv 3), .int (Mv 4), .int (Mv 1), .int (Mv 6), .int (Mv 7), .int (Mv 8), .ref (Ma 7), .int (Mv 9), .ref (Ma 8), .int (Mv 10), .ref (Ma 9), .ref (Ma 10), .int (Mv 11), .int (Mv 12), .int (Mv 13), .ref (Ma 11), .int (Mv 14), .ref (Ma 12), .ref (Ma 13), .ref (Ma 14), .ref (Ma 15), .ref (Ma 16), .long (Mj 0), .ref (Ma 17), .ref (Ma 18), .ref (Ma 19), .ref (Ma 20)])), ((Ma 1), .inl (tc 2, 400, .inl (Mf 1))), ((Ma 2), .inl (tc 0, 2400, .inl (Mf 2))), ((Ma 3), .inl (tc 0, 7, .inl (Mf 3))), ((Ma 4), .inl (tc 0, 288, .inl (Mf 4))), ((Ma 5), .inl (tc 0, 6, .inl g_3)), ((Ma 7), .inl (tc 0, 400, .inl (Mf 7)))] H := hP₀
    replace hD : va_D A [((Ma 0), .inr (12, [.ref (Ma 1), .int (Mv 0), .int (Mv 1), .ref (Ma 2), .ref (Ma 3), .ref (Ma 4), .ref (Ma 5), .ref (Ma 6), .int (Mv 2), .int (Mv 3), .int (Mv 4), .int (Mv 1), .int (Mv 6), .int (Mv 7), .int (Mv 8), .ref (Ma 7), .int (Mv 9), .ref (Ma 8), .int (Mv 10), .ref (Ma 9), .ref (Ma 10), .int (Mv 11), .int (Mv 12), .int (Mv 13), .ref (Ma 11), .int (Mv 14), .ref (Ma 12), .ref (Ma 13), .ref (Ma 14), .ref (Ma 15), .ref (Ma 16), .long (Mj 0), .ref (Ma 17), .ref (Ma 18), .ref (Ma 19), .ref (Ma 20)])), ((Ma 1), .inl (tc 2, 400, .inl (Mf 1))), ((Ma 2), .inl (tc 0, 2400, .inl (Mf 2))), ((Ma 3), .inl (tc 0, 7, .inl (Mf 3))), ((Ma 4), .inl (tc 0, 288, .inl (Mf 4))), ((Ma 5), .inl (tc 0, 6, .inl g_3)), ((Ma 7), .inl (tc 0, 400, .inl (Mf 7)))] := hD₀
    replace hS := hS₀
    clear hP₀ hD₀ hS₀
    have hr_5 : 0 ≤ (Mv 1).toInt := by
      have z_1 : ¬ ((Mv 1) : Int32).toInt = (6 : Int32).toInt := fun z => c_1 (Int32.toInt_inj.mp z)
      have y_6 : (6 : Int32).toInt = 6 := by decide
      omega
    have pf_4 : RulP (Mf 2) (Mf 4) g_3 (Mv 1) 0 := RulP.start h_rul hr_5 eg_3 (by decide)
    have ar_pf_4 := pf_4.2.1
    have kc_g_3 : (g_3 (Mv 1).toInt.toNat).toInt = (0 : Int32).toInt := upd_toInt_at eg_3
    have kz0 : (0 : Int32).toInt = 0 := by decide
    refine lv_aload_n hx hb dX12_rule_29 rfl (lv_at hl 0 rfl) ?_
    have ha_6 : 0 ≤ ((Mv 1) : Int32).toInt ∧ ((Mv 1) : Int32).toInt ≤ 5 := by
      have z_1 : ¬ ((Mv 1) : Int32).toInt = (6 : Int32).toInt := fun z => c_1 (Int32.toInt_inj.mp z)
      have y_6 : (6 : Int32).toInt = 6 := by decide
      omega
    have ha_7 : (g_3 (Mv 1).toInt.toNat).toInt = 0 := by
      have z_1 : ¬ ((Mv 1) : Int32).toInt = (6 : Int32).toInt := fun z => c_1 (Int32.toInt_inj.mp z)
      have y_6 : (6 : Int32).toInt = 6 := by decide
      omega
    refine cV (a := (Ma 0)) (As := []) (rest := []) (wr := []) ⟨hx, hb, hml, hown, hts⟩ hK hX hA (cu_fX12_readsAll_r l D tc sk (Ma 0) (Ma 1) (Ma 2) (Ma 3) (Ma 4) (Ma 5) (Ma 6) (Ma 7) (Ma 8) (Ma 9) (Ma 10) (Ma 11) (Ma 12) (Ma 13) (Ma 14) (Ma 15) (Ma 16) (Ma 17) (Ma 18) (Ma 19) (Ma 20) (Mv 0) (Mv 1) (Mv 2) (Mv 3) (Mv 4) (Mv 1) (Mv 6) (Mv 7) (Mv 8) (Mv 9) (Mv 10) (Mv 11) (Mv 12) (Mv 13) (Mv 14) (Mf 1) (Mf 2) (Mf 3) (Mf 4) g_3 (Mf 7) (Mj 0) h_tp ha_6 pf_4 ha_7 h_bs) k_1203 k_1200 k_1202 k_25 k_106 pl_X12_readsAll ⟨Nat.le_of_ble_eq_true rfl, Nat.le_of_ble_eq_true rfl⟩ rfl rfl (va_recv hK hP (ci := 12) (q0 := 0) rfl rfl) hP hD hS [0, 1, 2, 3, 4, 5, 6] [] rfl rfl rfl rfl rfl (by decide) rfl hl.1 rfl (Nat.le_of_ble_eq_true rfl) dX12_rule_30 ⟨Nat.le_of_ble_eq_true rfl, Nat.le_of_ble_eq_true rfl⟩ (fun v_8 u_9 H locs hv_10 hP₀ hD₀ hS₀ => ?_)
    obtain ⟨sv_11, sv_12, sv_13, sv_14, sv_15, sv_16, sv_17, sv_18, sv_19, sv_20, sv_21, sv_22⟩ := u_9
    obtain ⟨r_25, rfl, he_26, pf_23, pf_24, hm_28⟩ := hv_10
    have he_26 : ((r_25.toInt = 0 ∧ ¬ (sv_12 : Int32).toInt = 0) ∨ (r_25.toInt = 1 ∧ (sv_12 : Int32).toInt = 0 ∧ (sv_21 (Mv 1).toInt.toNat).toInt ≤ 12)) := he_26
    have pf_23 : RulD sv_18 sv_20 sv_21 (Mv 1) := pf_23
    have pf_24 : RuE (rB (Mf 1) (Mv 0)) sv_12 := pf_24
    refine W.eq (g2 := F0 m 33 ls [.int r_25]) rfl ?_
    replace hP : va_P D classes [((Ma 0), .inr (12, [.ref (Ma 1), .int 0, .int (Mv 1), .ref (Ma 2), .ref (Ma 3), .ref (Ma 4), .ref (Ma 5), .ref (Ma 6), .int sv_11, .int sv_12, .int sv_13, .int (Mv 1), .int sv_14, .int sv_15, .int sv_16, .ref (Ma 7), .int sv_17, .ref (Ma 8), .int (Mv 10), .ref (Ma 9), .ref (Ma 10), .int (Mv 11), .int (Mv 12), .int (Mv 13), .ref (Ma 11), .int (Mv 14), .ref (Ma 12), .ref (Ma 13), .ref (Ma 14), .ref (Ma 15), .ref (Ma 16), .long (Mj 0), .ref (Ma 17), .ref (Ma 18), .ref (Ma 19), .ref (Ma 20)])), ((Ma 1), .inl (tc 2, 400, .inl (Mf 1))), ((Ma 2), .inl (tc 0, 2400, .inl sv_18)), ((Ma 3), .inl (tc 0, 7, .inl sv_19)), ((Ma 4), .inl (tc 0, 288, .inl sv_20)), ((Ma 5), .inl (tc 0, 6, .inl sv_21)), ((Ma 7), .inl (tc 0, 400, .inl sv_22))] H := hP₀
    replace hD : va_D A [((Ma 0), .inr (12, [.ref (Ma 1), .int 0, .int (Mv 1), .ref (Ma 2), .ref (Ma 3), .ref (Ma 4), .ref (Ma 5), .ref (Ma 6), .int sv_11, .int sv_12, .int sv_13, .int (Mv 1), .int sv_14, .int sv_15, .int sv_16, .ref (Ma 7), .int sv_17, .ref (Ma 8), .int (Mv 10), .ref (Ma 9), .ref (Ma 10), .int (Mv 11), .int (Mv 12), .int (Mv 13), .ref (Ma 11), .int (Mv 14), .ref (Ma 12), .ref (Ma 13), .ref (Ma 14), .ref (Ma 15), .ref (Ma 16), .long (Mj 0), .ref (Ma 17), .ref (Ma 18), .ref (Ma 19), .ref (Ma 20)])), ((Ma 1), .inl (tc 2, 400, .inl (Mf 1))), ((Ma 2), .inl (tc 0, 2400, .inl sv_18)), ((Ma 3), .inl (tc 0, 7, .inl sv_19)), ((Ma 4), .inl (tc 0, 288, .inl sv_20)), ((Ma 5), .inl (tc 0, 6, .inl sv_21)), ((Ma 7), .inl (tc 0, 400, .inl sv_22))] := hD₀
    replace hS := hS₀
    clear hP₀ hD₀ hS₀
    refine lv_if_ne (tgt := 44) hx hb dX12_rule_33 (by decide) (fun c_29 => ?_) (fun c_29 => ?_)
    · skip
      have hz_31 : (r_25 : Int32).toInt = 1 := by
        have z_1 : ¬ ((Mv 1) : Int32).toInt = (6 : Int32).toInt := fun z => c_1 (Int32.toInt_inj.mp z)
        have z_2 : ¬ (r_25 : Int32).toInt = (0 : Int32).toInt := fun z => c_29 (Int32.toInt_inj.mp z)
        have y_0 : (0 : Int32).toInt = 0 := by decide
        have y_6 : (6 : Int32).toInt = 6 := by decide
        omega
      obtain pf_30 := hm_28 hz_31
      have pf_30 : RulP sv_18 sv_20 sv_21 (Mv 1) ((sv_19 (Mv 1).toNatClampNeg).toInt) := pf_30
      have ar_pf_30 := pf_30.2.1
      refine lv_aload_n hx hb dX12_rule_44 rfl (lv_at hl 0 rfl) ?_
      refine lv_dup hx hb dX12_rule_45 rfl ?_
      refine gf_X12_256 hx hb hts hown hK hP 0 rfl rfl dX12_rule_46 ?_
      refine lv_iconst (v := 1) hx hb dX12_rule_49 (by decide) ?_
      refine lv_iadd hx hb dX12_rule_50 ?_
      refine lv_topi (fun x_32 ex_32 => ?_)
      refine pf_X12_256 hx hb hts hown hK hP hD hS 0 rfl (Nat.le_of_ble_eq_true rfl) rfl rfl dX12_rule_51 (fun H locs hP₀ hD₀ hS₀ => ?_)
      replace hP : va_P D classes [((Ma 0), .inr (12, [.ref (Ma 1), .int 0, .int x_32, .ref (Ma 2), .ref (Ma 3), .ref (Ma 4), .ref (Ma 5), .ref (Ma 6), .int sv_11, .int sv_12, .int sv_13, .int (Mv 1), .int sv_14, .int sv_15, .int sv_16, .ref (Ma 7), .int sv_17, .ref (Ma 8), .int (Mv 10), .ref (Ma 9), .ref (Ma 10), .int (Mv 11), .int (Mv 12), .int (Mv 13), .ref (Ma 11), .int (Mv 14), .ref (Ma 12), .ref (Ma 13), .ref (Ma 14), .ref (Ma 15), .ref (Ma 16), .long (Mj 0), .ref (Ma 17), .ref (Ma 18), .ref (Ma 19), .ref (Ma 20)])), ((Ma 1), .inl (tc 2, 400, .inl (Mf 1))), ((Ma 2), .inl (tc 0, 2400, .inl sv_18)), ((Ma 3), .inl (tc 0, 7, .inl sv_19)), ((Ma 4), .inl (tc 0, 288, .inl sv_20)), ((Ma 5), .inl (tc 0, 6, .inl sv_21)), ((Ma 7), .inl (tc 0, 400, .inl sv_22))] H := hP₀
      replace hD : va_D A [((Ma 0), .inr (12, [.ref (Ma 1), .int 0, .int x_32, .ref (Ma 2), .ref (Ma 3), .ref (Ma 4), .ref (Ma 5), .ref (Ma 6), .int sv_11, .int sv_12, .int sv_13, .int (Mv 1), .int sv_14, .int sv_15, .int sv_16, .ref (Ma 7), .int sv_17, .ref (Ma 8), .int (Mv 10), .ref (Ma 9), .ref (Ma 10), .int (Mv 11), .int (Mv 12), .int (Mv 13), .ref (Ma 11), .int (Mv 14), .ref (Ma 12), .ref (Ma 13), .ref (Ma 14), .ref (Ma 15), .ref (Ma 16), .long (Mj 0), .ref (Ma 17), .ref (Ma 18), .ref (Ma 19), .ref (Ma 20)])), ((Ma 1), .inl (tc 2, 400, .inl (Mf 1))), ((Ma 2), .inl (tc 0, 2400, .inl sv_18)), ((Ma 3), .inl (tc 0, 7, .inl sv_19)), ((Ma 4), .inl (tc 0, 288, .inl sv_20)), ((Ma 5), .inl (tc 0, 6, .inl sv_21)), ((Ma 7), .inl (tc 0, 400, .inl sv_22))] := hD₀
      replace hS := hS₀
      clear hP₀ hD₀ hS₀
      refine lv_aload_n hx hb dX12_rule_54 rfl (lv_at hl 0 rfl) ?_
      refine gf_X12_256 hx hb hts hown hK hP 0 rfl rfl dX12_rule_55 ?_
      refine lv_iconst (v := 1) hx hb dX12_rule_58 (by decide) ?_
      refine lv_isub hx hb dX12_rule_59 ?_
      refine lv_topi (fun x_33 ex_33 => ?_)
      have ha_34 : 0 ≤ (0 : Int32).toInt ∧ (0 : Int32).toInt ≤ 400 := by
        have z_1 : ¬ ((Mv 1) : Int32).toInt = (6 : Int32).toInt := fun z => c_1 (Int32.toInt_inj.mp z)
        have z_2 : ¬ (r_25 : Int32).toInt = (0 : Int32).toInt := fun z => c_29 (Int32.toInt_inj.mp z)
        have y_0 : (0 : Int32).toInt = 0 := by decide
        have y_6 : (6 : Int32).toInt = 6 := by decide
        omega
      have ha_35 : ((Mv 1) : Int32).toInt ≤ (x_32 : Int32).toInt ∧ (x_32 : Int32).toInt ≤ 6 := by
        have z_1 : ¬ ((Mv 1) : Int32).toInt = (6 : Int32).toInt := fun z => c_1 (Int32.toInt_inj.mp z)
        have z_2 : ¬ (r_25 : Int32).toInt = (0 : Int32).toInt := fun z => c_29 (Int32.toInt_inj.mp z)
        have y_0 : (0 : Int32).toInt = 0 := by decide
        have y_6 : (6 : Int32).toInt = 6 := by decide
        have y_1 : (1 : Int32).toInt = 1 := by decide
        have t_x_32 : x_32.toInt = ((Mv 1) : Int32).toInt + (1 : Int32).toInt := by rw [ex_32]; exact add_toInt (by omega) (by omega)
        omega
      have hr_36 : 0 ≤ (Mv 1).toInt := by
        have z_1 : ¬ ((Mv 1) : Int32).toInt = (6 : Int32).toInt := fun z => c_1 (Int32.toInt_inj.mp z)
        have z_2 : ¬ (r_25 : Int32).toInt = (0 : Int32).toInt := fun z => c_29 (Int32.toInt_inj.mp z)
        have y_0 : (0 : Int32).toInt = 0 := by decide
        have y_6 : (6 : Int32).toInt = 6 := by decide
        omega
      have hi_37 : (x_32 : Int32).toInt = (Mv 1).toInt + 1 := by
        have z_1 : ¬ ((Mv 1) : Int32).toInt = (6 : Int32).toInt := fun z => c_1 (Int32.toInt_inj.mp z)
        have z_2 : ¬ (r_25 : Int32).toInt = (0 : Int32).toInt := fun z => c_29 (Int32.toInt_inj.mp z)
        have y_0 : (0 : Int32).toInt = 0 := by decide
        have y_6 : (6 : Int32).toInt = 6 := by decide
        have y_1 : (1 : Int32).toInt = 1 := by decide
        have t_x_32 : x_32.toInt = ((Mv 1) : Int32).toInt + (1 : Int32).toInt := by rw [ex_32]; exact add_toInt (by omega) (by omega)
        omega
      have hr_38 : (sv_21 (Mv 1).toInt.toNat).toInt ≤ 12 := by
        have z_1 : ¬ ((Mv 1) : Int32).toInt = (6 : Int32).toInt := fun z => c_1 (Int32.toInt_inj.mp z)
        have z_2 : ¬ (r_25 : Int32).toInt = (0 : Int32).toInt := fun z => c_29 (Int32.toInt_inj.mp z)
        have y_0 : (0 : Int32).toInt = 0 := by decide
        have y_6 : (6 : Int32).toInt = 6 := by decide
        omega
      have hr_39 : (Mv 1).toInt < 6 := by
        have z_1 : ¬ ((Mv 1) : Int32).toInt = (6 : Int32).toInt := fun z => c_1 (Int32.toInt_inj.mp z)
        have z_2 : ¬ (r_25 : Int32).toInt = (0 : Int32).toInt := fun z => c_29 (Int32.toInt_inj.mp z)
        have y_0 : (0 : Int32).toInt = 0 := by decide
        have y_6 : (6 : Int32).toInt = 6 := by decide
        omega
      have hr_40 : (0 : Int32).toInt = 0 := by
        have z_1 : ¬ ((Mv 1) : Int32).toInt = (6 : Int32).toInt := fun z => c_1 (Int32.toInt_inj.mp z)
        have z_2 : ¬ (r_25 : Int32).toInt = (0 : Int32).toInt := fun z => c_29 (Int32.toInt_inj.mp z)
        have y_0 : (0 : Int32).toInt = 0 := by decide
        have y_6 : (6 : Int32).toInt = 6 := by decide
        omega
      have hr_41 : (sv_12 : Int32).toInt = 0 := by
        have z_1 : ¬ ((Mv 1) : Int32).toInt = (6 : Int32).toInt := fun z => c_1 (Int32.toInt_inj.mp z)
        have z_2 : ¬ (r_25 : Int32).toInt = (0 : Int32).toInt := fun z => c_29 (Int32.toInt_inj.mp z)
        have y_0 : (0 : Int32).toInt = 0 := by decide
        have y_6 : (6 : Int32).toInt = 6 := by decide
        omega
      have hi_42 : (x_32 : Int32).toInt = (Mv 1).toInt + 1 := by
        have z_1 : ¬ ((Mv 1) : Int32).toInt = (6 : Int32).toInt := fun z => c_1 (Int32.toInt_inj.mp z)
        have z_2 : ¬ (r_25 : Int32).toInt = (0 : Int32).toInt := fun z => c_29 (Int32.toInt_inj.mp z)
        have y_0 : (0 : Int32).toInt = 0 := by decide
        have y_6 : (6 : Int32).toInt = 6 := by decide
        have y_1 : (1 : Int32).toInt = 1 := by decide
        have t_x_32 : x_32.toInt = ((Mv 1) : Int32).toInt + (1 : Int32).toInt := by rw [ex_32]; exact add_toInt (by omega) (by omega)
        omega
      have hi_43 : (x_33 : Int32).toInt = (Mv 1).toInt := by
        have z_1 : ¬ ((Mv 1) : Int32).toInt = (6 : Int32).toInt := fun z => c_1 (Int32.toInt_inj.mp z)
        have z_2 : ¬ (r_25 : Int32).toInt = (0 : Int32).toInt := fun z => c_29 (Int32.toInt_inj.mp z)
        have y_0 : (0 : Int32).toInt = 0 := by decide
        have y_6 : (6 : Int32).toInt = 6 := by decide
        have y_1 : (1 : Int32).toInt = 1 := by decide
        have t_x_32 : x_32.toInt = ((Mv 1) : Int32).toInt + (1 : Int32).toInt := by rw [ex_32]; exact add_toInt (by omega) (by omega)
        have t_x_33 : x_33.toInt = (x_32 : Int32).toInt - (1 : Int32).toInt := by rw [ex_33]; exact sub_toInt (by omega) (by omega)
        omega
      exact retI (v := x_33) hx hb hr hlk (rfl) hP hD hS (0, x_32, sv_11, sv_12, sv_13, (Mv 1), sv_14, sv_15, sv_16, sv_17, sv_18, sv_19, sv_20, sv_21, sv_22) ⟨_, rfl, (Or.inr ⟨hr_39, hr_40, Or.inl ⟨RuE.ok pf_24 hr_41, hi_42, hi_43⟩⟩), ha_34, ha_35, (RulP.done pf_30 hr_36 hi_37 hr_38)⟩ [0, 1, 2, 3, 4, 5, 6] rfl rfl dX12_rule_60 (Nat.le_of_ble_eq_true rfl) (Nat.le_of_ble_eq_true rfl) rfl
    · skip
      refine lv_bipush (v := (-2)) hx hb dX12_rule_36 (by decide) ?_
      refine lv_aload_n hx hb dX12_rule_38 rfl (lv_at hl 0 rfl) ?_
      refine gf_X12_84 hx hb hts hown hK hP 0 rfl rfl dX12_rule_39 ?_
      refine lv_isub hx hb dX12_rule_42 ?_
      refine lv_topi (fun x_44 ex_44 => ?_)
      have ha_45 : 0 ≤ (0 : Int32).toInt ∧ (0 : Int32).toInt ≤ 400 := by
        have z_1 : ¬ ((Mv 1) : Int32).toInt = (6 : Int32).toInt := fun z => c_1 (Int32.toInt_inj.mp z)
        have z_2 := congrArg Int32.toInt c_29
        have y_0 : (0 : Int32).toInt = 0 := by decide
        have y_6 : (6 : Int32).toInt = 6 := by decide
        omega
      have ha_46 : ((Mv 1) : Int32).toInt ≤ ((Mv 1) : Int32).toInt ∧ ((Mv 1) : Int32).toInt ≤ 6 := by
        have z_1 : ¬ ((Mv 1) : Int32).toInt = (6 : Int32).toInt := fun z => c_1 (Int32.toInt_inj.mp z)
        have z_2 := congrArg Int32.toInt c_29
        have y_0 : (0 : Int32).toInt = 0 := by decide
        have y_6 : (6 : Int32).toInt = 6 := by decide
        omega
      have hr_47 : (Mv 1).toInt < 6 := by
        have z_1 : ¬ ((Mv 1) : Int32).toInt = (6 : Int32).toInt := fun z => c_1 (Int32.toInt_inj.mp z)
        have z_2 := congrArg Int32.toInt c_29
        have y_0 : (0 : Int32).toInt = 0 := by decide
        have y_6 : (6 : Int32).toInt = 6 := by decide
        omega
      have hr_48 : (0 : Int32).toInt = 0 := by
        have z_1 : ¬ ((Mv 1) : Int32).toInt = (6 : Int32).toInt := fun z => c_1 (Int32.toInt_inj.mp z)
        have z_2 := congrArg Int32.toInt c_29
        have y_0 : (0 : Int32).toInt = 0 := by decide
        have y_6 : (6 : Int32).toInt = 6 := by decide
        omega
      have hr_49 : ¬ (sv_12 : Int32).toInt = 0 := by
        have z_1 : ¬ ((Mv 1) : Int32).toInt = (6 : Int32).toInt := fun z => c_1 (Int32.toInt_inj.mp z)
        have z_2 := congrArg Int32.toInt c_29
        have y_0 : (0 : Int32).toInt = 0 := by decide
        have y_6 : (6 : Int32).toInt = 6 := by decide
        omega
      exact retI (v := x_44) hx hb hr hlk (rfl) hP hD hS (0, (Mv 1), sv_11, sv_12, sv_13, (Mv 1), sv_14, sv_15, sv_16, sv_17, sv_18, sv_19, sv_20, sv_21, sv_22) ⟨_, rfl, (Or.inr ⟨hr_47, hr_48, Or.inr ⟨sv_12, RuE.er pf_24 hr_49, rfl, ex_44⟩⟩), ha_45, ha_46, pf_23⟩ [0, 1, 2, 3, 4, 5, 6] rfl rfl dX12_rule_43 (Nat.le_of_ble_eq_true rfl) (Nat.le_of_ble_eq_true rfl) rfl
  · skip
    refine lv_iconst (v := (-1)) hx hb dX12_rule_9 (by decide) ?_
    have ha_50 : ((Mv 1) : Int32).toInt ≤ ((Mv 1) : Int32).toInt ∧ ((Mv 1) : Int32).toInt ≤ 6 := by
      have z_1 := congrArg Int32.toInt c_1
      have y_6 : (6 : Int32).toInt = 6 := by decide
      omega
    have hr_51 : 6 ≤ (Mv 1).toInt := by
      have z_1 := congrArg Int32.toInt c_1
      have y_6 : (6 : Int32).toInt = 6 := by decide
      omega
    have hr_52 : ((-1) : Int32).toInt = -1 := by
      have z_1 := congrArg Int32.toInt c_1
      have y_6 : (6 : Int32).toInt = 6 := by decide
      have y_m1 : (-1 : Int32).toInt = -1 := by decide
      omega
    exact retI (v := (-1)) hx hb hr hlk (rfl) hP hD hS ((Mv 0), (Mv 1), (Mv 2), (Mv 3), (Mv 4), (Mv 5), (Mv 6), (Mv 7), (Mv 8), (Mv 9), (Mf 2), (Mf 3), (Mf 4), (Mf 5), (Mf 7)) ⟨_, rfl, (Or.inl ⟨hr_51, rfl, rfl, hr_52⟩), h_tp, ha_50, h_rul⟩ [0, 1, 2, 3, 4, 5, 6] rfl rfl dX12_rule_10 (Nat.le_of_ble_eq_true rfl) (Nat.le_of_ble_eq_true rfl) rfl
