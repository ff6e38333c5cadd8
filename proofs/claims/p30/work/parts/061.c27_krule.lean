set_option maxRecDepth 16384
set_option maxHeartbeats 4000000 in
set_option maxRecDepth 100000 in
theorem ct_kX12_readsAll_r (l : Launch) (D : va_G) (tc : Nat → ClassId) (sk : (Nat → Nat) × (Nat → Nat)) (Ma : Nat → Nat) (Mv : Nat → Int32) (Mf : Nat → Nat → Int32) (Mj : Nat → Int64) (h_tp : 0 ≤ ((Mv 0) : Int32).toInt ∧ ((Mv 0) : Int32).toInt ≤ 400) (h_t : 0 ≤ ((Mv 5) : Int32).toInt ∧ ((Mv 5) : Int32).toInt ≤ 5) (h_rp : RulP (Mf 2) (Mf 4) (Mf 5) (Mv 5) 0) (h_c : ((Mf 5) (Mv 5).toInt.toNat).toInt = 0) (h_bs : ByS (Mf 1)) : Ct l yX12_readsAll cX12_readsAll 2 (some .boolean) { frames := 11, cells := 0, slots := 0, locals := 241 } D tc sk [.ref (Ma 0)] [((Ma 0), .inr (12, [.ref (Ma 1), .int (Mv 0), .int (Mv 1), .ref (Ma 2), .ref (Ma 3), .ref (Ma 4), .ref (Ma 5), .ref (Ma 6), .int (Mv 2), .int (Mv 3), .int (Mv 4), .int (Mv 5), .int (Mv 6), .int (Mv 7), .int (Mv 8), .ref (Ma 7), .int (Mv 9), .ref (Ma 8), .int (Mv 10), .ref (Ma 9), .ref (Ma 10), .int (Mv 11), .int (Mv 12), .int (Mv 13), .ref (Ma 11), .int (Mv 14), .ref (Ma 12), .ref (Ma 13), .ref (Ma 14), .ref (Ma 15), .ref (Ma 16), .long (Mj 0), .ref (Ma 17), .ref (Ma 18), .ref (Ma 19), .ref (Ma 20)])), ((Ma 1), .inl (tc 2, 400, .inl (Mf 1))), ((Ma 2), .inl (tc 0, 2400, .inl (Mf 2))), ((Ma 3), .inl (tc 0, 7, .inl (Mf 3))), ((Ma 4), .inl (tc 0, 288, .inl (Mf 4))), ((Ma 5), .inl (tc 0, 6, .inl (Mf 5))), ((Ma 7), .inl (tc 0, 400, .inl (Mf 7)))] (fun (v : Option Value) (u : (Int32) × (Int32) × (Int32) × (Int32) × (Int32) × (Int32) × (Int32) × (Nat → Int32) × (Nat → Int32) × (Nat → Int32) × (Nat → Int32) × (Nat → Int32)) => match u with | (oo0x1, oo0x2, oo0x3, oo0x4, oo0x5, oo0x6, oo0x7, oo0x8, oo0x9, oo0x10, oo0x11, oo0x12) => ∃ r : Int32, v = some (.int r) ∧ (((r.toInt = 0 ∧ ¬ (oo0x2 : Int32).toInt = 0) ∨ (r.toInt = 1 ∧ (oo0x2 : Int32).toInt = 0 ∧ (oo0x11 (Mv 5).toInt.toNat).toInt ≤ 12))) ∧ (RulD oo0x8 oo0x10 oo0x11 (Mv 5)) ∧ (RuE (rB (Mf 1) (Mv 0)) oo0x2) ∧ (Agr (Mf 2) oo0x8 (400 * ((Mv 5) : Int32).toInt)) ∧ (Agr (Mf 4) oo0x10 (48 * ((Mv 5) : Int32).toInt)) ∧ (Agr (Mf 5) oo0x11 ((Mv 5) : Int32).toInt) ∧ (r.toInt = 1 → (RulP oo0x8 oo0x10 oo0x11 (Mv 5) ((oo0x9 (Mv 5).toNatClampNeg).toInt)) ∧ (RwK oo0x8 oo0x9 oo0x10 oo0x11 (Mv 5) (ru_of (rB (Mf 1) (Mv 0)))))) (fun (u : (Int32) × (Int32) × (Int32) × (Int32) × (Int32) × (Int32) × (Int32) × (Nat → Int32) × (Nat → Int32) × (Nat → Int32) × (Nat → Int32) × (Nat → Int32)) => match u with | (oo0x1, oo0x2, oo0x3, oo0x4, oo0x5, oo0x6, oo0x7, oo0x8, oo0x9, oo0x10, oo0x11, oo0x12) => [((Ma 0), .inr (12, [.ref (Ma 1), .int 0, .int (Mv 1), .ref (Ma 2), .ref (Ma 3), .ref (Ma 4), .ref (Ma 5), .ref (Ma 6), .int oo0x1, .int oo0x2, .int oo0x3, .int (Mv 5), .int oo0x4, .int oo0x5, .int oo0x6, .ref (Ma 7), .int oo0x7, .ref (Ma 8), .int (Mv 10), .ref (Ma 9), .ref (Ma 10), .int (Mv 11), .int (Mv 12), .int (Mv 13), .ref (Ma 11), .int (Mv 14), .ref (Ma 12), .ref (Ma 13), .ref (Ma 14), .ref (Ma 15), .ref (Ma 16), .long (Mj 0), .ref (Ma 17), .ref (Ma 18), .ref (Ma 19), .ref (Ma 20)])), ((Ma 1), .inl (tc 2, 400, .inl (Mf 1))), ((Ma 2), .inl (tc 0, 2400, .inl oo0x8)), ((Ma 3), .inl (tc 0, 7, .inl oo0x9)), ((Ma 4), .inl (tc 0, 288, .inl oo0x10)), ((Ma 5), .inl (tc 0, 6, .inl oo0x11)), ((Ma 7), .inl (tc 0, 400, .inl oo0x12))]) 0 0 := by
  refine Ct.start (by decide) (Nat.le_of_ble_eq_true rfl) (fun p e s m below meth c A ls hx hb hr hlk hin hml hown hts hK hX hP hD hA hl hS => ?_)
  have hl : lv_has ls 2 [(0, .ref (Ma 0))] := hl
  have ar_h_rp := h_rp.2.1
  refine lv_aload_n hx hb dX12_readsAll_0 rfl (lv_at hl 0 rfl) ?_
  refine gf_X12_17 hx hb hts hown hK hP 0 rfl rfl dX12_readsAll_1 ?_
  refine lv_aload_n hx hb dX12_readsAll_4 rfl (lv_at hl 0 rfl) ?_
  refine gf_X12_145 hx hb hts hown hK hP 0 rfl rfl dX12_readsAll_5 ?_
  refine lv_iconst (v := 0) hx hb dX12_readsAll_8 (by decide) ?_
  have hi_1 : vp_in (Mv 5) 7 := by
    refine vp_in_iff.mpr ⟨?_, ?_⟩ <;> omega
  refine st_int hx hb hK hP hD hS 3 0 rfl rfl hi_1 dX12_readsAll_9 (fun g_2 H locs eg_2 hP₀ hD₀ hS₀ => ?_)
  replace hP : va_P D classes [((Ma 0), .inr (12, [.ref (Ma 1), .int (Mv 0), .int (Mv 1), .ref (Ma 2), .ref (Ma 3), .ref (Ma 4), .ref (Ma 5), .ref (Ma 6), .int (Mv 2), .int (Mv 3), .int (Mv 4), .int (Mv 5), .int (Mv 6), .int (Mv 7), .int (Mv 8), .ref (Ma 7), .int (Mv 9), .ref (Ma 8), .int (Mv 10), .ref (Ma 9), .ref (Ma 10), .int (Mv 11), .int (Mv 12), .int (Mv 13), .ref (Ma 11), .int (Mv 14), .ref (Ma 12), .ref (Ma 13), .ref (Ma 14), .ref (Ma 15), .ref (Ma 16), .long (Mj 0), .ref (Ma 17), .ref (Ma 18), .ref (Ma 19), .ref (Ma 20)])), ((Ma 1), .inl (tc 2, 400, .inl (Mf 1))), ((Ma 2), .inl (tc 0, 2400, .inl (Mf 2))), ((Ma 3), .inl (tc 0, 7, .inl g_2)), ((Ma 4), .inl (tc 0, 288, .inl (Mf 4))), ((Ma 5), .inl (tc 0, 6, .inl (Mf 5))), ((Ma 7), .inl (tc 0, 400, .inl (Mf 7)))] H := hP₀
  replace hD : va_D A [((Ma 0), .inr (12, [.ref (Ma 1), .int (Mv 0), .int (Mv 1), .ref (Ma 2), .ref (Ma 3), .ref (Ma 4), .ref (Ma 5), .ref (Ma 6), .int (Mv 2), .int (Mv 3), .int (Mv 4), .int (Mv 5), .int (Mv 6), .int (Mv 7), .int (Mv 8), .ref (Ma 7), .int (Mv 9), .ref (Ma 8), .int (Mv 10), .ref (Ma 9), .ref (Ma 10), .int (Mv 11), .int (Mv 12), .int (Mv 13), .ref (Ma 11), .int (Mv 14), .ref (Ma 12), .ref (Ma 13), .ref (Ma 14), .ref (Ma 15), .ref (Ma 16), .long (Mj 0), .ref (Ma 17), .ref (Ma 18), .ref (Ma 19), .ref (Ma 20)])), ((Ma 1), .inl (tc 2, 400, .inl (Mf 1))), ((Ma 2), .inl (tc 0, 2400, .inl (Mf 2))), ((Ma 3), .inl (tc 0, 7, .inl g_2)), ((Ma 4), .inl (tc 0, 288, .inl (Mf 4))), ((Ma 5), .inl (tc 0, 6, .inl (Mf 5))), ((Ma 7), .inl (tc 0, 400, .inl (Mf 7)))] := hD₀
  replace hS := hS₀
  clear hP₀ hD₀ hS₀
  have kl_g_2 : (g_2 (Mv 5).toNatClampNeg).toInt = (0 : Int32).toInt := upd_toInt_at eg_2
  have kz0 : (0 : Int32).toInt = 0 := by decide
  have pf_3 : SgC (Mf 2) g_2 (Mv 5) [] := SgC.nil eg_2 (by decide)
  have pf_4 : RwL (Mf 4) (Mf 5) (Mv 5) [] [] := RwL.nil h_c
  refine lv_aload_n hx hb dX12_readsAll_10 rfl (lv_at hl 0 rfl) ?_
  refine lv_iconst (v := 0) hx hb dX12_readsAll_11 (by decide) ?_
  refine pf_X12_244 hx hb hts hown hK hP hD hS 0 rfl (Nat.le_of_ble_eq_true rfl) rfl rfl dX12_readsAll_12 (fun H locs hP₀ hD₀ hS₀ => ?_)
  replace hP : va_P D classes [((Ma 0), .inr (12, [.ref (Ma 1), .int (Mv 0), .int (Mv 1), .ref (Ma 2), .ref (Ma 3), .ref (Ma 4), .ref (Ma 5), .ref (Ma 6), .int (Mv 2), .int (Mv 3), .int (Mv 4), .int (Mv 5), .int (Mv 6), .int (Mv 7), .int 0, .ref (Ma 7), .int (Mv 9), .ref (Ma 8), .int (Mv 10), .ref (Ma 9), .ref (Ma 10), .int (Mv 11), .int (Mv 12), .int (Mv 13), .ref (Ma 11), .int (Mv 14), .ref (Ma 12), .ref (Ma 13), .ref (Ma 14), .ref (Ma 15), .ref (Ma 16), .long (Mj 0), .ref (Ma 17), .ref (Ma 18), .ref (Ma 19), .ref (Ma 20)])), ((Ma 1), .inl (tc 2, 400, .inl (Mf 1))), ((Ma 2), .inl (tc 0, 2400, .inl (Mf 2))), ((Ma 3), .inl (tc 0, 7, .inl g_2)), ((Ma 4), .inl (tc 0, 288, .inl (Mf 4))), ((Ma 5), .inl (tc 0, 6, .inl (Mf 5))), ((Ma 7), .inl (tc 0, 400, .inl (Mf 7)))] H := hP₀
  replace hD : va_D A [((Ma 0), .inr (12, [.ref (Ma 1), .int (Mv 0), .int (Mv 1), .ref (Ma 2), .ref (Ma 3), .ref (Ma 4), .ref (Ma 5), .ref (Ma 6), .int (Mv 2), .int (Mv 3), .int (Mv 4), .int (Mv 5), .int (Mv 6), .int (Mv 7), .int 0, .ref (Ma 7), .int (Mv 9), .ref (Ma 8), .int (Mv 10), .ref (Ma 9), .ref (Ma 10), .int (Mv 11), .int (Mv 12), .int (Mv 13), .ref (Ma 11), .int (Mv 14), .ref (Ma 12), .ref (Ma 13), .ref (Ma 14), .ref (Ma 15), .ref (Ma 16), .long (Mj 0), .ref (Ma 17), .ref (Ma 18), .ref (Ma 19), .ref (Ma 20)])), ((Ma 1), .inl (tc 2, 400, .inl (Mf 1))), ((Ma 2), .inl (tc 0, 2400, .inl (Mf 2))), ((Ma 3), .inl (tc 0, 7, .inl g_2)), ((Ma 4), .inl (tc 0, 288, .inl (Mf 4))), ((Ma 5), .inl (tc 0, 6, .inl (Mf 5))), ((Ma 7), .inl (tc 0, 400, .inl (Mf 7)))] := hD₀
  replace hS := hS₀
  clear hP₀ hD₀ hS₀
  refine lv_aload_n hx hb dX12_readsAll_15 rfl (lv_at hl 0 rfl) ?_
  refine lv_iconst (v := 0) hx hb dX12_readsAll_16 (by decide) ?_
  refine pf_X12_87 hx hb hts hown hK hP hD hS 0 rfl (Nat.le_of_ble_eq_true rfl) rfl rfl dX12_readsAll_17 (fun H locs hP₀ hD₀ hS₀ => ?_)
  replace hP : va_P D classes [((Ma 0), .inr (12, [.ref (Ma 1), .int (Mv 0), .int (Mv 1), .ref (Ma 2), .ref (Ma 3), .ref (Ma 4), .ref (Ma 5), .ref (Ma 6), .int 0, .int (Mv 3), .int (Mv 4), .int (Mv 5), .int (Mv 6), .int (Mv 7), .int 0, .ref (Ma 7), .int (Mv 9), .ref (Ma 8), .int (Mv 10), .ref (Ma 9), .ref (Ma 10), .int (Mv 11), .int (Mv 12), .int (Mv 13), .ref (Ma 11), .int (Mv 14), .ref (Ma 12), .ref (Ma 13), .ref (Ma 14), .ref (Ma 15), .ref (Ma 16), .long (Mj 0), .ref (Ma 17), .ref (Ma 18), .ref (Ma 19), .ref (Ma 20)])), ((Ma 1), .inl (tc 2, 400, .inl (Mf 1))), ((Ma 2), .inl (tc 0, 2400, .inl (Mf 2))), ((Ma 3), .inl (tc 0, 7, .inl g_2)), ((Ma 4), .inl (tc 0, 288, .inl (Mf 4))), ((Ma 5), .inl (tc 0, 6, .inl (Mf 5))), ((Ma 7), .inl (tc 0, 400, .inl (Mf 7)))] H := hP₀
  replace hD : va_D A [((Ma 0), .inr (12, [.ref (Ma 1), .int (Mv 0), .int (Mv 1), .ref (Ma 2), .ref (Ma 3), .ref (Ma 4), .ref (Ma 5), .ref (Ma 6), .int 0, .int (Mv 3), .int (Mv 4), .int (Mv 5), .int (Mv 6), .int (Mv 7), .int 0, .ref (Ma 7), .int (Mv 9), .ref (Ma 8), .int (Mv 10), .ref (Ma 9), .ref (Ma 10), .int (Mv 11), .int (Mv 12), .int (Mv 13), .ref (Ma 11), .int (Mv 14), .ref (Ma 12), .ref (Ma 13), .ref (Ma 14), .ref (Ma 15), .ref (Ma 16), .long (Mj 0), .ref (Ma 17), .ref (Ma 18), .ref (Ma 19), .ref (Ma 20)])), ((Ma 1), .inl (tc 2, 400, .inl (Mf 1))), ((Ma 2), .inl (tc 0, 2400, .inl (Mf 2))), ((Ma 3), .inl (tc 0, 7, .inl g_2)), ((Ma 4), .inl (tc 0, 288, .inl (Mf 4))), ((Ma 5), .inl (tc 0, 6, .inl (Mf 5))), ((Ma 7), .inl (tc 0, 400, .inl (Mf 7)))] := hD₀
  replace hS := hS₀
  clear hP₀ hD₀ hS₀
  refine lv_aload_n hx hb dX12_readsAll_20 rfl (lv_at hl 0 rfl) ?_
  refine lv_iconst (v := 0) hx hb dX12_readsAll_21 (by decide) ?_
  refine pf_X12_84 hx hb hts hown hK hP hD hS 0 rfl (Nat.le_of_ble_eq_true rfl) rfl rfl dX12_readsAll_22 (fun H locs hP₀ hD₀ hS₀ => ?_)
  replace hP : va_P D classes [((Ma 0), .inr (12, [.ref (Ma 1), .int (Mv 0), .int (Mv 1), .ref (Ma 2), .ref (Ma 3), .ref (Ma 4), .ref (Ma 5), .ref (Ma 6), .int 0, .int 0, .int (Mv 4), .int (Mv 5), .int (Mv 6), .int (Mv 7), .int 0, .ref (Ma 7), .int (Mv 9), .ref (Ma 8), .int (Mv 10), .ref (Ma 9), .ref (Ma 10), .int (Mv 11), .int (Mv 12), .int (Mv 13), .ref (Ma 11), .int (Mv 14), .ref (Ma 12), .ref (Ma 13), .ref (Ma 14), .ref (Ma 15), .ref (Ma 16), .long (Mj 0), .ref (Ma 17), .ref (Ma 18), .ref (Ma 19), .ref (Ma 20)])), ((Ma 1), .inl (tc 2, 400, .inl (Mf 1))), ((Ma 2), .inl (tc 0, 2400, .inl (Mf 2))), ((Ma 3), .inl (tc 0, 7, .inl g_2)), ((Ma 4), .inl (tc 0, 288, .inl (Mf 4))), ((Ma 5), .inl (tc 0, 6, .inl (Mf 5))), ((Ma 7), .inl (tc 0, 400, .inl (Mf 7)))] H := hP₀
  replace hD : va_D A [((Ma 0), .inr (12, [.ref (Ma 1), .int (Mv 0), .int (Mv 1), .ref (Ma 2), .ref (Ma 3), .ref (Ma 4), .ref (Ma 5), .ref (Ma 6), .int 0, .int 0, .int (Mv 4), .int (Mv 5), .int (Mv 6), .int (Mv 7), .int 0, .ref (Ma 7), .int (Mv 9), .ref (Ma 8), .int (Mv 10), .ref (Ma 9), .ref (Ma 10), .int (Mv 11), .int (Mv 12), .int (Mv 13), .ref (Ma 11), .int (Mv 14), .ref (Ma 12), .ref (Ma 13), .ref (Ma 14), .ref (Ma 15), .ref (Ma 16), .long (Mj 0), .ref (Ma 17), .ref (Ma 18), .ref (Ma 19), .ref (Ma 20)])), ((Ma 1), .inl (tc 2, 400, .inl (Mf 1))), ((Ma 2), .inl (tc 0, 2400, .inl (Mf 2))), ((Ma 3), .inl (tc 0, 7, .inl g_2)), ((Ma 4), .inl (tc 0, 288, .inl (Mf 4))), ((Ma 5), .inl (tc 0, 6, .inl (Mf 5))), ((Ma 7), .inl (tc 0, 400, .inl (Mf 7)))] := hD₀
  replace hS := hS₀
  clear hP₀ hD₀ hS₀
  refine lv_aload_n hx hb dX12_readsAll_25 rfl (lv_at hl 0 rfl) ?_
  refine lv_iconst (v := 0) hx hb dX12_readsAll_26 (by decide) ?_
  refine pf_X12_148 hx hb hts hown hK hP hD hS 0 rfl (Nat.le_of_ble_eq_true rfl) rfl rfl dX12_readsAll_27 (fun H locs hP₀ hD₀ hS₀ => ?_)
  replace hP : va_P D classes [((Ma 0), .inr (12, [.ref (Ma 1), .int (Mv 0), .int (Mv 1), .ref (Ma 2), .ref (Ma 3), .ref (Ma 4), .ref (Ma 5), .ref (Ma 6), .int 0, .int 0, .int (Mv 4), .int (Mv 5), .int 0, .int (Mv 7), .int 0, .ref (Ma 7), .int (Mv 9), .ref (Ma 8), .int (Mv 10), .ref (Ma 9), .ref (Ma 10), .int (Mv 11), .int (Mv 12), .int (Mv 13), .ref (Ma 11), .int (Mv 14), .ref (Ma 12), .ref (Ma 13), .ref (Ma 14), .ref (Ma 15), .ref (Ma 16), .long (Mj 0), .ref (Ma 17), .ref (Ma 18), .ref (Ma 19), .ref (Ma 20)])), ((Ma 1), .inl (tc 2, 400, .inl (Mf 1))), ((Ma 2), .inl (tc 0, 2400, .inl (Mf 2))), ((Ma 3), .inl (tc 0, 7, .inl g_2)), ((Ma 4), .inl (tc 0, 288, .inl (Mf 4))), ((Ma 5), .inl (tc 0, 6, .inl (Mf 5))), ((Ma 7), .inl (tc 0, 400, .inl (Mf 7)))] H := hP₀
  replace hD : va_D A [((Ma 0), .inr (12, [.ref (Ma 1), .int (Mv 0), .int (Mv 1), .ref (Ma 2), .ref (Ma 3), .ref (Ma 4), .ref (Ma 5), .ref (Ma 6), .int 0, .int 0, .int (Mv 4), .int (Mv 5), .int 0, .int (Mv 7), .int 0, .ref (Ma 7), .int (Mv 9), .ref (Ma 8), .int (Mv 10), .ref (Ma 9), .ref (Ma 10), .int (Mv 11), .int (Mv 12), .int (Mv 13), .ref (Ma 11), .int (Mv 14), .ref (Ma 12), .ref (Ma 13), .ref (Ma 14), .ref (Ma 15), .ref (Ma 16), .long (Mj 0), .ref (Ma 17), .ref (Ma 18), .ref (Ma 19), .ref (Ma 20)])), ((Ma 1), .inl (tc 2, 400, .inl (Mf 1))), ((Ma 2), .inl (tc 0, 2400, .inl (Mf 2))), ((Ma 3), .inl (tc 0, 7, .inl g_2)), ((Ma 4), .inl (tc 0, 288, .inl (Mf 4))), ((Ma 5), .inl (tc 0, 6, .inl (Mf 5))), ((Ma 7), .inl (tc 0, 400, .inl (Mf 7)))] := hD₀
  replace hS := hS₀
  clear hP₀ hD₀ hS₀
  refine lv_aload_n hx hb dX12_readsAll_30 rfl (lv_at hl 0 rfl) ?_
  have hr_5 : 0 ≤ ((g_2 (Mv 5).toNatClampNeg).toInt) := by
    omega
  have ha_6 : 0 ≤ ((0 : Int32) : Int32).toInt ∧ ((0 : Int32) : Int32).toInt ≤ ((Mv 0) : Int32).toInt ∧ ((Mv 0) : Int32).toInt ≤ 400 := by
    have y_0 : (0 : Int32).toInt = 0 := by decide
    omega
  have ha_7 : 0 ≤ ((0 : Int32) : Int32).toInt ∧ ((0 : Int32) : Int32).toInt ≤ 60 := by
    have y_0 : (0 : Int32).toInt = 0 := by decide
    omega
  have ha_8 : 0 ≤ (g_2 (Mv 5).toNatClampNeg).toInt ∧ (g_2 (Mv 5).toNatClampNeg).toInt ≤ ((0 : Int32) : Int32).toInt := by
    have y_0 : (0 : Int32).toInt = 0 := by decide
    omega
  have ha_9 : ((Mf 5) (Mv 5).toInt.toNat).toInt = ((0 : Int32) : Int32).toInt ∧ 0 ≤ ((0 : Int32) : Int32).toInt ∧ ((0 : Int32) : Int32).toInt ≤ 12 := by
    have y_0 : (0 : Int32).toInt = 0 := by decide
    omega
  have ha_10 : ((0 : Int32) : Int32).toInt = 0 := by
    have y_0 : (0 : Int32).toInt = 0 := by decide
    omega
  refine cV (a := (Ma 0)) (As := []) (rest := []) (wr := []) ⟨hx, hb, hml, hown, hts⟩ hK hX hA (cu_kX12_clauseHere_r l D tc sk (Ma 0) (Ma 1) (Ma 2) (Ma 3) (Ma 4) (Ma 5) (Ma 6) (Ma 7) (Ma 8) (Ma 9) (Ma 10) (Ma 11) (Ma 12) (Ma 13) (Ma 14) (Ma 15) (Ma 16) (Ma 17) (Ma 18) (Ma 19) (Ma 20) (Mv 0) (Mv 1) 0 0 (Mv 4) (Mv 5) 0 (Mv 7) 0 (Mv 9) (Mv 10) (Mv 11) (Mv 12) (Mv 13) (Mv 14) (Mf 1) (Mf 2) g_2 (Mf 4) (Mf 5) (Mf 7) (Mj 0) ([]) ([]) ha_6 ha_7 h_t ha_8 (RulP.mono h_rp hr_5) ha_9 h_bs ha_10 pf_3 pf_4) k_1207 k_1204 k_1206 k_26 k_106 pl_X12_clauseHere ⟨Nat.le_of_ble_eq_true rfl, Nat.le_of_ble_eq_true rfl⟩ rfl rfl (va_recv hK hP (ci := 12) (q0 := 0) rfl rfl) hP hD hS [0, 1, 2, 3, 4, 5, 6] [] rfl rfl rfl rfl rfl (by decide) rfl hl.1 rfl (Nat.le_of_ble_eq_true rfl) dX12_readsAll_31 ⟨Nat.le_of_ble_eq_true rfl, Nat.le_of_ble_eq_true rfl⟩ (fun v_11 u_12 H locs hv_13 hP₀ hD₀ hS₀ => ?_)
  obtain ⟨sv_14, sv_15, sv_16, sv_17, sv_18, sv_19, sv_20, sv_21, sv_22, sv_23, sv_24, sv_25⟩ := u_12
  obtain ⟨r_32, rfl, he_33, pf_26, pf_27, pf_28, pf_29, pf_30, pf_31, hm_35, hm_36⟩ := hv_13
  have he_33 : ((r_32.toInt = 0 ∧ ¬ (sv_15 : Int32).toInt = 0) ∨ (r_32.toInt = 1 ∧ 0 ≤ (sv_22 (Mv 5).toNatClampNeg).toInt ∧ (sv_22 (Mv 5).toNatClampNeg).toInt ≤ (sv_14 : Int32).toInt ∧ (sv_24 (Mv 5).toInt.toNat).toInt = (sv_19 : Int32).toInt ∧ 0 ≤ (sv_19 : Int32).toInt ∧ (sv_19 : Int32).toInt ≤ 12 ∧ (sv_19 : Int32).toInt = (0 : Int32).toInt + 1 ∧ (sv_15 : Int32).toInt = 0)) := he_33
  have pf_26 : ((0 : Int32) : Int32).toInt ≤ (sv_14 : Int32).toInt ∧ (sv_14 : Int32).toInt ≤ ((Mv 0) : Int32).toInt := pf_26
  have pf_27 : ((0 : Int32) : Int32).toInt ≤ (sv_17 : Int32).toInt ∧ (sv_17 : Int32).toInt ≤ 60 := pf_27
  have pf_28 : RulD sv_21 sv_23 sv_24 (Mv 5) := pf_28
  have pf_29 : Agr (Mf 2) sv_21 (400 * ((Mv 5) : Int32).toInt) := pf_29
  have hr_38 : 400 * ((Mv 5) : Int32).toInt + 0 ≤ (400 * ((Mv 5) : Int32).toInt) ∧ 0 ≤ ((Mv 5) : Int32).toInt ∧ (0 : Int) ≤ 0 := by
    omega
  have pf_37 : RulP sv_21 (Mf 4) (Mf 5) (Mv 5) 0 := RulP.agr h_rp pf_29 hr_38.2.1 hr_38.1 hr_38.2.2
  have ar_pf_37 := pf_37.2.1
  have pf_30 : Agr (Mf 4) sv_23 (48 * ((Mv 5) : Int32).toInt) := pf_30
  have pf_31 : Agr (Mf 5) sv_24 ((Mv 5) : Int32).toInt := pf_31
  refine W.eq (g2 := F0 m 34 ls [.int r_32]) rfl ?_
  replace hP : va_P D classes [((Ma 0), .inr (12, [.ref (Ma 1), .int (Mv 0), .int (Mv 1), .ref (Ma 2), .ref (Ma 3), .ref (Ma 4), .ref (Ma 5), .ref (Ma 6), .int sv_14, .int sv_15, .int sv_16, .int (Mv 5), .int sv_17, .int sv_18, .int sv_19, .ref (Ma 7), .int sv_20, .ref (Ma 8), .int (Mv 10), .ref (Ma 9), .ref (Ma 10), .int (Mv 11), .int (Mv 12), .int (Mv 13), .ref (Ma 11), .int (Mv 14), .ref (Ma 12), .ref (Ma 13), .ref (Ma 14), .ref (Ma 15), .ref (Ma 16), .long (Mj 0), .ref (Ma 17), .ref (Ma 18), .ref (Ma 19), .ref (Ma 20)])), ((Ma 1), .inl (tc 2, 400, .inl (Mf 1))), ((Ma 2), .inl (tc 0, 2400, .inl sv_21)), ((Ma 3), .inl (tc 0, 7, .inl sv_22)), ((Ma 4), .inl (tc 0, 288, .inl sv_23)), ((Ma 5), .inl (tc 0, 6, .inl sv_24)), ((Ma 7), .inl (tc 0, 400, .inl sv_25))] H := hP₀
  replace hD : va_D A [((Ma 0), .inr (12, [.ref (Ma 1), .int (Mv 0), .int (Mv 1), .ref (Ma 2), .ref (Ma 3), .ref (Ma 4), .ref (Ma 5), .ref (Ma 6), .int sv_14, .int sv_15, .int sv_16, .int (Mv 5), .int sv_17, .int sv_18, .int sv_19, .ref (Ma 7), .int sv_20, .ref (Ma 8), .int (Mv 10), .ref (Ma 9), .ref (Ma 10), .int (Mv 11), .int (Mv 12), .int (Mv 13), .ref (Ma 11), .int (Mv 14), .ref (Ma 12), .ref (Ma 13), .ref (Ma 14), .ref (Ma 15), .ref (Ma 16), .long (Mj 0), .ref (Ma 17), .ref (Ma 18), .ref (Ma 19), .ref (Ma 20)])), ((Ma 1), .inl (tc 2, 400, .inl (Mf 1))), ((Ma 2), .inl (tc 0, 2400, .inl sv_21)), ((Ma 3), .inl (tc 0, 7, .inl sv_22)), ((Ma 4), .inl (tc 0, 288, .inl sv_23)), ((Ma 5), .inl (tc 0, 6, .inl sv_24)), ((Ma 7), .inl (tc 0, 400, .inl sv_25))] := hD₀
  replace hS := hS₀
  clear hP₀ hD₀ hS₀
  refine lv_istore_n (lv' := [(1, .int r_32), (0, .ref (Ma 0))]) hx hb dX12_readsAll_34 rfl hl (by decide) rfl (fun ls hl₀ => ?_)
  replace hl := hl₀
  clear hl₀
  have loop_67 : ∀ (n_65 : Nat) (vy_52 : Int32) (vy_53 : Int32) (vy_54 : Int32) (vy_55 : Int32) (vy_56 : Int32) (vy_57 : Int32) (vy_58 : Int32) (vy_59 : Int32) (vy_60 : Nat → Int32) (vy_61 : Nat → Int32) (vy_62 : Nat → Int32) (vy_63 : Nat → Int32) (vy_64 : Nat → Int32) (H : Heap) (locs : List Loc) (ls : Array Slot), (2 * (401 - (vy_53 : Int32).toInt) + (vy_52 : Int32).toInt).toNat < n_65 → (0 ≤ (vy_53 : Int32).toInt ∧ (vy_53 : Int32).toInt ≤ ((Mv 0) : Int32).toInt ∧ ((Mv 0) : Int32).toInt ≤ 400) → (0 ≤ (vy_56 : Int32).toInt ∧ (vy_56 : Int32).toInt ≤ 60) → ((((vy_52 : Int32).toInt = 0 ∧ ¬ (vy_54 : Int32).toInt = 0) ∨ ((vy_52 : Int32).toInt = 1 ∧ 0 ≤ (vy_61 (Mv 5).toNatClampNeg).toInt ∧ (vy_61 (Mv 5).toNatClampNeg).toInt ≤ (vy_53 : Int32).toInt ∧ (vy_63 (Mv 5).toInt.toNat).toInt = (vy_58 : Int32).toInt ∧ 0 ≤ (vy_58 : Int32).toInt ∧ (vy_58 : Int32).toInt ≤ 12 ∧ (vy_54 : Int32).toInt = 0))) → (RuG vy_60 vy_62 vy_63 (Mv 5) ((vy_61 (Mv 5).toNatClampNeg).toInt) vy_52) → (RulD vy_60 vy_62 vy_63 (Mv 5)) → (Agr (Mf 2) vy_60 (400 * ((Mv 5) : Int32).toInt)) → (Agr (Mf 4) vy_62 (48 * ((Mv 5) : Int32).toInt)) → (Agr (Mf 5) vy_63 ((Mv 5) : Int32).toInt) → (RaL (rB (Mf 1) (Mv 0)) vy_53 vy_56 vy_58 vy_54 vy_52) → (RaK (rB (Mf 1) (Mv 0)) vy_60 vy_61 vy_62 vy_63 (Mv 5) vy_53 vy_56 vy_58 vy_52) → va_P D classes [((Ma 0), .inr (12, [.ref (Ma 1), .int (Mv 0), .int (Mv 1), .ref (Ma 2), .ref (Ma 3), .ref (Ma 4), .ref (Ma 5), .ref (Ma 6), .int vy_53, .int vy_54, .int vy_55, .int (Mv 5), .int vy_56, .int vy_57, .int vy_58, .ref (Ma 7), .int vy_59, .ref (Ma 8), .int (Mv 10), .ref (Ma 9), .ref (Ma 10), .int (Mv 11), .int (Mv 12), .int (Mv 13), .ref (Ma 11), .int (Mv 14), .ref (Ma 12), .ref (Ma 13), .ref (Ma 14), .ref (Ma 15), .ref (Ma 16), .long (Mj 0), .ref (Ma 17), .ref (Ma 18), .ref (Ma 19), .ref (Ma 20)])), ((Ma 1), .inl (tc 2, 400, .inl (Mf 1))), ((Ma 2), .inl (tc 0, 2400, .inl vy_60)), ((Ma 3), .inl (tc 0, 7, .inl vy_61)), ((Ma 4), .inl (tc 0, 288, .inl vy_62)), ((Ma 5), .inl (tc 0, 6, .inl vy_63)), ((Ma 7), .inl (tc 0, 400, .inl vy_64))] H → va_D A [((Ma 0), .inr (12, [.ref (Ma 1), .int (Mv 0), .int (Mv 1), .ref (Ma 2), .ref (Ma 3), .ref (Ma 4), .ref (Ma 5), .ref (Ma 6), .int vy_53, .int vy_54, .int vy_55, .int (Mv 5), .int vy_56, .int vy_57, .int vy_58, .ref (Ma 7), .int vy_59, .ref (Ma 8), .int (Mv 10), .ref (Ma 9), .ref (Ma 10), .int (Mv 11), .int (Mv 12), .int (Mv 13), .ref (Ma 11), .int (Mv 14), .ref (Ma 12), .ref (Ma 13), .ref (Ma 14), .ref (Ma 15), .ref (Ma 16), .long (Mj 0), .ref (Ma 17), .ref (Ma 18), .ref (Ma 19), .ref (Ma 20)])), ((Ma 1), .inl (tc 2, 400, .inl (Mf 1))), ((Ma 2), .inl (tc 0, 2400, .inl vy_60)), ((Ma 3), .inl (tc 0, 7, .inl vy_61)), ((Ma 4), .inl (tc 0, 288, .inl vy_62)), ((Ma 5), .inl (tc 0, 6, .inl vy_63)), ((Ma 7), .inl (tc 0, 400, .inl vy_64))] → va_S A s.heap H locs → lv_has ls 2 [(1, .int vy_52), (0, .ref (Ma 0))] → W p l e ({ frames := 11, cells := 0, slots := 0, locals := 241 }) s m ([.ref (Ma 0)].toArray) below meth c H locs 0 0 (MQ below (QW (fun (v : Option Value) (u : (Int32) × (Int32) × (Int32) × (Int32) × (Int32) × (Int32) × (Int32) × (Nat → Int32) × (Nat → Int32) × (Nat → Int32) × (Nat → Int32) × (Nat → Int32)) => match u with | (oo0x1, oo0x2, oo0x3, oo0x4, oo0x5, oo0x6, oo0x7, oo0x8, oo0x9, oo0x10, oo0x11, oo0x12) => ∃ r : Int32, v = some (.int r) ∧ (((r.toInt = 0 ∧ ¬ (oo0x2 : Int32).toInt = 0) ∨ (r.toInt = 1 ∧ (oo0x2 : Int32).toInt = 0 ∧ (oo0x11 (Mv 5).toInt.toNat).toInt ≤ 12))) ∧ (RulD oo0x8 oo0x10 oo0x11 (Mv 5)) ∧ (RuE (rB (Mf 1) (Mv 0)) oo0x2) ∧ (Agr (Mf 2) oo0x8 (400 * ((Mv 5) : Int32).toInt)) ∧ (Agr (Mf 4) oo0x10 (48 * ((Mv 5) : Int32).toInt)) ∧ (Agr (Mf 5) oo0x11 ((Mv 5) : Int32).toInt) ∧ (r.toInt = 1 → (RulP oo0x8 oo0x10 oo0x11 (Mv 5) ((oo0x9 (Mv 5).toNatClampNeg).toInt)) ∧ (RwK oo0x8 oo0x9 oo0x10 oo0x11 (Mv 5) (ru_of (rB (Mf 1) (Mv 0)))))) (BW D (fun (u : (Int32) × (Int32) × (Int32) × (Int32) × (Int32) × (Int32) × (Int32) × (Nat → Int32) × (Nat → Int32) × (Nat → Int32) × (Nat → Int32) × (Nat → Int32)) => match u with | (oo0x1, oo0x2, oo0x3, oo0x4, oo0x5, oo0x6, oo0x7, oo0x8, oo0x9, oo0x10, oo0x11, oo0x12) => [((Ma 0), .inr (12, [.ref (Ma 1), .int 0, .int (Mv 1), .ref (Ma 2), .ref (Ma 3), .ref (Ma 4), .ref (Ma 5), .ref (Ma 6), .int oo0x1, .int oo0x2, .int oo0x3, .int (Mv 5), .int oo0x4, .int oo0x5, .int oo0x6, .ref (Ma 7), .int oo0x7, .ref (Ma 8), .int (Mv 10), .ref (Ma 9), .ref (Ma 10), .int (Mv 11), .int (Mv 12), .int (Mv 13), .ref (Ma 11), .int (Mv 14), .ref (Ma 12), .ref (Ma 13), .ref (Ma 14), .ref (Ma 15), .ref (Ma 16), .long (Mj 0), .ref (Ma 17), .ref (Ma 18), .ref (Ma 19), .ref (Ma 20)])), ((Ma 1), .inl (tc 2, 400, .inl (Mf 1))), ((Ma 2), .inl (tc 0, 2400, .inl oo0x8)), ((Ma 3), .inl (tc 0, 7, .inl oo0x9)), ((Ma 4), .inl (tc 0, 288, .inl oo0x10)), ((Ma 5), .inl (tc 0, 6, .inl oo0x11)), ((Ma 7), .inl (tc 0, 400, .inl oo0x12))]) A) A) ([.ref (Ma 0)].toArray) s 0 0 A) (F0 m 35 ls []) := by
    clear hP hD hS hl
    intro n_65
    induction n_65 with
    | zero =>
      intro vy_52 vy_53 vy_54 vy_55 vy_56 vy_57 vy_58 vy_59 vy_60 vy_61 vy_62 vy_63 vy_64 H locs ls h1
      exact absurd h1 (Nat.not_lt_zero _)
    | succ n_65 ih_66 =>
      intro vy_52 vy_53 vy_54 vy_55 vy_56 vy_57 vy_58 vy_59 vy_60 vy_61 vy_62 vy_63 vy_64 H locs ls hn_78 pf_68 pf_69 pf_70 pf_71 pf_72 pf_73 pf_74 pf_75 pf_76 pf_77 hP hD hS hl
      have hr_80 : 400 * ((Mv 5) : Int32).toInt + 0 ≤ (400 * ((Mv 5) : Int32).toInt) ∧ 0 ≤ ((Mv 5) : Int32).toInt ∧ (0 : Int) ≤ 0 := by
        omega
      have pf_79 : RulP vy_60 (Mf 4) (Mf 5) (Mv 5) 0 := RulP.agr h_rp pf_73 hr_80.2.1 hr_80.1 hr_80.2.2
      have ar_pf_79 := pf_79.2.1
      refine lv_iload_n hx hb dX12_readsAll_35 rfl (lv_at hl 0 rfl) ?_
      refine lv_if_eq (tgt := 66) hx hb dX12_readsAll_36 (by decide) (fun c_81 => ?_) (fun c_81 => ?_)
      · skip
        refine lv_iload_n hx hb dX12_readsAll_66 rfl (lv_at hl 0 rfl) ?_
        refine lv_if_eq (tgt := 88) hx hb dX12_readsAll_67 (by decide) (fun c_82 => ?_) (fun c_82 => ?_)
        · skip
          refine lv_aload_n hx hb dX12_readsAll_88 rfl (lv_at hl 1 rfl) ?_
          refine lv_iconst (v := 0) hx hb dX12_readsAll_89 (by decide) ?_
          refine pf_X12_77 hx hb hts hown hK hP hD hS 0 rfl (Nat.le_of_ble_eq_true rfl) rfl rfl dX12_readsAll_90 (fun H locs hP₀ hD₀ hS₀ => ?_)
          replace hP : va_P D classes [((Ma 0), .inr (12, [.ref (Ma 1), .int 0, .int (Mv 1), .ref (Ma 2), .ref (Ma 3), .ref (Ma 4), .ref (Ma 5), .ref (Ma 6), .int vy_53, .int vy_54, .int vy_55, .int (Mv 5), .int vy_56, .int vy_57, .int vy_58, .ref (Ma 7), .int vy_59, .ref (Ma 8), .int (Mv 10), .ref (Ma 9), .ref (Ma 10), .int (Mv 11), .int (Mv 12), .int (Mv 13), .ref (Ma 11), .int (Mv 14), .ref (Ma 12), .ref (Ma 13), .ref (Ma 14), .ref (Ma 15), .ref (Ma 16), .long (Mj 0), .ref (Ma 17), .ref (Ma 18), .ref (Ma 19), .ref (Ma 20)])), ((Ma 1), .inl (tc 2, 400, .inl (Mf 1))), ((Ma 2), .inl (tc 0, 2400, .inl vy_60)), ((Ma 3), .inl (tc 0, 7, .inl vy_61)), ((Ma 4), .inl (tc 0, 288, .inl vy_62)), ((Ma 5), .inl (tc 0, 6, .inl vy_63)), ((Ma 7), .inl (tc 0, 400, .inl vy_64))] H := hP₀
          replace hD : va_D A [((Ma 0), .inr (12, [.ref (Ma 1), .int 0, .int (Mv 1), .ref (Ma 2), .ref (Ma 3), .ref (Ma 4), .ref (Ma 5), .ref (Ma 6), .int vy_53, .int vy_54, .int vy_55, .int (Mv 5), .int vy_56, .int vy_57, .int vy_58, .ref (Ma 7), .int vy_59, .ref (Ma 8), .int (Mv 10), .ref (Ma 9), .ref (Ma 10), .int (Mv 11), .int (Mv 12), .int (Mv 13), .ref (Ma 11), .int (Mv 14), .ref (Ma 12), .ref (Ma 13), .ref (Ma 14), .ref (Ma 15), .ref (Ma 16), .long (Mj 0), .ref (Ma 17), .ref (Ma 18), .ref (Ma 19), .ref (Ma 20)])), ((Ma 1), .inl (tc 2, 400, .inl (Mf 1))), ((Ma 2), .inl (tc 0, 2400, .inl vy_60)), ((Ma 3), .inl (tc 0, 7, .inl vy_61)), ((Ma 4), .inl (tc 0, 288, .inl vy_62)), ((Ma 5), .inl (tc 0, 6, .inl vy_63)), ((Ma 7), .inl (tc 0, 400, .inl vy_64))] := hD₀
          replace hS := hS₀
          clear hP₀ hD₀ hS₀
          refine lv_aload_n hx hb dX12_readsAll_93 rfl (lv_at hl 1 rfl) ?_
          refine gf_X12_84 hx hb hts hown hK hP 0 rfl rfl dX12_readsAll_94 ?_
          refine lv_if_ne (tgt := 104) hx hb dX12_readsAll_97 (by decide) (fun c_83 => ?_) (fun c_83 => ?_)
          · skip
            refine lv_iconst (v := 0) hx hb dX12_readsAll_104 (by decide) ?_
            have hr_84 : (vy_52 : Int32).toInt = 0 := by
              have z_1 := congrArg Int32.toInt c_81
              have z_2 := congrArg Int32.toInt c_82
              have z_3 : ¬ (vy_54 : Int32).toInt = (0 : Int32).toInt := fun z => c_83 (Int32.toInt_inj.mp z)
              have y_0 : (0 : Int32).toInt = 0 := by decide
              omega
            have hr_85 : ¬ (vy_54 : Int32).toInt = 0 := by
              have z_1 := congrArg Int32.toInt c_81
              have z_2 := congrArg Int32.toInt c_82
              have z_3 : ¬ (vy_54 : Int32).toInt = (0 : Int32).toInt := fun z => c_83 (Int32.toInt_inj.mp z)
              have y_0 : (0 : Int32).toInt = 0 := by decide
              omega
            have hp_86 : (((0 : Int32).toInt = 0 ∧ ¬ (vy_54 : Int32).toInt = 0) ∨ ((0 : Int32).toInt = 1 ∧ (vy_54 : Int32).toInt = 0 ∧ (vy_63 (Mv 5).toInt.toNat).toInt ≤ 12)) := by
              have z_1 := congrArg Int32.toInt c_81
              have z_2 := congrArg Int32.toInt c_82
              have z_3 : ¬ (vy_54 : Int32).toInt = (0 : Int32).toInt := fun z => c_83 (Int32.toInt_inj.mp z)
              have y_0 : (0 : Int32).toInt = 0 := by decide
              omega
            exact retI (v := 0) hx hb hr hlk (rfl) hP hD hS (vy_53, vy_54, vy_55, vy_56, vy_57, vy_58, vy_59, vy_60, vy_61, vy_62, vy_63, vy_64) ⟨_, rfl, hp_86, pf_72, (RuE.bad pf_76 hr_84 hr_85), pf_73, pf_74, pf_75, (fun h => absurd h (by decide))⟩ [0, 1, 2, 3, 4, 5, 6] rfl rfl dX12_readsAll_105 (Nat.le_of_ble_eq_true rfl) (Nat.le_of_ble_eq_true rfl) rfl
          · skip
            refine lv_iconst (v := 1) hx hb dX12_readsAll_100 (by decide) ?_
            refine lv_goto (tgt := 105) hx hb dX12_readsAll_101 (by decide) ?_
            have hr_87 : (vy_52 : Int32).toInt = 0 := by
              have z_1 := congrArg Int32.toInt c_81
              have z_2 := congrArg Int32.toInt c_82
              have z_3 := congrArg Int32.toInt c_83
              have y_0 : (0 : Int32).toInt = 0 := by decide
              omega
            have hr_88 : ¬ (vy_54 : Int32).toInt = 0 := by
              have z_1 := congrArg Int32.toInt c_81
              have z_2 := congrArg Int32.toInt c_82
              have z_3 := congrArg Int32.toInt c_83
              have y_0 : (0 : Int32).toInt = 0 := by decide
              omega
            have hp_89 : (((1 : Int32).toInt = 0 ∧ ¬ (vy_54 : Int32).toInt = 0) ∨ ((1 : Int32).toInt = 1 ∧ (vy_54 : Int32).toInt = 0 ∧ (vy_63 (Mv 5).toInt.toNat).toInt ≤ 12)) := by
              have z_1 := congrArg Int32.toInt c_81
              have z_2 := congrArg Int32.toInt c_82
              have z_3 := congrArg Int32.toInt c_83
              have y_0 : (0 : Int32).toInt = 0 := by decide
              have y_1 : (1 : Int32).toInt = 1 := by decide
              have yr : (1 : Int32).toInt = 1 := by decide
              omega
            have hm_90 : (1 : Int32).toInt = 1 → (RulP vy_60 vy_62 vy_63 (Mv 5) ((vy_61 (Mv 5).toNatClampNeg).toInt)) ∧ (RwK vy_60 vy_61 vy_62 vy_63 (Mv 5) (ru_of (rB (Mf 1) (Mv 0)))) := by
              intro h1r
              have hf_91 : False := by
                have z_1 := congrArg Int32.toInt c_81
                have z_2 := congrArg Int32.toInt c_82
                have z_3 := congrArg Int32.toInt c_83
                have y_0 : (0 : Int32).toInt = 0 := by decide
                omega
              have hf_92 : False := by
                have z_1 := congrArg Int32.toInt c_81
                have z_2 := congrArg Int32.toInt c_82
                have z_3 := congrArg Int32.toInt c_83
                have y_0 : (0 : Int32).toInt = 0 := by decide
                omega
              exact ⟨(hf_91.elim), (hf_92.elim)⟩
            exact retI (v := 1) hx hb hr hlk (rfl) hP hD hS (vy_53, vy_54, vy_55, vy_56, vy_57, vy_58, vy_59, vy_60, vy_61, vy_62, vy_63, vy_64) ⟨_, rfl, hp_89, pf_72, (RuE.bad pf_76 hr_87 hr_88), pf_73, pf_74, pf_75, hm_90⟩ [0, 1, 2, 3, 4, 5, 6] rfl rfl dX12_readsAll_105 (Nat.le_of_ble_eq_true rfl) (Nat.le_of_ble_eq_true rfl) rfl
        · skip
          exfalso
          have z_1 := congrArg Int32.toInt c_81
          have z_2 : ¬ (vy_52 : Int32).toInt = (0 : Int32).toInt := fun z => c_82 (Int32.toInt_inj.mp z)
          have y_0 : (0 : Int32).toInt = 0 := by decide
          omega
      · skip
        have hr_94 : (vy_52 : Int32).toInt = 1 := by
          have z_1 : ¬ (vy_52 : Int32).toInt = (0 : Int32).toInt := fun z => c_81 (Int32.toInt_inj.mp z)
          have y_0 : (0 : Int32).toInt = 0 := by decide
          omega
        have pf_93 : RulP vy_60 vy_62 vy_63 (Mv 5) ((vy_61 (Mv 5).toNatClampNeg).toInt) := pf_71 hr_94
        have ar_pf_93 := pf_93.2.1
        refine lv_aload_n hx hb dX12_readsAll_39 rfl (lv_at hl 1 rfl) ?_
        refine cV (a := (Ma 0)) (As := []) (rest := []) (wr := [((Ma 2), .inl (tc 0, 2400, .inl vy_60)), ((Ma 3), .inl (tc 0, 7, .inl vy_61)), ((Ma 4), .inl (tc 0, 288, .inl vy_62)), ((Ma 5), .inl (tc 0, 6, .inl vy_63)), ((Ma 7), .inl (tc 0, 400, .inl vy_64))]) ⟨hx, hb, hml, hown, hts⟩ hK hX hA (cu_fX12_see l D tc sk (Ma 0) (Ma 1) (Ma 2) (Ma 3) (Ma 4) (Ma 5) (Ma 6) (Ma 7) (Ma 8) (Ma 9) (Ma 10) (Ma 11) (Ma 12) (Ma 13) (Ma 14) (Ma 15) (Ma 16) (Ma 17) (Ma 18) (Ma 19) (Ma 20) (Mv 0) (Mv 1) vy_53 vy_54 vy_55 (Mv 5) vy_56 vy_57 vy_58 vy_59 (Mv 10) (Mv 11) (Mv 12) (Mv 13) (Mv 14) (Mf 1) (Mj 0) pf_68 h_bs) k_1211 k_1208 k_1210 k_27 k_106 pl_X12_see ⟨Nat.le_of_ble_eq_true rfl, Nat.le_of_ble_eq_true rfl⟩ rfl rfl (va_recv hK hP (ci := 12) (q0 := 0) rfl rfl) hP hD hS [0, 1] [2, 3, 4, 5, 6] rfl rfl rfl rfl rfl (by decide) rfl hl.1 rfl (Nat.le_of_ble_eq_true rfl) dX12_readsAll_40 ⟨Nat.le_of_ble_eq_true rfl, Nat.le_of_ble_eq_true rfl⟩ (fun v_95 u_96 H locs hv_97 hP₀ hD₀ hS₀ => ?_)
        obtain ⟨sv_98, rfl⟩ : ∃ z, z = u_96 := ⟨_, rfl⟩
        obtain ⟨r_103, rfl, he_104, pf_99, pf_100, pf_101, pf_102⟩ := hv_97
        have he_104 : (r_103.toInt = rB (Mf 1) (Mv 0) (sv_98 : Int32).toInt.toNat ∧ (r_103.toInt = -1 ∨ (sv_98 : Int32).toInt < (Mv 0).toInt)) := he_104
        have pf_99 : (vy_53 : Int32).toInt ≤ (sv_98 : Int32).toInt ∧ (sv_98 : Int32).toInt ≤ ((Mv 0) : Int32).toInt := pf_99
        have pf_100 : NSq (Mf 1) (Mv 0) sv_98 := pf_100
        have pf_101 : Stl (Mf 1) (Mv 0) vy_53 sv_98 := pf_101
        have pf_102 : SkR (rB (Mf 1) (Mv 0)) vy_53 sv_98 := pf_102
        refine W.eq (g2 := F0 m 43 ls [.int r_103]) rfl ?_
        replace hP : va_P D classes [((Ma 2), .inl (tc 0, 2400, .inl vy_60)), ((Ma 3), .inl (tc 0, 7, .inl vy_61)), ((Ma 4), .inl (tc 0, 288, .inl vy_62)), ((Ma 5), .inl (tc 0, 6, .inl vy_63)), ((Ma 7), .inl (tc 0, 400, .inl vy_64)), ((Ma 0), .inr (12, [.ref (Ma 1), .int (Mv 0), .int (Mv 1), .ref (Ma 2), .ref (Ma 3), .ref (Ma 4), .ref (Ma 5), .ref (Ma 6), .int sv_98, .int vy_54, .int vy_55, .int (Mv 5), .int vy_56, .int vy_57, .int vy_58, .ref (Ma 7), .int vy_59, .ref (Ma 8), .int (Mv 10), .ref (Ma 9), .ref (Ma 10), .int (Mv 11), .int (Mv 12), .int (Mv 13), .ref (Ma 11), .int (Mv 14), .ref (Ma 12), .ref (Ma 13), .ref (Ma 14), .ref (Ma 15), .ref (Ma 16), .long (Mj 0), .ref (Ma 17), .ref (Ma 18), .ref (Ma 19), .ref (Ma 20)])), ((Ma 1), .inl (tc 2, 400, .inl (Mf 1)))] H := hP₀
        replace hD : va_D A [((Ma 2), .inl (tc 0, 2400, .inl vy_60)), ((Ma 3), .inl (tc 0, 7, .inl vy_61)), ((Ma 4), .inl (tc 0, 288, .inl vy_62)), ((Ma 5), .inl (tc 0, 6, .inl vy_63)), ((Ma 7), .inl (tc 0, 400, .inl vy_64)), ((Ma 0), .inr (12, [.ref (Ma 1), .int (Mv 0), .int (Mv 1), .ref (Ma 2), .ref (Ma 3), .ref (Ma 4), .ref (Ma 5), .ref (Ma 6), .int sv_98, .int vy_54, .int vy_55, .int (Mv 5), .int vy_56, .int vy_57, .int vy_58, .ref (Ma 7), .int vy_59, .ref (Ma 8), .int (Mv 10), .ref (Ma 9), .ref (Ma 10), .int (Mv 11), .int (Mv 12), .int (Mv 13), .ref (Ma 11), .int (Mv 14), .ref (Ma 12), .ref (Ma 13), .ref (Ma 14), .ref (Ma 15), .ref (Ma 16), .long (Mj 0), .ref (Ma 17), .ref (Ma 18), .ref (Ma 19), .ref (Ma 20)])), ((Ma 1), .inl (tc 2, 400, .inl (Mf 1)))] := hD₀
        replace hS := hS₀
        clear hP₀ hD₀ hS₀
        refine lv_bipush (v := 59) hx hb dX12_readsAll_43 (by decide) ?_
        refine lv_icmp_ne (tgt := 66) hx hb dX12_readsAll_45 (by decide) (fun c_106 => ?_) (fun c_106 => ?_)
        · skip
          refine lv_iload_n hx hb dX12_readsAll_66 rfl (lv_at hl 0 rfl) ?_
          refine lv_if_eq (tgt := 88) hx hb dX12_readsAll_67 (by decide) (fun c_107 => ?_) (fun c_107 => ?_)
          · skip
            exfalso
            have z_1 : ¬ (vy_52 : Int32).toInt = (0 : Int32).toInt := fun z => c_81 (Int32.toInt_inj.mp z)
            have z_2 : ¬ (r_103 : Int32).toInt = (59 : Int32).toInt := fun z => c_106 (Int32.toInt_inj.mp z)
            have z_3 := congrArg Int32.toInt c_107
            have y_0 : (0 : Int32).toInt = 0 := by decide
            have y_59 : (59 : Int32).toInt = 59 := by decide
            omega
          · skip
            refine lv_aload_n hx hb dX12_readsAll_70 rfl (lv_at hl 1 rfl) ?_
            have ha_108 : 0 ≤ (sv_98 : Int32).toInt ∧ (sv_98 : Int32).toInt ≤ ((Mv 0) : Int32).toInt ∧ ((Mv 0) : Int32).toInt ≤ 400 := by
              have z_1 : ¬ (vy_52 : Int32).toInt = (0 : Int32).toInt := fun z => c_81 (Int32.toInt_inj.mp z)
              have z_2 : ¬ (r_103 : Int32).toInt = (59 : Int32).toInt := fun z => c_106 (Int32.toInt_inj.mp z)
              have z_3 : ¬ (vy_52 : Int32).toInt = (0 : Int32).toInt := fun z => c_107 (Int32.toInt_inj.mp z)
              have y_0 : (0 : Int32).toInt = 0 := by decide
              have y_59 : (59 : Int32).toInt = 59 := by decide
              omega
            refine cV (a := (Ma 0)) (As := []) (rest := []) (wr := [((Ma 2), .inl (tc 0, 2400, .inl vy_60)), ((Ma 3), .inl (tc 0, 7, .inl vy_61)), ((Ma 4), .inl (tc 0, 288, .inl vy_62)), ((Ma 5), .inl (tc 0, 6, .inl vy_63)), ((Ma 7), .inl (tc 0, 400, .inl vy_64))]) ⟨hx, hb, hml, hown, hts⟩ hK hX hA (cu_fX12_see l D tc sk (Ma 0) (Ma 1) (Ma 2) (Ma 3) (Ma 4) (Ma 5) (Ma 6) (Ma 7) (Ma 8) (Ma 9) (Ma 10) (Ma 11) (Ma 12) (Ma 13) (Ma 14) (Ma 15) (Ma 16) (Ma 17) (Ma 18) (Ma 19) (Ma 20) (Mv 0) (Mv 1) sv_98 vy_54 vy_55 (Mv 5) vy_56 vy_57 vy_58 vy_59 (Mv 10) (Mv 11) (Mv 12) (Mv 13) (Mv 14) (Mf 1) (Mj 0) ha_108 h_bs) k_1211 k_1208 k_1210 k_27 k_106 pl_X12_see ⟨Nat.le_of_ble_eq_true rfl, Nat.le_of_ble_eq_true rfl⟩ rfl rfl (va_recv hK hP (ci := 12) (q0 := 5) rfl rfl) hP hD hS [5, 6] [0, 1, 2, 3, 4] rfl rfl rfl rfl rfl (by decide) rfl hl.1 rfl (Nat.le_of_ble_eq_true rfl) dX12_readsAll_71 ⟨Nat.le_of_ble_eq_true rfl, Nat.le_of_ble_eq_true rfl⟩ (fun v_109 u_110 H locs hv_111 hP₀ hD₀ hS₀ => ?_)
            obtain ⟨sv_112, rfl⟩ : ∃ z, z = u_110 := ⟨_, rfl⟩
            obtain ⟨r_117, rfl, he_118, pf_113, pf_114, pf_115, pf_116⟩ := hv_111
            have he_118 : (r_117.toInt = rB (Mf 1) (Mv 0) (sv_112 : Int32).toInt.toNat ∧ (r_117.toInt = -1 ∨ (sv_112 : Int32).toInt < (Mv 0).toInt)) := he_118
            have pf_113 : (sv_98 : Int32).toInt ≤ (sv_112 : Int32).toInt ∧ (sv_112 : Int32).toInt ≤ ((Mv 0) : Int32).toInt := pf_113
            have pf_114 : NSq (Mf 1) (Mv 0) sv_112 := pf_114
            have pf_115 : Stl (Mf 1) (Mv 0) sv_98 sv_112 := pf_115
            have ar_pf_115 := Stl.or pf_115 pf_100
            have pf_116 : SkR (rB (Mf 1) (Mv 0)) sv_98 sv_112 := pf_116
            refine W.eq (g2 := F0 m 74 ls [.int r_117]) rfl ?_
            replace hP : va_P D classes [((Ma 2), .inl (tc 0, 2400, .inl vy_60)), ((Ma 3), .inl (tc 0, 7, .inl vy_61)), ((Ma 4), .inl (tc 0, 288, .inl vy_62)), ((Ma 5), .inl (tc 0, 6, .inl vy_63)), ((Ma 7), .inl (tc 0, 400, .inl vy_64)), ((Ma 0), .inr (12, [.ref (Ma 1), .int (Mv 0), .int (Mv 1), .ref (Ma 2), .ref (Ma 3), .ref (Ma 4), .ref (Ma 5), .ref (Ma 6), .int sv_112, .int vy_54, .int vy_55, .int (Mv 5), .int vy_56, .int vy_57, .int vy_58, .ref (Ma 7), .int vy_59, .ref (Ma 8), .int (Mv 10), .ref (Ma 9), .ref (Ma 10), .int (Mv 11), .int (Mv 12), .int (Mv 13), .ref (Ma 11), .int (Mv 14), .ref (Ma 12), .ref (Ma 13), .ref (Ma 14), .ref (Ma 15), .ref (Ma 16), .long (Mj 0), .ref (Ma 17), .ref (Ma 18), .ref (Ma 19), .ref (Ma 20)])), ((Ma 1), .inl (tc 2, 400, .inl (Mf 1)))] H := hP₀
            replace hD : va_D A [((Ma 2), .inl (tc 0, 2400, .inl vy_60)), ((Ma 3), .inl (tc 0, 7, .inl vy_61)), ((Ma 4), .inl (tc 0, 288, .inl vy_62)), ((Ma 5), .inl (tc 0, 6, .inl vy_63)), ((Ma 7), .inl (tc 0, 400, .inl vy_64)), ((Ma 0), .inr (12, [.ref (Ma 1), .int (Mv 0), .int (Mv 1), .ref (Ma 2), .ref (Ma 3), .ref (Ma 4), .ref (Ma 5), .ref (Ma 6), .int sv_112, .int vy_54, .int vy_55, .int (Mv 5), .int vy_56, .int vy_57, .int vy_58, .ref (Ma 7), .int vy_59, .ref (Ma 8), .int (Mv 10), .ref (Ma 9), .ref (Ma 10), .int (Mv 11), .int (Mv 12), .int (Mv 13), .ref (Ma 11), .int (Mv 14), .ref (Ma 12), .ref (Ma 13), .ref (Ma 14), .ref (Ma 15), .ref (Ma 16), .long (Mj 0), .ref (Ma 17), .ref (Ma 18), .ref (Ma 19), .ref (Ma 20)])), ((Ma 1), .inl (tc 2, 400, .inl (Mf 1)))] := hD₀
            replace hS := hS₀
            clear hP₀ hD₀ hS₀
            have hE_120 := SkR.eqB pf_102 pf_116
            refine lv_iconst (v := (-1)) hx hb dX12_readsAll_74 (by decide) ?_
            refine lv_icmp_eq (tgt := 88) hx hb dX12_readsAll_75 (by decide) (fun c_121 => ?_) (fun c_121 => ?_)
            · skip
              refine lv_aload_n hx hb dX12_readsAll_88 rfl (lv_at hl 1 rfl) ?_
              refine lv_iconst (v := 0) hx hb dX12_readsAll_89 (by decide) ?_
              refine pf_X12_77 hx hb hts hown hK hP hD hS 5 rfl (Nat.le_of_ble_eq_true rfl) rfl rfl dX12_readsAll_90 (fun H locs hP₀ hD₀ hS₀ => ?_)
              replace hP : va_P D classes [((Ma 2), .inl (tc 0, 2400, .inl vy_60)), ((Ma 3), .inl (tc 0, 7, .inl vy_61)), ((Ma 4), .inl (tc 0, 288, .inl vy_62)), ((Ma 5), .inl (tc 0, 6, .inl vy_63)), ((Ma 7), .inl (tc 0, 400, .inl vy_64)), ((Ma 0), .inr (12, [.ref (Ma 1), .int 0, .int (Mv 1), .ref (Ma 2), .ref (Ma 3), .ref (Ma 4), .ref (Ma 5), .ref (Ma 6), .int sv_112, .int vy_54, .int vy_55, .int (Mv 5), .int vy_56, .int vy_57, .int vy_58, .ref (Ma 7), .int vy_59, .ref (Ma 8), .int (Mv 10), .ref (Ma 9), .ref (Ma 10), .int (Mv 11), .int (Mv 12), .int (Mv 13), .ref (Ma 11), .int (Mv 14), .ref (Ma 12), .ref (Ma 13), .ref (Ma 14), .ref (Ma 15), .ref (Ma 16), .long (Mj 0), .ref (Ma 17), .ref (Ma 18), .ref (Ma 19), .ref (Ma 20)])), ((Ma 1), .inl (tc 2, 400, .inl (Mf 1)))] H := hP₀
              replace hD : va_D A [((Ma 2), .inl (tc 0, 2400, .inl vy_60)), ((Ma 3), .inl (tc 0, 7, .inl vy_61)), ((Ma 4), .inl (tc 0, 288, .inl vy_62)), ((Ma 5), .inl (tc 0, 6, .inl vy_63)), ((Ma 7), .inl (tc 0, 400, .inl vy_64)), ((Ma 0), .inr (12, [.ref (Ma 1), .int 0, .int (Mv 1), .ref (Ma 2), .ref (Ma 3), .ref (Ma 4), .ref (Ma 5), .ref (Ma 6), .int sv_112, .int vy_54, .int vy_55, .int (Mv 5), .int vy_56, .int vy_57, .int vy_58, .ref (Ma 7), .int vy_59, .ref (Ma 8), .int (Mv 10), .ref (Ma 9), .ref (Ma 10), .int (Mv 11), .int (Mv 12), .int (Mv 13), .ref (Ma 11), .int (Mv 14), .ref (Ma 12), .ref (Ma 13), .ref (Ma 14), .ref (Ma 15), .ref (Ma 16), .long (Mj 0), .ref (Ma 17), .ref (Ma 18), .ref (Ma 19), .ref (Ma 20)])), ((Ma 1), .inl (tc 2, 400, .inl (Mf 1)))] := hD₀
              replace hS := hS₀
              clear hP₀ hD₀ hS₀
              refine lv_aload_n hx hb dX12_readsAll_93 rfl (lv_at hl 1 rfl) ?_
              refine gf_X12_84 hx hb hts hown hK hP 5 rfl rfl dX12_readsAll_94 ?_
              refine lv_if_ne (tgt := 104) hx hb dX12_readsAll_97 (by decide) (fun c_122 => ?_) (fun c_122 => ?_)
              · skip
                refine lv_iconst (v := 0) hx hb dX12_readsAll_104 (by decide) ?_
                have hr_123 : (vy_52 : Int32).toInt = 1 := by
                  have z_1 : ¬ (vy_52 : Int32).toInt = (0 : Int32).toInt := fun z => c_81 (Int32.toInt_inj.mp z)
                  have z_2 : ¬ (r_103 : Int32).toInt = (59 : Int32).toInt := fun z => c_106 (Int32.toInt_inj.mp z)
                  have z_3 : ¬ (vy_52 : Int32).toInt = (0 : Int32).toInt := fun z => c_107 (Int32.toInt_inj.mp z)
                  have z_4 := congrArg Int32.toInt c_121
                  have z_5 : ¬ (vy_54 : Int32).toInt = (0 : Int32).toInt := fun z => c_122 (Int32.toInt_inj.mp z)
                  have y_m1 : (-1 : Int32).toInt = -1 := by decide
                  have y_0 : (0 : Int32).toInt = 0 := by decide
                  have y_59 : (59 : Int32).toInt = 59 := by decide
                  omega
                have hr_124 : (rB (Mf 1) (Mv 0) (sv_112 : Int32).toInt.toNat = -1) := by
                  have z_1 : ¬ (vy_52 : Int32).toInt = (0 : Int32).toInt := fun z => c_81 (Int32.toInt_inj.mp z)
                  have z_2 : ¬ (r_103 : Int32).toInt = (59 : Int32).toInt := fun z => c_106 (Int32.toInt_inj.mp z)
                  have z_3 : ¬ (vy_52 : Int32).toInt = (0 : Int32).toInt := fun z => c_107 (Int32.toInt_inj.mp z)
                  have z_4 := congrArg Int32.toInt c_121
                  have z_5 : ¬ (vy_54 : Int32).toInt = (0 : Int32).toInt := fun z => c_122 (Int32.toInt_inj.mp z)
                  have y_m1 : (-1 : Int32).toInt = -1 := by decide
                  have y_0 : (0 : Int32).toInt = 0 := by decide
                  have y_59 : (59 : Int32).toInt = 59 := by decide
                  omega
                have hp_125 : (((0 : Int32).toInt = 0 ∧ ¬ (vy_54 : Int32).toInt = 0) ∨ ((0 : Int32).toInt = 1 ∧ (vy_54 : Int32).toInt = 0 ∧ (vy_63 (Mv 5).toInt.toNat).toInt ≤ 12)) := by
                  have z_1 : ¬ (vy_52 : Int32).toInt = (0 : Int32).toInt := fun z => c_81 (Int32.toInt_inj.mp z)
                  have z_2 : ¬ (r_103 : Int32).toInt = (59 : Int32).toInt := fun z => c_106 (Int32.toInt_inj.mp z)
                  have z_3 : ¬ (vy_52 : Int32).toInt = (0 : Int32).toInt := fun z => c_107 (Int32.toInt_inj.mp z)
                  have z_4 := congrArg Int32.toInt c_121
                  have z_5 : ¬ (vy_54 : Int32).toInt = (0 : Int32).toInt := fun z => c_122 (Int32.toInt_inj.mp z)
                  have y_m1 : (-1 : Int32).toInt = -1 := by decide
                  have y_0 : (0 : Int32).toInt = 0 := by decide
                  have y_59 : (59 : Int32).toInt = 59 := by decide
                  omega
                exact retI (v := 0) hx hb hr hlk (rfl) hP hD hS (sv_112, vy_54, vy_55, vy_56, vy_57, vy_58, vy_59, vy_60, vy_61, vy_62, vy_63, vy_64) ⟨_, rfl, hp_125, pf_72, (RuE.end pf_76 hr_123 (SkR.trans pf_102 pf_116) hr_124), pf_73, pf_74, pf_75, (fun h => absurd h (by decide))⟩ [5, 6, 0, 1, 2, 3, 4] rfl rfl dX12_readsAll_105 (Nat.le_of_ble_eq_true rfl) (Nat.le_of_ble_eq_true rfl) rfl
              · skip
                refine lv_iconst (v := 1) hx hb dX12_readsAll_100 (by decide) ?_
                refine lv_goto (tgt := 105) hx hb dX12_readsAll_101 (by decide) ?_
                have hr_126 : (vy_52 : Int32).toInt = 1 := by
                  have z_1 : ¬ (vy_52 : Int32).toInt = (0 : Int32).toInt := fun z => c_81 (Int32.toInt_inj.mp z)
                  have z_2 : ¬ (r_103 : Int32).toInt = (59 : Int32).toInt := fun z => c_106 (Int32.toInt_inj.mp z)
                  have z_3 : ¬ (vy_52 : Int32).toInt = (0 : Int32).toInt := fun z => c_107 (Int32.toInt_inj.mp z)
                  have z_4 := congrArg Int32.toInt c_121
                  have z_5 := congrArg Int32.toInt c_122
                  have y_m1 : (-1 : Int32).toInt = -1 := by decide
                  have y_0 : (0 : Int32).toInt = 0 := by decide
                  have y_59 : (59 : Int32).toInt = 59 := by decide
                  omega
                have hr_127 : (rB (Mf 1) (Mv 0) (sv_112 : Int32).toInt.toNat = -1) := by
                  have z_1 : ¬ (vy_52 : Int32).toInt = (0 : Int32).toInt := fun z => c_81 (Int32.toInt_inj.mp z)
                  have z_2 : ¬ (r_103 : Int32).toInt = (59 : Int32).toInt := fun z => c_106 (Int32.toInt_inj.mp z)
                  have z_3 : ¬ (vy_52 : Int32).toInt = (0 : Int32).toInt := fun z => c_107 (Int32.toInt_inj.mp z)
                  have z_4 := congrArg Int32.toInt c_121
                  have z_5 := congrArg Int32.toInt c_122
                  have y_m1 : (-1 : Int32).toInt = -1 := by decide
                  have y_0 : (0 : Int32).toInt = 0 := by decide
                  have y_59 : (59 : Int32).toInt = 59 := by decide
                  omega
                have hp_128 : (((1 : Int32).toInt = 0 ∧ ¬ (vy_54 : Int32).toInt = 0) ∨ ((1 : Int32).toInt = 1 ∧ (vy_54 : Int32).toInt = 0 ∧ (vy_63 (Mv 5).toInt.toNat).toInt ≤ 12)) := by
                  have z_1 : ¬ (vy_52 : Int32).toInt = (0 : Int32).toInt := fun z => c_81 (Int32.toInt_inj.mp z)
                  have z_2 : ¬ (r_103 : Int32).toInt = (59 : Int32).toInt := fun z => c_106 (Int32.toInt_inj.mp z)
                  have z_3 : ¬ (vy_52 : Int32).toInt = (0 : Int32).toInt := fun z => c_107 (Int32.toInt_inj.mp z)
                  have z_4 := congrArg Int32.toInt c_121
                  have z_5 := congrArg Int32.toInt c_122
                  have y_m1 : (-1 : Int32).toInt = -1 := by decide
                  have y_0 : (0 : Int32).toInt = 0 := by decide
                  have y_59 : (59 : Int32).toInt = 59 := by decide
                  have y_1 : (1 : Int32).toInt = 1 := by decide
                  have yr : (1 : Int32).toInt = 1 := by decide
                  omega
                have hm_129 : (1 : Int32).toInt = 1 → (RulP vy_60 vy_62 vy_63 (Mv 5) ((vy_61 (Mv 5).toNatClampNeg).toInt)) ∧ (RwK vy_60 vy_61 vy_62 vy_63 (Mv 5) (ru_of (rB (Mf 1) (Mv 0)))) := by
                  intro h1r
                  have hr_130 : (vy_52 : Int32).toInt = 1 := by
                    have z_1 : ¬ (vy_52 : Int32).toInt = (0 : Int32).toInt := fun z => c_81 (Int32.toInt_inj.mp z)
                    have z_2 : ¬ (r_103 : Int32).toInt = (59 : Int32).toInt := fun z => c_106 (Int32.toInt_inj.mp z)
                    have z_3 : ¬ (vy_52 : Int32).toInt = (0 : Int32).toInt := fun z => c_107 (Int32.toInt_inj.mp z)
                    have z_4 := congrArg Int32.toInt c_121
                    have z_5 := congrArg Int32.toInt c_122
                    have y_m1 : (-1 : Int32).toInt = -1 := by decide
                    have y_0 : (0 : Int32).toInt = 0 := by decide
                    have y_59 : (59 : Int32).toInt = 59 := by decide
                    omega
                  have hr_131 : ¬ (rB (Mf 1) (Mv 0) (sv_112 : Int32).toInt.toNat = 59) := by
                    have z_1 : ¬ (vy_52 : Int32).toInt = (0 : Int32).toInt := fun z => c_81 (Int32.toInt_inj.mp z)
                    have z_2 : ¬ (r_103 : Int32).toInt = (59 : Int32).toInt := fun z => c_106 (Int32.toInt_inj.mp z)
                    have z_3 : ¬ (vy_52 : Int32).toInt = (0 : Int32).toInt := fun z => c_107 (Int32.toInt_inj.mp z)
                    have z_4 := congrArg Int32.toInt c_121
                    have z_5 := congrArg Int32.toInt c_122
                    have y_m1 : (-1 : Int32).toInt = -1 := by decide
                    have y_0 : (0 : Int32).toInt = 0 := by decide
                    have y_59 : (59 : Int32).toInt = 59 := by decide
                    omega
                  exact ⟨pf_93, (RaK.end pf_77 hr_130 (SkR.trans pf_102 pf_116) hr_131)⟩
                exact retI (v := 1) hx hb hr hlk (rfl) hP hD hS (sv_112, vy_54, vy_55, vy_56, vy_57, vy_58, vy_59, vy_60, vy_61, vy_62, vy_63, vy_64) ⟨_, rfl, hp_128, pf_72, (RuE.end pf_76 hr_126 (SkR.trans pf_102 pf_116) hr_127), pf_73, pf_74, pf_75, hm_129⟩ [5, 6, 0, 1, 2, 3, 4] rfl rfl dX12_readsAll_105 (Nat.le_of_ble_eq_true rfl) (Nat.le_of_ble_eq_true rfl) rfl
            · skip
              refine lv_aload_n hx hb dX12_readsAll_78 rfl (lv_at hl 1 rfl) ?_
              refine lv_iconst (v := 0) hx hb dX12_readsAll_79 (by decide) ?_
              refine lv_aload_n hx hb dX12_readsAll_80 rfl (lv_at hl 1 rfl) ?_
              refine gf_X12_87 hx hb hts hown hK hP 5 rfl rfl dX12_readsAll_81 ?_
              have ha_132 : 0 ≤ (0 : Int32).toInt ∧ (0 : Int32).toInt ≤ 4 := by
                have z_1 : ¬ (vy_52 : Int32).toInt = (0 : Int32).toInt := fun z => c_81 (Int32.toInt_inj.mp z)
                have z_2 : ¬ (r_103 : Int32).toInt = (59 : Int32).toInt := fun z => c_106 (Int32.toInt_inj.mp z)
                have z_3 : ¬ (vy_52 : Int32).toInt = (0 : Int32).toInt := fun z => c_107 (Int32.toInt_inj.mp z)
                have z_4 : ¬ (r_117 : Int32).toInt = ((-1) : Int32).toInt := fun z => c_121 (Int32.toInt_inj.mp z)
                have y_m1 : (-1 : Int32).toInt = -1 := by decide
                have y_0 : (0 : Int32).toInt = 0 := by decide
                have y_59 : (59 : Int32).toInt = 59 := by decide
                omega
              have ha_133 : 0 ≤ sv_112.toInt ∧ sv_112.toInt ≤ 400 := by
                have z_1 : ¬ (vy_52 : Int32).toInt = (0 : Int32).toInt := fun z => c_81 (Int32.toInt_inj.mp z)
                have z_2 : ¬ (r_103 : Int32).toInt = (59 : Int32).toInt := fun z => c_106 (Int32.toInt_inj.mp z)
                have z_3 : ¬ (vy_52 : Int32).toInt = (0 : Int32).toInt := fun z => c_107 (Int32.toInt_inj.mp z)
                have z_4 : ¬ (r_117 : Int32).toInt = ((-1) : Int32).toInt := fun z => c_121 (Int32.toInt_inj.mp z)
                have y_m1 : (-1 : Int32).toInt = -1 := by decide
                have y_0 : (0 : Int32).toInt = 0 := by decide
                have y_59 : (59 : Int32).toInt = 59 := by decide
                omega
              have ha_134 : (vy_54 : Int32).toInt = 0 := by
                have z_1 : ¬ (vy_52 : Int32).toInt = (0 : Int32).toInt := fun z => c_81 (Int32.toInt_inj.mp z)
                have z_2 : ¬ (r_103 : Int32).toInt = (59 : Int32).toInt := fun z => c_106 (Int32.toInt_inj.mp z)
                have z_3 : ¬ (vy_52 : Int32).toInt = (0 : Int32).toInt := fun z => c_107 (Int32.toInt_inj.mp z)
                have z_4 : ¬ (r_117 : Int32).toInt = ((-1) : Int32).toInt := fun z => c_121 (Int32.toInt_inj.mp z)
                have y_m1 : (-1 : Int32).toInt = -1 := by decide
                have y_0 : (0 : Int32).toInt = 0 := by decide
                have y_59 : (59 : Int32).toInt = 59 := by decide
                omega
              refine cV (a := (Ma 0)) (As := [.int 0, .int sv_112]) (rest := []) (wr := [((Ma 2), .inl (tc 0, 2400, .inl vy_60)), ((Ma 3), .inl (tc 0, 7, .inl vy_61)), ((Ma 4), .inl (tc 0, 288, .inl vy_62)), ((Ma 5), .inl (tc 0, 6, .inl vy_63)), ((Ma 7), .inl (tc 0, 400, .inl vy_64)), ((Ma 1), .inl (tc 2, 400, .inl (Mf 1)))]) ⟨hx, hb, hml, hown, hts⟩ hK hX hA (cu_fX12_fails l D tc sk (Ma 0) (Ma 1) (Ma 2) (Ma 3) (Ma 4) (Ma 5) (Ma 6) (Ma 7) (Ma 8) (Ma 9) (Ma 10) (Ma 11) (Ma 12) (Ma 13) (Ma 14) (Ma 15) (Ma 16) (Ma 17) (Ma 18) (Ma 19) (Ma 20) (Mv 0) (Mv 1) sv_112 vy_54 vy_55 (Mv 5) vy_56 vy_57 vy_58 vy_59 (Mv 10) (Mv 11) (Mv 12) (Mv 13) (Mv 14) (Mj 0) 0 sv_112 ha_132 ha_133 ha_134) k_1232 k_1229 k_1231 k_31 k_106 pl_X12_fails ⟨Nat.le_of_ble_eq_true rfl, Nat.le_of_ble_eq_true rfl⟩ rfl rfl (va_recv hK hP (ci := 12) (q0 := 5) rfl rfl) hP hD hS [5] [0, 1, 2, 3, 4, 6] rfl rfl rfl rfl rfl (by decide) rfl hl.1 rfl (Nat.le_of_ble_eq_true rfl) dX12_readsAll_84 ⟨Nat.le_of_ble_eq_true rfl, Nat.le_of_ble_eq_true rfl⟩ (fun v_135 u_136 H locs hv_137 hP₀ hD₀ hS₀ => ?_)
              obtain ⟨sv_138, rfl⟩ : ∃ z, z = u_136 := ⟨_, rfl⟩
              obtain ⟨r_141, rfl, he_142, pf_139, pf_140⟩ := hv_137
              have he_142 : r_141.toInt = 0 := he_142
              have pf_139 : ¬ (sv_138 : Int32).toInt = 0 := pf_139
              have pf_140 : (sv_138 : Int32).toInt = 1 + 8 * sv_112.toInt + (0 : Int32).toInt := pf_140
              refine W.eq (g2 := F0 m 87 ls [.int r_141]) rfl ?_
              replace hP : va_P D classes [((Ma 2), .inl (tc 0, 2400, .inl vy_60)), ((Ma 3), .inl (tc 0, 7, .inl vy_61)), ((Ma 4), .inl (tc 0, 288, .inl vy_62)), ((Ma 5), .inl (tc 0, 6, .inl vy_63)), ((Ma 7), .inl (tc 0, 400, .inl vy_64)), ((Ma 1), .inl (tc 2, 400, .inl (Mf 1))), ((Ma 0), .inr (12, [.ref (Ma 1), .int (Mv 0), .int (Mv 1), .ref (Ma 2), .ref (Ma 3), .ref (Ma 4), .ref (Ma 5), .ref (Ma 6), .int sv_112, .int sv_138, .int vy_55, .int (Mv 5), .int vy_56, .int vy_57, .int vy_58, .ref (Ma 7), .int vy_59, .ref (Ma 8), .int (Mv 10), .ref (Ma 9), .ref (Ma 10), .int (Mv 11), .int (Mv 12), .int (Mv 13), .ref (Ma 11), .int (Mv 14), .ref (Ma 12), .ref (Ma 13), .ref (Ma 14), .ref (Ma 15), .ref (Ma 16), .long (Mj 0), .ref (Ma 17), .ref (Ma 18), .ref (Ma 19), .ref (Ma 20)]))] H := hP₀
              replace hD : va_D A [((Ma 2), .inl (tc 0, 2400, .inl vy_60)), ((Ma 3), .inl (tc 0, 7, .inl vy_61)), ((Ma 4), .inl (tc 0, 288, .inl vy_62)), ((Ma 5), .inl (tc 0, 6, .inl vy_63)), ((Ma 7), .inl (tc 0, 400, .inl vy_64)), ((Ma 1), .inl (tc 2, 400, .inl (Mf 1))), ((Ma 0), .inr (12, [.ref (Ma 1), .int (Mv 0), .int (Mv 1), .ref (Ma 2), .ref (Ma 3), .ref (Ma 4), .ref (Ma 5), .ref (Ma 6), .int sv_112, .int sv_138, .int vy_55, .int (Mv 5), .int vy_56, .int vy_57, .int vy_58, .ref (Ma 7), .int vy_59, .ref (Ma 8), .int (Mv 10), .ref (Ma 9), .ref (Ma 10), .int (Mv 11), .int (Mv 12), .int (Mv 13), .ref (Ma 11), .int (Mv 14), .ref (Ma 12), .ref (Ma 13), .ref (Ma 14), .ref (Ma 15), .ref (Ma 16), .long (Mj 0), .ref (Ma 17), .ref (Ma 18), .ref (Ma 19), .ref (Ma 20)]))] := hD₀
              replace hS := hS₀
              clear hP₀ hD₀ hS₀
              have yf_144 : (0 : Int32).toInt = 0 := by decide
              refine lv_pop hx hb dX12_readsAll_87 rfl ?_
              refine lv_aload_n hx hb dX12_readsAll_88 rfl (lv_at hl 1 rfl) ?_
              refine lv_iconst (v := 0) hx hb dX12_readsAll_89 (by decide) ?_
              refine pf_X12_77 hx hb hts hown hK hP hD hS 6 rfl (Nat.le_of_ble_eq_true rfl) rfl rfl dX12_readsAll_90 (fun H locs hP₀ hD₀ hS₀ => ?_)
              replace hP : va_P D classes [((Ma 2), .inl (tc 0, 2400, .inl vy_60)), ((Ma 3), .inl (tc 0, 7, .inl vy_61)), ((Ma 4), .inl (tc 0, 288, .inl vy_62)), ((Ma 5), .inl (tc 0, 6, .inl vy_63)), ((Ma 7), .inl (tc 0, 400, .inl vy_64)), ((Ma 1), .inl (tc 2, 400, .inl (Mf 1))), ((Ma 0), .inr (12, [.ref (Ma 1), .int 0, .int (Mv 1), .ref (Ma 2), .ref (Ma 3), .ref (Ma 4), .ref (Ma 5), .ref (Ma 6), .int sv_112, .int sv_138, .int vy_55, .int (Mv 5), .int vy_56, .int vy_57, .int vy_58, .ref (Ma 7), .int vy_59, .ref (Ma 8), .int (Mv 10), .ref (Ma 9), .ref (Ma 10), .int (Mv 11), .int (Mv 12), .int (Mv 13), .ref (Ma 11), .int (Mv 14), .ref (Ma 12), .ref (Ma 13), .ref (Ma 14), .ref (Ma 15), .ref (Ma 16), .long (Mj 0), .ref (Ma 17), .ref (Ma 18), .ref (Ma 19), .ref (Ma 20)]))] H := hP₀
              replace hD : va_D A [((Ma 2), .inl (tc 0, 2400, .inl vy_60)), ((Ma 3), .inl (tc 0, 7, .inl vy_61)), ((Ma 4), .inl (tc 0, 288, .inl vy_62)), ((Ma 5), .inl (tc 0, 6, .inl vy_63)), ((Ma 7), .inl (tc 0, 400, .inl vy_64)), ((Ma 1), .inl (tc 2, 400, .inl (Mf 1))), ((Ma 0), .inr (12, [.ref (Ma 1), .int 0, .int (Mv 1), .ref (Ma 2), .ref (Ma 3), .ref (Ma 4), .ref (Ma 5), .ref (Ma 6), .int sv_112, .int sv_138, .int vy_55, .int (Mv 5), .int vy_56, .int vy_57, .int vy_58, .ref (Ma 7), .int vy_59, .ref (Ma 8), .int (Mv 10), .ref (Ma 9), .ref (Ma 10), .int (Mv 11), .int (Mv 12), .int (Mv 13), .ref (Ma 11), .int (Mv 14), .ref (Ma 12), .ref (Ma 13), .ref (Ma 14), .ref (Ma 15), .ref (Ma 16), .long (Mj 0), .ref (Ma 17), .ref (Ma 18), .ref (Ma 19), .ref (Ma 20)]))] := hD₀
              replace hS := hS₀
              clear hP₀ hD₀ hS₀
              refine lv_aload_n hx hb dX12_readsAll_93 rfl (lv_at hl 1 rfl) ?_
              refine gf_X12_84 hx hb hts hown hK hP 6 rfl rfl dX12_readsAll_94 ?_
              refine lv_if_ne (tgt := 104) hx hb dX12_readsAll_97 (by decide) (fun c_145 => ?_) (fun c_145 => ?_)
              · skip
                refine lv_iconst (v := 0) hx hb dX12_readsAll_104 (by decide) ?_
                have hr_146 : (vy_52 : Int32).toInt = 1 := by
                  have z_1 : ¬ (vy_52 : Int32).toInt = (0 : Int32).toInt := fun z => c_81 (Int32.toInt_inj.mp z)
                  have z_2 : ¬ (r_103 : Int32).toInt = (59 : Int32).toInt := fun z => c_106 (Int32.toInt_inj.mp z)
                  have z_3 : ¬ (vy_52 : Int32).toInt = (0 : Int32).toInt := fun z => c_107 (Int32.toInt_inj.mp z)
                  have z_4 : ¬ (r_117 : Int32).toInt = ((-1) : Int32).toInt := fun z => c_121 (Int32.toInt_inj.mp z)
                  have z_5 : ¬ (sv_138 : Int32).toInt = (0 : Int32).toInt := fun z => c_145 (Int32.toInt_inj.mp z)
                  have y_m1 : (-1 : Int32).toInt = -1 := by decide
                  have y_0 : (0 : Int32).toInt = 0 := by decide
                  have y_59 : (59 : Int32).toInt = 59 := by decide
                  omega
                have hr_147 : ¬ (rB (Mf 1) (Mv 0) (sv_112 : Int32).toInt.toNat = 59) := by
                  have z_1 : ¬ (vy_52 : Int32).toInt = (0 : Int32).toInt := fun z => c_81 (Int32.toInt_inj.mp z)
                  have z_2 : ¬ (r_103 : Int32).toInt = (59 : Int32).toInt := fun z => c_106 (Int32.toInt_inj.mp z)
                  have z_3 : ¬ (vy_52 : Int32).toInt = (0 : Int32).toInt := fun z => c_107 (Int32.toInt_inj.mp z)
                  have z_4 : ¬ (r_117 : Int32).toInt = ((-1) : Int32).toInt := fun z => c_121 (Int32.toInt_inj.mp z)
                  have z_5 : ¬ (sv_138 : Int32).toInt = (0 : Int32).toInt := fun z => c_145 (Int32.toInt_inj.mp z)
                  have y_m1 : (-1 : Int32).toInt = -1 := by decide
                  have y_0 : (0 : Int32).toInt = 0 := by decide
                  have y_59 : (59 : Int32).toInt = 59 := by decide
                  omega
                have hr_148 : ¬ (rB (Mf 1) (Mv 0) (sv_112 : Int32).toInt.toNat = -1) := by
                  have z_1 : ¬ (vy_52 : Int32).toInt = (0 : Int32).toInt := fun z => c_81 (Int32.toInt_inj.mp z)
                  have z_2 : ¬ (r_103 : Int32).toInt = (59 : Int32).toInt := fun z => c_106 (Int32.toInt_inj.mp z)
                  have z_3 : ¬ (vy_52 : Int32).toInt = (0 : Int32).toInt := fun z => c_107 (Int32.toInt_inj.mp z)
                  have z_4 : ¬ (r_117 : Int32).toInt = ((-1) : Int32).toInt := fun z => c_121 (Int32.toInt_inj.mp z)
                  have z_5 : ¬ (sv_138 : Int32).toInt = (0 : Int32).toInt := fun z => c_145 (Int32.toInt_inj.mp z)
                  have y_m1 : (-1 : Int32).toInt = -1 := by decide
                  have y_0 : (0 : Int32).toInt = 0 := by decide
                  have y_59 : (59 : Int32).toInt = 59 := by decide
                  omega
                have hi_149 : (sv_138 : Int32).toInt = 1 + 8 * (sv_112 : Int32).toInt := by
                  have z_1 : ¬ (vy_52 : Int32).toInt = (0 : Int32).toInt := fun z => c_81 (Int32.toInt_inj.mp z)
                  have z_2 : ¬ (r_103 : Int32).toInt = (59 : Int32).toInt := fun z => c_106 (Int32.toInt_inj.mp z)
                  have z_3 : ¬ (vy_52 : Int32).toInt = (0 : Int32).toInt := fun z => c_107 (Int32.toInt_inj.mp z)
                  have z_4 : ¬ (r_117 : Int32).toInt = ((-1) : Int32).toInt := fun z => c_121 (Int32.toInt_inj.mp z)
                  have z_5 : ¬ (sv_138 : Int32).toInt = (0 : Int32).toInt := fun z => c_145 (Int32.toInt_inj.mp z)
                  have y_m1 : (-1 : Int32).toInt = -1 := by decide
                  have y_0 : (0 : Int32).toInt = 0 := by decide
                  have y_59 : (59 : Int32).toInt = 59 := by decide
                  omega
                have hp_150 : (((0 : Int32).toInt = 0 ∧ ¬ (sv_138 : Int32).toInt = 0) ∨ ((0 : Int32).toInt = 1 ∧ (sv_138 : Int32).toInt = 0 ∧ (vy_63 (Mv 5).toInt.toNat).toInt ≤ 12)) := by
                  have z_1 : ¬ (vy_52 : Int32).toInt = (0 : Int32).toInt := fun z => c_81 (Int32.toInt_inj.mp z)
                  have z_2 : ¬ (r_103 : Int32).toInt = (59 : Int32).toInt := fun z => c_106 (Int32.toInt_inj.mp z)
                  have z_3 : ¬ (vy_52 : Int32).toInt = (0 : Int32).toInt := fun z => c_107 (Int32.toInt_inj.mp z)
                  have z_4 : ¬ (r_117 : Int32).toInt = ((-1) : Int32).toInt := fun z => c_121 (Int32.toInt_inj.mp z)
                  have z_5 : ¬ (sv_138 : Int32).toInt = (0 : Int32).toInt := fun z => c_145 (Int32.toInt_inj.mp z)
                  have y_m1 : (-1 : Int32).toInt = -1 := by decide
                  have y_0 : (0 : Int32).toInt = 0 := by decide
                  have y_59 : (59 : Int32).toInt = 59 := by decide
                  omega
                exact retI (v := 0) hx hb hr hlk (rfl) hP hD hS (sv_112, sv_138, vy_55, vy_56, vy_57, vy_58, vy_59, vy_60, vy_61, vy_62, vy_63, vy_64) ⟨_, rfl, hp_150, pf_72, (RuE.more pf_76 hr_146 (SkR.trans pf_102 pf_116) hr_147 hr_148 hi_149), pf_73, pf_74, pf_75, (fun h => absurd h (by decide))⟩ [6, 5, 0, 1, 2, 3, 4] rfl rfl dX12_readsAll_105 (Nat.le_of_ble_eq_true rfl) (Nat.le_of_ble_eq_true rfl) rfl
              · skip
                refine lv_iconst (v := 1) hx hb dX12_readsAll_100 (by decide) ?_
                refine lv_goto (tgt := 105) hx hb dX12_readsAll_101 (by decide) ?_
                have hr_151 : (vy_52 : Int32).toInt = 1 := by
                  have z_1 : ¬ (vy_52 : Int32).toInt = (0 : Int32).toInt := fun z => c_81 (Int32.toInt_inj.mp z)
                  have z_2 : ¬ (r_103 : Int32).toInt = (59 : Int32).toInt := fun z => c_106 (Int32.toInt_inj.mp z)
                  have z_3 : ¬ (vy_52 : Int32).toInt = (0 : Int32).toInt := fun z => c_107 (Int32.toInt_inj.mp z)
                  have z_4 : ¬ (r_117 : Int32).toInt = ((-1) : Int32).toInt := fun z => c_121 (Int32.toInt_inj.mp z)
                  have z_5 := congrArg Int32.toInt c_145
                  have y_m1 : (-1 : Int32).toInt = -1 := by decide
                  have y_0 : (0 : Int32).toInt = 0 := by decide
                  have y_59 : (59 : Int32).toInt = 59 := by decide
                  omega
                have hr_152 : ¬ (rB (Mf 1) (Mv 0) (sv_112 : Int32).toInt.toNat = 59) := by
                  have z_1 : ¬ (vy_52 : Int32).toInt = (0 : Int32).toInt := fun z => c_81 (Int32.toInt_inj.mp z)
                  have z_2 : ¬ (r_103 : Int32).toInt = (59 : Int32).toInt := fun z => c_106 (Int32.toInt_inj.mp z)
                  have z_3 : ¬ (vy_52 : Int32).toInt = (0 : Int32).toInt := fun z => c_107 (Int32.toInt_inj.mp z)
                  have z_4 : ¬ (r_117 : Int32).toInt = ((-1) : Int32).toInt := fun z => c_121 (Int32.toInt_inj.mp z)
                  have z_5 := congrArg Int32.toInt c_145
                  have y_m1 : (-1 : Int32).toInt = -1 := by decide
                  have y_0 : (0 : Int32).toInt = 0 := by decide
                  have y_59 : (59 : Int32).toInt = 59 := by decide
                  omega
                have hr_153 : ¬ (rB (Mf 1) (Mv 0) (sv_112 : Int32).toInt.toNat = -1) := by
                  have z_1 : ¬ (vy_52 : Int32).toInt = (0 : Int32).toInt := fun z => c_81 (Int32.toInt_inj.mp z)
                  have z_2 : ¬ (r_103 : Int32).toInt = (59 : Int32).toInt := fun z => c_106 (Int32.toInt_inj.mp z)
                  have z_3 : ¬ (vy_52 : Int32).toInt = (0 : Int32).toInt := fun z => c_107 (Int32.toInt_inj.mp z)
                  have z_4 : ¬ (r_117 : Int32).toInt = ((-1) : Int32).toInt := fun z => c_121 (Int32.toInt_inj.mp z)
                  have z_5 := congrArg Int32.toInt c_145
                  have y_m1 : (-1 : Int32).toInt = -1 := by decide
                  have y_0 : (0 : Int32).toInt = 0 := by decide
                  have y_59 : (59 : Int32).toInt = 59 := by decide
                  omega
                have hi_154 : (sv_138 : Int32).toInt = 1 + 8 * (sv_112 : Int32).toInt := by
                  have z_1 : ¬ (vy_52 : Int32).toInt = (0 : Int32).toInt := fun z => c_81 (Int32.toInt_inj.mp z)
                  have z_2 : ¬ (r_103 : Int32).toInt = (59 : Int32).toInt := fun z => c_106 (Int32.toInt_inj.mp z)
                  have z_3 : ¬ (vy_52 : Int32).toInt = (0 : Int32).toInt := fun z => c_107 (Int32.toInt_inj.mp z)
                  have z_4 : ¬ (r_117 : Int32).toInt = ((-1) : Int32).toInt := fun z => c_121 (Int32.toInt_inj.mp z)
                  have z_5 := congrArg Int32.toInt c_145
                  have y_m1 : (-1 : Int32).toInt = -1 := by decide
                  have y_0 : (0 : Int32).toInt = 0 := by decide
                  have y_59 : (59 : Int32).toInt = 59 := by decide
                  omega
                have hp_155 : (((1 : Int32).toInt = 0 ∧ ¬ (sv_138 : Int32).toInt = 0) ∨ ((1 : Int32).toInt = 1 ∧ (sv_138 : Int32).toInt = 0 ∧ (vy_63 (Mv 5).toInt.toNat).toInt ≤ 12)) := by
                  have z_1 : ¬ (vy_52 : Int32).toInt = (0 : Int32).toInt := fun z => c_81 (Int32.toInt_inj.mp z)
                  have z_2 : ¬ (r_103 : Int32).toInt = (59 : Int32).toInt := fun z => c_106 (Int32.toInt_inj.mp z)
                  have z_3 : ¬ (vy_52 : Int32).toInt = (0 : Int32).toInt := fun z => c_107 (Int32.toInt_inj.mp z)
                  have z_4 : ¬ (r_117 : Int32).toInt = ((-1) : Int32).toInt := fun z => c_121 (Int32.toInt_inj.mp z)
                  have z_5 := congrArg Int32.toInt c_145
                  have y_m1 : (-1 : Int32).toInt = -1 := by decide
                  have y_0 : (0 : Int32).toInt = 0 := by decide
                  have y_59 : (59 : Int32).toInt = 59 := by decide
                  have y_1 : (1 : Int32).toInt = 1 := by decide
                  have yr : (1 : Int32).toInt = 1 := by decide
                  omega
                have hm_156 : (1 : Int32).toInt = 1 → (RulP vy_60 vy_62 vy_63 (Mv 5) ((vy_61 (Mv 5).toNatClampNeg).toInt)) ∧ (RwK vy_60 vy_61 vy_62 vy_63 (Mv 5) (ru_of (rB (Mf 1) (Mv 0)))) := by
                  intro h1r
                  have hr_157 : (vy_52 : Int32).toInt = 1 := by
                    have z_1 : ¬ (vy_52 : Int32).toInt = (0 : Int32).toInt := fun z => c_81 (Int32.toInt_inj.mp z)
                    have z_2 : ¬ (r_103 : Int32).toInt = (59 : Int32).toInt := fun z => c_106 (Int32.toInt_inj.mp z)
                    have z_3 : ¬ (vy_52 : Int32).toInt = (0 : Int32).toInt := fun z => c_107 (Int32.toInt_inj.mp z)
                    have z_4 : ¬ (r_117 : Int32).toInt = ((-1) : Int32).toInt := fun z => c_121 (Int32.toInt_inj.mp z)
                    have z_5 := congrArg Int32.toInt c_145
                    have y_m1 : (-1 : Int32).toInt = -1 := by decide
                    have y_0 : (0 : Int32).toInt = 0 := by decide
                    have y_59 : (59 : Int32).toInt = 59 := by decide
                    omega
                  have hr_158 : ¬ (rB (Mf 1) (Mv 0) (sv_112 : Int32).toInt.toNat = 59) := by
                    have z_1 : ¬ (vy_52 : Int32).toInt = (0 : Int32).toInt := fun z => c_81 (Int32.toInt_inj.mp z)
                    have z_2 : ¬ (r_103 : Int32).toInt = (59 : Int32).toInt := fun z => c_106 (Int32.toInt_inj.mp z)
                    have z_3 : ¬ (vy_52 : Int32).toInt = (0 : Int32).toInt := fun z => c_107 (Int32.toInt_inj.mp z)
                    have z_4 : ¬ (r_117 : Int32).toInt = ((-1) : Int32).toInt := fun z => c_121 (Int32.toInt_inj.mp z)
                    have z_5 := congrArg Int32.toInt c_145
                    have y_m1 : (-1 : Int32).toInt = -1 := by decide
                    have y_0 : (0 : Int32).toInt = 0 := by decide
                    have y_59 : (59 : Int32).toInt = 59 := by decide
                    omega
                  exact ⟨pf_93, (RaK.end pf_77 hr_157 (SkR.trans pf_102 pf_116) hr_158)⟩
                exact retI (v := 1) hx hb hr hlk (rfl) hP hD hS (sv_112, sv_138, vy_55, vy_56, vy_57, vy_58, vy_59, vy_60, vy_61, vy_62, vy_63, vy_64) ⟨_, rfl, hp_155, pf_72, (RuE.more pf_76 hr_151 (SkR.trans pf_102 pf_116) hr_152 hr_153 hi_154), pf_73, pf_74, pf_75, hm_156⟩ [6, 5, 0, 1, 2, 3, 4] rfl rfl dX12_readsAll_105 (Nat.le_of_ble_eq_true rfl) (Nat.le_of_ble_eq_true rfl) rfl
        · skip
          refine lv_aload_n hx hb dX12_readsAll_48 rfl (lv_at hl 1 rfl) ?_
          refine lv_dup hx hb dX12_readsAll_49 rfl ?_
          refine gf_X12_87 hx hb hts hown hK hP 5 rfl rfl dX12_readsAll_50 ?_
          refine lv_iconst (v := 1) hx hb dX12_readsAll_53 (by decide) ?_
          refine lv_iadd hx hb dX12_readsAll_54 ?_
          refine lv_topi (fun x_159 ex_159 => ?_)
          refine pf_X12_87 hx hb hts hown hK hP hD hS 5 rfl (Nat.le_of_ble_eq_true rfl) rfl rfl dX12_readsAll_55 (fun H locs hP₀ hD₀ hS₀ => ?_)
          replace hP : va_P D classes [((Ma 2), .inl (tc 0, 2400, .inl vy_60)), ((Ma 3), .inl (tc 0, 7, .inl vy_61)), ((Ma 4), .inl (tc 0, 288, .inl vy_62)), ((Ma 5), .inl (tc 0, 6, .inl vy_63)), ((Ma 7), .inl (tc 0, 400, .inl vy_64)), ((Ma 0), .inr (12, [.ref (Ma 1), .int (Mv 0), .int (Mv 1), .ref (Ma 2), .ref (Ma 3), .ref (Ma 4), .ref (Ma 5), .ref (Ma 6), .int x_159, .int vy_54, .int vy_55, .int (Mv 5), .int vy_56, .int vy_57, .int vy_58, .ref (Ma 7), .int vy_59, .ref (Ma 8), .int (Mv 10), .ref (Ma 9), .ref (Ma 10), .int (Mv 11), .int (Mv 12), .int (Mv 13), .ref (Ma 11), .int (Mv 14), .ref (Ma 12), .ref (Ma 13), .ref (Ma 14), .ref (Ma 15), .ref (Ma 16), .long (Mj 0), .ref (Ma 17), .ref (Ma 18), .ref (Ma 19), .ref (Ma 20)])), ((Ma 1), .inl (tc 2, 400, .inl (Mf 1)))] H := hP₀
          replace hD : va_D A [((Ma 2), .inl (tc 0, 2400, .inl vy_60)), ((Ma 3), .inl (tc 0, 7, .inl vy_61)), ((Ma 4), .inl (tc 0, 288, .inl vy_62)), ((Ma 5), .inl (tc 0, 6, .inl vy_63)), ((Ma 7), .inl (tc 0, 400, .inl vy_64)), ((Ma 0), .inr (12, [.ref (Ma 1), .int (Mv 0), .int (Mv 1), .ref (Ma 2), .ref (Ma 3), .ref (Ma 4), .ref (Ma 5), .ref (Ma 6), .int x_159, .int vy_54, .int vy_55, .int (Mv 5), .int vy_56, .int vy_57, .int vy_58, .ref (Ma 7), .int vy_59, .ref (Ma 8), .int (Mv 10), .ref (Ma 9), .ref (Ma 10), .int (Mv 11), .int (Mv 12), .int (Mv 13), .ref (Ma 11), .int (Mv 14), .ref (Ma 12), .ref (Ma 13), .ref (Ma 14), .ref (Ma 15), .ref (Ma 16), .long (Mj 0), .ref (Ma 17), .ref (Ma 18), .ref (Ma 19), .ref (Ma 20)])), ((Ma 1), .inl (tc 2, 400, .inl (Mf 1)))] := hD₀
          replace hS := hS₀
          clear hP₀ hD₀ hS₀
          have tp_x_159 : (x_159 : Int32).toInt = (sv_98 : Int32).toInt + 1 := by
            have z_1 : ¬ (vy_52 : Int32).toInt = (0 : Int32).toInt := fun z => c_81 (Int32.toInt_inj.mp z)
            have z_2 := congrArg Int32.toInt c_106
            have y_0 : (0 : Int32).toInt = 0 := by decide
            have y_59 : (59 : Int32).toInt = 59 := by decide
            have y_1 : (1 : Int32).toInt = 1 := by decide
            have t_x_159 : x_159.toInt = (sv_98 : Int32).toInt + (1 : Int32).toInt := by rw [ex_159]; exact add_toInt (by omega) (by omega)
            omega
          refine lv_aload_n hx hb dX12_readsAll_58 rfl (lv_at hl 1 rfl) ?_
          have hr_165 : (vy_52 : Int32).toInt = 1 := by
            have z_1 : ¬ (vy_52 : Int32).toInt = (0 : Int32).toInt := fun z => c_81 (Int32.toInt_inj.mp z)
            have z_2 := congrArg Int32.toInt c_106
            have y_0 : (0 : Int32).toInt = 0 := by decide
            have y_59 : (59 : Int32).toInt = 59 := by decide
            omega
          obtain ⟨rs_160, ⟨lq_161, pf_162, pf_163⟩, pf_164⟩ := pf_77 hr_165
          have ha_166 : 0 ≤ (x_159 : Int32).toInt ∧ (x_159 : Int32).toInt ≤ ((Mv 0) : Int32).toInt ∧ ((Mv 0) : Int32).toInt ≤ 400 := by
            have z_1 : ¬ (vy_52 : Int32).toInt = (0 : Int32).toInt := fun z => c_81 (Int32.toInt_inj.mp z)
            have z_2 := congrArg Int32.toInt c_106
            have y_0 : (0 : Int32).toInt = 0 := by decide
            have y_59 : (59 : Int32).toInt = 59 := by decide
            have y_1 : (1 : Int32).toInt = 1 := by decide
            have t_x_159 : x_159.toInt = (sv_98 : Int32).toInt + (1 : Int32).toInt := by rw [ex_159]; exact add_toInt (by omega) (by omega)
            omega
          have ha_167 : 0 ≤ (vy_61 (Mv 5).toNatClampNeg).toInt ∧ (vy_61 (Mv 5).toNatClampNeg).toInt ≤ (x_159 : Int32).toInt := by
            have z_1 : ¬ (vy_52 : Int32).toInt = (0 : Int32).toInt := fun z => c_81 (Int32.toInt_inj.mp z)
            have z_2 := congrArg Int32.toInt c_106
            have y_0 : (0 : Int32).toInt = 0 := by decide
            have y_59 : (59 : Int32).toInt = 59 := by decide
            have y_1 : (1 : Int32).toInt = 1 := by decide
            have t_x_159 : x_159.toInt = (sv_98 : Int32).toInt + (1 : Int32).toInt := by rw [ex_159]; exact add_toInt (by omega) (by omega)
            omega
          have ha_168 : (vy_63 (Mv 5).toInt.toNat).toInt = (vy_58 : Int32).toInt ∧ 0 ≤ (vy_58 : Int32).toInt ∧ (vy_58 : Int32).toInt ≤ 12 := by
            have z_1 : ¬ (vy_52 : Int32).toInt = (0 : Int32).toInt := fun z => c_81 (Int32.toInt_inj.mp z)
            have z_2 := congrArg Int32.toInt c_106
            have y_0 : (0 : Int32).toInt = 0 := by decide
            have y_59 : (59 : Int32).toInt = 59 := by decide
            omega
          have ha_169 : (vy_54 : Int32).toInt = 0 := by
            have z_1 : ¬ (vy_52 : Int32).toInt = (0 : Int32).toInt := fun z => c_81 (Int32.toInt_inj.mp z)
            have z_2 := congrArg Int32.toInt c_106
            have y_0 : (0 : Int32).toInt = 0 := by decide
            have y_59 : (59 : Int32).toInt = 59 := by decide
            omega
          refine cV (a := (Ma 0)) (As := []) (rest := []) (wr := []) ⟨hx, hb, hml, hown, hts⟩ hK hX hA (cu_kX12_clauseHere_r l D tc sk (Ma 0) (Ma 1) (Ma 2) (Ma 3) (Ma 4) (Ma 5) (Ma 6) (Ma 7) (Ma 8) (Ma 9) (Ma 10) (Ma 11) (Ma 12) (Ma 13) (Ma 14) (Ma 15) (Ma 16) (Ma 17) (Ma 18) (Ma 19) (Ma 20) (Mv 0) (Mv 1) x_159 vy_54 vy_55 (Mv 5) vy_56 vy_57 vy_58 vy_59 (Mv 10) (Mv 11) (Mv 12) (Mv 13) (Mv 14) (Mf 1) vy_60 vy_61 vy_62 vy_63 vy_64 (Mj 0) lq_161 rs_160 ha_166 pf_69 h_t ha_167 pf_93 ha_168 h_bs ha_169 pf_162 pf_163) k_1207 k_1204 k_1206 k_26 k_106 pl_X12_clauseHere ⟨Nat.le_of_ble_eq_true rfl, Nat.le_of_ble_eq_true rfl⟩ rfl rfl (va_recv hK hP (ci := 12) (q0 := 5) rfl rfl) hP hD hS [5, 6, 0, 1, 2, 3, 4] [] rfl rfl rfl rfl rfl (by decide) rfl hl.1 rfl (Nat.le_of_ble_eq_true rfl) dX12_readsAll_59 ⟨Nat.le_of_ble_eq_true rfl, Nat.le_of_ble_eq_true rfl⟩ (fun v_170 u_171 H locs hv_172 hP₀ hD₀ hS₀ => ?_)
          obtain ⟨sv_173, sv_174, sv_175, sv_176, sv_177, sv_178, sv_179, sv_180, sv_181, sv_182, sv_183, sv_184⟩ := u_171
          obtain ⟨r_191, rfl, he_192, pf_185, pf_186, pf_187, pf_188, pf_189, pf_190, hm_194, hm_195⟩ := hv_172
          have he_192 : ((r_191.toInt = 0 ∧ ¬ (sv_174 : Int32).toInt = 0) ∨ (r_191.toInt = 1 ∧ 0 ≤ (sv_181 (Mv 5).toNatClampNeg).toInt ∧ (sv_181 (Mv 5).toNatClampNeg).toInt ≤ (sv_173 : Int32).toInt ∧ (sv_183 (Mv 5).toInt.toNat).toInt = (sv_178 : Int32).toInt ∧ 0 ≤ (sv_178 : Int32).toInt ∧ (sv_178 : Int32).toInt ≤ 12 ∧ (sv_178 : Int32).toInt = vy_58.toInt + 1 ∧ (sv_174 : Int32).toInt = 0)) := he_192
          have pf_185 : (x_159 : Int32).toInt ≤ (sv_173 : Int32).toInt ∧ (sv_173 : Int32).toInt ≤ ((Mv 0) : Int32).toInt := pf_185
          have pf_186 : (vy_56 : Int32).toInt ≤ (sv_176 : Int32).toInt ∧ (sv_176 : Int32).toInt ≤ 60 := pf_186
          have pf_187 : RulD sv_180 sv_182 sv_183 (Mv 5) := pf_187
          have pf_188 : Agr vy_60 sv_180 (400 * ((Mv 5) : Int32).toInt) := pf_188
          have hr_197 : 400 * ((Mv 5) : Int32).toInt + 0 ≤ (400 * ((Mv 5) : Int32).toInt) ∧ 0 ≤ ((Mv 5) : Int32).toInt ∧ (0 : Int) ≤ 0 := by
            have z_1 : ¬ (vy_52 : Int32).toInt = (0 : Int32).toInt := fun z => c_81 (Int32.toInt_inj.mp z)
            have z_2 := congrArg Int32.toInt c_106
            have y_0 : (0 : Int32).toInt = 0 := by decide
            have y_59 : (59 : Int32).toInt = 59 := by decide
            omega
          have pf_196 : RulP sv_180 (Mf 4) (Mf 5) (Mv 5) 0 := RulP.agr pf_79 pf_188 hr_197.2.1 hr_197.1 hr_197.2.2
          have ar_pf_196 := pf_196.2.1
          have pf_189 : Agr vy_62 sv_182 (48 * ((Mv 5) : Int32).toInt) := pf_189
          have pf_190 : Agr vy_63 sv_183 ((Mv 5) : Int32).toInt := pf_190
          refine W.eq (g2 := F0 m 62 ls [.int r_191]) rfl ?_
          replace hP : va_P D classes [((Ma 0), .inr (12, [.ref (Ma 1), .int (Mv 0), .int (Mv 1), .ref (Ma 2), .ref (Ma 3), .ref (Ma 4), .ref (Ma 5), .ref (Ma 6), .int sv_173, .int sv_174, .int sv_175, .int (Mv 5), .int sv_176, .int sv_177, .int sv_178, .ref (Ma 7), .int sv_179, .ref (Ma 8), .int (Mv 10), .ref (Ma 9), .ref (Ma 10), .int (Mv 11), .int (Mv 12), .int (Mv 13), .ref (Ma 11), .int (Mv 14), .ref (Ma 12), .ref (Ma 13), .ref (Ma 14), .ref (Ma 15), .ref (Ma 16), .long (Mj 0), .ref (Ma 17), .ref (Ma 18), .ref (Ma 19), .ref (Ma 20)])), ((Ma 1), .inl (tc 2, 400, .inl (Mf 1))), ((Ma 2), .inl (tc 0, 2400, .inl sv_180)), ((Ma 3), .inl (tc 0, 7, .inl sv_181)), ((Ma 4), .inl (tc 0, 288, .inl sv_182)), ((Ma 5), .inl (tc 0, 6, .inl sv_183)), ((Ma 7), .inl (tc 0, 400, .inl sv_184))] H := hP₀
          replace hD : va_D A [((Ma 0), .inr (12, [.ref (Ma 1), .int (Mv 0), .int (Mv 1), .ref (Ma 2), .ref (Ma 3), .ref (Ma 4), .ref (Ma 5), .ref (Ma 6), .int sv_173, .int sv_174, .int sv_175, .int (Mv 5), .int sv_176, .int sv_177, .int sv_178, .ref (Ma 7), .int sv_179, .ref (Ma 8), .int (Mv 10), .ref (Ma 9), .ref (Ma 10), .int (Mv 11), .int (Mv 12), .int (Mv 13), .ref (Ma 11), .int (Mv 14), .ref (Ma 12), .ref (Ma 13), .ref (Ma 14), .ref (Ma 15), .ref (Ma 16), .long (Mj 0), .ref (Ma 17), .ref (Ma 18), .ref (Ma 19), .ref (Ma 20)])), ((Ma 1), .inl (tc 2, 400, .inl (Mf 1))), ((Ma 2), .inl (tc 0, 2400, .inl sv_180)), ((Ma 3), .inl (tc 0, 7, .inl sv_181)), ((Ma 4), .inl (tc 0, 288, .inl sv_182)), ((Ma 5), .inl (tc 0, 6, .inl sv_183)), ((Ma 7), .inl (tc 0, 400, .inl sv_184))] := hD₀
          replace hS := hS₀
          clear hP₀ hD₀ hS₀
          refine lv_istore_n (lv' := [(1, .int r_191), (0, .ref (Ma 0))]) hx hb dX12_readsAll_62 rfl hl (by decide) rfl (fun ls hl₀ => ?_)
          replace hl := hl₀
          clear hl₀
          refine lv_goto (tgt := 35) hx hb dX12_readsAll_63 (by decide) ?_
          have hb_198 : 2 * (401 - (sv_173 : Int32).toInt) + (r_191 : Int32).toInt < 2 * (401 - (vy_53 : Int32).toInt) + (vy_52 : Int32).toInt ∧ 1 ≤ 2 * (401 - (vy_53 : Int32).toInt) + (vy_52 : Int32).toInt := by
            have z_1 : ¬ (vy_52 : Int32).toInt = (0 : Int32).toInt := fun z => c_81 (Int32.toInt_inj.mp z)
            have z_2 := congrArg Int32.toInt c_106
            have y_0 : (0 : Int32).toInt = 0 := by decide
            have y_59 : (59 : Int32).toInt = 59 := by decide
            omega
          have ha_199 : 0 ≤ (sv_173 : Int32).toInt ∧ (sv_173 : Int32).toInt ≤ ((Mv 0) : Int32).toInt ∧ ((Mv 0) : Int32).toInt ≤ 400 := by
            have z_1 : ¬ (vy_52 : Int32).toInt = (0 : Int32).toInt := fun z => c_81 (Int32.toInt_inj.mp z)
            have z_2 := congrArg Int32.toInt c_106
            have y_0 : (0 : Int32).toInt = 0 := by decide
            have y_59 : (59 : Int32).toInt = 59 := by decide
            omega
          have ha_200 : 0 ≤ (sv_176 : Int32).toInt ∧ (sv_176 : Int32).toInt ≤ 60 := by
            have z_1 : ¬ (vy_52 : Int32).toInt = (0 : Int32).toInt := fun z => c_81 (Int32.toInt_inj.mp z)
            have z_2 := congrArg Int32.toInt c_106
            have y_0 : (0 : Int32).toInt = 0 := by decide
            have y_59 : (59 : Int32).toInt = 59 := by decide
            omega
          have ha_201 : (((r_191 : Int32).toInt = 0 ∧ ¬ (sv_174 : Int32).toInt = 0) ∨ ((r_191 : Int32).toInt = 1 ∧ 0 ≤ (sv_181 (Mv 5).toNatClampNeg).toInt ∧ (sv_181 (Mv 5).toNatClampNeg).toInt ≤ (sv_173 : Int32).toInt ∧ (sv_183 (Mv 5).toInt.toNat).toInt = (sv_178 : Int32).toInt ∧ 0 ≤ (sv_178 : Int32).toInt ∧ (sv_178 : Int32).toInt ≤ 12 ∧ (sv_174 : Int32).toInt = 0)) := by
            have z_1 : ¬ (vy_52 : Int32).toInt = (0 : Int32).toInt := fun z => c_81 (Int32.toInt_inj.mp z)
            have z_2 := congrArg Int32.toInt c_106
            have y_0 : (0 : Int32).toInt = 0 := by decide
            have y_59 : (59 : Int32).toInt = 59 := by decide
            omega
          have hr_202 : (400 * ((Mv 5) : Int32).toInt) ≤ (400 * ((Mv 5) : Int32).toInt) := by
            have z_1 : ¬ (vy_52 : Int32).toInt = (0 : Int32).toInt := fun z => c_81 (Int32.toInt_inj.mp z)
            have z_2 := congrArg Int32.toInt c_106
            have y_0 : (0 : Int32).toInt = 0 := by decide
            have y_59 : (59 : Int32).toInt = 59 := by decide
            omega
          have hr_203 : (400 * ((Mv 5) : Int32).toInt) ≤ (400 * ((Mv 5) : Int32).toInt) := by
            have z_1 : ¬ (vy_52 : Int32).toInt = (0 : Int32).toInt := fun z => c_81 (Int32.toInt_inj.mp z)
            have z_2 := congrArg Int32.toInt c_106
            have y_0 : (0 : Int32).toInt = 0 := by decide
            have y_59 : (59 : Int32).toInt = 59 := by decide
            omega
          have hr_204 : (48 * ((Mv 5) : Int32).toInt) ≤ (48 * ((Mv 5) : Int32).toInt) := by
            have z_1 : ¬ (vy_52 : Int32).toInt = (0 : Int32).toInt := fun z => c_81 (Int32.toInt_inj.mp z)
            have z_2 := congrArg Int32.toInt c_106
            have y_0 : (0 : Int32).toInt = 0 := by decide
            have y_59 : (59 : Int32).toInt = 59 := by decide
            omega
          have hr_205 : (48 * ((Mv 5) : Int32).toInt) ≤ (48 * ((Mv 5) : Int32).toInt) := by
            have z_1 : ¬ (vy_52 : Int32).toInt = (0 : Int32).toInt := fun z => c_81 (Int32.toInt_inj.mp z)
            have z_2 := congrArg Int32.toInt c_106
            have y_0 : (0 : Int32).toInt = 0 := by decide
            have y_59 : (59 : Int32).toInt = 59 := by decide
            omega
          have hr_206 : ((Mv 5) : Int32).toInt ≤ ((Mv 5) : Int32).toInt := by
            have z_1 : ¬ (vy_52 : Int32).toInt = (0 : Int32).toInt := fun z => c_81 (Int32.toInt_inj.mp z)
            have z_2 := congrArg Int32.toInt c_106
            have y_0 : (0 : Int32).toInt = 0 := by decide
            have y_59 : (59 : Int32).toInt = 59 := by decide
            omega
          have hr_207 : ((Mv 5) : Int32).toInt ≤ ((Mv 5) : Int32).toInt := by
            have z_1 : ¬ (vy_52 : Int32).toInt = (0 : Int32).toInt := fun z => c_81 (Int32.toInt_inj.mp z)
            have z_2 := congrArg Int32.toInt c_106
            have y_0 : (0 : Int32).toInt = 0 := by decide
            have y_59 : (59 : Int32).toInt = 59 := by decide
            omega
          have hc_208 : ClR (rB (Mf 1) (Mv 0)) vy_58 x_159 vy_56 r_191 sv_174 sv_173 sv_176 := ⟨fun z => (hm_194 z).2.1, hm_195⟩
          have hl_209 : (r_191 : Int32).toInt = 1 → (sv_178 : Int32).toInt = (vy_58 : Int32).toInt + 1 := by
            intro hz
            have z_1 : ¬ (vy_52 : Int32).toInt = (0 : Int32).toInt := fun z => c_81 (Int32.toInt_inj.mp z)
            have z_2 := congrArg Int32.toInt c_106
            have y_0 : (0 : Int32).toInt = 0 := by decide
            have y_59 : (59 : Int32).toInt = 59 := by decide
            omega
          have hr_210 : (vy_52 : Int32).toInt = 1 := by
            have z_1 : ¬ (vy_52 : Int32).toInt = (0 : Int32).toInt := fun z => c_81 (Int32.toInt_inj.mp z)
            have z_2 := congrArg Int32.toInt c_106
            have y_0 : (0 : Int32).toInt = 0 := by decide
            have y_59 : (59 : Int32).toInt = 59 := by decide
            omega
          have hr_211 : (rB (Mf 1) (Mv 0) (sv_98 : Int32).toInt.toNat = 59) := by
            have z_1 : ¬ (vy_52 : Int32).toInt = (0 : Int32).toInt := fun z => c_81 (Int32.toInt_inj.mp z)
            have z_2 := congrArg Int32.toInt c_106
            have y_0 : (0 : Int32).toInt = 0 := by decide
            have y_59 : (59 : Int32).toInt = 59 := by decide
            omega
          have hi_212 : (x_159 : Int32).toInt = (sv_98 : Int32).toInt + 1 := by
            have z_1 : ¬ (vy_52 : Int32).toInt = (0 : Int32).toInt := fun z => c_81 (Int32.toInt_inj.mp z)
            have z_2 := congrArg Int32.toInt c_106
            have y_0 : (0 : Int32).toInt = 0 := by decide
            have y_59 : (59 : Int32).toInt = 59 := by decide
            have y_1 : (1 : Int32).toInt = 1 := by decide
            have t_x_159 : x_159.toInt = (sv_98 : Int32).toInt + (1 : Int32).toInt := by rw [ex_159]; exact add_toInt (by omega) (by omega)
            omega
          have hr_213 : 0 ≤ (vy_58 : Int32).toInt := by
            have z_1 : ¬ (vy_52 : Int32).toInt = (0 : Int32).toInt := fun z => c_81 (Int32.toInt_inj.mp z)
            have z_2 := congrArg Int32.toInt c_106
            have y_0 : (0 : Int32).toInt = 0 := by decide
            have y_59 : (59 : Int32).toInt = 59 := by decide
            omega
          have hr_214 : (rB (Mf 1) (Mv 0) (sv_98 : Int32).toInt.toNat = 59) := by
            have z_1 : ¬ (vy_52 : Int32).toInt = (0 : Int32).toInt := fun z => c_81 (Int32.toInt_inj.mp z)
            have z_2 := congrArg Int32.toInt c_106
            have y_0 : (0 : Int32).toInt = 0 := by decide
            have y_59 : (59 : Int32).toInt = 59 := by decide
            omega
          have hi_215 : (x_159 : Int32).toInt = (sv_98 : Int32).toInt + 1 := by
            have z_1 : ¬ (vy_52 : Int32).toInt = (0 : Int32).toInt := fun z => c_81 (Int32.toInt_inj.mp z)
            have z_2 := congrArg Int32.toInt c_106
            have y_0 : (0 : Int32).toInt = 0 := by decide
            have y_59 : (59 : Int32).toInt = 59 := by decide
            have y_1 : (1 : Int32).toInt = 1 := by decide
            have t_x_159 : x_159.toInt = (sv_98 : Int32).toInt + (1 : Int32).toInt := by rw [ex_159]; exact add_toInt (by omega) (by omega)
            omega
          have hr_216 : 0 ≤ (vy_58 : Int32).toInt := by
            have z_1 : ¬ (vy_52 : Int32).toInt = (0 : Int32).toInt := fun z => c_81 (Int32.toInt_inj.mp z)
            have z_2 := congrArg Int32.toInt c_106
            have y_0 : (0 : Int32).toInt = 0 := by decide
            have y_59 : (59 : Int32).toInt = 59 := by decide
            omega
          exact ih_66 r_191 sv_173 sv_174 sv_175 sv_176 sv_177 sv_178 sv_179 sv_180 sv_181 sv_182 sv_183 sv_184 _ _ _ (by omega) ha_199 ha_200 ha_201 (fun z => (hm_194 z).1) pf_187 (Agr.trans (k' := (400 * ((Mv 5) : Int32).toInt)) (Agr.mono pf_73 hr_202) pf_188 ⟨Int.le_refl _, hr_203⟩) (Agr.trans (k' := (48 * ((Mv 5) : Int32).toInt)) (Agr.mono pf_74 hr_204) pf_189 ⟨Int.le_refl _, hr_205⟩) (Agr.trans (k' := ((Mv 5) : Int32).toInt) (Agr.mono pf_75 hr_206) pf_190 ⟨Int.le_refl _, hr_207⟩) (RaL.next (rB_fi h_tp.2) pf_76 hr_210 pf_102 hr_211 hi_212 hc_208 hl_209 hr_213) (RaK.next (rB_fi h_tp.2) pf_164 pf_102 hr_214 hi_215 hc_208.1 (fun z => (hm_194 z).2.2) hl_209 hr_216) (hP.sub [0, 1, 2, 3, 4, 5, 6] rfl) (hD.sub [0, 1, 2, 3, 4, 5, 6] rfl rfl) hS (lv_sub hl [0, 1] rfl)
  have ha_217 : 0 ≤ (sv_14 : Int32).toInt ∧ (sv_14 : Int32).toInt ≤ ((Mv 0) : Int32).toInt ∧ ((Mv 0) : Int32).toInt ≤ 400 := by
    omega
  have ha_218 : 0 ≤ (sv_17 : Int32).toInt ∧ (sv_17 : Int32).toInt ≤ 60 := by
    omega
  have ha_219 : (((r_32 : Int32).toInt = 0 ∧ ¬ (sv_15 : Int32).toInt = 0) ∨ ((r_32 : Int32).toInt = 1 ∧ 0 ≤ (sv_22 (Mv 5).toNatClampNeg).toInt ∧ (sv_22 (Mv 5).toNatClampNeg).toInt ≤ (sv_14 : Int32).toInt ∧ (sv_24 (Mv 5).toInt.toNat).toInt = (sv_19 : Int32).toInt ∧ 0 ≤ (sv_19 : Int32).toInt ∧ (sv_19 : Int32).toInt ≤ 12 ∧ (sv_15 : Int32).toInt = 0)) := by
    omega
  have hc_220 : ClR (rB (Mf 1) (Mv 0)) 0 (0 : Int32) (0 : Int32) r_32 sv_15 sv_14 sv_17 := ⟨fun z => (hm_35 z).2.1, hm_36⟩
  have hl_221 : (r_32 : Int32).toInt = 1 → (sv_19 : Int32).toInt = (0 : Int32).toInt + 1 := by
    intro hz
    omega
  have hl_222 : (r_32 : Int32).toInt = 1 → (sv_19 : Int32).toInt = 1 := by
    intro hz
    have h1 := hl_221 hz
    have h2 : (0 : Int32).toInt = 0 := by decide
    omega
  exact loop_67 _ r_32 sv_14 sv_15 sv_16 sv_17 sv_18 sv_19 sv_20 sv_21 sv_22 sv_23 sv_24 sv_25 _ _ _ (Nat.lt_succ_self _) ha_217 ha_218 ha_219 (fun z => (hm_35 z).1) pf_28 pf_29 pf_30 pf_31 (RaL.first (by decide) (by decide) (by decide) hc_220 hl_222) (RaK.first (by decide) (by decide) hc_220.1 (fun z => (hm_35 z).2.2) hl_222) hP hD hS hl
set_option maxRecDepth 100000 in
theorem cu_kX12_readsAll_r (l : Launch) (D : va_G) (tc : Nat → ClassId) (sk : (Nat → Nat) × (Nat → Nat)) (Ma_0 : Nat) (Ma_1 : Nat) (Ma_2 : Nat) (Ma_3 : Nat) (Ma_4 : Nat) (Ma_5 : Nat) (Ma_6 : Nat) (Ma_7 : Nat) (Ma_8 : Nat) (Ma_9 : Nat) (Ma_10 : Nat) (Ma_11 : Nat) (Ma_12 : Nat) (Ma_13 : Nat) (Ma_14 : Nat) (Ma_15 : Nat) (Ma_16 : Nat) (Ma_17 : Nat) (Ma_18 : Nat) (Ma_19 : Nat) (Ma_20 : Nat) (Mv_0 : Int32) (Mv_1 : Int32) (Mv_2 : Int32) (Mv_3 : Int32) (Mv_4 : Int32) (Mv_5 : Int32) (Mv_6 : Int32) (Mv_7 : Int32) (Mv_8 : Int32) (Mv_9 : Int32) (Mv_10 : Int32) (Mv_11 : Int32) (Mv_12 : Int32) (Mv_13 : Int32) (Mv_14 : Int32) (Mf_1 : Nat → Int32) (Mf_2 : Nat → Int32) (Mf_3 : Nat → Int32) (Mf_4 : Nat → Int32) (Mf_5 : Nat → Int32) (Mf_7 : Nat → Int32) (Mj_0 : Int64) (h_tp : 0 ≤ (Mv_0 : Int32).toInt ∧ (Mv_0 : Int32).toInt ≤ 400) (h_t : 0 ≤ (Mv_5 : Int32).toInt ∧ (Mv_5 : Int32).toInt ≤ 5) (h_rp : RulP Mf_2 Mf_4 Mf_5 Mv_5 0) (h_c : (Mf_5 Mv_5.toInt.toNat).toInt = 0) (h_bs : ByS Mf_1) : Ct l yX12_readsAll cX12_readsAll 2 (some .boolean) { frames := 11, cells := 0, slots := 0, locals := 241 } D tc sk [.ref Ma_0] [(Ma_0, .inr (12, [.ref Ma_1, .int Mv_0, .int Mv_1, .ref Ma_2, .ref Ma_3, .ref Ma_4, .ref Ma_5, .ref Ma_6, .int Mv_2, .int Mv_3, .int Mv_4, .int Mv_5, .int Mv_6, .int Mv_7, .int Mv_8, .ref Ma_7, .int Mv_9, .ref Ma_8, .int Mv_10, .ref Ma_9, .ref Ma_10, .int Mv_11, .int Mv_12, .int Mv_13, .ref Ma_11, .int Mv_14, .ref Ma_12, .ref Ma_13, .ref Ma_14, .ref Ma_15, .ref Ma_16, .long Mj_0, .ref Ma_17, .ref Ma_18, .ref Ma_19, .ref Ma_20])), (Ma_1, .inl (tc 2, 400, .inl Mf_1)), (Ma_2, .inl (tc 0, 2400, .inl Mf_2)), (Ma_3, .inl (tc 0, 7, .inl Mf_3)), (Ma_4, .inl (tc 0, 288, .inl Mf_4)), (Ma_5, .inl (tc 0, 6, .inl Mf_5)), (Ma_7, .inl (tc 0, 400, .inl Mf_7))] (fun (v : Option Value) (u : (Int32) × (Int32) × (Int32) × (Int32) × (Int32) × (Int32) × (Int32) × (Nat → Int32) × (Nat → Int32) × (Nat → Int32) × (Nat → Int32) × (Nat → Int32)) => match u with | (oo0x1, oo0x2, oo0x3, oo0x4, oo0x5, oo0x6, oo0x7, oo0x8, oo0x9, oo0x10, oo0x11, oo0x12) => ∃ r : Int32, v = some (.int r) ∧ (((r.toInt = 0 ∧ ¬ (oo0x2 : Int32).toInt = 0) ∨ (r.toInt = 1 ∧ (oo0x2 : Int32).toInt = 0 ∧ (oo0x11 Mv_5.toInt.toNat).toInt ≤ 12))) ∧ (RulD oo0x8 oo0x10 oo0x11 Mv_5) ∧ (RuE (rB Mf_1 Mv_0) oo0x2) ∧ (Agr Mf_2 oo0x8 (400 * (Mv_5 : Int32).toInt)) ∧ (Agr Mf_4 oo0x10 (48 * (Mv_5 : Int32).toInt)) ∧ (Agr Mf_5 oo0x11 (Mv_5 : Int32).toInt) ∧ (r.toInt = 1 → (RulP oo0x8 oo0x10 oo0x11 Mv_5 ((oo0x9 Mv_5.toNatClampNeg).toInt)) ∧ (RwK oo0x8 oo0x9 oo0x10 oo0x11 Mv_5 (ru_of (rB Mf_1 Mv_0))))) (fun (u : (Int32) × (Int32) × (Int32) × (Int32) × (Int32) × (Int32) × (Int32) × (Nat → Int32) × (Nat → Int32) × (Nat → Int32) × (Nat → Int32) × (Nat → Int32)) => match u with | (oo0x1, oo0x2, oo0x3, oo0x4, oo0x5, oo0x6, oo0x7, oo0x8, oo0x9, oo0x10, oo0x11, oo0x12) => [(Ma_0, .inr (12, [.ref Ma_1, .int 0, .int Mv_1, .ref Ma_2, .ref Ma_3, .ref Ma_4, .ref Ma_5, .ref Ma_6, .int oo0x1, .int oo0x2, .int oo0x3, .int Mv_5, .int oo0x4, .int oo0x5, .int oo0x6, .ref Ma_7, .int oo0x7, .ref Ma_8, .int Mv_10, .ref Ma_9, .ref Ma_10, .int Mv_11, .int Mv_12, .int Mv_13, .ref Ma_11, .int Mv_14, .ref Ma_12, .ref Ma_13, .ref Ma_14, .ref Ma_15, .ref Ma_16, .long Mj_0, .ref Ma_17, .ref Ma_18, .ref Ma_19, .ref Ma_20])), (Ma_1, .inl (tc 2, 400, .inl Mf_1)), (Ma_2, .inl (tc 0, 2400, .inl oo0x8)), (Ma_3, .inl (tc 0, 7, .inl oo0x9)), (Ma_4, .inl (tc 0, 288, .inl oo0x10)), (Ma_5, .inl (tc 0, 6, .inl oo0x11)), (Ma_7, .inl (tc 0, 400, .inl oo0x12))]) 0 0 :=
  ct_kX12_readsAll_r l D tc sk (fun k => ([Ma_0, Ma_1, Ma_2, Ma_3, Ma_4, Ma_5, Ma_6, Ma_7, Ma_8, Ma_9, Ma_10, Ma_11, Ma_12, Ma_13, Ma_14, Ma_15, Ma_16, Ma_17, Ma_18, Ma_19, Ma_20] : List (Nat)).getD k 0) (fun k => ([Mv_0, Mv_1, Mv_2, Mv_3, Mv_4, Mv_5, Mv_6, Mv_7, Mv_8, Mv_9, Mv_10, Mv_11, Mv_12, Mv_13, Mv_14] : List (Int32)).getD k 0) (fun k => ([(fun _ => 0), Mf_1, Mf_2, Mf_3, Mf_4, Mf_5, (fun _ => 0), Mf_7] : List (Nat → Int32)).getD k (fun _ => 0)) (fun k => ([Mj_0] : List (Int64)).getD k 0) h_tp h_t h_rp h_c h_bs
set_option maxHeartbeats 4000000 in
set_option maxRecDepth 100000 in
theorem ct_kX12_rule (l : Launch) (D : va_G) (tc : Nat → ClassId) (sk : (Nat → Nat) × (Nat → Nat)) (Ma : Nat → Nat) (Mv : Nat → Int32) (Mf : Nat → Nat → Int32) (Mj : Nat → Int64) (RL : List RuA) (h_tp : 0 ≤ ((Mv 0) : Int32).toInt ∧ ((Mv 0) : Int32).toInt ≤ 400) (h_r : 0 ≤ ((Mv 1) : Int32).toInt ∧ ((Mv 1) : Int32).toInt ≤ 6) (h_rul : RulD (Mf 2) (Mf 4) (Mf 5) (Mv 1)) (h_bs : ByS (Mf 1)) (h_rs : RwS (Mf 2) (Mf 4) (Mf 5) (Mv 1) RL) : Ct l yX12_rule cX12_rule 1 (some .int) { frames := 12, cells := 0, slots := 0, locals := 262 } D tc sk [.ref (Ma 0)] [((Ma 0), .inr (12, [.ref (Ma 1), .int (Mv 0), .int (Mv 1), .ref (Ma 2), .ref (Ma 3), .ref (Ma 4), .ref (Ma 5), .ref (Ma 6), .int (Mv 2), .int (Mv 3), .int (Mv 4), .int (Mv 5), .int (Mv 6), .int (Mv 7), .int (Mv 8), .ref (Ma 7), .int (Mv 9), .ref (Ma 8), .int (Mv 10), .ref (Ma 9), .ref (Ma 10), .int (Mv 11), .int (Mv 12), .int (Mv 13), .ref (Ma 11), .int (Mv 14), .ref (Ma 12), .ref (Ma 13), .ref (Ma 14), .ref (Ma 15), .ref (Ma 16), .long (Mj 0), .ref (Ma 17), .ref (Ma 18), .ref (Ma 19), .ref (Ma 20)])), ((Ma 1), .inl (tc 2, 400, .inl (Mf 1))), ((Ma 2), .inl (tc 0, 2400, .inl (Mf 2))), ((Ma 3), .inl (tc 0, 7, .inl (Mf 3))), ((Ma 4), .inl (tc 0, 288, .inl (Mf 4))), ((Ma 5), .inl (tc 0, 6, .inl (Mf 5))), ((Ma 7), .inl (tc 0, 400, .inl (Mf 7)))] (fun (v : Option Value) (u : (Int32) × (Int32) × (Int32) × (Int32) × (Int32) × (Int32) × (Int32) × (Int32) × (Int32) × (Int32) × (Nat → Int32) × (Nat → Int32) × (Nat → Int32) × (Nat → Int32) × (Nat → Int32)) => match u with | (oo0x1, oo0x2, oo0x3, oo0x4, oo0x5, oo0x6, oo0x7, oo0x8, oo0x9, oo0x10, oo0x11, oo0x12, oo0x13, oo0x14, oo0x15) => ∃ r : Int32, v = some (.int r) ∧ (RrC (rB (Mf 1) (Mv 0)) (Mv 1) oo0x2 (Mv 0) oo0x1 r) ∧ (0 ≤ (oo0x1 : Int32).toInt ∧ (oo0x1 : Int32).toInt ≤ 400) ∧ (((Mv 1) : Int32).toInt ≤ (oo0x2 : Int32).toInt ∧ (oo0x2 : Int32).toInt ≤ 6) ∧ (RulD oo0x11 oo0x13 oo0x14 oo0x2) ∧ (RwS oo0x11 oo0x13 oo0x14 oo0x2 (rnL (rB (Mf 1) (Mv 0)) RL (Mv 1) oo0x2))) (fun (u : (Int32) × (Int32) × (Int32) × (Int32) × (Int32) × (Int32) × (Int32) × (Int32) × (Int32) × (Int32) × (Nat → Int32) × (Nat → Int32) × (Nat → Int32) × (Nat → Int32) × (Nat → Int32)) => match u with | (oo0x1, oo0x2, oo0x3, oo0x4, oo0x5, oo0x6, oo0x7, oo0x8, oo0x9, oo0x10, oo0x11, oo0x12, oo0x13, oo0x14, oo0x15) => [((Ma 0), .inr (12, [.ref (Ma 1), .int oo0x1, .int oo0x2, .ref (Ma 2), .ref (Ma 3), .ref (Ma 4), .ref (Ma 5), .ref (Ma 6), .int oo0x3, .int oo0x4, .int oo0x5, .int oo0x6, .int oo0x7, .int oo0x8, .int oo0x9, .ref (Ma 7), .int oo0x10, .ref (Ma 8), .int (Mv 10), .ref (Ma 9), .ref (Ma 10), .int (Mv 11), .int (Mv 12), .int (Mv 13), .ref (Ma 11), .int (Mv 14), .ref (Ma 12), .ref (Ma 13), .ref (Ma 14), .ref (Ma 15), .ref (Ma 16), .long (Mj 0), .ref (Ma 17), .ref (Ma 18), .ref (Ma 19), .ref (Ma 20)])), ((Ma 1), .inl (tc 2, 400, .inl (Mf 1))), ((Ma 2), .inl (tc 0, 2400, .inl oo0x11)), ((Ma 3), .inl (tc 0, 7, .inl oo0x12)), ((Ma 4), .inl (tc 0, 288, .inl oo0x13)), ((Ma 5), .inl (tc 0, 6, .inl oo0x14)), ((Ma 7), .inl (tc 0, 400, .inl oo0x15))]) 0 0 := by
  refine Ct.start (by decide) (Nat.le_of_ble_eq_true rfl) (fun p e s m below meth c A ls hx hb hr hlk hin hml hown hts hK hX hP hD hA hl hS => ?_)
  have hl : lv_has ls 1 [(0, .ref (Ma 0))] := hl
  refine lv_aload_n hx hb dX12_rule_0 rfl (lv_at hl 0 rfl) ?_
  refine gf_X12_256 hx hb hts hown hK hP 0 rfl rfl dX12_rule_1 ?_
  refine lv_bipush (v := 6) hx hb dX12_rule_4 (by decide) ?_
  refine lv_icmp_ne (tgt := 11) hx hb dX12_rule_6 (by decide) (fun c_1 => ?_) (fun c_1 => ?_)
  · skip
    refine lv_aload_n hx hb dX12_rule_11 rfl (lv_at hl 0 rfl) ?_
    refine lv_aload_n hx hb dX12_rule_12 rfl (lv_at hl 0 rfl) ?_
    refine gf_X12_256 hx hb hts hown hK hP 0 rfl rfl dX12_rule_13 ?_
    refine pf_X12_145 hx hb hts hown hK hP hD hS 0 rfl (Nat.le_of_ble_eq_true rfl) rfl rfl dX12_rule_16 (fun H locs hP₀ hD₀ hS₀ => ?_)
    replace hP : va_P D classes [((Ma 0), .inr (12, [.ref (Ma 1), .int (Mv 0), .int (Mv 1), .ref (Ma 2), .ref (Ma 3), .ref (Ma 4), .ref (Ma 5), .ref (Ma 6), .int (Mv 2), .int (Mv 3), .int (Mv 4), .int (Mv 1), .int (Mv 6), .int (Mv 7), .int (Mv 8), .ref (Ma 7), .int (Mv 9), .ref (Ma 8), .int (Mv 10), .ref (Ma 9), .ref (Ma 10), .int (Mv 11), .int (Mv 12), .int (Mv 13), .ref (Ma 11), .int (Mv 14), .ref (Ma 12), .ref (Ma 13), .ref (Ma 14), .ref (Ma 15), .ref (Ma 16), .long (Mj 0), .ref (Ma 17), .ref (Ma 18), .ref (Ma 19), .ref (Ma 20)])), ((Ma 1), .inl (tc 2, 400, .inl (Mf 1))), ((Ma 2), .inl (tc 0, 2400, .inl (Mf 2))), ((Ma 3), .inl (tc 0, 7, .inl (Mf 3))), ((Ma 4), .inl (tc 0, 288, .inl (Mf 4))), ((Ma 5), .inl (tc 0, 6, .inl (Mf 5))), ((Ma 7), .inl (tc 0, 400, .inl (Mf 7)))] H := hP₀
    replace hD : va_D A [((Ma 0), .inr (12, [.ref (Ma 1), .int (Mv 0), .int (Mv 1), .ref (Ma 2), .ref (Ma 3), .ref (Ma 4), .ref (Ma 5), .ref (Ma 6), .int (Mv 2), .int (Mv 3), .int (Mv 4), .int (Mv 1), .int (Mv 6), .int (Mv 7), .int (Mv 8), .ref (Ma 7), .int (Mv 9), .ref (Ma 8), .int (Mv 10), .ref (Ma 9), .ref (Ma 10), .int (Mv 11), .int (Mv 12), .int (Mv 13), .ref (Ma 11), .int (Mv 14), .ref (Ma 12), .ref (Ma 13), .ref (Ma 14), .ref (Ma 15), .ref (Ma 16), .long (Mj 0), .ref (Ma 17), .ref (Ma 18), .ref (Ma 19), .ref (Ma 20)])), ((Ma 1), .inl (tc 2, 400, .inl (Mf 1))), ((Ma 2), .inl (tc 0, 2400, .inl (Mf 2))), ((Ma 3), .inl (tc 0, 7, .inl (Mf 3))), ((Ma 4), .inl (tc 0, 288, .inl (Mf 4))), ((Ma 5), .inl (tc 0, 6, .inl (Mf 5))), ((Ma 7), .inl (tc 0, 400, .inl (Mf 7)))] := hD₀
    replace hS := hS₀
    clear hP₀ hD₀ hS₀
    refine lv_aload_n hx hb dX12_rule_19 rfl (lv_at hl 0 rfl) ?_
    refine gf_X12_23 hx hb hts hown hK hP 0 rfl rfl dX12_rule_20 ?_
    refine lv_aload_n hx hb dX12_rule_23 rfl (lv_at hl 0 rfl) ?_
    refine gf_X12_145 hx hb hts hown hK hP 0 rfl rfl dX12_rule_24 ?_
    refine lv_iconst (v := 0) hx hb dX12_rule_27 (by decide) ?_
    have hi_2 : vp_in (Mv 1) 6 := by
      have z_1 : ¬ ((Mv 1) : Int32).toInt = (6 : Int32).toInt := fun z => c_1 (Int32.toInt_inj.mp z)
      have y_6 : (6 : Int32).toInt = 6 := by decide
      refine vp_in_iff.mpr ⟨?_, ?_⟩ <;> omega
    refine st_int hx hb hK hP hD hS 5 0 rfl rfl hi_2 dX12_rule_28 (fun g_3 H locs eg_3 hP₀ hD₀ hS₀ => ?_)
    replace hP : va_P D classes [((Ma 0), .inr (12, [.ref (Ma 1), .int (Mv 0), .int (Mv 1), .ref (Ma 2), .ref (Ma 3), .ref (Ma 4), .ref (Ma 5), .ref (Ma 6), .int (Mv 2), .int (Mv 3), .int (Mv 4), .int (Mv 1), .int (Mv 6), .int (Mv 7), .int (Mv 8), .ref (Ma 7), .int (Mv 9), .ref (Ma 8), .int (Mv 10), .ref (Ma 9), .ref (Ma 10), .int (Mv 11), .int (Mv 12), .int (Mv 13), .ref (Ma 11), .int (Mv 14), .ref (Ma 12), .ref (Ma 13), .ref (Ma 14), .ref (Ma 15), .ref (Ma 16), .long (Mj 0), .ref (Ma 17), .ref (Ma 18), .ref (Ma 19), .ref (Ma 20)])), ((Ma 1), .inl (tc 2, 400, .inl (Mf 1))), ((Ma 2), .inl (tc 0, 2400, .inl (Mf 2))), ((Ma 3), .inl (tc 0, 7, .inl (Mf 3))), ((Ma 4), .inl (tc 0, 288, .inl (Mf 4))), ((Ma 5), .inl (tc 0, 6, .inl g_3)), ((Ma 7), .inl (tc 0, 400, .inl (Mf 7)))] H := hP₀
    replace hD : va_D A [((Ma 0), .inr (12, [.ref (Ma 1), .int (Mv 0), .int (Mv 1), .ref (Ma 2), .ref (Ma 3), .ref (Ma 4), .ref (Ma 5), .ref (Ma 6), .int (Mv 2), .int (Mv 3), .int (Mv 4), .int (Mv 1), .int (Mv 6), .int (Mv 7), .int (Mv 8), .ref (Ma 7), .int (Mv 9), .ref (Ma 8), .int (Mv 10), .ref (Ma 9), .ref (Ma 10), .int (Mv 11), .int (Mv 12), .int (Mv 13), .ref (Ma 11), .int (Mv 14), .ref (Ma 12), .ref (Ma 13), .ref (Ma 14), .ref (Ma 15), .ref (Ma 16), .long (Mj 0), .ref (Ma 17), .ref (Ma 18), .ref (Ma 19), .ref (Ma 20)])), ((Ma 1), .inl (tc 2, 400, .inl (Mf 1))), ((Ma 2), .inl (tc 0, 2400, .inl (Mf 2))), ((Ma 3), .inl (tc 0, 7, .inl (Mf 3))), ((Ma 4), .inl (tc 0, 288, .inl (Mf 4))), ((Ma 5), .inl (tc 0, 6, .inl g_3)), ((Ma 7), .inl (tc 0, 400, .inl (Mf 7)))] := hD₀
    replace hS := hS₀
    clear hP₀ hD₀ hS₀
    have hr_5 : 0 ≤ (Mv 1).toInt := by
      have z_1 : ¬ ((Mv 1) : Int32).toInt = (6 : Int32).toInt := fun z => c_1 (Int32.toInt_inj.mp z)
      have y_6 : (6 : Int32).toInt = 6 := by decide
      omega
    have pf_4 : RulP (Mf 2) (Mf 4) g_3 (Mv 1) 0 := RulP.start h_rul hr_5 eg_3 (by decide)
    have ar_pf_4 := pf_4.2.1
    have kc_g_3 : (g_3 (Mv 1).toInt.toNat).toInt = (0 : Int32).toInt := upd_toInt_at eg_3
    have kz0 : (0 : Int32).toInt = 0 := by decide
    have hr_6 : ((Mv 1) : Int32).toInt ≤ ((((Mv 1) : Int32).toNatClampNeg : Nat) : Int) := by
      have z_1 : ¬ ((Mv 1) : Int32).toInt = (6 : Int32).toInt := fun z => c_1 (Int32.toInt_inj.mp z)
      have y_6 : (6 : Int32).toInt = 6 := by decide
      have hcl : ((Mv 1) : Int32).toNatClampNeg = ((Mv 1) : Int32).toInt.toNat := rfl
      omega
    have pf_7 : Agr (Mf 5) g_3 ((Mv 1) : Int32).toInt := Agr.up eg_3 hr_6
    refine lv_aload_n hx hb dX12_rule_29 rfl (lv_at hl 0 rfl) ?_
    have ha_8 : 0 ≤ ((Mv 1) : Int32).toInt ∧ ((Mv 1) : Int32).toInt ≤ 5 := by
      have z_1 : ¬ ((Mv 1) : Int32).toInt = (6 : Int32).toInt := fun z => c_1 (Int32.toInt_inj.mp z)
      have y_6 : (6 : Int32).toInt = 6 := by decide
      omega
    have ha_9 : (g_3 (Mv 1).toInt.toNat).toInt = 0 := by
      have z_1 : ¬ ((Mv 1) : Int32).toInt = (6 : Int32).toInt := fun z => c_1 (Int32.toInt_inj.mp z)
      have y_6 : (6 : Int32).toInt = 6 := by decide
      omega
    refine cV (a := (Ma 0)) (As := []) (rest := []) (wr := []) ⟨hx, hb, hml, hown, hts⟩ hK hX hA (cu_kX12_readsAll_r l D tc sk (Ma 0) (Ma 1) (Ma 2) (Ma 3) (Ma 4) (Ma 5) (Ma 6) (Ma 7) (Ma 8) (Ma 9) (Ma 10) (Ma 11) (Ma 12) (Ma 13) (Ma 14) (Ma 15) (Ma 16) (Ma 17) (Ma 18) (Ma 19) (Ma 20) (Mv 0) (Mv 1) (Mv 2) (Mv 3) (Mv 4) (Mv 1) (Mv 6) (Mv 7) (Mv 8) (Mv 9) (Mv 10) (Mv 11) (Mv 12) (Mv 13) (Mv 14) (Mf 1) (Mf 2) (Mf 3) (Mf 4) g_3 (Mf 7) (Mj 0) h_tp ha_8 pf_4 ha_9 h_bs) k_1203 k_1200 k_1202 k_25 k_106 pl_X12_readsAll ⟨Nat.le_of_ble_eq_true rfl, Nat.le_of_ble_eq_true rfl⟩ rfl rfl (va_recv hK hP (ci := 12) (q0 := 0) rfl rfl) hP hD hS [0, 1, 2, 3, 4, 5, 6] [] rfl rfl rfl rfl rfl (by decide) rfl hl.1 rfl (Nat.le_of_ble_eq_true rfl) dX12_rule_30 ⟨Nat.le_of_ble_eq_true rfl, Nat.le_of_ble_eq_true rfl⟩ (fun v_10 u_11 H locs hv_12 hP₀ hD₀ hS₀ => ?_)
    obtain ⟨sv_13, sv_14, sv_15, sv_16, sv_17, sv_18, sv_19, sv_20, sv_21, sv_22, sv_23, sv_24⟩ := u_11
    obtain ⟨r_30, rfl, he_31, pf_25, pf_26, pf_27, pf_28, pf_29, hm_33⟩ := hv_12
    have he_31 : ((r_30.toInt = 0 ∧ ¬ (sv_14 : Int32).toInt = 0) ∨ (r_30.toInt = 1 ∧ (sv_14 : Int32).toInt = 0 ∧ (sv_23 (Mv 1).toInt.toNat).toInt ≤ 12)) := he_31
    have pf_25 : RulD sv_20 sv_22 sv_23 (Mv 1) := pf_25
    have pf_26 : RuE (rB (Mf 1) (Mv 0)) sv_14 := pf_26
    have pf_27 : Agr (Mf 2) sv_20 (400 * ((Mv 1) : Int32).toInt) := pf_27
    have hr_35 : 400 * ((Mv 1) : Int32).toInt + 0 ≤ (400 * ((Mv 1) : Int32).toInt) ∧ 0 ≤ ((Mv 1) : Int32).toInt ∧ (0 : Int) ≤ 0 := by
      have z_1 : ¬ ((Mv 1) : Int32).toInt = (6 : Int32).toInt := fun z => c_1 (Int32.toInt_inj.mp z)
      have y_6 : (6 : Int32).toInt = 6 := by decide
      omega
    have pf_34 : RulP sv_20 (Mf 4) g_3 (Mv 1) 0 := RulP.agr pf_4 pf_27 hr_35.2.1 hr_35.1 hr_35.2.2
    have ar_pf_34 := pf_34.2.1
    have pf_28 : Agr (Mf 4) sv_22 (48 * ((Mv 1) : Int32).toInt) := pf_28
    have pf_29 : Agr g_3 sv_23 ((Mv 1) : Int32).toInt := pf_29
    refine W.eq (g2 := F0 m 33 ls [.int r_30]) rfl ?_
    replace hP : va_P D classes [((Ma 0), .inr (12, [.ref (Ma 1), .int 0, .int (Mv 1), .ref (Ma 2), .ref (Ma 3), .ref (Ma 4), .ref (Ma 5), .ref (Ma 6), .int sv_13, .int sv_14, .int sv_15, .int (Mv 1), .int sv_16, .int sv_17, .int sv_18, .ref (Ma 7), .int sv_19, .ref (Ma 8), .int (Mv 10), .ref (Ma 9), .ref (Ma 10), .int (Mv 11), .int (Mv 12), .int (Mv 13), .ref (Ma 11), .int (Mv 14), .ref (Ma 12), .ref (Ma 13), .ref (Ma 14), .ref (Ma 15), .ref (Ma 16), .long (Mj 0), .ref (Ma 17), .ref (Ma 18), .ref (Ma 19), .ref (Ma 20)])), ((Ma 1), .inl (tc 2, 400, .inl (Mf 1))), ((Ma 2), .inl (tc 0, 2400, .inl sv_20)), ((Ma 3), .inl (tc 0, 7, .inl sv_21)), ((Ma 4), .inl (tc 0, 288, .inl sv_22)), ((Ma 5), .inl (tc 0, 6, .inl sv_23)), ((Ma 7), .inl (tc 0, 400, .inl sv_24))] H := hP₀
    replace hD : va_D A [((Ma 0), .inr (12, [.ref (Ma 1), .int 0, .int (Mv 1), .ref (Ma 2), .ref (Ma 3), .ref (Ma 4), .ref (Ma 5), .ref (Ma 6), .int sv_13, .int sv_14, .int sv_15, .int (Mv 1), .int sv_16, .int sv_17, .int sv_18, .ref (Ma 7), .int sv_19, .ref (Ma 8), .int (Mv 10), .ref (Ma 9), .ref (Ma 10), .int (Mv 11), .int (Mv 12), .int (Mv 13), .ref (Ma 11), .int (Mv 14), .ref (Ma 12), .ref (Ma 13), .ref (Ma 14), .ref (Ma 15), .ref (Ma 16), .long (Mj 0), .ref (Ma 17), .ref (Ma 18), .ref (Ma 19), .ref (Ma 20)])), ((Ma 1), .inl (tc 2, 400, .inl (Mf 1))), ((Ma 2), .inl (tc 0, 2400, .inl sv_20)), ((Ma 3), .inl (tc 0, 7, .inl sv_21)), ((Ma 4), .inl (tc 0, 288, .inl sv_22)), ((Ma 5), .inl (tc 0, 6, .inl sv_23)), ((Ma 7), .inl (tc 0, 400, .inl sv_24))] := hD₀
    replace hS := hS₀
    clear hP₀ hD₀ hS₀
    refine lv_if_ne (tgt := 44) hx hb dX12_rule_33 (by decide) (fun c_36 => ?_) (fun c_36 => ?_)
    · skip
      have hz_39 : (r_30 : Int32).toInt = 1 := by
        have z_1 : ¬ ((Mv 1) : Int32).toInt = (6 : Int32).toInt := fun z => c_1 (Int32.toInt_inj.mp z)
        have z_2 : ¬ (r_30 : Int32).toInt = (0 : Int32).toInt := fun z => c_36 (Int32.toInt_inj.mp z)
        have y_0 : (0 : Int32).toInt = 0 := by decide
        have y_6 : (6 : Int32).toInt = 6 := by decide
        omega
      obtain ⟨pf_37, pf_38⟩ := hm_33 hz_39
      have pf_37 : RulP sv_20 sv_22 sv_23 (Mv 1) ((sv_21 (Mv 1).toNatClampNeg).toInt) := pf_37
      have ar_pf_37 := pf_37.2.1
      have pf_38 : RwK sv_20 sv_21 sv_22 sv_23 (Mv 1) (ru_of (rB (Mf 1) (Mv 0))) := pf_38
      refine lv_aload_n hx hb dX12_rule_44 rfl (lv_at hl 0 rfl) ?_
      refine lv_dup hx hb dX12_rule_45 rfl ?_
      refine gf_X12_256 hx hb hts hown hK hP 0 rfl rfl dX12_rule_46 ?_
      refine lv_iconst (v := 1) hx hb dX12_rule_49 (by decide) ?_
      refine lv_iadd hx hb dX12_rule_50 ?_
      refine lv_topi (fun x_40 ex_40 => ?_)
      refine pf_X12_256 hx hb hts hown hK hP hD hS 0 rfl (Nat.le_of_ble_eq_true rfl) rfl rfl dX12_rule_51 (fun H locs hP₀ hD₀ hS₀ => ?_)
      replace hP : va_P D classes [((Ma 0), .inr (12, [.ref (Ma 1), .int 0, .int x_40, .ref (Ma 2), .ref (Ma 3), .ref (Ma 4), .ref (Ma 5), .ref (Ma 6), .int sv_13, .int sv_14, .int sv_15, .int (Mv 1), .int sv_16, .int sv_17, .int sv_18, .ref (Ma 7), .int sv_19, .ref (Ma 8), .int (Mv 10), .ref (Ma 9), .ref (Ma 10), .int (Mv 11), .int (Mv 12), .int (Mv 13), .ref (Ma 11), .int (Mv 14), .ref (Ma 12), .ref (Ma 13), .ref (Ma 14), .ref (Ma 15), .ref (Ma 16), .long (Mj 0), .ref (Ma 17), .ref (Ma 18), .ref (Ma 19), .ref (Ma 20)])), ((Ma 1), .inl (tc 2, 400, .inl (Mf 1))), ((Ma 2), .inl (tc 0, 2400, .inl sv_20)), ((Ma 3), .inl (tc 0, 7, .inl sv_21)), ((Ma 4), .inl (tc 0, 288, .inl sv_22)), ((Ma 5), .inl (tc 0, 6, .inl sv_23)), ((Ma 7), .inl (tc 0, 400, .inl sv_24))] H := hP₀
      replace hD : va_D A [((Ma 0), .inr (12, [.ref (Ma 1), .int 0, .int x_40, .ref (Ma 2), .ref (Ma 3), .ref (Ma 4), .ref (Ma 5), .ref (Ma 6), .int sv_13, .int sv_14, .int sv_15, .int (Mv 1), .int sv_16, .int sv_17, .int sv_18, .ref (Ma 7), .int sv_19, .ref (Ma 8), .int (Mv 10), .ref (Ma 9), .ref (Ma 10), .int (Mv 11), .int (Mv 12), .int (Mv 13), .ref (Ma 11), .int (Mv 14), .ref (Ma 12), .ref (Ma 13), .ref (Ma 14), .ref (Ma 15), .ref (Ma 16), .long (Mj 0), .ref (Ma 17), .ref (Ma 18), .ref (Ma 19), .ref (Ma 20)])), ((Ma 1), .inl (tc 2, 400, .inl (Mf 1))), ((Ma 2), .inl (tc 0, 2400, .inl sv_20)), ((Ma 3), .inl (tc 0, 7, .inl sv_21)), ((Ma 4), .inl (tc 0, 288, .inl sv_22)), ((Ma 5), .inl (tc 0, 6, .inl sv_23)), ((Ma 7), .inl (tc 0, 400, .inl sv_24))] := hD₀
      replace hS := hS₀
      clear hP₀ hD₀ hS₀
      refine lv_aload_n hx hb dX12_rule_54 rfl (lv_at hl 0 rfl) ?_
      refine gf_X12_256 hx hb hts hown hK hP 0 rfl rfl dX12_rule_55 ?_
      refine lv_iconst (v := 1) hx hb dX12_rule_58 (by decide) ?_
      refine lv_isub hx hb dX12_rule_59 ?_
      refine lv_topi (fun x_41 ex_41 => ?_)
      have ha_42 : 0 ≤ (0 : Int32).toInt ∧ (0 : Int32).toInt ≤ 400 := by
        have z_1 : ¬ ((Mv 1) : Int32).toInt = (6 : Int32).toInt := fun z => c_1 (Int32.toInt_inj.mp z)
        have z_2 : ¬ (r_30 : Int32).toInt = (0 : Int32).toInt := fun z => c_36 (Int32.toInt_inj.mp z)
        have y_0 : (0 : Int32).toInt = 0 := by decide
        have y_6 : (6 : Int32).toInt = 6 := by decide
        omega
      have ha_43 : ((Mv 1) : Int32).toInt ≤ (x_40 : Int32).toInt ∧ (x_40 : Int32).toInt ≤ 6 := by
        have z_1 : ¬ ((Mv 1) : Int32).toInt = (6 : Int32).toInt := fun z => c_1 (Int32.toInt_inj.mp z)
        have z_2 : ¬ (r_30 : Int32).toInt = (0 : Int32).toInt := fun z => c_36 (Int32.toInt_inj.mp z)
        have y_0 : (0 : Int32).toInt = 0 := by decide
        have y_6 : (6 : Int32).toInt = 6 := by decide
        have y_1 : (1 : Int32).toInt = 1 := by decide
        have t_x_40 : x_40.toInt = ((Mv 1) : Int32).toInt + (1 : Int32).toInt := by rw [ex_40]; exact add_toInt (by omega) (by omega)
        omega
      have hr_44 : 0 ≤ (Mv 1).toInt := by
        have z_1 : ¬ ((Mv 1) : Int32).toInt = (6 : Int32).toInt := fun z => c_1 (Int32.toInt_inj.mp z)
        have z_2 : ¬ (r_30 : Int32).toInt = (0 : Int32).toInt := fun z => c_36 (Int32.toInt_inj.mp z)
        have y_0 : (0 : Int32).toInt = 0 := by decide
        have y_6 : (6 : Int32).toInt = 6 := by decide
        omega
      have hi_45 : (x_40 : Int32).toInt = (Mv 1).toInt + 1 := by
        have z_1 : ¬ ((Mv 1) : Int32).toInt = (6 : Int32).toInt := fun z => c_1 (Int32.toInt_inj.mp z)
        have z_2 : ¬ (r_30 : Int32).toInt = (0 : Int32).toInt := fun z => c_36 (Int32.toInt_inj.mp z)
        have y_0 : (0 : Int32).toInt = 0 := by decide
        have y_6 : (6 : Int32).toInt = 6 := by decide
        have y_1 : (1 : Int32).toInt = 1 := by decide
        have t_x_40 : x_40.toInt = ((Mv 1) : Int32).toInt + (1 : Int32).toInt := by rw [ex_40]; exact add_toInt (by omega) (by omega)
        omega
      have hr_46 : (sv_23 (Mv 1).toInt.toNat).toInt ≤ 12 := by
        have z_1 : ¬ ((Mv 1) : Int32).toInt = (6 : Int32).toInt := fun z => c_1 (Int32.toInt_inj.mp z)
        have z_2 : ¬ (r_30 : Int32).toInt = (0 : Int32).toInt := fun z => c_36 (Int32.toInt_inj.mp z)
        have y_0 : (0 : Int32).toInt = 0 := by decide
        have y_6 : (6 : Int32).toInt = 6 := by decide
        omega
      have hr_47 : ((Mv 1) : Int32).toInt ≤ ((Mv 1) : Int32).toInt := by
        have z_1 : ¬ ((Mv 1) : Int32).toInt = (6 : Int32).toInt := fun z => c_1 (Int32.toInt_inj.mp z)
        have z_2 : ¬ (r_30 : Int32).toInt = (0 : Int32).toInt := fun z => c_36 (Int32.toInt_inj.mp z)
        have y_0 : (0 : Int32).toInt = 0 := by decide
        have y_6 : (6 : Int32).toInt = 6 := by decide
        omega
      have hr_48 : ((Mv 1) : Int32).toInt ≤ ((Mv 1) : Int32).toInt := by
        have z_1 : ¬ ((Mv 1) : Int32).toInt = (6 : Int32).toInt := fun z => c_1 (Int32.toInt_inj.mp z)
        have z_2 : ¬ (r_30 : Int32).toInt = (0 : Int32).toInt := fun z => c_36 (Int32.toInt_inj.mp z)
        have y_0 : (0 : Int32).toInt = 0 := by decide
        have y_6 : (6 : Int32).toInt = 6 := by decide
        omega
      have hi_49 : (x_40 : Int32).toInt = (Mv 1).toInt + 1 := by
        have z_1 : ¬ ((Mv 1) : Int32).toInt = (6 : Int32).toInt := fun z => c_1 (Int32.toInt_inj.mp z)
        have z_2 : ¬ (r_30 : Int32).toInt = (0 : Int32).toInt := fun z => c_36 (Int32.toInt_inj.mp z)
        have y_0 : (0 : Int32).toInt = 0 := by decide
        have y_6 : (6 : Int32).toInt = 6 := by decide
        have y_1 : (1 : Int32).toInt = 1 := by decide
        have t_x_40 : x_40.toInt = ((Mv 1) : Int32).toInt + (1 : Int32).toInt := by rw [ex_40]; exact add_toInt (by omega) (by omega)
        omega
      have hr_50 : (sv_14 : Int32).toInt = 0 := by
        have z_1 : ¬ ((Mv 1) : Int32).toInt = (6 : Int32).toInt := fun z => c_1 (Int32.toInt_inj.mp z)
        have z_2 : ¬ (r_30 : Int32).toInt = (0 : Int32).toInt := fun z => c_36 (Int32.toInt_inj.mp z)
        have y_0 : (0 : Int32).toInt = 0 := by decide
        have y_6 : (6 : Int32).toInt = 6 := by decide
        omega
      have hr_51 : (Mv 1).toInt < 6 := by
        have z_1 : ¬ ((Mv 1) : Int32).toInt = (6 : Int32).toInt := fun z => c_1 (Int32.toInt_inj.mp z)
        have z_2 : ¬ (r_30 : Int32).toInt = (0 : Int32).toInt := fun z => c_36 (Int32.toInt_inj.mp z)
        have y_0 : (0 : Int32).toInt = 0 := by decide
        have y_6 : (6 : Int32).toInt = 6 := by decide
        omega
      have hr_52 : (0 : Int32).toInt = 0 := by
        have z_1 : ¬ ((Mv 1) : Int32).toInt = (6 : Int32).toInt := fun z => c_1 (Int32.toInt_inj.mp z)
        have z_2 : ¬ (r_30 : Int32).toInt = (0 : Int32).toInt := fun z => c_36 (Int32.toInt_inj.mp z)
        have y_0 : (0 : Int32).toInt = 0 := by decide
        have y_6 : (6 : Int32).toInt = 6 := by decide
        omega
      have hr_53 : (sv_14 : Int32).toInt = 0 := by
        have z_1 : ¬ ((Mv 1) : Int32).toInt = (6 : Int32).toInt := fun z => c_1 (Int32.toInt_inj.mp z)
        have z_2 : ¬ (r_30 : Int32).toInt = (0 : Int32).toInt := fun z => c_36 (Int32.toInt_inj.mp z)
        have y_0 : (0 : Int32).toInt = 0 := by decide
        have y_6 : (6 : Int32).toInt = 6 := by decide
        omega
      have hi_54 : (x_40 : Int32).toInt = (Mv 1).toInt + 1 := by
        have z_1 : ¬ ((Mv 1) : Int32).toInt = (6 : Int32).toInt := fun z => c_1 (Int32.toInt_inj.mp z)
        have z_2 : ¬ (r_30 : Int32).toInt = (0 : Int32).toInt := fun z => c_36 (Int32.toInt_inj.mp z)
        have y_0 : (0 : Int32).toInt = 0 := by decide
        have y_6 : (6 : Int32).toInt = 6 := by decide
        have y_1 : (1 : Int32).toInt = 1 := by decide
        have t_x_40 : x_40.toInt = ((Mv 1) : Int32).toInt + (1 : Int32).toInt := by rw [ex_40]; exact add_toInt (by omega) (by omega)
        omega
      have hi_55 : (x_41 : Int32).toInt = (Mv 1).toInt := by
        have z_1 : ¬ ((Mv 1) : Int32).toInt = (6 : Int32).toInt := fun z => c_1 (Int32.toInt_inj.mp z)
        have z_2 : ¬ (r_30 : Int32).toInt = (0 : Int32).toInt := fun z => c_36 (Int32.toInt_inj.mp z)
        have y_0 : (0 : Int32).toInt = 0 := by decide
        have y_6 : (6 : Int32).toInt = 6 := by decide
        have y_1 : (1 : Int32).toInt = 1 := by decide
        have t_x_40 : x_40.toInt = ((Mv 1) : Int32).toInt + (1 : Int32).toInt := by rw [ex_40]; exact add_toInt (by omega) (by omega)
        have t_x_41 : x_41.toInt = (x_40 : Int32).toInt - (1 : Int32).toInt := by rw [ex_41]; exact sub_toInt (by omega) (by omega)
        omega
      exact retI (v := x_41) hx hb hr hlk (rfl) hP hD hS (0, x_40, sv_13, sv_14, sv_15, (Mv 1), sv_16, sv_17, sv_18, sv_19, sv_20, sv_21, sv_22, sv_23, sv_24) ⟨_, rfl, (Or.inr ⟨hr_51, hr_52, Or.inl ⟨RuE.ok pf_26 hr_53, hi_54, hi_55⟩⟩), ha_42, ha_43, (RulP.done pf_37 hr_44 hi_45 hr_46), (RwS.more h_rs pf_27 pf_28 (Agr.trans (k' := ((Mv 1) : Int32).toInt) (Agr.mono pf_7 hr_47) pf_29 ⟨Int.le_refl _, hr_48⟩) hi_49 pf_38 (RuE.ok pf_26 hr_50))⟩ [0, 1, 2, 3, 4, 5, 6] rfl rfl dX12_rule_60 (Nat.le_of_ble_eq_true rfl) (Nat.le_of_ble_eq_true rfl) rfl
    · skip
      refine lv_bipush (v := (-2)) hx hb dX12_rule_36 (by decide) ?_
      refine lv_aload_n hx hb dX12_rule_38 rfl (lv_at hl 0 rfl) ?_
      refine gf_X12_84 hx hb hts hown hK hP 0 rfl rfl dX12_rule_39 ?_
      refine lv_isub hx hb dX12_rule_42 ?_
      refine lv_topi (fun x_56 ex_56 => ?_)
      have ha_57 : 0 ≤ (0 : Int32).toInt ∧ (0 : Int32).toInt ≤ 400 := by
        have z_1 : ¬ ((Mv 1) : Int32).toInt = (6 : Int32).toInt := fun z => c_1 (Int32.toInt_inj.mp z)
        have z_2 := congrArg Int32.toInt c_36
        have y_0 : (0 : Int32).toInt = 0 := by decide
        have y_6 : (6 : Int32).toInt = 6 := by decide
        omega
      have ha_58 : ((Mv 1) : Int32).toInt ≤ ((Mv 1) : Int32).toInt ∧ ((Mv 1) : Int32).toInt ≤ 6 := by
        have z_1 : ¬ ((Mv 1) : Int32).toInt = (6 : Int32).toInt := fun z => c_1 (Int32.toInt_inj.mp z)
        have z_2 := congrArg Int32.toInt c_36
        have y_0 : (0 : Int32).toInt = 0 := by decide
        have y_6 : (6 : Int32).toInt = 6 := by decide
        omega
      have hr_59 : ((Mv 1) : Int32).toInt ≤ ((Mv 1) : Int32).toInt := by
        have z_1 : ¬ ((Mv 1) : Int32).toInt = (6 : Int32).toInt := fun z => c_1 (Int32.toInt_inj.mp z)
        have z_2 := congrArg Int32.toInt c_36
        have y_0 : (0 : Int32).toInt = 0 := by decide
        have y_6 : (6 : Int32).toInt = 6 := by decide
        omega
      have hr_60 : ((Mv 1) : Int32).toInt ≤ ((Mv 1) : Int32).toInt := by
        have z_1 : ¬ ((Mv 1) : Int32).toInt = (6 : Int32).toInt := fun z => c_1 (Int32.toInt_inj.mp z)
        have z_2 := congrArg Int32.toInt c_36
        have y_0 : (0 : Int32).toInt = 0 := by decide
        have y_6 : (6 : Int32).toInt = 6 := by decide
        omega
      have hr_61 : (Mv 1).toInt < 6 := by
        have z_1 : ¬ ((Mv 1) : Int32).toInt = (6 : Int32).toInt := fun z => c_1 (Int32.toInt_inj.mp z)
        have z_2 := congrArg Int32.toInt c_36
        have y_0 : (0 : Int32).toInt = 0 := by decide
        have y_6 : (6 : Int32).toInt = 6 := by decide
        omega
      have hr_62 : (0 : Int32).toInt = 0 := by
        have z_1 : ¬ ((Mv 1) : Int32).toInt = (6 : Int32).toInt := fun z => c_1 (Int32.toInt_inj.mp z)
        have z_2 := congrArg Int32.toInt c_36
        have y_0 : (0 : Int32).toInt = 0 := by decide
        have y_6 : (6 : Int32).toInt = 6 := by decide
        omega
      have hr_63 : ¬ (sv_14 : Int32).toInt = 0 := by
        have z_1 : ¬ ((Mv 1) : Int32).toInt = (6 : Int32).toInt := fun z => c_1 (Int32.toInt_inj.mp z)
        have z_2 := congrArg Int32.toInt c_36
        have y_0 : (0 : Int32).toInt = 0 := by decide
        have y_6 : (6 : Int32).toInt = 6 := by decide
        omega
      exact retI (v := x_56) hx hb hr hlk (rfl) hP hD hS (0, (Mv 1), sv_13, sv_14, sv_15, (Mv 1), sv_16, sv_17, sv_18, sv_19, sv_20, sv_21, sv_22, sv_23, sv_24) ⟨_, rfl, (Or.inr ⟨hr_61, hr_62, Or.inr ⟨sv_14, RuE.er pf_26 hr_63, rfl, ex_56⟩⟩), ha_57, ha_58, pf_25, (RwS.same h_rs pf_27 pf_28 (Agr.trans (k' := ((Mv 1) : Int32).toInt) (Agr.mono pf_7 hr_59) pf_29 ⟨Int.le_refl _, hr_60⟩) rfl)⟩ [0, 1, 2, 3, 4, 5, 6] rfl rfl dX12_rule_43 (Nat.le_of_ble_eq_true rfl) (Nat.le_of_ble_eq_true rfl) rfl
  · skip
    refine lv_iconst (v := (-1)) hx hb dX12_rule_9 (by decide) ?_
    have ha_64 : ((Mv 1) : Int32).toInt ≤ ((Mv 1) : Int32).toInt ∧ ((Mv 1) : Int32).toInt ≤ 6 := by
      have z_1 := congrArg Int32.toInt c_1
      have y_6 : (6 : Int32).toInt = 6 := by decide
      omega
    have hr_65 : 6 ≤ (Mv 1).toInt := by
      have z_1 := congrArg Int32.toInt c_1
      have y_6 : (6 : Int32).toInt = 6 := by decide
      omega
    have hr_66 : ((-1) : Int32).toInt = -1 := by
      have z_1 := congrArg Int32.toInt c_1
      have y_6 : (6 : Int32).toInt = 6 := by decide
      have y_m1 : (-1 : Int32).toInt = -1 := by decide
      omega
    exact retI (v := (-1)) hx hb hr hlk (rfl) hP hD hS ((Mv 0), (Mv 1), (Mv 2), (Mv 3), (Mv 4), (Mv 5), (Mv 6), (Mv 7), (Mv 8), (Mv 9), (Mf 2), (Mf 3), (Mf 4), (Mf 5), (Mf 7)) ⟨_, rfl, (Or.inl ⟨hr_65, rfl, rfl, hr_66⟩), h_tp, ha_64, h_rul, (RwS.same h_rs (Agr.rf) (Agr.rf) (Agr.rf) rfl)⟩ [0, 1, 2, 3, 4, 5, 6] rfl rfl dX12_rule_10 (Nat.le_of_ble_eq_true rfl) (Nat.le_of_ble_eq_true rfl) rfl
