set_option maxRecDepth 100000 in
theorem cu_dX9_goThroughDay_r (l : Launch) (D : va_G) (tc : Nat → ClassId) (sk : (Nat → Nat) × (Nat → Nat)) (Aa_0 : Nat) (Aa_1 : Nat) (Aa_2 : Nat) (Aa_3 : Nat) (Aa_4 : Nat) (Aa_5 : Nat) (Aa_6 : Nat) (Aa_7 : Nat) (Aa_8 : Nat) (Av_0 : Int32) (Av_1 : Int32) (Av_2 : Int32) (Av_3 : Int32) (Av_4 : Int32) (Av_5 : Int32) (Af_1 : Nat → Int32) (Af_2 : Nat → Int32) (Af_3 : Nat → Int32) (Af_4 : Nat → Int32) (Af_5 : Nat → Int32) (Af_6 : Nat → Int32) (Af_7 : Nat → Int32) (Af_8 : Nat → Int32) (Ra_0 : Nat) (Ra_1 : Nat) (Ra_2 : Nat) (Rf_1 : Nat → Int32) (Rg_2 : Nat → Int64) (Rn : Nat) (hRn : Rn ≤ 400) : Ct l yX9_goThroughDay cX9_goThroughDay 8 (some .int) { frames := 4, cells := 0, slots := 0, locals := 89 } D tc sk [.ref Aa_0, .ref Ra_0] [(Aa_0, .inr (9, [.int Av_0, .int Av_1, .int Av_2, .int Av_3, .int Av_4, .int Av_5, .ref Aa_1, .ref Aa_2, .ref Aa_3, .ref Aa_4, .ref Aa_5, .ref Aa_6, .ref Aa_7, .ref Aa_8])), (Aa_1, .inl (tc 0, 10, .inl Af_1)), (Aa_2, .inl (tc 0, 10, .inl Af_2)), (Aa_3, .inl (tc 0, 6, .inl Af_3)), (Aa_4, .inl (tc 0, 6, .inl Af_4)), (Aa_5, .inl (tc 0, 6, .inl Af_5)), (Aa_6, .inl (tc 0, 6, .inl Af_6)), (Aa_7, .inl (tc 0, 6, .inl Af_7)), (Aa_8, .inl (tc 0, 6, .inl Af_8)), (Ra_0, .inr (6, [.ref Ra_1, .ref Ra_2])), (Ra_1, .inl (tc 0, Rn, .inl Rf_1)), (Ra_2, .inl (tc 1, 64, .inr (.inl Rg_2)))] (fun (v : Option Value) (u : (Int32) × (Int32) × (Int32) × (Nat → Int32) × (Nat → Int32) × (Nat → Int32) × (Nat → Int32) × (Nat → Int64)) => match u with | (oo0x1, oo0x2, oo0x3, oo0x4, oo0x5, oo0x6, oo0x7, oo0x8) => ∃ r : Int32, v = some (.int r) ∧ ((True) ∧ (r, oo0x1, oo0x2, oo0x3, oo0x4, oo0x5, oo0x6, oo0x7, oo0x8) = (dX9_goThroughDay_r Af_1 Af_2 Af_3 Af_4 Af_5 Af_6 Af_7 Af_8 Av_0 Av_1 Av_2 Av_3 Av_4 Av_5 Rf_1 Rg_2 Rn))) (fun (u : (Int32) × (Int32) × (Int32) × (Nat → Int32) × (Nat → Int32) × (Nat → Int32) × (Nat → Int32) × (Nat → Int64)) => match u with | (oo0x1, oo0x2, oo0x3, oo0x4, oo0x5, oo0x6, oo0x7, oo0x8) => [(Aa_0, .inr (9, [.int oo0x1, .int Av_1, .int Av_2, .int Av_3, .int oo0x2, .int oo0x3, .ref Aa_1, .ref Aa_2, .ref Aa_3, .ref Aa_4, .ref Aa_5, .ref Aa_6, .ref Aa_7, .ref Aa_8])), (Aa_1, .inl (tc 0, 10, .inl Af_1)), (Aa_2, .inl (tc 0, 10, .inl Af_2)), (Aa_3, .inl (tc 0, 6, .inl oo0x4)), (Aa_4, .inl (tc 0, 6, .inl Af_4)), (Aa_5, .inl (tc 0, 6, .inl Af_5)), (Aa_6, .inl (tc 0, 6, .inl oo0x5)), (Aa_7, .inl (tc 0, 6, .inl oo0x6)), (Aa_8, .inl (tc 0, 6, .inl oo0x7)), (Ra_0, .inr (6, [.ref Ra_1, .ref Ra_2])), (Ra_1, .inl (tc 0, Rn, .inl Rf_1)), (Ra_2, .inl (tc 1, 64, .inr (.inl oo0x8)))]) 0 0 :=
  ct_dX9_goThroughDay_r l D tc sk (fun k => ([Aa_0, Aa_1, Aa_2, Aa_3, Aa_4, Aa_5, Aa_6, Aa_7, Aa_8] : List (Nat)).getD k 0) (fun k => ([Av_0, Av_1, Av_2, Av_3, Av_4, Av_5] : List (Int32)).getD k 0) (fun k => ([(fun _ => 0), Af_1, Af_2, Af_3, Af_4, Af_5, Af_6, Af_7, Af_8] : List (Nat → Int32)).getD k (fun _ => 0)) (fun k => ([Ra_0, Ra_1, Ra_2] : List (Nat)).getD k 0) (fun k => ([(fun _ => 0), Rf_1] : List (Nat → Int32)).getD k (fun _ => 0)) (fun k => ([(fun _ => 0), (fun _ => 0), Rg_2] : List (Nat → Int64)).getD k (fun _ => 0)) Rn hRn
def dX12_push (Mg_8 : Nat → Int64) (Mv_10 : Int32) (w1 : Int64) : Int32 × (Nat → Int64) := ((Mv_10 + (1 : Int32)), (vp_updL Mg_8 (Mv_10).toNatClampNeg w1))
set_option maxHeartbeats 4000000 in
set_option maxRecDepth 100000 in
theorem ct_dX12_push (l : Launch) (D : va_G) (tc : Nat → ClassId) (sk : (Nat → Nat) × (Nat → Nat)) (Ma : Nat → Nat) (Mv : Nat → Int32) (Mj : Nat → Int64) (Mg : Nat → Nat → Int64) (w1 : Int64) (h_top : 0 ≤ (Mv 10).toInt ∧ (Mv 10).toInt < 64) : Ct l yX12_push cX12_push 3 none { frames := 0, cells := 0, slots := 0, locals := 0 } D tc sk [.ref (Ma 0), .long w1] [((Ma 0), .inr (12, [.ref (Ma 1), .int (Mv 0), .int (Mv 1), .ref (Ma 2), .ref (Ma 3), .ref (Ma 4), .ref (Ma 5), .ref (Ma 6), .int (Mv 2), .int (Mv 3), .int (Mv 4), .int (Mv 5), .int (Mv 6), .int (Mv 7), .int (Mv 8), .ref (Ma 7), .int (Mv 9), .ref (Ma 8), .int (Mv 10), .ref (Ma 9), .ref (Ma 10), .int (Mv 11), .int (Mv 12), .int (Mv 13), .ref (Ma 11), .int (Mv 14), .ref (Ma 12), .ref (Ma 13), .ref (Ma 14), .ref (Ma 15), .ref (Ma 16), .long (Mj 0), .ref (Ma 17), .ref (Ma 18), .ref (Ma 19), .ref (Ma 20)])), ((Ma 8), .inl (tc 1, 64, .inr (.inl (Mg 8))))] (fun (v : Option Value) (u : (Int32) × (Nat → Int64)) => match u with | (oo0x1, oo0x2) => v = none ∧ ((oo0x1 : Int32).toInt = (Mv 10).toInt + 1) ∧ (DEq ((oo0x1, oo0x2)) (dX12_push (Mg 8) (Mv 10) w1))) (fun (u : (Int32) × (Nat → Int64)) => match u with | (oo0x1, oo0x2) => [((Ma 0), .inr (12, [.ref (Ma 1), .int (Mv 0), .int (Mv 1), .ref (Ma 2), .ref (Ma 3), .ref (Ma 4), .ref (Ma 5), .ref (Ma 6), .int (Mv 2), .int (Mv 3), .int (Mv 4), .int (Mv 5), .int (Mv 6), .int (Mv 7), .int (Mv 8), .ref (Ma 7), .int (Mv 9), .ref (Ma 8), .int oo0x1, .ref (Ma 9), .ref (Ma 10), .int (Mv 11), .int (Mv 12), .int (Mv 13), .ref (Ma 11), .int (Mv 14), .ref (Ma 12), .ref (Ma 13), .ref (Ma 14), .ref (Ma 15), .ref (Ma 16), .long (Mj 0), .ref (Ma 17), .ref (Ma 18), .ref (Ma 19), .ref (Ma 20)])), ((Ma 8), .inl (tc 1, 64, .inr (.inl oo0x2)))]) 0 0 := by
  refine Ct.start (by decide) (Nat.le_of_ble_eq_true rfl) (fun p e s m below meth c A ls hx hb hr hlk hin hml hown hts hK hX hP hD hA hl hS => ?_)
  have hl : lv_has ls 3 [(0, .ref (Ma 0)), (1, .long w1)] := hl
  refine lv_aload_n hx hb dX12_push_0 rfl (lv_at hl 0 rfl) ?_
  refine gf_X12_32 hx hb hts hown hK hP 0 rfl rfl dX12_push_1 ?_
  refine lv_aload_n hx hb dX12_push_4 rfl (lv_at hl 0 rfl) ?_
  refine gf_X12_268 hx hb hts hown hK hP 0 rfl rfl dX12_push_5 ?_
  refine lv_lload_n hx hb dX12_push_8 rfl (lv_at hl 1 rfl) ?_
  have hi_1 : vp_in (Mv 10) 64 := by
    refine vp_in_iff.mpr ⟨?_, ?_⟩ <;> omega
  refine st_long hx hb hK hP hD hS 1 1 rfl rfl hi_1 dX12_push_9 (fun g_2 H locs eg_2 hP₀ hD₀ hS₀ => ?_)
  replace hP : va_P D classes [((Ma 0), .inr (12, [.ref (Ma 1), .int (Mv 0), .int (Mv 1), .ref (Ma 2), .ref (Ma 3), .ref (Ma 4), .ref (Ma 5), .ref (Ma 6), .int (Mv 2), .int (Mv 3), .int (Mv 4), .int (Mv 5), .int (Mv 6), .int (Mv 7), .int (Mv 8), .ref (Ma 7), .int (Mv 9), .ref (Ma 8), .int (Mv 10), .ref (Ma 9), .ref (Ma 10), .int (Mv 11), .int (Mv 12), .int (Mv 13), .ref (Ma 11), .int (Mv 14), .ref (Ma 12), .ref (Ma 13), .ref (Ma 14), .ref (Ma 15), .ref (Ma 16), .long (Mj 0), .ref (Ma 17), .ref (Ma 18), .ref (Ma 19), .ref (Ma 20)])), ((Ma 8), .inl (tc 1, 64, .inr (.inl g_2)))] H := hP₀
  replace hD : va_D A [((Ma 0), .inr (12, [.ref (Ma 1), .int (Mv 0), .int (Mv 1), .ref (Ma 2), .ref (Ma 3), .ref (Ma 4), .ref (Ma 5), .ref (Ma 6), .int (Mv 2), .int (Mv 3), .int (Mv 4), .int (Mv 5), .int (Mv 6), .int (Mv 7), .int (Mv 8), .ref (Ma 7), .int (Mv 9), .ref (Ma 8), .int (Mv 10), .ref (Ma 9), .ref (Ma 10), .int (Mv 11), .int (Mv 12), .int (Mv 13), .ref (Ma 11), .int (Mv 14), .ref (Ma 12), .ref (Ma 13), .ref (Ma 14), .ref (Ma 15), .ref (Ma 16), .long (Mj 0), .ref (Ma 17), .ref (Ma 18), .ref (Ma 19), .ref (Ma 20)])), ((Ma 8), .inl (tc 1, 64, .inr (.inl g_2)))] := hD₀
  replace hS := hS₀
  clear hP₀ hD₀ hS₀
  refine lv_aload_n hx hb dX12_push_10 rfl (lv_at hl 0 rfl) ?_
  refine lv_dup hx hb dX12_push_11 rfl ?_
  refine gf_X12_268 hx hb hts hown hK hP 0 rfl rfl dX12_push_12 ?_
  refine lv_iconst (v := 1) hx hb dX12_push_15 (by decide) ?_
  refine lv_iadd hx hb dX12_push_16 ?_
  refine lv_topi (fun x_3 ex_3 => ?_)
  refine pf_X12_268 hx hb hts hown hK hP hD hS 0 rfl (Nat.le_of_ble_eq_true rfl) rfl rfl dX12_push_17 (fun H locs hP₀ hD₀ hS₀ => ?_)
  replace hP : va_P D classes [((Ma 0), .inr (12, [.ref (Ma 1), .int (Mv 0), .int (Mv 1), .ref (Ma 2), .ref (Ma 3), .ref (Ma 4), .ref (Ma 5), .ref (Ma 6), .int (Mv 2), .int (Mv 3), .int (Mv 4), .int (Mv 5), .int (Mv 6), .int (Mv 7), .int (Mv 8), .ref (Ma 7), .int (Mv 9), .ref (Ma 8), .int x_3, .ref (Ma 9), .ref (Ma 10), .int (Mv 11), .int (Mv 12), .int (Mv 13), .ref (Ma 11), .int (Mv 14), .ref (Ma 12), .ref (Ma 13), .ref (Ma 14), .ref (Ma 15), .ref (Ma 16), .long (Mj 0), .ref (Ma 17), .ref (Ma 18), .ref (Ma 19), .ref (Ma 20)])), ((Ma 8), .inl (tc 1, 64, .inr (.inl g_2)))] H := hP₀
  replace hD : va_D A [((Ma 0), .inr (12, [.ref (Ma 1), .int (Mv 0), .int (Mv 1), .ref (Ma 2), .ref (Ma 3), .ref (Ma 4), .ref (Ma 5), .ref (Ma 6), .int (Mv 2), .int (Mv 3), .int (Mv 4), .int (Mv 5), .int (Mv 6), .int (Mv 7), .int (Mv 8), .ref (Ma 7), .int (Mv 9), .ref (Ma 8), .int x_3, .ref (Ma 9), .ref (Ma 10), .int (Mv 11), .int (Mv 12), .int (Mv 13), .ref (Ma 11), .int (Mv 14), .ref (Ma 12), .ref (Ma 13), .ref (Ma 14), .ref (Ma 15), .ref (Ma 16), .long (Mj 0), .ref (Ma 17), .ref (Ma 18), .ref (Ma 19), .ref (Ma 20)])), ((Ma 8), .inl (tc 1, 64, .inr (.inl g_2)))] := hD₀
  replace hS := hS₀
  clear hP₀ hD₀ hS₀
  have ha_4 : (x_3 : Int32).toInt = (Mv 10).toInt + 1 := by
    have y_1 : (1 : Int32).toInt = 1 := by decide
    have t_x_3 : x_3.toInt = ((Mv 10) : Int32).toInt + (1 : Int32).toInt := by rw [ex_3]; exact add_toInt (by omega) (by omega)
    omega
  have hF_5 : (x_3, g_2) = (dX12_push (Mg 8) (Mv 10) w1) := by
    clear hP hD hS hl
    replace eg_2 := eg_2.symm; subst eg_2
    replace ex_3 := ex_3.symm; subst ex_3
    unfold dX12_push
    try rfl
  exact retV hx hb hr hlk hP hD hS (x_3, g_2) ⟨rfl, ha_4, hF_5⟩ [0, 1] rfl rfl dX12_push_20 (Nat.le_of_ble_eq_true rfl) (Nat.le_of_ble_eq_true rfl) rfl
set_option maxRecDepth 100000 in
theorem cu_dX12_push (l : Launch) (D : va_G) (tc : Nat → ClassId) (sk : (Nat → Nat) × (Nat → Nat)) (Ma_0 : Nat) (Ma_1 : Nat) (Ma_2 : Nat) (Ma_3 : Nat) (Ma_4 : Nat) (Ma_5 : Nat) (Ma_6 : Nat) (Ma_7 : Nat) (Ma_8 : Nat) (Ma_9 : Nat) (Ma_10 : Nat) (Ma_11 : Nat) (Ma_12 : Nat) (Ma_13 : Nat) (Ma_14 : Nat) (Ma_15 : Nat) (Ma_16 : Nat) (Ma_17 : Nat) (Ma_18 : Nat) (Ma_19 : Nat) (Ma_20 : Nat) (Mv_0 : Int32) (Mv_1 : Int32) (Mv_2 : Int32) (Mv_3 : Int32) (Mv_4 : Int32) (Mv_5 : Int32) (Mv_6 : Int32) (Mv_7 : Int32) (Mv_8 : Int32) (Mv_9 : Int32) (Mv_10 : Int32) (Mv_11 : Int32) (Mv_12 : Int32) (Mv_13 : Int32) (Mv_14 : Int32) (Mj_0 : Int64) (Mg_8 : Nat → Int64) (w1 : Int64) (h_top : 0 ≤ Mv_10.toInt ∧ Mv_10.toInt < 64) : Ct l yX12_push cX12_push 3 none { frames := 0, cells := 0, slots := 0, locals := 0 } D tc sk [.ref Ma_0, .long w1] [(Ma_0, .inr (12, [.ref Ma_1, .int Mv_0, .int Mv_1, .ref Ma_2, .ref Ma_3, .ref Ma_4, .ref Ma_5, .ref Ma_6, .int Mv_2, .int Mv_3, .int Mv_4, .int Mv_5, .int Mv_6, .int Mv_7, .int Mv_8, .ref Ma_7, .int Mv_9, .ref Ma_8, .int Mv_10, .ref Ma_9, .ref Ma_10, .int Mv_11, .int Mv_12, .int Mv_13, .ref Ma_11, .int Mv_14, .ref Ma_12, .ref Ma_13, .ref Ma_14, .ref Ma_15, .ref Ma_16, .long Mj_0, .ref Ma_17, .ref Ma_18, .ref Ma_19, .ref Ma_20])), (Ma_8, .inl (tc 1, 64, .inr (.inl Mg_8)))] (fun (v : Option Value) (u : (Int32) × (Nat → Int64)) => match u with | (oo0x1, oo0x2) => v = none ∧ ((oo0x1 : Int32).toInt = Mv_10.toInt + 1) ∧ (DEq ((oo0x1, oo0x2)) (dX12_push Mg_8 Mv_10 w1))) (fun (u : (Int32) × (Nat → Int64)) => match u with | (oo0x1, oo0x2) => [(Ma_0, .inr (12, [.ref Ma_1, .int Mv_0, .int Mv_1, .ref Ma_2, .ref Ma_3, .ref Ma_4, .ref Ma_5, .ref Ma_6, .int Mv_2, .int Mv_3, .int Mv_4, .int Mv_5, .int Mv_6, .int Mv_7, .int Mv_8, .ref Ma_7, .int Mv_9, .ref Ma_8, .int oo0x1, .ref Ma_9, .ref Ma_10, .int Mv_11, .int Mv_12, .int Mv_13, .ref Ma_11, .int Mv_14, .ref Ma_12, .ref Ma_13, .ref Ma_14, .ref Ma_15, .ref Ma_16, .long Mj_0, .ref Ma_17, .ref Ma_18, .ref Ma_19, .ref Ma_20])), (Ma_8, .inl (tc 1, 64, .inr (.inl oo0x2)))]) 0 0 :=
  ct_dX12_push l D tc sk (fun k => ([Ma_0, Ma_1, Ma_2, Ma_3, Ma_4, Ma_5, Ma_6, Ma_7, Ma_8, Ma_9, Ma_10, Ma_11, Ma_12, Ma_13, Ma_14, Ma_15, Ma_16, Ma_17, Ma_18, Ma_19, Ma_20] : List (Nat)).getD k 0) (fun k => ([Mv_0, Mv_1, Mv_2, Mv_3, Mv_4, Mv_5, Mv_6, Mv_7, Mv_8, Mv_9, Mv_10, Mv_11, Mv_12, Mv_13, Mv_14] : List (Int32)).getD k 0) (fun k => ([Mj_0] : List (Int64)).getD k 0) (fun k => ([(fun _ => 0), (fun _ => 0), (fun _ => 0), (fun _ => 0), (fun _ => 0), (fun _ => 0), (fun _ => 0), (fun _ => 0), Mg_8] : List (Nat → Int64)).getD k (fun _ => 0)) w1 h_top
def dX12_pop (Mg_8 : Nat → Int64) (Mv_10 : Int32) : Int64 × Int32 := ((Mg_8 ((Mv_10 - (1 : Int32))).toNatClampNeg), (Mv_10 - (1 : Int32)))
set_option maxHeartbeats 4000000 in
set_option maxRecDepth 100000 in
theorem ct_dX12_pop (l : Launch) (D : va_G) (tc : Nat → ClassId) (sk : (Nat → Nat) × (Nat → Nat)) (Ma : Nat → Nat) (Mv : Nat → Int32) (Mj : Nat → Int64) (Mg : Nat → Nat → Int64) (h_top : 1 ≤ (Mv 10).toInt ∧ (Mv 10).toInt ≤ 64) : Ct l yX12_pop cX12_pop 1 (some .long) { frames := 0, cells := 0, slots := 0, locals := 0 } D tc sk [.ref (Ma 0)] [((Ma 0), .inr (12, [.ref (Ma 1), .int (Mv 0), .int (Mv 1), .ref (Ma 2), .ref (Ma 3), .ref (Ma 4), .ref (Ma 5), .ref (Ma 6), .int (Mv 2), .int (Mv 3), .int (Mv 4), .int (Mv 5), .int (Mv 6), .int (Mv 7), .int (Mv 8), .ref (Ma 7), .int (Mv 9), .ref (Ma 8), .int (Mv 10), .ref (Ma 9), .ref (Ma 10), .int (Mv 11), .int (Mv 12), .int (Mv 13), .ref (Ma 11), .int (Mv 14), .ref (Ma 12), .ref (Ma 13), .ref (Ma 14), .ref (Ma 15), .ref (Ma 16), .long (Mj 0), .ref (Ma 17), .ref (Ma 18), .ref (Ma 19), .ref (Ma 20)])), ((Ma 8), .inl (tc 1, 64, .inr (.inl (Mg 8))))] (fun (v : Option Value) (oo0x1 : Int32) => ∃ r : Int64, v = some (.long r) ∧ ((True) ∧ (r, oo0x1) = (dX12_pop (Mg 8) (Mv 10))) ∧ ((oo0x1 : Int32).toInt = (Mv 10).toInt - 1)) (fun (oo0x1 : Int32) => [((Ma 0), .inr (12, [.ref (Ma 1), .int (Mv 0), .int (Mv 1), .ref (Ma 2), .ref (Ma 3), .ref (Ma 4), .ref (Ma 5), .ref (Ma 6), .int (Mv 2), .int (Mv 3), .int (Mv 4), .int (Mv 5), .int (Mv 6), .int (Mv 7), .int (Mv 8), .ref (Ma 7), .int (Mv 9), .ref (Ma 8), .int oo0x1, .ref (Ma 9), .ref (Ma 10), .int (Mv 11), .int (Mv 12), .int (Mv 13), .ref (Ma 11), .int (Mv 14), .ref (Ma 12), .ref (Ma 13), .ref (Ma 14), .ref (Ma 15), .ref (Ma 16), .long (Mj 0), .ref (Ma 17), .ref (Ma 18), .ref (Ma 19), .ref (Ma 20)])), ((Ma 8), .inl (tc 1, 64, .inr (.inl (Mg 8))))]) 0 0 := by
  refine Ct.start (by decide) (Nat.le_of_ble_eq_true rfl) (fun p e s m below meth c A ls hx hb hr hlk hin hml hown hts hK hX hP hD hA hl hS => ?_)
  have hl : lv_has ls 1 [(0, .ref (Ma 0))] := hl
  refine lv_aload_n hx hb dX12_pop_0 rfl (lv_at hl 0 rfl) ?_
  refine lv_dup hx hb dX12_pop_1 rfl ?_
  refine gf_X12_268 hx hb hts hown hK hP 0 rfl rfl dX12_pop_2 ?_
  refine lv_iconst (v := 1) hx hb dX12_pop_5 (by decide) ?_
  refine lv_isub hx hb dX12_pop_6 ?_
  refine lv_topi (fun x_1 ex_1 => ?_)
  refine pf_X12_268 hx hb hts hown hK hP hD hS 0 rfl (Nat.le_of_ble_eq_true rfl) rfl rfl dX12_pop_7 (fun H locs hP₀ hD₀ hS₀ => ?_)
  replace hP : va_P D classes [((Ma 0), .inr (12, [.ref (Ma 1), .int (Mv 0), .int (Mv 1), .ref (Ma 2), .ref (Ma 3), .ref (Ma 4), .ref (Ma 5), .ref (Ma 6), .int (Mv 2), .int (Mv 3), .int (Mv 4), .int (Mv 5), .int (Mv 6), .int (Mv 7), .int (Mv 8), .ref (Ma 7), .int (Mv 9), .ref (Ma 8), .int x_1, .ref (Ma 9), .ref (Ma 10), .int (Mv 11), .int (Mv 12), .int (Mv 13), .ref (Ma 11), .int (Mv 14), .ref (Ma 12), .ref (Ma 13), .ref (Ma 14), .ref (Ma 15), .ref (Ma 16), .long (Mj 0), .ref (Ma 17), .ref (Ma 18), .ref (Ma 19), .ref (Ma 20)])), ((Ma 8), .inl (tc 1, 64, .inr (.inl (Mg 8))))] H := hP₀
  replace hD : va_D A [((Ma 0), .inr (12, [.ref (Ma 1), .int (Mv 0), .int (Mv 1), .ref (Ma 2), .ref (Ma 3), .ref (Ma 4), .ref (Ma 5), .ref (Ma 6), .int (Mv 2), .int (Mv 3), .int (Mv 4), .int (Mv 5), .int (Mv 6), .int (Mv 7), .int (Mv 8), .ref (Ma 7), .int (Mv 9), .ref (Ma 8), .int x_1, .ref (Ma 9), .ref (Ma 10), .int (Mv 11), .int (Mv 12), .int (Mv 13), .ref (Ma 11), .int (Mv 14), .ref (Ma 12), .ref (Ma 13), .ref (Ma 14), .ref (Ma 15), .ref (Ma 16), .long (Mj 0), .ref (Ma 17), .ref (Ma 18), .ref (Ma 19), .ref (Ma 20)])), ((Ma 8), .inl (tc 1, 64, .inr (.inl (Mg 8))))] := hD₀
  replace hS := hS₀
  clear hP₀ hD₀ hS₀
  refine lv_aload_n hx hb dX12_pop_10 rfl (lv_at hl 0 rfl) ?_
  refine gf_X12_32 hx hb hts hown hK hP 0 rfl rfl dX12_pop_11 ?_
  refine lv_aload_n hx hb dX12_pop_14 rfl (lv_at hl 0 rfl) ?_
  refine gf_X12_268 hx hb hts hown hK hP 0 rfl rfl dX12_pop_15 ?_
  have hi_2 : vp_in x_1 64 := by
    have y_1 : (1 : Int32).toInt = 1 := by decide
    have t_x_1 : x_1.toInt = ((Mv 10) : Int32).toInt - (1 : Int32).toInt := by rw [ex_1]; exact sub_toInt (by omega) (by omega)
    refine vp_in_iff.mpr ⟨?_, ?_⟩ <;> omega
  refine va_lald hx hb hK hP 1 1 rfl rfl hi_2 dX12_pop_18 ?_
  refine lv_topl (fun x_3 ex_3 => ?_)
  have ha_4 : (x_1 : Int32).toInt = (Mv 10).toInt - 1 := by
    have y_1 : (1 : Int32).toInt = 1 := by decide
    have t_x_1 : x_1.toInt = ((Mv 10) : Int32).toInt - (1 : Int32).toInt := by rw [ex_1]; exact sub_toInt (by omega) (by omega)
    omega
  have hF_5 : (x_3, x_1) = (dX12_pop (Mg 8) (Mv 10)) := by
    clear hP hD hS hl
    replace ex_1 := ex_1.symm; subst ex_1
    replace ex_3 := ex_3.symm; subst ex_3
    unfold dX12_pop
    try rfl
  exact retL (v := x_3) hx hb hr hlk hP hD hS x_1 ⟨_, rfl, ⟨trivial, hF_5⟩, ha_4⟩ [0, 1] rfl rfl dX12_pop_19 (Nat.le_of_ble_eq_true rfl) (Nat.le_of_ble_eq_true rfl) rfl
set_option maxRecDepth 100000 in
theorem cu_dX12_pop (l : Launch) (D : va_G) (tc : Nat → ClassId) (sk : (Nat → Nat) × (Nat → Nat)) (Ma_0 : Nat) (Ma_1 : Nat) (Ma_2 : Nat) (Ma_3 : Nat) (Ma_4 : Nat) (Ma_5 : Nat) (Ma_6 : Nat) (Ma_7 : Nat) (Ma_8 : Nat) (Ma_9 : Nat) (Ma_10 : Nat) (Ma_11 : Nat) (Ma_12 : Nat) (Ma_13 : Nat) (Ma_14 : Nat) (Ma_15 : Nat) (Ma_16 : Nat) (Ma_17 : Nat) (Ma_18 : Nat) (Ma_19 : Nat) (Ma_20 : Nat) (Mv_0 : Int32) (Mv_1 : Int32) (Mv_2 : Int32) (Mv_3 : Int32) (Mv_4 : Int32) (Mv_5 : Int32) (Mv_6 : Int32) (Mv_7 : Int32) (Mv_8 : Int32) (Mv_9 : Int32) (Mv_10 : Int32) (Mv_11 : Int32) (Mv_12 : Int32) (Mv_13 : Int32) (Mv_14 : Int32) (Mj_0 : Int64) (Mg_8 : Nat → Int64) (h_top : 1 ≤ Mv_10.toInt ∧ Mv_10.toInt ≤ 64) : Ct l yX12_pop cX12_pop 1 (some .long) { frames := 0, cells := 0, slots := 0, locals := 0 } D tc sk [.ref Ma_0] [(Ma_0, .inr (12, [.ref Ma_1, .int Mv_0, .int Mv_1, .ref Ma_2, .ref Ma_3, .ref Ma_4, .ref Ma_5, .ref Ma_6, .int Mv_2, .int Mv_3, .int Mv_4, .int Mv_5, .int Mv_6, .int Mv_7, .int Mv_8, .ref Ma_7, .int Mv_9, .ref Ma_8, .int Mv_10, .ref Ma_9, .ref Ma_10, .int Mv_11, .int Mv_12, .int Mv_13, .ref Ma_11, .int Mv_14, .ref Ma_12, .ref Ma_13, .ref Ma_14, .ref Ma_15, .ref Ma_16, .long Mj_0, .ref Ma_17, .ref Ma_18, .ref Ma_19, .ref Ma_20])), (Ma_8, .inl (tc 1, 64, .inr (.inl Mg_8)))] (fun (v : Option Value) (oo0x1 : Int32) => ∃ r : Int64, v = some (.long r) ∧ ((True) ∧ (r, oo0x1) = (dX12_pop Mg_8 Mv_10)) ∧ ((oo0x1 : Int32).toInt = Mv_10.toInt - 1)) (fun (oo0x1 : Int32) => [(Ma_0, .inr (12, [.ref Ma_1, .int Mv_0, .int Mv_1, .ref Ma_2, .ref Ma_3, .ref Ma_4, .ref Ma_5, .ref Ma_6, .int Mv_2, .int Mv_3, .int Mv_4, .int Mv_5, .int Mv_6, .int Mv_7, .int Mv_8, .ref Ma_7, .int Mv_9, .ref Ma_8, .int oo0x1, .ref Ma_9, .ref Ma_10, .int Mv_11, .int Mv_12, .int Mv_13, .ref Ma_11, .int Mv_14, .ref Ma_12, .ref Ma_13, .ref Ma_14, .ref Ma_15, .ref Ma_16, .long Mj_0, .ref Ma_17, .ref Ma_18, .ref Ma_19, .ref Ma_20])), (Ma_8, .inl (tc 1, 64, .inr (.inl Mg_8)))]) 0 0 :=
  ct_dX12_pop l D tc sk (fun k => ([Ma_0, Ma_1, Ma_2, Ma_3, Ma_4, Ma_5, Ma_6, Ma_7, Ma_8, Ma_9, Ma_10, Ma_11, Ma_12, Ma_13, Ma_14, Ma_15, Ma_16, Ma_17, Ma_18, Ma_19, Ma_20] : List (Nat)).getD k 0) (fun k => ([Mv_0, Mv_1, Mv_2, Mv_3, Mv_4, Mv_5, Mv_6, Mv_7, Mv_8, Mv_9, Mv_10, Mv_11, Mv_12, Mv_13, Mv_14] : List (Int32)).getD k 0) (fun k => ([Mj_0] : List (Int64)).getD k 0) (fun k => ([(fun _ => 0), (fun _ => 0), (fun _ => 0), (fun _ => 0), (fun _ => 0), (fun _ => 0), (fun _ => 0), (fun _ => 0), Mg_8] : List (Nat → Int64)).getD k (fun _ => 0)) h_top
def dX12_one (x1 : Int32) (w1 : Int64) (w2 : Int64) : Int64 := (if x1 = (2 : Int32) then (w1 + w2) else (if x1 = (3 : Int32) then (w1 - w2) else (if x1 = (4 : Int32) then (w1 * w2) else (if x1 = (5 : Int32) then (if (lg_cmp w2 (0 : Int64)) = (0 : Int32) then (0 : Int64) else (w1 / w2)) else (if x1 = (6 : Int32) then (if (0 : Int32) ≤ (lg_cmp w1 w2) then (0 : Int64) else (1 : Int64)) else (if x1 = (7 : Int32) then (if (0 : Int32) < (lg_cmp w1 w2) then (0 : Int64) else (1 : Int64)) else (if x1 = (8 : Int32) then (if (lg_cmp w1 w2) = (0 : Int32) then (1 : Int64) else (0 : Int64)) else (if x1 = (9 : Int32) then (if (lg_cmp w1 w2) < (0 : Int32) then (0 : Int64) else (1 : Int64)) else (if x1 = (10 : Int32) then (if (lg_cmp w1 w2) ≤ (0 : Int32) then (0 : Int64) else (1 : Int64)) else (if x1 = (11 : Int32) then (w1 ||| w2) else (if x1 = (12 : Int32) then (w1 &&& w2) else (if x1 = (13 : Int32) then (w1 ||| w2) else (if x1 = (14 : Int32) then (if (lg_cmp w2 (0 : Int64)) = (0 : Int32) then (0 : Int64) else (w1 - w1 / w2 * w2)) else (w1 ||| w2))))))))))))))
set_option maxHeartbeats 4000000 in
set_option maxRecDepth 100000 in
theorem ct_dX12_one (l : Launch) (D : va_G) (tc : Nat → ClassId) (sk : (Nat → Nat) × (Nat → Nat)) (x1 : Int32) (w1 : Int64) (w2 : Int64)  : Ct l yX12_one cX12_one 5 (some .long) { frames := 0, cells := 0, slots := 0, locals := 0 } D tc sk [.int x1, .long w1, .long w2] [] (fun (v : Option Value) (_ : Unit) => ∃ r : Int64, v = some (.long r) ∧ ((True) ∧ r = (dX12_one x1 w1 w2))) (fun (_ : Unit) => []) 0 0 := by
  refine Ct.start (by decide) (Nat.le_of_ble_eq_true rfl) (fun p e s m below meth c A ls hx hb hr hlk hin hml hown hts hK hX hP hD hA hl hS => ?_)
  have hl : lv_has ls 5 [(0, .int x1), (1, .long w1), (3, .long w2)] := hl
  refine lv_iload_n hx hb dX12_one_0 rfl (lv_at hl 0 rfl) ?_
  refine lv_topi (fun x_1 ex_1 => ?_)
  by_cases c_2 : x_1 = 2
  · skip
    subst c_2
    refine lv_tableIn (off := 67) (tgt := 68) hx hb dX12_one_1 (by decide) (by decide) (by decide) (by decide) ?_
    refine lv_lload_n hx hb dX12_one_68 rfl (lv_at hl 1 rfl) ?_
    refine lv_lload_n hx hb dX12_one_69 rfl (lv_at hl 2 rfl) ?_
    refine lv_ladd hx hb dX12_one_70 ?_
    refine lv_topl (fun x_3 ex_3 => ?_)
    have hF_4 : x_3 = (dX12_one x1 w1 w2) := by
      clear hP hD hS hl
      replace ex_3 := ex_3.symm; subst ex_3
      unfold dX12_one
      rw [if_pos ex_1.symm]
      try rfl
    exact retL (v := x_3) hx hb hr hlk hP hD hS () ⟨_, rfl, ⟨trivial, hF_4⟩⟩ [] rfl rfl dX12_one_71 (Nat.le_of_ble_eq_true rfl) (Nat.le_of_ble_eq_true rfl) rfl
  · skip
    by_cases c_5 : x_1 = 3
    · skip
      subst c_5
      refine lv_tableIn (off := 71) (tgt := 72) hx hb dX12_one_1 (by decide) (by decide) (by decide) (by decide) ?_
      refine lv_lload_n hx hb dX12_one_72 rfl (lv_at hl 1 rfl) ?_
      refine lv_lload_n hx hb dX12_one_73 rfl (lv_at hl 2 rfl) ?_
      refine lv_lsub hx hb dX12_one_74 ?_
      refine lv_topl (fun x_6 ex_6 => ?_)
      have hF_7 : x_6 = (dX12_one x1 w1 w2) := by
        clear hP hD hS hl
        replace ex_6 := ex_6.symm; subst ex_6
        unfold dX12_one
        rw [if_neg (fun z => c_2 (ex_1.trans z)), if_pos ex_1.symm]
        try rfl
      exact retL (v := x_6) hx hb hr hlk hP hD hS () ⟨_, rfl, ⟨trivial, hF_7⟩⟩ [] rfl rfl dX12_one_75 (Nat.le_of_ble_eq_true rfl) (Nat.le_of_ble_eq_true rfl) rfl
    · skip
      by_cases c_8 : x_1 = 4
      · skip
        subst c_8
        refine lv_tableIn (off := 75) (tgt := 76) hx hb dX12_one_1 (by decide) (by decide) (by decide) (by decide) ?_
        refine lv_lload_n hx hb dX12_one_76 rfl (lv_at hl 1 rfl) ?_
        refine lv_lload_n hx hb dX12_one_77 rfl (lv_at hl 2 rfl) ?_
        refine lv_lmul hx hb dX12_one_78 ?_
        refine lv_topl (fun x_9 ex_9 => ?_)
        have hF_10 : x_9 = (dX12_one x1 w1 w2) := by
          clear hP hD hS hl
          replace ex_9 := ex_9.symm; subst ex_9
          unfold dX12_one
          rw [if_neg (fun z => c_2 (ex_1.trans z)), if_neg (fun z => c_5 (ex_1.trans z)), if_pos ex_1.symm]
          try rfl
        exact retL (v := x_9) hx hb hr hlk hP hD hS () ⟨_, rfl, ⟨trivial, hF_10⟩⟩ [] rfl rfl dX12_one_79 (Nat.le_of_ble_eq_true rfl) (Nat.le_of_ble_eq_true rfl) rfl
      · skip
        by_cases c_11 : x_1 = 5
        · skip
          subst c_11
          refine lv_tableIn (off := 79) (tgt := 80) hx hb dX12_one_1 (by decide) (by decide) (by decide) (by decide) ?_
          refine lv_lload_n hx hb dX12_one_80 rfl (lv_at hl 2 rfl) ?_
          refine lv_lconst (v := 0) hx hb dX12_one_81 (by decide) ?_
          refine W.lcmp hx hb dX12_one_82 ?_
          refine lv_topi (fun x_12 ex_12 => ?_)
          refine lv_if_ne (tgt := 90) hx hb dX12_one_83 (by decide) (fun c_13 => ?_) (fun c_13 => ?_)
          · skip
            refine lv_lload_n hx hb dX12_one_90 rfl (lv_at hl 1 rfl) ?_
            refine lv_lload_n hx hb dX12_one_91 rfl (lv_at hl 2 rfl) ?_
            have hz_15 : ¬ w2 = 0 := fun z => c_13 (ex_12.trans ((lg_cmp_eq _ _).mpr z))
            refine lv_ldiv hx hb dX12_one_92 hz_15 ?_
            refine lv_topl (fun x_16 ex_16 => ?_)
            have hF_17 : x_16 = (dX12_one x1 w1 w2) := by
              clear hP hD hS hl
              replace ex_12 := ex_12.symm; subst ex_12
              replace ex_16 := ex_16.symm; subst ex_16
              unfold dX12_one
              rw [if_neg (fun z => c_2 (ex_1.trans z)), if_neg (fun z => c_5 (ex_1.trans z)), if_neg (fun z => c_8 (ex_1.trans z)), if_pos ex_1.symm, if_neg c_13]
              try rfl
            exact retL (v := x_16) hx hb hr hlk hP hD hS () ⟨_, rfl, ⟨trivial, hF_17⟩⟩ [] rfl rfl dX12_one_93 (Nat.le_of_ble_eq_true rfl) (Nat.le_of_ble_eq_true rfl) rfl
          · skip
            have lz_18 : (w2 : Int64).toInt = (0 : Int64).toInt := by have hc := c_13; rw [ex_12] at hc; exact congrArg Int64.toInt ((lg_cmp_eq _ _).mp hc)
            refine lv_lconst (v := 0) hx hb dX12_one_86 (by decide) ?_
            refine lv_goto (tgt := 93) hx hb dX12_one_87 (by decide) ?_
            have hF_19 : (0 : Int64) = (dX12_one x1 w1 w2) := by
              clear hP hD hS hl
              replace ex_12 := ex_12.symm; subst ex_12
              unfold dX12_one
              rw [if_neg (fun z => c_2 (ex_1.trans z)), if_neg (fun z => c_5 (ex_1.trans z)), if_neg (fun z => c_8 (ex_1.trans z)), if_pos ex_1.symm, if_pos c_13]
              try rfl
            exact retL (v := 0) hx hb hr hlk hP hD hS () ⟨_, rfl, ⟨trivial, hF_19⟩⟩ [] rfl rfl dX12_one_93 (Nat.le_of_ble_eq_true rfl) (Nat.le_of_ble_eq_true rfl) rfl
        · skip
          by_cases c_20 : x_1 = 6
          · skip
            subst c_20
            refine lv_tableIn (off := 107) (tgt := 108) hx hb dX12_one_1 (by decide) (by decide) (by decide) (by decide) ?_
            refine lv_lload_n hx hb dX12_one_108 rfl (lv_at hl 1 rfl) ?_
            refine lv_lload_n hx hb dX12_one_109 rfl (lv_at hl 2 rfl) ?_
            refine W.lcmp hx hb dX12_one_110 ?_
            refine lv_topi (fun x_21 ex_21 => ?_)
            refine lv_if_ge (tgt := 118) hx hb dX12_one_111 (by decide) (fun c_22 => ?_) (fun c_22 => ?_)
            · skip
              have lz_23 : (w2 : Int64).toInt ≤ (w1 : Int64).toInt := by have hc := c_22; rw [ex_21] at hc; exact Int64.le_iff_toInt_le.mp ((lg_cmp_ge _ _).mp hc)
              refine lv_lconst (v := 0) hx hb dX12_one_118 (by decide) ?_
              have hF_24 : (0 : Int64) = (dX12_one x1 w1 w2) := by
                clear hP hD hS hl
                replace ex_21 := ex_21.symm; subst ex_21
                unfold dX12_one
                rw [if_neg (fun z => c_2 (ex_1.trans z)), if_neg (fun z => c_5 (ex_1.trans z)), if_neg (fun z => c_8 (ex_1.trans z)), if_neg (fun z => c_11 (ex_1.trans z)), if_pos ex_1.symm, if_pos c_22]
                try rfl
              exact retL (v := 0) hx hb hr hlk hP hD hS () ⟨_, rfl, ⟨trivial, hF_24⟩⟩ [] rfl rfl dX12_one_119 (Nat.le_of_ble_eq_true rfl) (Nat.le_of_ble_eq_true rfl) rfl
            · skip
              have lz_25 : (w1 : Int64).toInt < (w2 : Int64).toInt := by have hc := c_22; rw [ex_21] at hc; exact Int64.lt_iff_toInt_lt.mp (Int64.not_le.mp (fun z => hc ((lg_cmp_ge _ _).mpr z)))
              refine lv_lconst (v := 1) hx hb dX12_one_114 (by decide) ?_
              refine lv_goto (tgt := 119) hx hb dX12_one_115 (by decide) ?_
              have hF_26 : (1 : Int64) = (dX12_one x1 w1 w2) := by
                clear hP hD hS hl
                replace ex_21 := ex_21.symm; subst ex_21
                unfold dX12_one
                rw [if_neg (fun z => c_2 (ex_1.trans z)), if_neg (fun z => c_5 (ex_1.trans z)), if_neg (fun z => c_8 (ex_1.trans z)), if_neg (fun z => c_11 (ex_1.trans z)), if_pos ex_1.symm, if_neg c_22]
                try rfl
              exact retL (v := 1) hx hb hr hlk hP hD hS () ⟨_, rfl, ⟨trivial, hF_26⟩⟩ [] rfl rfl dX12_one_119 (Nat.le_of_ble_eq_true rfl) (Nat.le_of_ble_eq_true rfl) rfl
          · skip
            by_cases c_27 : x_1 = 7
            · skip
              subst c_27
              refine lv_tableIn (off := 119) (tgt := 120) hx hb dX12_one_1 (by decide) (by decide) (by decide) (by decide) ?_
              refine lv_lload_n hx hb dX12_one_120 rfl (lv_at hl 1 rfl) ?_
              refine lv_lload_n hx hb dX12_one_121 rfl (lv_at hl 2 rfl) ?_
              refine W.lcmp hx hb dX12_one_122 ?_
              refine lv_topi (fun x_28 ex_28 => ?_)
              refine lv_if_gt (tgt := 130) hx hb dX12_one_123 (by decide) (fun c_29 => ?_) (fun c_29 => ?_)
              · skip
                have lz_30 : (w2 : Int64).toInt < (w1 : Int64).toInt := by have hc := c_29; rw [ex_28] at hc; exact Int64.lt_iff_toInt_lt.mp ((lg_cmp_gt _ _).mp hc)
                refine lv_lconst (v := 0) hx hb dX12_one_130 (by decide) ?_
                have hF_31 : (0 : Int64) = (dX12_one x1 w1 w2) := by
                  clear hP hD hS hl
                  replace ex_28 := ex_28.symm; subst ex_28
                  unfold dX12_one
                  rw [if_neg (fun z => c_2 (ex_1.trans z)), if_neg (fun z => c_5 (ex_1.trans z)), if_neg (fun z => c_8 (ex_1.trans z)), if_neg (fun z => c_11 (ex_1.trans z)), if_neg (fun z => c_20 (ex_1.trans z)), if_pos ex_1.symm, if_pos c_29]
                  try rfl
                exact retL (v := 0) hx hb hr hlk hP hD hS () ⟨_, rfl, ⟨trivial, hF_31⟩⟩ [] rfl rfl dX12_one_131 (Nat.le_of_ble_eq_true rfl) (Nat.le_of_ble_eq_true rfl) rfl
              · skip
                have lz_32 : (w1 : Int64).toInt ≤ (w2 : Int64).toInt := by have hc := c_29; rw [ex_28] at hc; exact Int64.le_iff_toInt_le.mp (Int64.not_lt.mp (fun z => hc ((lg_cmp_gt _ _).mpr z)))
                refine lv_lconst (v := 1) hx hb dX12_one_126 (by decide) ?_
                refine lv_goto (tgt := 131) hx hb dX12_one_127 (by decide) ?_
                have hF_33 : (1 : Int64) = (dX12_one x1 w1 w2) := by
                  clear hP hD hS hl
                  replace ex_28 := ex_28.symm; subst ex_28
                  unfold dX12_one
                  rw [if_neg (fun z => c_2 (ex_1.trans z)), if_neg (fun z => c_5 (ex_1.trans z)), if_neg (fun z => c_8 (ex_1.trans z)), if_neg (fun z => c_11 (ex_1.trans z)), if_neg (fun z => c_20 (ex_1.trans z)), if_pos ex_1.symm, if_neg c_29]
                  try rfl
                exact retL (v := 1) hx hb hr hlk hP hD hS () ⟨_, rfl, ⟨trivial, hF_33⟩⟩ [] rfl rfl dX12_one_131 (Nat.le_of_ble_eq_true rfl) (Nat.le_of_ble_eq_true rfl) rfl
            · skip
              by_cases c_34 : x_1 = 8
              · skip
                subst c_34
                refine lv_tableIn (off := 131) (tgt := 132) hx hb dX12_one_1 (by decide) (by decide) (by decide) (by decide) ?_
                refine lv_lload_n hx hb dX12_one_132 rfl (lv_at hl 1 rfl) ?_
                refine lv_lload_n hx hb dX12_one_133 rfl (lv_at hl 2 rfl) ?_
                refine W.lcmp hx hb dX12_one_134 ?_
                refine lv_topi (fun x_35 ex_35 => ?_)
                refine lv_if_ne (tgt := 142) hx hb dX12_one_135 (by decide) (fun c_36 => ?_) (fun c_36 => ?_)
                · skip
                  refine lv_lconst (v := 0) hx hb dX12_one_142 (by decide) ?_
                  have hF_38 : (0 : Int64) = (dX12_one x1 w1 w2) := by
                    clear hP hD hS hl
                    replace ex_35 := ex_35.symm; subst ex_35
                    unfold dX12_one
                    rw [if_neg (fun z => c_2 (ex_1.trans z)), if_neg (fun z => c_5 (ex_1.trans z)), if_neg (fun z => c_8 (ex_1.trans z)), if_neg (fun z => c_11 (ex_1.trans z)), if_neg (fun z => c_20 (ex_1.trans z)), if_neg (fun z => c_27 (ex_1.trans z)), if_pos ex_1.symm, if_neg c_36]
                    try rfl
                  exact retL (v := 0) hx hb hr hlk hP hD hS () ⟨_, rfl, ⟨trivial, hF_38⟩⟩ [] rfl rfl dX12_one_143 (Nat.le_of_ble_eq_true rfl) (Nat.le_of_ble_eq_true rfl) rfl
                · skip
                  have lz_39 : (w1 : Int64).toInt = (w2 : Int64).toInt := by have hc := c_36; rw [ex_35] at hc; exact congrArg Int64.toInt ((lg_cmp_eq _ _).mp hc)
                  refine lv_lconst (v := 1) hx hb dX12_one_138 (by decide) ?_
                  refine lv_goto (tgt := 143) hx hb dX12_one_139 (by decide) ?_
                  have hF_40 : (1 : Int64) = (dX12_one x1 w1 w2) := by
                    clear hP hD hS hl
                    replace ex_35 := ex_35.symm; subst ex_35
                    unfold dX12_one
                    rw [if_neg (fun z => c_2 (ex_1.trans z)), if_neg (fun z => c_5 (ex_1.trans z)), if_neg (fun z => c_8 (ex_1.trans z)), if_neg (fun z => c_11 (ex_1.trans z)), if_neg (fun z => c_20 (ex_1.trans z)), if_neg (fun z => c_27 (ex_1.trans z)), if_pos ex_1.symm, if_pos c_36]
                    try rfl
                  exact retL (v := 1) hx hb hr hlk hP hD hS () ⟨_, rfl, ⟨trivial, hF_40⟩⟩ [] rfl rfl dX12_one_143 (Nat.le_of_ble_eq_true rfl) (Nat.le_of_ble_eq_true rfl) rfl
              · skip
                by_cases c_41 : x_1 = 9
                · skip
                  subst c_41
                  refine lv_tableIn (off := 143) (tgt := 144) hx hb dX12_one_1 (by decide) (by decide) (by decide) (by decide) ?_
                  refine lv_lload_n hx hb dX12_one_144 rfl (lv_at hl 1 rfl) ?_
                  refine lv_lload_n hx hb dX12_one_145 rfl (lv_at hl 2 rfl) ?_
                  refine W.lcmp hx hb dX12_one_146 ?_
                  refine lv_topi (fun x_42 ex_42 => ?_)
                  refine lv_if_lt (tgt := 154) hx hb dX12_one_147 (by decide) (fun c_43 => ?_) (fun c_43 => ?_)
                  · skip
                    have lz_44 : (w1 : Int64).toInt < (w2 : Int64).toInt := by have hc := c_43; rw [ex_42] at hc; exact Int64.lt_iff_toInt_lt.mp ((lg_cmp_lt _ _).mp hc)
                    refine lv_lconst (v := 0) hx hb dX12_one_154 (by decide) ?_
                    have hF_45 : (0 : Int64) = (dX12_one x1 w1 w2) := by
                      clear hP hD hS hl
                      replace ex_42 := ex_42.symm; subst ex_42
                      unfold dX12_one
                      rw [if_neg (fun z => c_2 (ex_1.trans z)), if_neg (fun z => c_5 (ex_1.trans z)), if_neg (fun z => c_8 (ex_1.trans z)), if_neg (fun z => c_11 (ex_1.trans z)), if_neg (fun z => c_20 (ex_1.trans z)), if_neg (fun z => c_27 (ex_1.trans z)), if_neg (fun z => c_34 (ex_1.trans z)), if_pos ex_1.symm, if_pos c_43]
                      try rfl
                    exact retL (v := 0) hx hb hr hlk hP hD hS () ⟨_, rfl, ⟨trivial, hF_45⟩⟩ [] rfl rfl dX12_one_155 (Nat.le_of_ble_eq_true rfl) (Nat.le_of_ble_eq_true rfl) rfl
                  · skip
                    have lz_46 : (w2 : Int64).toInt ≤ (w1 : Int64).toInt := by have hc := c_43; rw [ex_42] at hc; exact Int64.le_iff_toInt_le.mp (Int64.not_lt.mp (fun z => hc ((lg_cmp_lt _ _).mpr z)))
                    refine lv_lconst (v := 1) hx hb dX12_one_150 (by decide) ?_
                    refine lv_goto (tgt := 155) hx hb dX12_one_151 (by decide) ?_
                    have hF_47 : (1 : Int64) = (dX12_one x1 w1 w2) := by
                      clear hP hD hS hl
                      replace ex_42 := ex_42.symm; subst ex_42
                      unfold dX12_one
                      rw [if_neg (fun z => c_2 (ex_1.trans z)), if_neg (fun z => c_5 (ex_1.trans z)), if_neg (fun z => c_8 (ex_1.trans z)), if_neg (fun z => c_11 (ex_1.trans z)), if_neg (fun z => c_20 (ex_1.trans z)), if_neg (fun z => c_27 (ex_1.trans z)), if_neg (fun z => c_34 (ex_1.trans z)), if_pos ex_1.symm, if_neg c_43]
                      try rfl
                    exact retL (v := 1) hx hb hr hlk hP hD hS () ⟨_, rfl, ⟨trivial, hF_47⟩⟩ [] rfl rfl dX12_one_155 (Nat.le_of_ble_eq_true rfl) (Nat.le_of_ble_eq_true rfl) rfl
                · skip
                  by_cases c_48 : x_1 = 10
                  · skip
                    subst c_48
                    refine lv_tableIn (off := 155) (tgt := 156) hx hb dX12_one_1 (by decide) (by decide) (by decide) (by decide) ?_
                    refine lv_lload_n hx hb dX12_one_156 rfl (lv_at hl 1 rfl) ?_
                    refine lv_lload_n hx hb dX12_one_157 rfl (lv_at hl 2 rfl) ?_
                    refine W.lcmp hx hb dX12_one_158 ?_
                    refine lv_topi (fun x_49 ex_49 => ?_)
                    refine lv_if_le (tgt := 166) hx hb dX12_one_159 (by decide) (fun c_50 => ?_) (fun c_50 => ?_)
                    · skip
                      have lz_51 : (w1 : Int64).toInt ≤ (w2 : Int64).toInt := by have hc := c_50; rw [ex_49] at hc; exact Int64.le_iff_toInt_le.mp ((lg_cmp_le _ _).mp hc)
                      refine lv_lconst (v := 0) hx hb dX12_one_166 (by decide) ?_
                      have hF_52 : (0 : Int64) = (dX12_one x1 w1 w2) := by
                        clear hP hD hS hl
                        replace ex_49 := ex_49.symm; subst ex_49
                        unfold dX12_one
                        rw [if_neg (fun z => c_2 (ex_1.trans z)), if_neg (fun z => c_5 (ex_1.trans z)), if_neg (fun z => c_8 (ex_1.trans z)), if_neg (fun z => c_11 (ex_1.trans z)), if_neg (fun z => c_20 (ex_1.trans z)), if_neg (fun z => c_27 (ex_1.trans z)), if_neg (fun z => c_34 (ex_1.trans z)), if_neg (fun z => c_41 (ex_1.trans z)), if_pos ex_1.symm, if_pos c_50]
                        try rfl
                      exact retL (v := 0) hx hb hr hlk hP hD hS () ⟨_, rfl, ⟨trivial, hF_52⟩⟩ [] rfl rfl dX12_one_167 (Nat.le_of_ble_eq_true rfl) (Nat.le_of_ble_eq_true rfl) rfl
                    · skip
                      have lz_53 : (w2 : Int64).toInt < (w1 : Int64).toInt := by have hc := c_50; rw [ex_49] at hc; exact Int64.lt_iff_toInt_lt.mp (Int64.not_le.mp (fun z => hc ((lg_cmp_le _ _).mpr z)))
                      refine lv_lconst (v := 1) hx hb dX12_one_162 (by decide) ?_
                      refine lv_goto (tgt := 167) hx hb dX12_one_163 (by decide) ?_
                      have hF_54 : (1 : Int64) = (dX12_one x1 w1 w2) := by
                        clear hP hD hS hl
                        replace ex_49 := ex_49.symm; subst ex_49
                        unfold dX12_one
                        rw [if_neg (fun z => c_2 (ex_1.trans z)), if_neg (fun z => c_5 (ex_1.trans z)), if_neg (fun z => c_8 (ex_1.trans z)), if_neg (fun z => c_11 (ex_1.trans z)), if_neg (fun z => c_20 (ex_1.trans z)), if_neg (fun z => c_27 (ex_1.trans z)), if_neg (fun z => c_34 (ex_1.trans z)), if_neg (fun z => c_41 (ex_1.trans z)), if_pos ex_1.symm, if_neg c_50]
                        try rfl
                      exact retL (v := 1) hx hb hr hlk hP hD hS () ⟨_, rfl, ⟨trivial, hF_54⟩⟩ [] rfl rfl dX12_one_167 (Nat.le_of_ble_eq_true rfl) (Nat.le_of_ble_eq_true rfl) rfl
                  · skip
                    by_cases c_55 : x_1 = 11
                    · skip
                      subst c_55
                      refine lv_tableIn (off := 171) (tgt := 172) hx hb dX12_one_1 (by decide) (by decide) (by decide) (by decide) ?_
                      refine lv_lload_n hx hb dX12_one_172 rfl (lv_at hl 1 rfl) ?_
                      refine lv_lload_n hx hb dX12_one_173 rfl (lv_at hl 2 rfl) ?_
                      refine lv_lor hx hb dX12_one_174 ?_
                      refine lv_topl (fun x_56 ex_56 => ?_)
                      have hF_57 : x_56 = (dX12_one x1 w1 w2) := by
                        clear hP hD hS hl
                        replace ex_56 := ex_56.symm; subst ex_56
                        unfold dX12_one
                        rw [if_neg (fun z => c_2 (ex_1.trans z)), if_neg (fun z => c_5 (ex_1.trans z)), if_neg (fun z => c_8 (ex_1.trans z)), if_neg (fun z => c_11 (ex_1.trans z)), if_neg (fun z => c_20 (ex_1.trans z)), if_neg (fun z => c_27 (ex_1.trans z)), if_neg (fun z => c_34 (ex_1.trans z)), if_neg (fun z => c_41 (ex_1.trans z)), if_neg (fun z => c_48 (ex_1.trans z)), if_pos ex_1.symm]
                        try rfl
                      exact retL (v := x_56) hx hb hr hlk hP hD hS () ⟨_, rfl, ⟨trivial, hF_57⟩⟩ [] rfl rfl dX12_one_175 (Nat.le_of_ble_eq_true rfl) (Nat.le_of_ble_eq_true rfl) rfl
                    · skip
                      by_cases c_58 : x_1 = 12
                      · skip
                        subst c_58
                        refine lv_tableIn (off := 167) (tgt := 168) hx hb dX12_one_1 (by decide) (by decide) (by decide) (by decide) ?_
                        refine lv_lload_n hx hb dX12_one_168 rfl (lv_at hl 1 rfl) ?_
                        refine lv_lload_n hx hb dX12_one_169 rfl (lv_at hl 2 rfl) ?_
                        refine lv_land hx hb dX12_one_170 ?_
                        refine lv_topl (fun x_59 ex_59 => ?_)
                        have hF_60 : x_59 = (dX12_one x1 w1 w2) := by
                          clear hP hD hS hl
                          replace ex_59 := ex_59.symm; subst ex_59
                          unfold dX12_one
                          rw [if_neg (fun z => c_2 (ex_1.trans z)), if_neg (fun z => c_5 (ex_1.trans z)), if_neg (fun z => c_8 (ex_1.trans z)), if_neg (fun z => c_11 (ex_1.trans z)), if_neg (fun z => c_20 (ex_1.trans z)), if_neg (fun z => c_27 (ex_1.trans z)), if_neg (fun z => c_34 (ex_1.trans z)), if_neg (fun z => c_41 (ex_1.trans z)), if_neg (fun z => c_48 (ex_1.trans z)), if_neg (fun z => c_55 (ex_1.trans z)), if_pos ex_1.symm]
                          try rfl
                        exact retL (v := x_59) hx hb hr hlk hP hD hS () ⟨_, rfl, ⟨trivial, hF_60⟩⟩ [] rfl rfl dX12_one_171 (Nat.le_of_ble_eq_true rfl) (Nat.le_of_ble_eq_true rfl) rfl
                      · skip
                        by_cases c_61 : x_1 = 13
                        · skip
                          subst c_61
                          refine lv_tableIn (off := 171) (tgt := 172) hx hb dX12_one_1 (by decide) (by decide) (by decide) (by decide) ?_
                          refine lv_lload_n hx hb dX12_one_172 rfl (lv_at hl 1 rfl) ?_
                          refine lv_lload_n hx hb dX12_one_173 rfl (lv_at hl 2 rfl) ?_
                          refine lv_lor hx hb dX12_one_174 ?_
                          refine lv_topl (fun x_62 ex_62 => ?_)
                          have hF_63 : x_62 = (dX12_one x1 w1 w2) := by
                            clear hP hD hS hl
                            replace ex_62 := ex_62.symm; subst ex_62
                            unfold dX12_one
                            rw [if_neg (fun z => c_2 (ex_1.trans z)), if_neg (fun z => c_5 (ex_1.trans z)), if_neg (fun z => c_8 (ex_1.trans z)), if_neg (fun z => c_11 (ex_1.trans z)), if_neg (fun z => c_20 (ex_1.trans z)), if_neg (fun z => c_27 (ex_1.trans z)), if_neg (fun z => c_34 (ex_1.trans z)), if_neg (fun z => c_41 (ex_1.trans z)), if_neg (fun z => c_48 (ex_1.trans z)), if_neg (fun z => c_55 (ex_1.trans z)), if_neg (fun z => c_58 (ex_1.trans z)), if_pos ex_1.symm]
                            try rfl
                          exact retL (v := x_62) hx hb hr hlk hP hD hS () ⟨_, rfl, ⟨trivial, hF_63⟩⟩ [] rfl rfl dX12_one_175 (Nat.le_of_ble_eq_true rfl) (Nat.le_of_ble_eq_true rfl) rfl
                        · skip
                          by_cases c_64 : x_1 = 14
                          · skip
                            subst c_64
                            refine lv_tableIn (off := 93) (tgt := 94) hx hb dX12_one_1 (by decide) (by decide) (by decide) (by decide) ?_
                            refine lv_lload_n hx hb dX12_one_94 rfl (lv_at hl 2 rfl) ?_
                            refine lv_lconst (v := 0) hx hb dX12_one_95 (by decide) ?_
                            refine W.lcmp hx hb dX12_one_96 ?_
                            refine lv_topi (fun x_65 ex_65 => ?_)
                            refine lv_if_ne (tgt := 104) hx hb dX12_one_97 (by decide) (fun c_66 => ?_) (fun c_66 => ?_)
                            · skip
                              refine lv_lload_n hx hb dX12_one_104 rfl (lv_at hl 1 rfl) ?_
                              refine lv_lload_n hx hb dX12_one_105 rfl (lv_at hl 2 rfl) ?_
                              have hz_68 : ¬ w2 = 0 := fun z => c_66 (ex_65.trans ((lg_cmp_eq _ _).mpr z))
                              refine lv_lrem hx hb dX12_one_106 hz_68 ?_
                              refine lv_topl (fun x_69 ex_69 => ?_)
                              have hF_70 : x_69 = (dX12_one x1 w1 w2) := by
                                clear hP hD hS hl
                                replace ex_65 := ex_65.symm; subst ex_65
                                replace ex_69 := ex_69.symm; subst ex_69
                                unfold dX12_one
                                rw [if_neg (fun z => c_2 (ex_1.trans z)), if_neg (fun z => c_5 (ex_1.trans z)), if_neg (fun z => c_8 (ex_1.trans z)), if_neg (fun z => c_11 (ex_1.trans z)), if_neg (fun z => c_20 (ex_1.trans z)), if_neg (fun z => c_27 (ex_1.trans z)), if_neg (fun z => c_34 (ex_1.trans z)), if_neg (fun z => c_41 (ex_1.trans z)), if_neg (fun z => c_48 (ex_1.trans z)), if_neg (fun z => c_55 (ex_1.trans z)), if_neg (fun z => c_58 (ex_1.trans z)), if_neg (fun z => c_61 (ex_1.trans z)), if_pos ex_1.symm, if_neg c_66]
                                try rfl
                              exact retL (v := x_69) hx hb hr hlk hP hD hS () ⟨_, rfl, ⟨trivial, hF_70⟩⟩ [] rfl rfl dX12_one_107 (Nat.le_of_ble_eq_true rfl) (Nat.le_of_ble_eq_true rfl) rfl
                            · skip
                              have lz_71 : (w2 : Int64).toInt = (0 : Int64).toInt := by have hc := c_66; rw [ex_65] at hc; exact congrArg Int64.toInt ((lg_cmp_eq _ _).mp hc)
                              refine lv_lconst (v := 0) hx hb dX12_one_100 (by decide) ?_
                              refine lv_goto (tgt := 107) hx hb dX12_one_101 (by decide) ?_
                              have hF_72 : (0 : Int64) = (dX12_one x1 w1 w2) := by
                                clear hP hD hS hl
                                replace ex_65 := ex_65.symm; subst ex_65
                                unfold dX12_one
                                rw [if_neg (fun z => c_2 (ex_1.trans z)), if_neg (fun z => c_5 (ex_1.trans z)), if_neg (fun z => c_8 (ex_1.trans z)), if_neg (fun z => c_11 (ex_1.trans z)), if_neg (fun z => c_20 (ex_1.trans z)), if_neg (fun z => c_27 (ex_1.trans z)), if_neg (fun z => c_34 (ex_1.trans z)), if_neg (fun z => c_41 (ex_1.trans z)), if_neg (fun z => c_48 (ex_1.trans z)), if_neg (fun z => c_55 (ex_1.trans z)), if_neg (fun z => c_58 (ex_1.trans z)), if_neg (fun z => c_61 (ex_1.trans z)), if_pos ex_1.symm, if_pos c_66]
                                try rfl
                              exact retL (v := 0) hx hb hr hlk hP hD hS () ⟨_, rfl, ⟨trivial, hF_72⟩⟩ [] rfl rfl dX12_one_107 (Nat.le_of_ble_eq_true rfl) (Nat.le_of_ble_eq_true rfl) rfl
                          · skip
                            have ho_73 : (x_1 : Int32).toInt < 2 ∨ 14 < (x_1 : Int32).toInt := by
                              have z_1 : ¬ (x_1 : Int32).toInt = (2 : Int32).toInt := fun z => c_2 (Int32.toInt_inj.mp z)
                              have z_2 : ¬ (x_1 : Int32).toInt = (3 : Int32).toInt := fun z => c_5 (Int32.toInt_inj.mp z)
                              have z_3 : ¬ (x_1 : Int32).toInt = (4 : Int32).toInt := fun z => c_8 (Int32.toInt_inj.mp z)
                              have z_4 : ¬ (x_1 : Int32).toInt = (5 : Int32).toInt := fun z => c_11 (Int32.toInt_inj.mp z)
                              have z_5 : ¬ (x_1 : Int32).toInt = (6 : Int32).toInt := fun z => c_20 (Int32.toInt_inj.mp z)
                              have z_6 : ¬ (x_1 : Int32).toInt = (7 : Int32).toInt := fun z => c_27 (Int32.toInt_inj.mp z)
                              have z_7 : ¬ (x_1 : Int32).toInt = (8 : Int32).toInt := fun z => c_34 (Int32.toInt_inj.mp z)
                              have z_8 : ¬ (x_1 : Int32).toInt = (9 : Int32).toInt := fun z => c_41 (Int32.toInt_inj.mp z)
                              have z_9 : ¬ (x_1 : Int32).toInt = (10 : Int32).toInt := fun z => c_48 (Int32.toInt_inj.mp z)
                              have z_10 : ¬ (x_1 : Int32).toInt = (11 : Int32).toInt := fun z => c_55 (Int32.toInt_inj.mp z)
                              have z_11 : ¬ (x_1 : Int32).toInt = (12 : Int32).toInt := fun z => c_58 (Int32.toInt_inj.mp z)
                              have z_12 : ¬ (x_1 : Int32).toInt = (13 : Int32).toInt := fun z => c_61 (Int32.toInt_inj.mp z)
                              have z_13 : ¬ (x_1 : Int32).toInt = (14 : Int32).toInt := fun z => c_64 (Int32.toInt_inj.mp z)
                              have y_2 : (2 : Int32).toInt = 2 := by decide
                              have y_3 : (3 : Int32).toInt = 3 := by decide
                              have y_4 : (4 : Int32).toInt = 4 := by decide
                              have y_5 : (5 : Int32).toInt = 5 := by decide
                              have y_6 : (6 : Int32).toInt = 6 := by decide
                              have y_7 : (7 : Int32).toInt = 7 := by decide
                              have y_8 : (8 : Int32).toInt = 8 := by decide
                              have y_9 : (9 : Int32).toInt = 9 := by decide
                              have y_10 : (10 : Int32).toInt = 10 := by decide
                              have y_11 : (11 : Int32).toInt = 11 := by decide
                              have y_12 : (12 : Int32).toInt = 12 := by decide
                              have y_13 : (13 : Int32).toInt = 13 := by decide
                              have y_14 : (14 : Int32).toInt = 14 := by decide
                              omega
                            refine lv_tableOut (tgt := 172) hx hb dX12_one_1 ho_73 (by decide) ?_
                            refine lv_lload_n hx hb dX12_one_172 rfl (lv_at hl 1 rfl) ?_
                            refine lv_lload_n hx hb dX12_one_173 rfl (lv_at hl 2 rfl) ?_
                            refine lv_lor hx hb dX12_one_174 ?_
                            refine lv_topl (fun x_74 ex_74 => ?_)
                            have hF_75 : x_74 = (dX12_one x1 w1 w2) := by
                              clear hP hD hS hl
                              replace ex_1 := ex_1.symm; subst ex_1
                              replace ex_74 := ex_74.symm; subst ex_74
                              unfold dX12_one
                              rw [if_neg c_2, if_neg c_5, if_neg c_8, if_neg c_11, if_neg c_20, if_neg c_27, if_neg c_34, if_neg c_41, if_neg c_48, if_neg c_55, if_neg c_58, if_neg c_61, if_neg c_64]
                              try rfl
                            exact retL (v := x_74) hx hb hr hlk hP hD hS () ⟨_, rfl, ⟨trivial, hF_75⟩⟩ [] rfl rfl dX12_one_175 (Nat.le_of_ble_eq_true rfl) (Nat.le_of_ble_eq_true rfl) rfl
def dX12_reckons_l8 (Mf_2 : Nat → Int32) (Mg_9 : Nat → Int64) (zz_903 : Int32) (zz_901 : Int32) : Nat → Int32 → Int32 → (Nat → Int64) → Int32 × Int32 × (Nat → Int64)
  | 0, _, _, _ => (0, 0, (fun _ => 0))
  | n + 1, yy_900, yy_901, yy_902 => (if zz_903 ≤ yy_900 then (yy_900, yy_901, yy_902) else (if ((Mf_2 ((((400 : Int32) * zz_901) + yy_900)).toNatClampNeg) &&& (15 : Int32)) = (0 : Int32) then dX12_reckons_l8 Mf_2 Mg_9 zz_903 zz_901 n (yy_900 + 1) ((dX12_push yy_902 yy_901 (((Mf_2 ((((400 : Int32) * zz_901) + yy_900)).toNatClampNeg) >>> ((4 : Int32) &&& 31))).toInt64).1) ((dX12_push yy_902 yy_901 (((Mf_2 ((((400 : Int32) * zz_901) + yy_900)).toNatClampNeg) >>> ((4 : Int32) &&& 31))).toInt64).2) else (if ((Mf_2 ((((400 : Int32) * zz_901) + yy_900)).toNatClampNeg) &&& (15 : Int32)) = (1 : Int32) then dX12_reckons_l8 Mf_2 Mg_9 zz_903 zz_901 n (yy_900 + 1) ((dX12_push yy_902 yy_901 (Mg_9 (((Mf_2 ((((400 : Int32) * zz_901) + yy_900)).toNatClampNeg) >>> ((4 : Int32) &&& 31))).toNatClampNeg)).1) ((dX12_push yy_902 yy_901 (Mg_9 (((Mf_2 ((((400 : Int32) * zz_901) + yy_900)).toNatClampNeg) >>> ((4 : Int32) &&& 31))).toNatClampNeg)).2) else (if ((Mf_2 ((((400 : Int32) * zz_901) + yy_900)).toNatClampNeg) &&& (15 : Int32)) = (11 : Int32) then dX12_reckons_l8 Mf_2 Mg_9 zz_903 zz_901 n (yy_900 + 1) ((dX12_push yy_902 (dX12_pop yy_902 yy_901).2 ((1 : Int64) - (dX12_pop yy_902 yy_901).1)).1) ((dX12_push yy_902 (dX12_pop yy_902 yy_901).2 ((1 : Int64) - (dX12_pop yy_902 yy_901).1)).2) else dX12_reckons_l8 Mf_2 Mg_9 zz_903 zz_901 n (yy_900 + 1) ((dX12_push yy_902 (dX12_pop yy_902 (dX12_pop yy_902 yy_901).2).2 (dX12_one ((Mf_2 ((((400 : Int32) * zz_901) + yy_900)).toNatClampNeg) &&& (15 : Int32)) (dX12_pop yy_902 (dX12_pop yy_902 yy_901).2).1 (dX12_pop yy_902 yy_901).1)).1) ((dX12_push yy_902 (dX12_pop yy_902 (dX12_pop yy_902 yy_901).2).2 (dX12_one ((Mf_2 ((((400 : Int32) * zz_901) + yy_900)).toNatClampNeg) &&& (15 : Int32)) (dX12_pop yy_902 (dX12_pop yy_902 yy_901).2).1 (dX12_pop yy_902 yy_901).1)).2)))))
theorem dX12_reckons_l8_s {Mf_2 : Nat → Int32} {Mg_9 : Nat → Int64} {zz_903 : Int32} {zz_901 : Int32} {n : Nat} {yy_900 : Int32} {yy_901 : Int32} {yy_902 : Nat → Int64} : dX12_reckons_l8 Mf_2 Mg_9 zz_903 zz_901 (n + 1) yy_900 yy_901 yy_902 = (if zz_903 ≤ yy_900 then (yy_900, yy_901, yy_902) else (if ((Mf_2 ((((400 : Int32) * zz_901) + yy_900)).toNatClampNeg) &&& (15 : Int32)) = (0 : Int32) then dX12_reckons_l8 Mf_2 Mg_9 zz_903 zz_901 n (yy_900 + 1) ((dX12_push yy_902 yy_901 (((Mf_2 ((((400 : Int32) * zz_901) + yy_900)).toNatClampNeg) >>> ((4 : Int32) &&& 31))).toInt64).1) ((dX12_push yy_902 yy_901 (((Mf_2 ((((400 : Int32) * zz_901) + yy_900)).toNatClampNeg) >>> ((4 : Int32) &&& 31))).toInt64).2) else (if ((Mf_2 ((((400 : Int32) * zz_901) + yy_900)).toNatClampNeg) &&& (15 : Int32)) = (1 : Int32) then dX12_reckons_l8 Mf_2 Mg_9 zz_903 zz_901 n (yy_900 + 1) ((dX12_push yy_902 yy_901 (Mg_9 (((Mf_2 ((((400 : Int32) * zz_901) + yy_900)).toNatClampNeg) >>> ((4 : Int32) &&& 31))).toNatClampNeg)).1) ((dX12_push yy_902 yy_901 (Mg_9 (((Mf_2 ((((400 : Int32) * zz_901) + yy_900)).toNatClampNeg) >>> ((4 : Int32) &&& 31))).toNatClampNeg)).2) else (if ((Mf_2 ((((400 : Int32) * zz_901) + yy_900)).toNatClampNeg) &&& (15 : Int32)) = (11 : Int32) then dX12_reckons_l8 Mf_2 Mg_9 zz_903 zz_901 n (yy_900 + 1) ((dX12_push yy_902 (dX12_pop yy_902 yy_901).2 ((1 : Int64) - (dX12_pop yy_902 yy_901).1)).1) ((dX12_push yy_902 (dX12_pop yy_902 yy_901).2 ((1 : Int64) - (dX12_pop yy_902 yy_901).1)).2) else dX12_reckons_l8 Mf_2 Mg_9 zz_903 zz_901 n (yy_900 + 1) ((dX12_push yy_902 (dX12_pop yy_902 (dX12_pop yy_902 yy_901).2).2 (dX12_one ((Mf_2 ((((400 : Int32) * zz_901) + yy_900)).toNatClampNeg) &&& (15 : Int32)) (dX12_pop yy_902 (dX12_pop yy_902 yy_901).2).1 (dX12_pop yy_902 yy_901).1)).1) ((dX12_push yy_902 (dX12_pop yy_902 (dX12_pop yy_902 yy_901).2).2 (dX12_one ((Mf_2 ((((400 : Int32) * zz_901) + yy_900)).toNatClampNeg) &&& (15 : Int32)) (dX12_pop yy_902 (dX12_pop yy_902 yy_901).2).1 (dX12_pop yy_902 yy_901).1)).2))))) := rfl
def dX12_reckons (Mf_2 : Nat → Int32) (Mg_8 : Nat → Int64) (Mg_9 : Nat → Int64) (x1 : Int32) (x2 : Int32) (x3 : Int32) : Int64 × Int32 × (Nat → Int64) := ((dX12_pop ((dX12_reckons_l8 Mf_2 Mg_9 x3 x1 ((x3.toInt - (x2 : Int32).toInt).toNat + 1) x2 (0 : Int32) Mg_8).2.2) (dX12_reckons_l8 Mf_2 Mg_9 x3 x1 ((x3.toInt - (x2 : Int32).toInt).toNat + 1) x2 (0 : Int32) Mg_8).2.1).1, (dX12_pop ((dX12_reckons_l8 Mf_2 Mg_9 x3 x1 ((x3.toInt - (x2 : Int32).toInt).toNat + 1) x2 (0 : Int32) Mg_8).2.2) (dX12_reckons_l8 Mf_2 Mg_9 x3 x1 ((x3.toInt - (x2 : Int32).toInt).toNat + 1) x2 (0 : Int32) Mg_8).2.1).2, ((dX12_reckons_l8 Mf_2 Mg_9 x3 x1 ((x3.toInt - (x2 : Int32).toInt).toNat + 1) x2 (0 : Int32) Mg_8).2.2))
set_option maxHeartbeats 4000000 in
set_option maxRecDepth 100000 in
theorem ct_dX12_reckons (l : Launch) (D : va_G) (tc : Nat → ClassId) (sk : (Nat → Nat) × (Nat → Nat)) (Ma : Nat → Nat) (Mv : Nat → Int32) (Mf : Nat → Nat → Int32) (Mj : Nat → Int64) (Mg : Nat → Nat → Int64) (x1 : Int32) (x2 : Int32) (x3 : Int32) (h_w : WFc (Mf 2) x1 x2 x3) (h_tt : 0 ≤ x1.toInt ∧ x1.toInt < 6) : Ct l yX12_reckons cX12_reckons 11 (some .long) { frames := 1, cells := 0, slots := 0, locals := 24 } D tc sk [.ref (Ma 0), .int x1, .int x2, .int x3] [((Ma 0), .inr (12, [.ref (Ma 1), .int (Mv 0), .int (Mv 1), .ref (Ma 2), .ref (Ma 3), .ref (Ma 4), .ref (Ma 5), .ref (Ma 6), .int (Mv 2), .int (Mv 3), .int (Mv 4), .int (Mv 5), .int (Mv 6), .int (Mv 7), .int (Mv 8), .ref (Ma 7), .int (Mv 9), .ref (Ma 8), .int (Mv 10), .ref (Ma 9), .ref (Ma 10), .int (Mv 11), .int (Mv 12), .int (Mv 13), .ref (Ma 11), .int (Mv 14), .ref (Ma 12), .ref (Ma 13), .ref (Ma 14), .ref (Ma 15), .ref (Ma 16), .long (Mj 0), .ref (Ma 17), .ref (Ma 18), .ref (Ma 19), .ref (Ma 20)])), ((Ma 2), .inl (tc 0, 2400, .inl (Mf 2))), ((Ma 8), .inl (tc 1, 64, .inr (.inl (Mg 8)))), ((Ma 9), .inl (tc 1, 13, .inr (.inl (Mg 9))))] (fun (v : Option Value) (u : (Int32) × (Nat → Int64)) => match u with | (oo0x1, oo0x2) => ∃ r : Int64, v = some (.long r) ∧ ((True) ∧ (r, oo0x1, oo0x2) = (dX12_reckons (Mf 2) (Mg 8) (Mg 9) x1 x2 x3))) (fun (u : (Int32) × (Nat → Int64)) => match u with | (oo0x1, oo0x2) => [((Ma 0), .inr (12, [.ref (Ma 1), .int (Mv 0), .int (Mv 1), .ref (Ma 2), .ref (Ma 3), .ref (Ma 4), .ref (Ma 5), .ref (Ma 6), .int (Mv 2), .int (Mv 3), .int (Mv 4), .int (Mv 5), .int (Mv 6), .int (Mv 7), .int (Mv 8), .ref (Ma 7), .int (Mv 9), .ref (Ma 8), .int oo0x1, .ref (Ma 9), .ref (Ma 10), .int (Mv 11), .int (Mv 12), .int (Mv 13), .ref (Ma 11), .int (Mv 14), .ref (Ma 12), .ref (Ma 13), .ref (Ma 14), .ref (Ma 15), .ref (Ma 16), .long (Mj 0), .ref (Ma 17), .ref (Ma 18), .ref (Ma 19), .ref (Ma 20)])), ((Ma 2), .inl (tc 0, 2400, .inl (Mf 2))), ((Ma 8), .inl (tc 1, 64, .inr (.inl oo0x2))), ((Ma 9), .inl (tc 1, 13, .inr (.inl (Mg 9))))]) 0 0 := by
  refine Ct.start (by decide) (Nat.le_of_ble_eq_true rfl) (fun p e s m below meth c A ls hx hb hr hlk hin hml hown hts hK hX hP hD hA hl hS => ?_)
  have hl : lv_has ls 11 [(0, .ref (Ma 0)), (1, .int x1), (2, .int x2), (3, .int x3)] := hl
  have ar_h_w := WFc.ar h_w
  refine lv_aload_n hx hb dX12_reckons_0 rfl (lv_at hl 0 rfl) ?_
  refine lv_iconst (v := 0) hx hb dX12_reckons_1 (by decide) ?_
  refine pf_X12_268 hx hb hts hown hK hP hD hS 0 rfl (Nat.le_of_ble_eq_true rfl) rfl rfl dX12_reckons_2 (fun H locs hP₀ hD₀ hS₀ => ?_)
  replace hP : va_P D classes [((Ma 0), .inr (12, [.ref (Ma 1), .int (Mv 0), .int (Mv 1), .ref (Ma 2), .ref (Ma 3), .ref (Ma 4), .ref (Ma 5), .ref (Ma 6), .int (Mv 2), .int (Mv 3), .int (Mv 4), .int (Mv 5), .int (Mv 6), .int (Mv 7), .int (Mv 8), .ref (Ma 7), .int (Mv 9), .ref (Ma 8), .int 0, .ref (Ma 9), .ref (Ma 10), .int (Mv 11), .int (Mv 12), .int (Mv 13), .ref (Ma 11), .int (Mv 14), .ref (Ma 12), .ref (Ma 13), .ref (Ma 14), .ref (Ma 15), .ref (Ma 16), .long (Mj 0), .ref (Ma 17), .ref (Ma 18), .ref (Ma 19), .ref (Ma 20)])), ((Ma 2), .inl (tc 0, 2400, .inl (Mf 2))), ((Ma 8), .inl (tc 1, 64, .inr (.inl (Mg 8)))), ((Ma 9), .inl (tc 1, 13, .inr (.inl (Mg 9))))] H := hP₀
  replace hD : va_D A [((Ma 0), .inr (12, [.ref (Ma 1), .int (Mv 0), .int (Mv 1), .ref (Ma 2), .ref (Ma 3), .ref (Ma 4), .ref (Ma 5), .ref (Ma 6), .int (Mv 2), .int (Mv 3), .int (Mv 4), .int (Mv 5), .int (Mv 6), .int (Mv 7), .int (Mv 8), .ref (Ma 7), .int (Mv 9), .ref (Ma 8), .int 0, .ref (Ma 9), .ref (Ma 10), .int (Mv 11), .int (Mv 12), .int (Mv 13), .ref (Ma 11), .int (Mv 14), .ref (Ma 12), .ref (Ma 13), .ref (Ma 14), .ref (Ma 15), .ref (Ma 16), .long (Mj 0), .ref (Ma 17), .ref (Ma 18), .ref (Ma 19), .ref (Ma 20)])), ((Ma 2), .inl (tc 0, 2400, .inl (Mf 2))), ((Ma 8), .inl (tc 1, 64, .inr (.inl (Mg 8)))), ((Ma 9), .inl (tc 1, 13, .inr (.inl (Mg 9))))] := hD₀
  replace hS := hS₀
  clear hP₀ hD₀ hS₀
  refine lv_iload_n hx hb dX12_reckons_5 rfl (lv_at hl 2 rfl) ?_
  refine lv_istore (lv' := [(4, .int x2), (0, .ref (Ma 0)), (1, .int x1), (2, .int x2), (3, .int x3)]) hx hb dX12_reckons_6 hl (by decide) rfl (fun ls hl₀ => ?_)
  replace hl := hl₀
  clear hl₀
  have loop_3 : ∀ (n_1 : Nat) (yy_900 : Int32) (yy_901 : Int32) (yy_902 : Nat → Int64) (H : Heap) (locs : List Loc) (ls : Array Slot), (x3.toInt - (yy_900 : Int32).toInt).toNat < n_1 → (dX12_reckons_l8 (Mf 2) (Mg 9) x3 x1 ((x3.toInt - (x2 : Int32).toInt).toNat + 1) x2 (0 : Int32) (Mg 8)) = dX12_reckons_l8 (Mf 2) (Mg 9) x3 x1 ((x3.toInt - (yy_900 : Int32).toInt).toNat + 1) yy_900 yy_901 yy_902 → (RK (Mf 2) x1 yy_900 x3 yy_901) → va_P D classes [((Ma 0), .inr (12, [.ref (Ma 1), .int (Mv 0), .int (Mv 1), .ref (Ma 2), .ref (Ma 3), .ref (Ma 4), .ref (Ma 5), .ref (Ma 6), .int (Mv 2), .int (Mv 3), .int (Mv 4), .int (Mv 5), .int (Mv 6), .int (Mv 7), .int (Mv 8), .ref (Ma 7), .int (Mv 9), .ref (Ma 8), .int yy_901, .ref (Ma 9), .ref (Ma 10), .int (Mv 11), .int (Mv 12), .int (Mv 13), .ref (Ma 11), .int (Mv 14), .ref (Ma 12), .ref (Ma 13), .ref (Ma 14), .ref (Ma 15), .ref (Ma 16), .long (Mj 0), .ref (Ma 17), .ref (Ma 18), .ref (Ma 19), .ref (Ma 20)])), ((Ma 2), .inl (tc 0, 2400, .inl (Mf 2))), ((Ma 8), .inl (tc 1, 64, .inr (.inl yy_902))), ((Ma 9), .inl (tc 1, 13, .inr (.inl (Mg 9))))] H → va_D A [((Ma 0), .inr (12, [.ref (Ma 1), .int (Mv 0), .int (Mv 1), .ref (Ma 2), .ref (Ma 3), .ref (Ma 4), .ref (Ma 5), .ref (Ma 6), .int (Mv 2), .int (Mv 3), .int (Mv 4), .int (Mv 5), .int (Mv 6), .int (Mv 7), .int (Mv 8), .ref (Ma 7), .int (Mv 9), .ref (Ma 8), .int yy_901, .ref (Ma 9), .ref (Ma 10), .int (Mv 11), .int (Mv 12), .int (Mv 13), .ref (Ma 11), .int (Mv 14), .ref (Ma 12), .ref (Ma 13), .ref (Ma 14), .ref (Ma 15), .ref (Ma 16), .long (Mj 0), .ref (Ma 17), .ref (Ma 18), .ref (Ma 19), .ref (Ma 20)])), ((Ma 2), .inl (tc 0, 2400, .inl (Mf 2))), ((Ma 8), .inl (tc 1, 64, .inr (.inl yy_902))), ((Ma 9), .inl (tc 1, 13, .inr (.inl (Mg 9))))] → va_S A s.heap H locs → lv_has ls 11 [(4, .int yy_900), (0, .ref (Ma 0)), (1, .int x1), (2, .int x2), (3, .int x3)] → W p l e ({ frames := 1, cells := 0, slots := 0, locals := 24 }) s m ([.ref (Ma 0), .int x1, .int x2, .int x3].toArray) below meth c H locs 0 0 (MQ below (QW (fun (v : Option Value) (u : (Int32) × (Nat → Int64)) => match u with | (oo0x1, oo0x2) => ∃ r : Int64, v = some (.long r) ∧ ((True) ∧ (r, oo0x1, oo0x2) = (dX12_reckons (Mf 2) (Mg 8) (Mg 9) x1 x2 x3))) (BW D (fun (u : (Int32) × (Nat → Int64)) => match u with | (oo0x1, oo0x2) => [((Ma 0), .inr (12, [.ref (Ma 1), .int (Mv 0), .int (Mv 1), .ref (Ma 2), .ref (Ma 3), .ref (Ma 4), .ref (Ma 5), .ref (Ma 6), .int (Mv 2), .int (Mv 3), .int (Mv 4), .int (Mv 5), .int (Mv 6), .int (Mv 7), .int (Mv 8), .ref (Ma 7), .int (Mv 9), .ref (Ma 8), .int oo0x1, .ref (Ma 9), .ref (Ma 10), .int (Mv 11), .int (Mv 12), .int (Mv 13), .ref (Ma 11), .int (Mv 14), .ref (Ma 12), .ref (Ma 13), .ref (Ma 14), .ref (Ma 15), .ref (Ma 16), .long (Mj 0), .ref (Ma 17), .ref (Ma 18), .ref (Ma 19), .ref (Ma 20)])), ((Ma 2), .inl (tc 0, 2400, .inl (Mf 2))), ((Ma 8), .inl (tc 1, 64, .inr (.inl oo0x2))), ((Ma 9), .inl (tc 1, 13, .inr (.inl (Mg 9))))]) A) A) ([.ref (Ma 0), .int x1, .int x2, .int x3].toArray) s 0 0 A) (F0 m 8 ls []) := by
    clear hP hD hS hl
    intro n_1
    induction n_1 with
    | zero =>
      intro yy_900 yy_901 yy_902 H locs ls h1
      exact absurd h1 (Nat.not_lt_zero _)
    | succ n_1 ih_2 =>
      intro yy_900 yy_901 yy_902 H locs ls hn_6 hL_5 pf_4 hP hD hS hl
      have ar_pf_4 := RK.ar pf_4
      refine lv_iload hx hb dX12_reckons_8 (lv_at hl 0 rfl) ?_
      refine lv_iload_n hx hb dX12_reckons_10 rfl (lv_at hl 4 rfl) ?_
      refine lv_icmp_ge (tgt := 135) hx hb dX12_reckons_11 (by decide) (fun c_7 => ?_) (fun c_7 => ?_)
      · skip
        have hb_9 : dX12_reckons_l8 (Mf 2) (Mg 9) x3 x1 ((x3.toInt - (yy_900 : Int32).toInt).toNat + 1) yy_900 yy_901 yy_902 = (yy_900, yy_901, yy_902) := by
          clear hP hD hS hl ih_2
          rw [dX12_reckons_l8_s]
          rw [if_pos c_7]
          try rfl
        have hX_8 : (dX12_reckons_l8 (Mf 2) (Mg 9) x3 x1 ((x3.toInt - (x2 : Int32).toInt).toNat + 1) x2 (0 : Int32) (Mg 8)) = (yy_900, yy_901, yy_902) := hL_5.trans hb_9
        have hX_8_0 : (dX12_reckons_l8 (Mf 2) (Mg 9) x3 x1 ((x3.toInt - (x2 : Int32).toInt).toNat + 1) x2 (0 : Int32) (Mg 8)).1 = yy_900 := congrArg (fun z => z.1) hX_8
        have hX_8_1 : (dX12_reckons_l8 (Mf 2) (Mg 9) x3 x1 ((x3.toInt - (x2 : Int32).toInt).toNat + 1) x2 (0 : Int32) (Mg 8)).2.1 = yy_901 := congrArg (fun z => z.2.1) hX_8
        have hX_8_2 : (dX12_reckons_l8 (Mf 2) (Mg 9) x3 x1 ((x3.toInt - (x2 : Int32).toInt).toNat + 1) x2 (0 : Int32) (Mg 8)).2.2 = yy_902 := congrArg (fun z => z.2.2) hX_8
        refine lv_aload_n hx hb dX12_reckons_135 rfl (lv_at hl 1 rfl) ?_
        have ha_10 : 1 ≤ yy_901.toInt ∧ yy_901.toInt ≤ 64 := by
          have z_1 := Int32.le_iff_toInt_le.mp c_7
          omega
        refine cV (a := (Ma 0)) (As := []) (rest := []) (wr := [((Ma 2), .inl (tc 0, 2400, .inl (Mf 2))), ((Ma 9), .inl (tc 1, 13, .inr (.inl (Mg 9))))]) ⟨hx, hb, hml, hown, hts⟩ hK hX hA (cu_dX12_pop l D tc sk (Ma 0) (Ma 1) (Ma 2) (Ma 3) (Ma 4) (Ma 5) (Ma 6) (Ma 7) (Ma 8) (Ma 9) (Ma 10) (Ma 11) (Ma 12) (Ma 13) (Ma 14) (Ma 15) (Ma 16) (Ma 17) (Ma 18) (Ma 19) (Ma 20) (Mv 0) (Mv 1) (Mv 2) (Mv 3) (Mv 4) (Mv 5) (Mv 6) (Mv 7) (Mv 8) (Mv 9) yy_901 (Mv 11) (Mv 12) (Mv 13) (Mv 14) (Mj 0) yy_902 ha_10) k_1455 k_1452 k_1454 k_75 k_106 pl_X12_pop ⟨Nat.le_of_ble_eq_true rfl, Nat.le_of_ble_eq_true rfl⟩ rfl rfl (va_recv hK hP (ci := 12) (q0 := 0) rfl rfl) hP hD hS [0, 2] [1, 3] rfl rfl rfl rfl rfl (by decide) rfl hl.1 rfl (Nat.le_of_ble_eq_true rfl) dX12_reckons_136 ⟨Nat.le_of_ble_eq_true rfl, Nat.le_of_ble_eq_true rfl⟩ (fun v_11 u_12 H locs hv_13 hP₀ hD₀ hS₀ => ?_)
        obtain ⟨sv_14, rfl⟩ : ∃ z, z = u_12 := ⟨_, rfl⟩
        obtain ⟨r_16, rfl, he_17, pf_15⟩ := hv_13
        have he_17 : (True) ∧ (r_16, sv_14) = (dX12_pop yy_902 yy_901) := he_17
        have pf_15 : (sv_14 : Int32).toInt = yy_901.toInt - 1 := pf_15
        refine W.eq (g2 := F0 m 139 ls [.long r_16]) rfl ?_
        replace hP : va_P D classes [((Ma 2), .inl (tc 0, 2400, .inl (Mf 2))), ((Ma 9), .inl (tc 1, 13, .inr (.inl (Mg 9)))), ((Ma 0), .inr (12, [.ref (Ma 1), .int (Mv 0), .int (Mv 1), .ref (Ma 2), .ref (Ma 3), .ref (Ma 4), .ref (Ma 5), .ref (Ma 6), .int (Mv 2), .int (Mv 3), .int (Mv 4), .int (Mv 5), .int (Mv 6), .int (Mv 7), .int (Mv 8), .ref (Ma 7), .int (Mv 9), .ref (Ma 8), .int sv_14, .ref (Ma 9), .ref (Ma 10), .int (Mv 11), .int (Mv 12), .int (Mv 13), .ref (Ma 11), .int (Mv 14), .ref (Ma 12), .ref (Ma 13), .ref (Ma 14), .ref (Ma 15), .ref (Ma 16), .long (Mj 0), .ref (Ma 17), .ref (Ma 18), .ref (Ma 19), .ref (Ma 20)])), ((Ma 8), .inl (tc 1, 64, .inr (.inl yy_902)))] H := hP₀
        replace hD : va_D A [((Ma 2), .inl (tc 0, 2400, .inl (Mf 2))), ((Ma 9), .inl (tc 1, 13, .inr (.inl (Mg 9)))), ((Ma 0), .inr (12, [.ref (Ma 1), .int (Mv 0), .int (Mv 1), .ref (Ma 2), .ref (Ma 3), .ref (Ma 4), .ref (Ma 5), .ref (Ma 6), .int (Mv 2), .int (Mv 3), .int (Mv 4), .int (Mv 5), .int (Mv 6), .int (Mv 7), .int (Mv 8), .ref (Ma 7), .int (Mv 9), .ref (Ma 8), .int sv_14, .ref (Ma 9), .ref (Ma 10), .int (Mv 11), .int (Mv 12), .int (Mv 13), .ref (Ma 11), .int (Mv 14), .ref (Ma 12), .ref (Ma 13), .ref (Ma 14), .ref (Ma 15), .ref (Ma 16), .long (Mj 0), .ref (Ma 17), .ref (Ma 18), .ref (Ma 19), .ref (Ma 20)])), ((Ma 8), .inl (tc 1, 64, .inr (.inl yy_902)))] := hD₀
        replace hS := hS₀
        clear hP₀ hD₀ hS₀
        obtain ⟨he_17, hq_19⟩ := he_17
        have er_16 : r_16 = (dX12_pop yy_902 yy_901).1 := congrArg (fun z => z.1) hq_19
        have esv_14 : sv_14 = (dX12_pop yy_902 yy_901).2 := congrArg (fun z => z.2) hq_19
        have hF_20 : (r_16, sv_14, yy_902) = (dX12_reckons (Mf 2) (Mg 8) (Mg 9) x1 x2 x3) := by
          clear hP hD hS hl ih_2
          replace er_16 := er_16.symm; subst er_16
          replace esv_14 := esv_14.symm; subst esv_14
          unfold dX12_reckons
          try rw [hX_8_0]
          try rw [hX_8_1]
          try rw [hX_8_2]
          try rfl
        exact retL (v := r_16) hx hb hr hlk hP hD hS (sv_14, yy_902) ⟨_, rfl, ⟨trivial, hF_20⟩⟩ [2, 0, 3, 1] rfl rfl dX12_reckons_139 (Nat.le_of_ble_eq_true rfl) (Nat.le_of_ble_eq_true rfl) rfl
      · skip
        refine lv_aload_n hx hb dX12_reckons_14 rfl (lv_at hl 1 rfl) ?_
        refine gf_X12_13 hx hb hts hown hK hP 0 rfl rfl dX12_reckons_15 ?_
        refine lv_sipush (v := 400) hx hb dX12_reckons_18 (by decide) ?_
        refine lv_iload_n hx hb dX12_reckons_21 rfl (lv_at hl 2 rfl) ?_
        refine lv_imul hx hb dX12_reckons_22 ?_
        refine lv_topi (fun x_21 ex_21 => ?_)
        refine lv_iload hx hb dX12_reckons_23 (lv_at hl 0 rfl) ?_
        refine lv_iadd hx hb dX12_reckons_25 ?_
        refine lv_topi (fun x_22 ex_22 => ?_)
        have hi_23 : vp_in x_22 2400 := by
          have z_1 := Int32.lt_iff_toInt_lt.mp (Int32.not_le.mp c_7)
          have y_400 : (400 : Int32).toInt = 400 := by decide
          have t_x_21 : x_21.toInt = (400 : Int32).toInt * (x1 : Int32).toInt := by rw [ex_21]; exact mul_toInt (by first | omega | (rw [y_400]; omega)) (by first | omega | (rw [y_400]; omega))
          rw [y_400] at t_x_21
          have t_x_22 : x_22.toInt = (x_21 : Int32).toInt + (yy_900 : Int32).toInt := by rw [ex_22]; exact add_toInt (by omega) (by omega)
          refine vp_in_iff.mpr ⟨?_, ?_⟩ <;> omega
        refine va_iald hx hb hK hP 1 0 rfl rfl hi_23 dX12_reckons_26 ?_
        refine lv_topi (fun x_24 ex_24 => ?_)
        have hj_25 : (x_22 : Int32).toInt = 400 * (x1 : Int32).toInt + (yy_900 : Int32).toInt := by
          have z_1 := Int32.lt_iff_toInt_lt.mp (Int32.not_le.mp c_7)
          have y_400 : (400 : Int32).toInt = 400 := by decide
          have t_x_21 : x_21.toInt = (400 : Int32).toInt * (x1 : Int32).toInt := by rw [ex_21]; exact mul_toInt (by first | omega | (rw [y_400]; omega)) (by first | omega | (rw [y_400]; omega))
          rw [y_400] at t_x_21
          have t_x_22 : x_22.toInt = (x_21 : Int32).toInt + (yy_900 : Int32).toInt := by rw [ex_22]; exact add_toInt (by omega) (by omega)
          omega
        have hl_26 : (yy_900 : Int32).toInt < (x3 : Int32).toInt := by
          have z_1 := Int32.lt_iff_toInt_lt.mp (Int32.not_le.mp c_7)
          omega
        have hc_27 := RK.cases pf_4 hl_26 h_tt.1 hj_25 ex_24
        refine lv_bipush (v := 15) hx hb dX12_reckons_27 (by decide) ?_
        refine lv_iand hx hb dX12_reckons_29 ?_
        refine lv_topi (fun x_28 ex_28 => ?_)
        have lx_28 := congrArg Int32.toInt ex_28
        refine lv_istore (lv' := [(5, .int x_28), (4, .int yy_900), (0, .ref (Ma 0)), (1, .int x1), (2, .int x2), (3, .int x3)]) hx hb dX12_reckons_30 hl (by decide) rfl (fun ls hl₀ => ?_)
        replace hl := hl₀
        clear hl₀
        refine lv_aload_n hx hb dX12_reckons_32 rfl (lv_at hl 2 rfl) ?_
        refine gf_X12_13 hx hb hts hown hK hP 0 rfl rfl dX12_reckons_33 ?_
        refine lv_sipush (v := 400) hx hb dX12_reckons_36 (by decide) ?_
        refine lv_iload_n hx hb dX12_reckons_39 rfl (lv_at hl 3 rfl) ?_
        refine lv_imul hx hb dX12_reckons_40 ?_
        refine lv_topi (fun x_29 ex_29 => ?_)
        refine lv_iload hx hb dX12_reckons_41 (lv_at hl 1 rfl) ?_
        refine lv_iadd hx hb dX12_reckons_43 ?_
        refine lv_topi (fun x_30 ex_30 => ?_)
        have hi_31 : vp_in x_30 2400 := by
          have z_1 := Int32.lt_iff_toInt_lt.mp (Int32.not_le.mp c_7)
          have y_400 : (400 : Int32).toInt = 400 := by decide
          have t_x_29 : x_29.toInt = (400 : Int32).toInt * (x1 : Int32).toInt := by rw [ex_29]; exact mul_toInt (by first | omega | (rw [y_400]; omega)) (by first | omega | (rw [y_400]; omega))
          rw [y_400] at t_x_29
          have t_x_30 : x_30.toInt = (x_29 : Int32).toInt + (yy_900 : Int32).toInt := by rw [ex_30]; exact add_toInt (by omega) (by omega)
          refine vp_in_iff.mpr ⟨?_, ?_⟩ <;> omega
        refine va_iald hx hb hK hP 1 0 rfl rfl hi_31 dX12_reckons_44 ?_
        refine lv_topi (fun x_32 ex_32 => ?_)
        have hj_33 : (x_30 : Int32).toInt = 400 * (x1 : Int32).toInt + (yy_900 : Int32).toInt := by
          have z_1 := Int32.lt_iff_toInt_lt.mp (Int32.not_le.mp c_7)
          have y_400 : (400 : Int32).toInt = 400 := by decide
          have t_x_29 : x_29.toInt = (400 : Int32).toInt * (x1 : Int32).toInt := by rw [ex_29]; exact mul_toInt (by first | omega | (rw [y_400]; omega)) (by first | omega | (rw [y_400]; omega))
          rw [y_400] at t_x_29
          have t_x_30 : x_30.toInt = (x_29 : Int32).toInt + (yy_900 : Int32).toInt := by rw [ex_30]; exact add_toInt (by omega) (by omega)
          omega
        have hl_34 : (yy_900 : Int32).toInt < (x3 : Int32).toInt := by
          have z_1 := Int32.lt_iff_toInt_lt.mp (Int32.not_le.mp c_7)
          omega
        have qx_32 : x_32 = x_24 := by rw [ex_32, ex_24, Int32.toInt_inj.mp (hj_33.trans hj_25.symm)]
        refine lv_iconst (v := 4) hx hb dX12_reckons_45 (by decide) ?_
        refine lv_ishr hx hb dX12_reckons_46 ?_
        refine lv_topi (fun x_35 ex_35 => ?_)
        have lx_35 : x_35.toInt = (x_24 >>> (4 &&& 31)).toInt := by rw [ex_35, qx_32]
        refine lv_istore (lv' := [(6, .int x_35), (5, .int x_28), (4, .int yy_900), (0, .ref (Ma 0)), (1, .int x1), (2, .int x2), (3, .int x3)]) hx hb dX12_reckons_47 hl (by decide) rfl (fun ls hl₀ => ?_)
        replace hl := hl₀
        clear hl₀
        refine lv_iload hx hb dX12_reckons_49 (lv_at hl 1 rfl) ?_
        refine lv_if_ne (tgt := 64) hx hb dX12_reckons_51 (by decide) (fun c_36 => ?_) (fun c_36 => ?_)
        · skip
          refine lv_iload hx hb dX12_reckons_64 (lv_at hl 1 rfl) ?_
          refine lv_iconst (v := 1) hx hb dX12_reckons_66 (by decide) ?_
          refine lv_icmp_ne (tgt := 84) hx hb dX12_reckons_67 (by decide) (fun c_37 => ?_) (fun c_37 => ?_)
          · skip
            refine lv_iload hx hb dX12_reckons_84 (lv_at hl 1 rfl) ?_
            refine lv_bipush (v := 11) hx hb dX12_reckons_86 (by decide) ?_
            refine lv_icmp_ne (tgt := 104) hx hb dX12_reckons_88 (by decide) (fun c_38 => ?_) (fun c_38 => ?_)
            · skip
              refine lv_aload_n hx hb dX12_reckons_104 rfl (lv_at hl 3 rfl) ?_
              have ha_39 : 1 ≤ yy_901.toInt ∧ yy_901.toInt ≤ 64 := by
                have z_1 := Int32.lt_iff_toInt_lt.mp (Int32.not_le.mp c_7)
                have z_2 : ¬ (x_28 : Int32).toInt = (0 : Int32).toInt := fun z => c_36 (Int32.toInt_inj.mp z)
                have z_3 : ¬ (x_28 : Int32).toInt = (1 : Int32).toInt := fun z => c_37 (Int32.toInt_inj.mp z)
                have z_4 : ¬ (x_28 : Int32).toInt = (11 : Int32).toInt := fun z => c_38 (Int32.toInt_inj.mp z)
                have y_0 : (0 : Int32).toInt = 0 := by decide
                have y_1 : (1 : Int32).toInt = 1 := by decide
                have y_11 : (11 : Int32).toInt = 11 := by decide
                omega
              refine cV (a := (Ma 0)) (As := []) (rest := []) (wr := [((Ma 2), .inl (tc 0, 2400, .inl (Mf 2))), ((Ma 9), .inl (tc 1, 13, .inr (.inl (Mg 9))))]) ⟨hx, hb, hml, hown, hts⟩ hK hX hA (cu_dX12_pop l D tc sk (Ma 0) (Ma 1) (Ma 2) (Ma 3) (Ma 4) (Ma 5) (Ma 6) (Ma 7) (Ma 8) (Ma 9) (Ma 10) (Ma 11) (Ma 12) (Ma 13) (Ma 14) (Ma 15) (Ma 16) (Ma 17) (Ma 18) (Ma 19) (Ma 20) (Mv 0) (Mv 1) (Mv 2) (Mv 3) (Mv 4) (Mv 5) (Mv 6) (Mv 7) (Mv 8) (Mv 9) yy_901 (Mv 11) (Mv 12) (Mv 13) (Mv 14) (Mj 0) yy_902 ha_39) k_1455 k_1452 k_1454 k_75 k_106 pl_X12_pop ⟨Nat.le_of_ble_eq_true rfl, Nat.le_of_ble_eq_true rfl⟩ rfl rfl (va_recv hK hP (ci := 12) (q0 := 0) rfl rfl) hP hD hS [0, 2] [1, 3] rfl rfl rfl rfl rfl (by decide) rfl hl.1 rfl (Nat.le_of_ble_eq_true rfl) dX12_reckons_105 ⟨Nat.le_of_ble_eq_true rfl, Nat.le_of_ble_eq_true rfl⟩ (fun v_40 u_41 H locs hv_42 hP₀ hD₀ hS₀ => ?_)
              obtain ⟨sv_43, rfl⟩ : ∃ z, z = u_41 := ⟨_, rfl⟩
              obtain ⟨r_45, rfl, he_46, pf_44⟩ := hv_42
              have he_46 : (True) ∧ (r_45, sv_43) = (dX12_pop yy_902 yy_901) := he_46
              have pf_44 : (sv_43 : Int32).toInt = yy_901.toInt - 1 := pf_44
              refine W.eq (g2 := F0 m 108 ls [.long r_45]) rfl ?_
              replace hP : va_P D classes [((Ma 2), .inl (tc 0, 2400, .inl (Mf 2))), ((Ma 9), .inl (tc 1, 13, .inr (.inl (Mg 9)))), ((Ma 0), .inr (12, [.ref (Ma 1), .int (Mv 0), .int (Mv 1), .ref (Ma 2), .ref (Ma 3), .ref (Ma 4), .ref (Ma 5), .ref (Ma 6), .int (Mv 2), .int (Mv 3), .int (Mv 4), .int (Mv 5), .int (Mv 6), .int (Mv 7), .int (Mv 8), .ref (Ma 7), .int (Mv 9), .ref (Ma 8), .int sv_43, .ref (Ma 9), .ref (Ma 10), .int (Mv 11), .int (Mv 12), .int (Mv 13), .ref (Ma 11), .int (Mv 14), .ref (Ma 12), .ref (Ma 13), .ref (Ma 14), .ref (Ma 15), .ref (Ma 16), .long (Mj 0), .ref (Ma 17), .ref (Ma 18), .ref (Ma 19), .ref (Ma 20)])), ((Ma 8), .inl (tc 1, 64, .inr (.inl yy_902)))] H := hP₀
              replace hD : va_D A [((Ma 2), .inl (tc 0, 2400, .inl (Mf 2))), ((Ma 9), .inl (tc 1, 13, .inr (.inl (Mg 9)))), ((Ma 0), .inr (12, [.ref (Ma 1), .int (Mv 0), .int (Mv 1), .ref (Ma 2), .ref (Ma 3), .ref (Ma 4), .ref (Ma 5), .ref (Ma 6), .int (Mv 2), .int (Mv 3), .int (Mv 4), .int (Mv 5), .int (Mv 6), .int (Mv 7), .int (Mv 8), .ref (Ma 7), .int (Mv 9), .ref (Ma 8), .int sv_43, .ref (Ma 9), .ref (Ma 10), .int (Mv 11), .int (Mv 12), .int (Mv 13), .ref (Ma 11), .int (Mv 14), .ref (Ma 12), .ref (Ma 13), .ref (Ma 14), .ref (Ma 15), .ref (Ma 16), .long (Mj 0), .ref (Ma 17), .ref (Ma 18), .ref (Ma 19), .ref (Ma 20)])), ((Ma 8), .inl (tc 1, 64, .inr (.inl yy_902)))] := hD₀
              replace hS := hS₀
              clear hP₀ hD₀ hS₀
              obtain ⟨he_46, hq_48⟩ := he_46
              have er_45 : r_45 = (dX12_pop yy_902 yy_901).1 := congrArg (fun z => z.1) hq_48
              have esv_43 : sv_43 = (dX12_pop yy_902 yy_901).2 := congrArg (fun z => z.2) hq_48
              refine lv_lstore (lv' := [(7, .long r_45), (6, .int x_35), (5, .int x_28), (4, .int yy_900), (0, .ref (Ma 0)), (1, .int x1), (2, .int x2), (3, .int x3)]) hx hb dX12_reckons_108 hl (by decide) rfl (fun ls hl₀ => ?_)
              replace hl := hl₀
              clear hl₀
              refine lv_aload_n hx hb dX12_reckons_110 rfl (lv_at hl 4 rfl) ?_
              have ha_49 : 1 ≤ sv_43.toInt ∧ sv_43.toInt ≤ 64 := by
                have z_1 := Int32.lt_iff_toInt_lt.mp (Int32.not_le.mp c_7)
                have z_2 : ¬ (x_28 : Int32).toInt = (0 : Int32).toInt := fun z => c_36 (Int32.toInt_inj.mp z)
                have z_3 : ¬ (x_28 : Int32).toInt = (1 : Int32).toInt := fun z => c_37 (Int32.toInt_inj.mp z)
                have z_4 : ¬ (x_28 : Int32).toInt = (11 : Int32).toInt := fun z => c_38 (Int32.toInt_inj.mp z)
                have y_0 : (0 : Int32).toInt = 0 := by decide
                have y_1 : (1 : Int32).toInt = 1 := by decide
                have y_11 : (11 : Int32).toInt = 11 := by decide
                omega
              refine cV (a := (Ma 0)) (As := []) (rest := []) (wr := [((Ma 2), .inl (tc 0, 2400, .inl (Mf 2))), ((Ma 9), .inl (tc 1, 13, .inr (.inl (Mg 9))))]) ⟨hx, hb, hml, hown, hts⟩ hK hX hA (cu_dX12_pop l D tc sk (Ma 0) (Ma 1) (Ma 2) (Ma 3) (Ma 4) (Ma 5) (Ma 6) (Ma 7) (Ma 8) (Ma 9) (Ma 10) (Ma 11) (Ma 12) (Ma 13) (Ma 14) (Ma 15) (Ma 16) (Ma 17) (Ma 18) (Ma 19) (Ma 20) (Mv 0) (Mv 1) (Mv 2) (Mv 3) (Mv 4) (Mv 5) (Mv 6) (Mv 7) (Mv 8) (Mv 9) sv_43 (Mv 11) (Mv 12) (Mv 13) (Mv 14) (Mj 0) yy_902 ha_49) k_1455 k_1452 k_1454 k_75 k_106 pl_X12_pop ⟨Nat.le_of_ble_eq_true rfl, Nat.le_of_ble_eq_true rfl⟩ rfl rfl (va_recv hK hP (ci := 12) (q0 := 2) rfl rfl) hP hD hS [2, 3] [0, 1] rfl rfl rfl rfl rfl (by decide) rfl hl.1 rfl (Nat.le_of_ble_eq_true rfl) dX12_reckons_111 ⟨Nat.le_of_ble_eq_true rfl, Nat.le_of_ble_eq_true rfl⟩ (fun v_50 u_51 H locs hv_52 hP₀ hD₀ hS₀ => ?_)
              obtain ⟨sv_53, rfl⟩ : ∃ z, z = u_51 := ⟨_, rfl⟩
              obtain ⟨r_55, rfl, he_56, pf_54⟩ := hv_52
              have he_56 : (True) ∧ (r_55, sv_53) = (dX12_pop yy_902 sv_43) := he_56
              have pf_54 : (sv_53 : Int32).toInt = sv_43.toInt - 1 := pf_54
              refine W.eq (g2 := F0 m 114 ls [.long r_55]) rfl ?_
              replace hP : va_P D classes [((Ma 2), .inl (tc 0, 2400, .inl (Mf 2))), ((Ma 9), .inl (tc 1, 13, .inr (.inl (Mg 9)))), ((Ma 0), .inr (12, [.ref (Ma 1), .int (Mv 0), .int (Mv 1), .ref (Ma 2), .ref (Ma 3), .ref (Ma 4), .ref (Ma 5), .ref (Ma 6), .int (Mv 2), .int (Mv 3), .int (Mv 4), .int (Mv 5), .int (Mv 6), .int (Mv 7), .int (Mv 8), .ref (Ma 7), .int (Mv 9), .ref (Ma 8), .int sv_53, .ref (Ma 9), .ref (Ma 10), .int (Mv 11), .int (Mv 12), .int (Mv 13), .ref (Ma 11), .int (Mv 14), .ref (Ma 12), .ref (Ma 13), .ref (Ma 14), .ref (Ma 15), .ref (Ma 16), .long (Mj 0), .ref (Ma 17), .ref (Ma 18), .ref (Ma 19), .ref (Ma 20)])), ((Ma 8), .inl (tc 1, 64, .inr (.inl yy_902)))] H := hP₀
              replace hD : va_D A [((Ma 2), .inl (tc 0, 2400, .inl (Mf 2))), ((Ma 9), .inl (tc 1, 13, .inr (.inl (Mg 9)))), ((Ma 0), .inr (12, [.ref (Ma 1), .int (Mv 0), .int (Mv 1), .ref (Ma 2), .ref (Ma 3), .ref (Ma 4), .ref (Ma 5), .ref (Ma 6), .int (Mv 2), .int (Mv 3), .int (Mv 4), .int (Mv 5), .int (Mv 6), .int (Mv 7), .int (Mv 8), .ref (Ma 7), .int (Mv 9), .ref (Ma 8), .int sv_53, .ref (Ma 9), .ref (Ma 10), .int (Mv 11), .int (Mv 12), .int (Mv 13), .ref (Ma 11), .int (Mv 14), .ref (Ma 12), .ref (Ma 13), .ref (Ma 14), .ref (Ma 15), .ref (Ma 16), .long (Mj 0), .ref (Ma 17), .ref (Ma 18), .ref (Ma 19), .ref (Ma 20)])), ((Ma 8), .inl (tc 1, 64, .inr (.inl yy_902)))] := hD₀
              replace hS := hS₀
              clear hP₀ hD₀ hS₀
              obtain ⟨he_56, hq_58⟩ := he_56
              have er_55 : r_55 = (dX12_pop yy_902 sv_43).1 := congrArg (fun z => z.1) hq_58
              have esv_53 : sv_53 = (dX12_pop yy_902 sv_43).2 := congrArg (fun z => z.2) hq_58
              refine lv_lstore (lv' := [(9, .long r_55), (7, .long r_45), (6, .int x_35), (5, .int x_28), (4, .int yy_900), (0, .ref (Ma 0)), (1, .int x1), (2, .int x2), (3, .int x3)]) hx hb dX12_reckons_114 hl (by decide) rfl (fun ls hl₀ => ?_)
              replace hl := hl₀
              clear hl₀
              refine lv_aload_n hx hb dX12_reckons_116 rfl (lv_at hl 5 rfl) ?_
              refine lv_iload hx hb dX12_reckons_117 (lv_at hl 3 rfl) ?_
              refine lv_lload hx hb dX12_reckons_119 (lv_at hl 0 rfl) ?_
              refine lv_lload hx hb dX12_reckons_121 (lv_at hl 1 rfl) ?_
              refine cS (As := [.int x_28, .long r_55, .long r_45]) (rest := [.ref (Ma 0)]) (wr := [((Ma 2), .inl (tc 0, 2400, .inl (Mf 2))), ((Ma 9), .inl (tc 1, 13, .inr (.inl (Mg 9)))), ((Ma 0), .inr (12, [.ref (Ma 1), .int (Mv 0), .int (Mv 1), .ref (Ma 2), .ref (Ma 3), .ref (Ma 4), .ref (Ma 5), .ref (Ma 6), .int (Mv 2), .int (Mv 3), .int (Mv 4), .int (Mv 5), .int (Mv 6), .int (Mv 7), .int (Mv 8), .ref (Ma 7), .int (Mv 9), .ref (Ma 8), .int sv_53, .ref (Ma 9), .ref (Ma 10), .int (Mv 11), .int (Mv 12), .int (Mv 13), .ref (Ma 11), .int (Mv 14), .ref (Ma 12), .ref (Ma 13), .ref (Ma 14), .ref (Ma 15), .ref (Ma 16), .long (Mj 0), .ref (Ma 17), .ref (Ma 18), .ref (Ma 19), .ref (Ma 20)])), ((Ma 8), .inl (tc 1, 64, .inr (.inl yy_902)))]) ⟨hx, hb, hml, hown, hts⟩ hK hX hA (ct_dX12_one l D tc sk x_28 r_55 r_45) k_1458 k_1456 k_1457 k_106 pl_X12_one ⟨Nat.le_of_ble_eq_true rfl, Nat.le_of_ble_eq_true rfl⟩ rfl rfl  hP hD hS [] [0, 1, 2, 3] rfl rfl rfl rfl rfl (by decide) rfl hl.1 rfl (Nat.le_of_ble_eq_true rfl) dX12_reckons_123 ⟨Nat.le_of_ble_eq_true rfl, Nat.le_of_ble_eq_true rfl⟩ (fun v_59 u_60 H locs hv_61 hP₀ hD₀ hS₀ => ?_)
              obtain ⟨r_62, rfl, he_63⟩ := hv_61
              have he_63 : (True) ∧ r_62 = (dX12_one x_28 r_55 r_45) := he_63
              refine W.eq (g2 := F0 m 126 ls [.long r_62, .ref (Ma 0)]) rfl ?_
              replace hP : va_P D classes [((Ma 2), .inl (tc 0, 2400, .inl (Mf 2))), ((Ma 9), .inl (tc 1, 13, .inr (.inl (Mg 9)))), ((Ma 0), .inr (12, [.ref (Ma 1), .int (Mv 0), .int (Mv 1), .ref (Ma 2), .ref (Ma 3), .ref (Ma 4), .ref (Ma 5), .ref (Ma 6), .int (Mv 2), .int (Mv 3), .int (Mv 4), .int (Mv 5), .int (Mv 6), .int (Mv 7), .int (Mv 8), .ref (Ma 7), .int (Mv 9), .ref (Ma 8), .int sv_53, .ref (Ma 9), .ref (Ma 10), .int (Mv 11), .int (Mv 12), .int (Mv 13), .ref (Ma 11), .int (Mv 14), .ref (Ma 12), .ref (Ma 13), .ref (Ma 14), .ref (Ma 15), .ref (Ma 16), .long (Mj 0), .ref (Ma 17), .ref (Ma 18), .ref (Ma 19), .ref (Ma 20)])), ((Ma 8), .inl (tc 1, 64, .inr (.inl yy_902)))] H := hP₀
              replace hD : va_D A [((Ma 2), .inl (tc 0, 2400, .inl (Mf 2))), ((Ma 9), .inl (tc 1, 13, .inr (.inl (Mg 9)))), ((Ma 0), .inr (12, [.ref (Ma 1), .int (Mv 0), .int (Mv 1), .ref (Ma 2), .ref (Ma 3), .ref (Ma 4), .ref (Ma 5), .ref (Ma 6), .int (Mv 2), .int (Mv 3), .int (Mv 4), .int (Mv 5), .int (Mv 6), .int (Mv 7), .int (Mv 8), .ref (Ma 7), .int (Mv 9), .ref (Ma 8), .int sv_53, .ref (Ma 9), .ref (Ma 10), .int (Mv 11), .int (Mv 12), .int (Mv 13), .ref (Ma 11), .int (Mv 14), .ref (Ma 12), .ref (Ma 13), .ref (Ma 14), .ref (Ma 15), .ref (Ma 16), .long (Mj 0), .ref (Ma 17), .ref (Ma 18), .ref (Ma 19), .ref (Ma 20)])), ((Ma 8), .inl (tc 1, 64, .inr (.inl yy_902)))] := hD₀
              replace hS := hS₀
              clear hP₀ hD₀ hS₀
              obtain ⟨he_63, hq_65⟩ := he_63
              have er_62 : r_62 = (dX12_one x_28 r_55 r_45) := hq_65
              have ha_66 : 0 ≤ sv_53.toInt ∧ sv_53.toInt < 64 := by
                have z_1 := Int32.lt_iff_toInt_lt.mp (Int32.not_le.mp c_7)
                have z_2 : ¬ (x_28 : Int32).toInt = (0 : Int32).toInt := fun z => c_36 (Int32.toInt_inj.mp z)
                have z_3 : ¬ (x_28 : Int32).toInt = (1 : Int32).toInt := fun z => c_37 (Int32.toInt_inj.mp z)
                have z_4 : ¬ (x_28 : Int32).toInt = (11 : Int32).toInt := fun z => c_38 (Int32.toInt_inj.mp z)
                have y_0 : (0 : Int32).toInt = 0 := by decide
                have y_1 : (1 : Int32).toInt = 1 := by decide
                have y_11 : (11 : Int32).toInt = 11 := by decide
                omega
              refine cV (a := (Ma 0)) (As := [.long r_62]) (rest := []) (wr := [((Ma 2), .inl (tc 0, 2400, .inl (Mf 2))), ((Ma 9), .inl (tc 1, 13, .inr (.inl (Mg 9))))]) ⟨hx, hb, hml, hown, hts⟩ hK hX hA (cu_dX12_push l D tc sk (Ma 0) (Ma 1) (Ma 2) (Ma 3) (Ma 4) (Ma 5) (Ma 6) (Ma 7) (Ma 8) (Ma 9) (Ma 10) (Ma 11) (Ma 12) (Ma 13) (Ma 14) (Ma 15) (Ma 16) (Ma 17) (Ma 18) (Ma 19) (Ma 20) (Mv 0) (Mv 1) (Mv 2) (Mv 3) (Mv 4) (Mv 5) (Mv 6) (Mv 7) (Mv 8) (Mv 9) sv_53 (Mv 11) (Mv 12) (Mv 13) (Mv 14) (Mj 0) yy_902 r_62 ha_66) k_1451 k_1448 k_1450 k_74 k_106 pl_X12_push ⟨Nat.le_of_ble_eq_true rfl, Nat.le_of_ble_eq_true rfl⟩ rfl rfl (va_recv hK hP (ci := 12) (q0 := 2) rfl rfl) hP hD hS [2, 3] [0, 1] rfl rfl rfl rfl rfl (by decide) rfl hl.1 rfl (Nat.le_of_ble_eq_true rfl) dX12_reckons_126 ⟨Nat.le_of_ble_eq_true rfl, Nat.le_of_ble_eq_true rfl⟩ (fun v_67 u_68 H locs hv_69 hP₀ hD₀ hS₀ => ?_)
              obtain ⟨sv_70, sv_71⟩ := u_68
              obtain ⟨rfl, pf_72, pf_73⟩ := hv_69
              have pf_72 : (sv_70 : Int32).toInt = sv_53.toInt + 1 := pf_72
              have pf_73 : DEq ((sv_70, sv_71)) (dX12_push yy_902 sv_53 r_62) := pf_73
              refine W.eq (g2 := F0 m 129 ls []) rfl ?_
              replace hP : va_P D classes [((Ma 2), .inl (tc 0, 2400, .inl (Mf 2))), ((Ma 9), .inl (tc 1, 13, .inr (.inl (Mg 9)))), ((Ma 0), .inr (12, [.ref (Ma 1), .int (Mv 0), .int (Mv 1), .ref (Ma 2), .ref (Ma 3), .ref (Ma 4), .ref (Ma 5), .ref (Ma 6), .int (Mv 2), .int (Mv 3), .int (Mv 4), .int (Mv 5), .int (Mv 6), .int (Mv 7), .int (Mv 8), .ref (Ma 7), .int (Mv 9), .ref (Ma 8), .int sv_70, .ref (Ma 9), .ref (Ma 10), .int (Mv 11), .int (Mv 12), .int (Mv 13), .ref (Ma 11), .int (Mv 14), .ref (Ma 12), .ref (Ma 13), .ref (Ma 14), .ref (Ma 15), .ref (Ma 16), .long (Mj 0), .ref (Ma 17), .ref (Ma 18), .ref (Ma 19), .ref (Ma 20)])), ((Ma 8), .inl (tc 1, 64, .inr (.inl sv_71)))] H := hP₀
              replace hD : va_D A [((Ma 2), .inl (tc 0, 2400, .inl (Mf 2))), ((Ma 9), .inl (tc 1, 13, .inr (.inl (Mg 9)))), ((Ma 0), .inr (12, [.ref (Ma 1), .int (Mv 0), .int (Mv 1), .ref (Ma 2), .ref (Ma 3), .ref (Ma 4), .ref (Ma 5), .ref (Ma 6), .int (Mv 2), .int (Mv 3), .int (Mv 4), .int (Mv 5), .int (Mv 6), .int (Mv 7), .int (Mv 8), .ref (Ma 7), .int (Mv 9), .ref (Ma 8), .int sv_70, .ref (Ma 9), .ref (Ma 10), .int (Mv 11), .int (Mv 12), .int (Mv 13), .ref (Ma 11), .int (Mv 14), .ref (Ma 12), .ref (Ma 13), .ref (Ma 14), .ref (Ma 15), .ref (Ma 16), .long (Mj 0), .ref (Ma 17), .ref (Ma 18), .ref (Ma 19), .ref (Ma 20)])), ((Ma 8), .inl (tc 1, 64, .inr (.inl sv_71)))] := hD₀
              replace hS := hS₀
              clear hP₀ hD₀ hS₀
              have esv_70 : sv_70 = (dX12_push yy_902 sv_53 r_62).1 := congrArg (fun z => z.1) pf_73
              have esv_71 : sv_71 = (dX12_push yy_902 sv_53 r_62).2 := congrArg (fun z => z.2) pf_73
              obtain ⟨x_74, ex_74⟩ : ∃ y : Int32, y = yy_900 + 1 := ⟨_, rfl⟩
              refine lv_iinc (v := x_74) (lv' := [(4, .int x_74), (9, .long r_55), (7, .long r_45), (6, .int x_35), (5, .int x_28), (0, .ref (Ma 0)), (1, .int x1), (2, .int x2), (3, .int x3)]) hx hb dX12_reckons_129 hl (k := 4) rfl (by rw [ex_74]; rfl) (by decide) rfl (fun ls hl₀ => ?_)
              replace hl := hl₀
              clear hl₀
              refine lv_goto (tgt := 8) hx hb dX12_reckons_132 (by decide) ?_
              have hb_75 : x3.toInt - (x_74 : Int32).toInt < x3.toInt - (yy_900 : Int32).toInt ∧ 1 ≤ x3.toInt - (yy_900 : Int32).toInt := by
                have z_1 := Int32.lt_iff_toInt_lt.mp (Int32.not_le.mp c_7)
                have z_2 : ¬ (x_28 : Int32).toInt = (0 : Int32).toInt := fun z => c_36 (Int32.toInt_inj.mp z)
                have z_3 : ¬ (x_28 : Int32).toInt = (1 : Int32).toInt := fun z => c_37 (Int32.toInt_inj.mp z)
                have z_4 : ¬ (x_28 : Int32).toInt = (11 : Int32).toInt := fun z => c_38 (Int32.toInt_inj.mp z)
                have y_0 : (0 : Int32).toInt = 0 := by decide
                have y_1 : (1 : Int32).toInt = 1 := by decide
                have y_11 : (11 : Int32).toInt = 11 := by decide
                have t_x_74 : x_74.toInt = (yy_900 : Int32).toInt + (1 : Int32).toInt := by rw [ex_74]; exact add_toInt (by omega) (by omega)
                omega
              have hm_76 : (x3.toInt - (yy_900 : Int32).toInt).toNat = (x3.toInt - (x_74 : Int32).toInt).toNat + 1 := by
                have z_1 := Int32.lt_iff_toInt_lt.mp (Int32.not_le.mp c_7)
                have z_2 : ¬ (x_28 : Int32).toInt = (0 : Int32).toInt := fun z => c_36 (Int32.toInt_inj.mp z)
                have z_3 : ¬ (x_28 : Int32).toInt = (1 : Int32).toInt := fun z => c_37 (Int32.toInt_inj.mp z)
                have z_4 : ¬ (x_28 : Int32).toInt = (11 : Int32).toInt := fun z => c_38 (Int32.toInt_inj.mp z)
                have y_0 : (0 : Int32).toInt = 0 := by decide
                have y_1 : (1 : Int32).toInt = 1 := by decide
                have y_11 : (11 : Int32).toInt = 11 := by decide
                have t_x_74 : x_74.toInt = (yy_900 : Int32).toInt + (1 : Int32).toInt := by rw [ex_74]; exact add_toInt (by omega) (by omega)
                omega
              have hb_77 : dX12_reckons_l8 (Mf 2) (Mg 9) x3 x1 ((x3.toInt - (yy_900 : Int32).toInt).toNat + 1) yy_900 yy_901 yy_902 = dX12_reckons_l8 (Mf 2) (Mg 9) x3 x1 ((x3.toInt - (yy_900 : Int32).toInt).toNat) x_74 sv_70 sv_71 := by
                clear hP hD hS hl ih_2
                replace ex_21 := ex_21.symm; subst ex_21
                replace ex_22 := ex_22.symm; subst ex_22
                replace ex_24 := ex_24.symm; subst ex_24
                replace ex_28 := ex_28.symm; subst ex_28
                replace ex_29 := ex_29.symm; subst ex_29
                replace ex_30 := ex_30.symm; subst ex_30
                replace ex_32 := ex_32.symm; subst ex_32
                replace ex_35 := ex_35.symm; subst ex_35
                replace er_45 := er_45.symm; subst er_45
                replace esv_43 := esv_43.symm; subst esv_43
                replace er_55 := er_55.symm; subst er_55
                replace esv_53 := esv_53.symm; subst esv_53
                replace er_62 := er_62.symm; subst er_62
                replace esv_70 := esv_70.symm; subst esv_70
                replace esv_71 := esv_71.symm; subst esv_71
                replace ex_74 := ex_74.symm; subst ex_74
                rw [dX12_reckons_l8_s]
                rw [if_neg c_7, if_neg c_36, if_neg c_37, if_neg c_38]
                try rfl
              have hL_78 : (dX12_reckons_l8 (Mf 2) (Mg 9) x3 x1 ((x3.toInt - (x2 : Int32).toInt).toNat + 1) x2 (0 : Int32) (Mg 8)) = dX12_reckons_l8 (Mf 2) (Mg 9) x3 x1 ((x3.toInt - (x_74 : Int32).toInt).toNat + 1) x_74 sv_70 sv_71 := by
                rw [hL_5, hb_77, hm_76]
              have hi_79 : (x_74 : Int32).toInt = (yy_900 : Int32).toInt + 1 := by
                have z_1 := Int32.lt_iff_toInt_lt.mp (Int32.not_le.mp c_7)
                have z_2 : ¬ (x_28 : Int32).toInt = (0 : Int32).toInt := fun z => c_36 (Int32.toInt_inj.mp z)
                have z_3 : ¬ (x_28 : Int32).toInt = (1 : Int32).toInt := fun z => c_37 (Int32.toInt_inj.mp z)
                have z_4 : ¬ (x_28 : Int32).toInt = (11 : Int32).toInt := fun z => c_38 (Int32.toInt_inj.mp z)
                have y_0 : (0 : Int32).toInt = 0 := by decide
                have y_1 : (1 : Int32).toInt = 1 := by decide
                have y_11 : (11 : Int32).toInt = 11 := by decide
                have t_x_74 : x_74.toInt = (yy_900 : Int32).toInt + (1 : Int32).toInt := by rw [ex_74]; exact add_toInt (by omega) (by omega)
                omega
              have hd_80 : ((((x_24 &&& 15).toInt = 0 ∨ (x_24 &&& 15).toInt = 1) ∧ (sv_70 : Int32).toInt = (yy_901 : Int32).toInt + 1) ∨ ((x_24 &&& 15).toInt = 11 ∧ (sv_70 : Int32).toInt = (yy_901 : Int32).toInt) ∨ ((x_24 &&& 15).toInt ≠ 0 ∧ (x_24 &&& 15).toInt ≠ 1 ∧ (x_24 &&& 15).toInt ≠ 11 ∧ (sv_70 : Int32).toInt = (yy_901 : Int32).toInt - 1)) := by
                have z_1 := Int32.lt_iff_toInt_lt.mp (Int32.not_le.mp c_7)
                have z_2 : ¬ (x_28 : Int32).toInt = (0 : Int32).toInt := fun z => c_36 (Int32.toInt_inj.mp z)
                have z_3 : ¬ (x_28 : Int32).toInt = (1 : Int32).toInt := fun z => c_37 (Int32.toInt_inj.mp z)
                have z_4 : ¬ (x_28 : Int32).toInt = (11 : Int32).toInt := fun z => c_38 (Int32.toInt_inj.mp z)
                have y_0 : (0 : Int32).toInt = 0 := by decide
                have y_1 : (1 : Int32).toInt = 1 := by decide
                have y_11 : (11 : Int32).toInt = 11 := by decide
                omega
              have ha_81 : RK (Mf 2) x1 x_74 x3 sv_70 := RK.next pf_4 hl_26 h_tt.1 hj_25 ex_24 hi_79 hd_80
              exact ih_2 x_74 sv_70 sv_71 _ _ _ (by omega) hL_78 ha_81 (hP.sub [2, 0, 3, 1] rfl) (hD.sub [2, 0, 3, 1] rfl rfl) hS (lv_sub hl [0, 5, 6, 7, 8] rfl)
            · skip
              refine lv_aload_n hx hb dX12_reckons_91 rfl (lv_at hl 3 rfl) ?_
              refine lv_lconst (v := 1) hx hb dX12_reckons_92 (by decide) ?_
              refine lv_aload_n hx hb dX12_reckons_93 rfl (lv_at hl 3 rfl) ?_
              have ha_82 : 1 ≤ yy_901.toInt ∧ yy_901.toInt ≤ 64 := by
                have z_1 := Int32.lt_iff_toInt_lt.mp (Int32.not_le.mp c_7)
                have z_2 : ¬ (x_28 : Int32).toInt = (0 : Int32).toInt := fun z => c_36 (Int32.toInt_inj.mp z)
                have z_3 : ¬ (x_28 : Int32).toInt = (1 : Int32).toInt := fun z => c_37 (Int32.toInt_inj.mp z)
                have z_4 := congrArg Int32.toInt c_38
                have y_0 : (0 : Int32).toInt = 0 := by decide
                have y_1 : (1 : Int32).toInt = 1 := by decide
                have y_11 : (11 : Int32).toInt = 11 := by decide
                omega
              refine cV (a := (Ma 0)) (As := []) (rest := [.long 1, .ref (Ma 0)]) (wr := [((Ma 2), .inl (tc 0, 2400, .inl (Mf 2))), ((Ma 9), .inl (tc 1, 13, .inr (.inl (Mg 9))))]) ⟨hx, hb, hml, hown, hts⟩ hK hX hA (cu_dX12_pop l D tc sk (Ma 0) (Ma 1) (Ma 2) (Ma 3) (Ma 4) (Ma 5) (Ma 6) (Ma 7) (Ma 8) (Ma 9) (Ma 10) (Ma 11) (Ma 12) (Ma 13) (Ma 14) (Ma 15) (Ma 16) (Ma 17) (Ma 18) (Ma 19) (Ma 20) (Mv 0) (Mv 1) (Mv 2) (Mv 3) (Mv 4) (Mv 5) (Mv 6) (Mv 7) (Mv 8) (Mv 9) yy_901 (Mv 11) (Mv 12) (Mv 13) (Mv 14) (Mj 0) yy_902 ha_82) k_1455 k_1452 k_1454 k_75 k_106 pl_X12_pop ⟨Nat.le_of_ble_eq_true rfl, Nat.le_of_ble_eq_true rfl⟩ rfl rfl (va_recv hK hP (ci := 12) (q0 := 0) rfl rfl) hP hD hS [0, 2] [1, 3] rfl rfl rfl rfl rfl (by decide) rfl hl.1 rfl (Nat.le_of_ble_eq_true rfl) dX12_reckons_94 ⟨Nat.le_of_ble_eq_true rfl, Nat.le_of_ble_eq_true rfl⟩ (fun v_83 u_84 H locs hv_85 hP₀ hD₀ hS₀ => ?_)
              obtain ⟨sv_86, rfl⟩ : ∃ z, z = u_84 := ⟨_, rfl⟩
              obtain ⟨r_88, rfl, he_89, pf_87⟩ := hv_85
              have he_89 : (True) ∧ (r_88, sv_86) = (dX12_pop yy_902 yy_901) := he_89
              have pf_87 : (sv_86 : Int32).toInt = yy_901.toInt - 1 := pf_87
              refine W.eq (g2 := F0 m 97 ls [.long r_88, .long 1, .ref (Ma 0)]) rfl ?_
              replace hP : va_P D classes [((Ma 2), .inl (tc 0, 2400, .inl (Mf 2))), ((Ma 9), .inl (tc 1, 13, .inr (.inl (Mg 9)))), ((Ma 0), .inr (12, [.ref (Ma 1), .int (Mv 0), .int (Mv 1), .ref (Ma 2), .ref (Ma 3), .ref (Ma 4), .ref (Ma 5), .ref (Ma 6), .int (Mv 2), .int (Mv 3), .int (Mv 4), .int (Mv 5), .int (Mv 6), .int (Mv 7), .int (Mv 8), .ref (Ma 7), .int (Mv 9), .ref (Ma 8), .int sv_86, .ref (Ma 9), .ref (Ma 10), .int (Mv 11), .int (Mv 12), .int (Mv 13), .ref (Ma 11), .int (Mv 14), .ref (Ma 12), .ref (Ma 13), .ref (Ma 14), .ref (Ma 15), .ref (Ma 16), .long (Mj 0), .ref (Ma 17), .ref (Ma 18), .ref (Ma 19), .ref (Ma 20)])), ((Ma 8), .inl (tc 1, 64, .inr (.inl yy_902)))] H := hP₀
              replace hD : va_D A [((Ma 2), .inl (tc 0, 2400, .inl (Mf 2))), ((Ma 9), .inl (tc 1, 13, .inr (.inl (Mg 9)))), ((Ma 0), .inr (12, [.ref (Ma 1), .int (Mv 0), .int (Mv 1), .ref (Ma 2), .ref (Ma 3), .ref (Ma 4), .ref (Ma 5), .ref (Ma 6), .int (Mv 2), .int (Mv 3), .int (Mv 4), .int (Mv 5), .int (Mv 6), .int (Mv 7), .int (Mv 8), .ref (Ma 7), .int (Mv 9), .ref (Ma 8), .int sv_86, .ref (Ma 9), .ref (Ma 10), .int (Mv 11), .int (Mv 12), .int (Mv 13), .ref (Ma 11), .int (Mv 14), .ref (Ma 12), .ref (Ma 13), .ref (Ma 14), .ref (Ma 15), .ref (Ma 16), .long (Mj 0), .ref (Ma 17), .ref (Ma 18), .ref (Ma 19), .ref (Ma 20)])), ((Ma 8), .inl (tc 1, 64, .inr (.inl yy_902)))] := hD₀
              replace hS := hS₀
              clear hP₀ hD₀ hS₀
              obtain ⟨he_89, hq_91⟩ := he_89
              have er_88 : r_88 = (dX12_pop yy_902 yy_901).1 := congrArg (fun z => z.1) hq_91
              have esv_86 : sv_86 = (dX12_pop yy_902 yy_901).2 := congrArg (fun z => z.2) hq_91
              refine lv_lsub hx hb dX12_reckons_97 ?_
              refine lv_topl (fun x_92 ex_92 => ?_)
              have ha_93 : 0 ≤ sv_86.toInt ∧ sv_86.toInt < 64 := by
                have z_1 := Int32.lt_iff_toInt_lt.mp (Int32.not_le.mp c_7)
                have z_2 : ¬ (x_28 : Int32).toInt = (0 : Int32).toInt := fun z => c_36 (Int32.toInt_inj.mp z)
                have z_3 : ¬ (x_28 : Int32).toInt = (1 : Int32).toInt := fun z => c_37 (Int32.toInt_inj.mp z)
                have z_4 := congrArg Int32.toInt c_38
                have y_0 : (0 : Int32).toInt = 0 := by decide
                have y_1 : (1 : Int32).toInt = 1 := by decide
                have y_11 : (11 : Int32).toInt = 11 := by decide
                omega
              refine cV (a := (Ma 0)) (As := [.long x_92]) (rest := []) (wr := [((Ma 2), .inl (tc 0, 2400, .inl (Mf 2))), ((Ma 9), .inl (tc 1, 13, .inr (.inl (Mg 9))))]) ⟨hx, hb, hml, hown, hts⟩ hK hX hA (cu_dX12_push l D tc sk (Ma 0) (Ma 1) (Ma 2) (Ma 3) (Ma 4) (Ma 5) (Ma 6) (Ma 7) (Ma 8) (Ma 9) (Ma 10) (Ma 11) (Ma 12) (Ma 13) (Ma 14) (Ma 15) (Ma 16) (Ma 17) (Ma 18) (Ma 19) (Ma 20) (Mv 0) (Mv 1) (Mv 2) (Mv 3) (Mv 4) (Mv 5) (Mv 6) (Mv 7) (Mv 8) (Mv 9) sv_86 (Mv 11) (Mv 12) (Mv 13) (Mv 14) (Mj 0) yy_902 x_92 ha_93) k_1451 k_1448 k_1450 k_74 k_106 pl_X12_push ⟨Nat.le_of_ble_eq_true rfl, Nat.le_of_ble_eq_true rfl⟩ rfl rfl (va_recv hK hP (ci := 12) (q0 := 2) rfl rfl) hP hD hS [2, 3] [0, 1] rfl rfl rfl rfl rfl (by decide) rfl hl.1 rfl (Nat.le_of_ble_eq_true rfl) dX12_reckons_98 ⟨Nat.le_of_ble_eq_true rfl, Nat.le_of_ble_eq_true rfl⟩ (fun v_94 u_95 H locs hv_96 hP₀ hD₀ hS₀ => ?_)
              obtain ⟨sv_97, sv_98⟩ := u_95
              obtain ⟨rfl, pf_99, pf_100⟩ := hv_96
              have pf_99 : (sv_97 : Int32).toInt = sv_86.toInt + 1 := pf_99
              have pf_100 : DEq ((sv_97, sv_98)) (dX12_push yy_902 sv_86 x_92) := pf_100
              refine W.eq (g2 := F0 m 101 ls []) rfl ?_
              replace hP : va_P D classes [((Ma 2), .inl (tc 0, 2400, .inl (Mf 2))), ((Ma 9), .inl (tc 1, 13, .inr (.inl (Mg 9)))), ((Ma 0), .inr (12, [.ref (Ma 1), .int (Mv 0), .int (Mv 1), .ref (Ma 2), .ref (Ma 3), .ref (Ma 4), .ref (Ma 5), .ref (Ma 6), .int (Mv 2), .int (Mv 3), .int (Mv 4), .int (Mv 5), .int (Mv 6), .int (Mv 7), .int (Mv 8), .ref (Ma 7), .int (Mv 9), .ref (Ma 8), .int sv_97, .ref (Ma 9), .ref (Ma 10), .int (Mv 11), .int (Mv 12), .int (Mv 13), .ref (Ma 11), .int (Mv 14), .ref (Ma 12), .ref (Ma 13), .ref (Ma 14), .ref (Ma 15), .ref (Ma 16), .long (Mj 0), .ref (Ma 17), .ref (Ma 18), .ref (Ma 19), .ref (Ma 20)])), ((Ma 8), .inl (tc 1, 64, .inr (.inl sv_98)))] H := hP₀
              replace hD : va_D A [((Ma 2), .inl (tc 0, 2400, .inl (Mf 2))), ((Ma 9), .inl (tc 1, 13, .inr (.inl (Mg 9)))), ((Ma 0), .inr (12, [.ref (Ma 1), .int (Mv 0), .int (Mv 1), .ref (Ma 2), .ref (Ma 3), .ref (Ma 4), .ref (Ma 5), .ref (Ma 6), .int (Mv 2), .int (Mv 3), .int (Mv 4), .int (Mv 5), .int (Mv 6), .int (Mv 7), .int (Mv 8), .ref (Ma 7), .int (Mv 9), .ref (Ma 8), .int sv_97, .ref (Ma 9), .ref (Ma 10), .int (Mv 11), .int (Mv 12), .int (Mv 13), .ref (Ma 11), .int (Mv 14), .ref (Ma 12), .ref (Ma 13), .ref (Ma 14), .ref (Ma 15), .ref (Ma 16), .long (Mj 0), .ref (Ma 17), .ref (Ma 18), .ref (Ma 19), .ref (Ma 20)])), ((Ma 8), .inl (tc 1, 64, .inr (.inl sv_98)))] := hD₀
              replace hS := hS₀
              clear hP₀ hD₀ hS₀
              have esv_97 : sv_97 = (dX12_push yy_902 sv_86 x_92).1 := congrArg (fun z => z.1) pf_100
              have esv_98 : sv_98 = (dX12_push yy_902 sv_86 x_92).2 := congrArg (fun z => z.2) pf_100
              refine lv_goto (tgt := 129) hx hb dX12_reckons_101 (by decide) ?_
              obtain ⟨x_101, ex_101⟩ : ∃ y : Int32, y = yy_900 + 1 := ⟨_, rfl⟩
              refine lv_iinc (v := x_101) (lv' := [(4, .int x_101), (6, .int x_35), (5, .int x_28), (0, .ref (Ma 0)), (1, .int x1), (2, .int x2), (3, .int x3)]) hx hb dX12_reckons_129 hl (k := 2) rfl (by rw [ex_101]; rfl) (by decide) rfl (fun ls hl₀ => ?_)
              replace hl := hl₀
              clear hl₀
              refine lv_goto (tgt := 8) hx hb dX12_reckons_132 (by decide) ?_
              have hb_102 : x3.toInt - (x_101 : Int32).toInt < x3.toInt - (yy_900 : Int32).toInt ∧ 1 ≤ x3.toInt - (yy_900 : Int32).toInt := by
                have z_1 := Int32.lt_iff_toInt_lt.mp (Int32.not_le.mp c_7)
                have z_2 : ¬ (x_28 : Int32).toInt = (0 : Int32).toInt := fun z => c_36 (Int32.toInt_inj.mp z)
                have z_3 : ¬ (x_28 : Int32).toInt = (1 : Int32).toInt := fun z => c_37 (Int32.toInt_inj.mp z)
                have z_4 := congrArg Int32.toInt c_38
                have y_0 : (0 : Int32).toInt = 0 := by decide
                have y_1 : (1 : Int32).toInt = 1 := by decide
                have y_11 : (11 : Int32).toInt = 11 := by decide
                have t_x_101 : x_101.toInt = (yy_900 : Int32).toInt + (1 : Int32).toInt := by rw [ex_101]; exact add_toInt (by omega) (by omega)
                omega
              have hm_103 : (x3.toInt - (yy_900 : Int32).toInt).toNat = (x3.toInt - (x_101 : Int32).toInt).toNat + 1 := by
                have z_1 := Int32.lt_iff_toInt_lt.mp (Int32.not_le.mp c_7)
                have z_2 : ¬ (x_28 : Int32).toInt = (0 : Int32).toInt := fun z => c_36 (Int32.toInt_inj.mp z)
                have z_3 : ¬ (x_28 : Int32).toInt = (1 : Int32).toInt := fun z => c_37 (Int32.toInt_inj.mp z)
                have z_4 := congrArg Int32.toInt c_38
                have y_0 : (0 : Int32).toInt = 0 := by decide
                have y_1 : (1 : Int32).toInt = 1 := by decide
                have y_11 : (11 : Int32).toInt = 11 := by decide
                have t_x_101 : x_101.toInt = (yy_900 : Int32).toInt + (1 : Int32).toInt := by rw [ex_101]; exact add_toInt (by omega) (by omega)
                omega
              have hb_104 : dX12_reckons_l8 (Mf 2) (Mg 9) x3 x1 ((x3.toInt - (yy_900 : Int32).toInt).toNat + 1) yy_900 yy_901 yy_902 = dX12_reckons_l8 (Mf 2) (Mg 9) x3 x1 ((x3.toInt - (yy_900 : Int32).toInt).toNat) x_101 sv_97 sv_98 := by
                clear hP hD hS hl ih_2
                replace ex_21 := ex_21.symm; subst ex_21
                replace ex_22 := ex_22.symm; subst ex_22
                replace ex_24 := ex_24.symm; subst ex_24
                replace ex_28 := ex_28.symm; subst ex_28
                replace ex_29 := ex_29.symm; subst ex_29
                replace ex_30 := ex_30.symm; subst ex_30
                replace ex_32 := ex_32.symm; subst ex_32
                replace ex_35 := ex_35.symm; subst ex_35
                replace er_88 := er_88.symm; subst er_88
                replace esv_86 := esv_86.symm; subst esv_86
                replace ex_92 := ex_92.symm; subst ex_92
                replace esv_97 := esv_97.symm; subst esv_97
                replace esv_98 := esv_98.symm; subst esv_98
                replace ex_101 := ex_101.symm; subst ex_101
                rw [dX12_reckons_l8_s]
                rw [if_neg c_7, if_neg c_36, if_neg c_37, if_pos c_38]
                try rfl
              have hL_105 : (dX12_reckons_l8 (Mf 2) (Mg 9) x3 x1 ((x3.toInt - (x2 : Int32).toInt).toNat + 1) x2 (0 : Int32) (Mg 8)) = dX12_reckons_l8 (Mf 2) (Mg 9) x3 x1 ((x3.toInt - (x_101 : Int32).toInt).toNat + 1) x_101 sv_97 sv_98 := by
                rw [hL_5, hb_104, hm_103]
              have hi_106 : (x_101 : Int32).toInt = (yy_900 : Int32).toInt + 1 := by
                have z_1 := Int32.lt_iff_toInt_lt.mp (Int32.not_le.mp c_7)
                have z_2 : ¬ (x_28 : Int32).toInt = (0 : Int32).toInt := fun z => c_36 (Int32.toInt_inj.mp z)
                have z_3 : ¬ (x_28 : Int32).toInt = (1 : Int32).toInt := fun z => c_37 (Int32.toInt_inj.mp z)
                have z_4 := congrArg Int32.toInt c_38
                have y_0 : (0 : Int32).toInt = 0 := by decide
                have y_1 : (1 : Int32).toInt = 1 := by decide
                have y_11 : (11 : Int32).toInt = 11 := by decide
                have t_x_101 : x_101.toInt = (yy_900 : Int32).toInt + (1 : Int32).toInt := by rw [ex_101]; exact add_toInt (by omega) (by omega)
                omega
              have hd_107 : ((((x_24 &&& 15).toInt = 0 ∨ (x_24 &&& 15).toInt = 1) ∧ (sv_97 : Int32).toInt = (yy_901 : Int32).toInt + 1) ∨ ((x_24 &&& 15).toInt = 11 ∧ (sv_97 : Int32).toInt = (yy_901 : Int32).toInt) ∨ ((x_24 &&& 15).toInt ≠ 0 ∧ (x_24 &&& 15).toInt ≠ 1 ∧ (x_24 &&& 15).toInt ≠ 11 ∧ (sv_97 : Int32).toInt = (yy_901 : Int32).toInt - 1)) := by
                have z_1 := Int32.lt_iff_toInt_lt.mp (Int32.not_le.mp c_7)
                have z_2 : ¬ (x_28 : Int32).toInt = (0 : Int32).toInt := fun z => c_36 (Int32.toInt_inj.mp z)
                have z_3 : ¬ (x_28 : Int32).toInt = (1 : Int32).toInt := fun z => c_37 (Int32.toInt_inj.mp z)
                have z_4 := congrArg Int32.toInt c_38
                have y_0 : (0 : Int32).toInt = 0 := by decide
                have y_1 : (1 : Int32).toInt = 1 := by decide
                have y_11 : (11 : Int32).toInt = 11 := by decide
                omega
              have ha_108 : RK (Mf 2) x1 x_101 x3 sv_97 := RK.next pf_4 hl_26 h_tt.1 hj_25 ex_24 hi_106 hd_107
              exact ih_2 x_101 sv_97 sv_98 _ _ _ (by omega) hL_105 ha_108 (hP.sub [2, 0, 3, 1] rfl) (hD.sub [2, 0, 3, 1] rfl rfl) hS (lv_sub hl [0, 3, 4, 5, 6] rfl)
          · skip
            refine lv_aload_n hx hb dX12_reckons_70 rfl (lv_at hl 3 rfl) ?_
            refine lv_aload_n hx hb dX12_reckons_71 rfl (lv_at hl 3 rfl) ?_
            refine gf_X12_36 hx hb hts hown hK hP 0 rfl rfl dX12_reckons_72 ?_
            refine lv_iload hx hb dX12_reckons_75 (lv_at hl 0 rfl) ?_
            have hi_109 : vp_in x_35 13 := by
              have z_1 := Int32.lt_iff_toInt_lt.mp (Int32.not_le.mp c_7)
              have z_2 : ¬ (x_28 : Int32).toInt = (0 : Int32).toInt := fun z => c_36 (Int32.toInt_inj.mp z)
              have z_3 := congrArg Int32.toInt c_37
              have y_0 : (0 : Int32).toInt = 0 := by decide
              have y_1 : (1 : Int32).toInt = 1 := by decide
              refine vp_in_iff.mpr ⟨?_, ?_⟩ <;> omega
            refine va_lald hx hb hK hP 3 1 rfl rfl hi_109 dX12_reckons_77 ?_
            refine lv_topl (fun x_110 ex_110 => ?_)
            have ha_111 : 0 ≤ yy_901.toInt ∧ yy_901.toInt < 64 := by
              have z_1 := Int32.lt_iff_toInt_lt.mp (Int32.not_le.mp c_7)
              have z_2 : ¬ (x_28 : Int32).toInt = (0 : Int32).toInt := fun z => c_36 (Int32.toInt_inj.mp z)
              have z_3 := congrArg Int32.toInt c_37
              have y_0 : (0 : Int32).toInt = 0 := by decide
              have y_1 : (1 : Int32).toInt = 1 := by decide
              omega
            refine cV (a := (Ma 0)) (As := [.long x_110]) (rest := []) (wr := [((Ma 2), .inl (tc 0, 2400, .inl (Mf 2))), ((Ma 9), .inl (tc 1, 13, .inr (.inl (Mg 9))))]) ⟨hx, hb, hml, hown, hts⟩ hK hX hA (cu_dX12_push l D tc sk (Ma 0) (Ma 1) (Ma 2) (Ma 3) (Ma 4) (Ma 5) (Ma 6) (Ma 7) (Ma 8) (Ma 9) (Ma 10) (Ma 11) (Ma 12) (Ma 13) (Ma 14) (Ma 15) (Ma 16) (Ma 17) (Ma 18) (Ma 19) (Ma 20) (Mv 0) (Mv 1) (Mv 2) (Mv 3) (Mv 4) (Mv 5) (Mv 6) (Mv 7) (Mv 8) (Mv 9) yy_901 (Mv 11) (Mv 12) (Mv 13) (Mv 14) (Mj 0) yy_902 x_110 ha_111) k_1451 k_1448 k_1450 k_74 k_106 pl_X12_push ⟨Nat.le_of_ble_eq_true rfl, Nat.le_of_ble_eq_true rfl⟩ rfl rfl (va_recv hK hP (ci := 12) (q0 := 0) rfl rfl) hP hD hS [0, 2] [1, 3] rfl rfl rfl rfl rfl (by decide) rfl hl.1 rfl (Nat.le_of_ble_eq_true rfl) dX12_reckons_78 ⟨Nat.le_of_ble_eq_true rfl, Nat.le_of_ble_eq_true rfl⟩ (fun v_112 u_113 H locs hv_114 hP₀ hD₀ hS₀ => ?_)
            obtain ⟨sv_115, sv_116⟩ := u_113
            obtain ⟨rfl, pf_117, pf_118⟩ := hv_114
            have pf_117 : (sv_115 : Int32).toInt = yy_901.toInt + 1 := pf_117
            have pf_118 : DEq ((sv_115, sv_116)) (dX12_push yy_902 yy_901 x_110) := pf_118
            refine W.eq (g2 := F0 m 81 ls []) rfl ?_
            replace hP : va_P D classes [((Ma 2), .inl (tc 0, 2400, .inl (Mf 2))), ((Ma 9), .inl (tc 1, 13, .inr (.inl (Mg 9)))), ((Ma 0), .inr (12, [.ref (Ma 1), .int (Mv 0), .int (Mv 1), .ref (Ma 2), .ref (Ma 3), .ref (Ma 4), .ref (Ma 5), .ref (Ma 6), .int (Mv 2), .int (Mv 3), .int (Mv 4), .int (Mv 5), .int (Mv 6), .int (Mv 7), .int (Mv 8), .ref (Ma 7), .int (Mv 9), .ref (Ma 8), .int sv_115, .ref (Ma 9), .ref (Ma 10), .int (Mv 11), .int (Mv 12), .int (Mv 13), .ref (Ma 11), .int (Mv 14), .ref (Ma 12), .ref (Ma 13), .ref (Ma 14), .ref (Ma 15), .ref (Ma 16), .long (Mj 0), .ref (Ma 17), .ref (Ma 18), .ref (Ma 19), .ref (Ma 20)])), ((Ma 8), .inl (tc 1, 64, .inr (.inl sv_116)))] H := hP₀
            replace hD : va_D A [((Ma 2), .inl (tc 0, 2400, .inl (Mf 2))), ((Ma 9), .inl (tc 1, 13, .inr (.inl (Mg 9)))), ((Ma 0), .inr (12, [.ref (Ma 1), .int (Mv 0), .int (Mv 1), .ref (Ma 2), .ref (Ma 3), .ref (Ma 4), .ref (Ma 5), .ref (Ma 6), .int (Mv 2), .int (Mv 3), .int (Mv 4), .int (Mv 5), .int (Mv 6), .int (Mv 7), .int (Mv 8), .ref (Ma 7), .int (Mv 9), .ref (Ma 8), .int sv_115, .ref (Ma 9), .ref (Ma 10), .int (Mv 11), .int (Mv 12), .int (Mv 13), .ref (Ma 11), .int (Mv 14), .ref (Ma 12), .ref (Ma 13), .ref (Ma 14), .ref (Ma 15), .ref (Ma 16), .long (Mj 0), .ref (Ma 17), .ref (Ma 18), .ref (Ma 19), .ref (Ma 20)])), ((Ma 8), .inl (tc 1, 64, .inr (.inl sv_116)))] := hD₀
            replace hS := hS₀
            clear hP₀ hD₀ hS₀
            have esv_115 : sv_115 = (dX12_push yy_902 yy_901 x_110).1 := congrArg (fun z => z.1) pf_118
            have esv_116 : sv_116 = (dX12_push yy_902 yy_901 x_110).2 := congrArg (fun z => z.2) pf_118
            refine lv_goto (tgt := 129) hx hb dX12_reckons_81 (by decide) ?_
            obtain ⟨x_119, ex_119⟩ : ∃ y : Int32, y = yy_900 + 1 := ⟨_, rfl⟩
            refine lv_iinc (v := x_119) (lv' := [(4, .int x_119), (6, .int x_35), (5, .int x_28), (0, .ref (Ma 0)), (1, .int x1), (2, .int x2), (3, .int x3)]) hx hb dX12_reckons_129 hl (k := 2) rfl (by rw [ex_119]; rfl) (by decide) rfl (fun ls hl₀ => ?_)
            replace hl := hl₀
            clear hl₀
            refine lv_goto (tgt := 8) hx hb dX12_reckons_132 (by decide) ?_
            have hb_120 : x3.toInt - (x_119 : Int32).toInt < x3.toInt - (yy_900 : Int32).toInt ∧ 1 ≤ x3.toInt - (yy_900 : Int32).toInt := by
              have z_1 := Int32.lt_iff_toInt_lt.mp (Int32.not_le.mp c_7)
              have z_2 : ¬ (x_28 : Int32).toInt = (0 : Int32).toInt := fun z => c_36 (Int32.toInt_inj.mp z)
              have z_3 := congrArg Int32.toInt c_37
              have y_0 : (0 : Int32).toInt = 0 := by decide
              have y_1 : (1 : Int32).toInt = 1 := by decide
              have t_x_119 : x_119.toInt = (yy_900 : Int32).toInt + (1 : Int32).toInt := by rw [ex_119]; exact add_toInt (by omega) (by omega)
              omega
            have hm_121 : (x3.toInt - (yy_900 : Int32).toInt).toNat = (x3.toInt - (x_119 : Int32).toInt).toNat + 1 := by
              have z_1 := Int32.lt_iff_toInt_lt.mp (Int32.not_le.mp c_7)
              have z_2 : ¬ (x_28 : Int32).toInt = (0 : Int32).toInt := fun z => c_36 (Int32.toInt_inj.mp z)
              have z_3 := congrArg Int32.toInt c_37
              have y_0 : (0 : Int32).toInt = 0 := by decide
              have y_1 : (1 : Int32).toInt = 1 := by decide
              have t_x_119 : x_119.toInt = (yy_900 : Int32).toInt + (1 : Int32).toInt := by rw [ex_119]; exact add_toInt (by omega) (by omega)
              omega
            have hb_122 : dX12_reckons_l8 (Mf 2) (Mg 9) x3 x1 ((x3.toInt - (yy_900 : Int32).toInt).toNat + 1) yy_900 yy_901 yy_902 = dX12_reckons_l8 (Mf 2) (Mg 9) x3 x1 ((x3.toInt - (yy_900 : Int32).toInt).toNat) x_119 sv_115 sv_116 := by
              clear hP hD hS hl ih_2
              replace ex_21 := ex_21.symm; subst ex_21
              replace ex_22 := ex_22.symm; subst ex_22
              replace ex_24 := ex_24.symm; subst ex_24
              replace ex_28 := ex_28.symm; subst ex_28
              replace ex_29 := ex_29.symm; subst ex_29
              replace ex_30 := ex_30.symm; subst ex_30
              replace ex_32 := ex_32.symm; subst ex_32
              replace ex_35 := ex_35.symm; subst ex_35
              replace ex_110 := ex_110.symm; subst ex_110
              replace esv_115 := esv_115.symm; subst esv_115
              replace esv_116 := esv_116.symm; subst esv_116
              replace ex_119 := ex_119.symm; subst ex_119
              rw [dX12_reckons_l8_s]
              rw [if_neg c_7, if_neg c_36, if_pos c_37]
              try rfl
            have hL_123 : (dX12_reckons_l8 (Mf 2) (Mg 9) x3 x1 ((x3.toInt - (x2 : Int32).toInt).toNat + 1) x2 (0 : Int32) (Mg 8)) = dX12_reckons_l8 (Mf 2) (Mg 9) x3 x1 ((x3.toInt - (x_119 : Int32).toInt).toNat + 1) x_119 sv_115 sv_116 := by
              rw [hL_5, hb_122, hm_121]
            have hi_124 : (x_119 : Int32).toInt = (yy_900 : Int32).toInt + 1 := by
              have z_1 := Int32.lt_iff_toInt_lt.mp (Int32.not_le.mp c_7)
              have z_2 : ¬ (x_28 : Int32).toInt = (0 : Int32).toInt := fun z => c_36 (Int32.toInt_inj.mp z)
              have z_3 := congrArg Int32.toInt c_37
              have y_0 : (0 : Int32).toInt = 0 := by decide
              have y_1 : (1 : Int32).toInt = 1 := by decide
              have t_x_119 : x_119.toInt = (yy_900 : Int32).toInt + (1 : Int32).toInt := by rw [ex_119]; exact add_toInt (by omega) (by omega)
              omega
            have hd_125 : ((((x_24 &&& 15).toInt = 0 ∨ (x_24 &&& 15).toInt = 1) ∧ (sv_115 : Int32).toInt = (yy_901 : Int32).toInt + 1) ∨ ((x_24 &&& 15).toInt = 11 ∧ (sv_115 : Int32).toInt = (yy_901 : Int32).toInt) ∨ ((x_24 &&& 15).toInt ≠ 0 ∧ (x_24 &&& 15).toInt ≠ 1 ∧ (x_24 &&& 15).toInt ≠ 11 ∧ (sv_115 : Int32).toInt = (yy_901 : Int32).toInt - 1)) := by
              have z_1 := Int32.lt_iff_toInt_lt.mp (Int32.not_le.mp c_7)
              have z_2 : ¬ (x_28 : Int32).toInt = (0 : Int32).toInt := fun z => c_36 (Int32.toInt_inj.mp z)
              have z_3 := congrArg Int32.toInt c_37
              have y_0 : (0 : Int32).toInt = 0 := by decide
              have y_1 : (1 : Int32).toInt = 1 := by decide
              omega
            have ha_126 : RK (Mf 2) x1 x_119 x3 sv_115 := RK.next pf_4 hl_26 h_tt.1 hj_25 ex_24 hi_124 hd_125
            exact ih_2 x_119 sv_115 sv_116 _ _ _ (by omega) hL_123 ha_126 (hP.sub [2, 0, 3, 1] rfl) (hD.sub [2, 0, 3, 1] rfl rfl) hS (lv_sub hl [0, 3, 4, 5, 6] rfl)
        · skip
          refine lv_aload_n hx hb dX12_reckons_54 rfl (lv_at hl 3 rfl) ?_
          refine lv_iload hx hb dX12_reckons_55 (lv_at hl 0 rfl) ?_
          refine lv_i2l (v := (x_35).toInt64) hx hb dX12_reckons_57 rfl ?_
          have ha_127 : 0 ≤ yy_901.toInt ∧ yy_901.toInt < 64 := by
            have z_1 := Int32.lt_iff_toInt_lt.mp (Int32.not_le.mp c_7)
            have z_2 := congrArg Int32.toInt c_36
            have y_0 : (0 : Int32).toInt = 0 := by decide
            omega
          refine cV (a := (Ma 0)) (As := [.long (x_35).toInt64]) (rest := []) (wr := [((Ma 2), .inl (tc 0, 2400, .inl (Mf 2))), ((Ma 9), .inl (tc 1, 13, .inr (.inl (Mg 9))))]) ⟨hx, hb, hml, hown, hts⟩ hK hX hA (cu_dX12_push l D tc sk (Ma 0) (Ma 1) (Ma 2) (Ma 3) (Ma 4) (Ma 5) (Ma 6) (Ma 7) (Ma 8) (Ma 9) (Ma 10) (Ma 11) (Ma 12) (Ma 13) (Ma 14) (Ma 15) (Ma 16) (Ma 17) (Ma 18) (Ma 19) (Ma 20) (Mv 0) (Mv 1) (Mv 2) (Mv 3) (Mv 4) (Mv 5) (Mv 6) (Mv 7) (Mv 8) (Mv 9) yy_901 (Mv 11) (Mv 12) (Mv 13) (Mv 14) (Mj 0) yy_902 ((x_35).toInt64) ha_127) k_1451 k_1448 k_1450 k_74 k_106 pl_X12_push ⟨Nat.le_of_ble_eq_true rfl, Nat.le_of_ble_eq_true rfl⟩ rfl rfl (va_recv hK hP (ci := 12) (q0 := 0) rfl rfl) hP hD hS [0, 2] [1, 3] rfl rfl rfl rfl rfl (by decide) rfl hl.1 rfl (Nat.le_of_ble_eq_true rfl) dX12_reckons_58 ⟨Nat.le_of_ble_eq_true rfl, Nat.le_of_ble_eq_true rfl⟩ (fun v_128 u_129 H locs hv_130 hP₀ hD₀ hS₀ => ?_)
          obtain ⟨sv_131, sv_132⟩ := u_129
          obtain ⟨rfl, pf_133, pf_134⟩ := hv_130
          have pf_133 : (sv_131 : Int32).toInt = yy_901.toInt + 1 := pf_133
          have pf_134 : DEq ((sv_131, sv_132)) (dX12_push yy_902 yy_901 (x_35).toInt64) := pf_134
          refine W.eq (g2 := F0 m 61 ls []) rfl ?_
          replace hP : va_P D classes [((Ma 2), .inl (tc 0, 2400, .inl (Mf 2))), ((Ma 9), .inl (tc 1, 13, .inr (.inl (Mg 9)))), ((Ma 0), .inr (12, [.ref (Ma 1), .int (Mv 0), .int (Mv 1), .ref (Ma 2), .ref (Ma 3), .ref (Ma 4), .ref (Ma 5), .ref (Ma 6), .int (Mv 2), .int (Mv 3), .int (Mv 4), .int (Mv 5), .int (Mv 6), .int (Mv 7), .int (Mv 8), .ref (Ma 7), .int (Mv 9), .ref (Ma 8), .int sv_131, .ref (Ma 9), .ref (Ma 10), .int (Mv 11), .int (Mv 12), .int (Mv 13), .ref (Ma 11), .int (Mv 14), .ref (Ma 12), .ref (Ma 13), .ref (Ma 14), .ref (Ma 15), .ref (Ma 16), .long (Mj 0), .ref (Ma 17), .ref (Ma 18), .ref (Ma 19), .ref (Ma 20)])), ((Ma 8), .inl (tc 1, 64, .inr (.inl sv_132)))] H := hP₀
          replace hD : va_D A [((Ma 2), .inl (tc 0, 2400, .inl (Mf 2))), ((Ma 9), .inl (tc 1, 13, .inr (.inl (Mg 9)))), ((Ma 0), .inr (12, [.ref (Ma 1), .int (Mv 0), .int (Mv 1), .ref (Ma 2), .ref (Ma 3), .ref (Ma 4), .ref (Ma 5), .ref (Ma 6), .int (Mv 2), .int (Mv 3), .int (Mv 4), .int (Mv 5), .int (Mv 6), .int (Mv 7), .int (Mv 8), .ref (Ma 7), .int (Mv 9), .ref (Ma 8), .int sv_131, .ref (Ma 9), .ref (Ma 10), .int (Mv 11), .int (Mv 12), .int (Mv 13), .ref (Ma 11), .int (Mv 14), .ref (Ma 12), .ref (Ma 13), .ref (Ma 14), .ref (Ma 15), .ref (Ma 16), .long (Mj 0), .ref (Ma 17), .ref (Ma 18), .ref (Ma 19), .ref (Ma 20)])), ((Ma 8), .inl (tc 1, 64, .inr (.inl sv_132)))] := hD₀
          replace hS := hS₀
          clear hP₀ hD₀ hS₀
          have esv_131 : sv_131 = (dX12_push yy_902 yy_901 ((x_35).toInt64)).1 := congrArg (fun z => z.1) pf_134
          have esv_132 : sv_132 = (dX12_push yy_902 yy_901 ((x_35).toInt64)).2 := congrArg (fun z => z.2) pf_134
          refine lv_goto (tgt := 129) hx hb dX12_reckons_61 (by decide) ?_
          obtain ⟨x_135, ex_135⟩ : ∃ y : Int32, y = yy_900 + 1 := ⟨_, rfl⟩
          refine lv_iinc (v := x_135) (lv' := [(4, .int x_135), (6, .int x_35), (5, .int x_28), (0, .ref (Ma 0)), (1, .int x1), (2, .int x2), (3, .int x3)]) hx hb dX12_reckons_129 hl (k := 2) rfl (by rw [ex_135]; rfl) (by decide) rfl (fun ls hl₀ => ?_)
          replace hl := hl₀
          clear hl₀
          refine lv_goto (tgt := 8) hx hb dX12_reckons_132 (by decide) ?_
          have hb_136 : x3.toInt - (x_135 : Int32).toInt < x3.toInt - (yy_900 : Int32).toInt ∧ 1 ≤ x3.toInt - (yy_900 : Int32).toInt := by
            have z_1 := Int32.lt_iff_toInt_lt.mp (Int32.not_le.mp c_7)
            have z_2 := congrArg Int32.toInt c_36
            have y_0 : (0 : Int32).toInt = 0 := by decide
            have y_1 : (1 : Int32).toInt = 1 := by decide
            have t_x_135 : x_135.toInt = (yy_900 : Int32).toInt + (1 : Int32).toInt := by rw [ex_135]; exact add_toInt (by omega) (by omega)
            omega
          have hm_137 : (x3.toInt - (yy_900 : Int32).toInt).toNat = (x3.toInt - (x_135 : Int32).toInt).toNat + 1 := by
            have z_1 := Int32.lt_iff_toInt_lt.mp (Int32.not_le.mp c_7)
            have z_2 := congrArg Int32.toInt c_36
            have y_0 : (0 : Int32).toInt = 0 := by decide
            have y_1 : (1 : Int32).toInt = 1 := by decide
            have t_x_135 : x_135.toInt = (yy_900 : Int32).toInt + (1 : Int32).toInt := by rw [ex_135]; exact add_toInt (by omega) (by omega)
            omega
          have hb_138 : dX12_reckons_l8 (Mf 2) (Mg 9) x3 x1 ((x3.toInt - (yy_900 : Int32).toInt).toNat + 1) yy_900 yy_901 yy_902 = dX12_reckons_l8 (Mf 2) (Mg 9) x3 x1 ((x3.toInt - (yy_900 : Int32).toInt).toNat) x_135 sv_131 sv_132 := by
            clear hP hD hS hl ih_2
            replace ex_21 := ex_21.symm; subst ex_21
            replace ex_22 := ex_22.symm; subst ex_22
            replace ex_24 := ex_24.symm; subst ex_24
            replace ex_28 := ex_28.symm; subst ex_28
            replace ex_29 := ex_29.symm; subst ex_29
            replace ex_30 := ex_30.symm; subst ex_30
            replace ex_32 := ex_32.symm; subst ex_32
            replace ex_35 := ex_35.symm; subst ex_35
            replace esv_131 := esv_131.symm; subst esv_131
            replace esv_132 := esv_132.symm; subst esv_132
            replace ex_135 := ex_135.symm; subst ex_135
            rw [dX12_reckons_l8_s]
            rw [if_neg c_7, if_pos c_36]
            try rfl
          have hL_139 : (dX12_reckons_l8 (Mf 2) (Mg 9) x3 x1 ((x3.toInt - (x2 : Int32).toInt).toNat + 1) x2 (0 : Int32) (Mg 8)) = dX12_reckons_l8 (Mf 2) (Mg 9) x3 x1 ((x3.toInt - (x_135 : Int32).toInt).toNat + 1) x_135 sv_131 sv_132 := by
            rw [hL_5, hb_138, hm_137]
          have hi_140 : (x_135 : Int32).toInt = (yy_900 : Int32).toInt + 1 := by
            have z_1 := Int32.lt_iff_toInt_lt.mp (Int32.not_le.mp c_7)
            have z_2 := congrArg Int32.toInt c_36
            have y_0 : (0 : Int32).toInt = 0 := by decide
            have y_1 : (1 : Int32).toInt = 1 := by decide
            have t_x_135 : x_135.toInt = (yy_900 : Int32).toInt + (1 : Int32).toInt := by rw [ex_135]; exact add_toInt (by omega) (by omega)
            omega
          have hd_141 : ((((x_24 &&& 15).toInt = 0 ∨ (x_24 &&& 15).toInt = 1) ∧ (sv_131 : Int32).toInt = (yy_901 : Int32).toInt + 1) ∨ ((x_24 &&& 15).toInt = 11 ∧ (sv_131 : Int32).toInt = (yy_901 : Int32).toInt) ∨ ((x_24 &&& 15).toInt ≠ 0 ∧ (x_24 &&& 15).toInt ≠ 1 ∧ (x_24 &&& 15).toInt ≠ 11 ∧ (sv_131 : Int32).toInt = (yy_901 : Int32).toInt - 1)) := by
            have z_1 := Int32.lt_iff_toInt_lt.mp (Int32.not_le.mp c_7)
            have z_2 := congrArg Int32.toInt c_36
            have y_0 : (0 : Int32).toInt = 0 := by decide
            omega
          have ha_142 : RK (Mf 2) x1 x_135 x3 sv_131 := RK.next pf_4 hl_26 h_tt.1 hj_25 ex_24 hi_140 hd_141
          exact ih_2 x_135 sv_131 sv_132 _ _ _ (by omega) hL_139 ha_142 (hP.sub [2, 0, 3, 1] rfl) (hD.sub [2, 0, 3, 1] rfl rfl) hS (lv_sub hl [0, 3, 4, 5, 6] rfl)
  have hz_144 : (0 : Int32).toInt = 0 := by decide
  have ha_143 : RK (Mf 2) x1 x2 x3 0 := RK.start h_w hz_144
  exact loop_3 _ x2 0 (Mg 8) _ _ _ (Nat.lt_succ_self _) rfl ha_143 hP hD hS hl
set_option maxRecDepth 100000 in
theorem cu_dX12_reckons (l : Launch) (D : va_G) (tc : Nat → ClassId) (sk : (Nat → Nat) × (Nat → Nat)) (Ma_0 : Nat) (Ma_1 : Nat) (Ma_2 : Nat) (Ma_3 : Nat) (Ma_4 : Nat) (Ma_5 : Nat) (Ma_6 : Nat) (Ma_7 : Nat) (Ma_8 : Nat) (Ma_9 : Nat) (Ma_10 : Nat) (Ma_11 : Nat) (Ma_12 : Nat) (Ma_13 : Nat) (Ma_14 : Nat) (Ma_15 : Nat) (Ma_16 : Nat) (Ma_17 : Nat) (Ma_18 : Nat) (Ma_19 : Nat) (Ma_20 : Nat) (Mv_0 : Int32) (Mv_1 : Int32) (Mv_2 : Int32) (Mv_3 : Int32) (Mv_4 : Int32) (Mv_5 : Int32) (Mv_6 : Int32) (Mv_7 : Int32) (Mv_8 : Int32) (Mv_9 : Int32) (Mv_10 : Int32) (Mv_11 : Int32) (Mv_12 : Int32) (Mv_13 : Int32) (Mv_14 : Int32) (Mf_2 : Nat → Int32) (Mj_0 : Int64) (Mg_8 : Nat → Int64) (Mg_9 : Nat → Int64) (x1 : Int32) (x2 : Int32) (x3 : Int32) (h_w : WFc Mf_2 x1 x2 x3) (h_tt : 0 ≤ x1.toInt ∧ x1.toInt < 6) : Ct l yX12_reckons cX12_reckons 11 (some .long) { frames := 1, cells := 0, slots := 0, locals := 24 } D tc sk [.ref Ma_0, .int x1, .int x2, .int x3] [(Ma_0, .inr (12, [.ref Ma_1, .int Mv_0, .int Mv_1, .ref Ma_2, .ref Ma_3, .ref Ma_4, .ref Ma_5, .ref Ma_6, .int Mv_2, .int Mv_3, .int Mv_4, .int Mv_5, .int Mv_6, .int Mv_7, .int Mv_8, .ref Ma_7, .int Mv_9, .ref Ma_8, .int Mv_10, .ref Ma_9, .ref Ma_10, .int Mv_11, .int Mv_12, .int Mv_13, .ref Ma_11, .int Mv_14, .ref Ma_12, .ref Ma_13, .ref Ma_14, .ref Ma_15, .ref Ma_16, .long Mj_0, .ref Ma_17, .ref Ma_18, .ref Ma_19, .ref Ma_20])), (Ma_2, .inl (tc 0, 2400, .inl Mf_2)), (Ma_8, .inl (tc 1, 64, .inr (.inl Mg_8))), (Ma_9, .inl (tc 1, 13, .inr (.inl Mg_9)))] (fun (v : Option Value) (u : (Int32) × (Nat → Int64)) => match u with | (oo0x1, oo0x2) => ∃ r : Int64, v = some (.long r) ∧ ((True) ∧ (r, oo0x1, oo0x2) = (dX12_reckons Mf_2 Mg_8 Mg_9 x1 x2 x3))) (fun (u : (Int32) × (Nat → Int64)) => match u with | (oo0x1, oo0x2) => [(Ma_0, .inr (12, [.ref Ma_1, .int Mv_0, .int Mv_1, .ref Ma_2, .ref Ma_3, .ref Ma_4, .ref Ma_5, .ref Ma_6, .int Mv_2, .int Mv_3, .int Mv_4, .int Mv_5, .int Mv_6, .int Mv_7, .int Mv_8, .ref Ma_7, .int Mv_9, .ref Ma_8, .int oo0x1, .ref Ma_9, .ref Ma_10, .int Mv_11, .int Mv_12, .int Mv_13, .ref Ma_11, .int Mv_14, .ref Ma_12, .ref Ma_13, .ref Ma_14, .ref Ma_15, .ref Ma_16, .long Mj_0, .ref Ma_17, .ref Ma_18, .ref Ma_19, .ref Ma_20])), (Ma_2, .inl (tc 0, 2400, .inl Mf_2)), (Ma_8, .inl (tc 1, 64, .inr (.inl oo0x2))), (Ma_9, .inl (tc 1, 13, .inr (.inl Mg_9)))]) 0 0 :=
  ct_dX12_reckons l D tc sk (fun k => ([Ma_0, Ma_1, Ma_2, Ma_3, Ma_4, Ma_5, Ma_6, Ma_7, Ma_8, Ma_9, Ma_10, Ma_11, Ma_12, Ma_13, Ma_14, Ma_15, Ma_16, Ma_17, Ma_18, Ma_19, Ma_20] : List (Nat)).getD k 0) (fun k => ([Mv_0, Mv_1, Mv_2, Mv_3, Mv_4, Mv_5, Mv_6, Mv_7, Mv_8, Mv_9, Mv_10, Mv_11, Mv_12, Mv_13, Mv_14] : List (Int32)).getD k 0) (fun k => ([(fun _ => 0), (fun _ => 0), Mf_2] : List (Nat → Int32)).getD k (fun _ => 0)) (fun k => ([Mj_0] : List (Int64)).getD k 0) (fun k => ([(fun _ => 0), (fun _ => 0), (fun _ => 0), (fun _ => 0), (fun _ => 0), (fun _ => 0), (fun _ => 0), (fun _ => 0), Mg_8, Mg_9] : List (Nat → Int64)).getD k (fun _ => 0)) x1 x2 x3 h_w h_tt
def dX12_summedBy_l2 (Mf_2 : Nat → Int32) (Mf_4 : Nat → Int32) (Mf_5 : Nat → Int32) (Mg_9 : Nat → Int64) (zz_301 : Int32) : Nat → Int32 → Int32 → (Nat → Int64) → Int32 × Int64 × Int32 × Int32 × (Nat → Int64)
  | 0, _, _, _ => (0, 0, 0, 0, (fun _ => 0))
  | n + 1, yy_300, yy_301, yy_302 => (if (Mf_5 (zz_301).toNatClampNeg) ≤ yy_300 then ((0 : Int32), (0 : Int64), yy_300, yy_301, yy_302) else (if (Mf_4 (((((48 : Int32) * zz_301) + ((4 : Int32) * yy_300)) + (2 : Int32))).toNatClampNeg) < (0 : Int32) then ((1 : Int32), (dX12_reckons Mf_2 yy_302 Mg_9 zz_301 (Mf_4 ((((48 : Int32) * zz_301) + ((4 : Int32) * yy_300))).toNatClampNeg) (Mf_4 (((((48 : Int32) * zz_301) + ((4 : Int32) * yy_300)) + (1 : Int32))).toNatClampNeg)).1, yy_300, (dX12_reckons Mf_2 yy_302 Mg_9 zz_301 (Mf_4 ((((48 : Int32) * zz_301) + ((4 : Int32) * yy_300))).toNatClampNeg) (Mf_4 (((((48 : Int32) * zz_301) + ((4 : Int32) * yy_300)) + (1 : Int32))).toNatClampNeg)).2.1, ((dX12_reckons Mf_2 yy_302 Mg_9 zz_301 (Mf_4 ((((48 : Int32) * zz_301) + ((4 : Int32) * yy_300))).toNatClampNeg) (Mf_4 (((((48 : Int32) * zz_301) + ((4 : Int32) * yy_300)) + (1 : Int32))).toNatClampNeg)).2.2)) else (if (lg_cmp (dX12_reckons Mf_2 yy_302 Mg_9 zz_301 (Mf_4 (((((48 : Int32) * zz_301) + ((4 : Int32) * yy_300)) + (2 : Int32))).toNatClampNeg) (Mf_4 (((((48 : Int32) * zz_301) + ((4 : Int32) * yy_300)) + (3 : Int32))).toNatClampNeg)).1 (1 : Int64)) = (0 : Int32) then ((1 : Int32), (dX12_reckons Mf_2 ((dX12_reckons Mf_2 yy_302 Mg_9 zz_301 (Mf_4 (((((48 : Int32) * zz_301) + ((4 : Int32) * yy_300)) + (2 : Int32))).toNatClampNeg) (Mf_4 (((((48 : Int32) * zz_301) + ((4 : Int32) * yy_300)) + (3 : Int32))).toNatClampNeg)).2.2) Mg_9 zz_301 (Mf_4 ((((48 : Int32) * zz_301) + ((4 : Int32) * yy_300))).toNatClampNeg) (Mf_4 (((((48 : Int32) * zz_301) + ((4 : Int32) * yy_300)) + (1 : Int32))).toNatClampNeg)).1, yy_300, (dX12_reckons Mf_2 ((dX12_reckons Mf_2 yy_302 Mg_9 zz_301 (Mf_4 (((((48 : Int32) * zz_301) + ((4 : Int32) * yy_300)) + (2 : Int32))).toNatClampNeg) (Mf_4 (((((48 : Int32) * zz_301) + ((4 : Int32) * yy_300)) + (3 : Int32))).toNatClampNeg)).2.2) Mg_9 zz_301 (Mf_4 ((((48 : Int32) * zz_301) + ((4 : Int32) * yy_300))).toNatClampNeg) (Mf_4 (((((48 : Int32) * zz_301) + ((4 : Int32) * yy_300)) + (1 : Int32))).toNatClampNeg)).2.1, ((dX12_reckons Mf_2 ((dX12_reckons Mf_2 yy_302 Mg_9 zz_301 (Mf_4 (((((48 : Int32) * zz_301) + ((4 : Int32) * yy_300)) + (2 : Int32))).toNatClampNeg) (Mf_4 (((((48 : Int32) * zz_301) + ((4 : Int32) * yy_300)) + (3 : Int32))).toNatClampNeg)).2.2) Mg_9 zz_301 (Mf_4 ((((48 : Int32) * zz_301) + ((4 : Int32) * yy_300))).toNatClampNeg) (Mf_4 (((((48 : Int32) * zz_301) + ((4 : Int32) * yy_300)) + (1 : Int32))).toNatClampNeg)).2.2)) else dX12_summedBy_l2 Mf_2 Mf_4 Mf_5 Mg_9 zz_301 n (yy_300 + 1) ((dX12_reckons Mf_2 yy_302 Mg_9 zz_301 (Mf_4 (((((48 : Int32) * zz_301) + ((4 : Int32) * yy_300)) + (2 : Int32))).toNatClampNeg) (Mf_4 (((((48 : Int32) * zz_301) + ((4 : Int32) * yy_300)) + (3 : Int32))).toNatClampNeg)).2.1) ((dX12_reckons Mf_2 yy_302 Mg_9 zz_301 (Mf_4 (((((48 : Int32) * zz_301) + ((4 : Int32) * yy_300)) + (2 : Int32))).toNatClampNeg) (Mf_4 (((((48 : Int32) * zz_301) + ((4 : Int32) * yy_300)) + (3 : Int32))).toNatClampNeg)).2.2))))
theorem dX12_summedBy_l2_s {Mf_2 : Nat → Int32} {Mf_4 : Nat → Int32} {Mf_5 : Nat → Int32} {Mg_9 : Nat → Int64} {zz_301 : Int32} {n : Nat} {yy_300 : Int32} {yy_301 : Int32} {yy_302 : Nat → Int64} : dX12_summedBy_l2 Mf_2 Mf_4 Mf_5 Mg_9 zz_301 (n + 1) yy_300 yy_301 yy_302 = (if (Mf_5 (zz_301).toNatClampNeg) ≤ yy_300 then ((0 : Int32), (0 : Int64), yy_300, yy_301, yy_302) else (if (Mf_4 (((((48 : Int32) * zz_301) + ((4 : Int32) * yy_300)) + (2 : Int32))).toNatClampNeg) < (0 : Int32) then ((1 : Int32), (dX12_reckons Mf_2 yy_302 Mg_9 zz_301 (Mf_4 ((((48 : Int32) * zz_301) + ((4 : Int32) * yy_300))).toNatClampNeg) (Mf_4 (((((48 : Int32) * zz_301) + ((4 : Int32) * yy_300)) + (1 : Int32))).toNatClampNeg)).1, yy_300, (dX12_reckons Mf_2 yy_302 Mg_9 zz_301 (Mf_4 ((((48 : Int32) * zz_301) + ((4 : Int32) * yy_300))).toNatClampNeg) (Mf_4 (((((48 : Int32) * zz_301) + ((4 : Int32) * yy_300)) + (1 : Int32))).toNatClampNeg)).2.1, ((dX12_reckons Mf_2 yy_302 Mg_9 zz_301 (Mf_4 ((((48 : Int32) * zz_301) + ((4 : Int32) * yy_300))).toNatClampNeg) (Mf_4 (((((48 : Int32) * zz_301) + ((4 : Int32) * yy_300)) + (1 : Int32))).toNatClampNeg)).2.2)) else (if (lg_cmp (dX12_reckons Mf_2 yy_302 Mg_9 zz_301 (Mf_4 (((((48 : Int32) * zz_301) + ((4 : Int32) * yy_300)) + (2 : Int32))).toNatClampNeg) (Mf_4 (((((48 : Int32) * zz_301) + ((4 : Int32) * yy_300)) + (3 : Int32))).toNatClampNeg)).1 (1 : Int64)) = (0 : Int32) then ((1 : Int32), (dX12_reckons Mf_2 ((dX12_reckons Mf_2 yy_302 Mg_9 zz_301 (Mf_4 (((((48 : Int32) * zz_301) + ((4 : Int32) * yy_300)) + (2 : Int32))).toNatClampNeg) (Mf_4 (((((48 : Int32) * zz_301) + ((4 : Int32) * yy_300)) + (3 : Int32))).toNatClampNeg)).2.2) Mg_9 zz_301 (Mf_4 ((((48 : Int32) * zz_301) + ((4 : Int32) * yy_300))).toNatClampNeg) (Mf_4 (((((48 : Int32) * zz_301) + ((4 : Int32) * yy_300)) + (1 : Int32))).toNatClampNeg)).1, yy_300, (dX12_reckons Mf_2 ((dX12_reckons Mf_2 yy_302 Mg_9 zz_301 (Mf_4 (((((48 : Int32) * zz_301) + ((4 : Int32) * yy_300)) + (2 : Int32))).toNatClampNeg) (Mf_4 (((((48 : Int32) * zz_301) + ((4 : Int32) * yy_300)) + (3 : Int32))).toNatClampNeg)).2.2) Mg_9 zz_301 (Mf_4 ((((48 : Int32) * zz_301) + ((4 : Int32) * yy_300))).toNatClampNeg) (Mf_4 (((((48 : Int32) * zz_301) + ((4 : Int32) * yy_300)) + (1 : Int32))).toNatClampNeg)).2.1, ((dX12_reckons Mf_2 ((dX12_reckons Mf_2 yy_302 Mg_9 zz_301 (Mf_4 (((((48 : Int32) * zz_301) + ((4 : Int32) * yy_300)) + (2 : Int32))).toNatClampNeg) (Mf_4 (((((48 : Int32) * zz_301) + ((4 : Int32) * yy_300)) + (3 : Int32))).toNatClampNeg)).2.2) Mg_9 zz_301 (Mf_4 ((((48 : Int32) * zz_301) + ((4 : Int32) * yy_300))).toNatClampNeg) (Mf_4 (((((48 : Int32) * zz_301) + ((4 : Int32) * yy_300)) + (1 : Int32))).toNatClampNeg)).2.2)) else dX12_summedBy_l2 Mf_2 Mf_4 Mf_5 Mg_9 zz_301 n (yy_300 + 1) ((dX12_reckons Mf_2 yy_302 Mg_9 zz_301 (Mf_4 (((((48 : Int32) * zz_301) + ((4 : Int32) * yy_300)) + (2 : Int32))).toNatClampNeg) (Mf_4 (((((48 : Int32) * zz_301) + ((4 : Int32) * yy_300)) + (3 : Int32))).toNatClampNeg)).2.1) ((dX12_reckons Mf_2 yy_302 Mg_9 zz_301 (Mf_4 (((((48 : Int32) * zz_301) + ((4 : Int32) * yy_300)) + (2 : Int32))).toNatClampNeg) (Mf_4 (((((48 : Int32) * zz_301) + ((4 : Int32) * yy_300)) + (3 : Int32))).toNatClampNeg)).2.2)))) := rfl
def dX12_summedBy (Mf_2 : Nat → Int32) (Mf_4 : Nat → Int32) (Mf_5 : Nat → Int32) (Mg_8 : Nat → Int64) (Mg_9 : Nat → Int64) (Mv_10 : Int32) (x1 : Int32) : Int64 × Int32 × (Nat → Int64) := (if (dX12_summedBy_l2 Mf_2 Mf_4 Mf_5 Mg_9 x1 ((12 - (0 : Int32).toInt).toNat + 1) (0 : Int32) Mv_10 Mg_8).1 = (1 : Int32) then ((dX12_summedBy_l2 Mf_2 Mf_4 Mf_5 Mg_9 x1 ((12 - (0 : Int32).toInt).toNat + 1) (0 : Int32) Mv_10 Mg_8).2.1, (dX12_summedBy_l2 Mf_2 Mf_4 Mf_5 Mg_9 x1 ((12 - (0 : Int32).toInt).toNat + 1) (0 : Int32) Mv_10 Mg_8).2.2.2.1, ((dX12_summedBy_l2 Mf_2 Mf_4 Mf_5 Mg_9 x1 ((12 - (0 : Int32).toInt).toNat + 1) (0 : Int32) Mv_10 Mg_8).2.2.2.2)) else ((0 : Int64), (dX12_summedBy_l2 Mf_2 Mf_4 Mf_5 Mg_9 x1 ((12 - (0 : Int32).toInt).toNat + 1) (0 : Int32) Mv_10 Mg_8).2.2.2.1, ((dX12_summedBy_l2 Mf_2 Mf_4 Mf_5 Mg_9 x1 ((12 - (0 : Int32).toInt).toNat + 1) (0 : Int32) Mv_10 Mg_8).2.2.2.2)))
set_option maxHeartbeats 4000000 in
set_option maxRecDepth 100000 in
theorem ct_dX12_summedBy (l : Launch) (D : va_G) (tc : Nat → ClassId) (sk : (Nat → Nat) × (Nat → Nat)) (Ma : Nat → Nat) (Mv : Nat → Int32) (Mf : Nat → Nat → Int32) (Mj : Nat → Int64) (Mg : Nat → Nat → Int64) (x1 : Int32) (h_rul : RulD (Mf 2) (Mf 4) (Mf 5) (Mv 1)) (h_t : 0 ≤ x1.toInt ∧ x1.toInt < (Mv 1).toInt) (h_r6 : (Mv 1).toInt ≤ 6) : Ct l yX12_summedBy cX12_summedBy 4 (some .long) { frames := 2, cells := 0, slots := 0, locals := 54 } D tc sk [.ref (Ma 0), .int x1] [((Ma 0), .inr (12, [.ref (Ma 1), .int (Mv 0), .int (Mv 1), .ref (Ma 2), .ref (Ma 3), .ref (Ma 4), .ref (Ma 5), .ref (Ma 6), .int (Mv 2), .int (Mv 3), .int (Mv 4), .int (Mv 5), .int (Mv 6), .int (Mv 7), .int (Mv 8), .ref (Ma 7), .int (Mv 9), .ref (Ma 8), .int (Mv 10), .ref (Ma 9), .ref (Ma 10), .int (Mv 11), .int (Mv 12), .int (Mv 13), .ref (Ma 11), .int (Mv 14), .ref (Ma 12), .ref (Ma 13), .ref (Ma 14), .ref (Ma 15), .ref (Ma 16), .long (Mj 0), .ref (Ma 17), .ref (Ma 18), .ref (Ma 19), .ref (Ma 20)])), ((Ma 2), .inl (tc 0, 2400, .inl (Mf 2))), ((Ma 4), .inl (tc 0, 288, .inl (Mf 4))), ((Ma 5), .inl (tc 0, 6, .inl (Mf 5))), ((Ma 8), .inl (tc 1, 64, .inr (.inl (Mg 8)))), ((Ma 9), .inl (tc 1, 13, .inr (.inl (Mg 9))))] (fun (v : Option Value) (u : (Int32) × (Nat → Int64)) => match u with | (oo0x1, oo0x2) => ∃ r : Int64, v = some (.long r) ∧ ((True) ∧ (r, oo0x1, oo0x2) = (dX12_summedBy (Mf 2) (Mf 4) (Mf 5) (Mg 8) (Mg 9) (Mv 10) x1))) (fun (u : (Int32) × (Nat → Int64)) => match u with | (oo0x1, oo0x2) => [((Ma 0), .inr (12, [.ref (Ma 1), .int (Mv 0), .int (Mv 1), .ref (Ma 2), .ref (Ma 3), .ref (Ma 4), .ref (Ma 5), .ref (Ma 6), .int (Mv 2), .int (Mv 3), .int (Mv 4), .int (Mv 5), .int (Mv 6), .int (Mv 7), .int (Mv 8), .ref (Ma 7), .int (Mv 9), .ref (Ma 8), .int oo0x1, .ref (Ma 9), .ref (Ma 10), .int (Mv 11), .int (Mv 12), .int (Mv 13), .ref (Ma 11), .int (Mv 14), .ref (Ma 12), .ref (Ma 13), .ref (Ma 14), .ref (Ma 15), .ref (Ma 16), .long (Mj 0), .ref (Ma 17), .ref (Ma 18), .ref (Ma 19), .ref (Ma 20)])), ((Ma 2), .inl (tc 0, 2400, .inl (Mf 2))), ((Ma 4), .inl (tc 0, 288, .inl (Mf 4))), ((Ma 5), .inl (tc 0, 6, .inl (Mf 5))), ((Ma 8), .inl (tc 1, 64, .inr (.inl oo0x2))), ((Ma 9), .inl (tc 1, 13, .inr (.inl (Mg 9))))]) 0 0 := by
  refine Ct.start (by decide) (Nat.le_of_ble_eq_true rfl) (fun p e s m below meth c A ls hx hb hr hlk hin hml hown hts hK hX hP hD hA hl hS => ?_)
  have hl : lv_has ls 4 [(0, .ref (Ma 0)), (1, .int x1)] := hl
  refine lv_iconst (v := 0) hx hb dX12_summedBy_0 (by decide) ?_
  refine lv_istore_n (lv' := [(2, .int 0), (0, .ref (Ma 0)), (1, .int x1)]) hx hb dX12_summedBy_1 rfl hl (by decide) rfl (fun ls hl₀ => ?_)
  replace hl := hl₀
  clear hl₀
  have loop_3 : ∀ (n_1 : Nat) (yy_300 : Int32) (yy_301 : Int32) (yy_302 : Nat → Int64) (H : Heap) (locs : List Loc) (ls : Array Slot), (12 - (yy_300 : Int32).toInt).toNat < n_1 → (dX12_summedBy_l2 (Mf 2) (Mf 4) (Mf 5) (Mg 9) x1 ((12 - (0 : Int32).toInt).toNat + 1) (0 : Int32) (Mv 10) (Mg 8)) = dX12_summedBy_l2 (Mf 2) (Mf 4) (Mf 5) (Mg 9) x1 ((12 - (yy_300 : Int32).toInt).toNat + 1) yy_300 yy_301 yy_302 → (0 ≤ (yy_300 : Int32).toInt) → va_P D classes [((Ma 0), .inr (12, [.ref (Ma 1), .int (Mv 0), .int (Mv 1), .ref (Ma 2), .ref (Ma 3), .ref (Ma 4), .ref (Ma 5), .ref (Ma 6), .int (Mv 2), .int (Mv 3), .int (Mv 4), .int (Mv 5), .int (Mv 6), .int (Mv 7), .int (Mv 8), .ref (Ma 7), .int (Mv 9), .ref (Ma 8), .int yy_301, .ref (Ma 9), .ref (Ma 10), .int (Mv 11), .int (Mv 12), .int (Mv 13), .ref (Ma 11), .int (Mv 14), .ref (Ma 12), .ref (Ma 13), .ref (Ma 14), .ref (Ma 15), .ref (Ma 16), .long (Mj 0), .ref (Ma 17), .ref (Ma 18), .ref (Ma 19), .ref (Ma 20)])), ((Ma 2), .inl (tc 0, 2400, .inl (Mf 2))), ((Ma 4), .inl (tc 0, 288, .inl (Mf 4))), ((Ma 5), .inl (tc 0, 6, .inl (Mf 5))), ((Ma 8), .inl (tc 1, 64, .inr (.inl yy_302))), ((Ma 9), .inl (tc 1, 13, .inr (.inl (Mg 9))))] H → va_D A [((Ma 0), .inr (12, [.ref (Ma 1), .int (Mv 0), .int (Mv 1), .ref (Ma 2), .ref (Ma 3), .ref (Ma 4), .ref (Ma 5), .ref (Ma 6), .int (Mv 2), .int (Mv 3), .int (Mv 4), .int (Mv 5), .int (Mv 6), .int (Mv 7), .int (Mv 8), .ref (Ma 7), .int (Mv 9), .ref (Ma 8), .int yy_301, .ref (Ma 9), .ref (Ma 10), .int (Mv 11), .int (Mv 12), .int (Mv 13), .ref (Ma 11), .int (Mv 14), .ref (Ma 12), .ref (Ma 13), .ref (Ma 14), .ref (Ma 15), .ref (Ma 16), .long (Mj 0), .ref (Ma 17), .ref (Ma 18), .ref (Ma 19), .ref (Ma 20)])), ((Ma 2), .inl (tc 0, 2400, .inl (Mf 2))), ((Ma 4), .inl (tc 0, 288, .inl (Mf 4))), ((Ma 5), .inl (tc 0, 6, .inl (Mf 5))), ((Ma 8), .inl (tc 1, 64, .inr (.inl yy_302))), ((Ma 9), .inl (tc 1, 13, .inr (.inl (Mg 9))))] → va_S A s.heap H locs → lv_has ls 4 [(2, .int yy_300), (0, .ref (Ma 0)), (1, .int x1)] → W p l e ({ frames := 2, cells := 0, slots := 0, locals := 54 }) s m ([.ref (Ma 0), .int x1].toArray) below meth c H locs 0 0 (MQ below (QW (fun (v : Option Value) (u : (Int32) × (Nat → Int64)) => match u with | (oo0x1, oo0x2) => ∃ r : Int64, v = some (.long r) ∧ ((True) ∧ (r, oo0x1, oo0x2) = (dX12_summedBy (Mf 2) (Mf 4) (Mf 5) (Mg 8) (Mg 9) (Mv 10) x1))) (BW D (fun (u : (Int32) × (Nat → Int64)) => match u with | (oo0x1, oo0x2) => [((Ma 0), .inr (12, [.ref (Ma 1), .int (Mv 0), .int (Mv 1), .ref (Ma 2), .ref (Ma 3), .ref (Ma 4), .ref (Ma 5), .ref (Ma 6), .int (Mv 2), .int (Mv 3), .int (Mv 4), .int (Mv 5), .int (Mv 6), .int (Mv 7), .int (Mv 8), .ref (Ma 7), .int (Mv 9), .ref (Ma 8), .int oo0x1, .ref (Ma 9), .ref (Ma 10), .int (Mv 11), .int (Mv 12), .int (Mv 13), .ref (Ma 11), .int (Mv 14), .ref (Ma 12), .ref (Ma 13), .ref (Ma 14), .ref (Ma 15), .ref (Ma 16), .long (Mj 0), .ref (Ma 17), .ref (Ma 18), .ref (Ma 19), .ref (Ma 20)])), ((Ma 2), .inl (tc 0, 2400, .inl (Mf 2))), ((Ma 4), .inl (tc 0, 288, .inl (Mf 4))), ((Ma 5), .inl (tc 0, 6, .inl (Mf 5))), ((Ma 8), .inl (tc 1, 64, .inr (.inl oo0x2))), ((Ma 9), .inl (tc 1, 13, .inr (.inl (Mg 9))))]) A) A) ([.ref (Ma 0), .int x1].toArray) s 0 0 A) (F0 m 2 ls []) := by
    clear hP hD hS hl
    intro n_1
    induction n_1 with
    | zero =>
      intro yy_300 yy_301 yy_302 H locs ls h1
      exact absurd h1 (Nat.not_lt_zero _)
    | succ n_1 ih_2 =>
      intro yy_300 yy_301 yy_302 H locs ls hn_6 hL_5 pf_4 hP hD hS hl
      refine lv_iload_n hx hb dX12_summedBy_2 rfl (lv_at hl 0 rfl) ?_
      refine lv_aload_n hx hb dX12_summedBy_3 rfl (lv_at hl 1 rfl) ?_
      refine gf_X12_23 hx hb hts hown hK hP 0 rfl rfl dX12_summedBy_4 ?_
      refine lv_iload_n hx hb dX12_summedBy_7 rfl (lv_at hl 2 rfl) ?_
      have hi_7 : vp_in x1 6 := by
        refine vp_in_iff.mpr ⟨?_, ?_⟩ <;> omega
      refine va_iald hx hb hK hP 3 0 rfl rfl hi_7 dX12_summedBy_8 ?_
      refine lv_topi (fun x_8 ex_8 => ?_)
      have lcx_8 := RulD.le h_rul h_t ex_8
      refine lv_icmp_ge (tgt := 84) hx hb dX12_summedBy_9 (by decide) (fun c_9 => ?_) (fun c_9 => ?_)
      · skip
        have hb_11 : dX12_summedBy_l2 (Mf 2) (Mf 4) (Mf 5) (Mg 9) x1 ((12 - (yy_300 : Int32).toInt).toNat + 1) yy_300 yy_301 yy_302 = ((0 : Int32), (0 : Int64), yy_300, yy_301, yy_302) := by
          clear hP hD hS hl ih_2
          replace ex_8 := ex_8.symm; subst ex_8
          rw [dX12_summedBy_l2_s]
          rw [if_pos c_9]
          try rfl
        have hX_10 : (dX12_summedBy_l2 (Mf 2) (Mf 4) (Mf 5) (Mg 9) x1 ((12 - (0 : Int32).toInt).toNat + 1) (0 : Int32) (Mv 10) (Mg 8)) = ((0 : Int32), (0 : Int64), yy_300, yy_301, yy_302) := hL_5.trans hb_11
        have hX_10_0 : (dX12_summedBy_l2 (Mf 2) (Mf 4) (Mf 5) (Mg 9) x1 ((12 - (0 : Int32).toInt).toNat + 1) (0 : Int32) (Mv 10) (Mg 8)).1 = (0 : Int32) := congrArg (fun z => z.1) hX_10
        have hX_10_1 : (dX12_summedBy_l2 (Mf 2) (Mf 4) (Mf 5) (Mg 9) x1 ((12 - (0 : Int32).toInt).toNat + 1) (0 : Int32) (Mv 10) (Mg 8)).2.1 = (0 : Int64) := congrArg (fun z => z.2.1) hX_10
        have hX_10_2 : (dX12_summedBy_l2 (Mf 2) (Mf 4) (Mf 5) (Mg 9) x1 ((12 - (0 : Int32).toInt).toNat + 1) (0 : Int32) (Mv 10) (Mg 8)).2.2.1 = yy_300 := congrArg (fun z => z.2.2.1) hX_10
        have hX_10_3 : (dX12_summedBy_l2 (Mf 2) (Mf 4) (Mf 5) (Mg 9) x1 ((12 - (0 : Int32).toInt).toNat + 1) (0 : Int32) (Mv 10) (Mg 8)).2.2.2.1 = yy_301 := congrArg (fun z => z.2.2.2.1) hX_10
        have hX_10_4 : (dX12_summedBy_l2 (Mf 2) (Mf 4) (Mf 5) (Mg 9) x1 ((12 - (0 : Int32).toInt).toNat + 1) (0 : Int32) (Mv 10) (Mg 8)).2.2.2.2 = yy_302 := congrArg (fun z => z.2.2.2.2) hX_10
        refine lv_lconst (v := 0) hx hb dX12_summedBy_84 (by decide) ?_
        have hF_12 : ((0 : Int64), yy_301, yy_302) = (dX12_summedBy (Mf 2) (Mf 4) (Mf 5) (Mg 8) (Mg 9) (Mv 10) x1) := by
          clear hP hD hS hl ih_2
          replace ex_8 := ex_8.symm; subst ex_8
          unfold dX12_summedBy
          try rw [hX_10_0]
          try rw [hX_10_1]
          try rw [hX_10_2]
          try rw [hX_10_3]
          try rw [hX_10_4]
          rw [if_neg (show ¬ (0 : Int32) = (1 : Int32) by decide)]
          try rfl
        exact retL (v := 0) hx hb hr hlk hP hD hS (yy_301, yy_302) ⟨_, rfl, ⟨trivial, hF_12⟩⟩ [0, 1, 2, 3, 4, 5] rfl rfl dX12_summedBy_85 (Nat.le_of_ble_eq_true rfl) (Nat.le_of_ble_eq_true rfl) rfl
      · skip
        refine lv_bipush (v := 48) hx hb dX12_summedBy_12 (by decide) ?_
        refine lv_iload_n hx hb dX12_summedBy_14 rfl (lv_at hl 2 rfl) ?_
        refine lv_imul hx hb dX12_summedBy_15 ?_
        refine lv_topi (fun x_13 ex_13 => ?_)
        refine lv_iconst (v := 4) hx hb dX12_summedBy_16 (by decide) ?_
        refine lv_iload_n hx hb dX12_summedBy_17 rfl (lv_at hl 0 rfl) ?_
        refine lv_imul hx hb dX12_summedBy_18 ?_
        refine lv_topi (fun x_14 ex_14 => ?_)
        refine lv_iadd hx hb dX12_summedBy_19 ?_
        refine lv_topi (fun x_15 ex_15 => ?_)
        refine lv_istore_n (lv' := [(3, .int x_15), (2, .int yy_300), (0, .ref (Ma 0)), (1, .int x1)]) hx hb dX12_summedBy_20 rfl hl (by decide) rfl (fun ls hl₀ => ?_)
        replace hl := hl₀
        clear hl₀
        refine lv_aload_n hx hb dX12_summedBy_21 rfl (lv_at hl 2 rfl) ?_
        refine gf_X12_20 hx hb hts hown hK hP 0 rfl rfl dX12_summedBy_22 ?_
        refine lv_iload_n hx hb dX12_summedBy_25 rfl (lv_at hl 0 rfl) ?_
        refine lv_iconst (v := 2) hx hb dX12_summedBy_26 (by decide) ?_
        refine lv_iadd hx hb dX12_summedBy_27 ?_
        refine lv_topi (fun x_16 ex_16 => ?_)
        have hi_17 : vp_in x_16 288 := by
          have z_1 := Int32.lt_iff_toInt_lt.mp (Int32.not_le.mp c_9)
          have y_2 : (2 : Int32).toInt = 2 := by decide
          have y_4 : (4 : Int32).toInt = 4 := by decide
          have y_48 : (48 : Int32).toInt = 48 := by decide
          have t_x_13 : x_13.toInt = (48 : Int32).toInt * (x1 : Int32).toInt := by rw [ex_13]; exact mul_toInt (by first | omega | (rw [y_48]; omega)) (by first | omega | (rw [y_48]; omega))
          rw [y_48] at t_x_13
          have t_x_14 : x_14.toInt = (4 : Int32).toInt * (yy_300 : Int32).toInt := by rw [ex_14]; exact mul_toInt (by first | omega | (rw [y_4]; omega)) (by first | omega | (rw [y_4]; omega))
          rw [y_4] at t_x_14
          have t_x_15 : x_15.toInt = (x_13 : Int32).toInt + (x_14 : Int32).toInt := by rw [ex_15]; exact add_toInt (by omega) (by omega)
          have t_x_16 : x_16.toInt = (x_15 : Int32).toInt + (2 : Int32).toInt := by rw [ex_16]; exact add_toInt (by omega) (by omega)
          refine vp_in_iff.mpr ⟨?_, ?_⟩ <;> omega
        refine va_iald hx hb hK hP 2 0 rfl rfl hi_17 dX12_summedBy_28 ?_
        refine lv_topi (fun x_18 ex_18 => ?_)
        refine lv_if_lt (tgt := 58) hx hb dX12_summedBy_29 (by decide) (fun c_19 => ?_) (fun c_19 => ?_)
        · skip
          refine lv_aload_n hx hb dX12_summedBy_58 rfl (lv_at hl 2 rfl) ?_
          refine lv_iload_n hx hb dX12_summedBy_59 rfl (lv_at hl 3 rfl) ?_
          refine lv_aload_n hx hb dX12_summedBy_60 rfl (lv_at hl 2 rfl) ?_
          refine gf_X12_20 hx hb hts hown hK hP 0 rfl rfl dX12_summedBy_61 ?_
          refine lv_iload_n hx hb dX12_summedBy_64 rfl (lv_at hl 0 rfl) ?_
          have hi_20 : vp_in x_15 288 := by
            have z_1 := Int32.lt_iff_toInt_lt.mp (Int32.not_le.mp c_9)
            have z_2 := Int32.lt_iff_toInt_lt.mp c_19
            have y_0 : (0 : Int32).toInt = 0 := by decide
            have y_4 : (4 : Int32).toInt = 4 := by decide
            have y_48 : (48 : Int32).toInt = 48 := by decide
            have t_x_13 : x_13.toInt = (48 : Int32).toInt * (x1 : Int32).toInt := by rw [ex_13]; exact mul_toInt (by first | omega | (rw [y_48]; omega)) (by first | omega | (rw [y_48]; omega))
            rw [y_48] at t_x_13
            have t_x_14 : x_14.toInt = (4 : Int32).toInt * (yy_300 : Int32).toInt := by rw [ex_14]; exact mul_toInt (by first | omega | (rw [y_4]; omega)) (by first | omega | (rw [y_4]; omega))
            rw [y_4] at t_x_14
            have t_x_15 : x_15.toInt = (x_13 : Int32).toInt + (x_14 : Int32).toInt := by rw [ex_15]; exact add_toInt (by omega) (by omega)
            refine vp_in_iff.mpr ⟨?_, ?_⟩ <;> omega
          refine va_iald hx hb hK hP 2 0 rfl rfl hi_20 dX12_summedBy_65 ?_
          refine lv_topi (fun x_21 ex_21 => ?_)
          refine lv_aload_n hx hb dX12_summedBy_66 rfl (lv_at hl 2 rfl) ?_
          refine gf_X12_20 hx hb hts hown hK hP 0 rfl rfl dX12_summedBy_67 ?_
          refine lv_iload_n hx hb dX12_summedBy_70 rfl (lv_at hl 0 rfl) ?_
          refine lv_iconst (v := 1) hx hb dX12_summedBy_71 (by decide) ?_
          refine lv_iadd hx hb dX12_summedBy_72 ?_
          refine lv_topi (fun x_22 ex_22 => ?_)
          have hi_23 : vp_in x_22 288 := by
            have z_1 := Int32.lt_iff_toInt_lt.mp (Int32.not_le.mp c_9)
            have z_2 := Int32.lt_iff_toInt_lt.mp c_19
            have y_0 : (0 : Int32).toInt = 0 := by decide
            have y_1 : (1 : Int32).toInt = 1 := by decide
            have y_4 : (4 : Int32).toInt = 4 := by decide
            have y_48 : (48 : Int32).toInt = 48 := by decide
            have t_x_13 : x_13.toInt = (48 : Int32).toInt * (x1 : Int32).toInt := by rw [ex_13]; exact mul_toInt (by first | omega | (rw [y_48]; omega)) (by first | omega | (rw [y_48]; omega))
            rw [y_48] at t_x_13
            have t_x_14 : x_14.toInt = (4 : Int32).toInt * (yy_300 : Int32).toInt := by rw [ex_14]; exact mul_toInt (by first | omega | (rw [y_4]; omega)) (by first | omega | (rw [y_4]; omega))
            rw [y_4] at t_x_14
            have t_x_15 : x_15.toInt = (x_13 : Int32).toInt + (x_14 : Int32).toInt := by rw [ex_15]; exact add_toInt (by omega) (by omega)
            have t_x_22 : x_22.toInt = (x_15 : Int32).toInt + (1 : Int32).toInt := by rw [ex_22]; exact add_toInt (by omega) (by omega)
            refine vp_in_iff.mpr ⟨?_, ?_⟩ <;> omega
          refine va_iald hx hb hK hP 2 0 rfl rfl hi_23 dX12_summedBy_73 ?_
          refine lv_topi (fun x_24 ex_24 => ?_)
          have hc_25 : 0 ≤ (yy_300 : Int32).toInt ∧ (yy_300 : Int32).toInt < (x_8 : Int32).toInt := by
            have z_1 := Int32.lt_iff_toInt_lt.mp (Int32.not_le.mp c_9)
            have z_2 := Int32.lt_iff_toInt_lt.mp c_19
            have y_0 : (0 : Int32).toInt = 0 := by decide
            omega
          have hi_26 : (x_15 : Int32).toInt = 48 * x1.toInt + 4 * (yy_300 : Int32).toInt := by
            have z_1 := Int32.lt_iff_toInt_lt.mp (Int32.not_le.mp c_9)
            have z_2 := Int32.lt_iff_toInt_lt.mp c_19
            have y_0 : (0 : Int32).toInt = 0 := by decide
            have y_4 : (4 : Int32).toInt = 4 := by decide
            have y_48 : (48 : Int32).toInt = 48 := by decide
            have t_x_13 : x_13.toInt = (48 : Int32).toInt * (x1 : Int32).toInt := by rw [ex_13]; exact mul_toInt (by first | omega | (rw [y_48]; omega)) (by first | omega | (rw [y_48]; omega))
            rw [y_48] at t_x_13
            have t_x_14 : x_14.toInt = (4 : Int32).toInt * (yy_300 : Int32).toInt := by rw [ex_14]; exact mul_toInt (by first | omega | (rw [y_4]; omega)) (by first | omega | (rw [y_4]; omega))
            rw [y_4] at t_x_14
            have t_x_15 : x_15.toInt = (x_13 : Int32).toInt + (x_14 : Int32).toInt := by rw [ex_15]; exact add_toInt (by omega) (by omega)
            omega
          have hi_27 : (x_22 : Int32).toInt = 48 * x1.toInt + 4 * (yy_300 : Int32).toInt + 1 := by
            have z_1 := Int32.lt_iff_toInt_lt.mp (Int32.not_le.mp c_9)
            have z_2 := Int32.lt_iff_toInt_lt.mp c_19
            have y_0 : (0 : Int32).toInt = 0 := by decide
            have y_1 : (1 : Int32).toInt = 1 := by decide
            have y_4 : (4 : Int32).toInt = 4 := by decide
            have y_48 : (48 : Int32).toInt = 48 := by decide
            have t_x_13 : x_13.toInt = (48 : Int32).toInt * (x1 : Int32).toInt := by rw [ex_13]; exact mul_toInt (by first | omega | (rw [y_48]; omega)) (by first | omega | (rw [y_48]; omega))
            rw [y_48] at t_x_13
            have t_x_14 : x_14.toInt = (4 : Int32).toInt * (yy_300 : Int32).toInt := by rw [ex_14]; exact mul_toInt (by first | omega | (rw [y_4]; omega)) (by first | omega | (rw [y_4]; omega))
            rw [y_4] at t_x_14
            have t_x_15 : x_15.toInt = (x_13 : Int32).toInt + (x_14 : Int32).toInt := by rw [ex_15]; exact add_toInt (by omega) (by omega)
            have t_x_22 : x_22.toInt = (x_15 : Int32).toInt + (1 : Int32).toInt := by rw [ex_22]; exact add_toInt (by omega) (by omega)
            omega
          have ha_28 : 0 ≤ x1.toInt ∧ x1.toInt < 6 := by
            have z_1 := Int32.lt_iff_toInt_lt.mp (Int32.not_le.mp c_9)
            have z_2 := Int32.lt_iff_toInt_lt.mp c_19
            have y_0 : (0 : Int32).toInt = 0 := by decide
            omega
          refine cV (a := (Ma 0)) (As := [.int x1, .int x_21, .int x_24]) (rest := []) (wr := [((Ma 4), .inl (tc 0, 288, .inl (Mf 4))), ((Ma 5), .inl (tc 0, 6, .inl (Mf 5)))]) ⟨hx, hb, hml, hown, hts⟩ hK hX hA (cu_dX12_reckons l D tc sk (Ma 0) (Ma 1) (Ma 2) (Ma 3) (Ma 4) (Ma 5) (Ma 6) (Ma 7) (Ma 8) (Ma 9) (Ma 10) (Ma 11) (Ma 12) (Ma 13) (Ma 14) (Ma 15) (Ma 16) (Ma 17) (Ma 18) (Ma 19) (Ma 20) (Mv 0) (Mv 1) (Mv 2) (Mv 3) (Mv 4) (Mv 5) (Mv 6) (Mv 7) (Mv 8) (Mv 9) yy_301 (Mv 11) (Mv 12) (Mv 13) (Mv 14) (Mf 2) (Mj 0) yy_302 (Mg 9) x1 x_21 x_24 (RulD.w h_rul h_t ex_8 hc_25 hi_26 hi_27 ex_21 ex_24) ha_28) k_1447 k_1444 k_1446 k_73 k_106 pl_X12_reckons ⟨Nat.le_of_ble_eq_true rfl, Nat.le_of_ble_eq_true rfl⟩ rfl rfl (va_recv hK hP (ci := 12) (q0 := 0) rfl rfl) hP hD hS [0, 1, 4, 5] [2, 3] rfl rfl rfl rfl rfl (by decide) rfl hl.1 rfl (Nat.le_of_ble_eq_true rfl) dX12_summedBy_74 ⟨Nat.le_of_ble_eq_true rfl, Nat.le_of_ble_eq_true rfl⟩ (fun v_29 u_30 H locs hv_31 hP₀ hD₀ hS₀ => ?_)
          obtain ⟨sv_32, sv_33⟩ := u_30
          obtain ⟨r_34, rfl, he_35⟩ := hv_31
          have he_35 : (True) ∧ (r_34, sv_32, sv_33) = (dX12_reckons (Mf 2) yy_302 (Mg 9) x1 x_21 x_24) := he_35
          refine W.eq (g2 := F0 m 77 ls [.long r_34]) rfl ?_
          replace hP : va_P D classes [((Ma 4), .inl (tc 0, 288, .inl (Mf 4))), ((Ma 5), .inl (tc 0, 6, .inl (Mf 5))), ((Ma 0), .inr (12, [.ref (Ma 1), .int (Mv 0), .int (Mv 1), .ref (Ma 2), .ref (Ma 3), .ref (Ma 4), .ref (Ma 5), .ref (Ma 6), .int (Mv 2), .int (Mv 3), .int (Mv 4), .int (Mv 5), .int (Mv 6), .int (Mv 7), .int (Mv 8), .ref (Ma 7), .int (Mv 9), .ref (Ma 8), .int sv_32, .ref (Ma 9), .ref (Ma 10), .int (Mv 11), .int (Mv 12), .int (Mv 13), .ref (Ma 11), .int (Mv 14), .ref (Ma 12), .ref (Ma 13), .ref (Ma 14), .ref (Ma 15), .ref (Ma 16), .long (Mj 0), .ref (Ma 17), .ref (Ma 18), .ref (Ma 19), .ref (Ma 20)])), ((Ma 2), .inl (tc 0, 2400, .inl (Mf 2))), ((Ma 8), .inl (tc 1, 64, .inr (.inl sv_33))), ((Ma 9), .inl (tc 1, 13, .inr (.inl (Mg 9))))] H := hP₀
          replace hD : va_D A [((Ma 4), .inl (tc 0, 288, .inl (Mf 4))), ((Ma 5), .inl (tc 0, 6, .inl (Mf 5))), ((Ma 0), .inr (12, [.ref (Ma 1), .int (Mv 0), .int (Mv 1), .ref (Ma 2), .ref (Ma 3), .ref (Ma 4), .ref (Ma 5), .ref (Ma 6), .int (Mv 2), .int (Mv 3), .int (Mv 4), .int (Mv 5), .int (Mv 6), .int (Mv 7), .int (Mv 8), .ref (Ma 7), .int (Mv 9), .ref (Ma 8), .int sv_32, .ref (Ma 9), .ref (Ma 10), .int (Mv 11), .int (Mv 12), .int (Mv 13), .ref (Ma 11), .int (Mv 14), .ref (Ma 12), .ref (Ma 13), .ref (Ma 14), .ref (Ma 15), .ref (Ma 16), .long (Mj 0), .ref (Ma 17), .ref (Ma 18), .ref (Ma 19), .ref (Ma 20)])), ((Ma 2), .inl (tc 0, 2400, .inl (Mf 2))), ((Ma 8), .inl (tc 1, 64, .inr (.inl sv_33))), ((Ma 9), .inl (tc 1, 13, .inr (.inl (Mg 9))))] := hD₀
          replace hS := hS₀
          clear hP₀ hD₀ hS₀
          obtain ⟨he_35, hq_37⟩ := he_35
          have er_34 : r_34 = (dX12_reckons (Mf 2) yy_302 (Mg 9) x1 x_21 x_24).1 := congrArg (fun z => z.1) hq_37
          have esv_32 : sv_32 = (dX12_reckons (Mf 2) yy_302 (Mg 9) x1 x_21 x_24).2.1 := congrArg (fun z => z.2.1) hq_37
          have esv_33 : sv_33 = (dX12_reckons (Mf 2) yy_302 (Mg 9) x1 x_21 x_24).2.2 := congrArg (fun z => z.2.2) hq_37
          have hb_39 : dX12_summedBy_l2 (Mf 2) (Mf 4) (Mf 5) (Mg 9) x1 ((12 - (yy_300 : Int32).toInt).toNat + 1) yy_300 yy_301 yy_302 = ((1 : Int32), r_34, yy_300, sv_32, sv_33) := by
            clear hP hD hS hl ih_2
            replace ex_8 := ex_8.symm; subst ex_8
            replace ex_13 := ex_13.symm; subst ex_13
            replace ex_14 := ex_14.symm; subst ex_14
            replace ex_15 := ex_15.symm; subst ex_15
            replace ex_16 := ex_16.symm; subst ex_16
            replace ex_18 := ex_18.symm; subst ex_18
            replace ex_21 := ex_21.symm; subst ex_21
            replace ex_22 := ex_22.symm; subst ex_22
            replace ex_24 := ex_24.symm; subst ex_24
            replace er_34 := er_34.symm; subst er_34
            replace esv_32 := esv_32.symm; subst esv_32
            replace esv_33 := esv_33.symm; subst esv_33
            rw [dX12_summedBy_l2_s]
            rw [if_neg c_9, if_pos c_19]
            try rfl
          have hX_38 : (dX12_summedBy_l2 (Mf 2) (Mf 4) (Mf 5) (Mg 9) x1 ((12 - (0 : Int32).toInt).toNat + 1) (0 : Int32) (Mv 10) (Mg 8)) = ((1 : Int32), r_34, yy_300, sv_32, sv_33) := hL_5.trans hb_39
          have hX_38_0 : (dX12_summedBy_l2 (Mf 2) (Mf 4) (Mf 5) (Mg 9) x1 ((12 - (0 : Int32).toInt).toNat + 1) (0 : Int32) (Mv 10) (Mg 8)).1 = (1 : Int32) := congrArg (fun z => z.1) hX_38
          have hX_38_1 : (dX12_summedBy_l2 (Mf 2) (Mf 4) (Mf 5) (Mg 9) x1 ((12 - (0 : Int32).toInt).toNat + 1) (0 : Int32) (Mv 10) (Mg 8)).2.1 = r_34 := congrArg (fun z => z.2.1) hX_38
          have hX_38_2 : (dX12_summedBy_l2 (Mf 2) (Mf 4) (Mf 5) (Mg 9) x1 ((12 - (0 : Int32).toInt).toNat + 1) (0 : Int32) (Mv 10) (Mg 8)).2.2.1 = yy_300 := congrArg (fun z => z.2.2.1) hX_38
          have hX_38_3 : (dX12_summedBy_l2 (Mf 2) (Mf 4) (Mf 5) (Mg 9) x1 ((12 - (0 : Int32).toInt).toNat + 1) (0 : Int32) (Mv 10) (Mg 8)).2.2.2.1 = sv_32 := congrArg (fun z => z.2.2.2.1) hX_38
          have hX_38_4 : (dX12_summedBy_l2 (Mf 2) (Mf 4) (Mf 5) (Mg 9) x1 ((12 - (0 : Int32).toInt).toNat + 1) (0 : Int32) (Mv 10) (Mg 8)).2.2.2.2 = sv_33 := congrArg (fun z => z.2.2.2.2) hX_38
          have hF_40 : (r_34, sv_32, sv_33) = (dX12_summedBy (Mf 2) (Mf 4) (Mf 5) (Mg 8) (Mg 9) (Mv 10) x1) := by
            clear hP hD hS hl ih_2
            replace ex_8 := ex_8.symm; subst ex_8
            replace ex_13 := ex_13.symm; subst ex_13
            replace ex_14 := ex_14.symm; subst ex_14
            replace ex_15 := ex_15.symm; subst ex_15
            replace ex_16 := ex_16.symm; subst ex_16
            replace ex_18 := ex_18.symm; subst ex_18
            replace ex_21 := ex_21.symm; subst ex_21
            replace ex_22 := ex_22.symm; subst ex_22
            replace ex_24 := ex_24.symm; subst ex_24
            replace er_34 := er_34.symm; subst er_34
            replace esv_32 := esv_32.symm; subst esv_32
            replace esv_33 := esv_33.symm; subst esv_33
            unfold dX12_summedBy
            try rw [hX_38_0]
            try rw [hX_38_1]
            try rw [hX_38_2]
            try rw [hX_38_3]
            try rw [hX_38_4]
            rw [if_pos (show (1 : Int32) = (1 : Int32) from rfl)]
            try rfl
          exact retL (v := r_34) hx hb hr hlk hP hD hS (sv_32, sv_33) ⟨_, rfl, ⟨trivial, hF_40⟩⟩ [2, 3, 0, 1, 4, 5] rfl rfl dX12_summedBy_77 (Nat.le_of_ble_eq_true rfl) (Nat.le_of_ble_eq_true rfl) rfl
        · skip
          refine lv_aload_n hx hb dX12_summedBy_32 rfl (lv_at hl 2 rfl) ?_
          refine lv_iload_n hx hb dX12_summedBy_33 rfl (lv_at hl 3 rfl) ?_
          refine lv_aload_n hx hb dX12_summedBy_34 rfl (lv_at hl 2 rfl) ?_
          refine gf_X12_20 hx hb hts hown hK hP 0 rfl rfl dX12_summedBy_35 ?_
          refine lv_iload_n hx hb dX12_summedBy_38 rfl (lv_at hl 0 rfl) ?_
          refine lv_iconst (v := 2) hx hb dX12_summedBy_39 (by decide) ?_
          refine lv_iadd hx hb dX12_summedBy_40 ?_
          refine lv_topi (fun x_41 ex_41 => ?_)
          have hi_42 : vp_in x_41 288 := by
            have z_1 := Int32.lt_iff_toInt_lt.mp (Int32.not_le.mp c_9)
            have z_2 := Int32.le_iff_toInt_le.mp (Int32.not_lt.mp c_19)
            have y_0 : (0 : Int32).toInt = 0 := by decide
            have y_2 : (2 : Int32).toInt = 2 := by decide
            have y_4 : (4 : Int32).toInt = 4 := by decide
            have y_48 : (48 : Int32).toInt = 48 := by decide
            have t_x_13 : x_13.toInt = (48 : Int32).toInt * (x1 : Int32).toInt := by rw [ex_13]; exact mul_toInt (by first | omega | (rw [y_48]; omega)) (by first | omega | (rw [y_48]; omega))
            rw [y_48] at t_x_13
            have t_x_14 : x_14.toInt = (4 : Int32).toInt * (yy_300 : Int32).toInt := by rw [ex_14]; exact mul_toInt (by first | omega | (rw [y_4]; omega)) (by first | omega | (rw [y_4]; omega))
            rw [y_4] at t_x_14
            have t_x_15 : x_15.toInt = (x_13 : Int32).toInt + (x_14 : Int32).toInt := by rw [ex_15]; exact add_toInt (by omega) (by omega)
            have t_x_41 : x_41.toInt = (x_15 : Int32).toInt + (2 : Int32).toInt := by rw [ex_41]; exact add_toInt (by omega) (by omega)
            refine vp_in_iff.mpr ⟨?_, ?_⟩ <;> omega
          refine va_iald hx hb hK hP 2 0 rfl rfl hi_42 dX12_summedBy_41 ?_
          refine lv_topi (fun x_43 ex_43 => ?_)
          refine lv_aload_n hx hb dX12_summedBy_42 rfl (lv_at hl 2 rfl) ?_
          refine gf_X12_20 hx hb hts hown hK hP 0 rfl rfl dX12_summedBy_43 ?_
          refine lv_iload_n hx hb dX12_summedBy_46 rfl (lv_at hl 0 rfl) ?_
          refine lv_iconst (v := 3) hx hb dX12_summedBy_47 (by decide) ?_
          refine lv_iadd hx hb dX12_summedBy_48 ?_
          refine lv_topi (fun x_44 ex_44 => ?_)
          have hi_45 : vp_in x_44 288 := by
            have z_1 := Int32.lt_iff_toInt_lt.mp (Int32.not_le.mp c_9)
            have z_2 := Int32.le_iff_toInt_le.mp (Int32.not_lt.mp c_19)
            have y_0 : (0 : Int32).toInt = 0 := by decide
            have y_3 : (3 : Int32).toInt = 3 := by decide
            have y_4 : (4 : Int32).toInt = 4 := by decide
            have y_48 : (48 : Int32).toInt = 48 := by decide
            have t_x_13 : x_13.toInt = (48 : Int32).toInt * (x1 : Int32).toInt := by rw [ex_13]; exact mul_toInt (by first | omega | (rw [y_48]; omega)) (by first | omega | (rw [y_48]; omega))
            rw [y_48] at t_x_13
            have t_x_14 : x_14.toInt = (4 : Int32).toInt * (yy_300 : Int32).toInt := by rw [ex_14]; exact mul_toInt (by first | omega | (rw [y_4]; omega)) (by first | omega | (rw [y_4]; omega))
            rw [y_4] at t_x_14
            have t_x_15 : x_15.toInt = (x_13 : Int32).toInt + (x_14 : Int32).toInt := by rw [ex_15]; exact add_toInt (by omega) (by omega)
            have t_x_44 : x_44.toInt = (x_15 : Int32).toInt + (3 : Int32).toInt := by rw [ex_44]; exact add_toInt (by omega) (by omega)
            refine vp_in_iff.mpr ⟨?_, ?_⟩ <;> omega
          refine va_iald hx hb hK hP 2 0 rfl rfl hi_45 dX12_summedBy_49 ?_
          refine lv_topi (fun x_46 ex_46 => ?_)
          have hc_47 : 0 ≤ (yy_300 : Int32).toInt ∧ (yy_300 : Int32).toInt < (x_8 : Int32).toInt := by
            have z_1 := Int32.lt_iff_toInt_lt.mp (Int32.not_le.mp c_9)
            have z_2 := Int32.le_iff_toInt_le.mp (Int32.not_lt.mp c_19)
            have y_0 : (0 : Int32).toInt = 0 := by decide
            omega
          have hi_48 : (x_41 : Int32).toInt = 48 * x1.toInt + 4 * (yy_300 : Int32).toInt + 2 := by
            have z_1 := Int32.lt_iff_toInt_lt.mp (Int32.not_le.mp c_9)
            have z_2 := Int32.le_iff_toInt_le.mp (Int32.not_lt.mp c_19)
            have y_0 : (0 : Int32).toInt = 0 := by decide
            have y_2 : (2 : Int32).toInt = 2 := by decide
            have y_4 : (4 : Int32).toInt = 4 := by decide
            have y_48 : (48 : Int32).toInt = 48 := by decide
            have t_x_13 : x_13.toInt = (48 : Int32).toInt * (x1 : Int32).toInt := by rw [ex_13]; exact mul_toInt (by first | omega | (rw [y_48]; omega)) (by first | omega | (rw [y_48]; omega))
            rw [y_48] at t_x_13
            have t_x_14 : x_14.toInt = (4 : Int32).toInt * (yy_300 : Int32).toInt := by rw [ex_14]; exact mul_toInt (by first | omega | (rw [y_4]; omega)) (by first | omega | (rw [y_4]; omega))
            rw [y_4] at t_x_14
            have t_x_15 : x_15.toInt = (x_13 : Int32).toInt + (x_14 : Int32).toInt := by rw [ex_15]; exact add_toInt (by omega) (by omega)
            have t_x_41 : x_41.toInt = (x_15 : Int32).toInt + (2 : Int32).toInt := by rw [ex_41]; exact add_toInt (by omega) (by omega)
            omega
          have hi_49 : (x_44 : Int32).toInt = 48 * x1.toInt + 4 * (yy_300 : Int32).toInt + 3 := by
            have z_1 := Int32.lt_iff_toInt_lt.mp (Int32.not_le.mp c_9)
            have z_2 := Int32.le_iff_toInt_le.mp (Int32.not_lt.mp c_19)
            have y_0 : (0 : Int32).toInt = 0 := by decide
            have y_3 : (3 : Int32).toInt = 3 := by decide
            have y_4 : (4 : Int32).toInt = 4 := by decide
            have y_48 : (48 : Int32).toInt = 48 := by decide
            have t_x_13 : x_13.toInt = (48 : Int32).toInt * (x1 : Int32).toInt := by rw [ex_13]; exact mul_toInt (by first | omega | (rw [y_48]; omega)) (by first | omega | (rw [y_48]; omega))
            rw [y_48] at t_x_13
            have t_x_14 : x_14.toInt = (4 : Int32).toInt * (yy_300 : Int32).toInt := by rw [ex_14]; exact mul_toInt (by first | omega | (rw [y_4]; omega)) (by first | omega | (rw [y_4]; omega))
            rw [y_4] at t_x_14
            have t_x_15 : x_15.toInt = (x_13 : Int32).toInt + (x_14 : Int32).toInt := by rw [ex_15]; exact add_toInt (by omega) (by omega)
            have t_x_44 : x_44.toInt = (x_15 : Int32).toInt + (3 : Int32).toInt := by rw [ex_44]; exact add_toInt (by omega) (by omega)
            omega
          have hp_50 : 0 ≤ (x_43 : Int32).toInt := by
            have hee : x_43 = x_18 := by rw [ex_43, ex_18, ex_41, ex_16]
            rw [hee]
            have z_1 := Int32.lt_iff_toInt_lt.mp (Int32.not_le.mp c_9)
            have z_2 := Int32.le_iff_toInt_le.mp (Int32.not_lt.mp c_19)
            have y_0 : (0 : Int32).toInt = 0 := by decide
            omega
          have ha_51 : 0 ≤ x1.toInt ∧ x1.toInt < 6 := by
            have z_1 := Int32.lt_iff_toInt_lt.mp (Int32.not_le.mp c_9)
            have z_2 := Int32.le_iff_toInt_le.mp (Int32.not_lt.mp c_19)
            have y_0 : (0 : Int32).toInt = 0 := by decide
            omega
          refine cV (a := (Ma 0)) (As := [.int x1, .int x_43, .int x_46]) (rest := []) (wr := [((Ma 4), .inl (tc 0, 288, .inl (Mf 4))), ((Ma 5), .inl (tc 0, 6, .inl (Mf 5)))]) ⟨hx, hb, hml, hown, hts⟩ hK hX hA (cu_dX12_reckons l D tc sk (Ma 0) (Ma 1) (Ma 2) (Ma 3) (Ma 4) (Ma 5) (Ma 6) (Ma 7) (Ma 8) (Ma 9) (Ma 10) (Ma 11) (Ma 12) (Ma 13) (Ma 14) (Ma 15) (Ma 16) (Ma 17) (Ma 18) (Ma 19) (Ma 20) (Mv 0) (Mv 1) (Mv 2) (Mv 3) (Mv 4) (Mv 5) (Mv 6) (Mv 7) (Mv 8) (Mv 9) yy_301 (Mv 11) (Mv 12) (Mv 13) (Mv 14) (Mf 2) (Mj 0) yy_302 (Mg 9) x1 x_43 x_46 (RulD.w2 h_rul h_t ex_8 hc_47 hi_48 hi_49 ex_43 ex_46 hp_50) ha_51) k_1447 k_1444 k_1446 k_73 k_106 pl_X12_reckons ⟨Nat.le_of_ble_eq_true rfl, Nat.le_of_ble_eq_true rfl⟩ rfl rfl (va_recv hK hP (ci := 12) (q0 := 0) rfl rfl) hP hD hS [0, 1, 4, 5] [2, 3] rfl rfl rfl rfl rfl (by decide) rfl hl.1 rfl (Nat.le_of_ble_eq_true rfl) dX12_summedBy_50 ⟨Nat.le_of_ble_eq_true rfl, Nat.le_of_ble_eq_true rfl⟩ (fun v_52 u_53 H locs hv_54 hP₀ hD₀ hS₀ => ?_)
          obtain ⟨sv_55, sv_56⟩ := u_53
          obtain ⟨r_57, rfl, he_58⟩ := hv_54
          have he_58 : (True) ∧ (r_57, sv_55, sv_56) = (dX12_reckons (Mf 2) yy_302 (Mg 9) x1 x_43 x_46) := he_58
          refine W.eq (g2 := F0 m 53 ls [.long r_57]) rfl ?_
          replace hP : va_P D classes [((Ma 4), .inl (tc 0, 288, .inl (Mf 4))), ((Ma 5), .inl (tc 0, 6, .inl (Mf 5))), ((Ma 0), .inr (12, [.ref (Ma 1), .int (Mv 0), .int (Mv 1), .ref (Ma 2), .ref (Ma 3), .ref (Ma 4), .ref (Ma 5), .ref (Ma 6), .int (Mv 2), .int (Mv 3), .int (Mv 4), .int (Mv 5), .int (Mv 6), .int (Mv 7), .int (Mv 8), .ref (Ma 7), .int (Mv 9), .ref (Ma 8), .int sv_55, .ref (Ma 9), .ref (Ma 10), .int (Mv 11), .int (Mv 12), .int (Mv 13), .ref (Ma 11), .int (Mv 14), .ref (Ma 12), .ref (Ma 13), .ref (Ma 14), .ref (Ma 15), .ref (Ma 16), .long (Mj 0), .ref (Ma 17), .ref (Ma 18), .ref (Ma 19), .ref (Ma 20)])), ((Ma 2), .inl (tc 0, 2400, .inl (Mf 2))), ((Ma 8), .inl (tc 1, 64, .inr (.inl sv_56))), ((Ma 9), .inl (tc 1, 13, .inr (.inl (Mg 9))))] H := hP₀
          replace hD : va_D A [((Ma 4), .inl (tc 0, 288, .inl (Mf 4))), ((Ma 5), .inl (tc 0, 6, .inl (Mf 5))), ((Ma 0), .inr (12, [.ref (Ma 1), .int (Mv 0), .int (Mv 1), .ref (Ma 2), .ref (Ma 3), .ref (Ma 4), .ref (Ma 5), .ref (Ma 6), .int (Mv 2), .int (Mv 3), .int (Mv 4), .int (Mv 5), .int (Mv 6), .int (Mv 7), .int (Mv 8), .ref (Ma 7), .int (Mv 9), .ref (Ma 8), .int sv_55, .ref (Ma 9), .ref (Ma 10), .int (Mv 11), .int (Mv 12), .int (Mv 13), .ref (Ma 11), .int (Mv 14), .ref (Ma 12), .ref (Ma 13), .ref (Ma 14), .ref (Ma 15), .ref (Ma 16), .long (Mj 0), .ref (Ma 17), .ref (Ma 18), .ref (Ma 19), .ref (Ma 20)])), ((Ma 2), .inl (tc 0, 2400, .inl (Mf 2))), ((Ma 8), .inl (tc 1, 64, .inr (.inl sv_56))), ((Ma 9), .inl (tc 1, 13, .inr (.inl (Mg 9))))] := hD₀
          replace hS := hS₀
          clear hP₀ hD₀ hS₀
          obtain ⟨he_58, hq_60⟩ := he_58
          have er_57 : r_57 = (dX12_reckons (Mf 2) yy_302 (Mg 9) x1 x_43 x_46).1 := congrArg (fun z => z.1) hq_60
          have esv_55 : sv_55 = (dX12_reckons (Mf 2) yy_302 (Mg 9) x1 x_43 x_46).2.1 := congrArg (fun z => z.2.1) hq_60
          have esv_56 : sv_56 = (dX12_reckons (Mf 2) yy_302 (Mg 9) x1 x_43 x_46).2.2 := congrArg (fun z => z.2.2) hq_60
          refine lv_lconst (v := 1) hx hb dX12_summedBy_53 (by decide) ?_
          refine W.lcmp hx hb dX12_summedBy_54 ?_
          refine lv_topi (fun x_61 ex_61 => ?_)
          refine lv_if_ne (tgt := 78) hx hb dX12_summedBy_55 (by decide) (fun c_62 => ?_) (fun c_62 => ?_)
          · skip
            obtain ⟨x_64, ex_64⟩ : ∃ y : Int32, y = yy_300 + 1 := ⟨_, rfl⟩
            refine lv_iinc (v := x_64) (lv' := [(2, .int x_64), (3, .int x_15), (0, .ref (Ma 0)), (1, .int x1)]) hx hb dX12_summedBy_78 hl (k := 1) rfl (by rw [ex_64]; rfl) (by decide) rfl (fun ls hl₀ => ?_)
            replace hl := hl₀
            clear hl₀
            refine lv_goto (tgt := 2) hx hb dX12_summedBy_81 (by decide) ?_
            have hb_65 : 12 - (x_64 : Int32).toInt < 12 - (yy_300 : Int32).toInt ∧ 1 ≤ 12 - (yy_300 : Int32).toInt := by
              have z_1 := Int32.lt_iff_toInt_lt.mp (Int32.not_le.mp c_9)
              have z_2 := Int32.le_iff_toInt_le.mp (Int32.not_lt.mp c_19)
              have z_3 : ¬ (x_61 : Int32).toInt = (0 : Int32).toInt := fun z => c_62 (Int32.toInt_inj.mp z)
              have y_0 : (0 : Int32).toInt = 0 := by decide
              have y_1 : (1 : Int32).toInt = 1 := by decide
              have t_x_64 : x_64.toInt = (yy_300 : Int32).toInt + (1 : Int32).toInt := by rw [ex_64]; exact add_toInt (by omega) (by omega)
              omega
            have hm_66 : (12 - (yy_300 : Int32).toInt).toNat = (12 - (x_64 : Int32).toInt).toNat + 1 := by
              have z_1 := Int32.lt_iff_toInt_lt.mp (Int32.not_le.mp c_9)
              have z_2 := Int32.le_iff_toInt_le.mp (Int32.not_lt.mp c_19)
              have z_3 : ¬ (x_61 : Int32).toInt = (0 : Int32).toInt := fun z => c_62 (Int32.toInt_inj.mp z)
              have y_0 : (0 : Int32).toInt = 0 := by decide
              have y_1 : (1 : Int32).toInt = 1 := by decide
              have t_x_64 : x_64.toInt = (yy_300 : Int32).toInt + (1 : Int32).toInt := by rw [ex_64]; exact add_toInt (by omega) (by omega)
              omega
            have hb_67 : dX12_summedBy_l2 (Mf 2) (Mf 4) (Mf 5) (Mg 9) x1 ((12 - (yy_300 : Int32).toInt).toNat + 1) yy_300 yy_301 yy_302 = dX12_summedBy_l2 (Mf 2) (Mf 4) (Mf 5) (Mg 9) x1 ((12 - (yy_300 : Int32).toInt).toNat) x_64 sv_55 sv_56 := by
              clear hP hD hS hl ih_2
              replace ex_8 := ex_8.symm; subst ex_8
              replace ex_13 := ex_13.symm; subst ex_13
              replace ex_14 := ex_14.symm; subst ex_14
              replace ex_15 := ex_15.symm; subst ex_15
              replace ex_16 := ex_16.symm; subst ex_16
              replace ex_18 := ex_18.symm; subst ex_18
              replace ex_41 := ex_41.symm; subst ex_41
              replace ex_43 := ex_43.symm; subst ex_43
              replace ex_44 := ex_44.symm; subst ex_44
              replace ex_46 := ex_46.symm; subst ex_46
              replace er_57 := er_57.symm; subst er_57
              replace esv_55 := esv_55.symm; subst esv_55
              replace esv_56 := esv_56.symm; subst esv_56
              replace ex_61 := ex_61.symm; subst ex_61
              replace ex_64 := ex_64.symm; subst ex_64
              rw [dX12_summedBy_l2_s]
              rw [if_neg c_9, if_neg c_19, if_neg c_62]
              try rfl
            have hL_68 : (dX12_summedBy_l2 (Mf 2) (Mf 4) (Mf 5) (Mg 9) x1 ((12 - (0 : Int32).toInt).toNat + 1) (0 : Int32) (Mv 10) (Mg 8)) = dX12_summedBy_l2 (Mf 2) (Mf 4) (Mf 5) (Mg 9) x1 ((12 - (x_64 : Int32).toInt).toNat + 1) x_64 sv_55 sv_56 := by
              rw [hL_5, hb_67, hm_66]
            have ha_69 : 0 ≤ (x_64 : Int32).toInt := by
              have z_1 := Int32.lt_iff_toInt_lt.mp (Int32.not_le.mp c_9)
              have z_2 := Int32.le_iff_toInt_le.mp (Int32.not_lt.mp c_19)
              have z_3 : ¬ (x_61 : Int32).toInt = (0 : Int32).toInt := fun z => c_62 (Int32.toInt_inj.mp z)
              have y_0 : (0 : Int32).toInt = 0 := by decide
              have y_1 : (1 : Int32).toInt = 1 := by decide
              have t_x_64 : x_64.toInt = (yy_300 : Int32).toInt + (1 : Int32).toInt := by rw [ex_64]; exact add_toInt (by omega) (by omega)
              omega
            exact ih_2 x_64 sv_55 sv_56 _ _ _ (by omega) hL_68 ha_69 (hP.sub [2, 3, 0, 1, 4, 5] rfl) (hD.sub [2, 3, 0, 1, 4, 5] rfl rfl) hS (lv_sub hl [0, 2, 3] rfl)
          · skip
            have lz_70 : (r_57 : Int64).toInt = (1 : Int64).toInt := by have hc := c_62; rw [ex_61] at hc; exact congrArg Int64.toInt ((lg_cmp_eq _ _).mp hc)
            refine lv_aload_n hx hb dX12_summedBy_58 rfl (lv_at hl 2 rfl) ?_
            refine lv_iload_n hx hb dX12_summedBy_59 rfl (lv_at hl 3 rfl) ?_
            refine lv_aload_n hx hb dX12_summedBy_60 rfl (lv_at hl 2 rfl) ?_
            refine gf_X12_20 hx hb hts hown hK hP 2 rfl rfl dX12_summedBy_61 ?_
            refine lv_iload_n hx hb dX12_summedBy_64 rfl (lv_at hl 0 rfl) ?_
            have hi_71 : vp_in x_15 288 := by
              have z_1 := Int32.lt_iff_toInt_lt.mp (Int32.not_le.mp c_9)
              have z_2 := Int32.le_iff_toInt_le.mp (Int32.not_lt.mp c_19)
              have z_3 := congrArg Int32.toInt c_62
              have y_0 : (0 : Int32).toInt = 0 := by decide
              have y_4 : (4 : Int32).toInt = 4 := by decide
              have y_48 : (48 : Int32).toInt = 48 := by decide
              have t_x_13 : x_13.toInt = (48 : Int32).toInt * (x1 : Int32).toInt := by rw [ex_13]; exact mul_toInt (by first | omega | (rw [y_48]; omega)) (by first | omega | (rw [y_48]; omega))
              rw [y_48] at t_x_13
              have t_x_14 : x_14.toInt = (4 : Int32).toInt * (yy_300 : Int32).toInt := by rw [ex_14]; exact mul_toInt (by first | omega | (rw [y_4]; omega)) (by first | omega | (rw [y_4]; omega))
              rw [y_4] at t_x_14
              have t_x_15 : x_15.toInt = (x_13 : Int32).toInt + (x_14 : Int32).toInt := by rw [ex_15]; exact add_toInt (by omega) (by omega)
              refine vp_in_iff.mpr ⟨?_, ?_⟩ <;> omega
            refine va_iald hx hb hK hP 0 0 rfl rfl hi_71 dX12_summedBy_65 ?_
            refine lv_topi (fun x_72 ex_72 => ?_)
            refine lv_aload_n hx hb dX12_summedBy_66 rfl (lv_at hl 2 rfl) ?_
            refine gf_X12_20 hx hb hts hown hK hP 2 rfl rfl dX12_summedBy_67 ?_
            refine lv_iload_n hx hb dX12_summedBy_70 rfl (lv_at hl 0 rfl) ?_
            refine lv_iconst (v := 1) hx hb dX12_summedBy_71 (by decide) ?_
            refine lv_iadd hx hb dX12_summedBy_72 ?_
            refine lv_topi (fun x_73 ex_73 => ?_)
            have hi_74 : vp_in x_73 288 := by
              have z_1 := Int32.lt_iff_toInt_lt.mp (Int32.not_le.mp c_9)
              have z_2 := Int32.le_iff_toInt_le.mp (Int32.not_lt.mp c_19)
              have z_3 := congrArg Int32.toInt c_62
              have y_0 : (0 : Int32).toInt = 0 := by decide
              have y_1 : (1 : Int32).toInt = 1 := by decide
              have y_4 : (4 : Int32).toInt = 4 := by decide
              have y_48 : (48 : Int32).toInt = 48 := by decide
              have t_x_13 : x_13.toInt = (48 : Int32).toInt * (x1 : Int32).toInt := by rw [ex_13]; exact mul_toInt (by first | omega | (rw [y_48]; omega)) (by first | omega | (rw [y_48]; omega))
              rw [y_48] at t_x_13
              have t_x_14 : x_14.toInt = (4 : Int32).toInt * (yy_300 : Int32).toInt := by rw [ex_14]; exact mul_toInt (by first | omega | (rw [y_4]; omega)) (by first | omega | (rw [y_4]; omega))
              rw [y_4] at t_x_14
              have t_x_15 : x_15.toInt = (x_13 : Int32).toInt + (x_14 : Int32).toInt := by rw [ex_15]; exact add_toInt (by omega) (by omega)
              have t_x_73 : x_73.toInt = (x_15 : Int32).toInt + (1 : Int32).toInt := by rw [ex_73]; exact add_toInt (by omega) (by omega)
              refine vp_in_iff.mpr ⟨?_, ?_⟩ <;> omega
            refine va_iald hx hb hK hP 0 0 rfl rfl hi_74 dX12_summedBy_73 ?_
            refine lv_topi (fun x_75 ex_75 => ?_)
            have hc_76 : 0 ≤ (yy_300 : Int32).toInt ∧ (yy_300 : Int32).toInt < (x_8 : Int32).toInt := by
              have z_1 := Int32.lt_iff_toInt_lt.mp (Int32.not_le.mp c_9)
              have z_2 := Int32.le_iff_toInt_le.mp (Int32.not_lt.mp c_19)
              have z_3 := congrArg Int32.toInt c_62
              have y_0 : (0 : Int32).toInt = 0 := by decide
              omega
            have hi_77 : (x_15 : Int32).toInt = 48 * x1.toInt + 4 * (yy_300 : Int32).toInt := by
              have z_1 := Int32.lt_iff_toInt_lt.mp (Int32.not_le.mp c_9)
              have z_2 := Int32.le_iff_toInt_le.mp (Int32.not_lt.mp c_19)
              have z_3 := congrArg Int32.toInt c_62
              have y_0 : (0 : Int32).toInt = 0 := by decide
              have y_4 : (4 : Int32).toInt = 4 := by decide
              have y_48 : (48 : Int32).toInt = 48 := by decide
              have t_x_13 : x_13.toInt = (48 : Int32).toInt * (x1 : Int32).toInt := by rw [ex_13]; exact mul_toInt (by first | omega | (rw [y_48]; omega)) (by first | omega | (rw [y_48]; omega))
              rw [y_48] at t_x_13
              have t_x_14 : x_14.toInt = (4 : Int32).toInt * (yy_300 : Int32).toInt := by rw [ex_14]; exact mul_toInt (by first | omega | (rw [y_4]; omega)) (by first | omega | (rw [y_4]; omega))
              rw [y_4] at t_x_14
              have t_x_15 : x_15.toInt = (x_13 : Int32).toInt + (x_14 : Int32).toInt := by rw [ex_15]; exact add_toInt (by omega) (by omega)
              omega
            have hi_78 : (x_73 : Int32).toInt = 48 * x1.toInt + 4 * (yy_300 : Int32).toInt + 1 := by
              have z_1 := Int32.lt_iff_toInt_lt.mp (Int32.not_le.mp c_9)
              have z_2 := Int32.le_iff_toInt_le.mp (Int32.not_lt.mp c_19)
              have z_3 := congrArg Int32.toInt c_62
              have y_0 : (0 : Int32).toInt = 0 := by decide
              have y_1 : (1 : Int32).toInt = 1 := by decide
              have y_4 : (4 : Int32).toInt = 4 := by decide
              have y_48 : (48 : Int32).toInt = 48 := by decide
              have t_x_13 : x_13.toInt = (48 : Int32).toInt * (x1 : Int32).toInt := by rw [ex_13]; exact mul_toInt (by first | omega | (rw [y_48]; omega)) (by first | omega | (rw [y_48]; omega))
              rw [y_48] at t_x_13
              have t_x_14 : x_14.toInt = (4 : Int32).toInt * (yy_300 : Int32).toInt := by rw [ex_14]; exact mul_toInt (by first | omega | (rw [y_4]; omega)) (by first | omega | (rw [y_4]; omega))
              rw [y_4] at t_x_14
              have t_x_15 : x_15.toInt = (x_13 : Int32).toInt + (x_14 : Int32).toInt := by rw [ex_15]; exact add_toInt (by omega) (by omega)
              have t_x_73 : x_73.toInt = (x_15 : Int32).toInt + (1 : Int32).toInt := by rw [ex_73]; exact add_toInt (by omega) (by omega)
              omega
            have ha_79 : 0 ≤ x1.toInt ∧ x1.toInt < 6 := by
              have z_1 := Int32.lt_iff_toInt_lt.mp (Int32.not_le.mp c_9)
              have z_2 := Int32.le_iff_toInt_le.mp (Int32.not_lt.mp c_19)
              have z_3 := congrArg Int32.toInt c_62
              have y_0 : (0 : Int32).toInt = 0 := by decide
              omega
            refine cV (a := (Ma 0)) (As := [.int x1, .int x_72, .int x_75]) (rest := []) (wr := [((Ma 4), .inl (tc 0, 288, .inl (Mf 4))), ((Ma 5), .inl (tc 0, 6, .inl (Mf 5)))]) ⟨hx, hb, hml, hown, hts⟩ hK hX hA (cu_dX12_reckons l D tc sk (Ma 0) (Ma 1) (Ma 2) (Ma 3) (Ma 4) (Ma 5) (Ma 6) (Ma 7) (Ma 8) (Ma 9) (Ma 10) (Ma 11) (Ma 12) (Ma 13) (Ma 14) (Ma 15) (Ma 16) (Ma 17) (Ma 18) (Ma 19) (Ma 20) (Mv 0) (Mv 1) (Mv 2) (Mv 3) (Mv 4) (Mv 5) (Mv 6) (Mv 7) (Mv 8) (Mv 9) sv_55 (Mv 11) (Mv 12) (Mv 13) (Mv 14) (Mf 2) (Mj 0) sv_56 (Mg 9) x1 x_72 x_75 (RulD.w h_rul h_t ex_8 hc_76 hi_77 hi_78 ex_72 ex_75) ha_79) k_1447 k_1444 k_1446 k_73 k_106 pl_X12_reckons ⟨Nat.le_of_ble_eq_true rfl, Nat.le_of_ble_eq_true rfl⟩ rfl rfl (va_recv hK hP (ci := 12) (q0 := 2) rfl rfl) hP hD hS [2, 3, 4, 5] [0, 1] rfl rfl rfl rfl rfl (by decide) rfl hl.1 rfl (Nat.le_of_ble_eq_true rfl) dX12_summedBy_74 ⟨Nat.le_of_ble_eq_true rfl, Nat.le_of_ble_eq_true rfl⟩ (fun v_80 u_81 H locs hv_82 hP₀ hD₀ hS₀ => ?_)
            obtain ⟨sv_83, sv_84⟩ := u_81
            obtain ⟨r_85, rfl, he_86⟩ := hv_82
            have he_86 : (True) ∧ (r_85, sv_83, sv_84) = (dX12_reckons (Mf 2) sv_56 (Mg 9) x1 x_72 x_75) := he_86
            refine W.eq (g2 := F0 m 77 ls [.long r_85]) rfl ?_
            replace hP : va_P D classes [((Ma 4), .inl (tc 0, 288, .inl (Mf 4))), ((Ma 5), .inl (tc 0, 6, .inl (Mf 5))), ((Ma 0), .inr (12, [.ref (Ma 1), .int (Mv 0), .int (Mv 1), .ref (Ma 2), .ref (Ma 3), .ref (Ma 4), .ref (Ma 5), .ref (Ma 6), .int (Mv 2), .int (Mv 3), .int (Mv 4), .int (Mv 5), .int (Mv 6), .int (Mv 7), .int (Mv 8), .ref (Ma 7), .int (Mv 9), .ref (Ma 8), .int sv_83, .ref (Ma 9), .ref (Ma 10), .int (Mv 11), .int (Mv 12), .int (Mv 13), .ref (Ma 11), .int (Mv 14), .ref (Ma 12), .ref (Ma 13), .ref (Ma 14), .ref (Ma 15), .ref (Ma 16), .long (Mj 0), .ref (Ma 17), .ref (Ma 18), .ref (Ma 19), .ref (Ma 20)])), ((Ma 2), .inl (tc 0, 2400, .inl (Mf 2))), ((Ma 8), .inl (tc 1, 64, .inr (.inl sv_84))), ((Ma 9), .inl (tc 1, 13, .inr (.inl (Mg 9))))] H := hP₀
            replace hD : va_D A [((Ma 4), .inl (tc 0, 288, .inl (Mf 4))), ((Ma 5), .inl (tc 0, 6, .inl (Mf 5))), ((Ma 0), .inr (12, [.ref (Ma 1), .int (Mv 0), .int (Mv 1), .ref (Ma 2), .ref (Ma 3), .ref (Ma 4), .ref (Ma 5), .ref (Ma 6), .int (Mv 2), .int (Mv 3), .int (Mv 4), .int (Mv 5), .int (Mv 6), .int (Mv 7), .int (Mv 8), .ref (Ma 7), .int (Mv 9), .ref (Ma 8), .int sv_83, .ref (Ma 9), .ref (Ma 10), .int (Mv 11), .int (Mv 12), .int (Mv 13), .ref (Ma 11), .int (Mv 14), .ref (Ma 12), .ref (Ma 13), .ref (Ma 14), .ref (Ma 15), .ref (Ma 16), .long (Mj 0), .ref (Ma 17), .ref (Ma 18), .ref (Ma 19), .ref (Ma 20)])), ((Ma 2), .inl (tc 0, 2400, .inl (Mf 2))), ((Ma 8), .inl (tc 1, 64, .inr (.inl sv_84))), ((Ma 9), .inl (tc 1, 13, .inr (.inl (Mg 9))))] := hD₀
            replace hS := hS₀
            clear hP₀ hD₀ hS₀
            obtain ⟨he_86, hq_88⟩ := he_86
            have er_85 : r_85 = (dX12_reckons (Mf 2) sv_56 (Mg 9) x1 x_72 x_75).1 := congrArg (fun z => z.1) hq_88
            have esv_83 : sv_83 = (dX12_reckons (Mf 2) sv_56 (Mg 9) x1 x_72 x_75).2.1 := congrArg (fun z => z.2.1) hq_88
            have esv_84 : sv_84 = (dX12_reckons (Mf 2) sv_56 (Mg 9) x1 x_72 x_75).2.2 := congrArg (fun z => z.2.2) hq_88
            have hb_90 : dX12_summedBy_l2 (Mf 2) (Mf 4) (Mf 5) (Mg 9) x1 ((12 - (yy_300 : Int32).toInt).toNat + 1) yy_300 yy_301 yy_302 = ((1 : Int32), r_85, yy_300, sv_83, sv_84) := by
              clear hP hD hS hl ih_2
              replace ex_8 := ex_8.symm; subst ex_8
              replace ex_13 := ex_13.symm; subst ex_13
              replace ex_14 := ex_14.symm; subst ex_14
              replace ex_15 := ex_15.symm; subst ex_15
              replace ex_16 := ex_16.symm; subst ex_16
              replace ex_18 := ex_18.symm; subst ex_18
              replace ex_41 := ex_41.symm; subst ex_41
              replace ex_43 := ex_43.symm; subst ex_43
              replace ex_44 := ex_44.symm; subst ex_44
              replace ex_46 := ex_46.symm; subst ex_46
              replace er_57 := er_57.symm; subst er_57
              replace esv_55 := esv_55.symm; subst esv_55
              replace esv_56 := esv_56.symm; subst esv_56
              replace ex_61 := ex_61.symm; subst ex_61
              replace ex_72 := ex_72.symm; subst ex_72
              replace ex_73 := ex_73.symm; subst ex_73
              replace ex_75 := ex_75.symm; subst ex_75
              replace er_85 := er_85.symm; subst er_85
              replace esv_83 := esv_83.symm; subst esv_83
              replace esv_84 := esv_84.symm; subst esv_84
              rw [dX12_summedBy_l2_s]
              rw [if_neg c_9, if_neg c_19, if_pos c_62]
              try rfl
            have hX_89 : (dX12_summedBy_l2 (Mf 2) (Mf 4) (Mf 5) (Mg 9) x1 ((12 - (0 : Int32).toInt).toNat + 1) (0 : Int32) (Mv 10) (Mg 8)) = ((1 : Int32), r_85, yy_300, sv_83, sv_84) := hL_5.trans hb_90
            have hX_89_0 : (dX12_summedBy_l2 (Mf 2) (Mf 4) (Mf 5) (Mg 9) x1 ((12 - (0 : Int32).toInt).toNat + 1) (0 : Int32) (Mv 10) (Mg 8)).1 = (1 : Int32) := congrArg (fun z => z.1) hX_89
            have hX_89_1 : (dX12_summedBy_l2 (Mf 2) (Mf 4) (Mf 5) (Mg 9) x1 ((12 - (0 : Int32).toInt).toNat + 1) (0 : Int32) (Mv 10) (Mg 8)).2.1 = r_85 := congrArg (fun z => z.2.1) hX_89
            have hX_89_2 : (dX12_summedBy_l2 (Mf 2) (Mf 4) (Mf 5) (Mg 9) x1 ((12 - (0 : Int32).toInt).toNat + 1) (0 : Int32) (Mv 10) (Mg 8)).2.2.1 = yy_300 := congrArg (fun z => z.2.2.1) hX_89
            have hX_89_3 : (dX12_summedBy_l2 (Mf 2) (Mf 4) (Mf 5) (Mg 9) x1 ((12 - (0 : Int32).toInt).toNat + 1) (0 : Int32) (Mv 10) (Mg 8)).2.2.2.1 = sv_83 := congrArg (fun z => z.2.2.2.1) hX_89
            have hX_89_4 : (dX12_summedBy_l2 (Mf 2) (Mf 4) (Mf 5) (Mg 9) x1 ((12 - (0 : Int32).toInt).toNat + 1) (0 : Int32) (Mv 10) (Mg 8)).2.2.2.2 = sv_84 := congrArg (fun z => z.2.2.2.2) hX_89
            have hF_91 : (r_85, sv_83, sv_84) = (dX12_summedBy (Mf 2) (Mf 4) (Mf 5) (Mg 8) (Mg 9) (Mv 10) x1) := by
              clear hP hD hS hl ih_2
              replace ex_8 := ex_8.symm; subst ex_8
              replace ex_13 := ex_13.symm; subst ex_13
              replace ex_14 := ex_14.symm; subst ex_14
              replace ex_15 := ex_15.symm; subst ex_15
              replace ex_16 := ex_16.symm; subst ex_16
              replace ex_18 := ex_18.symm; subst ex_18
              replace ex_41 := ex_41.symm; subst ex_41
              replace ex_43 := ex_43.symm; subst ex_43
              replace ex_44 := ex_44.symm; subst ex_44
              replace ex_46 := ex_46.symm; subst ex_46
              replace er_57 := er_57.symm; subst er_57
              replace esv_55 := esv_55.symm; subst esv_55
              replace esv_56 := esv_56.symm; subst esv_56
              replace ex_61 := ex_61.symm; subst ex_61
              replace ex_72 := ex_72.symm; subst ex_72
              replace ex_73 := ex_73.symm; subst ex_73
              replace ex_75 := ex_75.symm; subst ex_75
              replace er_85 := er_85.symm; subst er_85
              replace esv_83 := esv_83.symm; subst esv_83
              replace esv_84 := esv_84.symm; subst esv_84
              unfold dX12_summedBy
              try rw [hX_89_0]
              try rw [hX_89_1]
              try rw [hX_89_2]
              try rw [hX_89_3]
              try rw [hX_89_4]
              rw [if_pos (show (1 : Int32) = (1 : Int32) from rfl)]
              try rfl
            exact retL (v := r_85) hx hb hr hlk hP hD hS (sv_83, sv_84) ⟨_, rfl, ⟨trivial, hF_91⟩⟩ [2, 3, 0, 1, 4, 5] rfl rfl dX12_summedBy_77 (Nat.le_of_ble_eq_true rfl) (Nat.le_of_ble_eq_true rfl) rfl
  have ha_92 : 0 ≤ (0 : Int32).toInt := by
    have y_0 : (0 : Int32).toInt = 0 := by decide
    omega
  exact loop_3 _ 0 (Mv 10) (Mg 8) _ _ _ (Nat.lt_succ_self _) rfl ha_92 hP hD hS hl
set_option maxRecDepth 100000 in
theorem cu_dX12_summedBy (l : Launch) (D : va_G) (tc : Nat → ClassId) (sk : (Nat → Nat) × (Nat → Nat)) (Ma_0 : Nat) (Ma_1 : Nat) (Ma_2 : Nat) (Ma_3 : Nat) (Ma_4 : Nat) (Ma_5 : Nat) (Ma_6 : Nat) (Ma_7 : Nat) (Ma_8 : Nat) (Ma_9 : Nat) (Ma_10 : Nat) (Ma_11 : Nat) (Ma_12 : Nat) (Ma_13 : Nat) (Ma_14 : Nat) (Ma_15 : Nat) (Ma_16 : Nat) (Ma_17 : Nat) (Ma_18 : Nat) (Ma_19 : Nat) (Ma_20 : Nat) (Mv_0 : Int32) (Mv_1 : Int32) (Mv_2 : Int32) (Mv_3 : Int32) (Mv_4 : Int32) (Mv_5 : Int32) (Mv_6 : Int32) (Mv_7 : Int32) (Mv_8 : Int32) (Mv_9 : Int32) (Mv_10 : Int32) (Mv_11 : Int32) (Mv_12 : Int32) (Mv_13 : Int32) (Mv_14 : Int32) (Mf_2 : Nat → Int32) (Mf_4 : Nat → Int32) (Mf_5 : Nat → Int32) (Mj_0 : Int64) (Mg_8 : Nat → Int64) (Mg_9 : Nat → Int64) (x1 : Int32) (h_rul : RulD Mf_2 Mf_4 Mf_5 Mv_1) (h_t : 0 ≤ x1.toInt ∧ x1.toInt < Mv_1.toInt) (h_r6 : Mv_1.toInt ≤ 6) : Ct l yX12_summedBy cX12_summedBy 4 (some .long) { frames := 2, cells := 0, slots := 0, locals := 54 } D tc sk [.ref Ma_0, .int x1] [(Ma_0, .inr (12, [.ref Ma_1, .int Mv_0, .int Mv_1, .ref Ma_2, .ref Ma_3, .ref Ma_4, .ref Ma_5, .ref Ma_6, .int Mv_2, .int Mv_3, .int Mv_4, .int Mv_5, .int Mv_6, .int Mv_7, .int Mv_8, .ref Ma_7, .int Mv_9, .ref Ma_8, .int Mv_10, .ref Ma_9, .ref Ma_10, .int Mv_11, .int Mv_12, .int Mv_13, .ref Ma_11, .int Mv_14, .ref Ma_12, .ref Ma_13, .ref Ma_14, .ref Ma_15, .ref Ma_16, .long Mj_0, .ref Ma_17, .ref Ma_18, .ref Ma_19, .ref Ma_20])), (Ma_2, .inl (tc 0, 2400, .inl Mf_2)), (Ma_4, .inl (tc 0, 288, .inl Mf_4)), (Ma_5, .inl (tc 0, 6, .inl Mf_5)), (Ma_8, .inl (tc 1, 64, .inr (.inl Mg_8))), (Ma_9, .inl (tc 1, 13, .inr (.inl Mg_9)))] (fun (v : Option Value) (u : (Int32) × (Nat → Int64)) => match u with | (oo0x1, oo0x2) => ∃ r : Int64, v = some (.long r) ∧ ((True) ∧ (r, oo0x1, oo0x2) = (dX12_summedBy Mf_2 Mf_4 Mf_5 Mg_8 Mg_9 Mv_10 x1))) (fun (u : (Int32) × (Nat → Int64)) => match u with | (oo0x1, oo0x2) => [(Ma_0, .inr (12, [.ref Ma_1, .int Mv_0, .int Mv_1, .ref Ma_2, .ref Ma_3, .ref Ma_4, .ref Ma_5, .ref Ma_6, .int Mv_2, .int Mv_3, .int Mv_4, .int Mv_5, .int Mv_6, .int Mv_7, .int Mv_8, .ref Ma_7, .int Mv_9, .ref Ma_8, .int oo0x1, .ref Ma_9, .ref Ma_10, .int Mv_11, .int Mv_12, .int Mv_13, .ref Ma_11, .int Mv_14, .ref Ma_12, .ref Ma_13, .ref Ma_14, .ref Ma_15, .ref Ma_16, .long Mj_0, .ref Ma_17, .ref Ma_18, .ref Ma_19, .ref Ma_20])), (Ma_2, .inl (tc 0, 2400, .inl Mf_2)), (Ma_4, .inl (tc 0, 288, .inl Mf_4)), (Ma_5, .inl (tc 0, 6, .inl Mf_5)), (Ma_8, .inl (tc 1, 64, .inr (.inl oo0x2))), (Ma_9, .inl (tc 1, 13, .inr (.inl Mg_9)))]) 0 0 :=
  ct_dX12_summedBy l D tc sk (fun k => ([Ma_0, Ma_1, Ma_2, Ma_3, Ma_4, Ma_5, Ma_6, Ma_7, Ma_8, Ma_9, Ma_10, Ma_11, Ma_12, Ma_13, Ma_14, Ma_15, Ma_16, Ma_17, Ma_18, Ma_19, Ma_20] : List (Nat)).getD k 0) (fun k => ([Mv_0, Mv_1, Mv_2, Mv_3, Mv_4, Mv_5, Mv_6, Mv_7, Mv_8, Mv_9, Mv_10, Mv_11, Mv_12, Mv_13, Mv_14] : List (Int32)).getD k 0) (fun k => ([(fun _ => 0), (fun _ => 0), Mf_2, (fun _ => 0), Mf_4, Mf_5] : List (Nat → Int32)).getD k (fun _ => 0)) (fun k => ([Mj_0] : List (Int64)).getD k 0) (fun k => ([(fun _ => 0), (fun _ => 0), (fun _ => 0), (fun _ => 0), (fun _ => 0), (fun _ => 0), (fun _ => 0), (fun _ => 0), Mg_8, Mg_9] : List (Nat → Int64)).getD k (fun _ => 0)) x1 h_rul h_t h_r6
