set_option maxRecDepth 100000 in
theorem cu_X1_whomToSoothe_r (l : Launch) (D : va_G) (tc : Nat → ClassId) (sk : (Nat → Nat) × (Nat → Nat)) (Ca_0 : Nat) (Ca_2 : Nat) (Ca_3 : Nat) (Cf_2 : Nat → Int32) (Cf_3 : Nat → Int32) (Ta_0 : Nat) (Ta_1 : Nat) (Ta_2 : Nat) (Ta_3 : Nat) (Ta_4 : Nat) (Ta_5 : Nat) (Ta_6 : Nat) (Ta_7 : Nat) (Ta_8 : Nat) (Tv_0 : Int32) (Tv_1 : Int32) (Tv_2 : Int32) (Tv_3 : Int32) (Tv_4 : Int32) (Tv_5 : Int32) (Tf_1 : Nat → Int32) (Tf_2 : Nat → Int32) (Tf_3 : Nat → Int32) (Tf_4 : Nat → Int32) (Tf_5 : Nat → Int32) (Tf_6 : Nat → Int32) (Tf_7 : Nat → Int32) (Tf_8 : Nat → Int32) (Aa_0 : Nat) (Aa_1 : Nat) (Aa_2 : Nat) (Aa_3 : Nat) (Aa_4 : Nat) (Aa_5 : Nat) (Aa_6 : Nat) (Aa_7 : Nat) (Aa_8 : Nat) (Av_0 : Int32) (Av_1 : Int32) (Av_2 : Int32) (Av_3 : Int32) (Av_4 : Int32) (Av_5 : Int32) (Af_1 : Nat → Int32) (Af_2 : Nat → Int32) (Af_3 : Nat → Int32) (Af_4 : Nat → Int32) (Af_5 : Nat → Int32) (Af_6 : Nat → Int32) (Af_7 : Nat → Int32) (Af_8 : Nat → Int32) (Ra_0 : Nat) (Ra_1 : Nat) (Ra_2 : Nat) (Rf_1 : Nat → Int32) (Rg_2 : Nat → Int64) (Rn : Nat) (x1 : Int32) (x2 : Int32) (hRn : Rn ≤ 400) : Ct l yX1_whomToSoothe cX1_whomToSoothe 9 (some .int) { frames := 6, cells := 0, slots := 0, locals := 140 } D tc sk [.ref Ca_0, .ref Aa_0, .ref Ra_0, .int x1, .int x2] [(Ca_0, .inr (1, [.ref Ta_0, .ref Ca_2, .ref Ca_3])), (Ca_2, .inl (tc 0, 25, .inl Cf_2)), (Ca_3, .inl (tc 0, 25, .inl Cf_3)), (Ta_0, .inr (9, [.int Tv_0, .int Tv_1, .int Tv_2, .int Tv_3, .int Tv_4, .int Tv_5, .ref Ta_1, .ref Ta_2, .ref Ta_3, .ref Ta_4, .ref Ta_5, .ref Ta_6, .ref Ta_7, .ref Ta_8])), (Ta_1, .inl (tc 0, 10, .inl Tf_1)), (Ta_2, .inl (tc 0, 10, .inl Tf_2)), (Ta_3, .inl (tc 0, 6, .inl Tf_3)), (Ta_4, .inl (tc 0, 6, .inl Tf_4)), (Ta_5, .inl (tc 0, 6, .inl Tf_5)), (Ta_6, .inl (tc 0, 6, .inl Tf_6)), (Ta_7, .inl (tc 0, 6, .inl Tf_7)), (Ta_8, .inl (tc 0, 6, .inl Tf_8)), (Aa_0, .inr (9, [.int Av_0, .int Av_1, .int Av_2, .int Av_3, .int Av_4, .int Av_5, .ref Aa_1, .ref Aa_2, .ref Aa_3, .ref Aa_4, .ref Aa_5, .ref Aa_6, .ref Aa_7, .ref Aa_8])), (Aa_1, .inl (tc 0, 10, .inl Af_1)), (Aa_2, .inl (tc 0, 10, .inl Af_2)), (Aa_3, .inl (tc 0, 6, .inl Af_3)), (Aa_4, .inl (tc 0, 6, .inl Af_4)), (Aa_5, .inl (tc 0, 6, .inl Af_5)), (Aa_6, .inl (tc 0, 6, .inl Af_6)), (Aa_7, .inl (tc 0, 6, .inl Af_7)), (Aa_8, .inl (tc 0, 6, .inl Af_8)), (Ra_0, .inr (6, [.ref Ra_1, .ref Ra_2])), (Ra_1, .inl (tc 0, Rn, .inl Rf_1)), (Ra_2, .inl (tc 1, 64, .inr (.inl Rg_2)))] (fun (v : Option Value) (u : (Int32) × (Int32) × (Int32) × (Nat → Int32) × (Nat → Int32) × (Nat → Int32) × (Nat → Int32) × (Nat → Int32) × (Nat → Int32) × (Nat → Int32) × (Nat → Int32) × (Nat → Int64)) => match u with | (o1, o2, o3, o4, o5, o6, o7, o8, o9, o10, o11, o12) => ∃ r : Int32, v = some (.int r) ∧ (True)) (fun (u : (Int32) × (Int32) × (Int32) × (Nat → Int32) × (Nat → Int32) × (Nat → Int32) × (Nat → Int32) × (Nat → Int32) × (Nat → Int32) × (Nat → Int32) × (Nat → Int32) × (Nat → Int64)) => match u with | (o1, o2, o3, o4, o5, o6, o7, o8, o9, o10, o11, o12) => [(Ca_0, .inr (1, [.ref Ta_0, .ref Ca_2, .ref Ca_3])), (Ca_2, .inl (tc 0, 25, .inl Cf_2)), (Ca_3, .inl (tc 0, 25, .inl Cf_3)), (Ta_0, .inr (9, [.int o1, .int Av_1, .int Av_2, .int Av_3, .int o2, .int o3, .ref Ta_1, .ref Ta_2, .ref Ta_3, .ref Ta_4, .ref Ta_5, .ref Ta_6, .ref Ta_7, .ref Ta_8])), (Ta_1, .inl (tc 0, 10, .inl o4)), (Ta_2, .inl (tc 0, 10, .inl o5)), (Ta_3, .inl (tc 0, 6, .inl o6)), (Ta_4, .inl (tc 0, 6, .inl o7)), (Ta_5, .inl (tc 0, 6, .inl o8)), (Ta_6, .inl (tc 0, 6, .inl o9)), (Ta_7, .inl (tc 0, 6, .inl o10)), (Ta_8, .inl (tc 0, 6, .inl o11)), (Aa_0, .inr (9, [.int Av_0, .int Av_1, .int Av_2, .int Av_3, .int Av_4, .int Av_5, .ref Aa_1, .ref Aa_2, .ref Aa_3, .ref Aa_4, .ref Aa_5, .ref Aa_6, .ref Aa_7, .ref Aa_8])), (Aa_1, .inl (tc 0, 10, .inl Af_1)), (Aa_2, .inl (tc 0, 10, .inl Af_2)), (Aa_3, .inl (tc 0, 6, .inl Af_3)), (Aa_4, .inl (tc 0, 6, .inl Af_4)), (Aa_5, .inl (tc 0, 6, .inl Af_5)), (Aa_6, .inl (tc 0, 6, .inl Af_6)), (Aa_7, .inl (tc 0, 6, .inl Af_7)), (Aa_8, .inl (tc 0, 6, .inl Af_8)), (Ra_0, .inr (6, [.ref Ra_1, .ref Ra_2])), (Ra_1, .inl (tc 0, Rn, .inl Rf_1)), (Ra_2, .inl (tc 1, 64, .inr (.inl o12)))]) 0 0 :=
  ct_X1_whomToSoothe_r l D tc sk (fun k => ([Ca_0, 0, Ca_2, Ca_3] : List (Nat)).getD k 0) (fun k => ([(fun _ => 0), (fun _ => 0), Cf_2, Cf_3] : List (Nat → Int32)).getD k (fun _ => 0)) (fun k => ([Ta_0, Ta_1, Ta_2, Ta_3, Ta_4, Ta_5, Ta_6, Ta_7, Ta_8] : List (Nat)).getD k 0) (fun k => ([Tv_0, Tv_1, Tv_2, Tv_3, Tv_4, Tv_5] : List (Int32)).getD k 0) (fun k => ([(fun _ => 0), Tf_1, Tf_2, Tf_3, Tf_4, Tf_5, Tf_6, Tf_7, Tf_8] : List (Nat → Int32)).getD k (fun _ => 0)) (fun k => ([Aa_0, Aa_1, Aa_2, Aa_3, Aa_4, Aa_5, Aa_6, Aa_7, Aa_8] : List (Nat)).getD k 0) (fun k => ([Av_0, Av_1, Av_2, Av_3, Av_4, Av_5] : List (Int32)).getD k 0) (fun k => ([(fun _ => 0), Af_1, Af_2, Af_3, Af_4, Af_5, Af_6, Af_7, Af_8] : List (Nat → Int32)).getD k (fun _ => 0)) (fun k => ([Ra_0, Ra_1, Ra_2] : List (Nat)).getD k 0) (fun k => ([(fun _ => 0), Rf_1] : List (Nat → Int32)).getD k (fun _ => 0)) (fun k => ([(fun _ => 0), (fun _ => 0), Rg_2] : List (Nat → Int64)).getD k (fun _ => 0)) Rn x1 x2 hRn
set_option maxHeartbeats 4000000 in
set_option maxRecDepth 100000 in
theorem ct_X1_playAll_r (l : Launch) (D : va_G) (tc : Nat → ClassId) (sk : (Nat → Nat) × (Nat → Nat)) (Ca : Nat → Nat) (Cf : Nat → Nat → Int32) (Ta : Nat → Nat) (Tv : Nat → Int32) (Tf : Nat → Nat → Int32) (Aa : Nat → Nat) (Av : Nat → Int32) (Af : Nat → Nat → Int32) (Ra : Nat → Nat) (Rf : Nat → Nat → Int32) (Rg : Nat → Nat → Int64) (Rn : Nat) (x1 : Int32) (x2 : Int32) (x3 : Int32) (hRn : Rn ≤ 400) : Ct l yX1_playAll cX1_playAll 7 none { frames := 6, cells := 0, slots := 0, locals := 140 } D tc sk [.ref (Ca 0), .ref (Aa 0), .ref (Ra 0), .int x1, .int x2, .int x3] [((Ca 0), .inr (1, [.ref (Ta 0), .ref (Ca 2), .ref (Ca 3)])), ((Ca 2), .inl (tc 0, 25, .inl (Cf 2))), ((Ca 3), .inl (tc 0, 25, .inl (Cf 3))), ((Ta 0), .inr (9, [.int (Tv 0), .int (Tv 1), .int (Tv 2), .int (Tv 3), .int (Tv 4), .int (Tv 5), .ref (Ta 1), .ref (Ta 2), .ref (Ta 3), .ref (Ta 4), .ref (Ta 5), .ref (Ta 6), .ref (Ta 7), .ref (Ta 8)])), ((Ta 1), .inl (tc 0, 10, .inl (Tf 1))), ((Ta 2), .inl (tc 0, 10, .inl (Tf 2))), ((Ta 3), .inl (tc 0, 6, .inl (Tf 3))), ((Ta 4), .inl (tc 0, 6, .inl (Tf 4))), ((Ta 5), .inl (tc 0, 6, .inl (Tf 5))), ((Ta 6), .inl (tc 0, 6, .inl (Tf 6))), ((Ta 7), .inl (tc 0, 6, .inl (Tf 7))), ((Ta 8), .inl (tc 0, 6, .inl (Tf 8))), ((Aa 0), .inr (9, [.int (Av 0), .int (Av 1), .int (Av 2), .int (Av 3), .int (Av 4), .int (Av 5), .ref (Aa 1), .ref (Aa 2), .ref (Aa 3), .ref (Aa 4), .ref (Aa 5), .ref (Aa 6), .ref (Aa 7), .ref (Aa 8)])), ((Aa 1), .inl (tc 0, 10, .inl (Af 1))), ((Aa 2), .inl (tc 0, 10, .inl (Af 2))), ((Aa 3), .inl (tc 0, 6, .inl (Af 3))), ((Aa 4), .inl (tc 0, 6, .inl (Af 4))), ((Aa 5), .inl (tc 0, 6, .inl (Af 5))), ((Aa 6), .inl (tc 0, 6, .inl (Af 6))), ((Aa 7), .inl (tc 0, 6, .inl (Af 7))), ((Aa 8), .inl (tc 0, 6, .inl (Af 8))), ((Ra 0), .inr (6, [.ref (Ra 1), .ref (Ra 2)])), ((Ra 1), .inl (tc 0, Rn, .inl (Rf 1))), ((Ra 2), .inl (tc 1, 64, .inr (.inl (Rg 2))))] (fun (v : Option Value) (u : (Nat → Int32) × (Nat → Int32) × (Int32) × (Int32) × (Int32) × (Int32) × (Int32) × (Int32) × (Nat → Int32) × (Nat → Int32) × (Nat → Int32) × (Nat → Int32) × (Nat → Int32) × (Nat → Int32) × (Nat → Int32) × (Nat → Int32) × (Nat → Int64)) => match u with | (o1, o2, o3, o4, o5, o6, o7, o8, o9, o10, o11, o12, o13, o14, o15, o16, o17) => v = none) (fun (u : (Nat → Int32) × (Nat → Int32) × (Int32) × (Int32) × (Int32) × (Int32) × (Int32) × (Int32) × (Nat → Int32) × (Nat → Int32) × (Nat → Int32) × (Nat → Int32) × (Nat → Int32) × (Nat → Int32) × (Nat → Int32) × (Nat → Int32) × (Nat → Int64)) => match u with | (o1, o2, o3, o4, o5, o6, o7, o8, o9, o10, o11, o12, o13, o14, o15, o16, o17) => [((Ca 0), .inr (1, [.ref (Ta 0), .ref (Ca 2), .ref (Ca 3)])), ((Ca 2), .inl (tc 0, 25, .inl o1)), ((Ca 3), .inl (tc 0, 25, .inl o2)), ((Ta 0), .inr (9, [.int o3, .int o4, .int o5, .int o6, .int o7, .int o8, .ref (Ta 1), .ref (Ta 2), .ref (Ta 3), .ref (Ta 4), .ref (Ta 5), .ref (Ta 6), .ref (Ta 7), .ref (Ta 8)])), ((Ta 1), .inl (tc 0, 10, .inl o9)), ((Ta 2), .inl (tc 0, 10, .inl o10)), ((Ta 3), .inl (tc 0, 6, .inl o11)), ((Ta 4), .inl (tc 0, 6, .inl o12)), ((Ta 5), .inl (tc 0, 6, .inl o13)), ((Ta 6), .inl (tc 0, 6, .inl o14)), ((Ta 7), .inl (tc 0, 6, .inl o15)), ((Ta 8), .inl (tc 0, 6, .inl o16)), ((Aa 0), .inr (9, [.int (Av 0), .int (Av 1), .int (Av 2), .int (Av 3), .int (Av 4), .int (Av 5), .ref (Aa 1), .ref (Aa 2), .ref (Aa 3), .ref (Aa 4), .ref (Aa 5), .ref (Aa 6), .ref (Aa 7), .ref (Aa 8)])), ((Aa 1), .inl (tc 0, 10, .inl (Af 1))), ((Aa 2), .inl (tc 0, 10, .inl (Af 2))), ((Aa 3), .inl (tc 0, 6, .inl (Af 3))), ((Aa 4), .inl (tc 0, 6, .inl (Af 4))), ((Aa 5), .inl (tc 0, 6, .inl (Af 5))), ((Aa 6), .inl (tc 0, 6, .inl (Af 6))), ((Aa 7), .inl (tc 0, 6, .inl (Af 7))), ((Aa 8), .inl (tc 0, 6, .inl (Af 8))), ((Ra 0), .inr (6, [.ref (Ra 1), .ref (Ra 2)])), ((Ra 1), .inl (tc 0, Rn, .inl (Rf 1))), ((Ra 2), .inl (tc 1, 64, .inr (.inl o17)))]) 0 0 := by
  refine Ct.start (by decide) (Nat.le_of_ble_eq_true rfl) (fun p e s m below meth c A ls hx hb hr hlk hin hml hown hts hK hX hP hD hA hl hS => ?_)
  have hl : lv_has ls 7 [(0, .ref (Ca 0)), (1, .ref (Aa 0)), (2, .ref (Ra 0)), (3, .int x1), (4, .int x2), (5, .int x3)] := hl
  refine lv_aload_n hx hb dX1_playAll_0 rfl (lv_at hl 1 rfl) ?_
  refine lv_iload_n hx hb dX1_playAll_1 rfl (lv_at hl 3 rfl) ?_
  refine cV (a := (Aa 0)) (As := [.int x1]) (rest := []) (wr := [((Ca 0), .inr (1, [.ref (Ta 0), .ref (Ca 2), .ref (Ca 3)])), ((Ca 2), .inl (tc 0, 25, .inl (Cf 2))), ((Ca 3), .inl (tc 0, 25, .inl (Cf 3))), ((Ta 0), .inr (9, [.int (Tv 0), .int (Tv 1), .int (Tv 2), .int (Tv 3), .int (Tv 4), .int (Tv 5), .ref (Ta 1), .ref (Ta 2), .ref (Ta 3), .ref (Ta 4), .ref (Ta 5), .ref (Ta 6), .ref (Ta 7), .ref (Ta 8)])), ((Ta 1), .inl (tc 0, 10, .inl (Tf 1))), ((Ta 2), .inl (tc 0, 10, .inl (Tf 2))), ((Ta 3), .inl (tc 0, 6, .inl (Tf 3))), ((Ta 4), .inl (tc 0, 6, .inl (Tf 4))), ((Ta 5), .inl (tc 0, 6, .inl (Tf 5))), ((Ta 6), .inl (tc 0, 6, .inl (Tf 6))), ((Ta 7), .inl (tc 0, 6, .inl (Tf 7))), ((Ta 8), .inl (tc 0, 6, .inl (Tf 8))), ((Ra 0), .inr (6, [.ref (Ra 1), .ref (Ra 2)])), ((Ra 1), .inl (tc 0, Rn, .inl (Rf 1))), ((Ra 2), .inl (tc 1, 64, .inr (.inl (Rg 2))))]) ⟨hx, hb, hml, hown, hts⟩ hK hX hA (cu_X9_hasBuyer l D tc sk (Aa 0) (Aa 1) (Aa 2) (Aa 3) (Aa 4) (Aa 5) (Aa 6) (Aa 7) (Aa 8) (Av 0) (Av 1) (Av 2) (Av 3) (Av 4) (Av 5) (Af 1) (Af 2) (Af 3) (Af 4) (Af 5) (Af 6) (Af 7) (Af 8) x1) k_591 k_894 k_589 k_590 k_98 pl_X9_hasBuyer ⟨Nat.le_of_ble_eq_true rfl, Nat.le_of_ble_eq_true rfl⟩ rfl rfl (va_recv hK hP (ci := 9) (q0 := 12) rfl rfl) hP hD hS [12, 13, 14, 15, 16, 17, 18, 19, 20] [0, 1, 2, 3, 4, 5, 6, 7, 8, 9, 10, 11, 21, 22, 23] rfl rfl rfl rfl rfl (by decide) rfl hl.1 rfl (Nat.le_of_ble_eq_true rfl) dX1_playAll_2 ⟨Nat.le_of_ble_eq_true rfl, Nat.le_of_ble_eq_true rfl⟩ (fun v_1 u_2 H locs hv_3 hP hD hS => ?_)
  obtain ⟨r_4, rfl, he_5⟩ := hv_3
  have he_5 : ((r_4.toInt = 0 ∨ (r_4.toInt = 1 ∧ 0 ≤ x1.toInt ∧ x1.toInt < 6 ∧ x1.toInt < (Av 3).toInt))) := he_5
  refine W.eq (g2 := F0 m 5 ls [.int r_4]) rfl ?_
  have hP : va_P D classes [((Ca 0), .inr (1, [.ref (Ta 0), .ref (Ca 2), .ref (Ca 3)])), ((Ca 2), .inl (tc 0, 25, .inl (Cf 2))), ((Ca 3), .inl (tc 0, 25, .inl (Cf 3))), ((Ta 0), .inr (9, [.int (Tv 0), .int (Tv 1), .int (Tv 2), .int (Tv 3), .int (Tv 4), .int (Tv 5), .ref (Ta 1), .ref (Ta 2), .ref (Ta 3), .ref (Ta 4), .ref (Ta 5), .ref (Ta 6), .ref (Ta 7), .ref (Ta 8)])), ((Ta 1), .inl (tc 0, 10, .inl (Tf 1))), ((Ta 2), .inl (tc 0, 10, .inl (Tf 2))), ((Ta 3), .inl (tc 0, 6, .inl (Tf 3))), ((Ta 4), .inl (tc 0, 6, .inl (Tf 4))), ((Ta 5), .inl (tc 0, 6, .inl (Tf 5))), ((Ta 6), .inl (tc 0, 6, .inl (Tf 6))), ((Ta 7), .inl (tc 0, 6, .inl (Tf 7))), ((Ta 8), .inl (tc 0, 6, .inl (Tf 8))), ((Ra 0), .inr (6, [.ref (Ra 1), .ref (Ra 2)])), ((Ra 1), .inl (tc 0, Rn, .inl (Rf 1))), ((Ra 2), .inl (tc 1, 64, .inr (.inl (Rg 2)))), ((Aa 0), .inr (9, [.int (Av 0), .int (Av 1), .int (Av 2), .int (Av 3), .int (Av 4), .int (Av 5), .ref (Aa 1), .ref (Aa 2), .ref (Aa 3), .ref (Aa 4), .ref (Aa 5), .ref (Aa 6), .ref (Aa 7), .ref (Aa 8)])), ((Aa 1), .inl (tc 0, 10, .inl (Af 1))), ((Aa 2), .inl (tc 0, 10, .inl (Af 2))), ((Aa 3), .inl (tc 0, 6, .inl (Af 3))), ((Aa 4), .inl (tc 0, 6, .inl (Af 4))), ((Aa 5), .inl (tc 0, 6, .inl (Af 5))), ((Aa 6), .inl (tc 0, 6, .inl (Af 6))), ((Aa 7), .inl (tc 0, 6, .inl (Af 7))), ((Aa 8), .inl (tc 0, 6, .inl (Af 8)))] H := hP
  have hD : va_D A [((Ca 0), .inr (1, [.ref (Ta 0), .ref (Ca 2), .ref (Ca 3)])), ((Ca 2), .inl (tc 0, 25, .inl (Cf 2))), ((Ca 3), .inl (tc 0, 25, .inl (Cf 3))), ((Ta 0), .inr (9, [.int (Tv 0), .int (Tv 1), .int (Tv 2), .int (Tv 3), .int (Tv 4), .int (Tv 5), .ref (Ta 1), .ref (Ta 2), .ref (Ta 3), .ref (Ta 4), .ref (Ta 5), .ref (Ta 6), .ref (Ta 7), .ref (Ta 8)])), ((Ta 1), .inl (tc 0, 10, .inl (Tf 1))), ((Ta 2), .inl (tc 0, 10, .inl (Tf 2))), ((Ta 3), .inl (tc 0, 6, .inl (Tf 3))), ((Ta 4), .inl (tc 0, 6, .inl (Tf 4))), ((Ta 5), .inl (tc 0, 6, .inl (Tf 5))), ((Ta 6), .inl (tc 0, 6, .inl (Tf 6))), ((Ta 7), .inl (tc 0, 6, .inl (Tf 7))), ((Ta 8), .inl (tc 0, 6, .inl (Tf 8))), ((Ra 0), .inr (6, [.ref (Ra 1), .ref (Ra 2)])), ((Ra 1), .inl (tc 0, Rn, .inl (Rf 1))), ((Ra 2), .inl (tc 1, 64, .inr (.inl (Rg 2)))), ((Aa 0), .inr (9, [.int (Av 0), .int (Av 1), .int (Av 2), .int (Av 3), .int (Av 4), .int (Av 5), .ref (Aa 1), .ref (Aa 2), .ref (Aa 3), .ref (Aa 4), .ref (Aa 5), .ref (Aa 6), .ref (Aa 7), .ref (Aa 8)])), ((Aa 1), .inl (tc 0, 10, .inl (Af 1))), ((Aa 2), .inl (tc 0, 10, .inl (Af 2))), ((Aa 3), .inl (tc 0, 6, .inl (Af 3))), ((Aa 4), .inl (tc 0, 6, .inl (Af 4))), ((Aa 5), .inl (tc 0, 6, .inl (Af 5))), ((Aa 6), .inl (tc 0, 6, .inl (Af 6))), ((Aa 7), .inl (tc 0, 6, .inl (Af 7))), ((Aa 8), .inl (tc 0, 6, .inl (Af 8)))] := hD
  refine lv_if_eq (tgt := 17) hx hb dX1_playAll_5 (by decide) (fun c_6 => ?_) (fun c_6 => ?_)
  · skip
    exact retV hx hb hr hlk hP hD hS ((Cf 2), (Cf 3), (Tv 0), (Tv 1), (Tv 2), (Tv 3), (Tv 4), (Tv 5), (Tf 1), (Tf 2), (Tf 3), (Tf 4), (Tf 5), (Tf 6), (Tf 7), (Tf 8), (Rg 2)) rfl [0, 1, 2, 3, 4, 5, 6, 7, 8, 9, 10, 11, 15, 16, 17, 18, 19, 20, 21, 22, 23, 12, 13, 14] rfl rfl dX1_playAll_17 (Nat.le_of_ble_eq_true rfl) (Nat.le_of_ble_eq_true rfl) rfl
  · skip
    refine lv_aload_n hx hb dX1_playAll_8 rfl (lv_at hl 1 rfl) ?_
    refine lv_iload hx hb dX1_playAll_9 (lv_at hl 4 rfl) ?_
    refine cV (a := (Aa 0)) (As := [.int x2]) (rest := []) (wr := [((Ca 0), .inr (1, [.ref (Ta 0), .ref (Ca 2), .ref (Ca 3)])), ((Ca 2), .inl (tc 0, 25, .inl (Cf 2))), ((Ca 3), .inl (tc 0, 25, .inl (Cf 3))), ((Ta 0), .inr (9, [.int (Tv 0), .int (Tv 1), .int (Tv 2), .int (Tv 3), .int (Tv 4), .int (Tv 5), .ref (Ta 1), .ref (Ta 2), .ref (Ta 3), .ref (Ta 4), .ref (Ta 5), .ref (Ta 6), .ref (Ta 7), .ref (Ta 8)])), ((Ta 1), .inl (tc 0, 10, .inl (Tf 1))), ((Ta 2), .inl (tc 0, 10, .inl (Tf 2))), ((Ta 3), .inl (tc 0, 6, .inl (Tf 3))), ((Ta 4), .inl (tc 0, 6, .inl (Tf 4))), ((Ta 5), .inl (tc 0, 6, .inl (Tf 5))), ((Ta 6), .inl (tc 0, 6, .inl (Tf 6))), ((Ta 7), .inl (tc 0, 6, .inl (Tf 7))), ((Ta 8), .inl (tc 0, 6, .inl (Tf 8))), ((Ra 0), .inr (6, [.ref (Ra 1), .ref (Ra 2)])), ((Ra 1), .inl (tc 0, Rn, .inl (Rf 1))), ((Ra 2), .inl (tc 1, 64, .inr (.inl (Rg 2))))]) ⟨hx, hb, hml, hown, hts⟩ hK hX hA (cu_X9_hasBuyer l D tc sk (Aa 0) (Aa 1) (Aa 2) (Aa 3) (Aa 4) (Aa 5) (Aa 6) (Aa 7) (Aa 8) (Av 0) (Av 1) (Av 2) (Av 3) (Av 4) (Av 5) (Af 1) (Af 2) (Af 3) (Af 4) (Af 5) (Af 6) (Af 7) (Af 8) x2) k_591 k_894 k_589 k_590 k_98 pl_X9_hasBuyer ⟨Nat.le_of_ble_eq_true rfl, Nat.le_of_ble_eq_true rfl⟩ rfl rfl (va_recv hK hP (ci := 9) (q0 := 15) rfl rfl) hP hD hS [15, 16, 17, 18, 19, 20, 21, 22, 23] [0, 1, 2, 3, 4, 5, 6, 7, 8, 9, 10, 11, 12, 13, 14] rfl rfl rfl rfl rfl (by decide) rfl hl.1 rfl (Nat.le_of_ble_eq_true rfl) dX1_playAll_11 ⟨Nat.le_of_ble_eq_true rfl, Nat.le_of_ble_eq_true rfl⟩ (fun v_7 u_8 H locs hv_9 hP hD hS => ?_)
    obtain ⟨r_10, rfl, he_11⟩ := hv_9
    have he_11 : ((r_10.toInt = 0 ∨ (r_10.toInt = 1 ∧ 0 ≤ x2.toInt ∧ x2.toInt < 6 ∧ x2.toInt < (Av 3).toInt))) := he_11
    refine W.eq (g2 := F0 m 14 ls [.int r_10]) rfl ?_
    have hP : va_P D classes [((Ca 0), .inr (1, [.ref (Ta 0), .ref (Ca 2), .ref (Ca 3)])), ((Ca 2), .inl (tc 0, 25, .inl (Cf 2))), ((Ca 3), .inl (tc 0, 25, .inl (Cf 3))), ((Ta 0), .inr (9, [.int (Tv 0), .int (Tv 1), .int (Tv 2), .int (Tv 3), .int (Tv 4), .int (Tv 5), .ref (Ta 1), .ref (Ta 2), .ref (Ta 3), .ref (Ta 4), .ref (Ta 5), .ref (Ta 6), .ref (Ta 7), .ref (Ta 8)])), ((Ta 1), .inl (tc 0, 10, .inl (Tf 1))), ((Ta 2), .inl (tc 0, 10, .inl (Tf 2))), ((Ta 3), .inl (tc 0, 6, .inl (Tf 3))), ((Ta 4), .inl (tc 0, 6, .inl (Tf 4))), ((Ta 5), .inl (tc 0, 6, .inl (Tf 5))), ((Ta 6), .inl (tc 0, 6, .inl (Tf 6))), ((Ta 7), .inl (tc 0, 6, .inl (Tf 7))), ((Ta 8), .inl (tc 0, 6, .inl (Tf 8))), ((Ra 0), .inr (6, [.ref (Ra 1), .ref (Ra 2)])), ((Ra 1), .inl (tc 0, Rn, .inl (Rf 1))), ((Ra 2), .inl (tc 1, 64, .inr (.inl (Rg 2)))), ((Aa 0), .inr (9, [.int (Av 0), .int (Av 1), .int (Av 2), .int (Av 3), .int (Av 4), .int (Av 5), .ref (Aa 1), .ref (Aa 2), .ref (Aa 3), .ref (Aa 4), .ref (Aa 5), .ref (Aa 6), .ref (Aa 7), .ref (Aa 8)])), ((Aa 1), .inl (tc 0, 10, .inl (Af 1))), ((Aa 2), .inl (tc 0, 10, .inl (Af 2))), ((Aa 3), .inl (tc 0, 6, .inl (Af 3))), ((Aa 4), .inl (tc 0, 6, .inl (Af 4))), ((Aa 5), .inl (tc 0, 6, .inl (Af 5))), ((Aa 6), .inl (tc 0, 6, .inl (Af 6))), ((Aa 7), .inl (tc 0, 6, .inl (Af 7))), ((Aa 8), .inl (tc 0, 6, .inl (Af 8)))] H := hP
    have hD : va_D A [((Ca 0), .inr (1, [.ref (Ta 0), .ref (Ca 2), .ref (Ca 3)])), ((Ca 2), .inl (tc 0, 25, .inl (Cf 2))), ((Ca 3), .inl (tc 0, 25, .inl (Cf 3))), ((Ta 0), .inr (9, [.int (Tv 0), .int (Tv 1), .int (Tv 2), .int (Tv 3), .int (Tv 4), .int (Tv 5), .ref (Ta 1), .ref (Ta 2), .ref (Ta 3), .ref (Ta 4), .ref (Ta 5), .ref (Ta 6), .ref (Ta 7), .ref (Ta 8)])), ((Ta 1), .inl (tc 0, 10, .inl (Tf 1))), ((Ta 2), .inl (tc 0, 10, .inl (Tf 2))), ((Ta 3), .inl (tc 0, 6, .inl (Tf 3))), ((Ta 4), .inl (tc 0, 6, .inl (Tf 4))), ((Ta 5), .inl (tc 0, 6, .inl (Tf 5))), ((Ta 6), .inl (tc 0, 6, .inl (Tf 6))), ((Ta 7), .inl (tc 0, 6, .inl (Tf 7))), ((Ta 8), .inl (tc 0, 6, .inl (Tf 8))), ((Ra 0), .inr (6, [.ref (Ra 1), .ref (Ra 2)])), ((Ra 1), .inl (tc 0, Rn, .inl (Rf 1))), ((Ra 2), .inl (tc 1, 64, .inr (.inl (Rg 2)))), ((Aa 0), .inr (9, [.int (Av 0), .int (Av 1), .int (Av 2), .int (Av 3), .int (Av 4), .int (Av 5), .ref (Aa 1), .ref (Aa 2), .ref (Aa 3), .ref (Aa 4), .ref (Aa 5), .ref (Aa 6), .ref (Aa 7), .ref (Aa 8)])), ((Aa 1), .inl (tc 0, 10, .inl (Af 1))), ((Aa 2), .inl (tc 0, 10, .inl (Af 2))), ((Aa 3), .inl (tc 0, 6, .inl (Af 3))), ((Aa 4), .inl (tc 0, 6, .inl (Af 4))), ((Aa 5), .inl (tc 0, 6, .inl (Af 5))), ((Aa 6), .inl (tc 0, 6, .inl (Af 6))), ((Aa 7), .inl (tc 0, 6, .inl (Af 7))), ((Aa 8), .inl (tc 0, 6, .inl (Af 8)))] := hD
    refine lv_if_ne (tgt := 18) hx hb dX1_playAll_14 (by decide) (fun c_12 => ?_) (fun c_12 => ?_)
    · skip
      refine lv_iconst (v := 0) hx hb dX1_playAll_18 (by decide) ?_
      refine lv_istore (lv' := [(6, .int 0), (0, .ref (Ca 0)), (1, .ref (Aa 0)), (2, .ref (Ra 0)), (3, .int x1), (4, .int x2), (5, .int x3)]) hx hb dX1_playAll_19 hl (by decide) rfl (fun ls hl => ?_)
      have loop_52 : ∀ (n_50 : Nat) (vy_32 : Int32) (vy_33 : Nat → Int32) (vy_34 : Nat → Int32) (vy_35 : Int32) (vy_36 : Int32) (vy_37 : Int32) (vy_38 : Int32) (vy_39 : Int32) (vy_40 : Int32) (vy_41 : Nat → Int32) (vy_42 : Nat → Int32) (vy_43 : Nat → Int32) (vy_44 : Nat → Int32) (vy_45 : Nat → Int32) (vy_46 : Nat → Int32) (vy_47 : Nat → Int32) (vy_48 : Nat → Int32) (vy_49 : Nat → Int64) (H : Heap) (locs : List Loc) (ls : Array Slot), 0 ≤ (vy_32 : Int32).toInt → (25 - (vy_32 : Int32).toInt).toNat < n_50 → va_P D classes [((Ca 0), .inr (1, [.ref (Ta 0), .ref (Ca 2), .ref (Ca 3)])), ((Ca 2), .inl (tc 0, 25, .inl vy_33)), ((Ca 3), .inl (tc 0, 25, .inl vy_34)), ((Ta 0), .inr (9, [.int vy_35, .int vy_36, .int vy_37, .int vy_38, .int vy_39, .int vy_40, .ref (Ta 1), .ref (Ta 2), .ref (Ta 3), .ref (Ta 4), .ref (Ta 5), .ref (Ta 6), .ref (Ta 7), .ref (Ta 8)])), ((Ta 1), .inl (tc 0, 10, .inl vy_41)), ((Ta 2), .inl (tc 0, 10, .inl vy_42)), ((Ta 3), .inl (tc 0, 6, .inl vy_43)), ((Ta 4), .inl (tc 0, 6, .inl vy_44)), ((Ta 5), .inl (tc 0, 6, .inl vy_45)), ((Ta 6), .inl (tc 0, 6, .inl vy_46)), ((Ta 7), .inl (tc 0, 6, .inl vy_47)), ((Ta 8), .inl (tc 0, 6, .inl vy_48)), ((Ra 0), .inr (6, [.ref (Ra 1), .ref (Ra 2)])), ((Ra 1), .inl (tc 0, Rn, .inl (Rf 1))), ((Ra 2), .inl (tc 1, 64, .inr (.inl vy_49))), ((Aa 0), .inr (9, [.int (Av 0), .int (Av 1), .int (Av 2), .int (Av 3), .int (Av 4), .int (Av 5), .ref (Aa 1), .ref (Aa 2), .ref (Aa 3), .ref (Aa 4), .ref (Aa 5), .ref (Aa 6), .ref (Aa 7), .ref (Aa 8)])), ((Aa 1), .inl (tc 0, 10, .inl (Af 1))), ((Aa 2), .inl (tc 0, 10, .inl (Af 2))), ((Aa 3), .inl (tc 0, 6, .inl (Af 3))), ((Aa 4), .inl (tc 0, 6, .inl (Af 4))), ((Aa 5), .inl (tc 0, 6, .inl (Af 5))), ((Aa 6), .inl (tc 0, 6, .inl (Af 6))), ((Aa 7), .inl (tc 0, 6, .inl (Af 7))), ((Aa 8), .inl (tc 0, 6, .inl (Af 8)))] H → va_D A [((Ca 0), .inr (1, [.ref (Ta 0), .ref (Ca 2), .ref (Ca 3)])), ((Ca 2), .inl (tc 0, 25, .inl vy_33)), ((Ca 3), .inl (tc 0, 25, .inl vy_34)), ((Ta 0), .inr (9, [.int vy_35, .int vy_36, .int vy_37, .int vy_38, .int vy_39, .int vy_40, .ref (Ta 1), .ref (Ta 2), .ref (Ta 3), .ref (Ta 4), .ref (Ta 5), .ref (Ta 6), .ref (Ta 7), .ref (Ta 8)])), ((Ta 1), .inl (tc 0, 10, .inl vy_41)), ((Ta 2), .inl (tc 0, 10, .inl vy_42)), ((Ta 3), .inl (tc 0, 6, .inl vy_43)), ((Ta 4), .inl (tc 0, 6, .inl vy_44)), ((Ta 5), .inl (tc 0, 6, .inl vy_45)), ((Ta 6), .inl (tc 0, 6, .inl vy_46)), ((Ta 7), .inl (tc 0, 6, .inl vy_47)), ((Ta 8), .inl (tc 0, 6, .inl vy_48)), ((Ra 0), .inr (6, [.ref (Ra 1), .ref (Ra 2)])), ((Ra 1), .inl (tc 0, Rn, .inl (Rf 1))), ((Ra 2), .inl (tc 1, 64, .inr (.inl vy_49))), ((Aa 0), .inr (9, [.int (Av 0), .int (Av 1), .int (Av 2), .int (Av 3), .int (Av 4), .int (Av 5), .ref (Aa 1), .ref (Aa 2), .ref (Aa 3), .ref (Aa 4), .ref (Aa 5), .ref (Aa 6), .ref (Aa 7), .ref (Aa 8)])), ((Aa 1), .inl (tc 0, 10, .inl (Af 1))), ((Aa 2), .inl (tc 0, 10, .inl (Af 2))), ((Aa 3), .inl (tc 0, 6, .inl (Af 3))), ((Aa 4), .inl (tc 0, 6, .inl (Af 4))), ((Aa 5), .inl (tc 0, 6, .inl (Af 5))), ((Aa 6), .inl (tc 0, 6, .inl (Af 6))), ((Aa 7), .inl (tc 0, 6, .inl (Af 7))), ((Aa 8), .inl (tc 0, 6, .inl (Af 8)))] → va_S A s.heap H locs → lv_has ls 7 [(6, .int vy_32), (0, .ref (Ca 0)), (1, .ref (Aa 0)), (2, .ref (Ra 0)), (3, .int x1), (4, .int x2), (5, .int x3)] → W p l e ({ frames := 6, cells := 0, slots := 0, locals := 140 }) s m ([.ref (Ca 0), .ref (Aa 0), .ref (Ra 0), .int x1, .int x2, .int x3].toArray) below meth c H locs 0 0 (MQ below (QW (fun (v : Option Value) (u : (Nat → Int32) × (Nat → Int32) × (Int32) × (Int32) × (Int32) × (Int32) × (Int32) × (Int32) × (Nat → Int32) × (Nat → Int32) × (Nat → Int32) × (Nat → Int32) × (Nat → Int32) × (Nat → Int32) × (Nat → Int32) × (Nat → Int32) × (Nat → Int64)) => match u with | (o1, o2, o3, o4, o5, o6, o7, o8, o9, o10, o11, o12, o13, o14, o15, o16, o17) => v = none) (BW D (fun (u : (Nat → Int32) × (Nat → Int32) × (Int32) × (Int32) × (Int32) × (Int32) × (Int32) × (Int32) × (Nat → Int32) × (Nat → Int32) × (Nat → Int32) × (Nat → Int32) × (Nat → Int32) × (Nat → Int32) × (Nat → Int32) × (Nat → Int32) × (Nat → Int64)) => match u with | (o1, o2, o3, o4, o5, o6, o7, o8, o9, o10, o11, o12, o13, o14, o15, o16, o17) => [((Ca 0), .inr (1, [.ref (Ta 0), .ref (Ca 2), .ref (Ca 3)])), ((Ca 2), .inl (tc 0, 25, .inl o1)), ((Ca 3), .inl (tc 0, 25, .inl o2)), ((Ta 0), .inr (9, [.int o3, .int o4, .int o5, .int o6, .int o7, .int o8, .ref (Ta 1), .ref (Ta 2), .ref (Ta 3), .ref (Ta 4), .ref (Ta 5), .ref (Ta 6), .ref (Ta 7), .ref (Ta 8)])), ((Ta 1), .inl (tc 0, 10, .inl o9)), ((Ta 2), .inl (tc 0, 10, .inl o10)), ((Ta 3), .inl (tc 0, 6, .inl o11)), ((Ta 4), .inl (tc 0, 6, .inl o12)), ((Ta 5), .inl (tc 0, 6, .inl o13)), ((Ta 6), .inl (tc 0, 6, .inl o14)), ((Ta 7), .inl (tc 0, 6, .inl o15)), ((Ta 8), .inl (tc 0, 6, .inl o16)), ((Aa 0), .inr (9, [.int (Av 0), .int (Av 1), .int (Av 2), .int (Av 3), .int (Av 4), .int (Av 5), .ref (Aa 1), .ref (Aa 2), .ref (Aa 3), .ref (Aa 4), .ref (Aa 5), .ref (Aa 6), .ref (Aa 7), .ref (Aa 8)])), ((Aa 1), .inl (tc 0, 10, .inl (Af 1))), ((Aa 2), .inl (tc 0, 10, .inl (Af 2))), ((Aa 3), .inl (tc 0, 6, .inl (Af 3))), ((Aa 4), .inl (tc 0, 6, .inl (Af 4))), ((Aa 5), .inl (tc 0, 6, .inl (Af 5))), ((Aa 6), .inl (tc 0, 6, .inl (Af 6))), ((Aa 7), .inl (tc 0, 6, .inl (Af 7))), ((Aa 8), .inl (tc 0, 6, .inl (Af 8))), ((Ra 0), .inr (6, [.ref (Ra 1), .ref (Ra 2)])), ((Ra 1), .inl (tc 0, Rn, .inl (Rf 1))), ((Ra 2), .inl (tc 1, 64, .inr (.inl o17)))]) A) A) ([.ref (Ca 0), .ref (Aa 0), .ref (Ra 0), .int x1, .int x2, .int x3].toArray) s 0 0 A) (F0 m 21 ls []) := by
        intro n_50
        induction n_50 with
        | zero =>
          intro vy_32 vy_33 vy_34 vy_35 vy_36 vy_37 vy_38 vy_39 vy_40 vy_41 vy_42 vy_43 vy_44 vy_45 vy_46 vy_47 vy_48 vy_49 H locs ls h1 h2
          exact absurd h2 (Nat.not_lt_zero _)
        | succ n_50 ih_51 =>
          intro vy_32 vy_33 vy_34 vy_35 vy_36 vy_37 vy_38 vy_39 vy_40 vy_41 vy_42 vy_43 vy_44 vy_45 vy_46 vy_47 vy_48 vy_49 H locs ls hi_54 hn_55 hP hD hS hl
          refine lv_iload hx hb dX1_playAll_21 (lv_at hl 0 rfl) ?_
          refine lv_bipush (v := 25) hx hb dX1_playAll_23 (by decide) ?_
          refine lv_icmp_ge (tgt := 113) hx hb dX1_playAll_25 (by decide) (fun c_56 => ?_) (fun c_56 => ?_)
          · skip
            exact retV hx hb hr hlk hP hD hS (vy_33, vy_34, vy_35, vy_36, vy_37, vy_38, vy_39, vy_40, vy_41, vy_42, vy_43, vy_44, vy_45, vy_46, vy_47, vy_48, vy_49) rfl [0, 1, 2, 3, 4, 5, 6, 7, 8, 9, 10, 11, 15, 16, 17, 18, 19, 20, 21, 22, 23, 12, 13, 14] rfl rfl dX1_playAll_113 (Nat.le_of_ble_eq_true rfl) (Nat.le_of_ble_eq_true rfl) rfl
          · skip
            refine lv_aload_n hx hb dX1_playAll_28 rfl (lv_at hl 1 rfl) ?_
            refine gf_X1_12 hx hb hts hown hK hP 0 rfl rfl dX1_playAll_29 ?_
            refine lv_aload_n hx hb dX1_playAll_32 rfl (lv_at hl 2 rfl) ?_
            refine cV (a := (Ta 0)) (As := [.ref (Aa 0)]) (rest := []) (wr := [((Ca 0), .inr (1, [.ref (Ta 0), .ref (Ca 2), .ref (Ca 3)])), ((Ca 2), .inl (tc 0, 25, .inl vy_33)), ((Ca 3), .inl (tc 0, 25, .inl vy_34)), ((Ra 0), .inr (6, [.ref (Ra 1), .ref (Ra 2)])), ((Ra 1), .inl (tc 0, Rn, .inl (Rf 1))), ((Ra 2), .inl (tc 1, 64, .inr (.inl vy_49)))]) ⟨hx, hb, hml, hown, hts⟩ hK hX hA (cu_X9_copyFrom l D tc sk (Ta 0) (Ta 1) (Ta 2) (Ta 3) (Ta 4) (Ta 5) (Ta 6) (Ta 7) (Ta 8) vy_35 vy_36 vy_37 vy_38 vy_39 vy_40 vy_41 vy_42 vy_43 vy_44 vy_45 vy_46 vy_47 vy_48 (Aa 0) (Aa 1) (Aa 2) (Aa 3) (Aa 4) (Aa 5) (Aa 6) (Aa 7) (Aa 8) (Av 0) (Av 1) (Av 2) (Av 3) (Av 4) (Av 5) (Af 1) (Af 2) (Af 3) (Af 4) (Af 5) (Af 6) (Af 7) (Af 8)) k_599 k_869 k_597 k_598 k_98 pl_X9_copyFrom ⟨Nat.le_of_ble_eq_true rfl, Nat.le_of_ble_eq_true rfl⟩ rfl rfl (va_recv hK hP (ci := 9) (q0 := 3) rfl rfl) hP hD hS [3, 4, 5, 6, 7, 8, 9, 10, 11, 15, 16, 17, 18, 19, 20, 21, 22, 23] [0, 1, 2, 12, 13, 14] rfl rfl rfl rfl rfl (by decide) rfl hl.1 rfl (Nat.le_of_ble_eq_true rfl) dX1_playAll_33 ⟨Nat.le_of_ble_eq_true rfl, Nat.le_of_ble_eq_true rfl⟩ (fun v_57 u_58 H locs hv_59 hP hD hS => ?_)
            obtain ⟨sv_60, sv_61, sv_62, sv_63, sv_64, sv_65, sv_66, sv_67⟩ := u_58
            obtain rfl : v_57 = none := hv_59
            refine W.eq (g2 := F0 m 36 ls []) rfl ?_
            have hP : va_P D classes [((Ca 0), .inr (1, [.ref (Ta 0), .ref (Ca 2), .ref (Ca 3)])), ((Ca 2), .inl (tc 0, 25, .inl vy_33)), ((Ca 3), .inl (tc 0, 25, .inl vy_34)), ((Ra 0), .inr (6, [.ref (Ra 1), .ref (Ra 2)])), ((Ra 1), .inl (tc 0, Rn, .inl (Rf 1))), ((Ra 2), .inl (tc 1, 64, .inr (.inl vy_49))), ((Ta 0), .inr (9, [.int (Av 0), .int (Av 1), .int (Av 2), .int (Av 3), .int (Av 4), .int (Av 5), .ref (Ta 1), .ref (Ta 2), .ref (Ta 3), .ref (Ta 4), .ref (Ta 5), .ref (Ta 6), .ref (Ta 7), .ref (Ta 8)])), ((Ta 1), .inl (tc 0, 10, .inl sv_60)), ((Ta 2), .inl (tc 0, 10, .inl sv_61)), ((Ta 3), .inl (tc 0, 6, .inl sv_62)), ((Ta 4), .inl (tc 0, 6, .inl sv_63)), ((Ta 5), .inl (tc 0, 6, .inl sv_64)), ((Ta 6), .inl (tc 0, 6, .inl sv_65)), ((Ta 7), .inl (tc 0, 6, .inl sv_66)), ((Ta 8), .inl (tc 0, 6, .inl sv_67)), ((Aa 0), .inr (9, [.int (Av 0), .int (Av 1), .int (Av 2), .int (Av 3), .int (Av 4), .int (Av 5), .ref (Aa 1), .ref (Aa 2), .ref (Aa 3), .ref (Aa 4), .ref (Aa 5), .ref (Aa 6), .ref (Aa 7), .ref (Aa 8)])), ((Aa 1), .inl (tc 0, 10, .inl (Af 1))), ((Aa 2), .inl (tc 0, 10, .inl (Af 2))), ((Aa 3), .inl (tc 0, 6, .inl (Af 3))), ((Aa 4), .inl (tc 0, 6, .inl (Af 4))), ((Aa 5), .inl (tc 0, 6, .inl (Af 5))), ((Aa 6), .inl (tc 0, 6, .inl (Af 6))), ((Aa 7), .inl (tc 0, 6, .inl (Af 7))), ((Aa 8), .inl (tc 0, 6, .inl (Af 8)))] H := hP
            have hD : va_D A [((Ca 0), .inr (1, [.ref (Ta 0), .ref (Ca 2), .ref (Ca 3)])), ((Ca 2), .inl (tc 0, 25, .inl vy_33)), ((Ca 3), .inl (tc 0, 25, .inl vy_34)), ((Ra 0), .inr (6, [.ref (Ra 1), .ref (Ra 2)])), ((Ra 1), .inl (tc 0, Rn, .inl (Rf 1))), ((Ra 2), .inl (tc 1, 64, .inr (.inl vy_49))), ((Ta 0), .inr (9, [.int (Av 0), .int (Av 1), .int (Av 2), .int (Av 3), .int (Av 4), .int (Av 5), .ref (Ta 1), .ref (Ta 2), .ref (Ta 3), .ref (Ta 4), .ref (Ta 5), .ref (Ta 6), .ref (Ta 7), .ref (Ta 8)])), ((Ta 1), .inl (tc 0, 10, .inl sv_60)), ((Ta 2), .inl (tc 0, 10, .inl sv_61)), ((Ta 3), .inl (tc 0, 6, .inl sv_62)), ((Ta 4), .inl (tc 0, 6, .inl sv_63)), ((Ta 5), .inl (tc 0, 6, .inl sv_64)), ((Ta 6), .inl (tc 0, 6, .inl sv_65)), ((Ta 7), .inl (tc 0, 6, .inl sv_66)), ((Ta 8), .inl (tc 0, 6, .inl sv_67)), ((Aa 0), .inr (9, [.int (Av 0), .int (Av 1), .int (Av 2), .int (Av 3), .int (Av 4), .int (Av 5), .ref (Aa 1), .ref (Aa 2), .ref (Aa 3), .ref (Aa 4), .ref (Aa 5), .ref (Aa 6), .ref (Aa 7), .ref (Aa 8)])), ((Aa 1), .inl (tc 0, 10, .inl (Af 1))), ((Aa 2), .inl (tc 0, 10, .inl (Af 2))), ((Aa 3), .inl (tc 0, 6, .inl (Af 3))), ((Aa 4), .inl (tc 0, 6, .inl (Af 4))), ((Aa 5), .inl (tc 0, 6, .inl (Af 5))), ((Aa 6), .inl (tc 0, 6, .inl (Af 6))), ((Aa 7), .inl (tc 0, 6, .inl (Af 7))), ((Aa 8), .inl (tc 0, 6, .inl (Af 8)))] := hD
            refine lv_aload_n hx hb dX1_playAll_36 rfl (lv_at hl 1 rfl) ?_
            refine gf_X1_12 hx hb hts hown hK hP 0 rfl rfl dX1_playAll_37 ?_
            refine gf_X1_73 hx hb hts hown hK hP 6 rfl rfl dX1_playAll_40 ?_
            refine lv_iload_n hx hb dX1_playAll_43 rfl (lv_at hl 4 rfl) ?_
            refine lv_iload hx hb dX1_playAll_44 (lv_at hl 0 rfl) ?_
            refine lv_iconst (v := 5) hx hb dX1_playAll_46 (by decide) ?_
            refine lv_idiv hx hb dX1_playAll_47 (by decide) ?_
            refine lv_topi (fun x_68 ex_68 => ?_)
            refine cS (As := [.int x_68]) (rest := [.int x1, .ref (Ta 4)]) (wr := [((Ca 0), .inr (1, [.ref (Ta 0), .ref (Ca 2), .ref (Ca 3)])), ((Ca 2), .inl (tc 0, 25, .inl vy_33)), ((Ca 3), .inl (tc 0, 25, .inl vy_34)), ((Ra 0), .inr (6, [.ref (Ra 1), .ref (Ra 2)])), ((Ra 1), .inl (tc 0, Rn, .inl (Rf 1))), ((Ra 2), .inl (tc 1, 64, .inr (.inl vy_49))), ((Ta 0), .inr (9, [.int (Av 0), .int (Av 1), .int (Av 2), .int (Av 3), .int (Av 4), .int (Av 5), .ref (Ta 1), .ref (Ta 2), .ref (Ta 3), .ref (Ta 4), .ref (Ta 5), .ref (Ta 6), .ref (Ta 7), .ref (Ta 8)])), ((Ta 1), .inl (tc 0, 10, .inl sv_60)), ((Ta 2), .inl (tc 0, 10, .inl sv_61)), ((Ta 3), .inl (tc 0, 6, .inl sv_62)), ((Ta 4), .inl (tc 0, 6, .inl sv_63)), ((Ta 5), .inl (tc 0, 6, .inl sv_64)), ((Ta 6), .inl (tc 0, 6, .inl sv_65)), ((Ta 7), .inl (tc 0, 6, .inl sv_66)), ((Ta 8), .inl (tc 0, 6, .inl sv_67)), ((Aa 0), .inr (9, [.int (Av 0), .int (Av 1), .int (Av 2), .int (Av 3), .int (Av 4), .int (Av 5), .ref (Aa 1), .ref (Aa 2), .ref (Aa 3), .ref (Aa 4), .ref (Aa 5), .ref (Aa 6), .ref (Aa 7), .ref (Aa 8)])), ((Aa 1), .inl (tc 0, 10, .inl (Af 1))), ((Aa 2), .inl (tc 0, 10, .inl (Af 2))), ((Aa 3), .inl (tc 0, 6, .inl (Af 3))), ((Aa 4), .inl (tc 0, 6, .inl (Af 4))), ((Aa 5), .inl (tc 0, 6, .inl (Af 5))), ((Aa 6), .inl (tc 0, 6, .inl (Af 6))), ((Aa 7), .inl (tc 0, 6, .inl (Af 7))), ((Aa 8), .inl (tc 0, 6, .inl (Af 8)))]) ⟨hx, hb, hml, hown, hts⟩ hK hX hA (ct_X1_sizeOf l D tc sk x_68) k_932 k_930 k_931 k_104 pl_X1_sizeOf ⟨Nat.le_of_ble_eq_true rfl, Nat.le_of_ble_eq_true rfl⟩ rfl rfl  hP hD hS [] [0, 1, 2, 3, 4, 5, 6, 7, 8, 9, 10, 11, 12, 13, 14, 15, 16, 17, 18, 19, 20, 21, 22, 23] rfl rfl rfl rfl rfl (by decide) rfl hl.1 rfl (Nat.le_of_ble_eq_true rfl) dX1_playAll_48 ⟨Nat.le_of_ble_eq_true rfl, Nat.le_of_ble_eq_true rfl⟩ (fun v_69 u_70 H locs hv_71 hP hD hS => ?_)
            obtain ⟨r_72, rfl, he_73⟩ := hv_71
            have he_73 : (True) := he_73
            refine W.eq (g2 := F0 m 51 ls [.int r_72, .int x1, .ref (Ta 4)]) rfl ?_
            have hP : va_P D classes [((Ca 0), .inr (1, [.ref (Ta 0), .ref (Ca 2), .ref (Ca 3)])), ((Ca 2), .inl (tc 0, 25, .inl vy_33)), ((Ca 3), .inl (tc 0, 25, .inl vy_34)), ((Ra 0), .inr (6, [.ref (Ra 1), .ref (Ra 2)])), ((Ra 1), .inl (tc 0, Rn, .inl (Rf 1))), ((Ra 2), .inl (tc 1, 64, .inr (.inl vy_49))), ((Ta 0), .inr (9, [.int (Av 0), .int (Av 1), .int (Av 2), .int (Av 3), .int (Av 4), .int (Av 5), .ref (Ta 1), .ref (Ta 2), .ref (Ta 3), .ref (Ta 4), .ref (Ta 5), .ref (Ta 6), .ref (Ta 7), .ref (Ta 8)])), ((Ta 1), .inl (tc 0, 10, .inl sv_60)), ((Ta 2), .inl (tc 0, 10, .inl sv_61)), ((Ta 3), .inl (tc 0, 6, .inl sv_62)), ((Ta 4), .inl (tc 0, 6, .inl sv_63)), ((Ta 5), .inl (tc 0, 6, .inl sv_64)), ((Ta 6), .inl (tc 0, 6, .inl sv_65)), ((Ta 7), .inl (tc 0, 6, .inl sv_66)), ((Ta 8), .inl (tc 0, 6, .inl sv_67)), ((Aa 0), .inr (9, [.int (Av 0), .int (Av 1), .int (Av 2), .int (Av 3), .int (Av 4), .int (Av 5), .ref (Aa 1), .ref (Aa 2), .ref (Aa 3), .ref (Aa 4), .ref (Aa 5), .ref (Aa 6), .ref (Aa 7), .ref (Aa 8)])), ((Aa 1), .inl (tc 0, 10, .inl (Af 1))), ((Aa 2), .inl (tc 0, 10, .inl (Af 2))), ((Aa 3), .inl (tc 0, 6, .inl (Af 3))), ((Aa 4), .inl (tc 0, 6, .inl (Af 4))), ((Aa 5), .inl (tc 0, 6, .inl (Af 5))), ((Aa 6), .inl (tc 0, 6, .inl (Af 6))), ((Aa 7), .inl (tc 0, 6, .inl (Af 7))), ((Aa 8), .inl (tc 0, 6, .inl (Af 8)))] H := hP
            have hD : va_D A [((Ca 0), .inr (1, [.ref (Ta 0), .ref (Ca 2), .ref (Ca 3)])), ((Ca 2), .inl (tc 0, 25, .inl vy_33)), ((Ca 3), .inl (tc 0, 25, .inl vy_34)), ((Ra 0), .inr (6, [.ref (Ra 1), .ref (Ra 2)])), ((Ra 1), .inl (tc 0, Rn, .inl (Rf 1))), ((Ra 2), .inl (tc 1, 64, .inr (.inl vy_49))), ((Ta 0), .inr (9, [.int (Av 0), .int (Av 1), .int (Av 2), .int (Av 3), .int (Av 4), .int (Av 5), .ref (Ta 1), .ref (Ta 2), .ref (Ta 3), .ref (Ta 4), .ref (Ta 5), .ref (Ta 6), .ref (Ta 7), .ref (Ta 8)])), ((Ta 1), .inl (tc 0, 10, .inl sv_60)), ((Ta 2), .inl (tc 0, 10, .inl sv_61)), ((Ta 3), .inl (tc 0, 6, .inl sv_62)), ((Ta 4), .inl (tc 0, 6, .inl sv_63)), ((Ta 5), .inl (tc 0, 6, .inl sv_64)), ((Ta 6), .inl (tc 0, 6, .inl sv_65)), ((Ta 7), .inl (tc 0, 6, .inl sv_66)), ((Ta 8), .inl (tc 0, 6, .inl sv_67)), ((Aa 0), .inr (9, [.int (Av 0), .int (Av 1), .int (Av 2), .int (Av 3), .int (Av 4), .int (Av 5), .ref (Aa 1), .ref (Aa 2), .ref (Aa 3), .ref (Aa 4), .ref (Aa 5), .ref (Aa 6), .ref (Aa 7), .ref (Aa 8)])), ((Aa 1), .inl (tc 0, 10, .inl (Af 1))), ((Aa 2), .inl (tc 0, 10, .inl (Af 2))), ((Aa 3), .inl (tc 0, 6, .inl (Af 3))), ((Aa 4), .inl (tc 0, 6, .inl (Af 4))), ((Aa 5), .inl (tc 0, 6, .inl (Af 5))), ((Aa 6), .inl (tc 0, 6, .inl (Af 6))), ((Aa 7), .inl (tc 0, 6, .inl (Af 7))), ((Aa 8), .inl (tc 0, 6, .inl (Af 8)))] := hD
            have hi_74 : vp_in x1 6 := by
              have z_1 : ¬ (r_4 : Int32).toInt = (0 : Int32).toInt := fun z => c_6 (Int32.toInt_inj.mp z)
              have z_2 : ¬ (r_10 : Int32).toInt = (0 : Int32).toInt := fun z => c_12 (Int32.toInt_inj.mp z)
              have z_3 := Int32.lt_iff_toInt_lt.mp (Int32.not_le.mp c_56)
              have y_0 : (0 : Int32).toInt = 0 := by decide
              have y_25 : (25 : Int32).toInt = 25 := by decide
              refine vp_in_iff.mpr ⟨?_, ?_⟩ <;> omega
            refine st_int hx hb hK hP hD hS 10 0 rfl rfl hi_74 dX1_playAll_51 (fun g_75 H locs eg_75 hP hD hS => ?_)
            have hP : va_P D classes [((Ca 0), .inr (1, [.ref (Ta 0), .ref (Ca 2), .ref (Ca 3)])), ((Ca 2), .inl (tc 0, 25, .inl vy_33)), ((Ca 3), .inl (tc 0, 25, .inl vy_34)), ((Ra 0), .inr (6, [.ref (Ra 1), .ref (Ra 2)])), ((Ra 1), .inl (tc 0, Rn, .inl (Rf 1))), ((Ra 2), .inl (tc 1, 64, .inr (.inl vy_49))), ((Ta 0), .inr (9, [.int (Av 0), .int (Av 1), .int (Av 2), .int (Av 3), .int (Av 4), .int (Av 5), .ref (Ta 1), .ref (Ta 2), .ref (Ta 3), .ref (Ta 4), .ref (Ta 5), .ref (Ta 6), .ref (Ta 7), .ref (Ta 8)])), ((Ta 1), .inl (tc 0, 10, .inl sv_60)), ((Ta 2), .inl (tc 0, 10, .inl sv_61)), ((Ta 3), .inl (tc 0, 6, .inl sv_62)), ((Ta 4), .inl (tc 0, 6, .inl g_75)), ((Ta 5), .inl (tc 0, 6, .inl sv_64)), ((Ta 6), .inl (tc 0, 6, .inl sv_65)), ((Ta 7), .inl (tc 0, 6, .inl sv_66)), ((Ta 8), .inl (tc 0, 6, .inl sv_67)), ((Aa 0), .inr (9, [.int (Av 0), .int (Av 1), .int (Av 2), .int (Av 3), .int (Av 4), .int (Av 5), .ref (Aa 1), .ref (Aa 2), .ref (Aa 3), .ref (Aa 4), .ref (Aa 5), .ref (Aa 6), .ref (Aa 7), .ref (Aa 8)])), ((Aa 1), .inl (tc 0, 10, .inl (Af 1))), ((Aa 2), .inl (tc 0, 10, .inl (Af 2))), ((Aa 3), .inl (tc 0, 6, .inl (Af 3))), ((Aa 4), .inl (tc 0, 6, .inl (Af 4))), ((Aa 5), .inl (tc 0, 6, .inl (Af 5))), ((Aa 6), .inl (tc 0, 6, .inl (Af 6))), ((Aa 7), .inl (tc 0, 6, .inl (Af 7))), ((Aa 8), .inl (tc 0, 6, .inl (Af 8)))] H := hP
            have hD : va_D A [((Ca 0), .inr (1, [.ref (Ta 0), .ref (Ca 2), .ref (Ca 3)])), ((Ca 2), .inl (tc 0, 25, .inl vy_33)), ((Ca 3), .inl (tc 0, 25, .inl vy_34)), ((Ra 0), .inr (6, [.ref (Ra 1), .ref (Ra 2)])), ((Ra 1), .inl (tc 0, Rn, .inl (Rf 1))), ((Ra 2), .inl (tc 1, 64, .inr (.inl vy_49))), ((Ta 0), .inr (9, [.int (Av 0), .int (Av 1), .int (Av 2), .int (Av 3), .int (Av 4), .int (Av 5), .ref (Ta 1), .ref (Ta 2), .ref (Ta 3), .ref (Ta 4), .ref (Ta 5), .ref (Ta 6), .ref (Ta 7), .ref (Ta 8)])), ((Ta 1), .inl (tc 0, 10, .inl sv_60)), ((Ta 2), .inl (tc 0, 10, .inl sv_61)), ((Ta 3), .inl (tc 0, 6, .inl sv_62)), ((Ta 4), .inl (tc 0, 6, .inl g_75)), ((Ta 5), .inl (tc 0, 6, .inl sv_64)), ((Ta 6), .inl (tc 0, 6, .inl sv_65)), ((Ta 7), .inl (tc 0, 6, .inl sv_66)), ((Ta 8), .inl (tc 0, 6, .inl sv_67)), ((Aa 0), .inr (9, [.int (Av 0), .int (Av 1), .int (Av 2), .int (Av 3), .int (Av 4), .int (Av 5), .ref (Aa 1), .ref (Aa 2), .ref (Aa 3), .ref (Aa 4), .ref (Aa 5), .ref (Aa 6), .ref (Aa 7), .ref (Aa 8)])), ((Aa 1), .inl (tc 0, 10, .inl (Af 1))), ((Aa 2), .inl (tc 0, 10, .inl (Af 2))), ((Aa 3), .inl (tc 0, 6, .inl (Af 3))), ((Aa 4), .inl (tc 0, 6, .inl (Af 4))), ((Aa 5), .inl (tc 0, 6, .inl (Af 5))), ((Aa 6), .inl (tc 0, 6, .inl (Af 6))), ((Aa 7), .inl (tc 0, 6, .inl (Af 7))), ((Aa 8), .inl (tc 0, 6, .inl (Af 8)))] := hD
            refine lv_aload_n hx hb dX1_playAll_52 rfl (lv_at hl 1 rfl) ?_
            refine gf_X1_12 hx hb hts hown hK hP 0 rfl rfl dX1_playAll_53 ?_
            refine gf_X1_73 hx hb hts hown hK hP 6 rfl rfl dX1_playAll_56 ?_
            refine lv_iload hx hb dX1_playAll_59 (lv_at hl 5 rfl) ?_
            refine lv_iload hx hb dX1_playAll_61 (lv_at hl 0 rfl) ?_
            refine lv_iconst (v := 5) hx hb dX1_playAll_63 (by decide) ?_
            refine lv_irem hx hb dX1_playAll_64 (by decide) ?_
            refine lv_topi (fun x_76 ex_76 => ?_)
            refine cS (As := [.int x_76]) (rest := [.int x2, .ref (Ta 4)]) (wr := [((Ca 0), .inr (1, [.ref (Ta 0), .ref (Ca 2), .ref (Ca 3)])), ((Ca 2), .inl (tc 0, 25, .inl vy_33)), ((Ca 3), .inl (tc 0, 25, .inl vy_34)), ((Ra 0), .inr (6, [.ref (Ra 1), .ref (Ra 2)])), ((Ra 1), .inl (tc 0, Rn, .inl (Rf 1))), ((Ra 2), .inl (tc 1, 64, .inr (.inl vy_49))), ((Ta 0), .inr (9, [.int (Av 0), .int (Av 1), .int (Av 2), .int (Av 3), .int (Av 4), .int (Av 5), .ref (Ta 1), .ref (Ta 2), .ref (Ta 3), .ref (Ta 4), .ref (Ta 5), .ref (Ta 6), .ref (Ta 7), .ref (Ta 8)])), ((Ta 1), .inl (tc 0, 10, .inl sv_60)), ((Ta 2), .inl (tc 0, 10, .inl sv_61)), ((Ta 3), .inl (tc 0, 6, .inl sv_62)), ((Ta 4), .inl (tc 0, 6, .inl g_75)), ((Ta 5), .inl (tc 0, 6, .inl sv_64)), ((Ta 6), .inl (tc 0, 6, .inl sv_65)), ((Ta 7), .inl (tc 0, 6, .inl sv_66)), ((Ta 8), .inl (tc 0, 6, .inl sv_67)), ((Aa 0), .inr (9, [.int (Av 0), .int (Av 1), .int (Av 2), .int (Av 3), .int (Av 4), .int (Av 5), .ref (Aa 1), .ref (Aa 2), .ref (Aa 3), .ref (Aa 4), .ref (Aa 5), .ref (Aa 6), .ref (Aa 7), .ref (Aa 8)])), ((Aa 1), .inl (tc 0, 10, .inl (Af 1))), ((Aa 2), .inl (tc 0, 10, .inl (Af 2))), ((Aa 3), .inl (tc 0, 6, .inl (Af 3))), ((Aa 4), .inl (tc 0, 6, .inl (Af 4))), ((Aa 5), .inl (tc 0, 6, .inl (Af 5))), ((Aa 6), .inl (tc 0, 6, .inl (Af 6))), ((Aa 7), .inl (tc 0, 6, .inl (Af 7))), ((Aa 8), .inl (tc 0, 6, .inl (Af 8)))]) ⟨hx, hb, hml, hown, hts⟩ hK hX hA (ct_X1_sizeOf l D tc sk x_76) k_932 k_930 k_931 k_104 pl_X1_sizeOf ⟨Nat.le_of_ble_eq_true rfl, Nat.le_of_ble_eq_true rfl⟩ rfl rfl  hP hD hS [] [0, 1, 2, 3, 4, 5, 6, 7, 8, 9, 10, 11, 12, 13, 14, 15, 16, 17, 18, 19, 20, 21, 22, 23] rfl rfl rfl rfl rfl (by decide) rfl hl.1 rfl (Nat.le_of_ble_eq_true rfl) dX1_playAll_65 ⟨Nat.le_of_ble_eq_true rfl, Nat.le_of_ble_eq_true rfl⟩ (fun v_77 u_78 H locs hv_79 hP hD hS => ?_)
            obtain ⟨r_80, rfl, he_81⟩ := hv_79
            have he_81 : (True) := he_81
            refine W.eq (g2 := F0 m 68 ls [.int r_80, .int x2, .ref (Ta 4)]) rfl ?_
            have hP : va_P D classes [((Ca 0), .inr (1, [.ref (Ta 0), .ref (Ca 2), .ref (Ca 3)])), ((Ca 2), .inl (tc 0, 25, .inl vy_33)), ((Ca 3), .inl (tc 0, 25, .inl vy_34)), ((Ra 0), .inr (6, [.ref (Ra 1), .ref (Ra 2)])), ((Ra 1), .inl (tc 0, Rn, .inl (Rf 1))), ((Ra 2), .inl (tc 1, 64, .inr (.inl vy_49))), ((Ta 0), .inr (9, [.int (Av 0), .int (Av 1), .int (Av 2), .int (Av 3), .int (Av 4), .int (Av 5), .ref (Ta 1), .ref (Ta 2), .ref (Ta 3), .ref (Ta 4), .ref (Ta 5), .ref (Ta 6), .ref (Ta 7), .ref (Ta 8)])), ((Ta 1), .inl (tc 0, 10, .inl sv_60)), ((Ta 2), .inl (tc 0, 10, .inl sv_61)), ((Ta 3), .inl (tc 0, 6, .inl sv_62)), ((Ta 4), .inl (tc 0, 6, .inl g_75)), ((Ta 5), .inl (tc 0, 6, .inl sv_64)), ((Ta 6), .inl (tc 0, 6, .inl sv_65)), ((Ta 7), .inl (tc 0, 6, .inl sv_66)), ((Ta 8), .inl (tc 0, 6, .inl sv_67)), ((Aa 0), .inr (9, [.int (Av 0), .int (Av 1), .int (Av 2), .int (Av 3), .int (Av 4), .int (Av 5), .ref (Aa 1), .ref (Aa 2), .ref (Aa 3), .ref (Aa 4), .ref (Aa 5), .ref (Aa 6), .ref (Aa 7), .ref (Aa 8)])), ((Aa 1), .inl (tc 0, 10, .inl (Af 1))), ((Aa 2), .inl (tc 0, 10, .inl (Af 2))), ((Aa 3), .inl (tc 0, 6, .inl (Af 3))), ((Aa 4), .inl (tc 0, 6, .inl (Af 4))), ((Aa 5), .inl (tc 0, 6, .inl (Af 5))), ((Aa 6), .inl (tc 0, 6, .inl (Af 6))), ((Aa 7), .inl (tc 0, 6, .inl (Af 7))), ((Aa 8), .inl (tc 0, 6, .inl (Af 8)))] H := hP
            have hD : va_D A [((Ca 0), .inr (1, [.ref (Ta 0), .ref (Ca 2), .ref (Ca 3)])), ((Ca 2), .inl (tc 0, 25, .inl vy_33)), ((Ca 3), .inl (tc 0, 25, .inl vy_34)), ((Ra 0), .inr (6, [.ref (Ra 1), .ref (Ra 2)])), ((Ra 1), .inl (tc 0, Rn, .inl (Rf 1))), ((Ra 2), .inl (tc 1, 64, .inr (.inl vy_49))), ((Ta 0), .inr (9, [.int (Av 0), .int (Av 1), .int (Av 2), .int (Av 3), .int (Av 4), .int (Av 5), .ref (Ta 1), .ref (Ta 2), .ref (Ta 3), .ref (Ta 4), .ref (Ta 5), .ref (Ta 6), .ref (Ta 7), .ref (Ta 8)])), ((Ta 1), .inl (tc 0, 10, .inl sv_60)), ((Ta 2), .inl (tc 0, 10, .inl sv_61)), ((Ta 3), .inl (tc 0, 6, .inl sv_62)), ((Ta 4), .inl (tc 0, 6, .inl g_75)), ((Ta 5), .inl (tc 0, 6, .inl sv_64)), ((Ta 6), .inl (tc 0, 6, .inl sv_65)), ((Ta 7), .inl (tc 0, 6, .inl sv_66)), ((Ta 8), .inl (tc 0, 6, .inl sv_67)), ((Aa 0), .inr (9, [.int (Av 0), .int (Av 1), .int (Av 2), .int (Av 3), .int (Av 4), .int (Av 5), .ref (Aa 1), .ref (Aa 2), .ref (Aa 3), .ref (Aa 4), .ref (Aa 5), .ref (Aa 6), .ref (Aa 7), .ref (Aa 8)])), ((Aa 1), .inl (tc 0, 10, .inl (Af 1))), ((Aa 2), .inl (tc 0, 10, .inl (Af 2))), ((Aa 3), .inl (tc 0, 6, .inl (Af 3))), ((Aa 4), .inl (tc 0, 6, .inl (Af 4))), ((Aa 5), .inl (tc 0, 6, .inl (Af 5))), ((Aa 6), .inl (tc 0, 6, .inl (Af 6))), ((Aa 7), .inl (tc 0, 6, .inl (Af 7))), ((Aa 8), .inl (tc 0, 6, .inl (Af 8)))] := hD
            have hi_82 : vp_in x2 6 := by
              have z_1 : ¬ (r_4 : Int32).toInt = (0 : Int32).toInt := fun z => c_6 (Int32.toInt_inj.mp z)
              have z_2 : ¬ (r_10 : Int32).toInt = (0 : Int32).toInt := fun z => c_12 (Int32.toInt_inj.mp z)
              have z_3 := Int32.lt_iff_toInt_lt.mp (Int32.not_le.mp c_56)
              have y_0 : (0 : Int32).toInt = 0 := by decide
              have y_25 : (25 : Int32).toInt = 25 := by decide
              refine vp_in_iff.mpr ⟨?_, ?_⟩ <;> omega
            refine st_int hx hb hK hP hD hS 10 0 rfl rfl hi_82 dX1_playAll_68 (fun g_83 H locs eg_83 hP hD hS => ?_)
            have hP : va_P D classes [((Ca 0), .inr (1, [.ref (Ta 0), .ref (Ca 2), .ref (Ca 3)])), ((Ca 2), .inl (tc 0, 25, .inl vy_33)), ((Ca 3), .inl (tc 0, 25, .inl vy_34)), ((Ra 0), .inr (6, [.ref (Ra 1), .ref (Ra 2)])), ((Ra 1), .inl (tc 0, Rn, .inl (Rf 1))), ((Ra 2), .inl (tc 1, 64, .inr (.inl vy_49))), ((Ta 0), .inr (9, [.int (Av 0), .int (Av 1), .int (Av 2), .int (Av 3), .int (Av 4), .int (Av 5), .ref (Ta 1), .ref (Ta 2), .ref (Ta 3), .ref (Ta 4), .ref (Ta 5), .ref (Ta 6), .ref (Ta 7), .ref (Ta 8)])), ((Ta 1), .inl (tc 0, 10, .inl sv_60)), ((Ta 2), .inl (tc 0, 10, .inl sv_61)), ((Ta 3), .inl (tc 0, 6, .inl sv_62)), ((Ta 4), .inl (tc 0, 6, .inl g_83)), ((Ta 5), .inl (tc 0, 6, .inl sv_64)), ((Ta 6), .inl (tc 0, 6, .inl sv_65)), ((Ta 7), .inl (tc 0, 6, .inl sv_66)), ((Ta 8), .inl (tc 0, 6, .inl sv_67)), ((Aa 0), .inr (9, [.int (Av 0), .int (Av 1), .int (Av 2), .int (Av 3), .int (Av 4), .int (Av 5), .ref (Aa 1), .ref (Aa 2), .ref (Aa 3), .ref (Aa 4), .ref (Aa 5), .ref (Aa 6), .ref (Aa 7), .ref (Aa 8)])), ((Aa 1), .inl (tc 0, 10, .inl (Af 1))), ((Aa 2), .inl (tc 0, 10, .inl (Af 2))), ((Aa 3), .inl (tc 0, 6, .inl (Af 3))), ((Aa 4), .inl (tc 0, 6, .inl (Af 4))), ((Aa 5), .inl (tc 0, 6, .inl (Af 5))), ((Aa 6), .inl (tc 0, 6, .inl (Af 6))), ((Aa 7), .inl (tc 0, 6, .inl (Af 7))), ((Aa 8), .inl (tc 0, 6, .inl (Af 8)))] H := hP
            have hD : va_D A [((Ca 0), .inr (1, [.ref (Ta 0), .ref (Ca 2), .ref (Ca 3)])), ((Ca 2), .inl (tc 0, 25, .inl vy_33)), ((Ca 3), .inl (tc 0, 25, .inl vy_34)), ((Ra 0), .inr (6, [.ref (Ra 1), .ref (Ra 2)])), ((Ra 1), .inl (tc 0, Rn, .inl (Rf 1))), ((Ra 2), .inl (tc 1, 64, .inr (.inl vy_49))), ((Ta 0), .inr (9, [.int (Av 0), .int (Av 1), .int (Av 2), .int (Av 3), .int (Av 4), .int (Av 5), .ref (Ta 1), .ref (Ta 2), .ref (Ta 3), .ref (Ta 4), .ref (Ta 5), .ref (Ta 6), .ref (Ta 7), .ref (Ta 8)])), ((Ta 1), .inl (tc 0, 10, .inl sv_60)), ((Ta 2), .inl (tc 0, 10, .inl sv_61)), ((Ta 3), .inl (tc 0, 6, .inl sv_62)), ((Ta 4), .inl (tc 0, 6, .inl g_83)), ((Ta 5), .inl (tc 0, 6, .inl sv_64)), ((Ta 6), .inl (tc 0, 6, .inl sv_65)), ((Ta 7), .inl (tc 0, 6, .inl sv_66)), ((Ta 8), .inl (tc 0, 6, .inl sv_67)), ((Aa 0), .inr (9, [.int (Av 0), .int (Av 1), .int (Av 2), .int (Av 3), .int (Av 4), .int (Av 5), .ref (Aa 1), .ref (Aa 2), .ref (Aa 3), .ref (Aa 4), .ref (Aa 5), .ref (Aa 6), .ref (Aa 7), .ref (Aa 8)])), ((Aa 1), .inl (tc 0, 10, .inl (Af 1))), ((Aa 2), .inl (tc 0, 10, .inl (Af 2))), ((Aa 3), .inl (tc 0, 6, .inl (Af 3))), ((Aa 4), .inl (tc 0, 6, .inl (Af 4))), ((Aa 5), .inl (tc 0, 6, .inl (Af 5))), ((Aa 6), .inl (tc 0, 6, .inl (Af 6))), ((Aa 7), .inl (tc 0, 6, .inl (Af 7))), ((Aa 8), .inl (tc 0, 6, .inl (Af 8)))] := hD
            refine lv_aload_n hx hb dX1_playAll_69 rfl (lv_at hl 1 rfl) ?_
            refine gf_X1_12 hx hb hts hown hK hP 0 rfl rfl dX1_playAll_70 ?_
            refine lv_iload hx hb dX1_playAll_73 (lv_at hl 6 rfl) ?_
            refine lv_aload_n hx hb dX1_playAll_75 rfl (lv_at hl 3 rfl) ?_
            have hh_84 : Rn ≤ 400 := by
              have z_1 : ¬ (r_4 : Int32).toInt = (0 : Int32).toInt := fun z => c_6 (Int32.toInt_inj.mp z)
              have z_2 : ¬ (r_10 : Int32).toInt = (0 : Int32).toInt := fun z => c_12 (Int32.toInt_inj.mp z)
              have z_3 := Int32.lt_iff_toInt_lt.mp (Int32.not_le.mp c_56)
              have y_0 : (0 : Int32).toInt = 0 := by decide
              have y_25 : (25 : Int32).toInt = 25 := by decide
              first | assumption | omega
            refine cV (a := (Ta 0)) (As := [.int x3, .ref (Ra 0)]) (rest := []) (wr := [((Ca 0), .inr (1, [.ref (Ta 0), .ref (Ca 2), .ref (Ca 3)])), ((Ca 2), .inl (tc 0, 25, .inl vy_33)), ((Ca 3), .inl (tc 0, 25, .inl vy_34)), ((Aa 0), .inr (9, [.int (Av 0), .int (Av 1), .int (Av 2), .int (Av 3), .int (Av 4), .int (Av 5), .ref (Aa 1), .ref (Aa 2), .ref (Aa 3), .ref (Aa 4), .ref (Aa 5), .ref (Aa 6), .ref (Aa 7), .ref (Aa 8)])), ((Aa 1), .inl (tc 0, 10, .inl (Af 1))), ((Aa 2), .inl (tc 0, 10, .inl (Af 2))), ((Aa 3), .inl (tc 0, 6, .inl (Af 3))), ((Aa 4), .inl (tc 0, 6, .inl (Af 4))), ((Aa 5), .inl (tc 0, 6, .inl (Af 5))), ((Aa 6), .inl (tc 0, 6, .inl (Af 6))), ((Aa 7), .inl (tc 0, 6, .inl (Af 7))), ((Aa 8), .inl (tc 0, 6, .inl (Af 8)))]) ⟨hx, hb, hml, hown, hts⟩ hK hX hA (cu_X9_soldWithin_r l D tc sk (Ta 0) (Ta 1) (Ta 2) (Ta 3) (Ta 4) (Ta 5) (Ta 6) (Ta 7) (Ta 8) (Av 0) (Av 1) (Av 2) (Av 3) (Av 4) (Av 5) sv_60 sv_61 sv_62 g_83 sv_64 sv_65 sv_66 sv_67 (Ra 0) (Ra 1) (Ra 2) (Rf 1) vy_49 Rn x3 hh_84) k_818 k_885 k_816 k_817 k_98 pl_X9_soldWithin ⟨Nat.le_of_ble_eq_true rfl, Nat.le_of_ble_eq_true rfl⟩ rfl rfl (va_recv hK hP (ci := 9) (q0 := 6) rfl rfl) hP hD hS [6, 7, 8, 9, 10, 11, 12, 13, 14, 3, 4, 5] [0, 1, 2, 15, 16, 17, 18, 19, 20, 21, 22, 23] rfl rfl rfl rfl rfl (by decide) rfl hl.1 rfl (Nat.le_of_ble_eq_true rfl) dX1_playAll_76 ⟨Nat.le_of_ble_eq_true rfl, Nat.le_of_ble_eq_true rfl⟩ (fun v_85 u_86 H locs hv_87 hP hD hS => ?_)
            obtain ⟨sv_88, sv_89, sv_90, sv_91, sv_92, sv_93, sv_94, sv_95⟩ := u_86
            obtain ⟨r_96, rfl, he_97⟩ := hv_87
            have he_97 : (True) := he_97
            refine W.eq (g2 := F0 m 79 ls [.int r_96]) rfl ?_
            have hP : va_P D classes [((Ca 0), .inr (1, [.ref (Ta 0), .ref (Ca 2), .ref (Ca 3)])), ((Ca 2), .inl (tc 0, 25, .inl vy_33)), ((Ca 3), .inl (tc 0, 25, .inl vy_34)), ((Aa 0), .inr (9, [.int (Av 0), .int (Av 1), .int (Av 2), .int (Av 3), .int (Av 4), .int (Av 5), .ref (Aa 1), .ref (Aa 2), .ref (Aa 3), .ref (Aa 4), .ref (Aa 5), .ref (Aa 6), .ref (Aa 7), .ref (Aa 8)])), ((Aa 1), .inl (tc 0, 10, .inl (Af 1))), ((Aa 2), .inl (tc 0, 10, .inl (Af 2))), ((Aa 3), .inl (tc 0, 6, .inl (Af 3))), ((Aa 4), .inl (tc 0, 6, .inl (Af 4))), ((Aa 5), .inl (tc 0, 6, .inl (Af 5))), ((Aa 6), .inl (tc 0, 6, .inl (Af 6))), ((Aa 7), .inl (tc 0, 6, .inl (Af 7))), ((Aa 8), .inl (tc 0, 6, .inl (Af 8))), ((Ta 0), .inr (9, [.int sv_88, .int (Av 1), .int (Av 2), .int (Av 3), .int sv_89, .int sv_90, .ref (Ta 1), .ref (Ta 2), .ref (Ta 3), .ref (Ta 4), .ref (Ta 5), .ref (Ta 6), .ref (Ta 7), .ref (Ta 8)])), ((Ta 1), .inl (tc 0, 10, .inl sv_60)), ((Ta 2), .inl (tc 0, 10, .inl sv_61)), ((Ta 3), .inl (tc 0, 6, .inl sv_91)), ((Ta 4), .inl (tc 0, 6, .inl g_83)), ((Ta 5), .inl (tc 0, 6, .inl sv_64)), ((Ta 6), .inl (tc 0, 6, .inl sv_92)), ((Ta 7), .inl (tc 0, 6, .inl sv_93)), ((Ta 8), .inl (tc 0, 6, .inl sv_94)), ((Ra 0), .inr (6, [.ref (Ra 1), .ref (Ra 2)])), ((Ra 1), .inl (tc 0, Rn, .inl (Rf 1))), ((Ra 2), .inl (tc 1, 64, .inr (.inl sv_95)))] H := hP
            have hD : va_D A [((Ca 0), .inr (1, [.ref (Ta 0), .ref (Ca 2), .ref (Ca 3)])), ((Ca 2), .inl (tc 0, 25, .inl vy_33)), ((Ca 3), .inl (tc 0, 25, .inl vy_34)), ((Aa 0), .inr (9, [.int (Av 0), .int (Av 1), .int (Av 2), .int (Av 3), .int (Av 4), .int (Av 5), .ref (Aa 1), .ref (Aa 2), .ref (Aa 3), .ref (Aa 4), .ref (Aa 5), .ref (Aa 6), .ref (Aa 7), .ref (Aa 8)])), ((Aa 1), .inl (tc 0, 10, .inl (Af 1))), ((Aa 2), .inl (tc 0, 10, .inl (Af 2))), ((Aa 3), .inl (tc 0, 6, .inl (Af 3))), ((Aa 4), .inl (tc 0, 6, .inl (Af 4))), ((Aa 5), .inl (tc 0, 6, .inl (Af 5))), ((Aa 6), .inl (tc 0, 6, .inl (Af 6))), ((Aa 7), .inl (tc 0, 6, .inl (Af 7))), ((Aa 8), .inl (tc 0, 6, .inl (Af 8))), ((Ta 0), .inr (9, [.int sv_88, .int (Av 1), .int (Av 2), .int (Av 3), .int sv_89, .int sv_90, .ref (Ta 1), .ref (Ta 2), .ref (Ta 3), .ref (Ta 4), .ref (Ta 5), .ref (Ta 6), .ref (Ta 7), .ref (Ta 8)])), ((Ta 1), .inl (tc 0, 10, .inl sv_60)), ((Ta 2), .inl (tc 0, 10, .inl sv_61)), ((Ta 3), .inl (tc 0, 6, .inl sv_91)), ((Ta 4), .inl (tc 0, 6, .inl g_83)), ((Ta 5), .inl (tc 0, 6, .inl sv_64)), ((Ta 6), .inl (tc 0, 6, .inl sv_92)), ((Ta 7), .inl (tc 0, 6, .inl sv_93)), ((Ta 8), .inl (tc 0, 6, .inl sv_94)), ((Ra 0), .inr (6, [.ref (Ra 1), .ref (Ra 2)])), ((Ra 1), .inl (tc 0, Rn, .inl (Rf 1))), ((Ra 2), .inl (tc 1, 64, .inr (.inl sv_95)))] := hD
            refine lv_pop hx hb dX1_playAll_79 rfl ?_
            refine lv_aload_n hx hb dX1_playAll_80 rfl (lv_at hl 1 rfl) ?_
            refine gf_X1_18 hx hb hts hown hK hP 0 rfl rfl dX1_playAll_81 ?_
            refine lv_iload hx hb dX1_playAll_84 (lv_at hl 0 rfl) ?_
            refine lv_aload_n hx hb dX1_playAll_86 rfl (lv_at hl 1 rfl) ?_
            refine lv_aload_n hx hb dX1_playAll_87 rfl (lv_at hl 2 rfl) ?_
            refine lv_iload_n hx hb dX1_playAll_88 rfl (lv_at hl 4 rfl) ?_
            refine cV (a := (Ca 0)) (As := [.ref (Aa 0), .int x1]) (rest := [.int vy_32, .ref (Ca 2)]) (wr := [((Ra 0), .inr (6, [.ref (Ra 1), .ref (Ra 2)])), ((Ra 1), .inl (tc 0, Rn, .inl (Rf 1))), ((Ra 2), .inl (tc 1, 64, .inr (.inl sv_95)))]) ⟨hx, hb, hml, hown, hts⟩ hK hX hA (cu_X1_gain l D tc sk (Ca 0) (Ca 2) (Ca 3) vy_33 vy_34 (Ta 0) (Ta 1) (Ta 2) (Ta 3) (Ta 4) (Ta 5) (Ta 6) (Ta 7) (Ta 8) sv_88 (Av 1) (Av 2) (Av 3) sv_89 sv_90 sv_60 sv_61 sv_91 g_83 sv_64 sv_92 sv_93 sv_94 (Aa 0) (Aa 1) (Aa 2) (Aa 3) (Aa 4) (Aa 5) (Aa 6) (Aa 7) (Aa 8) (Av 0) (Av 1) (Av 2) (Av 3) (Av 4) (Av 5) (Af 1) (Af 2) (Af 3) (Af 4) (Af 5) (Af 6) (Af 7) (Af 8) x1) k_936 k_933 k_935 k_17 k_104 pl_X1_gain ⟨Nat.le_of_ble_eq_true rfl, Nat.le_of_ble_eq_true rfl⟩ rfl rfl (va_recv hK hP (ci := 1) (q0 := 0) rfl rfl) hP hD hS [0, 1, 2, 12, 13, 14, 15, 16, 17, 18, 19, 20, 3, 4, 5, 6, 7, 8, 9, 10, 11] [21, 22, 23] rfl rfl rfl rfl rfl (by decide) rfl hl.1 rfl (Nat.le_of_ble_eq_true rfl) dX1_playAll_89 ⟨Nat.le_of_ble_eq_true rfl, Nat.le_of_ble_eq_true rfl⟩ (fun v_98 u_99 H locs hv_100 hP hD hS => ?_)
            obtain ⟨r_101, rfl, he_102⟩ := hv_100
            have he_102 : (True) := he_102
            refine W.eq (g2 := F0 m 92 ls [.int r_101, .int vy_32, .ref (Ca 2)]) rfl ?_
            have hP : va_P D classes [((Ra 0), .inr (6, [.ref (Ra 1), .ref (Ra 2)])), ((Ra 1), .inl (tc 0, Rn, .inl (Rf 1))), ((Ra 2), .inl (tc 1, 64, .inr (.inl sv_95))), ((Ca 0), .inr (1, [.ref (Ta 0), .ref (Ca 2), .ref (Ca 3)])), ((Ca 2), .inl (tc 0, 25, .inl vy_33)), ((Ca 3), .inl (tc 0, 25, .inl vy_34)), ((Ta 0), .inr (9, [.int sv_88, .int (Av 1), .int (Av 2), .int (Av 3), .int sv_89, .int sv_90, .ref (Ta 1), .ref (Ta 2), .ref (Ta 3), .ref (Ta 4), .ref (Ta 5), .ref (Ta 6), .ref (Ta 7), .ref (Ta 8)])), ((Ta 1), .inl (tc 0, 10, .inl sv_60)), ((Ta 2), .inl (tc 0, 10, .inl sv_61)), ((Ta 3), .inl (tc 0, 6, .inl sv_91)), ((Ta 4), .inl (tc 0, 6, .inl g_83)), ((Ta 5), .inl (tc 0, 6, .inl sv_64)), ((Ta 6), .inl (tc 0, 6, .inl sv_92)), ((Ta 7), .inl (tc 0, 6, .inl sv_93)), ((Ta 8), .inl (tc 0, 6, .inl sv_94)), ((Aa 0), .inr (9, [.int (Av 0), .int (Av 1), .int (Av 2), .int (Av 3), .int (Av 4), .int (Av 5), .ref (Aa 1), .ref (Aa 2), .ref (Aa 3), .ref (Aa 4), .ref (Aa 5), .ref (Aa 6), .ref (Aa 7), .ref (Aa 8)])), ((Aa 1), .inl (tc 0, 10, .inl (Af 1))), ((Aa 2), .inl (tc 0, 10, .inl (Af 2))), ((Aa 3), .inl (tc 0, 6, .inl (Af 3))), ((Aa 4), .inl (tc 0, 6, .inl (Af 4))), ((Aa 5), .inl (tc 0, 6, .inl (Af 5))), ((Aa 6), .inl (tc 0, 6, .inl (Af 6))), ((Aa 7), .inl (tc 0, 6, .inl (Af 7))), ((Aa 8), .inl (tc 0, 6, .inl (Af 8)))] H := hP
            have hD : va_D A [((Ra 0), .inr (6, [.ref (Ra 1), .ref (Ra 2)])), ((Ra 1), .inl (tc 0, Rn, .inl (Rf 1))), ((Ra 2), .inl (tc 1, 64, .inr (.inl sv_95))), ((Ca 0), .inr (1, [.ref (Ta 0), .ref (Ca 2), .ref (Ca 3)])), ((Ca 2), .inl (tc 0, 25, .inl vy_33)), ((Ca 3), .inl (tc 0, 25, .inl vy_34)), ((Ta 0), .inr (9, [.int sv_88, .int (Av 1), .int (Av 2), .int (Av 3), .int sv_89, .int sv_90, .ref (Ta 1), .ref (Ta 2), .ref (Ta 3), .ref (Ta 4), .ref (Ta 5), .ref (Ta 6), .ref (Ta 7), .ref (Ta 8)])), ((Ta 1), .inl (tc 0, 10, .inl sv_60)), ((Ta 2), .inl (tc 0, 10, .inl sv_61)), ((Ta 3), .inl (tc 0, 6, .inl sv_91)), ((Ta 4), .inl (tc 0, 6, .inl g_83)), ((Ta 5), .inl (tc 0, 6, .inl sv_64)), ((Ta 6), .inl (tc 0, 6, .inl sv_92)), ((Ta 7), .inl (tc 0, 6, .inl sv_93)), ((Ta 8), .inl (tc 0, 6, .inl sv_94)), ((Aa 0), .inr (9, [.int (Av 0), .int (Av 1), .int (Av 2), .int (Av 3), .int (Av 4), .int (Av 5), .ref (Aa 1), .ref (Aa 2), .ref (Aa 3), .ref (Aa 4), .ref (Aa 5), .ref (Aa 6), .ref (Aa 7), .ref (Aa 8)])), ((Aa 1), .inl (tc 0, 10, .inl (Af 1))), ((Aa 2), .inl (tc 0, 10, .inl (Af 2))), ((Aa 3), .inl (tc 0, 6, .inl (Af 3))), ((Aa 4), .inl (tc 0, 6, .inl (Af 4))), ((Aa 5), .inl (tc 0, 6, .inl (Af 5))), ((Aa 6), .inl (tc 0, 6, .inl (Af 6))), ((Aa 7), .inl (tc 0, 6, .inl (Af 7))), ((Aa 8), .inl (tc 0, 6, .inl (Af 8)))] := hD
            have hi_103 : vp_in vy_32 25 := by
              have z_1 : ¬ (r_4 : Int32).toInt = (0 : Int32).toInt := fun z => c_6 (Int32.toInt_inj.mp z)
              have z_2 : ¬ (r_10 : Int32).toInt = (0 : Int32).toInt := fun z => c_12 (Int32.toInt_inj.mp z)
              have z_3 := Int32.lt_iff_toInt_lt.mp (Int32.not_le.mp c_56)
              have y_0 : (0 : Int32).toInt = 0 := by decide
              have y_25 : (25 : Int32).toInt = 25 := by decide
              refine vp_in_iff.mpr ⟨?_, ?_⟩ <;> omega
            refine st_int hx hb hK hP hD hS 4 0 rfl rfl hi_103 dX1_playAll_92 (fun g_104 H locs eg_104 hP hD hS => ?_)
            have hP : va_P D classes [((Ra 0), .inr (6, [.ref (Ra 1), .ref (Ra 2)])), ((Ra 1), .inl (tc 0, Rn, .inl (Rf 1))), ((Ra 2), .inl (tc 1, 64, .inr (.inl sv_95))), ((Ca 0), .inr (1, [.ref (Ta 0), .ref (Ca 2), .ref (Ca 3)])), ((Ca 2), .inl (tc 0, 25, .inl g_104)), ((Ca 3), .inl (tc 0, 25, .inl vy_34)), ((Ta 0), .inr (9, [.int sv_88, .int (Av 1), .int (Av 2), .int (Av 3), .int sv_89, .int sv_90, .ref (Ta 1), .ref (Ta 2), .ref (Ta 3), .ref (Ta 4), .ref (Ta 5), .ref (Ta 6), .ref (Ta 7), .ref (Ta 8)])), ((Ta 1), .inl (tc 0, 10, .inl sv_60)), ((Ta 2), .inl (tc 0, 10, .inl sv_61)), ((Ta 3), .inl (tc 0, 6, .inl sv_91)), ((Ta 4), .inl (tc 0, 6, .inl g_83)), ((Ta 5), .inl (tc 0, 6, .inl sv_64)), ((Ta 6), .inl (tc 0, 6, .inl sv_92)), ((Ta 7), .inl (tc 0, 6, .inl sv_93)), ((Ta 8), .inl (tc 0, 6, .inl sv_94)), ((Aa 0), .inr (9, [.int (Av 0), .int (Av 1), .int (Av 2), .int (Av 3), .int (Av 4), .int (Av 5), .ref (Aa 1), .ref (Aa 2), .ref (Aa 3), .ref (Aa 4), .ref (Aa 5), .ref (Aa 6), .ref (Aa 7), .ref (Aa 8)])), ((Aa 1), .inl (tc 0, 10, .inl (Af 1))), ((Aa 2), .inl (tc 0, 10, .inl (Af 2))), ((Aa 3), .inl (tc 0, 6, .inl (Af 3))), ((Aa 4), .inl (tc 0, 6, .inl (Af 4))), ((Aa 5), .inl (tc 0, 6, .inl (Af 5))), ((Aa 6), .inl (tc 0, 6, .inl (Af 6))), ((Aa 7), .inl (tc 0, 6, .inl (Af 7))), ((Aa 8), .inl (tc 0, 6, .inl (Af 8)))] H := hP
            have hD : va_D A [((Ra 0), .inr (6, [.ref (Ra 1), .ref (Ra 2)])), ((Ra 1), .inl (tc 0, Rn, .inl (Rf 1))), ((Ra 2), .inl (tc 1, 64, .inr (.inl sv_95))), ((Ca 0), .inr (1, [.ref (Ta 0), .ref (Ca 2), .ref (Ca 3)])), ((Ca 2), .inl (tc 0, 25, .inl g_104)), ((Ca 3), .inl (tc 0, 25, .inl vy_34)), ((Ta 0), .inr (9, [.int sv_88, .int (Av 1), .int (Av 2), .int (Av 3), .int sv_89, .int sv_90, .ref (Ta 1), .ref (Ta 2), .ref (Ta 3), .ref (Ta 4), .ref (Ta 5), .ref (Ta 6), .ref (Ta 7), .ref (Ta 8)])), ((Ta 1), .inl (tc 0, 10, .inl sv_60)), ((Ta 2), .inl (tc 0, 10, .inl sv_61)), ((Ta 3), .inl (tc 0, 6, .inl sv_91)), ((Ta 4), .inl (tc 0, 6, .inl g_83)), ((Ta 5), .inl (tc 0, 6, .inl sv_64)), ((Ta 6), .inl (tc 0, 6, .inl sv_92)), ((Ta 7), .inl (tc 0, 6, .inl sv_93)), ((Ta 8), .inl (tc 0, 6, .inl sv_94)), ((Aa 0), .inr (9, [.int (Av 0), .int (Av 1), .int (Av 2), .int (Av 3), .int (Av 4), .int (Av 5), .ref (Aa 1), .ref (Aa 2), .ref (Aa 3), .ref (Aa 4), .ref (Aa 5), .ref (Aa 6), .ref (Aa 7), .ref (Aa 8)])), ((Aa 1), .inl (tc 0, 10, .inl (Af 1))), ((Aa 2), .inl (tc 0, 10, .inl (Af 2))), ((Aa 3), .inl (tc 0, 6, .inl (Af 3))), ((Aa 4), .inl (tc 0, 6, .inl (Af 4))), ((Aa 5), .inl (tc 0, 6, .inl (Af 5))), ((Aa 6), .inl (tc 0, 6, .inl (Af 6))), ((Aa 7), .inl (tc 0, 6, .inl (Af 7))), ((Aa 8), .inl (tc 0, 6, .inl (Af 8)))] := hD
            refine lv_aload_n hx hb dX1_playAll_93 rfl (lv_at hl 1 rfl) ?_
            refine gf_X1_22 hx hb hts hown hK hP 3 rfl rfl dX1_playAll_94 ?_
            refine lv_iload hx hb dX1_playAll_97 (lv_at hl 0 rfl) ?_
            refine lv_aload_n hx hb dX1_playAll_99 rfl (lv_at hl 1 rfl) ?_
            refine lv_aload_n hx hb dX1_playAll_100 rfl (lv_at hl 2 rfl) ?_
            refine lv_iload hx hb dX1_playAll_101 (lv_at hl 5 rfl) ?_
            refine cV (a := (Ca 0)) (As := [.ref (Aa 0), .int x2]) (rest := [.int vy_32, .ref (Ca 3)]) (wr := [((Ra 0), .inr (6, [.ref (Ra 1), .ref (Ra 2)])), ((Ra 1), .inl (tc 0, Rn, .inl (Rf 1))), ((Ra 2), .inl (tc 1, 64, .inr (.inl sv_95)))]) ⟨hx, hb, hml, hown, hts⟩ hK hX hA (cu_X1_gain l D tc sk (Ca 0) (Ca 2) (Ca 3) g_104 vy_34 (Ta 0) (Ta 1) (Ta 2) (Ta 3) (Ta 4) (Ta 5) (Ta 6) (Ta 7) (Ta 8) sv_88 (Av 1) (Av 2) (Av 3) sv_89 sv_90 sv_60 sv_61 sv_91 g_83 sv_64 sv_92 sv_93 sv_94 (Aa 0) (Aa 1) (Aa 2) (Aa 3) (Aa 4) (Aa 5) (Aa 6) (Aa 7) (Aa 8) (Av 0) (Av 1) (Av 2) (Av 3) (Av 4) (Av 5) (Af 1) (Af 2) (Af 3) (Af 4) (Af 5) (Af 6) (Af 7) (Af 8) x2) k_936 k_933 k_935 k_17 k_104 pl_X1_gain ⟨Nat.le_of_ble_eq_true rfl, Nat.le_of_ble_eq_true rfl⟩ rfl rfl (va_recv hK hP (ci := 1) (q0 := 3) rfl rfl) hP hD hS [3, 4, 5, 6, 7, 8, 9, 10, 11, 12, 13, 14, 15, 16, 17, 18, 19, 20, 21, 22, 23] [0, 1, 2] rfl rfl rfl rfl rfl (by decide) rfl hl.1 rfl (Nat.le_of_ble_eq_true rfl) dX1_playAll_103 ⟨Nat.le_of_ble_eq_true rfl, Nat.le_of_ble_eq_true rfl⟩ (fun v_105 u_106 H locs hv_107 hP hD hS => ?_)
            obtain ⟨r_108, rfl, he_109⟩ := hv_107
            have he_109 : (True) := he_109
            refine W.eq (g2 := F0 m 106 ls [.int r_108, .int vy_32, .ref (Ca 3)]) rfl ?_
            have hP : va_P D classes [((Ra 0), .inr (6, [.ref (Ra 1), .ref (Ra 2)])), ((Ra 1), .inl (tc 0, Rn, .inl (Rf 1))), ((Ra 2), .inl (tc 1, 64, .inr (.inl sv_95))), ((Ca 0), .inr (1, [.ref (Ta 0), .ref (Ca 2), .ref (Ca 3)])), ((Ca 2), .inl (tc 0, 25, .inl g_104)), ((Ca 3), .inl (tc 0, 25, .inl vy_34)), ((Ta 0), .inr (9, [.int sv_88, .int (Av 1), .int (Av 2), .int (Av 3), .int sv_89, .int sv_90, .ref (Ta 1), .ref (Ta 2), .ref (Ta 3), .ref (Ta 4), .ref (Ta 5), .ref (Ta 6), .ref (Ta 7), .ref (Ta 8)])), ((Ta 1), .inl (tc 0, 10, .inl sv_60)), ((Ta 2), .inl (tc 0, 10, .inl sv_61)), ((Ta 3), .inl (tc 0, 6, .inl sv_91)), ((Ta 4), .inl (tc 0, 6, .inl g_83)), ((Ta 5), .inl (tc 0, 6, .inl sv_64)), ((Ta 6), .inl (tc 0, 6, .inl sv_92)), ((Ta 7), .inl (tc 0, 6, .inl sv_93)), ((Ta 8), .inl (tc 0, 6, .inl sv_94)), ((Aa 0), .inr (9, [.int (Av 0), .int (Av 1), .int (Av 2), .int (Av 3), .int (Av 4), .int (Av 5), .ref (Aa 1), .ref (Aa 2), .ref (Aa 3), .ref (Aa 4), .ref (Aa 5), .ref (Aa 6), .ref (Aa 7), .ref (Aa 8)])), ((Aa 1), .inl (tc 0, 10, .inl (Af 1))), ((Aa 2), .inl (tc 0, 10, .inl (Af 2))), ((Aa 3), .inl (tc 0, 6, .inl (Af 3))), ((Aa 4), .inl (tc 0, 6, .inl (Af 4))), ((Aa 5), .inl (tc 0, 6, .inl (Af 5))), ((Aa 6), .inl (tc 0, 6, .inl (Af 6))), ((Aa 7), .inl (tc 0, 6, .inl (Af 7))), ((Aa 8), .inl (tc 0, 6, .inl (Af 8)))] H := hP
            have hD : va_D A [((Ra 0), .inr (6, [.ref (Ra 1), .ref (Ra 2)])), ((Ra 1), .inl (tc 0, Rn, .inl (Rf 1))), ((Ra 2), .inl (tc 1, 64, .inr (.inl sv_95))), ((Ca 0), .inr (1, [.ref (Ta 0), .ref (Ca 2), .ref (Ca 3)])), ((Ca 2), .inl (tc 0, 25, .inl g_104)), ((Ca 3), .inl (tc 0, 25, .inl vy_34)), ((Ta 0), .inr (9, [.int sv_88, .int (Av 1), .int (Av 2), .int (Av 3), .int sv_89, .int sv_90, .ref (Ta 1), .ref (Ta 2), .ref (Ta 3), .ref (Ta 4), .ref (Ta 5), .ref (Ta 6), .ref (Ta 7), .ref (Ta 8)])), ((Ta 1), .inl (tc 0, 10, .inl sv_60)), ((Ta 2), .inl (tc 0, 10, .inl sv_61)), ((Ta 3), .inl (tc 0, 6, .inl sv_91)), ((Ta 4), .inl (tc 0, 6, .inl g_83)), ((Ta 5), .inl (tc 0, 6, .inl sv_64)), ((Ta 6), .inl (tc 0, 6, .inl sv_92)), ((Ta 7), .inl (tc 0, 6, .inl sv_93)), ((Ta 8), .inl (tc 0, 6, .inl sv_94)), ((Aa 0), .inr (9, [.int (Av 0), .int (Av 1), .int (Av 2), .int (Av 3), .int (Av 4), .int (Av 5), .ref (Aa 1), .ref (Aa 2), .ref (Aa 3), .ref (Aa 4), .ref (Aa 5), .ref (Aa 6), .ref (Aa 7), .ref (Aa 8)])), ((Aa 1), .inl (tc 0, 10, .inl (Af 1))), ((Aa 2), .inl (tc 0, 10, .inl (Af 2))), ((Aa 3), .inl (tc 0, 6, .inl (Af 3))), ((Aa 4), .inl (tc 0, 6, .inl (Af 4))), ((Aa 5), .inl (tc 0, 6, .inl (Af 5))), ((Aa 6), .inl (tc 0, 6, .inl (Af 6))), ((Aa 7), .inl (tc 0, 6, .inl (Af 7))), ((Aa 8), .inl (tc 0, 6, .inl (Af 8)))] := hD
            have hi_110 : vp_in vy_32 25 := by
              have z_1 : ¬ (r_4 : Int32).toInt = (0 : Int32).toInt := fun z => c_6 (Int32.toInt_inj.mp z)
              have z_2 : ¬ (r_10 : Int32).toInt = (0 : Int32).toInt := fun z => c_12 (Int32.toInt_inj.mp z)
              have z_3 := Int32.lt_iff_toInt_lt.mp (Int32.not_le.mp c_56)
              have y_0 : (0 : Int32).toInt = 0 := by decide
              have y_25 : (25 : Int32).toInt = 25 := by decide
              refine vp_in_iff.mpr ⟨?_, ?_⟩ <;> omega
            refine st_int hx hb hK hP hD hS 5 0 rfl rfl hi_110 dX1_playAll_106 (fun g_111 H locs eg_111 hP hD hS => ?_)
            have hP : va_P D classes [((Ra 0), .inr (6, [.ref (Ra 1), .ref (Ra 2)])), ((Ra 1), .inl (tc 0, Rn, .inl (Rf 1))), ((Ra 2), .inl (tc 1, 64, .inr (.inl sv_95))), ((Ca 0), .inr (1, [.ref (Ta 0), .ref (Ca 2), .ref (Ca 3)])), ((Ca 2), .inl (tc 0, 25, .inl g_104)), ((Ca 3), .inl (tc 0, 25, .inl g_111)), ((Ta 0), .inr (9, [.int sv_88, .int (Av 1), .int (Av 2), .int (Av 3), .int sv_89, .int sv_90, .ref (Ta 1), .ref (Ta 2), .ref (Ta 3), .ref (Ta 4), .ref (Ta 5), .ref (Ta 6), .ref (Ta 7), .ref (Ta 8)])), ((Ta 1), .inl (tc 0, 10, .inl sv_60)), ((Ta 2), .inl (tc 0, 10, .inl sv_61)), ((Ta 3), .inl (tc 0, 6, .inl sv_91)), ((Ta 4), .inl (tc 0, 6, .inl g_83)), ((Ta 5), .inl (tc 0, 6, .inl sv_64)), ((Ta 6), .inl (tc 0, 6, .inl sv_92)), ((Ta 7), .inl (tc 0, 6, .inl sv_93)), ((Ta 8), .inl (tc 0, 6, .inl sv_94)), ((Aa 0), .inr (9, [.int (Av 0), .int (Av 1), .int (Av 2), .int (Av 3), .int (Av 4), .int (Av 5), .ref (Aa 1), .ref (Aa 2), .ref (Aa 3), .ref (Aa 4), .ref (Aa 5), .ref (Aa 6), .ref (Aa 7), .ref (Aa 8)])), ((Aa 1), .inl (tc 0, 10, .inl (Af 1))), ((Aa 2), .inl (tc 0, 10, .inl (Af 2))), ((Aa 3), .inl (tc 0, 6, .inl (Af 3))), ((Aa 4), .inl (tc 0, 6, .inl (Af 4))), ((Aa 5), .inl (tc 0, 6, .inl (Af 5))), ((Aa 6), .inl (tc 0, 6, .inl (Af 6))), ((Aa 7), .inl (tc 0, 6, .inl (Af 7))), ((Aa 8), .inl (tc 0, 6, .inl (Af 8)))] H := hP
            have hD : va_D A [((Ra 0), .inr (6, [.ref (Ra 1), .ref (Ra 2)])), ((Ra 1), .inl (tc 0, Rn, .inl (Rf 1))), ((Ra 2), .inl (tc 1, 64, .inr (.inl sv_95))), ((Ca 0), .inr (1, [.ref (Ta 0), .ref (Ca 2), .ref (Ca 3)])), ((Ca 2), .inl (tc 0, 25, .inl g_104)), ((Ca 3), .inl (tc 0, 25, .inl g_111)), ((Ta 0), .inr (9, [.int sv_88, .int (Av 1), .int (Av 2), .int (Av 3), .int sv_89, .int sv_90, .ref (Ta 1), .ref (Ta 2), .ref (Ta 3), .ref (Ta 4), .ref (Ta 5), .ref (Ta 6), .ref (Ta 7), .ref (Ta 8)])), ((Ta 1), .inl (tc 0, 10, .inl sv_60)), ((Ta 2), .inl (tc 0, 10, .inl sv_61)), ((Ta 3), .inl (tc 0, 6, .inl sv_91)), ((Ta 4), .inl (tc 0, 6, .inl g_83)), ((Ta 5), .inl (tc 0, 6, .inl sv_64)), ((Ta 6), .inl (tc 0, 6, .inl sv_92)), ((Ta 7), .inl (tc 0, 6, .inl sv_93)), ((Ta 8), .inl (tc 0, 6, .inl sv_94)), ((Aa 0), .inr (9, [.int (Av 0), .int (Av 1), .int (Av 2), .int (Av 3), .int (Av 4), .int (Av 5), .ref (Aa 1), .ref (Aa 2), .ref (Aa 3), .ref (Aa 4), .ref (Aa 5), .ref (Aa 6), .ref (Aa 7), .ref (Aa 8)])), ((Aa 1), .inl (tc 0, 10, .inl (Af 1))), ((Aa 2), .inl (tc 0, 10, .inl (Af 2))), ((Aa 3), .inl (tc 0, 6, .inl (Af 3))), ((Aa 4), .inl (tc 0, 6, .inl (Af 4))), ((Aa 5), .inl (tc 0, 6, .inl (Af 5))), ((Aa 6), .inl (tc 0, 6, .inl (Af 6))), ((Aa 7), .inl (tc 0, 6, .inl (Af 7))), ((Aa 8), .inl (tc 0, 6, .inl (Af 8)))] := hD
            obtain ⟨x_112, ex_112⟩ : ∃ y : Int32, y = vy_32 + 1 := ⟨_, rfl⟩
            refine lv_iinc (v := x_112) (lv' := [(6, .int x_112), (0, .ref (Ca 0)), (1, .ref (Aa 0)), (2, .ref (Ra 0)), (3, .int x1), (4, .int x2), (5, .int x3)]) hx hb dX1_playAll_107 hl (k := 0) rfl (by rw [ex_112]; rfl) (by decide) rfl (fun ls hl => ?_)
            refine lv_goto (tgt := 21) hx hb dX1_playAll_110 (by decide) ?_
            have hb_113 : 0 ≤ (x_112 : Int32).toInt ∧ (25 - (x_112 : Int32).toInt).toNat < n_50 := by
              have z_1 : ¬ (r_4 : Int32).toInt = (0 : Int32).toInt := fun z => c_6 (Int32.toInt_inj.mp z)
              have z_2 : ¬ (r_10 : Int32).toInt = (0 : Int32).toInt := fun z => c_12 (Int32.toInt_inj.mp z)
              have z_3 := Int32.lt_iff_toInt_lt.mp (Int32.not_le.mp c_56)
              have y_0 : (0 : Int32).toInt = 0 := by decide
              have y_25 : (25 : Int32).toInt = 25 := by decide
              have y_1 : (1 : Int32).toInt = 1 := by decide
              have t_x_112 : x_112.toInt = (vy_32 : Int32).toInt + (1 : Int32).toInt := by rw [ex_112]; exact add_toInt (by omega) (by omega)
              omega
            exact ih_51 x_112 g_104 g_111 sv_88 (Av 1) (Av 2) (Av 3) sv_89 sv_90 sv_60 sv_61 sv_91 g_83 sv_64 sv_92 sv_93 sv_94 sv_95 _ _ _ hb_113.1 hb_113.2 (hP.sub [3, 4, 5, 6, 7, 8, 9, 10, 11, 12, 13, 14, 0, 1, 2, 15, 16, 17, 18, 19, 20, 21, 22, 23] rfl) (hD.sub [3, 4, 5, 6, 7, 8, 9, 10, 11, 12, 13, 14, 0, 1, 2, 15, 16, 17, 18, 19, 20, 21, 22, 23] rfl rfl) hS (lv_sub hl [0, 1, 2, 3, 4, 5, 6] rfl)
      have h0_114 : 0 ≤ (0 : Int32).toInt := by
        have z_1 : ¬ (r_4 : Int32).toInt = (0 : Int32).toInt := fun z => c_6 (Int32.toInt_inj.mp z)
        have z_2 : ¬ (r_10 : Int32).toInt = (0 : Int32).toInt := fun z => c_12 (Int32.toInt_inj.mp z)
        have y_0 : (0 : Int32).toInt = 0 := by decide
        decide
      exact loop_52 _ 0 (Cf 2) (Cf 3) (Tv 0) (Tv 1) (Tv 2) (Tv 3) (Tv 4) (Tv 5) (Tf 1) (Tf 2) (Tf 3) (Tf 4) (Tf 5) (Tf 6) (Tf 7) (Tf 8) (Rg 2) _ _ _ h0_114 (Nat.lt_succ_self _) hP hD hS hl
    · skip
      exact retV hx hb hr hlk hP hD hS ((Cf 2), (Cf 3), (Tv 0), (Tv 1), (Tv 2), (Tv 3), (Tv 4), (Tv 5), (Tf 1), (Tf 2), (Tf 3), (Tf 4), (Tf 5), (Tf 6), (Tf 7), (Tf 8), (Rg 2)) rfl [0, 1, 2, 3, 4, 5, 6, 7, 8, 9, 10, 11, 15, 16, 17, 18, 19, 20, 21, 22, 23, 12, 13, 14] rfl rfl dX1_playAll_17 (Nat.le_of_ble_eq_true rfl) (Nat.le_of_ble_eq_true rfl) rfl
set_option maxRecDepth 100000 in
theorem cu_X1_playAll_r (l : Launch) (D : va_G) (tc : Nat → ClassId) (sk : (Nat → Nat) × (Nat → Nat)) (Ca_0 : Nat) (Ca_2 : Nat) (Ca_3 : Nat) (Cf_2 : Nat → Int32) (Cf_3 : Nat → Int32) (Ta_0 : Nat) (Ta_1 : Nat) (Ta_2 : Nat) (Ta_3 : Nat) (Ta_4 : Nat) (Ta_5 : Nat) (Ta_6 : Nat) (Ta_7 : Nat) (Ta_8 : Nat) (Tv_0 : Int32) (Tv_1 : Int32) (Tv_2 : Int32) (Tv_3 : Int32) (Tv_4 : Int32) (Tv_5 : Int32) (Tf_1 : Nat → Int32) (Tf_2 : Nat → Int32) (Tf_3 : Nat → Int32) (Tf_4 : Nat → Int32) (Tf_5 : Nat → Int32) (Tf_6 : Nat → Int32) (Tf_7 : Nat → Int32) (Tf_8 : Nat → Int32) (Aa_0 : Nat) (Aa_1 : Nat) (Aa_2 : Nat) (Aa_3 : Nat) (Aa_4 : Nat) (Aa_5 : Nat) (Aa_6 : Nat) (Aa_7 : Nat) (Aa_8 : Nat) (Av_0 : Int32) (Av_1 : Int32) (Av_2 : Int32) (Av_3 : Int32) (Av_4 : Int32) (Av_5 : Int32) (Af_1 : Nat → Int32) (Af_2 : Nat → Int32) (Af_3 : Nat → Int32) (Af_4 : Nat → Int32) (Af_5 : Nat → Int32) (Af_6 : Nat → Int32) (Af_7 : Nat → Int32) (Af_8 : Nat → Int32) (Ra_0 : Nat) (Ra_1 : Nat) (Ra_2 : Nat) (Rf_1 : Nat → Int32) (Rg_2 : Nat → Int64) (Rn : Nat) (x1 : Int32) (x2 : Int32) (x3 : Int32) (hRn : Rn ≤ 400) : Ct l yX1_playAll cX1_playAll 7 none { frames := 6, cells := 0, slots := 0, locals := 140 } D tc sk [.ref Ca_0, .ref Aa_0, .ref Ra_0, .int x1, .int x2, .int x3] [(Ca_0, .inr (1, [.ref Ta_0, .ref Ca_2, .ref Ca_3])), (Ca_2, .inl (tc 0, 25, .inl Cf_2)), (Ca_3, .inl (tc 0, 25, .inl Cf_3)), (Ta_0, .inr (9, [.int Tv_0, .int Tv_1, .int Tv_2, .int Tv_3, .int Tv_4, .int Tv_5, .ref Ta_1, .ref Ta_2, .ref Ta_3, .ref Ta_4, .ref Ta_5, .ref Ta_6, .ref Ta_7, .ref Ta_8])), (Ta_1, .inl (tc 0, 10, .inl Tf_1)), (Ta_2, .inl (tc 0, 10, .inl Tf_2)), (Ta_3, .inl (tc 0, 6, .inl Tf_3)), (Ta_4, .inl (tc 0, 6, .inl Tf_4)), (Ta_5, .inl (tc 0, 6, .inl Tf_5)), (Ta_6, .inl (tc 0, 6, .inl Tf_6)), (Ta_7, .inl (tc 0, 6, .inl Tf_7)), (Ta_8, .inl (tc 0, 6, .inl Tf_8)), (Aa_0, .inr (9, [.int Av_0, .int Av_1, .int Av_2, .int Av_3, .int Av_4, .int Av_5, .ref Aa_1, .ref Aa_2, .ref Aa_3, .ref Aa_4, .ref Aa_5, .ref Aa_6, .ref Aa_7, .ref Aa_8])), (Aa_1, .inl (tc 0, 10, .inl Af_1)), (Aa_2, .inl (tc 0, 10, .inl Af_2)), (Aa_3, .inl (tc 0, 6, .inl Af_3)), (Aa_4, .inl (tc 0, 6, .inl Af_4)), (Aa_5, .inl (tc 0, 6, .inl Af_5)), (Aa_6, .inl (tc 0, 6, .inl Af_6)), (Aa_7, .inl (tc 0, 6, .inl Af_7)), (Aa_8, .inl (tc 0, 6, .inl Af_8)), (Ra_0, .inr (6, [.ref Ra_1, .ref Ra_2])), (Ra_1, .inl (tc 0, Rn, .inl Rf_1)), (Ra_2, .inl (tc 1, 64, .inr (.inl Rg_2)))] (fun (v : Option Value) (u : (Nat → Int32) × (Nat → Int32) × (Int32) × (Int32) × (Int32) × (Int32) × (Int32) × (Int32) × (Nat → Int32) × (Nat → Int32) × (Nat → Int32) × (Nat → Int32) × (Nat → Int32) × (Nat → Int32) × (Nat → Int32) × (Nat → Int32) × (Nat → Int64)) => match u with | (o1, o2, o3, o4, o5, o6, o7, o8, o9, o10, o11, o12, o13, o14, o15, o16, o17) => v = none) (fun (u : (Nat → Int32) × (Nat → Int32) × (Int32) × (Int32) × (Int32) × (Int32) × (Int32) × (Int32) × (Nat → Int32) × (Nat → Int32) × (Nat → Int32) × (Nat → Int32) × (Nat → Int32) × (Nat → Int32) × (Nat → Int32) × (Nat → Int32) × (Nat → Int64)) => match u with | (o1, o2, o3, o4, o5, o6, o7, o8, o9, o10, o11, o12, o13, o14, o15, o16, o17) => [(Ca_0, .inr (1, [.ref Ta_0, .ref Ca_2, .ref Ca_3])), (Ca_2, .inl (tc 0, 25, .inl o1)), (Ca_3, .inl (tc 0, 25, .inl o2)), (Ta_0, .inr (9, [.int o3, .int o4, .int o5, .int o6, .int o7, .int o8, .ref Ta_1, .ref Ta_2, .ref Ta_3, .ref Ta_4, .ref Ta_5, .ref Ta_6, .ref Ta_7, .ref Ta_8])), (Ta_1, .inl (tc 0, 10, .inl o9)), (Ta_2, .inl (tc 0, 10, .inl o10)), (Ta_3, .inl (tc 0, 6, .inl o11)), (Ta_4, .inl (tc 0, 6, .inl o12)), (Ta_5, .inl (tc 0, 6, .inl o13)), (Ta_6, .inl (tc 0, 6, .inl o14)), (Ta_7, .inl (tc 0, 6, .inl o15)), (Ta_8, .inl (tc 0, 6, .inl o16)), (Aa_0, .inr (9, [.int Av_0, .int Av_1, .int Av_2, .int Av_3, .int Av_4, .int Av_5, .ref Aa_1, .ref Aa_2, .ref Aa_3, .ref Aa_4, .ref Aa_5, .ref Aa_6, .ref Aa_7, .ref Aa_8])), (Aa_1, .inl (tc 0, 10, .inl Af_1)), (Aa_2, .inl (tc 0, 10, .inl Af_2)), (Aa_3, .inl (tc 0, 6, .inl Af_3)), (Aa_4, .inl (tc 0, 6, .inl Af_4)), (Aa_5, .inl (tc 0, 6, .inl Af_5)), (Aa_6, .inl (tc 0, 6, .inl Af_6)), (Aa_7, .inl (tc 0, 6, .inl Af_7)), (Aa_8, .inl (tc 0, 6, .inl Af_8)), (Ra_0, .inr (6, [.ref Ra_1, .ref Ra_2])), (Ra_1, .inl (tc 0, Rn, .inl Rf_1)), (Ra_2, .inl (tc 1, 64, .inr (.inl o17)))]) 0 0 :=
  ct_X1_playAll_r l D tc sk (fun k => ([Ca_0, 0, Ca_2, Ca_3] : List (Nat)).getD k 0) (fun k => ([(fun _ => 0), (fun _ => 0), Cf_2, Cf_3] : List (Nat → Int32)).getD k (fun _ => 0)) (fun k => ([Ta_0, Ta_1, Ta_2, Ta_3, Ta_4, Ta_5, Ta_6, Ta_7, Ta_8] : List (Nat)).getD k 0) (fun k => ([Tv_0, Tv_1, Tv_2, Tv_3, Tv_4, Tv_5] : List (Int32)).getD k 0) (fun k => ([(fun _ => 0), Tf_1, Tf_2, Tf_3, Tf_4, Tf_5, Tf_6, Tf_7, Tf_8] : List (Nat → Int32)).getD k (fun _ => 0)) (fun k => ([Aa_0, Aa_1, Aa_2, Aa_3, Aa_4, Aa_5, Aa_6, Aa_7, Aa_8] : List (Nat)).getD k 0) (fun k => ([Av_0, Av_1, Av_2, Av_3, Av_4, Av_5] : List (Int32)).getD k 0) (fun k => ([(fun _ => 0), Af_1, Af_2, Af_3, Af_4, Af_5, Af_6, Af_7, Af_8] : List (Nat → Int32)).getD k (fun _ => 0)) (fun k => ([Ra_0, Ra_1, Ra_2] : List (Nat)).getD k 0) (fun k => ([(fun _ => 0), Rf_1] : List (Nat → Int32)).getD k (fun _ => 0)) (fun k => ([(fun _ => 0), (fun _ => 0), Rg_2] : List (Nat → Int64)).getD k (fun _ => 0)) Rn x1 x2 x3 hRn
theorem lenS_all : ∀ i, i < 7 → lenS.getD i 0 ≤ 75 := by decide
theorem lenS_le {i : Nat} (h : i < 7) : lenS.getD i 0 ≤ 75 := lenS_all i h
theorem nar_ch (b : Int32) : narrow .char (.int ((b &&& 255).toUInt32 % 65536).toInt32) = .int ((b &&& 255).toUInt32 % 65536).toInt32 := by rw [sc_c2]; exact sc_nar b
theorem dX10_add_0 : decode cX10_add 0 = .ok (.bipush 24, 2) := by decide +kernel
theorem dX10_add_2 : decode cX10_add 2 = .ok (.istore_n 2, 1) := by decide +kernel
theorem dX10_add_3 : decode cX10_add 3 = .ok (.iload_n 2, 1) := by decide +kernel
theorem dX10_add_4 : decode cX10_add 4 = .ok (.ifCond .lt 54, 3) := by decide +kernel
theorem dX10_add_7 : decode cX10_add 7 = .ok (.aload_n 0, 1) := by decide +kernel
theorem dX10_add_8 : decode cX10_add 8 = .ok (.getfield 15, 3) := by decide +kernel
theorem dX10_add_11 : decode cX10_add 11 = .ok (.ifCond .lt 41, 3) := by decide +kernel
theorem dX10_add_14 : decode cX10_add 14 = .ok (.aload_n 0, 1) := by decide +kernel
theorem dX10_add_15 : decode cX10_add 15 = .ok (.getfield 15, 3) := by decide +kernel
theorem dX10_add_18 : decode cX10_add 18 = .ok (.aload_n 0, 1) := by decide +kernel
theorem dX10_add_19 : decode cX10_add 19 = .ok (.getfield 9, 3) := by decide +kernel
theorem dX10_add_22 : decode cX10_add 22 = .ok (.arraylength, 1) := by decide +kernel
theorem dX10_add_23 : decode cX10_add 23 = .ok (.if_icmp .ge 29, 3) := by decide +kernel
theorem dX10_add_26 : decode cX10_add 26 = .ok (.aload_n 0, 1) := by decide +kernel
theorem dX10_add_27 : decode cX10_add 27 = .ok (.getfield 9, 3) := by decide +kernel
theorem dX10_add_30 : decode cX10_add 30 = .ok (.aload_n 0, 1) := by decide +kernel
theorem dX10_add_31 : decode cX10_add 31 = .ok (.getfield 15, 3) := by decide +kernel
theorem dX10_add_34 : decode cX10_add 34 = .ok (.iload_n 1, 1) := by decide +kernel
theorem dX10_add_35 : decode cX10_add 35 = .ok (.iload_n 2, 1) := by decide +kernel
theorem dX10_add_36 : decode cX10_add 36 = .ok (.iushr, 1) := by decide +kernel
theorem dX10_add_37 : decode cX10_add 37 = .ok (.sipush 255, 3) := by decide +kernel
theorem dX10_add_40 : decode cX10_add 40 = .ok (.iand, 1) := by decide +kernel
theorem dX10_add_41 : decode cX10_add 41 = .ok (.iastore, 1) := by decide +kernel
theorem dX10_add_42 : decode cX10_add 42 = .ok (.aload_n 0, 1) := by decide +kernel
theorem dX10_add_43 : decode cX10_add 43 = .ok (.dup, 1) := by decide +kernel
theorem dX10_add_44 : decode cX10_add 44 = .ok (.getfield 15, 3) := by decide +kernel
theorem dX10_add_47 : decode cX10_add 47 = .ok (.iconst 1, 1) := by decide +kernel
theorem dX10_add_48 : decode cX10_add 48 = .ok (.iadd, 1) := by decide +kernel
theorem dX10_add_49 : decode cX10_add 49 = .ok (.putfield 15, 3) := by decide +kernel
theorem dX10_add_52 : decode cX10_add 52 = .ok (.iinc 2 (-8), 3) := by decide +kernel
theorem dX10_add_55 : decode cX10_add 55 = .ok (.goto (-52), 3) := by decide +kernel
theorem dX10_add_58 : decode cX10_add 58 = .ok (.return_, 1) := by decide +kernel
theorem dX10_begin_0 : decode cX10_begin 0 = .ok (.aload_n 0, 1) := by decide +kernel
theorem dX10_begin_1 : decode cX10_begin 1 = .ok (.iconst 0, 1) := by decide +kernel
theorem dX10_begin_2 : decode cX10_begin 2 = .ok (.putfield 28, 3) := by decide +kernel
theorem dX10_begin_5 : decode cX10_begin 5 = .ok (.aload_n 0, 1) := by decide +kernel
theorem dX10_begin_6 : decode cX10_begin 6 = .ok (.iconst 0, 1) := by decide +kernel
theorem dX10_begin_7 : decode cX10_begin 7 = .ok (.putfield 22, 3) := by decide +kernel
theorem dX10_begin_10 : decode cX10_begin 10 = .ok (.aload_n 0, 1) := by decide +kernel
theorem dX10_begin_11 : decode cX10_begin 11 = .ok (.invokevirtual 31, 3) := by decide +kernel
theorem dX10_begin_14 : decode cX10_begin 14 = .ok (.return_, 1) := by decide +kernel
theorem dX10_byteAt_0 : decode cX10_byteAt 0 = .ok (.iload_n 1, 1) := by decide +kernel
theorem dX10_byteAt_1 : decode cX10_byteAt 1 = .ok (.ifCond .lt 29, 3) := by decide +kernel
theorem dX10_byteAt_4 : decode cX10_byteAt 4 = .ok (.iload_n 1, 1) := by decide +kernel
theorem dX10_byteAt_5 : decode cX10_byteAt 5 = .ok (.aload_n 0, 1) := by decide +kernel
theorem dX10_byteAt_6 : decode cX10_byteAt 6 = .ok (.getfield 15, 3) := by decide +kernel
theorem dX10_byteAt_9 : decode cX10_byteAt 9 = .ok (.if_icmp .ge 21, 3) := by decide +kernel
theorem dX10_byteAt_12 : decode cX10_byteAt 12 = .ok (.iload_n 1, 1) := by decide +kernel
theorem dX10_byteAt_13 : decode cX10_byteAt 13 = .ok (.aload_n 0, 1) := by decide +kernel
theorem dX10_byteAt_14 : decode cX10_byteAt 14 = .ok (.getfield 9, 3) := by decide +kernel
theorem dX10_byteAt_17 : decode cX10_byteAt 17 = .ok (.arraylength, 1) := by decide +kernel
theorem dX10_byteAt_18 : decode cX10_byteAt 18 = .ok (.if_icmp .ge 12, 3) := by decide +kernel
theorem dX10_byteAt_21 : decode cX10_byteAt 21 = .ok (.aload_n 0, 1) := by decide +kernel
theorem dX10_byteAt_22 : decode cX10_byteAt 22 = .ok (.getfield 9, 3) := by decide +kernel
theorem dX10_byteAt_25 : decode cX10_byteAt 25 = .ok (.iload_n 1, 1) := by decide +kernel
theorem dX10_byteAt_26 : decode cX10_byteAt 26 = .ok (.iaload, 1) := by decide +kernel
theorem dX10_byteAt_27 : decode cX10_byteAt 27 = .ok (.goto 4, 3) := by decide +kernel
theorem dX10_byteAt_30 : decode cX10_byteAt 30 = .ok (.iconst (-1), 1) := by decide +kernel
theorem dX10_byteAt_31 : decode cX10_byteAt 31 = .ok (.ireturn, 1) := by decide +kernel
theorem dX10_fail_0 : decode cX10_fail 0 = .ok (.aload_n 0, 1) := by decide +kernel
theorem dX10_fail_1 : decode cX10_fail 1 = .ok (.getfield 28, 3) := by decide +kernel
theorem dX10_fail_4 : decode cX10_fail 4 = .ok (.ifCond .ne 23, 3) := by decide +kernel
theorem dX10_fail_7 : decode cX10_fail 7 = .ok (.aload_n 0, 1) := by decide +kernel
theorem dX10_fail_8 : decode cX10_fail 8 = .ok (.iconst 1, 1) := by decide +kernel
theorem dX10_fail_9 : decode cX10_fail 9 = .ok (.bipush 8, 2) := by decide +kernel
theorem dX10_fail_11 : decode cX10_fail 11 = .ok (.aload_n 0, 1) := by decide +kernel
theorem dX10_fail_12 : decode cX10_fail 12 = .ok (.getfield 19, 3) := by decide +kernel
theorem dX10_fail_15 : decode cX10_fail 15 = .ok (.imul, 1) := by decide +kernel
theorem dX10_fail_16 : decode cX10_fail 16 = .ok (.iadd, 1) := by decide +kernel
theorem dX10_fail_17 : decode cX10_fail 17 = .ok (.iload_n 1, 1) := by decide +kernel
theorem dX10_fail_18 : decode cX10_fail 18 = .ok (.iadd, 1) := by decide +kernel
theorem dX10_fail_19 : decode cX10_fail 19 = .ok (.putfield 28, 3) := by decide +kernel
theorem dX10_fail_22 : decode cX10_fail 22 = .ok (.aload_n 0, 1) := by decide +kernel
theorem dX10_fail_23 : decode cX10_fail 23 = .ok (.iconst (-1), 1) := by decide +kernel
theorem dX10_fail_24 : decode cX10_fail 24 = .ok (.putfield 25, 3) := by decide +kernel
theorem dX10_fail_27 : decode cX10_fail 27 = .ok (.return_, 1) := by decide +kernel
theorem dX10_finish_0 : decode cX10_finish 0 = .ok (.aload_n 0, 1) := by decide +kernel
theorem dX10_finish_1 : decode cX10_finish 1 = .ok (.getfield 19, 3) := by decide +kernel
theorem dX10_finish_4 : decode cX10_finish 4 = .ok (.aload_n 0, 1) := by decide +kernel
theorem dX10_finish_5 : decode cX10_finish 5 = .ok (.getfield 15, 3) := by decide +kernel
theorem dX10_finish_8 : decode cX10_finish 8 = .ok (.if_icmp .ge 8, 3) := by decide +kernel
theorem dX10_finish_11 : decode cX10_finish 11 = .ok (.aload_n 0, 1) := by decide +kernel
theorem dX10_finish_12 : decode cX10_finish 12 = .ok (.iconst 0, 1) := by decide +kernel
theorem dX10_finish_13 : decode cX10_finish 13 = .ok (.invokevirtual 62, 3) := by decide +kernel
theorem dX10_finish_16 : decode cX10_finish 16 = .ok (.return_, 1) := by decide +kernel
theorem dX10_hasRoom_0 : decode cX10_hasRoom 0 = .ok (.aload_n 0, 1) := by decide +kernel
theorem dX10_hasRoom_1 : decode cX10_hasRoom 1 = .ok (.getfield 15, 3) := by decide +kernel
theorem dX10_hasRoom_4 : decode cX10_hasRoom 4 = .ok (.bipush 20, 2) := by decide +kernel
theorem dX10_hasRoom_6 : decode cX10_hasRoom 6 = .ok (.iadd, 1) := by decide +kernel
theorem dX10_hasRoom_7 : decode cX10_hasRoom 7 = .ok (.aload_n 0, 1) := by decide +kernel
theorem dX10_hasRoom_8 : decode cX10_hasRoom 8 = .ok (.getfield 9, 3) := by decide +kernel
theorem dX10_hasRoom_11 : decode cX10_hasRoom 11 = .ok (.arraylength, 1) := by decide +kernel
theorem dX10_hasRoom_12 : decode cX10_hasRoom 12 = .ok (.if_icmp .gt 7, 3) := by decide +kernel
theorem dX10_hasRoom_15 : decode cX10_hasRoom 15 = .ok (.iconst 1, 1) := by decide +kernel
theorem dX10_hasRoom_16 : decode cX10_hasRoom 16 = .ok (.goto 4, 3) := by decide +kernel
theorem dX10_hasRoom_19 : decode cX10_hasRoom 19 = .ok (.iconst 0, 1) := by decide +kernel
theorem dX10_hasRoom_20 : decode cX10_hasRoom 20 = .ok (.ireturn, 1) := by decide +kernel
theorem dX10_isDigit_0 : decode cX10_isDigit 0 = .ok (.iload_n 0, 1) := by decide +kernel
theorem dX10_isDigit_1 : decode cX10_isDigit 1 = .ok (.bipush 48, 2) := by decide +kernel
theorem dX10_isDigit_3 : decode cX10_isDigit 3 = .ok (.if_icmp .lt 13, 3) := by decide +kernel
theorem dX10_isDigit_6 : decode cX10_isDigit 6 = .ok (.iload_n 0, 1) := by decide +kernel
theorem dX10_isDigit_7 : decode cX10_isDigit 7 = .ok (.bipush 57, 2) := by decide +kernel
theorem dX10_isDigit_9 : decode cX10_isDigit 9 = .ok (.if_icmp .gt 7, 3) := by decide +kernel
theorem dX10_isDigit_12 : decode cX10_isDigit 12 = .ok (.iconst 1, 1) := by decide +kernel
theorem dX10_isDigit_13 : decode cX10_isDigit 13 = .ok (.goto 4, 3) := by decide +kernel
theorem dX10_isDigit_16 : decode cX10_isDigit 16 = .ok (.iconst 0, 1) := by decide +kernel
theorem dX10_isDigit_17 : decode cX10_isDigit 17 = .ok (.ireturn, 1) := by decide +kernel
theorem dX10_isLetter_0 : decode cX10_isLetter 0 = .ok (.iload_n 0, 1) := by decide +kernel
theorem dX10_isLetter_1 : decode cX10_isLetter 1 = .ok (.bipush 97, 2) := by decide +kernel
theorem dX10_isLetter_3 : decode cX10_isLetter 3 = .ok (.if_icmp .lt 13, 3) := by decide +kernel
theorem dX10_isLetter_6 : decode cX10_isLetter 6 = .ok (.iload_n 0, 1) := by decide +kernel
theorem dX10_isLetter_7 : decode cX10_isLetter 7 = .ok (.bipush 122, 2) := by decide +kernel
theorem dX10_isLetter_9 : decode cX10_isLetter 9 = .ok (.if_icmp .gt 7, 3) := by decide +kernel
theorem dX10_isLetter_12 : decode cX10_isLetter 12 = .ok (.iconst 1, 1) := by decide +kernel
theorem dX10_isLetter_13 : decode cX10_isLetter 13 = .ok (.goto 4, 3) := by decide +kernel
theorem dX10_isLetter_16 : decode cX10_isLetter 16 = .ok (.iconst 0, 1) := by decide +kernel
theorem dX10_isLetter_17 : decode cX10_isLetter 17 = .ok (.ireturn, 1) := by decide +kernel
theorem dX10_numberHere_0 : decode cX10_numberHere 0 = .ok (.aload_n 0, 1) := by decide +kernel
theorem dX10_numberHere_1 : decode cX10_numberHere 1 = .ok (.getfield 25, 3) := by decide +kernel
theorem dX10_numberHere_4 : decode cX10_numberHere 4 = .ok (.invokestatic 42, 3) := by decide +kernel
theorem dX10_numberHere_7 : decode cX10_numberHere 7 = .ok (.ifCond .ne 10, 3) := by decide +kernel
theorem dX10_numberHere_10 : decode cX10_numberHere 10 = .ok (.aload_n 0, 1) := by decide +kernel
theorem dX10_numberHere_11 : decode cX10_numberHere 11 = .ok (.iconst 0, 1) := by decide +kernel
theorem dX10_numberHere_12 : decode cX10_numberHere 12 = .ok (.invokevirtual 62, 3) := by decide +kernel
theorem dX10_numberHere_15 : decode cX10_numberHere 15 = .ok (.iload_n 1, 1) := by decide +kernel
theorem dX10_numberHere_16 : decode cX10_numberHere 16 = .ok (.ireturn, 1) := by decide +kernel
theorem dX10_numberHere_17 : decode cX10_numberHere 17 = .ok (.aload_n 0, 1) := by decide +kernel
theorem dX10_numberHere_18 : decode cX10_numberHere 18 = .ok (.getfield 22, 3) := by decide +kernel
theorem dX10_numberHere_21 : decode cX10_numberHere 21 = .ok (.aload_n 0, 1) := by decide +kernel
theorem dX10_numberHere_22 : decode cX10_numberHere 22 = .ok (.getfield 19, 3) := by decide +kernel
theorem dX10_numberHere_25 : decode cX10_numberHere 25 = .ok (.isub, 1) := by decide +kernel
theorem dX10_numberHere_26 : decode cX10_numberHere 26 = .ok (.iconst 5, 1) := by decide +kernel
theorem dX10_numberHere_27 : decode cX10_numberHere 27 = .ok (.if_icmp .le 10, 3) := by decide +kernel
theorem dX10_numberHere_30 : decode cX10_numberHere 30 = .ok (.aload_n 0, 1) := by decide +kernel
theorem dX10_numberHere_31 : decode cX10_numberHere 31 = .ok (.iconst 1, 1) := by decide +kernel
theorem dX10_numberHere_32 : decode cX10_numberHere 32 = .ok (.invokevirtual 62, 3) := by decide +kernel
theorem dX10_numberHere_35 : decode cX10_numberHere 35 = .ok (.iload_n 1, 1) := by decide +kernel
theorem dX10_numberHere_36 : decode cX10_numberHere 36 = .ok (.ireturn, 1) := by decide +kernel
theorem dX10_numberHere_37 : decode cX10_numberHere 37 = .ok (.iconst 0, 1) := by decide +kernel
theorem dX10_numberHere_38 : decode cX10_numberHere 38 = .ok (.istore_n 3, 1) := by decide +kernel
theorem dX10_numberHere_39 : decode cX10_numberHere 39 = .ok (.aload_n 0, 1) := by decide +kernel
theorem dX10_numberHere_40 : decode cX10_numberHere 40 = .ok (.getfield 19, 3) := by decide +kernel
theorem dX10_numberHere_43 : decode cX10_numberHere 43 = .ok (.istore 4, 2) := by decide +kernel
theorem dX10_numberHere_45 : decode cX10_numberHere 45 = .ok (.iload 4, 2) := by decide +kernel
theorem dX10_numberHere_47 : decode cX10_numberHere 47 = .ok (.aload_n 0, 1) := by decide +kernel
theorem dX10_numberHere_48 : decode cX10_numberHere 48 = .ok (.getfield 22, 3) := by decide +kernel
theorem dX10_numberHere_51 : decode cX10_numberHere 51 = .ok (.if_icmp .ge 24, 3) := by decide +kernel
theorem dX10_numberHere_54 : decode cX10_numberHere 54 = .ok (.iload_n 3, 1) := by decide +kernel
theorem dX10_numberHere_55 : decode cX10_numberHere 55 = .ok (.bipush 10, 2) := by decide +kernel
theorem dX10_numberHere_57 : decode cX10_numberHere 57 = .ok (.imul, 1) := by decide +kernel
theorem dX10_numberHere_58 : decode cX10_numberHere 58 = .ok (.aload_n 0, 1) := by decide +kernel
theorem dX10_numberHere_59 : decode cX10_numberHere 59 = .ok (.iload 4, 2) := by decide +kernel
theorem dX10_numberHere_61 : decode cX10_numberHere 61 = .ok (.invokevirtual 34, 3) := by decide +kernel
theorem dX10_numberHere_64 : decode cX10_numberHere 64 = .ok (.iadd, 1) := by decide +kernel
theorem dX10_numberHere_65 : decode cX10_numberHere 65 = .ok (.bipush 48, 2) := by decide +kernel
theorem dX10_numberHere_67 : decode cX10_numberHere 67 = .ok (.isub, 1) := by decide +kernel
theorem dX10_numberHere_68 : decode cX10_numberHere 68 = .ok (.istore_n 3, 1) := by decide +kernel
theorem dX10_numberHere_69 : decode cX10_numberHere 69 = .ok (.iinc 4 1, 3) := by decide +kernel
theorem dX10_numberHere_72 : decode cX10_numberHere 72 = .ok (.goto (-27), 3) := by decide +kernel
theorem dX10_numberHere_75 : decode cX10_numberHere 75 = .ok (.iload_n 3, 1) := by decide +kernel
theorem dX10_numberHere_76 : decode cX10_numberHere 76 = .ok (.iload_n 1, 1) := by decide +kernel
theorem dX10_numberHere_77 : decode cX10_numberHere 77 = .ok (.if_icmp .lt 8, 3) := by decide +kernel
theorem dX10_numberHere_80 : decode cX10_numberHere 80 = .ok (.iload_n 3, 1) := by decide +kernel
theorem dX10_numberHere_81 : decode cX10_numberHere 81 = .ok (.iload_n 2, 1) := by decide +kernel
theorem dX10_numberHere_82 : decode cX10_numberHere 82 = .ok (.if_icmp .le 10, 3) := by decide +kernel
theorem dX10_numberHere_85 : decode cX10_numberHere 85 = .ok (.aload_n 0, 1) := by decide +kernel
theorem dX10_numberHere_86 : decode cX10_numberHere 86 = .ok (.iconst 1, 1) := by decide +kernel
theorem dX10_numberHere_87 : decode cX10_numberHere 87 = .ok (.invokevirtual 62, 3) := by decide +kernel
theorem dX10_numberHere_90 : decode cX10_numberHere 90 = .ok (.iload_n 1, 1) := by decide +kernel
theorem dX10_numberHere_91 : decode cX10_numberHere 91 = .ok (.ireturn, 1) := by decide +kernel
theorem dX10_numberHere_92 : decode cX10_numberHere 92 = .ok (.iload_n 3, 1) := by decide +kernel
theorem dX10_numberHere_93 : decode cX10_numberHere 93 = .ok (.ireturn, 1) := by decide +kernel
theorem dX10_step_0 : decode cX10_step 0 = .ok (.aload_n 0, 1) := by decide +kernel
theorem dX10_step_1 : decode cX10_step 1 = .ok (.aload_n 0, 1) := by decide +kernel
theorem dX10_step_2 : decode cX10_step 2 = .ok (.getfield 22, 3) := by decide +kernel
theorem dX10_step_5 : decode cX10_step 5 = .ok (.putfield 19, 3) := by decide +kernel
theorem dX10_step_8 : decode cX10_step 8 = .ok (.aload_n 0, 1) := by decide +kernel
theorem dX10_step_9 : decode cX10_step 9 = .ok (.getfield 19, 3) := by decide +kernel
theorem dX10_step_12 : decode cX10_step 12 = .ok (.aload_n 0, 1) := by decide +kernel
theorem dX10_step_13 : decode cX10_step 13 = .ok (.getfield 15, 3) := by decide +kernel
theorem dX10_step_16 : decode cX10_step 16 = .ok (.if_icmp .ge 29, 3) := by decide +kernel
theorem dX10_step_19 : decode cX10_step 19 = .ok (.aload_n 0, 1) := by decide +kernel
theorem dX10_step_20 : decode cX10_step 20 = .ok (.aload_n 0, 1) := by decide +kernel
theorem dX10_step_21 : decode cX10_step 21 = .ok (.getfield 19, 3) := by decide +kernel
theorem dX10_step_24 : decode cX10_step 24 = .ok (.invokevirtual 34, 3) := by decide +kernel
theorem dX10_step_27 : decode cX10_step 27 = .ok (.bipush 32, 2) := by decide +kernel
theorem dX10_step_29 : decode cX10_step 29 = .ok (.if_icmp .ne 16, 3) := by decide +kernel
theorem dX10_step_32 : decode cX10_step 32 = .ok (.aload_n 0, 1) := by decide +kernel
theorem dX10_step_33 : decode cX10_step 33 = .ok (.dup, 1) := by decide +kernel
theorem dX10_step_34 : decode cX10_step 34 = .ok (.getfield 19, 3) := by decide +kernel
theorem dX10_step_37 : decode cX10_step 37 = .ok (.iconst 1, 1) := by decide +kernel
theorem dX10_step_38 : decode cX10_step 38 = .ok (.iadd, 1) := by decide +kernel
theorem dX10_step_39 : decode cX10_step 39 = .ok (.putfield 19, 3) := by decide +kernel
theorem dX10_step_42 : decode cX10_step 42 = .ok (.goto (-34), 3) := by decide +kernel
theorem dX10_step_45 : decode cX10_step 45 = .ok (.aload_n 0, 1) := by decide +kernel
theorem dX10_step_46 : decode cX10_step 46 = .ok (.aload_n 0, 1) := by decide +kernel
theorem dX10_step_47 : decode cX10_step 47 = .ok (.getfield 19, 3) := by decide +kernel
theorem dX10_step_50 : decode cX10_step 50 = .ok (.putfield 22, 3) := by decide +kernel
theorem dX10_step_53 : decode cX10_step 53 = .ok (.aload_n 0, 1) := by decide +kernel
theorem dX10_step_54 : decode cX10_step 54 = .ok (.aload_n 0, 1) := by decide +kernel
theorem dX10_step_55 : decode cX10_step 55 = .ok (.getfield 28, 3) := by decide +kernel
theorem dX10_step_58 : decode cX10_step 58 = .ok (.ifCond .ne 14, 3) := by decide +kernel
theorem dX10_step_61 : decode cX10_step 61 = .ok (.aload_n 0, 1) := by decide +kernel
theorem dX10_step_62 : decode cX10_step 62 = .ok (.aload_n 0, 1) := by decide +kernel
theorem dX10_step_63 : decode cX10_step 63 = .ok (.getfield 19, 3) := by decide +kernel
theorem dX10_step_66 : decode cX10_step 66 = .ok (.invokevirtual 34, 3) := by decide +kernel
theorem dX10_step_69 : decode cX10_step 69 = .ok (.goto 4, 3) := by decide +kernel
theorem dX10_step_72 : decode cX10_step 72 = .ok (.iconst (-1), 1) := by decide +kernel
theorem dX10_step_73 : decode cX10_step 73 = .ok (.putfield 25, 3) := by decide +kernel
theorem dX10_step_76 : decode cX10_step 76 = .ok (.aload_n 0, 1) := by decide +kernel
theorem dX10_step_77 : decode cX10_step 77 = .ok (.getfield 25, 3) := by decide +kernel
theorem dX10_step_80 : decode cX10_step 80 = .ok (.invokestatic 38, 3) := by decide +kernel
theorem dX10_step_83 : decode cX10_step 83 = .ok (.ifCond .eq 41, 3) := by decide +kernel
theorem dX10_step_86 : decode cX10_step 86 = .ok (.aload_n 0, 1) := by decide +kernel
theorem dX10_step_87 : decode cX10_step 87 = .ok (.getfield 22, 3) := by decide +kernel
theorem dX10_step_90 : decode cX10_step 90 = .ok (.aload_n 0, 1) := by decide +kernel
theorem dX10_step_91 : decode cX10_step 91 = .ok (.getfield 15, 3) := by decide +kernel
theorem dX10_step_94 : decode cX10_step 94 = .ok (.if_icmp .ge 148, 3) := by decide +kernel
theorem dX10_step_97 : decode cX10_step 97 = .ok (.aload_n 0, 1) := by decide +kernel
theorem dX10_step_98 : decode cX10_step 98 = .ok (.aload_n 0, 1) := by decide +kernel
theorem dX10_step_99 : decode cX10_step 99 = .ok (.getfield 22, 3) := by decide +kernel
theorem dX10_step_102 : decode cX10_step 102 = .ok (.invokevirtual 34, 3) := by decide +kernel
theorem dX10_step_105 : decode cX10_step 105 = .ok (.invokestatic 38, 3) := by decide +kernel
theorem dX10_step_108 : decode cX10_step 108 = .ok (.ifCond .eq 134, 3) := by decide +kernel
theorem dX10_step_111 : decode cX10_step 111 = .ok (.aload_n 0, 1) := by decide +kernel
theorem dX10_step_112 : decode cX10_step 112 = .ok (.dup, 1) := by decide +kernel
theorem dX10_step_113 : decode cX10_step 113 = .ok (.getfield 22, 3) := by decide +kernel
theorem dX10_step_116 : decode cX10_step 116 = .ok (.iconst 1, 1) := by decide +kernel
theorem dX10_step_117 : decode cX10_step 117 = .ok (.iadd, 1) := by decide +kernel
theorem dX10_step_118 : decode cX10_step 118 = .ok (.putfield 22, 3) := by decide +kernel
theorem dX10_step_121 : decode cX10_step 121 = .ok (.goto (-35), 3) := by decide +kernel
theorem dX10_step_124 : decode cX10_step 124 = .ok (.aload_n 0, 1) := by decide +kernel
theorem dX10_step_125 : decode cX10_step 125 = .ok (.getfield 25, 3) := by decide +kernel
theorem dX10_step_128 : decode cX10_step 128 = .ok (.invokestatic 42, 3) := by decide +kernel
theorem dX10_step_131 : decode cX10_step 131 = .ok (.ifCond .eq 41, 3) := by decide +kernel
theorem dX10_step_134 : decode cX10_step 134 = .ok (.aload_n 0, 1) := by decide +kernel
theorem dX10_step_135 : decode cX10_step 135 = .ok (.getfield 22, 3) := by decide +kernel
theorem dX10_step_138 : decode cX10_step 138 = .ok (.aload_n 0, 1) := by decide +kernel
theorem dX10_step_139 : decode cX10_step 139 = .ok (.getfield 15, 3) := by decide +kernel
theorem dX10_step_142 : decode cX10_step 142 = .ok (.if_icmp .ge 100, 3) := by decide +kernel
theorem dX10_step_145 : decode cX10_step 145 = .ok (.aload_n 0, 1) := by decide +kernel
theorem dX10_step_146 : decode cX10_step 146 = .ok (.aload_n 0, 1) := by decide +kernel
theorem dX10_step_147 : decode cX10_step 147 = .ok (.getfield 22, 3) := by decide +kernel
theorem dX10_step_150 : decode cX10_step 150 = .ok (.invokevirtual 34, 3) := by decide +kernel
theorem dX10_step_153 : decode cX10_step 153 = .ok (.invokestatic 42, 3) := by decide +kernel
theorem dX10_step_156 : decode cX10_step 156 = .ok (.ifCond .eq 86, 3) := by decide +kernel
theorem dX10_step_159 : decode cX10_step 159 = .ok (.aload_n 0, 1) := by decide +kernel
theorem dX10_step_160 : decode cX10_step 160 = .ok (.dup, 1) := by decide +kernel
theorem dX10_step_161 : decode cX10_step 161 = .ok (.getfield 22, 3) := by decide +kernel
theorem dX10_step_164 : decode cX10_step 164 = .ok (.iconst 1, 1) := by decide +kernel
theorem dX10_step_165 : decode cX10_step 165 = .ok (.iadd, 1) := by decide +kernel
theorem dX10_step_166 : decode cX10_step 166 = .ok (.putfield 22, 3) := by decide +kernel
theorem dX10_step_169 : decode cX10_step 169 = .ok (.goto (-35), 3) := by decide +kernel
theorem dX10_step_172 : decode cX10_step 172 = .ok (.aload_n 0, 1) := by decide +kernel
theorem dX10_step_173 : decode cX10_step 173 = .ok (.getfield 25, 3) := by decide +kernel
theorem dX10_step_176 : decode cX10_step 176 = .ok (.iconst (-1), 1) := by decide +kernel
theorem dX10_step_177 : decode cX10_step 177 = .ok (.if_icmp .eq 65, 3) := by decide +kernel
theorem dX10_step_180 : decode cX10_step 180 = .ok (.aload_n 0, 1) := by decide +kernel
theorem dX10_step_181 : decode cX10_step 181 = .ok (.getfield 25, 3) := by decide +kernel
theorem dX10_step_184 : decode cX10_step 184 = .ok (.bipush 60, 2) := by decide +kernel
theorem dX10_step_186 : decode cX10_step 186 = .ok (.if_icmp .eq 12, 3) := by decide +kernel
theorem dX10_step_189 : decode cX10_step 189 = .ok (.aload_n 0, 1) := by decide +kernel
theorem dX10_step_190 : decode cX10_step 190 = .ok (.getfield 25, 3) := by decide +kernel
theorem dX10_step_193 : decode cX10_step 193 = .ok (.bipush 62, 2) := by decide +kernel
theorem dX10_step_195 : decode cX10_step 195 = .ok (.if_icmp .ne 7, 3) := by decide +kernel
theorem dX10_step_198 : decode cX10_step 198 = .ok (.iconst 1, 1) := by decide +kernel
theorem dX10_step_199 : decode cX10_step 199 = .ok (.goto 4, 3) := by decide +kernel
theorem dX10_step_202 : decode cX10_step 202 = .ok (.iconst 0, 1) := by decide +kernel
theorem dX10_step_203 : decode cX10_step 203 = .ok (.istore_n 1, 1) := by decide +kernel
theorem dX10_step_204 : decode cX10_step 204 = .ok (.aload_n 0, 1) := by decide +kernel
theorem dX10_step_205 : decode cX10_step 205 = .ok (.iload_n 1, 1) := by decide +kernel
theorem dX10_step_206 : decode cX10_step 206 = .ok (.ifCond .eq 27, 3) := by decide +kernel
theorem dX10_step_209 : decode cX10_step 209 = .ok (.aload_n 0, 1) := by decide +kernel
theorem dX10_step_210 : decode cX10_step 210 = .ok (.aload_n 0, 1) := by decide +kernel
theorem dX10_step_211 : decode cX10_step 211 = .ok (.getfield 19, 3) := by decide +kernel
theorem dX10_step_214 : decode cX10_step 214 = .ok (.iconst 1, 1) := by decide +kernel
theorem dX10_step_215 : decode cX10_step 215 = .ok (.iadd, 1) := by decide +kernel
theorem dX10_step_216 : decode cX10_step 216 = .ok (.invokevirtual 34, 3) := by decide +kernel
theorem dX10_step_219 : decode cX10_step 219 = .ok (.bipush 61, 2) := by decide +kernel
theorem dX10_step_221 : decode cX10_step 221 = .ok (.if_icmp .ne 12, 3) := by decide +kernel
theorem dX10_step_224 : decode cX10_step 224 = .ok (.aload_n 0, 1) := by decide +kernel
theorem dX10_step_225 : decode cX10_step 225 = .ok (.getfield 19, 3) := by decide +kernel
theorem dX10_step_228 : decode cX10_step 228 = .ok (.iconst 2, 1) := by decide +kernel
theorem dX10_step_229 : decode cX10_step 229 = .ok (.iadd, 1) := by decide +kernel
theorem dX10_step_230 : decode cX10_step 230 = .ok (.goto 9, 3) := by decide +kernel
theorem dX10_step_233 : decode cX10_step 233 = .ok (.aload_n 0, 1) := by decide +kernel
theorem dX10_step_234 : decode cX10_step 234 = .ok (.getfield 19, 3) := by decide +kernel
theorem dX10_step_237 : decode cX10_step 237 = .ok (.iconst 1, 1) := by decide +kernel
theorem dX10_step_238 : decode cX10_step 238 = .ok (.iadd, 1) := by decide +kernel
theorem dX10_step_239 : decode cX10_step 239 = .ok (.putfield 22, 3) := by decide +kernel
theorem dX10_step_242 : decode cX10_step 242 = .ok (.return_, 1) := by decide +kernel
theorem dX10_takeNumber_0 : decode cX10_takeNumber 0 = .ok (.aload_n 0, 1) := by decide +kernel
theorem dX10_takeNumber_1 : decode cX10_takeNumber 1 = .ok (.iload_n 1, 1) := by decide +kernel
theorem dX10_takeNumber_2 : decode cX10_takeNumber 2 = .ok (.iload_n 2, 1) := by decide +kernel
theorem dX10_takeNumber_3 : decode cX10_takeNumber 3 = .ok (.invokevirtual 66, 3) := by decide +kernel
theorem dX10_takeNumber_6 : decode cX10_takeNumber 6 = .ok (.istore_n 3, 1) := by decide +kernel
theorem dX10_takeNumber_7 : decode cX10_takeNumber 7 = .ok (.aload_n 0, 1) := by decide +kernel
theorem dX10_takeNumber_8 : decode cX10_takeNumber 8 = .ok (.invokevirtual 31, 3) := by decide +kernel
theorem dX10_takeNumber_11 : decode cX10_takeNumber 11 = .ok (.iload_n 3, 1) := by decide +kernel
theorem dX10_takeNumber_12 : decode cX10_takeNumber 12 = .ok (.ireturn, 1) := by decide +kernel
theorem dX10_takes_0 : decode cX10_takes 0 = .ok (.aload_n 0, 1) := by decide +kernel
theorem dX10_takes_1 : decode cX10_takes 1 = .ok (.getfield 25, 3) := by decide +kernel
theorem dX10_takes_4 : decode cX10_takes 4 = .ok (.iload_n 1, 1) := by decide +kernel
theorem dX10_takes_5 : decode cX10_takes 5 = .ok (.if_icmp .eq 5, 3) := by decide +kernel
theorem dX10_takes_8 : decode cX10_takes 8 = .ok (.iconst 0, 1) := by decide +kernel
theorem dX10_takes_9 : decode cX10_takes 9 = .ok (.ireturn, 1) := by decide +kernel
theorem dX10_takes_10 : decode cX10_takes 10 = .ok (.aload_n 0, 1) := by decide +kernel
theorem dX10_takes_11 : decode cX10_takes 11 = .ok (.invokevirtual 31, 3) := by decide +kernel
theorem dX10_takes_14 : decode cX10_takes 14 = .ok (.iconst 1, 1) := by decide +kernel
theorem dX10_takes_15 : decode cX10_takes 15 = .ok (.ireturn, 1) := by decide +kernel
theorem dJ0_charAt_5068e_0 : decode cJ0_charAt_5068e 0 = .ok (.aload_n 0, 1) := by decide +kernel
theorem dJ0_charAt_5068e_1 : decode cJ0_charAt_5068e 1 = .ok (.invokevirtual 492, 3) := by decide +kernel
theorem dJ0_charAt_5068e_4 : decode cJ0_charAt_5068e 4 = .ok (.ifCond .eq 12, 3) := by decide +kernel
theorem dJ0_charAt_5068e_7 : decode cJ0_charAt_5068e 7 = .ok (.aload_n 0, 1) := by decide +kernel
theorem dJ0_charAt_5068e_8 : decode cJ0_charAt_5068e 8 = .ok (.getfield 9, 3) := by decide +kernel
theorem dJ0_charAt_5068e_11 : decode cJ0_charAt_5068e 11 = .ok (.iload_n 1, 1) := by decide +kernel
theorem dJ0_charAt_5068e_12 : decode cJ0_charAt_5068e 12 = .ok (.invokestatic 495, 3) := by decide +kernel
theorem dJ0_charAt_5068e_15 : decode cJ0_charAt_5068e 15 = .ok (.ireturn, 1) := by decide +kernel
theorem dJ0_checkIndex_df160_0 : decode cJ0_checkIndex_df160 0 = .ok (.iload_n 0, 1) := by decide +kernel
theorem dJ0_checkIndex_df160_1 : decode cJ0_checkIndex_df160 1 = .ok (.iload_n 1, 1) := by decide +kernel
theorem dJ0_checkIndex_df160_2 : decode cJ0_checkIndex_df160 2 = .ok (.getstatic 1053, 3) := by decide +kernel
theorem dJ0_checkIndex_df160_5 : decode cJ0_checkIndex_df160 5 = .ok (.invokestatic 1059, 3) := by decide +kernel
theorem dJ0_checkIndex_df160_8 : decode cJ0_checkIndex_df160 8 = .ok (.pop, 1) := by decide +kernel
theorem dJ0_checkIndex_df160_9 : decode cJ0_checkIndex_df160 9 = .ok (.return_, 1) := by decide +kernel
theorem dJ0_coder_7d493_0 : decode cJ0_coder_7d493 0 = .ok (.getstatic 38, 3) := by decide +kernel
theorem dJ0_coder_7d493_3 : decode cJ0_coder_7d493 3 = .ok (.ifCond .eq 10, 3) := by decide +kernel
theorem dJ0_coder_7d493_6 : decode cJ0_coder_7d493 6 = .ok (.aload_n 0, 1) := by decide +kernel
theorem dJ0_coder_7d493_7 : decode cJ0_coder_7d493 7 = .ok (.getfield 15, 3) := by decide +kernel
theorem dJ0_coder_7d493_10 : decode cJ0_coder_7d493 10 = .ok (.goto 4, 3) := by decide +kernel
theorem dJ0_coder_7d493_14 : decode cJ0_coder_7d493 14 = .ok (.ireturn, 1) := by decide +kernel
theorem dJ0_isLatin1_aae02_0 : decode cJ0_isLatin1_aae02 0 = .ok (.getstatic 38, 3) := by decide +kernel
theorem dJ0_isLatin1_aae02_3 : decode cJ0_isLatin1_aae02 3 = .ok (.ifCond .eq 14, 3) := by decide +kernel
theorem dJ0_isLatin1_aae02_6 : decode cJ0_isLatin1_aae02 6 = .ok (.aload_n 0, 1) := by decide +kernel
theorem dJ0_isLatin1_aae02_7 : decode cJ0_isLatin1_aae02 7 = .ok (.getfield 15, 3) := by decide +kernel
theorem dJ0_isLatin1_aae02_10 : decode cJ0_isLatin1_aae02 10 = .ok (.ifCond .ne 7, 3) := by decide +kernel
theorem dJ0_isLatin1_aae02_13 : decode cJ0_isLatin1_aae02 13 = .ok (.iconst 1, 1) := by decide +kernel
theorem dJ0_isLatin1_aae02_14 : decode cJ0_isLatin1_aae02 14 = .ok (.goto 4, 3) := by decide +kernel
theorem dJ0_isLatin1_aae02_18 : decode cJ0_isLatin1_aae02 18 = .ok (.ireturn, 1) := by decide +kernel
theorem dJ0_length_8abf5_0 : decode cJ0_length_8abf5 0 = .ok (.aload_n 0, 1) := by decide +kernel
theorem dJ0_length_8abf5_1 : decode cJ0_length_8abf5 1 = .ok (.getfield 9, 3) := by decide +kernel
theorem dJ0_length_8abf5_4 : decode cJ0_length_8abf5 4 = .ok (.arraylength, 1) := by decide +kernel
theorem dJ0_length_8abf5_5 : decode cJ0_length_8abf5 5 = .ok (.aload_n 0, 1) := by decide +kernel
theorem dJ0_length_8abf5_6 : decode cJ0_length_8abf5 6 = .ok (.invokevirtual 335, 3) := by decide +kernel
theorem dJ0_length_8abf5_9 : decode cJ0_length_8abf5 9 = .ok (.ishr, 1) := by decide +kernel
theorem dJ0_length_8abf5_10 : decode cJ0_length_8abf5 10 = .ok (.ireturn, 1) := by decide +kernel
theorem dJ1_charAt_3b067_0 : decode cJ1_charAt_3b067 0 = .ok (.iload_n 1, 1) := by decide +kernel
theorem dJ1_charAt_3b067_1 : decode cJ1_charAt_3b067 1 = .ok (.aload_n 0, 1) := by decide +kernel
theorem dJ1_charAt_3b067_2 : decode cJ1_charAt_3b067 2 = .ok (.arraylength, 1) := by decide +kernel
theorem dJ1_charAt_3b067_3 : decode cJ1_charAt_3b067 3 = .ok (.invokestatic 9, 3) := by decide +kernel
theorem dJ1_charAt_3b067_6 : decode cJ1_charAt_3b067 6 = .ok (.aload_n 0, 1) := by decide +kernel
theorem dJ1_charAt_3b067_7 : decode cJ1_charAt_3b067 7 = .ok (.iload_n 1, 1) := by decide +kernel
theorem dJ1_charAt_3b067_8 : decode cJ1_charAt_3b067 8 = .ok (.baload, 1) := by decide +kernel
theorem dJ1_charAt_3b067_9 : decode cJ1_charAt_3b067 9 = .ok (.sipush 255, 3) := by decide +kernel
theorem dJ1_charAt_3b067_12 : decode cJ1_charAt_3b067 12 = .ok (.iand, 1) := by decide +kernel
theorem dJ1_charAt_3b067_13 : decode cJ1_charAt_3b067 13 = .ok (.i2c, 1) := by decide +kernel
theorem dJ1_charAt_3b067_14 : decode cJ1_charAt_3b067 14 = .ok (.ireturn, 1) := by decide +kernel
theorem dJ3_checkIndex_8e157_0 : decode cJ3_checkIndex_8e157 0 = .ok (.iload_n 0, 1) := by decide +kernel
theorem dJ3_checkIndex_8e157_1 : decode cJ3_checkIndex_8e157 1 = .ok (.ifCond .lt 8, 3) := by decide +kernel
theorem dJ3_checkIndex_8e157_4 : decode cJ3_checkIndex_8e157 4 = .ok (.iload_n 0, 1) := by decide +kernel
theorem dJ3_checkIndex_8e157_5 : decode cJ3_checkIndex_8e157 5 = .ok (.iload_n 1, 1) := by decide +kernel
theorem dJ3_checkIndex_8e157_6 : decode cJ3_checkIndex_8e157 6 = .ok (.if_icmp .lt 10, 3) := by decide +kernel
theorem dJ3_checkIndex_8e157_16 : decode cJ3_checkIndex_8e157 16 = .ok (.iload_n 0, 1) := by decide +kernel
theorem dJ3_checkIndex_8e157_17 : decode cJ3_checkIndex_8e157 17 = .ok (.ireturn, 1) := by decide +kernel
theorem dX10_isPartOf_0 : decode cX10_isPartOf 0 = .ok (.aload_n 0, 1) := by decide +kernel
theorem dX10_isPartOf_1 : decode cX10_isPartOf 1 = .ok (.getfield 28, 3) := by decide +kernel
theorem dX10_isPartOf_4 : decode cX10_isPartOf 4 = .ok (.ifCond .ne 30, 3) := by decide +kernel
theorem dX10_isPartOf_7 : decode cX10_isPartOf 7 = .ok (.aload_n 0, 1) := by decide +kernel
theorem dX10_isPartOf_8 : decode cX10_isPartOf 8 = .ok (.getfield 22, 3) := by decide +kernel
theorem dX10_isPartOf_11 : decode cX10_isPartOf 11 = .ok (.aload_n 0, 1) := by decide +kernel
theorem dX10_isPartOf_12 : decode cX10_isPartOf 12 = .ok (.getfield 19, 3) := by decide +kernel
theorem dX10_isPartOf_15 : decode cX10_isPartOf 15 = .ok (.isub, 1) := by decide +kernel
theorem dX10_isPartOf_16 : decode cX10_isPartOf 16 = .ok (.iload_n 3, 1) := by decide +kernel
theorem dX10_isPartOf_17 : decode cX10_isPartOf 17 = .ok (.iload_n 2, 1) := by decide +kernel
theorem dX10_isPartOf_18 : decode cX10_isPartOf 18 = .ok (.isub, 1) := by decide +kernel
theorem dX10_isPartOf_19 : decode cX10_isPartOf 19 = .ok (.if_icmp .ne 15, 3) := by decide +kernel
theorem dX10_isPartOf_22 : decode cX10_isPartOf 22 = .ok (.iload_n 2, 1) := by decide +kernel
theorem dX10_isPartOf_23 : decode cX10_isPartOf 23 = .ok (.ifCond .lt 11, 3) := by decide +kernel
theorem dX10_isPartOf_26 : decode cX10_isPartOf 26 = .ok (.iload_n 3, 1) := by decide +kernel
theorem dX10_isPartOf_27 : decode cX10_isPartOf 27 = .ok (.aload_n 1, 1) := by decide +kernel
theorem dX10_isPartOf_28 : decode cX10_isPartOf 28 = .ok (.invokevirtual 45, 3) := by decide +kernel
theorem dX10_isPartOf_31 : decode cX10_isPartOf 31 = .ok (.if_icmp .le 5, 3) := by decide +kernel
theorem dX10_isPartOf_34 : decode cX10_isPartOf 34 = .ok (.iconst 0, 1) := by decide +kernel
theorem dX10_isPartOf_35 : decode cX10_isPartOf 35 = .ok (.ireturn, 1) := by decide +kernel
theorem dX10_isPartOf_36 : decode cX10_isPartOf 36 = .ok (.aload_n 0, 1) := by decide +kernel
theorem dX10_isPartOf_37 : decode cX10_isPartOf 37 = .ok (.getfield 19, 3) := by decide +kernel
theorem dX10_isPartOf_40 : decode cX10_isPartOf 40 = .ok (.ifCond .lt 15, 3) := by decide +kernel
theorem dX10_isPartOf_43 : decode cX10_isPartOf 43 = .ok (.aload_n 0, 1) := by decide +kernel
theorem dX10_isPartOf_44 : decode cX10_isPartOf 44 = .ok (.getfield 22, 3) := by decide +kernel
theorem dX10_isPartOf_47 : decode cX10_isPartOf 47 = .ok (.aload_n 0, 1) := by decide +kernel
theorem dX10_isPartOf_48 : decode cX10_isPartOf 48 = .ok (.getfield 9, 3) := by decide +kernel
theorem dX10_isPartOf_51 : decode cX10_isPartOf 51 = .ok (.arraylength, 1) := by decide +kernel
theorem dX10_isPartOf_52 : decode cX10_isPartOf 52 = .ok (.if_icmp .le 5, 3) := by decide +kernel
theorem dX10_isPartOf_55 : decode cX10_isPartOf 55 = .ok (.iconst 0, 1) := by decide +kernel
theorem dX10_isPartOf_56 : decode cX10_isPartOf 56 = .ok (.ireturn, 1) := by decide +kernel
theorem dX10_isPartOf_57 : decode cX10_isPartOf 57 = .ok (.iload_n 2, 1) := by decide +kernel
theorem dX10_isPartOf_58 : decode cX10_isPartOf 58 = .ok (.istore 4, 2) := by decide +kernel
theorem dX10_isPartOf_60 : decode cX10_isPartOf 60 = .ok (.iload 4, 2) := by decide +kernel
theorem dX10_isPartOf_62 : decode cX10_isPartOf 62 = .ok (.iload_n 3, 1) := by decide +kernel
theorem dX10_isPartOf_63 : decode cX10_isPartOf 63 = .ok (.if_icmp .ge 34, 3) := by decide +kernel
theorem dX10_isPartOf_66 : decode cX10_isPartOf 66 = .ok (.aload_n 0, 1) := by decide +kernel
theorem dX10_isPartOf_67 : decode cX10_isPartOf 67 = .ok (.getfield 9, 3) := by decide +kernel
theorem dX10_isPartOf_70 : decode cX10_isPartOf 70 = .ok (.aload_n 0, 1) := by decide +kernel
theorem dX10_isPartOf_71 : decode cX10_isPartOf 71 = .ok (.getfield 19, 3) := by decide +kernel
theorem dX10_isPartOf_74 : decode cX10_isPartOf 74 = .ok (.iload 4, 2) := by decide +kernel
theorem dX10_isPartOf_76 : decode cX10_isPartOf 76 = .ok (.iadd, 1) := by decide +kernel
theorem dX10_isPartOf_77 : decode cX10_isPartOf 77 = .ok (.iload_n 2, 1) := by decide +kernel
theorem dX10_isPartOf_78 : decode cX10_isPartOf 78 = .ok (.isub, 1) := by decide +kernel
theorem dX10_isPartOf_79 : decode cX10_isPartOf 79 = .ok (.iaload, 1) := by decide +kernel
theorem dX10_isPartOf_80 : decode cX10_isPartOf 80 = .ok (.aload_n 1, 1) := by decide +kernel
theorem dX10_isPartOf_81 : decode cX10_isPartOf 81 = .ok (.iload 4, 2) := by decide +kernel
theorem dX10_isPartOf_83 : decode cX10_isPartOf 83 = .ok (.invokevirtual 58, 3) := by decide +kernel
theorem dX10_isPartOf_86 : decode cX10_isPartOf 86 = .ok (.if_icmp .eq 5, 3) := by decide +kernel
theorem dX10_isPartOf_89 : decode cX10_isPartOf 89 = .ok (.iconst 0, 1) := by decide +kernel
theorem dX10_isPartOf_90 : decode cX10_isPartOf 90 = .ok (.ireturn, 1) := by decide +kernel
theorem dX10_isPartOf_91 : decode cX10_isPartOf 91 = .ok (.iinc 4 1, 3) := by decide +kernel
theorem dX10_isPartOf_94 : decode cX10_isPartOf 94 = .ok (.goto (-34), 3) := by decide +kernel
theorem dX10_isPartOf_97 : decode cX10_isPartOf 97 = .ok (.iconst 1, 1) := by decide +kernel
theorem dX10_isPartOf_98 : decode cX10_isPartOf 98 = .ok (.ireturn, 1) := by decide +kernel
theorem dX10_isWord_0 : decode cX10_isWord 0 = .ok (.aload_n 0, 1) := by decide +kernel
theorem dX10_isWord_1 : decode cX10_isWord 1 = .ok (.aload_n 1, 1) := by decide +kernel
theorem dX10_isWord_2 : decode cX10_isWord 2 = .ok (.iconst 0, 1) := by decide +kernel
theorem dX10_isWord_3 : decode cX10_isWord 3 = .ok (.aload_n 1, 1) := by decide +kernel
theorem dX10_isWord_4 : decode cX10_isWord 4 = .ok (.invokevirtual 45, 3) := by decide +kernel
theorem dX10_isWord_7 : decode cX10_isWord 7 = .ok (.invokevirtual 50, 3) := by decide +kernel
theorem dX10_isWord_10 : decode cX10_isWord 10 = .ok (.ireturn, 1) := by decide +kernel
theorem dX10_takesWord_0 : decode cX10_takesWord 0 = .ok (.aload_n 0, 1) := by decide +kernel
theorem dX10_takesWord_1 : decode cX10_takesWord 1 = .ok (.aload_n 1, 1) := by decide +kernel
theorem dX10_takesWord_2 : decode cX10_takesWord 2 = .ok (.invokevirtual 54, 3) := by decide +kernel
theorem dX10_takesWord_5 : decode cX10_takesWord 5 = .ok (.ifCond .ne 5, 3) := by decide +kernel
theorem dX10_takesWord_8 : decode cX10_takesWord 8 = .ok (.iconst 0, 1) := by decide +kernel
theorem dX10_takesWord_9 : decode cX10_takesWord 9 = .ok (.ireturn, 1) := by decide +kernel
theorem dX10_takesWord_10 : decode cX10_takesWord 10 = .ok (.aload_n 0, 1) := by decide +kernel
theorem dX10_takesWord_11 : decode cX10_takesWord 11 = .ok (.invokevirtual 31, 3) := by decide +kernel
theorem dX10_takesWord_14 : decode cX10_takesWord 14 = .ok (.iconst 1, 1) := by decide +kernel
theorem dX10_takesWord_15 : decode cX10_takesWord 15 = .ok (.ireturn, 1) := by decide +kernel
theorem dX10_wordAmong_0 : decode cX10_wordAmong 0 = .ok (.iconst 0, 1) := by decide +kernel
theorem dX10_wordAmong_1 : decode cX10_wordAmong 1 = .ok (.istore_n 2, 1) := by decide +kernel
theorem dX10_wordAmong_2 : decode cX10_wordAmong 2 = .ok (.iconst 0, 1) := by decide +kernel
theorem dX10_wordAmong_3 : decode cX10_wordAmong 3 = .ok (.istore_n 3, 1) := by decide +kernel
theorem dX10_wordAmong_4 : decode cX10_wordAmong 4 = .ok (.iconst 0, 1) := by decide +kernel
theorem dX10_wordAmong_5 : decode cX10_wordAmong 5 = .ok (.istore 4, 2) := by decide +kernel
theorem dX10_wordAmong_7 : decode cX10_wordAmong 7 = .ok (.iload 4, 2) := by decide +kernel
theorem dX10_wordAmong_9 : decode cX10_wordAmong 9 = .ok (.aload_n 1, 1) := by decide +kernel
theorem dX10_wordAmong_10 : decode cX10_wordAmong 10 = .ok (.invokevirtual 45, 3) := by decide +kernel
theorem dX10_wordAmong_13 : decode cX10_wordAmong 13 = .ok (.if_icmp .ge 41, 3) := by decide +kernel
theorem dX10_wordAmong_16 : decode cX10_wordAmong 16 = .ok (.aload_n 1, 1) := by decide +kernel
theorem dX10_wordAmong_17 : decode cX10_wordAmong 17 = .ok (.iload 4, 2) := by decide +kernel
theorem dX10_wordAmong_19 : decode cX10_wordAmong 19 = .ok (.invokevirtual 58, 3) := by decide +kernel
theorem dX10_wordAmong_22 : decode cX10_wordAmong 22 = .ok (.bipush 32, 2) := by decide +kernel
theorem dX10_wordAmong_24 : decode cX10_wordAmong 24 = .ok (.if_icmp .ne 24, 3) := by decide +kernel
theorem dX10_wordAmong_27 : decode cX10_wordAmong 27 = .ok (.aload_n 0, 1) := by decide +kernel
theorem dX10_wordAmong_28 : decode cX10_wordAmong 28 = .ok (.aload_n 1, 1) := by decide +kernel
theorem dX10_wordAmong_29 : decode cX10_wordAmong 29 = .ok (.iload_n 3, 1) := by decide +kernel
theorem dX10_wordAmong_30 : decode cX10_wordAmong 30 = .ok (.iload 4, 2) := by decide +kernel
theorem dX10_wordAmong_32 : decode cX10_wordAmong 32 = .ok (.invokevirtual 50, 3) := by decide +kernel
theorem dX10_wordAmong_35 : decode cX10_wordAmong 35 = .ok (.ifCond .eq 5, 3) := by decide +kernel
theorem dX10_wordAmong_38 : decode cX10_wordAmong 38 = .ok (.iload_n 2, 1) := by decide +kernel
theorem dX10_wordAmong_39 : decode cX10_wordAmong 39 = .ok (.ireturn, 1) := by decide +kernel
theorem dX10_wordAmong_40 : decode cX10_wordAmong 40 = .ok (.iinc 2 1, 3) := by decide +kernel
theorem dX10_wordAmong_43 : decode cX10_wordAmong 43 = .ok (.iload 4, 2) := by decide +kernel
theorem dX10_wordAmong_45 : decode cX10_wordAmong 45 = .ok (.iconst 1, 1) := by decide +kernel
theorem dX10_wordAmong_46 : decode cX10_wordAmong 46 = .ok (.iadd, 1) := by decide +kernel
theorem dX10_wordAmong_47 : decode cX10_wordAmong 47 = .ok (.istore_n 3, 1) := by decide +kernel
theorem dX10_wordAmong_48 : decode cX10_wordAmong 48 = .ok (.iinc 4 1, 3) := by decide +kernel
theorem dX10_wordAmong_51 : decode cX10_wordAmong 51 = .ok (.goto (-44), 3) := by decide +kernel
theorem dX10_wordAmong_54 : decode cX10_wordAmong 54 = .ok (.iconst (-1), 1) := by decide +kernel
theorem dX10_wordAmong_55 : decode cX10_wordAmong 55 = .ok (.ireturn, 1) := by decide +kernel
theorem dX0_read_0 : decode cX0_read 0 = .ok (.aload_n 0, 1) := by decide +kernel
theorem dX0_read_1 : decode cX0_read 1 = .ok (.getfield 12, 3) := by decide +kernel
theorem dX0_read_4 : decode cX0_read 4 = .ok (.invokevirtual 18, 3) := by decide +kernel
theorem dX0_read_7 : decode cX0_read 7 = .ok (.aload_n 1, 1) := by decide +kernel
theorem dX0_read_8 : decode cX0_read 8 = .ok (.invokevirtual 21, 3) := by decide +kernel
theorem dX0_read_11 : decode cX0_read 11 = .ok (.iconst 0, 1) := by decide +kernel
theorem dX0_read_12 : decode cX0_read 12 = .ok (.istore_n 2, 1) := by decide +kernel
theorem dX0_read_13 : decode cX0_read 13 = .ok (.iload_n 2, 1) := by decide +kernel
theorem dX0_read_14 : decode cX0_read 14 = .ok (.bipush 40, 2) := by decide +kernel
theorem dX0_read_16 : decode cX0_read 16 = .ok (.if_icmp .gt 28, 3) := by decide +kernel
theorem dX0_read_19 : decode cX0_read 19 = .ok (.iload_n 2, 1) := by decide +kernel
theorem dX0_read_20 : decode cX0_read 20 = .ok (.ifCond .eq 12, 3) := by decide +kernel
theorem dX0_read_23 : decode cX0_read 23 = .ok (.aload_n 1, 1) := by decide +kernel
theorem dX0_read_24 : decode cX0_read 24 = .ok (.bipush 59, 2) := by decide +kernel
theorem dX0_read_26 : decode cX0_read 26 = .ok (.invokevirtual 26, 3) := by decide +kernel
theorem dX0_read_29 : decode cX0_read 29 = .ok (.ifCond .eq 15, 3) := by decide +kernel
theorem dX0_read_32 : decode cX0_read 32 = .ok (.aload_n 0, 1) := by decide +kernel
theorem dX0_read_33 : decode cX0_read 33 = .ok (.aload_n 1, 1) := by decide +kernel
theorem dX0_read_34 : decode cX0_read 34 = .ok (.iload_n 2, 1) := by decide +kernel
theorem dX0_read_35 : decode cX0_read 35 = .ok (.invokevirtual 30, 3) := by decide +kernel
theorem dX0_read_38 : decode cX0_read 38 = .ok (.iinc 2 1, 3) := by decide +kernel
theorem dX0_read_41 : decode cX0_read 41 = .ok (.goto (-28), 3) := by decide +kernel
theorem dX0_read_44 : decode cX0_read 44 = .ok (.aload_n 1, 1) := by decide +kernel
theorem dX0_read_45 : decode cX0_read 45 = .ok (.invokevirtual 34, 3) := by decide +kernel
theorem dX0_read_48 : decode cX0_read 48 = .ok (.aload_n 1, 1) := by decide +kernel
theorem dX0_read_49 : decode cX0_read 49 = .ok (.getfield 37, 3) := by decide +kernel
theorem dX0_read_52 : decode cX0_read 52 = .ok (.ireturn, 1) := by decide +kernel
theorem dX0_readBook_0 : decode cX0_readBook 0 = .ok (.aload_n 0, 1) := by decide +kernel
theorem dX0_readBook_1 : decode cX0_readBook 1 = .ok (.getfield 12, 3) := by decide +kernel
theorem dX0_readBook_4 : decode cX0_readBook 4 = .ok (.aload_n 1, 1) := by decide +kernel
theorem dX0_readBook_5 : decode cX0_readBook 5 = .ok (.iconst 0, 1) := by decide +kernel
theorem dX0_readBook_6 : decode cX0_readBook 6 = .ok (.bipush 99, 2) := by decide +kernel
theorem dX0_readBook_8 : decode cX0_readBook 8 = .ok (.invokevirtual 70, 3) := by decide +kernel
theorem dX0_readBook_11 : decode cX0_readBook 11 = .ok (.putfield 74, 3) := by decide +kernel
theorem dX0_readBook_14 : decode cX0_readBook 14 = .ok (.aload_n 0, 1) := by decide +kernel
theorem dX0_readBook_15 : decode cX0_readBook 15 = .ok (.getfield 12, 3) := by decide +kernel
theorem dX0_readBook_18 : decode cX0_readBook 18 = .ok (.aload_n 1, 1) := by decide +kernel
theorem dX0_readBook_19 : decode cX0_readBook 19 = .ok (.iconst 0, 1) := by decide +kernel
theorem dX0_readBook_20 : decode cX0_readBook 20 = .ok (.bipush 9, 2) := by decide +kernel
theorem dX0_readBook_22 : decode cX0_readBook 22 = .ok (.invokevirtual 70, 3) := by decide +kernel
theorem dX0_readBook_25 : decode cX0_readBook 25 = .ok (.putfield 77, 3) := by decide +kernel
theorem dX0_readBook_28 : decode cX0_readBook 28 = .ok (.aload_n 0, 1) := by decide +kernel
theorem dX0_readBook_29 : decode cX0_readBook 29 = .ok (.getfield 12, 3) := by decide +kernel
theorem dX0_readBook_32 : decode cX0_readBook 32 = .ok (.aload_n 1, 1) := by decide +kernel
theorem dX0_readBook_33 : decode cX0_readBook 33 = .ok (.iconst 1, 1) := by decide +kernel
theorem dX0_readBook_34 : decode cX0_readBook 34 = .ok (.bipush 10, 2) := by decide +kernel
theorem dX0_readBook_36 : decode cX0_readBook 36 = .ok (.invokevirtual 70, 3) := by decide +kernel
theorem dX0_readBook_39 : decode cX0_readBook 39 = .ok (.putfield 80, 3) := by decide +kernel
theorem dX0_readBook_42 : decode cX0_readBook 42 = .ok (.return_, 1) := by decide +kernel
theorem dX0_readBuyer_0 : decode cX0_readBuyer 0 = .ok (.aload_n 0, 1) := by decide +kernel
theorem dX0_readBuyer_1 : decode cX0_readBuyer 1 = .ok (.getfield 12, 3) := by decide +kernel
theorem dX0_readBuyer_4 : decode cX0_readBuyer 4 = .ok (.getfield 51, 3) := by decide +kernel
theorem dX0_readBuyer_7 : decode cX0_readBuyer 7 = .ok (.istore_n 2, 1) := by decide +kernel
theorem dX0_readBuyer_8 : decode cX0_readBuyer 8 = .ok (.iload_n 2, 1) := by decide +kernel
theorem dX0_readBuyer_9 : decode cX0_readBuyer 9 = .ok (.ifCond .lt 9, 3) := by decide +kernel
theorem dX0_readBuyer_12 : decode cX0_readBuyer 12 = .ok (.iload_n 2, 1) := by decide +kernel
theorem dX0_readBuyer_13 : decode cX0_readBuyer 13 = .ok (.bipush 6, 2) := by decide +kernel
theorem dX0_readBuyer_15 : decode cX0_readBuyer 15 = .ok (.if_icmp .lt 4, 3) := by decide +kernel
theorem dX0_readBuyer_19 : decode cX0_readBuyer 19 = .ok (.aload_n 0, 1) := by decide +kernel
theorem dX0_readBuyer_20 : decode cX0_readBuyer 20 = .ok (.getfield 12, 3) := by decide +kernel
theorem dX0_readBuyer_23 : decode cX0_readBuyer 23 = .ok (.getfield 91, 3) := by decide +kernel
theorem dX0_readBuyer_26 : decode cX0_readBuyer 26 = .ok (.iload_n 2, 1) := by decide +kernel
theorem dX0_readBuyer_27 : decode cX0_readBuyer 27 = .ok (.aload_n 1, 1) := by decide +kernel
theorem dX0_readBuyer_28 : decode cX0_readBuyer 28 = .ok (.iconst 0, 1) := by decide +kernel
theorem dX0_readBuyer_29 : decode cX0_readBuyer 29 = .ok (.bipush 20, 2) := by decide +kernel
theorem dX0_readBuyer_31 : decode cX0_readBuyer 31 = .ok (.invokevirtual 70, 3) := by decide +kernel
theorem dX0_readBuyer_34 : decode cX0_readBuyer 34 = .ok (.iastore, 1) := by decide +kernel
theorem dX0_readBuyer_35 : decode cX0_readBuyer 35 = .ok (.aload_n 0, 1) := by decide +kernel
theorem dX0_readBuyer_36 : decode cX0_readBuyer 36 = .ok (.getfield 12, 3) := by decide +kernel
theorem dX0_readBuyer_39 : decode cX0_readBuyer 39 = .ok (.getfield 94, 3) := by decide +kernel
theorem dX0_readBuyer_42 : decode cX0_readBuyer 42 = .ok (.iload_n 2, 1) := by decide +kernel
theorem dX0_readBuyer_43 : decode cX0_readBuyer 43 = .ok (.aload_n 1, 1) := by decide +kernel
theorem dX0_readBuyer_44 : decode cX0_readBuyer 44 = .ok (.iconst 1, 1) := by decide +kernel
theorem dX0_readBuyer_45 : decode cX0_readBuyer 45 = .ok (.bipush 9, 2) := by decide +kernel
theorem dX0_readBuyer_47 : decode cX0_readBuyer 47 = .ok (.invokevirtual 70, 3) := by decide +kernel
theorem dX0_readBuyer_50 : decode cX0_readBuyer 50 = .ok (.iastore, 1) := by decide +kernel
theorem dX0_readBuyer_51 : decode cX0_readBuyer 51 = .ok (.aload_n 0, 1) := by decide +kernel
theorem dX0_readBuyer_52 : decode cX0_readBuyer 52 = .ok (.getfield 12, 3) := by decide +kernel
theorem dX0_readBuyer_55 : decode cX0_readBuyer 55 = .ok (.getfield 97, 3) := by decide +kernel
theorem dX0_readBuyer_58 : decode cX0_readBuyer 58 = .ok (.iload_n 2, 1) := by decide +kernel
theorem dX0_readBuyer_59 : decode cX0_readBuyer 59 = .ok (.aload_n 1, 1) := by decide +kernel
theorem dX0_readBuyer_60 : decode cX0_readBuyer 60 = .ok (.iconst 0, 1) := by decide +kernel
theorem dX0_readBuyer_61 : decode cX0_readBuyer 61 = .ok (.bipush 9, 2) := by decide +kernel
theorem dX0_readBuyer_63 : decode cX0_readBuyer 63 = .ok (.invokevirtual 70, 3) := by decide +kernel
theorem dX0_readBuyer_66 : decode cX0_readBuyer 66 = .ok (.iastore, 1) := by decide +kernel
theorem dX0_readBuyer_67 : decode cX0_readBuyer 67 = .ok (.aload_n 0, 1) := by decide +kernel
theorem dX0_readBuyer_68 : decode cX0_readBuyer 68 = .ok (.getfield 12, 3) := by decide +kernel
theorem dX0_readBuyer_71 : decode cX0_readBuyer 71 = .ok (.dup, 1) := by decide +kernel
theorem dX0_readBuyer_72 : decode cX0_readBuyer 72 = .ok (.getfield 51, 3) := by decide +kernel
theorem dX0_readBuyer_75 : decode cX0_readBuyer 75 = .ok (.iconst 1, 1) := by decide +kernel
theorem dX0_readBuyer_76 : decode cX0_readBuyer 76 = .ok (.iadd, 1) := by decide +kernel
theorem dX0_readBuyer_77 : decode cX0_readBuyer 77 = .ok (.putfield 51, 3) := by decide +kernel
theorem dX0_readBuyer_80 : decode cX0_readBuyer 80 = .ok (.return_, 1) := by decide +kernel
theorem dX0_readClause_0 : decode cX0_readClause 0 = .ok (.aload_n 1, 1) := by decide +kernel
theorem dX0_readClause_1 : decode cX0_readClause 1 = .ok (.ldc 41, 2) := by decide +kernel
theorem dX0_readClause_3 : decode cX0_readClause 3 = .ok (.invokevirtual 43, 3) := by decide +kernel
theorem dX0_readClause_6 : decode cX0_readClause 6 = .ok (.istore_n 3, 1) := by decide +kernel
theorem dX0_readClause_7 : decode cX0_readClause 7 = .ok (.iload_n 3, 1) := by decide +kernel
theorem dX0_readClause_8 : decode cX0_readClause 8 = .ok (.iconst (-1), 1) := by decide +kernel
theorem dX0_readClause_9 : decode cX0_readClause 9 = .ok (.if_icmp .ne 11, 3) := by decide +kernel
theorem dX0_readClause_12 : decode cX0_readClause 12 = .ok (.aload_n 1, 1) := by decide +kernel
theorem dX0_readClause_13 : decode cX0_readClause 13 = .ok (.iconst 0, 1) := by decide +kernel
theorem dX0_readClause_14 : decode cX0_readClause 14 = .ok (.invokevirtual 47, 3) := by decide +kernel
theorem dX0_readClause_17 : decode cX0_readClause 17 = .ok (.goto 102, 3) := by decide +kernel
theorem dX0_readClause_20 : decode cX0_readClause 20 = .ok (.iload_n 2, 1) := by decide +kernel
theorem dX0_readClause_21 : decode cX0_readClause 21 = .ok (.bipush 40, 2) := by decide +kernel
theorem dX0_readClause_23 : decode cX0_readClause 23 = .ok (.if_icmp .ge 41, 3) := by decide +kernel
theorem dX0_readClause_26 : decode cX0_readClause 26 = .ok (.iload_n 3, 1) := by decide +kernel
theorem dX0_readClause_27 : decode cX0_readClause 27 = .ok (.ifCond .ne 7, 3) := by decide +kernel
theorem dX0_readClause_30 : decode cX0_readClause 30 = .ok (.iconst 1, 1) := by decide +kernel
theorem dX0_readClause_31 : decode cX0_readClause 31 = .ok (.goto 4, 3) := by decide +kernel
theorem dX0_readClause_34 : decode cX0_readClause 34 = .ok (.iconst 0, 1) := by decide +kernel
theorem dX0_readClause_35 : decode cX0_readClause 35 = .ok (.iload_n 2, 1) := by decide +kernel
theorem dX0_readClause_36 : decode cX0_readClause 36 = .ok (.ifCond .ne 7, 3) := by decide +kernel
theorem dX0_readClause_39 : decode cX0_readClause 39 = .ok (.iconst 1, 1) := by decide +kernel
theorem dX0_readClause_40 : decode cX0_readClause 40 = .ok (.goto 4, 3) := by decide +kernel
theorem dX0_readClause_43 : decode cX0_readClause 43 = .ok (.iconst 0, 1) := by decide +kernel
theorem dX0_readClause_44 : decode cX0_readClause 44 = .ok (.if_icmp .ne 20, 3) := by decide +kernel
theorem dX0_readClause_47 : decode cX0_readClause 47 = .ok (.iload_n 3, 1) := by decide +kernel
theorem dX0_readClause_48 : decode cX0_readClause 48 = .ok (.iconst 2, 1) := by decide +kernel
theorem dX0_readClause_49 : decode cX0_readClause 49 = .ok (.if_icmp .ne 23, 3) := by decide +kernel
theorem dX0_readClause_52 : decode cX0_readClause 52 = .ok (.aload_n 0, 1) := by decide +kernel
theorem dX0_readClause_53 : decode cX0_readClause 53 = .ok (.getfield 12, 3) := by decide +kernel
theorem dX0_readClause_56 : decode cX0_readClause 56 = .ok (.getfield 51, 3) := by decide +kernel
theorem dX0_readClause_59 : decode cX0_readClause 59 = .ok (.bipush 6, 2) := by decide +kernel
theorem dX0_readClause_61 : decode cX0_readClause 61 = .ok (.if_icmp .lt 11, 3) := by decide +kernel
theorem dX0_readClause_64 : decode cX0_readClause 64 = .ok (.aload_n 1, 1) := by decide +kernel
theorem dX0_readClause_65 : decode cX0_readClause 65 = .ok (.iconst 4, 1) := by decide +kernel
theorem dX0_readClause_66 : decode cX0_readClause 66 = .ok (.invokevirtual 47, 3) := by decide +kernel
theorem dX0_readClause_69 : decode cX0_readClause 69 = .ok (.goto 50, 3) := by decide +kernel
theorem dX0_readClause_72 : decode cX0_readClause 72 = .ok (.aload_n 1, 1) := by decide +kernel
theorem dX0_readClause_73 : decode cX0_readClause 73 = .ok (.invokevirtual 54, 3) := by decide +kernel
theorem dX0_readClause_76 : decode cX0_readClause 76 = .ok (.iload_n 3, 1) := by decide +kernel
theorem dX0_readClause_77 : decode cX0_readClause 77 = .ok (.ifCond .ne 11, 3) := by decide +kernel
theorem dX0_readClause_80 : decode cX0_readClause 80 = .ok (.aload_n 0, 1) := by decide +kernel
theorem dX0_readClause_81 : decode cX0_readClause 81 = .ok (.aload_n 1, 1) := by decide +kernel
theorem dX0_readClause_82 : decode cX0_readClause 82 = .ok (.invokevirtual 57, 3) := by decide +kernel
theorem dX0_readClause_85 : decode cX0_readClause 85 = .ok (.goto 34, 3) := by decide +kernel
theorem dX0_readClause_88 : decode cX0_readClause 88 = .ok (.iload_n 3, 1) := by decide +kernel
theorem dX0_readClause_89 : decode cX0_readClause 89 = .ok (.iconst 1, 1) := by decide +kernel
theorem dX0_readClause_90 : decode cX0_readClause 90 = .ok (.if_icmp .ne 11, 3) := by decide +kernel
theorem dX0_readClause_93 : decode cX0_readClause 93 = .ok (.aload_n 0, 1) := by decide +kernel
theorem dX0_readClause_94 : decode cX0_readClause 94 = .ok (.aload_n 1, 1) := by decide +kernel
theorem dX0_readClause_95 : decode cX0_readClause 95 = .ok (.invokevirtual 61, 3) := by decide +kernel
theorem dX0_readClause_98 : decode cX0_readClause 98 = .ok (.goto 21, 3) := by decide +kernel
theorem dX0_readClause_101 : decode cX0_readClause 101 = .ok (.iload_n 3, 1) := by decide +kernel
theorem dX0_readClause_102 : decode cX0_readClause 102 = .ok (.iconst 2, 1) := by decide +kernel
theorem dX0_readClause_103 : decode cX0_readClause 103 = .ok (.if_icmp .ne 11, 3) := by decide +kernel
theorem dX0_readClause_106 : decode cX0_readClause 106 = .ok (.aload_n 0, 1) := by decide +kernel
theorem dX0_readClause_107 : decode cX0_readClause 107 = .ok (.aload_n 1, 1) := by decide +kernel
theorem dX0_readClause_108 : decode cX0_readClause 108 = .ok (.invokevirtual 64, 3) := by decide +kernel
theorem dX0_readClause_111 : decode cX0_readClause 111 = .ok (.goto 8, 3) := by decide +kernel
theorem dX0_readClause_114 : decode cX0_readClause 114 = .ok (.aload_n 0, 1) := by decide +kernel
theorem dX0_readClause_115 : decode cX0_readClause 115 = .ok (.aload_n 1, 1) := by decide +kernel
theorem dX0_readClause_116 : decode cX0_readClause 116 = .ok (.invokevirtual 67, 3) := by decide +kernel
theorem dX0_readClause_119 : decode cX0_readClause 119 = .ok (.return_, 1) := by decide +kernel
theorem dX0_readSky_0 : decode cX0_readSky 0 = .ok (.aload_n 1, 1) := by decide +kernel
theorem dX0_readSky_1 : decode cX0_readSky 1 = .ok (.iconst 0, 1) := by decide +kernel
theorem dX0_readSky_2 : decode cX0_readSky 2 = .ok (.aload_n 0, 1) := by decide +kernel
theorem dX0_readSky_3 : decode cX0_readSky 3 = .ok (.getfield 12, 3) := by decide +kernel
theorem dX0_readSky_6 : decode cX0_readSky 6 = .ok (.getfield 80, 3) := by decide +kernel
theorem dX0_readSky_9 : decode cX0_readSky 9 = .ok (.iconst 1, 1) := by decide +kernel
theorem dX0_readSky_10 : decode cX0_readSky 10 = .ok (.isub, 1) := by decide +kernel
theorem dX0_readSky_11 : decode cX0_readSky 11 = .ok (.invokevirtual 70, 3) := by decide +kernel
theorem dX0_readSky_14 : decode cX0_readSky 14 = .ok (.istore_n 2, 1) := by decide +kernel
theorem dX0_readSky_15 : decode cX0_readSky 15 = .ok (.aload_n 1, 1) := by decide +kernel
theorem dX0_readSky_16 : decode cX0_readSky 16 = .ok (.iconst 0, 1) := by decide +kernel
theorem dX0_readSky_17 : decode cX0_readSky 17 = .ok (.bipush 9, 2) := by decide +kernel
theorem dX0_readSky_19 : decode cX0_readSky 19 = .ok (.invokevirtual 70, 3) := by decide +kernel
theorem dX0_readSky_22 : decode cX0_readSky 22 = .ok (.istore_n 3, 1) := by decide +kernel
theorem dX0_readSky_23 : decode cX0_readSky 23 = .ok (.aload_n 0, 1) := by decide +kernel
theorem dX0_readSky_24 : decode cX0_readSky 24 = .ok (.getfield 12, 3) := by decide +kernel
theorem dX0_readSky_27 : decode cX0_readSky 27 = .ok (.iload_n 2, 1) := by decide +kernel
theorem dX0_readSky_28 : decode cX0_readSky 28 = .ok (.invokevirtual 83, 3) := by decide +kernel
theorem dX0_readSky_31 : decode cX0_readSky 31 = .ok (.ifCond .eq 13, 3) := by decide +kernel
theorem dX0_readSky_34 : decode cX0_readSky 34 = .ok (.aload_n 0, 1) := by decide +kernel
theorem dX0_readSky_35 : decode cX0_readSky 35 = .ok (.getfield 12, 3) := by decide +kernel
theorem dX0_readSky_38 : decode cX0_readSky 38 = .ok (.getfield 87, 3) := by decide +kernel
theorem dX0_readSky_41 : decode cX0_readSky 41 = .ok (.iload_n 2, 1) := by decide +kernel
theorem dX0_readSky_42 : decode cX0_readSky 42 = .ok (.iload_n 3, 1) := by decide +kernel
theorem dX0_readSky_43 : decode cX0_readSky 43 = .ok (.iastore, 1) := by decide +kernel
theorem dX0_readSky_44 : decode cX0_readSky 44 = .ok (.return_, 1) := by decide +kernel
theorem dX0_readWatch_0 : decode cX0_readWatch 0 = .ok (.aload_n 1, 1) := by decide +kernel
theorem dX0_readWatch_1 : decode cX0_readWatch 1 = .ok (.iconst 0, 1) := by decide +kernel
theorem dX0_readWatch_2 : decode cX0_readWatch 2 = .ok (.aload_n 0, 1) := by decide +kernel
theorem dX0_readWatch_3 : decode cX0_readWatch 3 = .ok (.getfield 12, 3) := by decide +kernel
theorem dX0_readWatch_6 : decode cX0_readWatch 6 = .ok (.getfield 80, 3) := by decide +kernel
theorem dX0_readWatch_9 : decode cX0_readWatch 9 = .ok (.iconst 1, 1) := by decide +kernel
theorem dX0_readWatch_10 : decode cX0_readWatch 10 = .ok (.isub, 1) := by decide +kernel
theorem dX0_readWatch_11 : decode cX0_readWatch 11 = .ok (.invokevirtual 70, 3) := by decide +kernel
theorem dX0_readWatch_14 : decode cX0_readWatch 14 = .ok (.istore_n 2, 1) := by decide +kernel
theorem dX0_readWatch_15 : decode cX0_readWatch 15 = .ok (.aload_n 1, 1) := by decide +kernel
theorem dX0_readWatch_16 : decode cX0_readWatch 16 = .ok (.iconst 0, 1) := by decide +kernel
theorem dX0_readWatch_17 : decode cX0_readWatch 17 = .ok (.aload_n 0, 1) := by decide +kernel
theorem dX0_readWatch_18 : decode cX0_readWatch 18 = .ok (.getfield 12, 3) := by decide +kernel
theorem dX0_readWatch_21 : decode cX0_readWatch 21 = .ok (.getfield 51, 3) := by decide +kernel
theorem dX0_readWatch_24 : decode cX0_readWatch 24 = .ok (.iconst 1, 1) := by decide +kernel
theorem dX0_readWatch_25 : decode cX0_readWatch 25 = .ok (.isub, 1) := by decide +kernel
theorem dX0_readWatch_26 : decode cX0_readWatch 26 = .ok (.invokevirtual 70, 3) := by decide +kernel
theorem dX0_readWatch_29 : decode cX0_readWatch 29 = .ok (.istore_n 3, 1) := by decide +kernel
theorem dX0_readWatch_30 : decode cX0_readWatch 30 = .ok (.aload_n 0, 1) := by decide +kernel
theorem dX0_readWatch_31 : decode cX0_readWatch 31 = .ok (.getfield 12, 3) := by decide +kernel
theorem dX0_readWatch_34 : decode cX0_readWatch 34 = .ok (.iload_n 2, 1) := by decide +kernel
theorem dX0_readWatch_35 : decode cX0_readWatch 35 = .ok (.invokevirtual 83, 3) := by decide +kernel
theorem dX0_readWatch_38 : decode cX0_readWatch 38 = .ok (.ifCond .eq 29, 3) := by decide +kernel
theorem dX0_readWatch_41 : decode cX0_readWatch 41 = .ok (.aload_n 0, 1) := by decide +kernel
theorem dX0_readWatch_42 : decode cX0_readWatch 42 = .ok (.getfield 12, 3) := by decide +kernel
theorem dX0_readWatch_45 : decode cX0_readWatch 45 = .ok (.iload_n 3, 1) := by decide +kernel
theorem dX0_readWatch_46 : decode cX0_readWatch 46 = .ok (.invokevirtual 100, 3) := by decide +kernel
theorem dX0_readWatch_49 : decode cX0_readWatch 49 = .ok (.ifCond .eq 18, 3) := by decide +kernel
theorem dX0_readWatch_52 : decode cX0_readWatch 52 = .ok (.aload_n 0, 1) := by decide +kernel
theorem dX0_readWatch_53 : decode cX0_readWatch 53 = .ok (.getfield 12, 3) := by decide +kernel
theorem dX0_readWatch_56 : decode cX0_readWatch 56 = .ok (.getfield 103, 3) := by decide +kernel
theorem dX0_readWatch_59 : decode cX0_readWatch 59 = .ok (.iload_n 2, 1) := by decide +kernel
theorem dX0_readWatch_60 : decode cX0_readWatch 60 = .ok (.dup2, 1) := by decide +kernel
theorem dX0_readWatch_61 : decode cX0_readWatch 61 = .ok (.iaload, 1) := by decide +kernel
theorem dX0_readWatch_62 : decode cX0_readWatch 62 = .ok (.iconst 1, 1) := by decide +kernel
theorem dX0_readWatch_63 : decode cX0_readWatch 63 = .ok (.iload_n 3, 1) := by decide +kernel
theorem dX0_readWatch_64 : decode cX0_readWatch 64 = .ok (.ishl, 1) := by decide +kernel
theorem dX0_readWatch_65 : decode cX0_readWatch 65 = .ok (.ior, 1) := by decide +kernel
theorem dX0_readWatch_66 : decode cX0_readWatch 66 = .ok (.iastore, 1) := by decide +kernel
theorem dX0_readWatch_67 : decode cX0_readWatch 67 = .ok (.return_, 1) := by decide +kernel
