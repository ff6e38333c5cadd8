set_option maxRecDepth 16384
def dX12_isWilling (Mf_2 : Nat → Int32) (Mf_4 : Nat → Int32) (Mf_5 : Nat → Int32) (Mf_10 : Nat → Int32) (Mg_8 : Nat → Int64) (Mg_9 : Nat → Int64) (Mv_10 : Int32) (Mv_11 : Int32) (x1 : Int32) : Int32 × Int32 × (Nat → Int64) × (Nat → Int64) := (if (0 : Int32) ≤ Mv_11 then (if (lg_cmp (dX12_summedBy Mf_2 Mf_4 Mf_5 Mg_8 (vp_updL (vp_updL (vp_updL (vp_updL (vp_updL (vp_updL (vp_updL (vp_updL (vp_updL (vp_updL (vp_updL (vp_updL (vp_updL Mg_9 ((0 : Int32)).toNatClampNeg (x1).toInt64) ((1 : Int32)).toNatClampNeg ((dX12_temperOf Mf_10 x1)).toInt64) ((2 : Int32)).toNatClampNeg ((Mf_10 (((56 : Int32) + x1)).toNatClampNeg)).toInt64) ((3 : Int32)).toNatClampNeg ((Mf_10 (((62 : Int32) + x1)).toNatClampNeg)).toInt64) ((4 : Int32)).toNatClampNeg ((Mf_10 (((36 : Int32) + (dX12_clock Mf_10))).toNatClampNeg)).toInt64) ((5 : Int32)).toNatClampNeg ((Mf_10 (((36 : Int32) + (((Mf_10 ((10 : Int32)).toNatClampNeg) + (1 : Int32)) - ((Mf_10 ((10 : Int32)).toNatClampNeg) + (1 : Int32)) / (Mf_10 ((2 : Int32)).toNatClampNeg) * (Mf_10 ((2 : Int32)).toNatClampNeg)))).toNatClampNeg)).toInt64) ((6 : Int32)).toNatClampNeg ((Mf_10 ((11 : Int32)).toNatClampNeg)).toInt64) ((7 : Int32)).toNatClampNeg ((dX12_boughtBy Mf_10 x1)).toInt64) ((8 : Int32)).toNatClampNeg ((dX12_metOf Mf_10 x1)).toInt64) ((9 : Int32)).toNatClampNeg ((dX12_sinceOf Mf_10 x1)).toInt64) ((10 : Int32)).toNatClampNeg ((dX12_soldAll Mf_10)).toInt64) ((11 : Int32)).toNatClampNeg ((dX12_clock Mf_10)).toInt64) ((12 : Int32)).toNatClampNeg ((Mf_10 ((10 : Int32)).toNatClampNeg)).toInt64) Mv_10 Mv_11).1 (0 : Int64)) ≤ (0 : Int32) then ((0 : Int32), (dX12_summedBy Mf_2 Mf_4 Mf_5 Mg_8 (vp_updL (vp_updL (vp_updL (vp_updL (vp_updL (vp_updL (vp_updL (vp_updL (vp_updL (vp_updL (vp_updL (vp_updL (vp_updL Mg_9 ((0 : Int32)).toNatClampNeg (x1).toInt64) ((1 : Int32)).toNatClampNeg ((dX12_temperOf Mf_10 x1)).toInt64) ((2 : Int32)).toNatClampNeg ((Mf_10 (((56 : Int32) + x1)).toNatClampNeg)).toInt64) ((3 : Int32)).toNatClampNeg ((Mf_10 (((62 : Int32) + x1)).toNatClampNeg)).toInt64) ((4 : Int32)).toNatClampNeg ((Mf_10 (((36 : Int32) + (dX12_clock Mf_10))).toNatClampNeg)).toInt64) ((5 : Int32)).toNatClampNeg ((Mf_10 (((36 : Int32) + (((Mf_10 ((10 : Int32)).toNatClampNeg) + (1 : Int32)) - ((Mf_10 ((10 : Int32)).toNatClampNeg) + (1 : Int32)) / (Mf_10 ((2 : Int32)).toNatClampNeg) * (Mf_10 ((2 : Int32)).toNatClampNeg)))).toNatClampNeg)).toInt64) ((6 : Int32)).toNatClampNeg ((Mf_10 ((11 : Int32)).toNatClampNeg)).toInt64) ((7 : Int32)).toNatClampNeg ((dX12_boughtBy Mf_10 x1)).toInt64) ((8 : Int32)).toNatClampNeg ((dX12_metOf Mf_10 x1)).toInt64) ((9 : Int32)).toNatClampNeg ((dX12_sinceOf Mf_10 x1)).toInt64) ((10 : Int32)).toNatClampNeg ((dX12_soldAll Mf_10)).toInt64) ((11 : Int32)).toNatClampNeg ((dX12_clock Mf_10)).toInt64) ((12 : Int32)).toNatClampNeg ((Mf_10 ((10 : Int32)).toNatClampNeg)).toInt64) Mv_10 Mv_11).2.1, ((dX12_summedBy Mf_2 Mf_4 Mf_5 Mg_8 (vp_updL (vp_updL (vp_updL (vp_updL (vp_updL (vp_updL (vp_updL (vp_updL (vp_updL (vp_updL (vp_updL (vp_updL (vp_updL Mg_9 ((0 : Int32)).toNatClampNeg (x1).toInt64) ((1 : Int32)).toNatClampNeg ((dX12_temperOf Mf_10 x1)).toInt64) ((2 : Int32)).toNatClampNeg ((Mf_10 (((56 : Int32) + x1)).toNatClampNeg)).toInt64) ((3 : Int32)).toNatClampNeg ((Mf_10 (((62 : Int32) + x1)).toNatClampNeg)).toInt64) ((4 : Int32)).toNatClampNeg ((Mf_10 (((36 : Int32) + (dX12_clock Mf_10))).toNatClampNeg)).toInt64) ((5 : Int32)).toNatClampNeg ((Mf_10 (((36 : Int32) + (((Mf_10 ((10 : Int32)).toNatClampNeg) + (1 : Int32)) - ((Mf_10 ((10 : Int32)).toNatClampNeg) + (1 : Int32)) / (Mf_10 ((2 : Int32)).toNatClampNeg) * (Mf_10 ((2 : Int32)).toNatClampNeg)))).toNatClampNeg)).toInt64) ((6 : Int32)).toNatClampNeg ((Mf_10 ((11 : Int32)).toNatClampNeg)).toInt64) ((7 : Int32)).toNatClampNeg ((dX12_boughtBy Mf_10 x1)).toInt64) ((8 : Int32)).toNatClampNeg ((dX12_metOf Mf_10 x1)).toInt64) ((9 : Int32)).toNatClampNeg ((dX12_sinceOf Mf_10 x1)).toInt64) ((10 : Int32)).toNatClampNeg ((dX12_soldAll Mf_10)).toInt64) ((11 : Int32)).toNatClampNeg ((dX12_clock Mf_10)).toInt64) ((12 : Int32)).toNatClampNeg ((Mf_10 ((10 : Int32)).toNatClampNeg)).toInt64) Mv_10 Mv_11).2.2), (vp_updL (vp_updL (vp_updL (vp_updL (vp_updL (vp_updL (vp_updL (vp_updL (vp_updL (vp_updL (vp_updL (vp_updL (vp_updL Mg_9 ((0 : Int32)).toNatClampNeg (x1).toInt64) ((1 : Int32)).toNatClampNeg ((dX12_temperOf Mf_10 x1)).toInt64) ((2 : Int32)).toNatClampNeg ((Mf_10 (((56 : Int32) + x1)).toNatClampNeg)).toInt64) ((3 : Int32)).toNatClampNeg ((Mf_10 (((62 : Int32) + x1)).toNatClampNeg)).toInt64) ((4 : Int32)).toNatClampNeg ((Mf_10 (((36 : Int32) + (dX12_clock Mf_10))).toNatClampNeg)).toInt64) ((5 : Int32)).toNatClampNeg ((Mf_10 (((36 : Int32) + (((Mf_10 ((10 : Int32)).toNatClampNeg) + (1 : Int32)) - ((Mf_10 ((10 : Int32)).toNatClampNeg) + (1 : Int32)) / (Mf_10 ((2 : Int32)).toNatClampNeg) * (Mf_10 ((2 : Int32)).toNatClampNeg)))).toNatClampNeg)).toInt64) ((6 : Int32)).toNatClampNeg ((Mf_10 ((11 : Int32)).toNatClampNeg)).toInt64) ((7 : Int32)).toNatClampNeg ((dX12_boughtBy Mf_10 x1)).toInt64) ((8 : Int32)).toNatClampNeg ((dX12_metOf Mf_10 x1)).toInt64) ((9 : Int32)).toNatClampNeg ((dX12_sinceOf Mf_10 x1)).toInt64) ((10 : Int32)).toNatClampNeg ((dX12_soldAll Mf_10)).toInt64) ((11 : Int32)).toNatClampNeg ((dX12_clock Mf_10)).toInt64) ((12 : Int32)).toNatClampNeg ((Mf_10 ((10 : Int32)).toNatClampNeg)).toInt64)) else ((1 : Int32), (dX12_summedBy Mf_2 Mf_4 Mf_5 Mg_8 (vp_updL (vp_updL (vp_updL (vp_updL (vp_updL (vp_updL (vp_updL (vp_updL (vp_updL (vp_updL (vp_updL (vp_updL (vp_updL Mg_9 ((0 : Int32)).toNatClampNeg (x1).toInt64) ((1 : Int32)).toNatClampNeg ((dX12_temperOf Mf_10 x1)).toInt64) ((2 : Int32)).toNatClampNeg ((Mf_10 (((56 : Int32) + x1)).toNatClampNeg)).toInt64) ((3 : Int32)).toNatClampNeg ((Mf_10 (((62 : Int32) + x1)).toNatClampNeg)).toInt64) ((4 : Int32)).toNatClampNeg ((Mf_10 (((36 : Int32) + (dX12_clock Mf_10))).toNatClampNeg)).toInt64) ((5 : Int32)).toNatClampNeg ((Mf_10 (((36 : Int32) + (((Mf_10 ((10 : Int32)).toNatClampNeg) + (1 : Int32)) - ((Mf_10 ((10 : Int32)).toNatClampNeg) + (1 : Int32)) / (Mf_10 ((2 : Int32)).toNatClampNeg) * (Mf_10 ((2 : Int32)).toNatClampNeg)))).toNatClampNeg)).toInt64) ((6 : Int32)).toNatClampNeg ((Mf_10 ((11 : Int32)).toNatClampNeg)).toInt64) ((7 : Int32)).toNatClampNeg ((dX12_boughtBy Mf_10 x1)).toInt64) ((8 : Int32)).toNatClampNeg ((dX12_metOf Mf_10 x1)).toInt64) ((9 : Int32)).toNatClampNeg ((dX12_sinceOf Mf_10 x1)).toInt64) ((10 : Int32)).toNatClampNeg ((dX12_soldAll Mf_10)).toInt64) ((11 : Int32)).toNatClampNeg ((dX12_clock Mf_10)).toInt64) ((12 : Int32)).toNatClampNeg ((Mf_10 ((10 : Int32)).toNatClampNeg)).toInt64) Mv_10 Mv_11).2.1, ((dX12_summedBy Mf_2 Mf_4 Mf_5 Mg_8 (vp_updL (vp_updL (vp_updL (vp_updL (vp_updL (vp_updL (vp_updL (vp_updL (vp_updL (vp_updL (vp_updL (vp_updL (vp_updL Mg_9 ((0 : Int32)).toNatClampNeg (x1).toInt64) ((1 : Int32)).toNatClampNeg ((dX12_temperOf Mf_10 x1)).toInt64) ((2 : Int32)).toNatClampNeg ((Mf_10 (((56 : Int32) + x1)).toNatClampNeg)).toInt64) ((3 : Int32)).toNatClampNeg ((Mf_10 (((62 : Int32) + x1)).toNatClampNeg)).toInt64) ((4 : Int32)).toNatClampNeg ((Mf_10 (((36 : Int32) + (dX12_clock Mf_10))).toNatClampNeg)).toInt64) ((5 : Int32)).toNatClampNeg ((Mf_10 (((36 : Int32) + (((Mf_10 ((10 : Int32)).toNatClampNeg) + (1 : Int32)) - ((Mf_10 ((10 : Int32)).toNatClampNeg) + (1 : Int32)) / (Mf_10 ((2 : Int32)).toNatClampNeg) * (Mf_10 ((2 : Int32)).toNatClampNeg)))).toNatClampNeg)).toInt64) ((6 : Int32)).toNatClampNeg ((Mf_10 ((11 : Int32)).toNatClampNeg)).toInt64) ((7 : Int32)).toNatClampNeg ((dX12_boughtBy Mf_10 x1)).toInt64) ((8 : Int32)).toNatClampNeg ((dX12_metOf Mf_10 x1)).toInt64) ((9 : Int32)).toNatClampNeg ((dX12_sinceOf Mf_10 x1)).toInt64) ((10 : Int32)).toNatClampNeg ((dX12_soldAll Mf_10)).toInt64) ((11 : Int32)).toNatClampNeg ((dX12_clock Mf_10)).toInt64) ((12 : Int32)).toNatClampNeg ((Mf_10 ((10 : Int32)).toNatClampNeg)).toInt64) Mv_10 Mv_11).2.2), (vp_updL (vp_updL (vp_updL (vp_updL (vp_updL (vp_updL (vp_updL (vp_updL (vp_updL (vp_updL (vp_updL (vp_updL (vp_updL Mg_9 ((0 : Int32)).toNatClampNeg (x1).toInt64) ((1 : Int32)).toNatClampNeg ((dX12_temperOf Mf_10 x1)).toInt64) ((2 : Int32)).toNatClampNeg ((Mf_10 (((56 : Int32) + x1)).toNatClampNeg)).toInt64) ((3 : Int32)).toNatClampNeg ((Mf_10 (((62 : Int32) + x1)).toNatClampNeg)).toInt64) ((4 : Int32)).toNatClampNeg ((Mf_10 (((36 : Int32) + (dX12_clock Mf_10))).toNatClampNeg)).toInt64) ((5 : Int32)).toNatClampNeg ((Mf_10 (((36 : Int32) + (((Mf_10 ((10 : Int32)).toNatClampNeg) + (1 : Int32)) - ((Mf_10 ((10 : Int32)).toNatClampNeg) + (1 : Int32)) / (Mf_10 ((2 : Int32)).toNatClampNeg) * (Mf_10 ((2 : Int32)).toNatClampNeg)))).toNatClampNeg)).toInt64) ((6 : Int32)).toNatClampNeg ((Mf_10 ((11 : Int32)).toNatClampNeg)).toInt64) ((7 : Int32)).toNatClampNeg ((dX12_boughtBy Mf_10 x1)).toInt64) ((8 : Int32)).toNatClampNeg ((dX12_metOf Mf_10 x1)).toInt64) ((9 : Int32)).toNatClampNeg ((dX12_sinceOf Mf_10 x1)).toInt64) ((10 : Int32)).toNatClampNeg ((dX12_soldAll Mf_10)).toInt64) ((11 : Int32)).toNatClampNeg ((dX12_clock Mf_10)).toInt64) ((12 : Int32)).toNatClampNeg ((Mf_10 ((10 : Int32)).toNatClampNeg)).toInt64))) else (if ((dX12_temperOf Mf_10 x1) + (Mf_10 (((36 : Int32) + (dX12_clock Mf_10))).toNatClampNeg)) < (12 : Int32) then ((0 : Int32), Mv_10, Mg_8, Mg_9) else ((1 : Int32), Mv_10, Mg_8, Mg_9)))
set_option maxHeartbeats 4000000 in
set_option maxRecDepth 100000 in
theorem ct_dX12_isWilling {T : Nat → Option Int32} (l : Launch) (D : va_G) (tc : Nat → ClassId) (sk : (Nat → Nat) × (Nat → Nat)) (Ma : Nat → Nat) (Mv : Nat → Int32) (Mf : Nat → Nat → Int32) (Mj : Nat → Int64) (Mg : Nat → Nat → Int64) (x1 : Int32) (d : Int) (h_b : 0 ≤ x1.toInt ∧ x1.toInt < 6) (h_said : SaidD T (Mf 10) d) (h_d : d ≤ 1000000) (h_rul : RulD (Mf 2) (Mf 4) (Mf 5) (Mv 1)) (h_frc : -1 ≤ (Mv 11).toInt ∧ (Mv 11).toInt < (Mv 1).toInt ∧ (Mv 1).toInt ≤ 6) (h_2 : 1 ≤ ((Mf 10) 2).toInt ∧ ((Mf 10) 2).toInt ≤ 10) : Ct l yX12_isWilling cX12_isWilling 3 (some .boolean) { frames := 3, cells := 0, slots := 0, locals := 77 } D tc sk [.ref (Ma 0), .int x1] [((Ma 0), .inr (12, [.ref (Ma 1), .int (Mv 0), .int (Mv 1), .ref (Ma 2), .ref (Ma 3), .ref (Ma 4), .ref (Ma 5), .ref (Ma 6), .int (Mv 2), .int (Mv 3), .int (Mv 4), .int (Mv 5), .int (Mv 6), .int (Mv 7), .int (Mv 8), .ref (Ma 7), .int (Mv 9), .ref (Ma 8), .int (Mv 10), .ref (Ma 9), .ref (Ma 10), .int (Mv 11), .int (Mv 12), .int (Mv 13), .ref (Ma 11), .int (Mv 14), .ref (Ma 12), .ref (Ma 13), .ref (Ma 14), .ref (Ma 15), .ref (Ma 16), .long (Mj 0), .ref (Ma 17), .ref (Ma 18), .ref (Ma 19), .ref (Ma 20)])), ((Ma 2), .inl (tc 0, 2400, .inl (Mf 2))), ((Ma 4), .inl (tc 0, 288, .inl (Mf 4))), ((Ma 5), .inl (tc 0, 6, .inl (Mf 5))), ((Ma 8), .inl (tc 1, 64, .inr (.inl (Mg 8)))), ((Ma 9), .inl (tc 1, 13, .inr (.inl (Mg 9)))), ((Ma 10), .inl (tc 0, 126, .inl (Mf 10)))] (fun (v : Option Value) (u : (Int32) × (Nat → Int64) × (Nat → Int64)) => match u with | (oo0x1, oo0x2, oo0x3) => ∃ r : Int32, v = some (.int r) ∧ (((r.toInt = 0 ∨ r.toInt = 1)) ∧ (r, oo0x1, oo0x2, oo0x3) = (dX12_isWilling (Mf 2) (Mf 4) (Mf 5) (Mf 10) (Mg 8) (Mg 9) (Mv 10) (Mv 11) x1))) (fun (u : (Int32) × (Nat → Int64) × (Nat → Int64)) => match u with | (oo0x1, oo0x2, oo0x3) => [((Ma 0), .inr (12, [.ref (Ma 1), .int (Mv 0), .int (Mv 1), .ref (Ma 2), .ref (Ma 3), .ref (Ma 4), .ref (Ma 5), .ref (Ma 6), .int (Mv 2), .int (Mv 3), .int (Mv 4), .int (Mv 5), .int (Mv 6), .int (Mv 7), .int (Mv 8), .ref (Ma 7), .int (Mv 9), .ref (Ma 8), .int oo0x1, .ref (Ma 9), .ref (Ma 10), .int (Mv 11), .int (Mv 12), .int (Mv 13), .ref (Ma 11), .int (Mv 14), .ref (Ma 12), .ref (Ma 13), .ref (Ma 14), .ref (Ma 15), .ref (Ma 16), .long (Mj 0), .ref (Ma 17), .ref (Ma 18), .ref (Ma 19), .ref (Ma 20)])), ((Ma 2), .inl (tc 0, 2400, .inl (Mf 2))), ((Ma 4), .inl (tc 0, 288, .inl (Mf 4))), ((Ma 5), .inl (tc 0, 6, .inl (Mf 5))), ((Ma 8), .inl (tc 1, 64, .inr (.inl oo0x2))), ((Ma 9), .inl (tc 1, 13, .inr (.inl oo0x3))), ((Ma 10), .inl (tc 0, 126, .inl (Mf 10)))]) 0 0 := by
  refine Ct.start (by decide) (Nat.le_of_ble_eq_true rfl) (fun p e s m below meth c A ls hx hb hr hlk hin hml hown hts hK hX hP hD hA hl hS => ?_)
  have hl : lv_has ls 3 [(0, .ref (Ma 0)), (1, .int x1)] := hl
  have ar_h_said := SaidD.ar h_said
  refine lv_aload_n hx hb dX12_isWilling_0 rfl (lv_at hl 0 rfl) ?_
  refine gf_X12_39 hx hb hts hown hK hP 0 rfl rfl dX12_isWilling_1 ?_
  refine lv_bipush (v := 36) hx hb dX12_isWilling_4 (by decide) ?_
  refine lv_aload_n hx hb dX12_isWilling_6 rfl (lv_at hl 0 rfl) ?_
  refine cV (a := (Ma 0)) (As := []) (rest := [.int 36, .ref (Ma 10)]) (wr := [((Ma 2), .inl (tc 0, 2400, .inl (Mf 2))), ((Ma 4), .inl (tc 0, 288, .inl (Mf 4))), ((Ma 5), .inl (tc 0, 6, .inl (Mf 5))), ((Ma 8), .inl (tc 1, 64, .inr (.inl (Mg 8)))), ((Ma 9), .inl (tc 1, 13, .inr (.inl (Mg 9))))]) ⟨hx, hb, hml, hown, hts⟩ hK hX hA (cu_dX12_clock l D tc sk (Ma 0) (Ma 1) (Ma 2) (Ma 3) (Ma 4) (Ma 5) (Ma 6) (Ma 7) (Ma 8) (Ma 9) (Ma 10) (Ma 11) (Ma 12) (Ma 13) (Ma 14) (Ma 15) (Ma 16) (Ma 17) (Ma 18) (Ma 19) (Ma 20) (Mv 0) (Mv 1) (Mv 2) (Mv 3) (Mv 4) (Mv 5) (Mv 6) (Mv 7) (Mv 8) (Mv 9) (Mv 10) (Mv 11) (Mv 12) (Mv 13) (Mv 14) (Mf 10) (Mj 0) d h_said) k_1435 k_1432 k_1434 k_70 k_106 pl_X12_clock ⟨Nat.le_of_ble_eq_true rfl, Nat.le_of_ble_eq_true rfl⟩ rfl rfl (va_recv hK hP (ci := 12) (q0 := 0) rfl rfl) hP hD hS [0, 6] [1, 2, 3, 4, 5] rfl rfl rfl rfl rfl (by decide) rfl hl.1 rfl (Nat.le_of_ble_eq_true rfl) dX12_isWilling_7 ⟨Nat.le_of_ble_eq_true rfl, Nat.le_of_ble_eq_true rfl⟩ (fun v_1 u_2 H locs hv_3 hP₀ hD₀ hS₀ => ?_)
  obtain ⟨r_4, rfl, he_5⟩ := hv_3
  have he_5 : ((0 ≤ r_4.toInt ∧ r_4.toInt < 10)) ∧ r_4 = (dX12_clock (Mf 10)) := he_5
  refine W.eq (g2 := F0 m 10 ls [.int r_4, .int 36, .ref (Ma 10)]) rfl ?_
  replace hP : va_P D classes [((Ma 2), .inl (tc 0, 2400, .inl (Mf 2))), ((Ma 4), .inl (tc 0, 288, .inl (Mf 4))), ((Ma 5), .inl (tc 0, 6, .inl (Mf 5))), ((Ma 8), .inl (tc 1, 64, .inr (.inl (Mg 8)))), ((Ma 9), .inl (tc 1, 13, .inr (.inl (Mg 9)))), ((Ma 0), .inr (12, [.ref (Ma 1), .int (Mv 0), .int (Mv 1), .ref (Ma 2), .ref (Ma 3), .ref (Ma 4), .ref (Ma 5), .ref (Ma 6), .int (Mv 2), .int (Mv 3), .int (Mv 4), .int (Mv 5), .int (Mv 6), .int (Mv 7), .int (Mv 8), .ref (Ma 7), .int (Mv 9), .ref (Ma 8), .int (Mv 10), .ref (Ma 9), .ref (Ma 10), .int (Mv 11), .int (Mv 12), .int (Mv 13), .ref (Ma 11), .int (Mv 14), .ref (Ma 12), .ref (Ma 13), .ref (Ma 14), .ref (Ma 15), .ref (Ma 16), .long (Mj 0), .ref (Ma 17), .ref (Ma 18), .ref (Ma 19), .ref (Ma 20)])), ((Ma 10), .inl (tc 0, 126, .inl (Mf 10)))] H := hP₀
  replace hD : va_D A [((Ma 2), .inl (tc 0, 2400, .inl (Mf 2))), ((Ma 4), .inl (tc 0, 288, .inl (Mf 4))), ((Ma 5), .inl (tc 0, 6, .inl (Mf 5))), ((Ma 8), .inl (tc 1, 64, .inr (.inl (Mg 8)))), ((Ma 9), .inl (tc 1, 13, .inr (.inl (Mg 9)))), ((Ma 0), .inr (12, [.ref (Ma 1), .int (Mv 0), .int (Mv 1), .ref (Ma 2), .ref (Ma 3), .ref (Ma 4), .ref (Ma 5), .ref (Ma 6), .int (Mv 2), .int (Mv 3), .int (Mv 4), .int (Mv 5), .int (Mv 6), .int (Mv 7), .int (Mv 8), .ref (Ma 7), .int (Mv 9), .ref (Ma 8), .int (Mv 10), .ref (Ma 9), .ref (Ma 10), .int (Mv 11), .int (Mv 12), .int (Mv 13), .ref (Ma 11), .int (Mv 14), .ref (Ma 12), .ref (Ma 13), .ref (Ma 14), .ref (Ma 15), .ref (Ma 16), .long (Mj 0), .ref (Ma 17), .ref (Ma 18), .ref (Ma 19), .ref (Ma 20)])), ((Ma 10), .inl (tc 0, 126, .inl (Mf 10)))] := hD₀
  replace hS := hS₀
  clear hP₀ hD₀ hS₀
  obtain ⟨he_5, hq_7⟩ := he_5
  have er_4 : r_4 = (dX12_clock (Mf 10)) := hq_7
  refine lv_iadd hx hb dX12_isWilling_10 ?_
  refine lv_topi (fun x_8 ex_8 => ?_)
  have hi_9 : vp_in x_8 126 := by
    have y_36 : (36 : Int32).toInt = 36 := by decide
    have t_x_8 : x_8.toInt = (36 : Int32).toInt + (r_4 : Int32).toInt := by rw [ex_8]; exact add_toInt (by omega) (by omega)
    refine vp_in_iff.mpr ⟨?_, ?_⟩ <;> omega
  refine va_iald hx hb hK hP 6 0 rfl rfl hi_9 dX12_isWilling_11 ?_
  refine lv_topi (fun x_10 ex_10 => ?_)
  refine lv_istore_n (lv' := [(2, .int x_10), (0, .ref (Ma 0)), (1, .int x1)]) hx hb dX12_isWilling_12 rfl hl (by decide) rfl (fun ls hl₀ => ?_)
  replace hl := hl₀
  clear hl₀
  refine lv_aload_n hx hb dX12_isWilling_13 rfl (lv_at hl 1 rfl) ?_
  refine gf_X12_42 hx hb hts hown hK hP 5 rfl rfl dX12_isWilling_14 ?_
  refine lv_if_ge (tgt := 38) hx hb dX12_isWilling_17 (by decide) (fun c_11 => ?_) (fun c_11 => ?_)
  · skip
    refine lv_aload_n hx hb dX12_isWilling_38 rfl (lv_at hl 1 rfl) ?_
    refine gf_X12_36 hx hb hts hown hK hP 5 rfl rfl dX12_isWilling_39 ?_
    refine lv_iconst (v := 0) hx hb dX12_isWilling_42 (by decide) ?_
    refine lv_iload_n hx hb dX12_isWilling_43 rfl (lv_at hl 2 rfl) ?_
    refine lv_i2l (v := (x1).toInt64) hx hb dX12_isWilling_44 rfl ?_
    refine st_long hx hb hK hP hD hS 4 1 rfl rfl (vin_dec (by decide +kernel)) dX12_isWilling_45 (fun g_12 H locs eg_12 hP₀ hD₀ hS₀ => ?_)
    replace hP : va_P D classes [((Ma 2), .inl (tc 0, 2400, .inl (Mf 2))), ((Ma 4), .inl (tc 0, 288, .inl (Mf 4))), ((Ma 5), .inl (tc 0, 6, .inl (Mf 5))), ((Ma 8), .inl (tc 1, 64, .inr (.inl (Mg 8)))), ((Ma 9), .inl (tc 1, 13, .inr (.inl g_12))), ((Ma 0), .inr (12, [.ref (Ma 1), .int (Mv 0), .int (Mv 1), .ref (Ma 2), .ref (Ma 3), .ref (Ma 4), .ref (Ma 5), .ref (Ma 6), .int (Mv 2), .int (Mv 3), .int (Mv 4), .int (Mv 5), .int (Mv 6), .int (Mv 7), .int (Mv 8), .ref (Ma 7), .int (Mv 9), .ref (Ma 8), .int (Mv 10), .ref (Ma 9), .ref (Ma 10), .int (Mv 11), .int (Mv 12), .int (Mv 13), .ref (Ma 11), .int (Mv 14), .ref (Ma 12), .ref (Ma 13), .ref (Ma 14), .ref (Ma 15), .ref (Ma 16), .long (Mj 0), .ref (Ma 17), .ref (Ma 18), .ref (Ma 19), .ref (Ma 20)])), ((Ma 10), .inl (tc 0, 126, .inl (Mf 10)))] H := hP₀
    replace hD : va_D A [((Ma 2), .inl (tc 0, 2400, .inl (Mf 2))), ((Ma 4), .inl (tc 0, 288, .inl (Mf 4))), ((Ma 5), .inl (tc 0, 6, .inl (Mf 5))), ((Ma 8), .inl (tc 1, 64, .inr (.inl (Mg 8)))), ((Ma 9), .inl (tc 1, 13, .inr (.inl g_12))), ((Ma 0), .inr (12, [.ref (Ma 1), .int (Mv 0), .int (Mv 1), .ref (Ma 2), .ref (Ma 3), .ref (Ma 4), .ref (Ma 5), .ref (Ma 6), .int (Mv 2), .int (Mv 3), .int (Mv 4), .int (Mv 5), .int (Mv 6), .int (Mv 7), .int (Mv 8), .ref (Ma 7), .int (Mv 9), .ref (Ma 8), .int (Mv 10), .ref (Ma 9), .ref (Ma 10), .int (Mv 11), .int (Mv 12), .int (Mv 13), .ref (Ma 11), .int (Mv 14), .ref (Ma 12), .ref (Ma 13), .ref (Ma 14), .ref (Ma 15), .ref (Ma 16), .long (Mj 0), .ref (Ma 17), .ref (Ma 18), .ref (Ma 19), .ref (Ma 20)])), ((Ma 10), .inl (tc 0, 126, .inl (Mf 10)))] := hD₀
    replace hS := hS₀
    clear hP₀ hD₀ hS₀
    refine lv_aload_n hx hb dX12_isWilling_46 rfl (lv_at hl 1 rfl) ?_
    refine gf_X12_36 hx hb hts hown hK hP 5 rfl rfl dX12_isWilling_47 ?_
    refine lv_iconst (v := 1) hx hb dX12_isWilling_50 (by decide) ?_
    refine lv_aload_n hx hb dX12_isWilling_51 rfl (lv_at hl 1 rfl) ?_
    refine lv_iload_n hx hb dX12_isWilling_52 rfl (lv_at hl 2 rfl) ?_
    refine cV (a := (Ma 0)) (As := [.int x1]) (rest := [.int 1, .ref (Ma 9)]) (wr := [((Ma 2), .inl (tc 0, 2400, .inl (Mf 2))), ((Ma 4), .inl (tc 0, 288, .inl (Mf 4))), ((Ma 5), .inl (tc 0, 6, .inl (Mf 5))), ((Ma 8), .inl (tc 1, 64, .inr (.inl (Mg 8)))), ((Ma 9), .inl (tc 1, 13, .inr (.inl g_12)))]) ⟨hx, hb, hml, hown, hts⟩ hK hX hA (cu_dX12_temperOf l D tc sk (Ma 0) (Ma 1) (Ma 2) (Ma 3) (Ma 4) (Ma 5) (Ma 6) (Ma 7) (Ma 8) (Ma 9) (Ma 10) (Ma 11) (Ma 12) (Ma 13) (Ma 14) (Ma 15) (Ma 16) (Ma 17) (Ma 18) (Ma 19) (Ma 20) (Mv 0) (Mv 1) (Mv 2) (Mv 3) (Mv 4) (Mv 5) (Mv 6) (Mv 7) (Mv 8) (Mv 9) (Mv 10) (Mv 11) (Mv 12) (Mv 13) (Mv 14) (Mf 10) (Mj 0) x1 h_b) k_1379 k_1376 k_1378 k_59 k_106 pl_X12_temperOf ⟨Nat.le_of_ble_eq_true rfl, Nat.le_of_ble_eq_true rfl⟩ rfl rfl (va_recv hK hP (ci := 12) (q0 := 5) rfl rfl) hP hD hS [5, 6] [0, 1, 2, 3, 4] rfl rfl rfl rfl rfl (by decide) rfl hl.1 rfl (Nat.le_of_ble_eq_true rfl) dX12_isWilling_53 ⟨Nat.le_of_ble_eq_true rfl, Nat.le_of_ble_eq_true rfl⟩ (fun v_13 u_14 H locs hv_15 hP₀ hD₀ hS₀ => ?_)
    obtain ⟨r_16, rfl, he_17⟩ := hv_15
    have he_17 : (True) ∧ r_16 = (dX12_temperOf (Mf 10) x1) := he_17
    refine W.eq (g2 := F0 m 56 ls [.int r_16, .int 1, .ref (Ma 9)]) rfl ?_
    replace hP : va_P D classes [((Ma 2), .inl (tc 0, 2400, .inl (Mf 2))), ((Ma 4), .inl (tc 0, 288, .inl (Mf 4))), ((Ma 5), .inl (tc 0, 6, .inl (Mf 5))), ((Ma 8), .inl (tc 1, 64, .inr (.inl (Mg 8)))), ((Ma 9), .inl (tc 1, 13, .inr (.inl g_12))), ((Ma 0), .inr (12, [.ref (Ma 1), .int (Mv 0), .int (Mv 1), .ref (Ma 2), .ref (Ma 3), .ref (Ma 4), .ref (Ma 5), .ref (Ma 6), .int (Mv 2), .int (Mv 3), .int (Mv 4), .int (Mv 5), .int (Mv 6), .int (Mv 7), .int (Mv 8), .ref (Ma 7), .int (Mv 9), .ref (Ma 8), .int (Mv 10), .ref (Ma 9), .ref (Ma 10), .int (Mv 11), .int (Mv 12), .int (Mv 13), .ref (Ma 11), .int (Mv 14), .ref (Ma 12), .ref (Ma 13), .ref (Ma 14), .ref (Ma 15), .ref (Ma 16), .long (Mj 0), .ref (Ma 17), .ref (Ma 18), .ref (Ma 19), .ref (Ma 20)])), ((Ma 10), .inl (tc 0, 126, .inl (Mf 10)))] H := hP₀
    replace hD : va_D A [((Ma 2), .inl (tc 0, 2400, .inl (Mf 2))), ((Ma 4), .inl (tc 0, 288, .inl (Mf 4))), ((Ma 5), .inl (tc 0, 6, .inl (Mf 5))), ((Ma 8), .inl (tc 1, 64, .inr (.inl (Mg 8)))), ((Ma 9), .inl (tc 1, 13, .inr (.inl g_12))), ((Ma 0), .inr (12, [.ref (Ma 1), .int (Mv 0), .int (Mv 1), .ref (Ma 2), .ref (Ma 3), .ref (Ma 4), .ref (Ma 5), .ref (Ma 6), .int (Mv 2), .int (Mv 3), .int (Mv 4), .int (Mv 5), .int (Mv 6), .int (Mv 7), .int (Mv 8), .ref (Ma 7), .int (Mv 9), .ref (Ma 8), .int (Mv 10), .ref (Ma 9), .ref (Ma 10), .int (Mv 11), .int (Mv 12), .int (Mv 13), .ref (Ma 11), .int (Mv 14), .ref (Ma 12), .ref (Ma 13), .ref (Ma 14), .ref (Ma 15), .ref (Ma 16), .long (Mj 0), .ref (Ma 17), .ref (Ma 18), .ref (Ma 19), .ref (Ma 20)])), ((Ma 10), .inl (tc 0, 126, .inl (Mf 10)))] := hD₀
    replace hS := hS₀
    clear hP₀ hD₀ hS₀
    obtain ⟨he_17, hq_19⟩ := he_17
    have er_16 : r_16 = (dX12_temperOf (Mf 10) x1) := hq_19
    refine lv_i2l (v := (r_16).toInt64) hx hb dX12_isWilling_56 rfl ?_
    refine st_long hx hb hK hP hD hS 4 1 rfl rfl (vin_dec (by decide +kernel)) dX12_isWilling_57 (fun g_20 H locs eg_20 hP₀ hD₀ hS₀ => ?_)
    replace hP : va_P D classes [((Ma 2), .inl (tc 0, 2400, .inl (Mf 2))), ((Ma 4), .inl (tc 0, 288, .inl (Mf 4))), ((Ma 5), .inl (tc 0, 6, .inl (Mf 5))), ((Ma 8), .inl (tc 1, 64, .inr (.inl (Mg 8)))), ((Ma 9), .inl (tc 1, 13, .inr (.inl g_20))), ((Ma 0), .inr (12, [.ref (Ma 1), .int (Mv 0), .int (Mv 1), .ref (Ma 2), .ref (Ma 3), .ref (Ma 4), .ref (Ma 5), .ref (Ma 6), .int (Mv 2), .int (Mv 3), .int (Mv 4), .int (Mv 5), .int (Mv 6), .int (Mv 7), .int (Mv 8), .ref (Ma 7), .int (Mv 9), .ref (Ma 8), .int (Mv 10), .ref (Ma 9), .ref (Ma 10), .int (Mv 11), .int (Mv 12), .int (Mv 13), .ref (Ma 11), .int (Mv 14), .ref (Ma 12), .ref (Ma 13), .ref (Ma 14), .ref (Ma 15), .ref (Ma 16), .long (Mj 0), .ref (Ma 17), .ref (Ma 18), .ref (Ma 19), .ref (Ma 20)])), ((Ma 10), .inl (tc 0, 126, .inl (Mf 10)))] H := hP₀
    replace hD : va_D A [((Ma 2), .inl (tc 0, 2400, .inl (Mf 2))), ((Ma 4), .inl (tc 0, 288, .inl (Mf 4))), ((Ma 5), .inl (tc 0, 6, .inl (Mf 5))), ((Ma 8), .inl (tc 1, 64, .inr (.inl (Mg 8)))), ((Ma 9), .inl (tc 1, 13, .inr (.inl g_20))), ((Ma 0), .inr (12, [.ref (Ma 1), .int (Mv 0), .int (Mv 1), .ref (Ma 2), .ref (Ma 3), .ref (Ma 4), .ref (Ma 5), .ref (Ma 6), .int (Mv 2), .int (Mv 3), .int (Mv 4), .int (Mv 5), .int (Mv 6), .int (Mv 7), .int (Mv 8), .ref (Ma 7), .int (Mv 9), .ref (Ma 8), .int (Mv 10), .ref (Ma 9), .ref (Ma 10), .int (Mv 11), .int (Mv 12), .int (Mv 13), .ref (Ma 11), .int (Mv 14), .ref (Ma 12), .ref (Ma 13), .ref (Ma 14), .ref (Ma 15), .ref (Ma 16), .long (Mj 0), .ref (Ma 17), .ref (Ma 18), .ref (Ma 19), .ref (Ma 20)])), ((Ma 10), .inl (tc 0, 126, .inl (Mf 10)))] := hD₀
    replace hS := hS₀
    clear hP₀ hD₀ hS₀
    refine lv_aload_n hx hb dX12_isWilling_58 rfl (lv_at hl 1 rfl) ?_
    refine gf_X12_36 hx hb hts hown hK hP 5 rfl rfl dX12_isWilling_59 ?_
    refine lv_iconst (v := 2) hx hb dX12_isWilling_62 (by decide) ?_
    refine lv_aload_n hx hb dX12_isWilling_63 rfl (lv_at hl 1 rfl) ?_
    refine gf_X12_39 hx hb hts hown hK hP 5 rfl rfl dX12_isWilling_64 ?_
    refine lv_bipush (v := 56) hx hb dX12_isWilling_67 (by decide) ?_
    refine lv_iload_n hx hb dX12_isWilling_69 rfl (lv_at hl 2 rfl) ?_
    refine lv_iadd hx hb dX12_isWilling_70 ?_
    refine lv_topi (fun x_21 ex_21 => ?_)
    have hi_22 : vp_in x_21 126 := by
      have z_1 := Int32.le_iff_toInt_le.mp c_11
      have y_0 : (0 : Int32).toInt = 0 := by decide
      have y_56 : (56 : Int32).toInt = 56 := by decide
      have t_x_21 : x_21.toInt = (56 : Int32).toInt + (x1 : Int32).toInt := by rw [ex_21]; exact add_toInt (by omega) (by omega)
      refine vp_in_iff.mpr ⟨?_, ?_⟩ <;> omega
    refine va_iald hx hb hK hP 6 0 rfl rfl hi_22 dX12_isWilling_71 ?_
    refine lv_topi (fun x_23 ex_23 => ?_)
    refine lv_i2l (v := (x_23).toInt64) hx hb dX12_isWilling_72 rfl ?_
    refine st_long hx hb hK hP hD hS 4 1 rfl rfl (vin_dec (by decide +kernel)) dX12_isWilling_73 (fun g_24 H locs eg_24 hP₀ hD₀ hS₀ => ?_)
    replace hP : va_P D classes [((Ma 2), .inl (tc 0, 2400, .inl (Mf 2))), ((Ma 4), .inl (tc 0, 288, .inl (Mf 4))), ((Ma 5), .inl (tc 0, 6, .inl (Mf 5))), ((Ma 8), .inl (tc 1, 64, .inr (.inl (Mg 8)))), ((Ma 9), .inl (tc 1, 13, .inr (.inl g_24))), ((Ma 0), .inr (12, [.ref (Ma 1), .int (Mv 0), .int (Mv 1), .ref (Ma 2), .ref (Ma 3), .ref (Ma 4), .ref (Ma 5), .ref (Ma 6), .int (Mv 2), .int (Mv 3), .int (Mv 4), .int (Mv 5), .int (Mv 6), .int (Mv 7), .int (Mv 8), .ref (Ma 7), .int (Mv 9), .ref (Ma 8), .int (Mv 10), .ref (Ma 9), .ref (Ma 10), .int (Mv 11), .int (Mv 12), .int (Mv 13), .ref (Ma 11), .int (Mv 14), .ref (Ma 12), .ref (Ma 13), .ref (Ma 14), .ref (Ma 15), .ref (Ma 16), .long (Mj 0), .ref (Ma 17), .ref (Ma 18), .ref (Ma 19), .ref (Ma 20)])), ((Ma 10), .inl (tc 0, 126, .inl (Mf 10)))] H := hP₀
    replace hD : va_D A [((Ma 2), .inl (tc 0, 2400, .inl (Mf 2))), ((Ma 4), .inl (tc 0, 288, .inl (Mf 4))), ((Ma 5), .inl (tc 0, 6, .inl (Mf 5))), ((Ma 8), .inl (tc 1, 64, .inr (.inl (Mg 8)))), ((Ma 9), .inl (tc 1, 13, .inr (.inl g_24))), ((Ma 0), .inr (12, [.ref (Ma 1), .int (Mv 0), .int (Mv 1), .ref (Ma 2), .ref (Ma 3), .ref (Ma 4), .ref (Ma 5), .ref (Ma 6), .int (Mv 2), .int (Mv 3), .int (Mv 4), .int (Mv 5), .int (Mv 6), .int (Mv 7), .int (Mv 8), .ref (Ma 7), .int (Mv 9), .ref (Ma 8), .int (Mv 10), .ref (Ma 9), .ref (Ma 10), .int (Mv 11), .int (Mv 12), .int (Mv 13), .ref (Ma 11), .int (Mv 14), .ref (Ma 12), .ref (Ma 13), .ref (Ma 14), .ref (Ma 15), .ref (Ma 16), .long (Mj 0), .ref (Ma 17), .ref (Ma 18), .ref (Ma 19), .ref (Ma 20)])), ((Ma 10), .inl (tc 0, 126, .inl (Mf 10)))] := hD₀
    replace hS := hS₀
    clear hP₀ hD₀ hS₀
    refine lv_aload_n hx hb dX12_isWilling_74 rfl (lv_at hl 1 rfl) ?_
    refine gf_X12_36 hx hb hts hown hK hP 5 rfl rfl dX12_isWilling_75 ?_
    refine lv_iconst (v := 3) hx hb dX12_isWilling_78 (by decide) ?_
    refine lv_aload_n hx hb dX12_isWilling_79 rfl (lv_at hl 1 rfl) ?_
    refine gf_X12_39 hx hb hts hown hK hP 5 rfl rfl dX12_isWilling_80 ?_
    refine lv_bipush (v := 62) hx hb dX12_isWilling_83 (by decide) ?_
    refine lv_iload_n hx hb dX12_isWilling_85 rfl (lv_at hl 2 rfl) ?_
    refine lv_iadd hx hb dX12_isWilling_86 ?_
    refine lv_topi (fun x_25 ex_25 => ?_)
    have hi_26 : vp_in x_25 126 := by
      have z_1 := Int32.le_iff_toInt_le.mp c_11
      have y_0 : (0 : Int32).toInt = 0 := by decide
      have y_62 : (62 : Int32).toInt = 62 := by decide
      have t_x_25 : x_25.toInt = (62 : Int32).toInt + (x1 : Int32).toInt := by rw [ex_25]; exact add_toInt (by omega) (by omega)
      refine vp_in_iff.mpr ⟨?_, ?_⟩ <;> omega
    refine va_iald hx hb hK hP 6 0 rfl rfl hi_26 dX12_isWilling_87 ?_
    refine lv_topi (fun x_27 ex_27 => ?_)
    refine lv_i2l (v := (x_27).toInt64) hx hb dX12_isWilling_88 rfl ?_
    refine st_long hx hb hK hP hD hS 4 1 rfl rfl (vin_dec (by decide +kernel)) dX12_isWilling_89 (fun g_28 H locs eg_28 hP₀ hD₀ hS₀ => ?_)
    replace hP : va_P D classes [((Ma 2), .inl (tc 0, 2400, .inl (Mf 2))), ((Ma 4), .inl (tc 0, 288, .inl (Mf 4))), ((Ma 5), .inl (tc 0, 6, .inl (Mf 5))), ((Ma 8), .inl (tc 1, 64, .inr (.inl (Mg 8)))), ((Ma 9), .inl (tc 1, 13, .inr (.inl g_28))), ((Ma 0), .inr (12, [.ref (Ma 1), .int (Mv 0), .int (Mv 1), .ref (Ma 2), .ref (Ma 3), .ref (Ma 4), .ref (Ma 5), .ref (Ma 6), .int (Mv 2), .int (Mv 3), .int (Mv 4), .int (Mv 5), .int (Mv 6), .int (Mv 7), .int (Mv 8), .ref (Ma 7), .int (Mv 9), .ref (Ma 8), .int (Mv 10), .ref (Ma 9), .ref (Ma 10), .int (Mv 11), .int (Mv 12), .int (Mv 13), .ref (Ma 11), .int (Mv 14), .ref (Ma 12), .ref (Ma 13), .ref (Ma 14), .ref (Ma 15), .ref (Ma 16), .long (Mj 0), .ref (Ma 17), .ref (Ma 18), .ref (Ma 19), .ref (Ma 20)])), ((Ma 10), .inl (tc 0, 126, .inl (Mf 10)))] H := hP₀
    replace hD : va_D A [((Ma 2), .inl (tc 0, 2400, .inl (Mf 2))), ((Ma 4), .inl (tc 0, 288, .inl (Mf 4))), ((Ma 5), .inl (tc 0, 6, .inl (Mf 5))), ((Ma 8), .inl (tc 1, 64, .inr (.inl (Mg 8)))), ((Ma 9), .inl (tc 1, 13, .inr (.inl g_28))), ((Ma 0), .inr (12, [.ref (Ma 1), .int (Mv 0), .int (Mv 1), .ref (Ma 2), .ref (Ma 3), .ref (Ma 4), .ref (Ma 5), .ref (Ma 6), .int (Mv 2), .int (Mv 3), .int (Mv 4), .int (Mv 5), .int (Mv 6), .int (Mv 7), .int (Mv 8), .ref (Ma 7), .int (Mv 9), .ref (Ma 8), .int (Mv 10), .ref (Ma 9), .ref (Ma 10), .int (Mv 11), .int (Mv 12), .int (Mv 13), .ref (Ma 11), .int (Mv 14), .ref (Ma 12), .ref (Ma 13), .ref (Ma 14), .ref (Ma 15), .ref (Ma 16), .long (Mj 0), .ref (Ma 17), .ref (Ma 18), .ref (Ma 19), .ref (Ma 20)])), ((Ma 10), .inl (tc 0, 126, .inl (Mf 10)))] := hD₀
    replace hS := hS₀
    clear hP₀ hD₀ hS₀
    refine lv_aload_n hx hb dX12_isWilling_90 rfl (lv_at hl 1 rfl) ?_
    refine gf_X12_36 hx hb hts hown hK hP 5 rfl rfl dX12_isWilling_91 ?_
    refine lv_iconst (v := 4) hx hb dX12_isWilling_94 (by decide) ?_
    refine lv_iload_n hx hb dX12_isWilling_95 rfl (lv_at hl 0 rfl) ?_
    refine lv_i2l (v := (x_10).toInt64) hx hb dX12_isWilling_96 rfl ?_
    refine st_long hx hb hK hP hD hS 4 1 rfl rfl (vin_dec (by decide +kernel)) dX12_isWilling_97 (fun g_29 H locs eg_29 hP₀ hD₀ hS₀ => ?_)
    replace hP : va_P D classes [((Ma 2), .inl (tc 0, 2400, .inl (Mf 2))), ((Ma 4), .inl (tc 0, 288, .inl (Mf 4))), ((Ma 5), .inl (tc 0, 6, .inl (Mf 5))), ((Ma 8), .inl (tc 1, 64, .inr (.inl (Mg 8)))), ((Ma 9), .inl (tc 1, 13, .inr (.inl g_29))), ((Ma 0), .inr (12, [.ref (Ma 1), .int (Mv 0), .int (Mv 1), .ref (Ma 2), .ref (Ma 3), .ref (Ma 4), .ref (Ma 5), .ref (Ma 6), .int (Mv 2), .int (Mv 3), .int (Mv 4), .int (Mv 5), .int (Mv 6), .int (Mv 7), .int (Mv 8), .ref (Ma 7), .int (Mv 9), .ref (Ma 8), .int (Mv 10), .ref (Ma 9), .ref (Ma 10), .int (Mv 11), .int (Mv 12), .int (Mv 13), .ref (Ma 11), .int (Mv 14), .ref (Ma 12), .ref (Ma 13), .ref (Ma 14), .ref (Ma 15), .ref (Ma 16), .long (Mj 0), .ref (Ma 17), .ref (Ma 18), .ref (Ma 19), .ref (Ma 20)])), ((Ma 10), .inl (tc 0, 126, .inl (Mf 10)))] H := hP₀
    replace hD : va_D A [((Ma 2), .inl (tc 0, 2400, .inl (Mf 2))), ((Ma 4), .inl (tc 0, 288, .inl (Mf 4))), ((Ma 5), .inl (tc 0, 6, .inl (Mf 5))), ((Ma 8), .inl (tc 1, 64, .inr (.inl (Mg 8)))), ((Ma 9), .inl (tc 1, 13, .inr (.inl g_29))), ((Ma 0), .inr (12, [.ref (Ma 1), .int (Mv 0), .int (Mv 1), .ref (Ma 2), .ref (Ma 3), .ref (Ma 4), .ref (Ma 5), .ref (Ma 6), .int (Mv 2), .int (Mv 3), .int (Mv 4), .int (Mv 5), .int (Mv 6), .int (Mv 7), .int (Mv 8), .ref (Ma 7), .int (Mv 9), .ref (Ma 8), .int (Mv 10), .ref (Ma 9), .ref (Ma 10), .int (Mv 11), .int (Mv 12), .int (Mv 13), .ref (Ma 11), .int (Mv 14), .ref (Ma 12), .ref (Ma 13), .ref (Ma 14), .ref (Ma 15), .ref (Ma 16), .long (Mj 0), .ref (Ma 17), .ref (Ma 18), .ref (Ma 19), .ref (Ma 20)])), ((Ma 10), .inl (tc 0, 126, .inl (Mf 10)))] := hD₀
    replace hS := hS₀
    clear hP₀ hD₀ hS₀
    refine lv_aload_n hx hb dX12_isWilling_98 rfl (lv_at hl 1 rfl) ?_
    refine gf_X12_36 hx hb hts hown hK hP 5 rfl rfl dX12_isWilling_99 ?_
    refine lv_iconst (v := 5) hx hb dX12_isWilling_102 (by decide) ?_
    refine lv_aload_n hx hb dX12_isWilling_103 rfl (lv_at hl 1 rfl) ?_
    refine gf_X12_39 hx hb hts hown hK hP 5 rfl rfl dX12_isWilling_104 ?_
    refine lv_bipush (v := 36) hx hb dX12_isWilling_107 (by decide) ?_
    refine lv_aload_n hx hb dX12_isWilling_109 rfl (lv_at hl 1 rfl) ?_
    refine gf_X12_39 hx hb hts hown hK hP 5 rfl rfl dX12_isWilling_110 ?_
    refine lv_bipush (v := 10) hx hb dX12_isWilling_113 (by decide) ?_
    refine va_iald hx hb hK hP 6 0 rfl rfl (vin_dec (by decide +kernel)) dX12_isWilling_115 ?_
    refine lv_topi (fun x_30 ex_30 => ?_)
    have lx_30 : x_30.toInt = ((Mf 10) 10).toInt := congrArg Int32.toInt ex_30
    refine lv_iconst (v := 1) hx hb dX12_isWilling_116 (by decide) ?_
    refine lv_iadd hx hb dX12_isWilling_117 ?_
    refine lv_topi (fun x_31 ex_31 => ?_)
    refine lv_aload_n hx hb dX12_isWilling_118 rfl (lv_at hl 1 rfl) ?_
    refine gf_X12_39 hx hb hts hown hK hP 5 rfl rfl dX12_isWilling_119 ?_
    refine lv_iconst (v := 2) hx hb dX12_isWilling_122 (by decide) ?_
    refine va_iald hx hb hK hP 6 0 rfl rfl (vin_dec (by decide +kernel)) dX12_isWilling_123 ?_
    refine lv_topi (fun x_32 ex_32 => ?_)
    have lx_32 : x_32.toInt = ((Mf 10) 2).toInt := congrArg Int32.toInt ex_32
    have hz_33 : ¬ x_32 = 0 := by
      intro z
      have zz : (x_32 : Int32).toInt = 0 := by rw [z]; decide
      have z_1 := Int32.le_iff_toInt_le.mp c_11
      have y_0 : (0 : Int32).toInt = 0 := by decide
      omega
    refine lv_irem hx hb dX12_isWilling_124 hz_33 ?_
    refine lv_topi (fun x_34 ex_34 => ?_)
    refine lv_iadd hx hb dX12_isWilling_125 ?_
    refine lv_topi (fun x_35 ex_35 => ?_)
    have hi_36 : vp_in x_35 126 := by
      have z_1 := Int32.le_iff_toInt_le.mp c_11
      have y_0 : (0 : Int32).toInt = 0 := by decide
      have y_1 : (1 : Int32).toInt = 1 := by decide
      have y_36 : (36 : Int32).toInt = 36 := by decide
      have t_x_31 : x_31.toInt = (x_30 : Int32).toInt + (1 : Int32).toInt := by rw [ex_31]; exact add_toInt (by omega) (by omega)
      have t_x_34 := rem_bounds (x := x_31) (y := x_32) (by omega)
      rw [← ex_34] at t_x_34
      have t_x_35 : x_35.toInt = (36 : Int32).toInt + (x_34 : Int32).toInt := by rw [ex_35]; exact add_toInt (by omega) (by omega)
      refine vp_in_iff.mpr ⟨?_, ?_⟩ <;> omega
    refine va_iald hx hb hK hP 6 0 rfl rfl hi_36 dX12_isWilling_126 ?_
    refine lv_topi (fun x_37 ex_37 => ?_)
    refine lv_i2l (v := (x_37).toInt64) hx hb dX12_isWilling_127 rfl ?_
    refine st_long hx hb hK hP hD hS 4 1 rfl rfl (vin_dec (by decide +kernel)) dX12_isWilling_128 (fun g_38 H locs eg_38 hP₀ hD₀ hS₀ => ?_)
    replace hP : va_P D classes [((Ma 2), .inl (tc 0, 2400, .inl (Mf 2))), ((Ma 4), .inl (tc 0, 288, .inl (Mf 4))), ((Ma 5), .inl (tc 0, 6, .inl (Mf 5))), ((Ma 8), .inl (tc 1, 64, .inr (.inl (Mg 8)))), ((Ma 9), .inl (tc 1, 13, .inr (.inl g_38))), ((Ma 0), .inr (12, [.ref (Ma 1), .int (Mv 0), .int (Mv 1), .ref (Ma 2), .ref (Ma 3), .ref (Ma 4), .ref (Ma 5), .ref (Ma 6), .int (Mv 2), .int (Mv 3), .int (Mv 4), .int (Mv 5), .int (Mv 6), .int (Mv 7), .int (Mv 8), .ref (Ma 7), .int (Mv 9), .ref (Ma 8), .int (Mv 10), .ref (Ma 9), .ref (Ma 10), .int (Mv 11), .int (Mv 12), .int (Mv 13), .ref (Ma 11), .int (Mv 14), .ref (Ma 12), .ref (Ma 13), .ref (Ma 14), .ref (Ma 15), .ref (Ma 16), .long (Mj 0), .ref (Ma 17), .ref (Ma 18), .ref (Ma 19), .ref (Ma 20)])), ((Ma 10), .inl (tc 0, 126, .inl (Mf 10)))] H := hP₀
    replace hD : va_D A [((Ma 2), .inl (tc 0, 2400, .inl (Mf 2))), ((Ma 4), .inl (tc 0, 288, .inl (Mf 4))), ((Ma 5), .inl (tc 0, 6, .inl (Mf 5))), ((Ma 8), .inl (tc 1, 64, .inr (.inl (Mg 8)))), ((Ma 9), .inl (tc 1, 13, .inr (.inl g_38))), ((Ma 0), .inr (12, [.ref (Ma 1), .int (Mv 0), .int (Mv 1), .ref (Ma 2), .ref (Ma 3), .ref (Ma 4), .ref (Ma 5), .ref (Ma 6), .int (Mv 2), .int (Mv 3), .int (Mv 4), .int (Mv 5), .int (Mv 6), .int (Mv 7), .int (Mv 8), .ref (Ma 7), .int (Mv 9), .ref (Ma 8), .int (Mv 10), .ref (Ma 9), .ref (Ma 10), .int (Mv 11), .int (Mv 12), .int (Mv 13), .ref (Ma 11), .int (Mv 14), .ref (Ma 12), .ref (Ma 13), .ref (Ma 14), .ref (Ma 15), .ref (Ma 16), .long (Mj 0), .ref (Ma 17), .ref (Ma 18), .ref (Ma 19), .ref (Ma 20)])), ((Ma 10), .inl (tc 0, 126, .inl (Mf 10)))] := hD₀
    replace hS := hS₀
    clear hP₀ hD₀ hS₀
    refine lv_aload_n hx hb dX12_isWilling_129 rfl (lv_at hl 1 rfl) ?_
    refine gf_X12_36 hx hb hts hown hK hP 5 rfl rfl dX12_isWilling_130 ?_
    refine lv_bipush (v := 6) hx hb dX12_isWilling_133 (by decide) ?_
    refine lv_aload_n hx hb dX12_isWilling_135 rfl (lv_at hl 1 rfl) ?_
    refine gf_X12_39 hx hb hts hown hK hP 5 rfl rfl dX12_isWilling_136 ?_
    refine lv_bipush (v := 11) hx hb dX12_isWilling_139 (by decide) ?_
    refine va_iald hx hb hK hP 6 0 rfl rfl (vin_dec (by decide +kernel)) dX12_isWilling_141 ?_
    refine lv_topi (fun x_39 ex_39 => ?_)
    have lx_39 : x_39.toInt = ((Mf 10) 11).toInt := congrArg Int32.toInt ex_39
    refine lv_i2l (v := (x_39).toInt64) hx hb dX12_isWilling_142 rfl ?_
    refine st_long hx hb hK hP hD hS 4 1 rfl rfl (vin_dec (by decide +kernel)) dX12_isWilling_143 (fun g_40 H locs eg_40 hP₀ hD₀ hS₀ => ?_)
    replace hP : va_P D classes [((Ma 2), .inl (tc 0, 2400, .inl (Mf 2))), ((Ma 4), .inl (tc 0, 288, .inl (Mf 4))), ((Ma 5), .inl (tc 0, 6, .inl (Mf 5))), ((Ma 8), .inl (tc 1, 64, .inr (.inl (Mg 8)))), ((Ma 9), .inl (tc 1, 13, .inr (.inl g_40))), ((Ma 0), .inr (12, [.ref (Ma 1), .int (Mv 0), .int (Mv 1), .ref (Ma 2), .ref (Ma 3), .ref (Ma 4), .ref (Ma 5), .ref (Ma 6), .int (Mv 2), .int (Mv 3), .int (Mv 4), .int (Mv 5), .int (Mv 6), .int (Mv 7), .int (Mv 8), .ref (Ma 7), .int (Mv 9), .ref (Ma 8), .int (Mv 10), .ref (Ma 9), .ref (Ma 10), .int (Mv 11), .int (Mv 12), .int (Mv 13), .ref (Ma 11), .int (Mv 14), .ref (Ma 12), .ref (Ma 13), .ref (Ma 14), .ref (Ma 15), .ref (Ma 16), .long (Mj 0), .ref (Ma 17), .ref (Ma 18), .ref (Ma 19), .ref (Ma 20)])), ((Ma 10), .inl (tc 0, 126, .inl (Mf 10)))] H := hP₀
    replace hD : va_D A [((Ma 2), .inl (tc 0, 2400, .inl (Mf 2))), ((Ma 4), .inl (tc 0, 288, .inl (Mf 4))), ((Ma 5), .inl (tc 0, 6, .inl (Mf 5))), ((Ma 8), .inl (tc 1, 64, .inr (.inl (Mg 8)))), ((Ma 9), .inl (tc 1, 13, .inr (.inl g_40))), ((Ma 0), .inr (12, [.ref (Ma 1), .int (Mv 0), .int (Mv 1), .ref (Ma 2), .ref (Ma 3), .ref (Ma 4), .ref (Ma 5), .ref (Ma 6), .int (Mv 2), .int (Mv 3), .int (Mv 4), .int (Mv 5), .int (Mv 6), .int (Mv 7), .int (Mv 8), .ref (Ma 7), .int (Mv 9), .ref (Ma 8), .int (Mv 10), .ref (Ma 9), .ref (Ma 10), .int (Mv 11), .int (Mv 12), .int (Mv 13), .ref (Ma 11), .int (Mv 14), .ref (Ma 12), .ref (Ma 13), .ref (Ma 14), .ref (Ma 15), .ref (Ma 16), .long (Mj 0), .ref (Ma 17), .ref (Ma 18), .ref (Ma 19), .ref (Ma 20)])), ((Ma 10), .inl (tc 0, 126, .inl (Mf 10)))] := hD₀
    replace hS := hS₀
    clear hP₀ hD₀ hS₀
    refine lv_aload_n hx hb dX12_isWilling_144 rfl (lv_at hl 1 rfl) ?_
    refine gf_X12_36 hx hb hts hown hK hP 5 rfl rfl dX12_isWilling_145 ?_
    refine lv_bipush (v := 7) hx hb dX12_isWilling_148 (by decide) ?_
    refine lv_aload_n hx hb dX12_isWilling_150 rfl (lv_at hl 1 rfl) ?_
    refine lv_iload_n hx hb dX12_isWilling_151 rfl (lv_at hl 2 rfl) ?_
    refine cV (a := (Ma 0)) (As := [.int x1]) (rest := [.int 7, .ref (Ma 9)]) (wr := [((Ma 2), .inl (tc 0, 2400, .inl (Mf 2))), ((Ma 4), .inl (tc 0, 288, .inl (Mf 4))), ((Ma 5), .inl (tc 0, 6, .inl (Mf 5))), ((Ma 8), .inl (tc 1, 64, .inr (.inl (Mg 8)))), ((Ma 9), .inl (tc 1, 13, .inr (.inl g_40)))]) ⟨hx, hb, hml, hown, hts⟩ hK hX hA (cu_dX12_boughtBy l D tc sk (Ma 0) (Ma 1) (Ma 2) (Ma 3) (Ma 4) (Ma 5) (Ma 6) (Ma 7) (Ma 8) (Ma 9) (Ma 10) (Ma 11) (Ma 12) (Ma 13) (Ma 14) (Ma 15) (Ma 16) (Ma 17) (Ma 18) (Ma 19) (Ma 20) (Mv 0) (Mv 1) (Mv 2) (Mv 3) (Mv 4) (Mv 5) (Mv 6) (Mv 7) (Mv 8) (Mv 9) (Mv 10) (Mv 11) (Mv 12) (Mv 13) (Mv 14) (Mf 10) (Mj 0) x1 h_b) k_1383 k_1380 k_1382 k_60 k_106 pl_X12_boughtBy ⟨Nat.le_of_ble_eq_true rfl, Nat.le_of_ble_eq_true rfl⟩ rfl rfl (va_recv hK hP (ci := 12) (q0 := 5) rfl rfl) hP hD hS [5, 6] [0, 1, 2, 3, 4] rfl rfl rfl rfl rfl (by decide) rfl hl.1 rfl (Nat.le_of_ble_eq_true rfl) dX12_isWilling_152 ⟨Nat.le_of_ble_eq_true rfl, Nat.le_of_ble_eq_true rfl⟩ (fun v_41 u_42 H locs hv_43 hP₀ hD₀ hS₀ => ?_)
    obtain ⟨r_44, rfl, he_45⟩ := hv_43
    have he_45 : (True) ∧ r_44 = (dX12_boughtBy (Mf 10) x1) := he_45
    refine W.eq (g2 := F0 m 155 ls [.int r_44, .int 7, .ref (Ma 9)]) rfl ?_
    replace hP : va_P D classes [((Ma 2), .inl (tc 0, 2400, .inl (Mf 2))), ((Ma 4), .inl (tc 0, 288, .inl (Mf 4))), ((Ma 5), .inl (tc 0, 6, .inl (Mf 5))), ((Ma 8), .inl (tc 1, 64, .inr (.inl (Mg 8)))), ((Ma 9), .inl (tc 1, 13, .inr (.inl g_40))), ((Ma 0), .inr (12, [.ref (Ma 1), .int (Mv 0), .int (Mv 1), .ref (Ma 2), .ref (Ma 3), .ref (Ma 4), .ref (Ma 5), .ref (Ma 6), .int (Mv 2), .int (Mv 3), .int (Mv 4), .int (Mv 5), .int (Mv 6), .int (Mv 7), .int (Mv 8), .ref (Ma 7), .int (Mv 9), .ref (Ma 8), .int (Mv 10), .ref (Ma 9), .ref (Ma 10), .int (Mv 11), .int (Mv 12), .int (Mv 13), .ref (Ma 11), .int (Mv 14), .ref (Ma 12), .ref (Ma 13), .ref (Ma 14), .ref (Ma 15), .ref (Ma 16), .long (Mj 0), .ref (Ma 17), .ref (Ma 18), .ref (Ma 19), .ref (Ma 20)])), ((Ma 10), .inl (tc 0, 126, .inl (Mf 10)))] H := hP₀
    replace hD : va_D A [((Ma 2), .inl (tc 0, 2400, .inl (Mf 2))), ((Ma 4), .inl (tc 0, 288, .inl (Mf 4))), ((Ma 5), .inl (tc 0, 6, .inl (Mf 5))), ((Ma 8), .inl (tc 1, 64, .inr (.inl (Mg 8)))), ((Ma 9), .inl (tc 1, 13, .inr (.inl g_40))), ((Ma 0), .inr (12, [.ref (Ma 1), .int (Mv 0), .int (Mv 1), .ref (Ma 2), .ref (Ma 3), .ref (Ma 4), .ref (Ma 5), .ref (Ma 6), .int (Mv 2), .int (Mv 3), .int (Mv 4), .int (Mv 5), .int (Mv 6), .int (Mv 7), .int (Mv 8), .ref (Ma 7), .int (Mv 9), .ref (Ma 8), .int (Mv 10), .ref (Ma 9), .ref (Ma 10), .int (Mv 11), .int (Mv 12), .int (Mv 13), .ref (Ma 11), .int (Mv 14), .ref (Ma 12), .ref (Ma 13), .ref (Ma 14), .ref (Ma 15), .ref (Ma 16), .long (Mj 0), .ref (Ma 17), .ref (Ma 18), .ref (Ma 19), .ref (Ma 20)])), ((Ma 10), .inl (tc 0, 126, .inl (Mf 10)))] := hD₀
    replace hS := hS₀
    clear hP₀ hD₀ hS₀
    obtain ⟨he_45, hq_47⟩ := he_45
    have er_44 : r_44 = (dX12_boughtBy (Mf 10) x1) := hq_47
    refine lv_i2l (v := (r_44).toInt64) hx hb dX12_isWilling_155 rfl ?_
    refine st_long hx hb hK hP hD hS 4 1 rfl rfl (vin_dec (by decide +kernel)) dX12_isWilling_156 (fun g_48 H locs eg_48 hP₀ hD₀ hS₀ => ?_)
    replace hP : va_P D classes [((Ma 2), .inl (tc 0, 2400, .inl (Mf 2))), ((Ma 4), .inl (tc 0, 288, .inl (Mf 4))), ((Ma 5), .inl (tc 0, 6, .inl (Mf 5))), ((Ma 8), .inl (tc 1, 64, .inr (.inl (Mg 8)))), ((Ma 9), .inl (tc 1, 13, .inr (.inl g_48))), ((Ma 0), .inr (12, [.ref (Ma 1), .int (Mv 0), .int (Mv 1), .ref (Ma 2), .ref (Ma 3), .ref (Ma 4), .ref (Ma 5), .ref (Ma 6), .int (Mv 2), .int (Mv 3), .int (Mv 4), .int (Mv 5), .int (Mv 6), .int (Mv 7), .int (Mv 8), .ref (Ma 7), .int (Mv 9), .ref (Ma 8), .int (Mv 10), .ref (Ma 9), .ref (Ma 10), .int (Mv 11), .int (Mv 12), .int (Mv 13), .ref (Ma 11), .int (Mv 14), .ref (Ma 12), .ref (Ma 13), .ref (Ma 14), .ref (Ma 15), .ref (Ma 16), .long (Mj 0), .ref (Ma 17), .ref (Ma 18), .ref (Ma 19), .ref (Ma 20)])), ((Ma 10), .inl (tc 0, 126, .inl (Mf 10)))] H := hP₀
    replace hD : va_D A [((Ma 2), .inl (tc 0, 2400, .inl (Mf 2))), ((Ma 4), .inl (tc 0, 288, .inl (Mf 4))), ((Ma 5), .inl (tc 0, 6, .inl (Mf 5))), ((Ma 8), .inl (tc 1, 64, .inr (.inl (Mg 8)))), ((Ma 9), .inl (tc 1, 13, .inr (.inl g_48))), ((Ma 0), .inr (12, [.ref (Ma 1), .int (Mv 0), .int (Mv 1), .ref (Ma 2), .ref (Ma 3), .ref (Ma 4), .ref (Ma 5), .ref (Ma 6), .int (Mv 2), .int (Mv 3), .int (Mv 4), .int (Mv 5), .int (Mv 6), .int (Mv 7), .int (Mv 8), .ref (Ma 7), .int (Mv 9), .ref (Ma 8), .int (Mv 10), .ref (Ma 9), .ref (Ma 10), .int (Mv 11), .int (Mv 12), .int (Mv 13), .ref (Ma 11), .int (Mv 14), .ref (Ma 12), .ref (Ma 13), .ref (Ma 14), .ref (Ma 15), .ref (Ma 16), .long (Mj 0), .ref (Ma 17), .ref (Ma 18), .ref (Ma 19), .ref (Ma 20)])), ((Ma 10), .inl (tc 0, 126, .inl (Mf 10)))] := hD₀
    replace hS := hS₀
    clear hP₀ hD₀ hS₀
    refine lv_aload_n hx hb dX12_isWilling_157 rfl (lv_at hl 1 rfl) ?_
    refine gf_X12_36 hx hb hts hown hK hP 5 rfl rfl dX12_isWilling_158 ?_
    refine lv_bipush (v := 8) hx hb dX12_isWilling_161 (by decide) ?_
    refine lv_aload_n hx hb dX12_isWilling_163 rfl (lv_at hl 1 rfl) ?_
    refine lv_iload_n hx hb dX12_isWilling_164 rfl (lv_at hl 2 rfl) ?_
    refine cV (a := (Ma 0)) (As := [.int x1]) (rest := [.int 8, .ref (Ma 9)]) (wr := [((Ma 2), .inl (tc 0, 2400, .inl (Mf 2))), ((Ma 4), .inl (tc 0, 288, .inl (Mf 4))), ((Ma 5), .inl (tc 0, 6, .inl (Mf 5))), ((Ma 8), .inl (tc 1, 64, .inr (.inl (Mg 8)))), ((Ma 9), .inl (tc 1, 13, .inr (.inl g_48)))]) ⟨hx, hb, hml, hown, hts⟩ hK hX hA (cu_dX12_metOf l D tc sk (Ma 0) (Ma 1) (Ma 2) (Ma 3) (Ma 4) (Ma 5) (Ma 6) (Ma 7) (Ma 8) (Ma 9) (Ma 10) (Ma 11) (Ma 12) (Ma 13) (Ma 14) (Ma 15) (Ma 16) (Ma 17) (Ma 18) (Ma 19) (Ma 20) (Mv 0) (Mv 1) (Mv 2) (Mv 3) (Mv 4) (Mv 5) (Mv 6) (Mv 7) (Mv 8) (Mv 9) (Mv 10) (Mv 11) (Mv 12) (Mv 13) (Mv 14) (Mf 10) (Mj 0) x1 h_b) k_1387 k_1384 k_1386 k_61 k_106 pl_X12_metOf ⟨Nat.le_of_ble_eq_true rfl, Nat.le_of_ble_eq_true rfl⟩ rfl rfl (va_recv hK hP (ci := 12) (q0 := 5) rfl rfl) hP hD hS [5, 6] [0, 1, 2, 3, 4] rfl rfl rfl rfl rfl (by decide) rfl hl.1 rfl (Nat.le_of_ble_eq_true rfl) dX12_isWilling_165 ⟨Nat.le_of_ble_eq_true rfl, Nat.le_of_ble_eq_true rfl⟩ (fun v_49 u_50 H locs hv_51 hP₀ hD₀ hS₀ => ?_)
    obtain ⟨r_52, rfl, he_53⟩ := hv_51
    have he_53 : (True) ∧ r_52 = (dX12_metOf (Mf 10) x1) := he_53
    refine W.eq (g2 := F0 m 168 ls [.int r_52, .int 8, .ref (Ma 9)]) rfl ?_
    replace hP : va_P D classes [((Ma 2), .inl (tc 0, 2400, .inl (Mf 2))), ((Ma 4), .inl (tc 0, 288, .inl (Mf 4))), ((Ma 5), .inl (tc 0, 6, .inl (Mf 5))), ((Ma 8), .inl (tc 1, 64, .inr (.inl (Mg 8)))), ((Ma 9), .inl (tc 1, 13, .inr (.inl g_48))), ((Ma 0), .inr (12, [.ref (Ma 1), .int (Mv 0), .int (Mv 1), .ref (Ma 2), .ref (Ma 3), .ref (Ma 4), .ref (Ma 5), .ref (Ma 6), .int (Mv 2), .int (Mv 3), .int (Mv 4), .int (Mv 5), .int (Mv 6), .int (Mv 7), .int (Mv 8), .ref (Ma 7), .int (Mv 9), .ref (Ma 8), .int (Mv 10), .ref (Ma 9), .ref (Ma 10), .int (Mv 11), .int (Mv 12), .int (Mv 13), .ref (Ma 11), .int (Mv 14), .ref (Ma 12), .ref (Ma 13), .ref (Ma 14), .ref (Ma 15), .ref (Ma 16), .long (Mj 0), .ref (Ma 17), .ref (Ma 18), .ref (Ma 19), .ref (Ma 20)])), ((Ma 10), .inl (tc 0, 126, .inl (Mf 10)))] H := hP₀
    replace hD : va_D A [((Ma 2), .inl (tc 0, 2400, .inl (Mf 2))), ((Ma 4), .inl (tc 0, 288, .inl (Mf 4))), ((Ma 5), .inl (tc 0, 6, .inl (Mf 5))), ((Ma 8), .inl (tc 1, 64, .inr (.inl (Mg 8)))), ((Ma 9), .inl (tc 1, 13, .inr (.inl g_48))), ((Ma 0), .inr (12, [.ref (Ma 1), .int (Mv 0), .int (Mv 1), .ref (Ma 2), .ref (Ma 3), .ref (Ma 4), .ref (Ma 5), .ref (Ma 6), .int (Mv 2), .int (Mv 3), .int (Mv 4), .int (Mv 5), .int (Mv 6), .int (Mv 7), .int (Mv 8), .ref (Ma 7), .int (Mv 9), .ref (Ma 8), .int (Mv 10), .ref (Ma 9), .ref (Ma 10), .int (Mv 11), .int (Mv 12), .int (Mv 13), .ref (Ma 11), .int (Mv 14), .ref (Ma 12), .ref (Ma 13), .ref (Ma 14), .ref (Ma 15), .ref (Ma 16), .long (Mj 0), .ref (Ma 17), .ref (Ma 18), .ref (Ma 19), .ref (Ma 20)])), ((Ma 10), .inl (tc 0, 126, .inl (Mf 10)))] := hD₀
    replace hS := hS₀
    clear hP₀ hD₀ hS₀
    obtain ⟨he_53, hq_55⟩ := he_53
    have er_52 : r_52 = (dX12_metOf (Mf 10) x1) := hq_55
    refine lv_i2l (v := (r_52).toInt64) hx hb dX12_isWilling_168 rfl ?_
    refine st_long hx hb hK hP hD hS 4 1 rfl rfl (vin_dec (by decide +kernel)) dX12_isWilling_169 (fun g_56 H locs eg_56 hP₀ hD₀ hS₀ => ?_)
    replace hP : va_P D classes [((Ma 2), .inl (tc 0, 2400, .inl (Mf 2))), ((Ma 4), .inl (tc 0, 288, .inl (Mf 4))), ((Ma 5), .inl (tc 0, 6, .inl (Mf 5))), ((Ma 8), .inl (tc 1, 64, .inr (.inl (Mg 8)))), ((Ma 9), .inl (tc 1, 13, .inr (.inl g_56))), ((Ma 0), .inr (12, [.ref (Ma 1), .int (Mv 0), .int (Mv 1), .ref (Ma 2), .ref (Ma 3), .ref (Ma 4), .ref (Ma 5), .ref (Ma 6), .int (Mv 2), .int (Mv 3), .int (Mv 4), .int (Mv 5), .int (Mv 6), .int (Mv 7), .int (Mv 8), .ref (Ma 7), .int (Mv 9), .ref (Ma 8), .int (Mv 10), .ref (Ma 9), .ref (Ma 10), .int (Mv 11), .int (Mv 12), .int (Mv 13), .ref (Ma 11), .int (Mv 14), .ref (Ma 12), .ref (Ma 13), .ref (Ma 14), .ref (Ma 15), .ref (Ma 16), .long (Mj 0), .ref (Ma 17), .ref (Ma 18), .ref (Ma 19), .ref (Ma 20)])), ((Ma 10), .inl (tc 0, 126, .inl (Mf 10)))] H := hP₀
    replace hD : va_D A [((Ma 2), .inl (tc 0, 2400, .inl (Mf 2))), ((Ma 4), .inl (tc 0, 288, .inl (Mf 4))), ((Ma 5), .inl (tc 0, 6, .inl (Mf 5))), ((Ma 8), .inl (tc 1, 64, .inr (.inl (Mg 8)))), ((Ma 9), .inl (tc 1, 13, .inr (.inl g_56))), ((Ma 0), .inr (12, [.ref (Ma 1), .int (Mv 0), .int (Mv 1), .ref (Ma 2), .ref (Ma 3), .ref (Ma 4), .ref (Ma 5), .ref (Ma 6), .int (Mv 2), .int (Mv 3), .int (Mv 4), .int (Mv 5), .int (Mv 6), .int (Mv 7), .int (Mv 8), .ref (Ma 7), .int (Mv 9), .ref (Ma 8), .int (Mv 10), .ref (Ma 9), .ref (Ma 10), .int (Mv 11), .int (Mv 12), .int (Mv 13), .ref (Ma 11), .int (Mv 14), .ref (Ma 12), .ref (Ma 13), .ref (Ma 14), .ref (Ma 15), .ref (Ma 16), .long (Mj 0), .ref (Ma 17), .ref (Ma 18), .ref (Ma 19), .ref (Ma 20)])), ((Ma 10), .inl (tc 0, 126, .inl (Mf 10)))] := hD₀
    replace hS := hS₀
    clear hP₀ hD₀ hS₀
    refine lv_aload_n hx hb dX12_isWilling_170 rfl (lv_at hl 1 rfl) ?_
    refine gf_X12_36 hx hb hts hown hK hP 5 rfl rfl dX12_isWilling_171 ?_
    refine lv_bipush (v := 9) hx hb dX12_isWilling_174 (by decide) ?_
    refine lv_aload_n hx hb dX12_isWilling_176 rfl (lv_at hl 1 rfl) ?_
    refine lv_iload_n hx hb dX12_isWilling_177 rfl (lv_at hl 2 rfl) ?_
    refine cV (a := (Ma 0)) (As := [.int x1]) (rest := [.int 9, .ref (Ma 9)]) (wr := [((Ma 2), .inl (tc 0, 2400, .inl (Mf 2))), ((Ma 4), .inl (tc 0, 288, .inl (Mf 4))), ((Ma 5), .inl (tc 0, 6, .inl (Mf 5))), ((Ma 8), .inl (tc 1, 64, .inr (.inl (Mg 8)))), ((Ma 9), .inl (tc 1, 13, .inr (.inl g_56)))]) ⟨hx, hb, hml, hown, hts⟩ hK hX hA (cu_dX12_sinceOf l D tc sk (Ma 0) (Ma 1) (Ma 2) (Ma 3) (Ma 4) (Ma 5) (Ma 6) (Ma 7) (Ma 8) (Ma 9) (Ma 10) (Ma 11) (Ma 12) (Ma 13) (Ma 14) (Ma 15) (Ma 16) (Ma 17) (Ma 18) (Ma 19) (Ma 20) (Mv 0) (Mv 1) (Mv 2) (Mv 3) (Mv 4) (Mv 5) (Mv 6) (Mv 7) (Mv 8) (Mv 9) (Mv 10) (Mv 11) (Mv 12) (Mv 13) (Mv 14) (Mf 10) (Mj 0) x1 h_b) k_1391 k_1388 k_1390 k_62 k_106 pl_X12_sinceOf ⟨Nat.le_of_ble_eq_true rfl, Nat.le_of_ble_eq_true rfl⟩ rfl rfl (va_recv hK hP (ci := 12) (q0 := 5) rfl rfl) hP hD hS [5, 6] [0, 1, 2, 3, 4] rfl rfl rfl rfl rfl (by decide) rfl hl.1 rfl (Nat.le_of_ble_eq_true rfl) dX12_isWilling_178 ⟨Nat.le_of_ble_eq_true rfl, Nat.le_of_ble_eq_true rfl⟩ (fun v_57 u_58 H locs hv_59 hP₀ hD₀ hS₀ => ?_)
    obtain ⟨r_60, rfl, he_61⟩ := hv_59
    have he_61 : (True) ∧ r_60 = (dX12_sinceOf (Mf 10) x1) := he_61
    refine W.eq (g2 := F0 m 181 ls [.int r_60, .int 9, .ref (Ma 9)]) rfl ?_
    replace hP : va_P D classes [((Ma 2), .inl (tc 0, 2400, .inl (Mf 2))), ((Ma 4), .inl (tc 0, 288, .inl (Mf 4))), ((Ma 5), .inl (tc 0, 6, .inl (Mf 5))), ((Ma 8), .inl (tc 1, 64, .inr (.inl (Mg 8)))), ((Ma 9), .inl (tc 1, 13, .inr (.inl g_56))), ((Ma 0), .inr (12, [.ref (Ma 1), .int (Mv 0), .int (Mv 1), .ref (Ma 2), .ref (Ma 3), .ref (Ma 4), .ref (Ma 5), .ref (Ma 6), .int (Mv 2), .int (Mv 3), .int (Mv 4), .int (Mv 5), .int (Mv 6), .int (Mv 7), .int (Mv 8), .ref (Ma 7), .int (Mv 9), .ref (Ma 8), .int (Mv 10), .ref (Ma 9), .ref (Ma 10), .int (Mv 11), .int (Mv 12), .int (Mv 13), .ref (Ma 11), .int (Mv 14), .ref (Ma 12), .ref (Ma 13), .ref (Ma 14), .ref (Ma 15), .ref (Ma 16), .long (Mj 0), .ref (Ma 17), .ref (Ma 18), .ref (Ma 19), .ref (Ma 20)])), ((Ma 10), .inl (tc 0, 126, .inl (Mf 10)))] H := hP₀
    replace hD : va_D A [((Ma 2), .inl (tc 0, 2400, .inl (Mf 2))), ((Ma 4), .inl (tc 0, 288, .inl (Mf 4))), ((Ma 5), .inl (tc 0, 6, .inl (Mf 5))), ((Ma 8), .inl (tc 1, 64, .inr (.inl (Mg 8)))), ((Ma 9), .inl (tc 1, 13, .inr (.inl g_56))), ((Ma 0), .inr (12, [.ref (Ma 1), .int (Mv 0), .int (Mv 1), .ref (Ma 2), .ref (Ma 3), .ref (Ma 4), .ref (Ma 5), .ref (Ma 6), .int (Mv 2), .int (Mv 3), .int (Mv 4), .int (Mv 5), .int (Mv 6), .int (Mv 7), .int (Mv 8), .ref (Ma 7), .int (Mv 9), .ref (Ma 8), .int (Mv 10), .ref (Ma 9), .ref (Ma 10), .int (Mv 11), .int (Mv 12), .int (Mv 13), .ref (Ma 11), .int (Mv 14), .ref (Ma 12), .ref (Ma 13), .ref (Ma 14), .ref (Ma 15), .ref (Ma 16), .long (Mj 0), .ref (Ma 17), .ref (Ma 18), .ref (Ma 19), .ref (Ma 20)])), ((Ma 10), .inl (tc 0, 126, .inl (Mf 10)))] := hD₀
    replace hS := hS₀
    clear hP₀ hD₀ hS₀
    obtain ⟨he_61, hq_63⟩ := he_61
    have er_60 : r_60 = (dX12_sinceOf (Mf 10) x1) := hq_63
    refine lv_i2l (v := (r_60).toInt64) hx hb dX12_isWilling_181 rfl ?_
    refine st_long hx hb hK hP hD hS 4 1 rfl rfl (vin_dec (by decide +kernel)) dX12_isWilling_182 (fun g_64 H locs eg_64 hP₀ hD₀ hS₀ => ?_)
    replace hP : va_P D classes [((Ma 2), .inl (tc 0, 2400, .inl (Mf 2))), ((Ma 4), .inl (tc 0, 288, .inl (Mf 4))), ((Ma 5), .inl (tc 0, 6, .inl (Mf 5))), ((Ma 8), .inl (tc 1, 64, .inr (.inl (Mg 8)))), ((Ma 9), .inl (tc 1, 13, .inr (.inl g_64))), ((Ma 0), .inr (12, [.ref (Ma 1), .int (Mv 0), .int (Mv 1), .ref (Ma 2), .ref (Ma 3), .ref (Ma 4), .ref (Ma 5), .ref (Ma 6), .int (Mv 2), .int (Mv 3), .int (Mv 4), .int (Mv 5), .int (Mv 6), .int (Mv 7), .int (Mv 8), .ref (Ma 7), .int (Mv 9), .ref (Ma 8), .int (Mv 10), .ref (Ma 9), .ref (Ma 10), .int (Mv 11), .int (Mv 12), .int (Mv 13), .ref (Ma 11), .int (Mv 14), .ref (Ma 12), .ref (Ma 13), .ref (Ma 14), .ref (Ma 15), .ref (Ma 16), .long (Mj 0), .ref (Ma 17), .ref (Ma 18), .ref (Ma 19), .ref (Ma 20)])), ((Ma 10), .inl (tc 0, 126, .inl (Mf 10)))] H := hP₀
    replace hD : va_D A [((Ma 2), .inl (tc 0, 2400, .inl (Mf 2))), ((Ma 4), .inl (tc 0, 288, .inl (Mf 4))), ((Ma 5), .inl (tc 0, 6, .inl (Mf 5))), ((Ma 8), .inl (tc 1, 64, .inr (.inl (Mg 8)))), ((Ma 9), .inl (tc 1, 13, .inr (.inl g_64))), ((Ma 0), .inr (12, [.ref (Ma 1), .int (Mv 0), .int (Mv 1), .ref (Ma 2), .ref (Ma 3), .ref (Ma 4), .ref (Ma 5), .ref (Ma 6), .int (Mv 2), .int (Mv 3), .int (Mv 4), .int (Mv 5), .int (Mv 6), .int (Mv 7), .int (Mv 8), .ref (Ma 7), .int (Mv 9), .ref (Ma 8), .int (Mv 10), .ref (Ma 9), .ref (Ma 10), .int (Mv 11), .int (Mv 12), .int (Mv 13), .ref (Ma 11), .int (Mv 14), .ref (Ma 12), .ref (Ma 13), .ref (Ma 14), .ref (Ma 15), .ref (Ma 16), .long (Mj 0), .ref (Ma 17), .ref (Ma 18), .ref (Ma 19), .ref (Ma 20)])), ((Ma 10), .inl (tc 0, 126, .inl (Mf 10)))] := hD₀
    replace hS := hS₀
    clear hP₀ hD₀ hS₀
    refine lv_aload_n hx hb dX12_isWilling_183 rfl (lv_at hl 1 rfl) ?_
    refine gf_X12_36 hx hb hts hown hK hP 5 rfl rfl dX12_isWilling_184 ?_
    refine lv_bipush (v := 10) hx hb dX12_isWilling_187 (by decide) ?_
    refine lv_aload_n hx hb dX12_isWilling_189 rfl (lv_at hl 1 rfl) ?_
    refine cV (a := (Ma 0)) (As := []) (rest := [.int 10, .ref (Ma 9)]) (wr := [((Ma 2), .inl (tc 0, 2400, .inl (Mf 2))), ((Ma 4), .inl (tc 0, 288, .inl (Mf 4))), ((Ma 5), .inl (tc 0, 6, .inl (Mf 5))), ((Ma 8), .inl (tc 1, 64, .inr (.inl (Mg 8)))), ((Ma 9), .inl (tc 1, 13, .inr (.inl g_64)))]) ⟨hx, hb, hml, hown, hts⟩ hK hX hA (cu_dX12_soldAll l D tc sk (Ma 0) (Ma 1) (Ma 2) (Ma 3) (Ma 4) (Ma 5) (Ma 6) (Ma 7) (Ma 8) (Ma 9) (Ma 10) (Ma 11) (Ma 12) (Ma 13) (Ma 14) (Ma 15) (Ma 16) (Ma 17) (Ma 18) (Ma 19) (Ma 20) (Mv 0) (Mv 1) (Mv 2) (Mv 3) (Mv 4) (Mv 5) (Mv 6) (Mv 7) (Mv 8) (Mv 9) (Mv 10) (Mv 11) (Mv 12) (Mv 13) (Mv 14) (Mf 10) (Mj 0) h_said.1) k_1439 k_1436 k_1438 k_71 k_106 pl_X12_soldAll ⟨Nat.le_of_ble_eq_true rfl, Nat.le_of_ble_eq_true rfl⟩ rfl rfl (va_recv hK hP (ci := 12) (q0 := 5) rfl rfl) hP hD hS [5, 6] [0, 1, 2, 3, 4] rfl rfl rfl rfl rfl (by decide) rfl hl.1 rfl (Nat.le_of_ble_eq_true rfl) dX12_isWilling_190 ⟨Nat.le_of_ble_eq_true rfl, Nat.le_of_ble_eq_true rfl⟩ (fun v_65 u_66 H locs hv_67 hP₀ hD₀ hS₀ => ?_)
    obtain ⟨r_68, rfl, he_69⟩ := hv_67
    have he_69 : (True) ∧ r_68 = (dX12_soldAll (Mf 10)) := he_69
    refine W.eq (g2 := F0 m 193 ls [.int r_68, .int 10, .ref (Ma 9)]) rfl ?_
    replace hP : va_P D classes [((Ma 2), .inl (tc 0, 2400, .inl (Mf 2))), ((Ma 4), .inl (tc 0, 288, .inl (Mf 4))), ((Ma 5), .inl (tc 0, 6, .inl (Mf 5))), ((Ma 8), .inl (tc 1, 64, .inr (.inl (Mg 8)))), ((Ma 9), .inl (tc 1, 13, .inr (.inl g_64))), ((Ma 0), .inr (12, [.ref (Ma 1), .int (Mv 0), .int (Mv 1), .ref (Ma 2), .ref (Ma 3), .ref (Ma 4), .ref (Ma 5), .ref (Ma 6), .int (Mv 2), .int (Mv 3), .int (Mv 4), .int (Mv 5), .int (Mv 6), .int (Mv 7), .int (Mv 8), .ref (Ma 7), .int (Mv 9), .ref (Ma 8), .int (Mv 10), .ref (Ma 9), .ref (Ma 10), .int (Mv 11), .int (Mv 12), .int (Mv 13), .ref (Ma 11), .int (Mv 14), .ref (Ma 12), .ref (Ma 13), .ref (Ma 14), .ref (Ma 15), .ref (Ma 16), .long (Mj 0), .ref (Ma 17), .ref (Ma 18), .ref (Ma 19), .ref (Ma 20)])), ((Ma 10), .inl (tc 0, 126, .inl (Mf 10)))] H := hP₀
    replace hD : va_D A [((Ma 2), .inl (tc 0, 2400, .inl (Mf 2))), ((Ma 4), .inl (tc 0, 288, .inl (Mf 4))), ((Ma 5), .inl (tc 0, 6, .inl (Mf 5))), ((Ma 8), .inl (tc 1, 64, .inr (.inl (Mg 8)))), ((Ma 9), .inl (tc 1, 13, .inr (.inl g_64))), ((Ma 0), .inr (12, [.ref (Ma 1), .int (Mv 0), .int (Mv 1), .ref (Ma 2), .ref (Ma 3), .ref (Ma 4), .ref (Ma 5), .ref (Ma 6), .int (Mv 2), .int (Mv 3), .int (Mv 4), .int (Mv 5), .int (Mv 6), .int (Mv 7), .int (Mv 8), .ref (Ma 7), .int (Mv 9), .ref (Ma 8), .int (Mv 10), .ref (Ma 9), .ref (Ma 10), .int (Mv 11), .int (Mv 12), .int (Mv 13), .ref (Ma 11), .int (Mv 14), .ref (Ma 12), .ref (Ma 13), .ref (Ma 14), .ref (Ma 15), .ref (Ma 16), .long (Mj 0), .ref (Ma 17), .ref (Ma 18), .ref (Ma 19), .ref (Ma 20)])), ((Ma 10), .inl (tc 0, 126, .inl (Mf 10)))] := hD₀
    replace hS := hS₀
    clear hP₀ hD₀ hS₀
    obtain ⟨he_69, hq_71⟩ := he_69
    have er_68 : r_68 = (dX12_soldAll (Mf 10)) := hq_71
    refine lv_i2l (v := (r_68).toInt64) hx hb dX12_isWilling_193 rfl ?_
    refine st_long hx hb hK hP hD hS 4 1 rfl rfl (vin_dec (by decide +kernel)) dX12_isWilling_194 (fun g_72 H locs eg_72 hP₀ hD₀ hS₀ => ?_)
    replace hP : va_P D classes [((Ma 2), .inl (tc 0, 2400, .inl (Mf 2))), ((Ma 4), .inl (tc 0, 288, .inl (Mf 4))), ((Ma 5), .inl (tc 0, 6, .inl (Mf 5))), ((Ma 8), .inl (tc 1, 64, .inr (.inl (Mg 8)))), ((Ma 9), .inl (tc 1, 13, .inr (.inl g_72))), ((Ma 0), .inr (12, [.ref (Ma 1), .int (Mv 0), .int (Mv 1), .ref (Ma 2), .ref (Ma 3), .ref (Ma 4), .ref (Ma 5), .ref (Ma 6), .int (Mv 2), .int (Mv 3), .int (Mv 4), .int (Mv 5), .int (Mv 6), .int (Mv 7), .int (Mv 8), .ref (Ma 7), .int (Mv 9), .ref (Ma 8), .int (Mv 10), .ref (Ma 9), .ref (Ma 10), .int (Mv 11), .int (Mv 12), .int (Mv 13), .ref (Ma 11), .int (Mv 14), .ref (Ma 12), .ref (Ma 13), .ref (Ma 14), .ref (Ma 15), .ref (Ma 16), .long (Mj 0), .ref (Ma 17), .ref (Ma 18), .ref (Ma 19), .ref (Ma 20)])), ((Ma 10), .inl (tc 0, 126, .inl (Mf 10)))] H := hP₀
    replace hD : va_D A [((Ma 2), .inl (tc 0, 2400, .inl (Mf 2))), ((Ma 4), .inl (tc 0, 288, .inl (Mf 4))), ((Ma 5), .inl (tc 0, 6, .inl (Mf 5))), ((Ma 8), .inl (tc 1, 64, .inr (.inl (Mg 8)))), ((Ma 9), .inl (tc 1, 13, .inr (.inl g_72))), ((Ma 0), .inr (12, [.ref (Ma 1), .int (Mv 0), .int (Mv 1), .ref (Ma 2), .ref (Ma 3), .ref (Ma 4), .ref (Ma 5), .ref (Ma 6), .int (Mv 2), .int (Mv 3), .int (Mv 4), .int (Mv 5), .int (Mv 6), .int (Mv 7), .int (Mv 8), .ref (Ma 7), .int (Mv 9), .ref (Ma 8), .int (Mv 10), .ref (Ma 9), .ref (Ma 10), .int (Mv 11), .int (Mv 12), .int (Mv 13), .ref (Ma 11), .int (Mv 14), .ref (Ma 12), .ref (Ma 13), .ref (Ma 14), .ref (Ma 15), .ref (Ma 16), .long (Mj 0), .ref (Ma 17), .ref (Ma 18), .ref (Ma 19), .ref (Ma 20)])), ((Ma 10), .inl (tc 0, 126, .inl (Mf 10)))] := hD₀
    replace hS := hS₀
    clear hP₀ hD₀ hS₀
    refine lv_aload_n hx hb dX12_isWilling_195 rfl (lv_at hl 1 rfl) ?_
    refine gf_X12_36 hx hb hts hown hK hP 5 rfl rfl dX12_isWilling_196 ?_
    refine lv_bipush (v := 11) hx hb dX12_isWilling_199 (by decide) ?_
    refine lv_aload_n hx hb dX12_isWilling_201 rfl (lv_at hl 1 rfl) ?_
    refine cV (a := (Ma 0)) (As := []) (rest := [.int 11, .ref (Ma 9)]) (wr := [((Ma 2), .inl (tc 0, 2400, .inl (Mf 2))), ((Ma 4), .inl (tc 0, 288, .inl (Mf 4))), ((Ma 5), .inl (tc 0, 6, .inl (Mf 5))), ((Ma 8), .inl (tc 1, 64, .inr (.inl (Mg 8)))), ((Ma 9), .inl (tc 1, 13, .inr (.inl g_72)))]) ⟨hx, hb, hml, hown, hts⟩ hK hX hA (cu_dX12_clock l D tc sk (Ma 0) (Ma 1) (Ma 2) (Ma 3) (Ma 4) (Ma 5) (Ma 6) (Ma 7) (Ma 8) (Ma 9) (Ma 10) (Ma 11) (Ma 12) (Ma 13) (Ma 14) (Ma 15) (Ma 16) (Ma 17) (Ma 18) (Ma 19) (Ma 20) (Mv 0) (Mv 1) (Mv 2) (Mv 3) (Mv 4) (Mv 5) (Mv 6) (Mv 7) (Mv 8) (Mv 9) (Mv 10) (Mv 11) (Mv 12) (Mv 13) (Mv 14) (Mf 10) (Mj 0) d h_said) k_1435 k_1432 k_1434 k_70 k_106 pl_X12_clock ⟨Nat.le_of_ble_eq_true rfl, Nat.le_of_ble_eq_true rfl⟩ rfl rfl (va_recv hK hP (ci := 12) (q0 := 5) rfl rfl) hP hD hS [5, 6] [0, 1, 2, 3, 4] rfl rfl rfl rfl rfl (by decide) rfl hl.1 rfl (Nat.le_of_ble_eq_true rfl) dX12_isWilling_202 ⟨Nat.le_of_ble_eq_true rfl, Nat.le_of_ble_eq_true rfl⟩ (fun v_73 u_74 H locs hv_75 hP₀ hD₀ hS₀ => ?_)
    obtain ⟨r_76, rfl, he_77⟩ := hv_75
    have he_77 : ((0 ≤ r_76.toInt ∧ r_76.toInt < 10)) ∧ r_76 = (dX12_clock (Mf 10)) := he_77
    refine W.eq (g2 := F0 m 205 ls [.int r_76, .int 11, .ref (Ma 9)]) rfl ?_
    replace hP : va_P D classes [((Ma 2), .inl (tc 0, 2400, .inl (Mf 2))), ((Ma 4), .inl (tc 0, 288, .inl (Mf 4))), ((Ma 5), .inl (tc 0, 6, .inl (Mf 5))), ((Ma 8), .inl (tc 1, 64, .inr (.inl (Mg 8)))), ((Ma 9), .inl (tc 1, 13, .inr (.inl g_72))), ((Ma 0), .inr (12, [.ref (Ma 1), .int (Mv 0), .int (Mv 1), .ref (Ma 2), .ref (Ma 3), .ref (Ma 4), .ref (Ma 5), .ref (Ma 6), .int (Mv 2), .int (Mv 3), .int (Mv 4), .int (Mv 5), .int (Mv 6), .int (Mv 7), .int (Mv 8), .ref (Ma 7), .int (Mv 9), .ref (Ma 8), .int (Mv 10), .ref (Ma 9), .ref (Ma 10), .int (Mv 11), .int (Mv 12), .int (Mv 13), .ref (Ma 11), .int (Mv 14), .ref (Ma 12), .ref (Ma 13), .ref (Ma 14), .ref (Ma 15), .ref (Ma 16), .long (Mj 0), .ref (Ma 17), .ref (Ma 18), .ref (Ma 19), .ref (Ma 20)])), ((Ma 10), .inl (tc 0, 126, .inl (Mf 10)))] H := hP₀
    replace hD : va_D A [((Ma 2), .inl (tc 0, 2400, .inl (Mf 2))), ((Ma 4), .inl (tc 0, 288, .inl (Mf 4))), ((Ma 5), .inl (tc 0, 6, .inl (Mf 5))), ((Ma 8), .inl (tc 1, 64, .inr (.inl (Mg 8)))), ((Ma 9), .inl (tc 1, 13, .inr (.inl g_72))), ((Ma 0), .inr (12, [.ref (Ma 1), .int (Mv 0), .int (Mv 1), .ref (Ma 2), .ref (Ma 3), .ref (Ma 4), .ref (Ma 5), .ref (Ma 6), .int (Mv 2), .int (Mv 3), .int (Mv 4), .int (Mv 5), .int (Mv 6), .int (Mv 7), .int (Mv 8), .ref (Ma 7), .int (Mv 9), .ref (Ma 8), .int (Mv 10), .ref (Ma 9), .ref (Ma 10), .int (Mv 11), .int (Mv 12), .int (Mv 13), .ref (Ma 11), .int (Mv 14), .ref (Ma 12), .ref (Ma 13), .ref (Ma 14), .ref (Ma 15), .ref (Ma 16), .long (Mj 0), .ref (Ma 17), .ref (Ma 18), .ref (Ma 19), .ref (Ma 20)])), ((Ma 10), .inl (tc 0, 126, .inl (Mf 10)))] := hD₀
    replace hS := hS₀
    clear hP₀ hD₀ hS₀
    obtain ⟨he_77, hq_79⟩ := he_77
    have er_76 : r_76 = (dX12_clock (Mf 10)) := hq_79
    refine lv_i2l (v := (r_76).toInt64) hx hb dX12_isWilling_205 rfl ?_
    refine st_long hx hb hK hP hD hS 4 1 rfl rfl (vin_dec (by decide +kernel)) dX12_isWilling_206 (fun g_80 H locs eg_80 hP₀ hD₀ hS₀ => ?_)
    replace hP : va_P D classes [((Ma 2), .inl (tc 0, 2400, .inl (Mf 2))), ((Ma 4), .inl (tc 0, 288, .inl (Mf 4))), ((Ma 5), .inl (tc 0, 6, .inl (Mf 5))), ((Ma 8), .inl (tc 1, 64, .inr (.inl (Mg 8)))), ((Ma 9), .inl (tc 1, 13, .inr (.inl g_80))), ((Ma 0), .inr (12, [.ref (Ma 1), .int (Mv 0), .int (Mv 1), .ref (Ma 2), .ref (Ma 3), .ref (Ma 4), .ref (Ma 5), .ref (Ma 6), .int (Mv 2), .int (Mv 3), .int (Mv 4), .int (Mv 5), .int (Mv 6), .int (Mv 7), .int (Mv 8), .ref (Ma 7), .int (Mv 9), .ref (Ma 8), .int (Mv 10), .ref (Ma 9), .ref (Ma 10), .int (Mv 11), .int (Mv 12), .int (Mv 13), .ref (Ma 11), .int (Mv 14), .ref (Ma 12), .ref (Ma 13), .ref (Ma 14), .ref (Ma 15), .ref (Ma 16), .long (Mj 0), .ref (Ma 17), .ref (Ma 18), .ref (Ma 19), .ref (Ma 20)])), ((Ma 10), .inl (tc 0, 126, .inl (Mf 10)))] H := hP₀
    replace hD : va_D A [((Ma 2), .inl (tc 0, 2400, .inl (Mf 2))), ((Ma 4), .inl (tc 0, 288, .inl (Mf 4))), ((Ma 5), .inl (tc 0, 6, .inl (Mf 5))), ((Ma 8), .inl (tc 1, 64, .inr (.inl (Mg 8)))), ((Ma 9), .inl (tc 1, 13, .inr (.inl g_80))), ((Ma 0), .inr (12, [.ref (Ma 1), .int (Mv 0), .int (Mv 1), .ref (Ma 2), .ref (Ma 3), .ref (Ma 4), .ref (Ma 5), .ref (Ma 6), .int (Mv 2), .int (Mv 3), .int (Mv 4), .int (Mv 5), .int (Mv 6), .int (Mv 7), .int (Mv 8), .ref (Ma 7), .int (Mv 9), .ref (Ma 8), .int (Mv 10), .ref (Ma 9), .ref (Ma 10), .int (Mv 11), .int (Mv 12), .int (Mv 13), .ref (Ma 11), .int (Mv 14), .ref (Ma 12), .ref (Ma 13), .ref (Ma 14), .ref (Ma 15), .ref (Ma 16), .long (Mj 0), .ref (Ma 17), .ref (Ma 18), .ref (Ma 19), .ref (Ma 20)])), ((Ma 10), .inl (tc 0, 126, .inl (Mf 10)))] := hD₀
    replace hS := hS₀
    clear hP₀ hD₀ hS₀
    refine lv_aload_n hx hb dX12_isWilling_207 rfl (lv_at hl 1 rfl) ?_
    refine gf_X12_36 hx hb hts hown hK hP 5 rfl rfl dX12_isWilling_208 ?_
    refine lv_bipush (v := 12) hx hb dX12_isWilling_211 (by decide) ?_
    refine lv_aload_n hx hb dX12_isWilling_213 rfl (lv_at hl 1 rfl) ?_
    refine gf_X12_39 hx hb hts hown hK hP 5 rfl rfl dX12_isWilling_214 ?_
    refine lv_bipush (v := 10) hx hb dX12_isWilling_217 (by decide) ?_
    refine va_iald hx hb hK hP 6 0 rfl rfl (vin_dec (by decide +kernel)) dX12_isWilling_219 ?_
    refine lv_topi (fun x_81 ex_81 => ?_)
    have lx_81 : x_81.toInt = ((Mf 10) 10).toInt := congrArg Int32.toInt ex_81
    refine lv_i2l (v := (x_81).toInt64) hx hb dX12_isWilling_220 rfl ?_
    refine st_long hx hb hK hP hD hS 4 1 rfl rfl (vin_dec (by decide +kernel)) dX12_isWilling_221 (fun g_82 H locs eg_82 hP₀ hD₀ hS₀ => ?_)
    replace hP : va_P D classes [((Ma 2), .inl (tc 0, 2400, .inl (Mf 2))), ((Ma 4), .inl (tc 0, 288, .inl (Mf 4))), ((Ma 5), .inl (tc 0, 6, .inl (Mf 5))), ((Ma 8), .inl (tc 1, 64, .inr (.inl (Mg 8)))), ((Ma 9), .inl (tc 1, 13, .inr (.inl g_82))), ((Ma 0), .inr (12, [.ref (Ma 1), .int (Mv 0), .int (Mv 1), .ref (Ma 2), .ref (Ma 3), .ref (Ma 4), .ref (Ma 5), .ref (Ma 6), .int (Mv 2), .int (Mv 3), .int (Mv 4), .int (Mv 5), .int (Mv 6), .int (Mv 7), .int (Mv 8), .ref (Ma 7), .int (Mv 9), .ref (Ma 8), .int (Mv 10), .ref (Ma 9), .ref (Ma 10), .int (Mv 11), .int (Mv 12), .int (Mv 13), .ref (Ma 11), .int (Mv 14), .ref (Ma 12), .ref (Ma 13), .ref (Ma 14), .ref (Ma 15), .ref (Ma 16), .long (Mj 0), .ref (Ma 17), .ref (Ma 18), .ref (Ma 19), .ref (Ma 20)])), ((Ma 10), .inl (tc 0, 126, .inl (Mf 10)))] H := hP₀
    replace hD : va_D A [((Ma 2), .inl (tc 0, 2400, .inl (Mf 2))), ((Ma 4), .inl (tc 0, 288, .inl (Mf 4))), ((Ma 5), .inl (tc 0, 6, .inl (Mf 5))), ((Ma 8), .inl (tc 1, 64, .inr (.inl (Mg 8)))), ((Ma 9), .inl (tc 1, 13, .inr (.inl g_82))), ((Ma 0), .inr (12, [.ref (Ma 1), .int (Mv 0), .int (Mv 1), .ref (Ma 2), .ref (Ma 3), .ref (Ma 4), .ref (Ma 5), .ref (Ma 6), .int (Mv 2), .int (Mv 3), .int (Mv 4), .int (Mv 5), .int (Mv 6), .int (Mv 7), .int (Mv 8), .ref (Ma 7), .int (Mv 9), .ref (Ma 8), .int (Mv 10), .ref (Ma 9), .ref (Ma 10), .int (Mv 11), .int (Mv 12), .int (Mv 13), .ref (Ma 11), .int (Mv 14), .ref (Ma 12), .ref (Ma 13), .ref (Ma 14), .ref (Ma 15), .ref (Ma 16), .long (Mj 0), .ref (Ma 17), .ref (Ma 18), .ref (Ma 19), .ref (Ma 20)])), ((Ma 10), .inl (tc 0, 126, .inl (Mf 10)))] := hD₀
    replace hS := hS₀
    clear hP₀ hD₀ hS₀
    refine lv_aload_n hx hb dX12_isWilling_222 rfl (lv_at hl 1 rfl) ?_
    refine lv_aload_n hx hb dX12_isWilling_223 rfl (lv_at hl 1 rfl) ?_
    refine gf_X12_42 hx hb hts hown hK hP 5 rfl rfl dX12_isWilling_224 ?_
    have ha_83 : 0 ≤ (Mv 11).toInt ∧ (Mv 11).toInt < (Mv 1).toInt := by
      have z_1 := Int32.le_iff_toInt_le.mp c_11
      have y_0 : (0 : Int32).toInt = 0 := by decide
      omega
    have ha_84 : (Mv 1).toInt ≤ 6 := by
      have z_1 := Int32.le_iff_toInt_le.mp c_11
      have y_0 : (0 : Int32).toInt = 0 := by decide
      omega
    refine cV (a := (Ma 0)) (As := [.int (Mv 11)]) (rest := []) (wr := [((Ma 10), .inl (tc 0, 126, .inl (Mf 10)))]) ⟨hx, hb, hml, hown, hts⟩ hK hX hA (cu_dX12_summedBy l D tc sk (Ma 0) (Ma 1) (Ma 2) (Ma 3) (Ma 4) (Ma 5) (Ma 6) (Ma 7) (Ma 8) (Ma 9) (Ma 10) (Ma 11) (Ma 12) (Ma 13) (Ma 14) (Ma 15) (Ma 16) (Ma 17) (Ma 18) (Ma 19) (Ma 20) (Mv 0) (Mv 1) (Mv 2) (Mv 3) (Mv 4) (Mv 5) (Mv 6) (Mv 7) (Mv 8) (Mv 9) (Mv 10) (Mv 11) (Mv 12) (Mv 13) (Mv 14) (Mf 2) (Mf 4) (Mf 5) (Mj 0) (Mg 8) g_82 (Mv 11) h_rul ha_83 ha_84) k_1443 k_1440 k_1442 k_72 k_106 pl_X12_summedBy ⟨Nat.le_of_ble_eq_true rfl, Nat.le_of_ble_eq_true rfl⟩ rfl rfl (va_recv hK hP (ci := 12) (q0 := 5) rfl rfl) hP hD hS [5, 0, 1, 2, 3, 4] [6] rfl rfl rfl rfl rfl (by decide) rfl hl.1 rfl (Nat.le_of_ble_eq_true rfl) dX12_isWilling_227 ⟨Nat.le_of_ble_eq_true rfl, Nat.le_of_ble_eq_true rfl⟩ (fun v_85 u_86 H locs hv_87 hP₀ hD₀ hS₀ => ?_)
    obtain ⟨sv_88, sv_89⟩ := u_86
    obtain ⟨r_90, rfl, he_91⟩ := hv_87
    have he_91 : (True) ∧ (r_90, sv_88, sv_89) = (dX12_summedBy (Mf 2) (Mf 4) (Mf 5) (Mg 8) g_82 (Mv 10) (Mv 11)) := he_91
    refine W.eq (g2 := F0 m 230 ls [.long r_90]) rfl ?_
    replace hP : va_P D classes [((Ma 10), .inl (tc 0, 126, .inl (Mf 10))), ((Ma 0), .inr (12, [.ref (Ma 1), .int (Mv 0), .int (Mv 1), .ref (Ma 2), .ref (Ma 3), .ref (Ma 4), .ref (Ma 5), .ref (Ma 6), .int (Mv 2), .int (Mv 3), .int (Mv 4), .int (Mv 5), .int (Mv 6), .int (Mv 7), .int (Mv 8), .ref (Ma 7), .int (Mv 9), .ref (Ma 8), .int sv_88, .ref (Ma 9), .ref (Ma 10), .int (Mv 11), .int (Mv 12), .int (Mv 13), .ref (Ma 11), .int (Mv 14), .ref (Ma 12), .ref (Ma 13), .ref (Ma 14), .ref (Ma 15), .ref (Ma 16), .long (Mj 0), .ref (Ma 17), .ref (Ma 18), .ref (Ma 19), .ref (Ma 20)])), ((Ma 2), .inl (tc 0, 2400, .inl (Mf 2))), ((Ma 4), .inl (tc 0, 288, .inl (Mf 4))), ((Ma 5), .inl (tc 0, 6, .inl (Mf 5))), ((Ma 8), .inl (tc 1, 64, .inr (.inl sv_89))), ((Ma 9), .inl (tc 1, 13, .inr (.inl g_82)))] H := hP₀
    replace hD : va_D A [((Ma 10), .inl (tc 0, 126, .inl (Mf 10))), ((Ma 0), .inr (12, [.ref (Ma 1), .int (Mv 0), .int (Mv 1), .ref (Ma 2), .ref (Ma 3), .ref (Ma 4), .ref (Ma 5), .ref (Ma 6), .int (Mv 2), .int (Mv 3), .int (Mv 4), .int (Mv 5), .int (Mv 6), .int (Mv 7), .int (Mv 8), .ref (Ma 7), .int (Mv 9), .ref (Ma 8), .int sv_88, .ref (Ma 9), .ref (Ma 10), .int (Mv 11), .int (Mv 12), .int (Mv 13), .ref (Ma 11), .int (Mv 14), .ref (Ma 12), .ref (Ma 13), .ref (Ma 14), .ref (Ma 15), .ref (Ma 16), .long (Mj 0), .ref (Ma 17), .ref (Ma 18), .ref (Ma 19), .ref (Ma 20)])), ((Ma 2), .inl (tc 0, 2400, .inl (Mf 2))), ((Ma 4), .inl (tc 0, 288, .inl (Mf 4))), ((Ma 5), .inl (tc 0, 6, .inl (Mf 5))), ((Ma 8), .inl (tc 1, 64, .inr (.inl sv_89))), ((Ma 9), .inl (tc 1, 13, .inr (.inl g_82)))] := hD₀
    replace hS := hS₀
    clear hP₀ hD₀ hS₀
    obtain ⟨he_91, hq_93⟩ := he_91
    have er_90 : r_90 = (dX12_summedBy (Mf 2) (Mf 4) (Mf 5) (Mg 8) g_82 (Mv 10) (Mv 11)).1 := congrArg (fun z => z.1) hq_93
    have esv_88 : sv_88 = (dX12_summedBy (Mf 2) (Mf 4) (Mf 5) (Mg 8) g_82 (Mv 10) (Mv 11)).2.1 := congrArg (fun z => z.2.1) hq_93
    have esv_89 : sv_89 = (dX12_summedBy (Mf 2) (Mf 4) (Mf 5) (Mg 8) g_82 (Mv 10) (Mv 11)).2.2 := congrArg (fun z => z.2.2) hq_93
    refine lv_lconst (v := 0) hx hb dX12_isWilling_230 (by decide) ?_
    refine W.lcmp hx hb dX12_isWilling_231 ?_
    refine lv_topi (fun x_94 ex_94 => ?_)
    refine lv_if_le (tgt := 239) hx hb dX12_isWilling_232 (by decide) (fun c_95 => ?_) (fun c_95 => ?_)
    · skip
      have lz_96 : (r_90 : Int64).toInt ≤ (0 : Int64).toInt := by have hc := c_95; rw [ex_94] at hc; exact Int64.le_iff_toInt_le.mp ((lg_cmp_le _ _).mp hc)
      refine lv_iconst (v := 0) hx hb dX12_isWilling_239 (by decide) ?_
      have hp_97 : ((0 : Int32).toInt = 0 ∨ (0 : Int32).toInt = 1) := by
        have z_1 := Int32.le_iff_toInt_le.mp c_11
        have z_2 := Int32.le_iff_toInt_le.mp c_95
        have y_0 : (0 : Int32).toInt = 0 := by decide
        omega
      have hF_98 : ((0 : Int32), sv_88, sv_89, g_82) = (dX12_isWilling (Mf 2) (Mf 4) (Mf 5) (Mf 10) (Mg 8) (Mg 9) (Mv 10) (Mv 11) x1) := by
        clear hP hD hS hl
        replace er_4 := er_4.symm; subst er_4
        replace ex_8 := ex_8.symm; subst ex_8
        replace ex_10 := ex_10.symm; subst ex_10
        replace eg_12 := eg_12.symm; subst eg_12
        replace er_16 := er_16.symm; subst er_16
        replace eg_20 := eg_20.symm; subst eg_20
        replace ex_21 := ex_21.symm; subst ex_21
        replace ex_23 := ex_23.symm; subst ex_23
        replace eg_24 := eg_24.symm; subst eg_24
        replace ex_25 := ex_25.symm; subst ex_25
        replace ex_27 := ex_27.symm; subst ex_27
        replace eg_28 := eg_28.symm; subst eg_28
        replace eg_29 := eg_29.symm; subst eg_29
        replace ex_30 := ex_30.symm; subst ex_30
        replace ex_31 := ex_31.symm; subst ex_31
        replace ex_32 := ex_32.symm; subst ex_32
        replace ex_34 := ex_34.symm; subst ex_34
        replace ex_35 := ex_35.symm; subst ex_35
        replace ex_37 := ex_37.symm; subst ex_37
        replace eg_38 := eg_38.symm; subst eg_38
        replace ex_39 := ex_39.symm; subst ex_39
        replace eg_40 := eg_40.symm; subst eg_40
        replace er_44 := er_44.symm; subst er_44
        replace eg_48 := eg_48.symm; subst eg_48
        replace er_52 := er_52.symm; subst er_52
        replace eg_56 := eg_56.symm; subst eg_56
        replace er_60 := er_60.symm; subst er_60
        replace eg_64 := eg_64.symm; subst eg_64
        replace er_68 := er_68.symm; subst er_68
        replace eg_72 := eg_72.symm; subst eg_72
        replace er_76 := er_76.symm; subst er_76
        replace eg_80 := eg_80.symm; subst eg_80
        replace ex_81 := ex_81.symm; subst ex_81
        replace eg_82 := eg_82.symm; subst eg_82
        replace er_90 := er_90.symm; subst er_90
        replace esv_88 := esv_88.symm; subst esv_88
        replace esv_89 := esv_89.symm; subst esv_89
        replace ex_94 := ex_94.symm; subst ex_94
        unfold dX12_isWilling
        rw [if_pos c_11, if_pos c_95]
        try rfl
      exact retI (v := 0) hx hb hr hlk (rfl) hP hD hS (sv_88, sv_89, g_82) ⟨_, rfl, ⟨hp_97, hF_98⟩⟩ [1, 2, 3, 4, 5, 6, 0] rfl rfl dX12_isWilling_240 (Nat.le_of_ble_eq_true rfl) (Nat.le_of_ble_eq_true rfl) rfl
    · skip
      have lz_99 : (0 : Int64).toInt < (r_90 : Int64).toInt := by have hc := c_95; rw [ex_94] at hc; exact Int64.lt_iff_toInt_lt.mp (Int64.not_le.mp (fun z => hc ((lg_cmp_le _ _).mpr z)))
      refine lv_iconst (v := 1) hx hb dX12_isWilling_235 (by decide) ?_
      refine lv_goto (tgt := 240) hx hb dX12_isWilling_236 (by decide) ?_
      have hp_100 : ((1 : Int32).toInt = 0 ∨ (1 : Int32).toInt = 1) := by
        have z_1 := Int32.le_iff_toInt_le.mp c_11
        have z_2 := Int32.lt_iff_toInt_lt.mp (Int32.not_le.mp c_95)
        have y_0 : (0 : Int32).toInt = 0 := by decide
        have y_1 : (1 : Int32).toInt = 1 := by decide
        have yr : (1 : Int32).toInt = 1 := by decide
        omega
      have hF_101 : ((1 : Int32), sv_88, sv_89, g_82) = (dX12_isWilling (Mf 2) (Mf 4) (Mf 5) (Mf 10) (Mg 8) (Mg 9) (Mv 10) (Mv 11) x1) := by
        clear hP hD hS hl
        replace er_4 := er_4.symm; subst er_4
        replace ex_8 := ex_8.symm; subst ex_8
        replace ex_10 := ex_10.symm; subst ex_10
        replace eg_12 := eg_12.symm; subst eg_12
        replace er_16 := er_16.symm; subst er_16
        replace eg_20 := eg_20.symm; subst eg_20
        replace ex_21 := ex_21.symm; subst ex_21
        replace ex_23 := ex_23.symm; subst ex_23
        replace eg_24 := eg_24.symm; subst eg_24
        replace ex_25 := ex_25.symm; subst ex_25
        replace ex_27 := ex_27.symm; subst ex_27
        replace eg_28 := eg_28.symm; subst eg_28
        replace eg_29 := eg_29.symm; subst eg_29
        replace ex_30 := ex_30.symm; subst ex_30
        replace ex_31 := ex_31.symm; subst ex_31
        replace ex_32 := ex_32.symm; subst ex_32
        replace ex_34 := ex_34.symm; subst ex_34
        replace ex_35 := ex_35.symm; subst ex_35
        replace ex_37 := ex_37.symm; subst ex_37
        replace eg_38 := eg_38.symm; subst eg_38
        replace ex_39 := ex_39.symm; subst ex_39
        replace eg_40 := eg_40.symm; subst eg_40
        replace er_44 := er_44.symm; subst er_44
        replace eg_48 := eg_48.symm; subst eg_48
        replace er_52 := er_52.symm; subst er_52
        replace eg_56 := eg_56.symm; subst eg_56
        replace er_60 := er_60.symm; subst er_60
        replace eg_64 := eg_64.symm; subst eg_64
        replace er_68 := er_68.symm; subst er_68
        replace eg_72 := eg_72.symm; subst eg_72
        replace er_76 := er_76.symm; subst er_76
        replace eg_80 := eg_80.symm; subst eg_80
        replace ex_81 := ex_81.symm; subst ex_81
        replace eg_82 := eg_82.symm; subst eg_82
        replace er_90 := er_90.symm; subst er_90
        replace esv_88 := esv_88.symm; subst esv_88
        replace esv_89 := esv_89.symm; subst esv_89
        replace ex_94 := ex_94.symm; subst ex_94
        unfold dX12_isWilling
        rw [if_pos c_11, if_neg c_95]
        try rfl
      exact retI (v := 1) hx hb hr hlk (rfl) hP hD hS (sv_88, sv_89, g_82) ⟨_, rfl, ⟨hp_100, hF_101⟩⟩ [1, 2, 3, 4, 5, 6, 0] rfl rfl dX12_isWilling_240 (Nat.le_of_ble_eq_true rfl) (Nat.le_of_ble_eq_true rfl) rfl
  · skip
    refine lv_aload_n hx hb dX12_isWilling_20 rfl (lv_at hl 1 rfl) ?_
    refine lv_iload_n hx hb dX12_isWilling_21 rfl (lv_at hl 2 rfl) ?_
    refine cV (a := (Ma 0)) (As := [.int x1]) (rest := []) (wr := [((Ma 2), .inl (tc 0, 2400, .inl (Mf 2))), ((Ma 4), .inl (tc 0, 288, .inl (Mf 4))), ((Ma 5), .inl (tc 0, 6, .inl (Mf 5))), ((Ma 8), .inl (tc 1, 64, .inr (.inl (Mg 8)))), ((Ma 9), .inl (tc 1, 13, .inr (.inl (Mg 9))))]) ⟨hx, hb, hml, hown, hts⟩ hK hX hA (cu_dX12_temperOf l D tc sk (Ma 0) (Ma 1) (Ma 2) (Ma 3) (Ma 4) (Ma 5) (Ma 6) (Ma 7) (Ma 8) (Ma 9) (Ma 10) (Ma 11) (Ma 12) (Ma 13) (Ma 14) (Ma 15) (Ma 16) (Ma 17) (Ma 18) (Ma 19) (Ma 20) (Mv 0) (Mv 1) (Mv 2) (Mv 3) (Mv 4) (Mv 5) (Mv 6) (Mv 7) (Mv 8) (Mv 9) (Mv 10) (Mv 11) (Mv 12) (Mv 13) (Mv 14) (Mf 10) (Mj 0) x1 h_b) k_1379 k_1376 k_1378 k_59 k_106 pl_X12_temperOf ⟨Nat.le_of_ble_eq_true rfl, Nat.le_of_ble_eq_true rfl⟩ rfl rfl (va_recv hK hP (ci := 12) (q0 := 5) rfl rfl) hP hD hS [5, 6] [0, 1, 2, 3, 4] rfl rfl rfl rfl rfl (by decide) rfl hl.1 rfl (Nat.le_of_ble_eq_true rfl) dX12_isWilling_22 ⟨Nat.le_of_ble_eq_true rfl, Nat.le_of_ble_eq_true rfl⟩ (fun v_102 u_103 H locs hv_104 hP₀ hD₀ hS₀ => ?_)
    obtain ⟨r_105, rfl, he_106⟩ := hv_104
    have he_106 : (True) ∧ r_105 = (dX12_temperOf (Mf 10) x1) := he_106
    refine W.eq (g2 := F0 m 25 ls [.int r_105]) rfl ?_
    replace hP : va_P D classes [((Ma 2), .inl (tc 0, 2400, .inl (Mf 2))), ((Ma 4), .inl (tc 0, 288, .inl (Mf 4))), ((Ma 5), .inl (tc 0, 6, .inl (Mf 5))), ((Ma 8), .inl (tc 1, 64, .inr (.inl (Mg 8)))), ((Ma 9), .inl (tc 1, 13, .inr (.inl (Mg 9)))), ((Ma 0), .inr (12, [.ref (Ma 1), .int (Mv 0), .int (Mv 1), .ref (Ma 2), .ref (Ma 3), .ref (Ma 4), .ref (Ma 5), .ref (Ma 6), .int (Mv 2), .int (Mv 3), .int (Mv 4), .int (Mv 5), .int (Mv 6), .int (Mv 7), .int (Mv 8), .ref (Ma 7), .int (Mv 9), .ref (Ma 8), .int (Mv 10), .ref (Ma 9), .ref (Ma 10), .int (Mv 11), .int (Mv 12), .int (Mv 13), .ref (Ma 11), .int (Mv 14), .ref (Ma 12), .ref (Ma 13), .ref (Ma 14), .ref (Ma 15), .ref (Ma 16), .long (Mj 0), .ref (Ma 17), .ref (Ma 18), .ref (Ma 19), .ref (Ma 20)])), ((Ma 10), .inl (tc 0, 126, .inl (Mf 10)))] H := hP₀
    replace hD : va_D A [((Ma 2), .inl (tc 0, 2400, .inl (Mf 2))), ((Ma 4), .inl (tc 0, 288, .inl (Mf 4))), ((Ma 5), .inl (tc 0, 6, .inl (Mf 5))), ((Ma 8), .inl (tc 1, 64, .inr (.inl (Mg 8)))), ((Ma 9), .inl (tc 1, 13, .inr (.inl (Mg 9)))), ((Ma 0), .inr (12, [.ref (Ma 1), .int (Mv 0), .int (Mv 1), .ref (Ma 2), .ref (Ma 3), .ref (Ma 4), .ref (Ma 5), .ref (Ma 6), .int (Mv 2), .int (Mv 3), .int (Mv 4), .int (Mv 5), .int (Mv 6), .int (Mv 7), .int (Mv 8), .ref (Ma 7), .int (Mv 9), .ref (Ma 8), .int (Mv 10), .ref (Ma 9), .ref (Ma 10), .int (Mv 11), .int (Mv 12), .int (Mv 13), .ref (Ma 11), .int (Mv 14), .ref (Ma 12), .ref (Ma 13), .ref (Ma 14), .ref (Ma 15), .ref (Ma 16), .long (Mj 0), .ref (Ma 17), .ref (Ma 18), .ref (Ma 19), .ref (Ma 20)])), ((Ma 10), .inl (tc 0, 126, .inl (Mf 10)))] := hD₀
    replace hS := hS₀
    clear hP₀ hD₀ hS₀
    obtain ⟨he_106, hq_108⟩ := he_106
    have er_105 : r_105 = (dX12_temperOf (Mf 10) x1) := hq_108
    refine lv_iload_n hx hb dX12_isWilling_25 rfl (lv_at hl 0 rfl) ?_
    refine lv_iadd hx hb dX12_isWilling_26 ?_
    refine lv_topi (fun x_109 ex_109 => ?_)
    refine lv_bipush (v := 12) hx hb dX12_isWilling_27 (by decide) ?_
    refine lv_icmp_lt (tgt := 36) hx hb dX12_isWilling_29 (by decide) (fun c_110 => ?_) (fun c_110 => ?_)
    · skip
      refine lv_iconst (v := 0) hx hb dX12_isWilling_36 (by decide) ?_
      have hp_111 : ((0 : Int32).toInt = 0 ∨ (0 : Int32).toInt = 1) := by
        have z_1 := Int32.lt_iff_toInt_lt.mp (Int32.not_le.mp c_11)
        have z_2 := Int32.lt_iff_toInt_lt.mp c_110
        have y_0 : (0 : Int32).toInt = 0 := by decide
        have y_12 : (12 : Int32).toInt = 12 := by decide
        omega
      have hF_112 : ((0 : Int32), (Mv 10), (Mg 8), (Mg 9)) = (dX12_isWilling (Mf 2) (Mf 4) (Mf 5) (Mf 10) (Mg 8) (Mg 9) (Mv 10) (Mv 11) x1) := by
        clear hP hD hS hl
        replace er_4 := er_4.symm; subst er_4
        replace ex_8 := ex_8.symm; subst ex_8
        replace ex_10 := ex_10.symm; subst ex_10
        replace er_105 := er_105.symm; subst er_105
        replace ex_109 := ex_109.symm; subst ex_109
        unfold dX12_isWilling
        rw [if_neg c_11, if_pos c_110]
        try rfl
      exact retI (v := 0) hx hb hr hlk (rfl) hP hD hS ((Mv 10), (Mg 8), (Mg 9)) ⟨_, rfl, ⟨hp_111, hF_112⟩⟩ [5, 0, 1, 2, 3, 4, 6] rfl rfl dX12_isWilling_37 (Nat.le_of_ble_eq_true rfl) (Nat.le_of_ble_eq_true rfl) rfl
    · skip
      refine lv_iconst (v := 1) hx hb dX12_isWilling_32 (by decide) ?_
      refine lv_goto (tgt := 37) hx hb dX12_isWilling_33 (by decide) ?_
      have hp_113 : ((1 : Int32).toInt = 0 ∨ (1 : Int32).toInt = 1) := by
        have z_1 := Int32.lt_iff_toInt_lt.mp (Int32.not_le.mp c_11)
        have z_2 := Int32.le_iff_toInt_le.mp (Int32.not_lt.mp c_110)
        have y_0 : (0 : Int32).toInt = 0 := by decide
        have y_12 : (12 : Int32).toInt = 12 := by decide
        have y_1 : (1 : Int32).toInt = 1 := by decide
        have yr : (1 : Int32).toInt = 1 := by decide
        omega
      have hF_114 : ((1 : Int32), (Mv 10), (Mg 8), (Mg 9)) = (dX12_isWilling (Mf 2) (Mf 4) (Mf 5) (Mf 10) (Mg 8) (Mg 9) (Mv 10) (Mv 11) x1) := by
        clear hP hD hS hl
        replace er_4 := er_4.symm; subst er_4
        replace ex_8 := ex_8.symm; subst ex_8
        replace ex_10 := ex_10.symm; subst ex_10
        replace er_105 := er_105.symm; subst er_105
        replace ex_109 := ex_109.symm; subst ex_109
        unfold dX12_isWilling
        rw [if_neg c_11, if_neg c_110]
        try rfl
      exact retI (v := 1) hx hb hr hlk (rfl) hP hD hS ((Mv 10), (Mg 8), (Mg 9)) ⟨_, rfl, ⟨hp_113, hF_114⟩⟩ [5, 0, 1, 2, 3, 4, 6] rfl rfl dX12_isWilling_37 (Nat.le_of_ble_eq_true rfl) (Nat.le_of_ble_eq_true rfl) rfl
set_option maxRecDepth 100000 in
theorem cu_dX12_isWilling {T : Nat → Option Int32} (l : Launch) (D : va_G) (tc : Nat → ClassId) (sk : (Nat → Nat) × (Nat → Nat)) (Ma_0 : Nat) (Ma_1 : Nat) (Ma_2 : Nat) (Ma_3 : Nat) (Ma_4 : Nat) (Ma_5 : Nat) (Ma_6 : Nat) (Ma_7 : Nat) (Ma_8 : Nat) (Ma_9 : Nat) (Ma_10 : Nat) (Ma_11 : Nat) (Ma_12 : Nat) (Ma_13 : Nat) (Ma_14 : Nat) (Ma_15 : Nat) (Ma_16 : Nat) (Ma_17 : Nat) (Ma_18 : Nat) (Ma_19 : Nat) (Ma_20 : Nat) (Mv_0 : Int32) (Mv_1 : Int32) (Mv_2 : Int32) (Mv_3 : Int32) (Mv_4 : Int32) (Mv_5 : Int32) (Mv_6 : Int32) (Mv_7 : Int32) (Mv_8 : Int32) (Mv_9 : Int32) (Mv_10 : Int32) (Mv_11 : Int32) (Mv_12 : Int32) (Mv_13 : Int32) (Mv_14 : Int32) (Mf_2 : Nat → Int32) (Mf_4 : Nat → Int32) (Mf_5 : Nat → Int32) (Mf_10 : Nat → Int32) (Mj_0 : Int64) (Mg_8 : Nat → Int64) (Mg_9 : Nat → Int64) (x1 : Int32) (d : Int) (h_b : 0 ≤ x1.toInt ∧ x1.toInt < 6) (h_said : SaidD T Mf_10 d) (h_d : d ≤ 1000000) (h_rul : RulD Mf_2 Mf_4 Mf_5 Mv_1) (h_frc : -1 ≤ Mv_11.toInt ∧ Mv_11.toInt < Mv_1.toInt ∧ Mv_1.toInt ≤ 6) (h_2 : 1 ≤ (Mf_10 2).toInt ∧ (Mf_10 2).toInt ≤ 10) : Ct l yX12_isWilling cX12_isWilling 3 (some .boolean) { frames := 3, cells := 0, slots := 0, locals := 77 } D tc sk [.ref Ma_0, .int x1] [(Ma_0, .inr (12, [.ref Ma_1, .int Mv_0, .int Mv_1, .ref Ma_2, .ref Ma_3, .ref Ma_4, .ref Ma_5, .ref Ma_6, .int Mv_2, .int Mv_3, .int Mv_4, .int Mv_5, .int Mv_6, .int Mv_7, .int Mv_8, .ref Ma_7, .int Mv_9, .ref Ma_8, .int Mv_10, .ref Ma_9, .ref Ma_10, .int Mv_11, .int Mv_12, .int Mv_13, .ref Ma_11, .int Mv_14, .ref Ma_12, .ref Ma_13, .ref Ma_14, .ref Ma_15, .ref Ma_16, .long Mj_0, .ref Ma_17, .ref Ma_18, .ref Ma_19, .ref Ma_20])), (Ma_2, .inl (tc 0, 2400, .inl Mf_2)), (Ma_4, .inl (tc 0, 288, .inl Mf_4)), (Ma_5, .inl (tc 0, 6, .inl Mf_5)), (Ma_8, .inl (tc 1, 64, .inr (.inl Mg_8))), (Ma_9, .inl (tc 1, 13, .inr (.inl Mg_9))), (Ma_10, .inl (tc 0, 126, .inl Mf_10))] (fun (v : Option Value) (u : (Int32) × (Nat → Int64) × (Nat → Int64)) => match u with | (oo0x1, oo0x2, oo0x3) => ∃ r : Int32, v = some (.int r) ∧ (((r.toInt = 0 ∨ r.toInt = 1)) ∧ (r, oo0x1, oo0x2, oo0x3) = (dX12_isWilling Mf_2 Mf_4 Mf_5 Mf_10 Mg_8 Mg_9 Mv_10 Mv_11 x1))) (fun (u : (Int32) × (Nat → Int64) × (Nat → Int64)) => match u with | (oo0x1, oo0x2, oo0x3) => [(Ma_0, .inr (12, [.ref Ma_1, .int Mv_0, .int Mv_1, .ref Ma_2, .ref Ma_3, .ref Ma_4, .ref Ma_5, .ref Ma_6, .int Mv_2, .int Mv_3, .int Mv_4, .int Mv_5, .int Mv_6, .int Mv_7, .int Mv_8, .ref Ma_7, .int Mv_9, .ref Ma_8, .int oo0x1, .ref Ma_9, .ref Ma_10, .int Mv_11, .int Mv_12, .int Mv_13, .ref Ma_11, .int Mv_14, .ref Ma_12, .ref Ma_13, .ref Ma_14, .ref Ma_15, .ref Ma_16, .long Mj_0, .ref Ma_17, .ref Ma_18, .ref Ma_19, .ref Ma_20])), (Ma_2, .inl (tc 0, 2400, .inl Mf_2)), (Ma_4, .inl (tc 0, 288, .inl Mf_4)), (Ma_5, .inl (tc 0, 6, .inl Mf_5)), (Ma_8, .inl (tc 1, 64, .inr (.inl oo0x2))), (Ma_9, .inl (tc 1, 13, .inr (.inl oo0x3))), (Ma_10, .inl (tc 0, 126, .inl Mf_10))]) 0 0 :=
  ct_dX12_isWilling l D tc sk (fun k => ([Ma_0, Ma_1, Ma_2, Ma_3, Ma_4, Ma_5, Ma_6, Ma_7, Ma_8, Ma_9, Ma_10, Ma_11, Ma_12, Ma_13, Ma_14, Ma_15, Ma_16, Ma_17, Ma_18, Ma_19, Ma_20] : List (Nat)).getD k 0) (fun k => ([Mv_0, Mv_1, Mv_2, Mv_3, Mv_4, Mv_5, Mv_6, Mv_7, Mv_8, Mv_9, Mv_10, Mv_11, Mv_12, Mv_13, Mv_14] : List (Int32)).getD k 0) (fun k => ([(fun _ => 0), (fun _ => 0), Mf_2, (fun _ => 0), Mf_4, Mf_5, (fun _ => 0), (fun _ => 0), (fun _ => 0), (fun _ => 0), Mf_10] : List (Nat → Int32)).getD k (fun _ => 0)) (fun k => ([Mj_0] : List (Int64)).getD k 0) (fun k => ([(fun _ => 0), (fun _ => 0), (fun _ => 0), (fun _ => 0), (fun _ => 0), (fun _ => 0), (fun _ => 0), (fun _ => 0), Mg_8, Mg_9] : List (Nat → Int64)).getD k (fun _ => 0)) x1 d h_b h_said h_d h_rul h_frc h_2
def dX12_takes (Mf_10 : Nat → Int32) (x1 : Int32) : (Nat → Int32) := (if ((upd Mf_10 ((11 : Int32)).toNatClampNeg ((Mf_10 ((11 : Int32)).toNatClampNeg) - (Mf_10 (((56 : Int32) + x1)).toNatClampNeg))) (((12 : Int32) + ((4 : Int32) * x1))).toNatClampNeg) ≤ (6 : Int32) then (upd (upd (upd (upd Mf_10 ((11 : Int32)).toNatClampNeg ((Mf_10 ((11 : Int32)).toNatClampNeg) - (Mf_10 (((56 : Int32) + x1)).toNatClampNeg))) (((12 : Int32) + ((4 : Int32) * x1))).toNatClampNeg (0 : Int32)) ((((12 : Int32) + ((4 : Int32) * x1)) + (1 : Int32))).toNatClampNeg (((upd (upd Mf_10 ((11 : Int32)).toNatClampNeg ((Mf_10 ((11 : Int32)).toNatClampNeg) - (Mf_10 (((56 : Int32) + x1)).toNatClampNeg))) (((12 : Int32) + ((4 : Int32) * x1))).toNatClampNeg (0 : Int32)) ((((12 : Int32) + ((4 : Int32) * x1)) + (1 : Int32))).toNatClampNeg) + ((upd (upd Mf_10 ((11 : Int32)).toNatClampNeg ((Mf_10 ((11 : Int32)).toNatClampNeg) - (Mf_10 (((56 : Int32) + x1)).toNatClampNeg))) (((12 : Int32) + ((4 : Int32) * x1))).toNatClampNeg (0 : Int32)) (((56 : Int32) + x1)).toNatClampNeg))) ((((12 : Int32) + ((4 : Int32) * x1)) + (3 : Int32))).toNatClampNeg ((upd (upd (upd Mf_10 ((11 : Int32)).toNatClampNeg ((Mf_10 ((11 : Int32)).toNatClampNeg) - (Mf_10 (((56 : Int32) + x1)).toNatClampNeg))) (((12 : Int32) + ((4 : Int32) * x1))).toNatClampNeg (0 : Int32)) ((((12 : Int32) + ((4 : Int32) * x1)) + (1 : Int32))).toNatClampNeg (((upd (upd Mf_10 ((11 : Int32)).toNatClampNeg ((Mf_10 ((11 : Int32)).toNatClampNeg) - (Mf_10 (((56 : Int32) + x1)).toNatClampNeg))) (((12 : Int32) + ((4 : Int32) * x1))).toNatClampNeg (0 : Int32)) ((((12 : Int32) + ((4 : Int32) * x1)) + (1 : Int32))).toNatClampNeg) + ((upd (upd Mf_10 ((11 : Int32)).toNatClampNeg ((Mf_10 ((11 : Int32)).toNatClampNeg) - (Mf_10 (((56 : Int32) + x1)).toNatClampNeg))) (((12 : Int32) + ((4 : Int32) * x1))).toNatClampNeg (0 : Int32)) (((56 : Int32) + x1)).toNatClampNeg))) ((10 : Int32)).toNatClampNeg)) else (upd (upd (upd (upd Mf_10 ((11 : Int32)).toNatClampNeg ((Mf_10 ((11 : Int32)).toNatClampNeg) - (Mf_10 (((56 : Int32) + x1)).toNatClampNeg))) (((12 : Int32) + ((4 : Int32) * x1))).toNatClampNeg (((upd Mf_10 ((11 : Int32)).toNatClampNeg ((Mf_10 ((11 : Int32)).toNatClampNeg) - (Mf_10 (((56 : Int32) + x1)).toNatClampNeg))) (((12 : Int32) + ((4 : Int32) * x1))).toNatClampNeg) - (6 : Int32))) ((((12 : Int32) + ((4 : Int32) * x1)) + (1 : Int32))).toNatClampNeg (((upd (upd Mf_10 ((11 : Int32)).toNatClampNeg ((Mf_10 ((11 : Int32)).toNatClampNeg) - (Mf_10 (((56 : Int32) + x1)).toNatClampNeg))) (((12 : Int32) + ((4 : Int32) * x1))).toNatClampNeg (((upd Mf_10 ((11 : Int32)).toNatClampNeg ((Mf_10 ((11 : Int32)).toNatClampNeg) - (Mf_10 (((56 : Int32) + x1)).toNatClampNeg))) (((12 : Int32) + ((4 : Int32) * x1))).toNatClampNeg) - (6 : Int32))) ((((12 : Int32) + ((4 : Int32) * x1)) + (1 : Int32))).toNatClampNeg) + ((upd (upd Mf_10 ((11 : Int32)).toNatClampNeg ((Mf_10 ((11 : Int32)).toNatClampNeg) - (Mf_10 (((56 : Int32) + x1)).toNatClampNeg))) (((12 : Int32) + ((4 : Int32) * x1))).toNatClampNeg (((upd Mf_10 ((11 : Int32)).toNatClampNeg ((Mf_10 ((11 : Int32)).toNatClampNeg) - (Mf_10 (((56 : Int32) + x1)).toNatClampNeg))) (((12 : Int32) + ((4 : Int32) * x1))).toNatClampNeg) - (6 : Int32))) (((56 : Int32) + x1)).toNatClampNeg))) ((((12 : Int32) + ((4 : Int32) * x1)) + (3 : Int32))).toNatClampNeg ((upd (upd (upd Mf_10 ((11 : Int32)).toNatClampNeg ((Mf_10 ((11 : Int32)).toNatClampNeg) - (Mf_10 (((56 : Int32) + x1)).toNatClampNeg))) (((12 : Int32) + ((4 : Int32) * x1))).toNatClampNeg (((upd Mf_10 ((11 : Int32)).toNatClampNeg ((Mf_10 ((11 : Int32)).toNatClampNeg) - (Mf_10 (((56 : Int32) + x1)).toNatClampNeg))) (((12 : Int32) + ((4 : Int32) * x1))).toNatClampNeg) - (6 : Int32))) ((((12 : Int32) + ((4 : Int32) * x1)) + (1 : Int32))).toNatClampNeg (((upd (upd Mf_10 ((11 : Int32)).toNatClampNeg ((Mf_10 ((11 : Int32)).toNatClampNeg) - (Mf_10 (((56 : Int32) + x1)).toNatClampNeg))) (((12 : Int32) + ((4 : Int32) * x1))).toNatClampNeg (((upd Mf_10 ((11 : Int32)).toNatClampNeg ((Mf_10 ((11 : Int32)).toNatClampNeg) - (Mf_10 (((56 : Int32) + x1)).toNatClampNeg))) (((12 : Int32) + ((4 : Int32) * x1))).toNatClampNeg) - (6 : Int32))) ((((12 : Int32) + ((4 : Int32) * x1)) + (1 : Int32))).toNatClampNeg) + ((upd (upd Mf_10 ((11 : Int32)).toNatClampNeg ((Mf_10 ((11 : Int32)).toNatClampNeg) - (Mf_10 (((56 : Int32) + x1)).toNatClampNeg))) (((12 : Int32) + ((4 : Int32) * x1))).toNatClampNeg (((upd Mf_10 ((11 : Int32)).toNatClampNeg ((Mf_10 ((11 : Int32)).toNatClampNeg) - (Mf_10 (((56 : Int32) + x1)).toNatClampNeg))) (((12 : Int32) + ((4 : Int32) * x1))).toNatClampNeg) - (6 : Int32))) (((56 : Int32) + x1)).toNatClampNeg))) ((10 : Int32)).toNatClampNeg)))
set_option maxHeartbeats 4000000 in
set_option maxRecDepth 100000 in
theorem ct_dX12_takes {T : Nat → Option Int32} (l : Launch) (D : va_G) (tc : Nat → ClassId) (sk : (Nat → Nat) × (Nat → Nat)) (Ma : Nat → Nat) (Mv : Nat → Int32) (Mf : Nat → Nat → Int32) (Mj : Nat → Int64) (x1 : Int32) (d : Int) (h_b : 0 ≤ x1.toInt ∧ x1.toInt < 6) (h_said : SaidD T (Mf 10) d) : Ct l yX12_takes cX12_takes 3 none { frames := 0, cells := 0, slots := 0, locals := 0 } D tc sk [.ref (Ma 0), .int x1] [((Ma 0), .inr (12, [.ref (Ma 1), .int (Mv 0), .int (Mv 1), .ref (Ma 2), .ref (Ma 3), .ref (Ma 4), .ref (Ma 5), .ref (Ma 6), .int (Mv 2), .int (Mv 3), .int (Mv 4), .int (Mv 5), .int (Mv 6), .int (Mv 7), .int (Mv 8), .ref (Ma 7), .int (Mv 9), .ref (Ma 8), .int (Mv 10), .ref (Ma 9), .ref (Ma 10), .int (Mv 11), .int (Mv 12), .int (Mv 13), .ref (Ma 11), .int (Mv 14), .ref (Ma 12), .ref (Ma 13), .ref (Ma 14), .ref (Ma 15), .ref (Ma 16), .long (Mj 0), .ref (Ma 17), .ref (Ma 18), .ref (Ma 19), .ref (Ma 20)])), ((Ma 10), .inl (tc 0, 126, .inl (Mf 10)))] (fun (v : Option Value) (oo0x1 : Nat → Int32) => v = none ∧ (SaidD T oo0x1 d) ∧ (DEq (oo0x1) (dX12_takes (Mf 10) x1))) (fun (oo0x1 : Nat → Int32) => [((Ma 0), .inr (12, [.ref (Ma 1), .int (Mv 0), .int (Mv 1), .ref (Ma 2), .ref (Ma 3), .ref (Ma 4), .ref (Ma 5), .ref (Ma 6), .int (Mv 2), .int (Mv 3), .int (Mv 4), .int (Mv 5), .int (Mv 6), .int (Mv 7), .int (Mv 8), .ref (Ma 7), .int (Mv 9), .ref (Ma 8), .int (Mv 10), .ref (Ma 9), .ref (Ma 10), .int (Mv 11), .int (Mv 12), .int (Mv 13), .ref (Ma 11), .int (Mv 14), .ref (Ma 12), .ref (Ma 13), .ref (Ma 14), .ref (Ma 15), .ref (Ma 16), .long (Mj 0), .ref (Ma 17), .ref (Ma 18), .ref (Ma 19), .ref (Ma 20)])), ((Ma 10), .inl (tc 0, 126, .inl oo0x1))]) 0 0 := by
  refine Ct.start (by decide) (Nat.le_of_ble_eq_true rfl) (fun p e s m below meth c A ls hx hb hr hlk hin hml hown hts hK hX hP hD hA hl hS => ?_)
  have hl : lv_has ls 3 [(0, .ref (Ma 0)), (1, .int x1)] := hl
  have ar_h_said := SaidD.ar h_said
  refine lv_bipush (v := 12) hx hb dX12_takes_0 (by decide) ?_
  refine lv_iconst (v := 4) hx hb dX12_takes_2 (by decide) ?_
  refine lv_iload_n hx hb dX12_takes_3 rfl (lv_at hl 1 rfl) ?_
  refine lv_imul hx hb dX12_takes_4 ?_
  refine lv_topi (fun x_1 ex_1 => ?_)
  refine lv_iadd hx hb dX12_takes_5 ?_
  refine lv_topi (fun x_2 ex_2 => ?_)
  refine lv_istore_n (lv' := [(2, .int x_2), (0, .ref (Ma 0)), (1, .int x1)]) hx hb dX12_takes_6 rfl hl (by decide) rfl (fun ls hl₀ => ?_)
  replace hl := hl₀
  clear hl₀
  refine lv_aload_n hx hb dX12_takes_7 rfl (lv_at hl 1 rfl) ?_
  refine gf_X12_39 hx hb hts hown hK hP 0 rfl rfl dX12_takes_8 ?_
  refine lv_bipush (v := 11) hx hb dX12_takes_11 (by decide) ?_
  refine lv_dup2_11 hx hb dX12_takes_13 rfl rfl ?_
  refine va_iald hx hb hK hP 1 0 rfl rfl (vin_dec (by decide +kernel)) dX12_takes_14 ?_
  refine lv_topi (fun x_3 ex_3 => ?_)
  have lx_3 : x_3.toInt = ((Mf 10) 11).toInt := congrArg Int32.toInt ex_3
  refine lv_aload_n hx hb dX12_takes_15 rfl (lv_at hl 1 rfl) ?_
  refine gf_X12_39 hx hb hts hown hK hP 0 rfl rfl dX12_takes_16 ?_
  refine lv_bipush (v := 56) hx hb dX12_takes_19 (by decide) ?_
  refine lv_iload_n hx hb dX12_takes_21 rfl (lv_at hl 2 rfl) ?_
  refine lv_iadd hx hb dX12_takes_22 ?_
  refine lv_topi (fun x_4 ex_4 => ?_)
  have hi_5 : vp_in x_4 126 := by
    have y_56 : (56 : Int32).toInt = 56 := by decide
    have t_x_4 : x_4.toInt = (56 : Int32).toInt + (x1 : Int32).toInt := by rw [ex_4]; exact add_toInt (by omega) (by omega)
    refine vp_in_iff.mpr ⟨?_, ?_⟩ <;> omega
  refine va_iald hx hb hK hP 1 0 rfl rfl hi_5 dX12_takes_23 ?_
  refine lv_topi (fun x_6 ex_6 => ?_)
  refine lv_isub hx hb dX12_takes_24 ?_
  refine lv_topi (fun x_7 ex_7 => ?_)
  refine st_int hx hb hK hP hD hS 1 0 rfl rfl (vin_dec (by decide +kernel)) dX12_takes_25 (fun g_8 H locs eg_8 hP₀ hD₀ hS₀ => ?_)
  replace hP : va_P D classes [((Ma 0), .inr (12, [.ref (Ma 1), .int (Mv 0), .int (Mv 1), .ref (Ma 2), .ref (Ma 3), .ref (Ma 4), .ref (Ma 5), .ref (Ma 6), .int (Mv 2), .int (Mv 3), .int (Mv 4), .int (Mv 5), .int (Mv 6), .int (Mv 7), .int (Mv 8), .ref (Ma 7), .int (Mv 9), .ref (Ma 8), .int (Mv 10), .ref (Ma 9), .ref (Ma 10), .int (Mv 11), .int (Mv 12), .int (Mv 13), .ref (Ma 11), .int (Mv 14), .ref (Ma 12), .ref (Ma 13), .ref (Ma 14), .ref (Ma 15), .ref (Ma 16), .long (Mj 0), .ref (Ma 17), .ref (Ma 18), .ref (Ma 19), .ref (Ma 20)])), ((Ma 10), .inl (tc 0, 126, .inl g_8))] H := hP₀
  replace hD : va_D A [((Ma 0), .inr (12, [.ref (Ma 1), .int (Mv 0), .int (Mv 1), .ref (Ma 2), .ref (Ma 3), .ref (Ma 4), .ref (Ma 5), .ref (Ma 6), .int (Mv 2), .int (Mv 3), .int (Mv 4), .int (Mv 5), .int (Mv 6), .int (Mv 7), .int (Mv 8), .ref (Ma 7), .int (Mv 9), .ref (Ma 8), .int (Mv 10), .ref (Ma 9), .ref (Ma 10), .int (Mv 11), .int (Mv 12), .int (Mv 13), .ref (Ma 11), .int (Mv 14), .ref (Ma 12), .ref (Ma 13), .ref (Ma 14), .ref (Ma 15), .ref (Ma 16), .long (Mj 0), .ref (Ma 17), .ref (Ma 18), .ref (Ma 19), .ref (Ma 20)])), ((Ma 10), .inl (tc 0, 126, .inl g_8))] := hD₀
  replace hS := hS₀
  clear hP₀ hD₀ hS₀
  have pf_9 : SaidD T g_8 d := SaidD.keep h_said eg_8 (by decide)
  have ar_pf_9 := SaidD.ar pf_9
  refine lv_aload_n hx hb dX12_takes_26 rfl (lv_at hl 1 rfl) ?_
  refine gf_X12_39 hx hb hts hown hK hP 0 rfl rfl dX12_takes_27 ?_
  refine lv_iload_n hx hb dX12_takes_30 rfl (lv_at hl 0 rfl) ?_
  refine lv_aload_n hx hb dX12_takes_31 rfl (lv_at hl 1 rfl) ?_
  refine gf_X12_39 hx hb hts hown hK hP 0 rfl rfl dX12_takes_32 ?_
  refine lv_iload_n hx hb dX12_takes_35 rfl (lv_at hl 0 rfl) ?_
  have hi_10 : vp_in x_2 126 := by
    have y_4 : (4 : Int32).toInt = 4 := by decide
    have y_12 : (12 : Int32).toInt = 12 := by decide
    have t_x_1 : x_1.toInt = (4 : Int32).toInt * (x1 : Int32).toInt := by rw [ex_1]; exact mul_toInt (by first | omega | (rw [y_4]; omega)) (by first | omega | (rw [y_4]; omega))
    rw [y_4] at t_x_1
    have t_x_2 : x_2.toInt = (12 : Int32).toInt + (x_1 : Int32).toInt := by rw [ex_2]; exact add_toInt (by omega) (by omega)
    refine vp_in_iff.mpr ⟨?_, ?_⟩ <;> omega
  refine va_iald hx hb hK hP 1 0 rfl rfl hi_10 dX12_takes_36 ?_
  refine lv_topi (fun x_11 ex_11 => ?_)
  refine lv_bipush (v := 6) hx hb dX12_takes_37 (by decide) ?_
  refine lv_icmp_le (tgt := 54) hx hb dX12_takes_39 (by decide) (fun c_12 => ?_) (fun c_12 => ?_)
  · skip
    refine lv_iconst (v := 0) hx hb dX12_takes_54 (by decide) ?_
    have hi_13 : vp_in x_2 126 := by
      have z_1 := Int32.le_iff_toInt_le.mp c_12
      have y_6 : (6 : Int32).toInt = 6 := by decide
      have y_4 : (4 : Int32).toInt = 4 := by decide
      have y_12 : (12 : Int32).toInt = 12 := by decide
      have t_x_1 : x_1.toInt = (4 : Int32).toInt * (x1 : Int32).toInt := by rw [ex_1]; exact mul_toInt (by first | omega | (rw [y_4]; omega)) (by first | omega | (rw [y_4]; omega))
      rw [y_4] at t_x_1
      have t_x_2 : x_2.toInt = (12 : Int32).toInt + (x_1 : Int32).toInt := by rw [ex_2]; exact add_toInt (by omega) (by omega)
      refine vp_in_iff.mpr ⟨?_, ?_⟩ <;> omega
    refine st_int hx hb hK hP hD hS 1 0 rfl rfl hi_13 dX12_takes_55 (fun g_14 H locs eg_14 hP₀ hD₀ hS₀ => ?_)
    replace hP : va_P D classes [((Ma 0), .inr (12, [.ref (Ma 1), .int (Mv 0), .int (Mv 1), .ref (Ma 2), .ref (Ma 3), .ref (Ma 4), .ref (Ma 5), .ref (Ma 6), .int (Mv 2), .int (Mv 3), .int (Mv 4), .int (Mv 5), .int (Mv 6), .int (Mv 7), .int (Mv 8), .ref (Ma 7), .int (Mv 9), .ref (Ma 8), .int (Mv 10), .ref (Ma 9), .ref (Ma 10), .int (Mv 11), .int (Mv 12), .int (Mv 13), .ref (Ma 11), .int (Mv 14), .ref (Ma 12), .ref (Ma 13), .ref (Ma 14), .ref (Ma 15), .ref (Ma 16), .long (Mj 0), .ref (Ma 17), .ref (Ma 18), .ref (Ma 19), .ref (Ma 20)])), ((Ma 10), .inl (tc 0, 126, .inl g_14))] H := hP₀
    replace hD : va_D A [((Ma 0), .inr (12, [.ref (Ma 1), .int (Mv 0), .int (Mv 1), .ref (Ma 2), .ref (Ma 3), .ref (Ma 4), .ref (Ma 5), .ref (Ma 6), .int (Mv 2), .int (Mv 3), .int (Mv 4), .int (Mv 5), .int (Mv 6), .int (Mv 7), .int (Mv 8), .ref (Ma 7), .int (Mv 9), .ref (Ma 8), .int (Mv 10), .ref (Ma 9), .ref (Ma 10), .int (Mv 11), .int (Mv 12), .int (Mv 13), .ref (Ma 11), .int (Mv 14), .ref (Ma 12), .ref (Ma 13), .ref (Ma 14), .ref (Ma 15), .ref (Ma 16), .long (Mj 0), .ref (Ma 17), .ref (Ma 18), .ref (Ma 19), .ref (Ma 20)])), ((Ma 10), .inl (tc 0, 126, .inl g_14))] := hD₀
    replace hS := hS₀
    clear hP₀ hD₀ hS₀
    have hx_16 : 11 ≤ (x_2 : Int32).toNatClampNeg ∧ (x_2 : Int32).toNatClampNeg < 56 := by
      have z_1 := Int32.le_iff_toInt_le.mp c_12
      have y_6 : (6 : Int32).toInt = 6 := by decide
      have y_4 : (4 : Int32).toInt = 4 := by decide
      have y_12 : (12 : Int32).toInt = 12 := by decide
      have t_x_1 : x_1.toInt = (4 : Int32).toInt * (x1 : Int32).toInt := by rw [ex_1]; exact mul_toInt (by first | omega | (rw [y_4]; omega)) (by first | omega | (rw [y_4]; omega))
      rw [y_4] at t_x_1
      have t_x_2 : x_2.toInt = (12 : Int32).toInt + (x_1 : Int32).toInt := by rw [ex_2]; exact add_toInt (by omega) (by omega)
      have hcl : (x_2 : Int32).toNatClampNeg = (x_2 : Int32).toInt.toNat := rfl
      omega
    have pf_15 : SaidD T g_14 d := SaidD.keep pf_9 eg_14 hx_16
    have ar_pf_15 := SaidD.ar pf_15
    refine lv_aload_n hx hb dX12_takes_56 rfl (lv_at hl 1 rfl) ?_
    refine gf_X12_39 hx hb hts hown hK hP 0 rfl rfl dX12_takes_57 ?_
    refine lv_iload_n hx hb dX12_takes_60 rfl (lv_at hl 0 rfl) ?_
    refine lv_iconst (v := 1) hx hb dX12_takes_61 (by decide) ?_
    refine lv_iadd hx hb dX12_takes_62 ?_
    refine lv_topi (fun x_17 ex_17 => ?_)
    refine lv_dup2_11 hx hb dX12_takes_63 rfl rfl ?_
    have hi_18 : vp_in x_17 126 := by
      have z_1 := Int32.le_iff_toInt_le.mp c_12
      have y_6 : (6 : Int32).toInt = 6 := by decide
      have y_1 : (1 : Int32).toInt = 1 := by decide
      have y_4 : (4 : Int32).toInt = 4 := by decide
      have y_12 : (12 : Int32).toInt = 12 := by decide
      have t_x_1 : x_1.toInt = (4 : Int32).toInt * (x1 : Int32).toInt := by rw [ex_1]; exact mul_toInt (by first | omega | (rw [y_4]; omega)) (by first | omega | (rw [y_4]; omega))
      rw [y_4] at t_x_1
      have t_x_2 : x_2.toInt = (12 : Int32).toInt + (x_1 : Int32).toInt := by rw [ex_2]; exact add_toInt (by omega) (by omega)
      have t_x_17 : x_17.toInt = (x_2 : Int32).toInt + (1 : Int32).toInt := by rw [ex_17]; exact add_toInt (by omega) (by omega)
      refine vp_in_iff.mpr ⟨?_, ?_⟩ <;> omega
    refine va_iald hx hb hK hP 1 0 rfl rfl hi_18 dX12_takes_64 ?_
    refine lv_topi (fun x_19 ex_19 => ?_)
    refine lv_aload_n hx hb dX12_takes_65 rfl (lv_at hl 1 rfl) ?_
    refine gf_X12_39 hx hb hts hown hK hP 0 rfl rfl dX12_takes_66 ?_
    refine lv_bipush (v := 56) hx hb dX12_takes_69 (by decide) ?_
    refine lv_iload_n hx hb dX12_takes_71 rfl (lv_at hl 2 rfl) ?_
    refine lv_iadd hx hb dX12_takes_72 ?_
    refine lv_topi (fun x_20 ex_20 => ?_)
    have hi_21 : vp_in x_20 126 := by
      have z_1 := Int32.le_iff_toInt_le.mp c_12
      have y_6 : (6 : Int32).toInt = 6 := by decide
      have y_56 : (56 : Int32).toInt = 56 := by decide
      have t_x_20 : x_20.toInt = (56 : Int32).toInt + (x1 : Int32).toInt := by rw [ex_20]; exact add_toInt (by omega) (by omega)
      refine vp_in_iff.mpr ⟨?_, ?_⟩ <;> omega
    refine va_iald hx hb hK hP 1 0 rfl rfl hi_21 dX12_takes_73 ?_
    refine lv_topi (fun x_22 ex_22 => ?_)
    refine lv_iadd hx hb dX12_takes_74 ?_
    refine lv_topi (fun x_23 ex_23 => ?_)
    have hi_24 : vp_in x_17 126 := by
      have z_1 := Int32.le_iff_toInt_le.mp c_12
      have y_6 : (6 : Int32).toInt = 6 := by decide
      have y_1 : (1 : Int32).toInt = 1 := by decide
      have y_4 : (4 : Int32).toInt = 4 := by decide
      have y_12 : (12 : Int32).toInt = 12 := by decide
      have t_x_1 : x_1.toInt = (4 : Int32).toInt * (x1 : Int32).toInt := by rw [ex_1]; exact mul_toInt (by first | omega | (rw [y_4]; omega)) (by first | omega | (rw [y_4]; omega))
      rw [y_4] at t_x_1
      have t_x_2 : x_2.toInt = (12 : Int32).toInt + (x_1 : Int32).toInt := by rw [ex_2]; exact add_toInt (by omega) (by omega)
      have t_x_17 : x_17.toInt = (x_2 : Int32).toInt + (1 : Int32).toInt := by rw [ex_17]; exact add_toInt (by omega) (by omega)
      refine vp_in_iff.mpr ⟨?_, ?_⟩ <;> omega
    refine st_int hx hb hK hP hD hS 1 0 rfl rfl hi_24 dX12_takes_75 (fun g_25 H locs eg_25 hP₀ hD₀ hS₀ => ?_)
    replace hP : va_P D classes [((Ma 0), .inr (12, [.ref (Ma 1), .int (Mv 0), .int (Mv 1), .ref (Ma 2), .ref (Ma 3), .ref (Ma 4), .ref (Ma 5), .ref (Ma 6), .int (Mv 2), .int (Mv 3), .int (Mv 4), .int (Mv 5), .int (Mv 6), .int (Mv 7), .int (Mv 8), .ref (Ma 7), .int (Mv 9), .ref (Ma 8), .int (Mv 10), .ref (Ma 9), .ref (Ma 10), .int (Mv 11), .int (Mv 12), .int (Mv 13), .ref (Ma 11), .int (Mv 14), .ref (Ma 12), .ref (Ma 13), .ref (Ma 14), .ref (Ma 15), .ref (Ma 16), .long (Mj 0), .ref (Ma 17), .ref (Ma 18), .ref (Ma 19), .ref (Ma 20)])), ((Ma 10), .inl (tc 0, 126, .inl g_25))] H := hP₀
    replace hD : va_D A [((Ma 0), .inr (12, [.ref (Ma 1), .int (Mv 0), .int (Mv 1), .ref (Ma 2), .ref (Ma 3), .ref (Ma 4), .ref (Ma 5), .ref (Ma 6), .int (Mv 2), .int (Mv 3), .int (Mv 4), .int (Mv 5), .int (Mv 6), .int (Mv 7), .int (Mv 8), .ref (Ma 7), .int (Mv 9), .ref (Ma 8), .int (Mv 10), .ref (Ma 9), .ref (Ma 10), .int (Mv 11), .int (Mv 12), .int (Mv 13), .ref (Ma 11), .int (Mv 14), .ref (Ma 12), .ref (Ma 13), .ref (Ma 14), .ref (Ma 15), .ref (Ma 16), .long (Mj 0), .ref (Ma 17), .ref (Ma 18), .ref (Ma 19), .ref (Ma 20)])), ((Ma 10), .inl (tc 0, 126, .inl g_25))] := hD₀
    replace hS := hS₀
    clear hP₀ hD₀ hS₀
    have hx_27 : 11 ≤ (x_17 : Int32).toNatClampNeg ∧ (x_17 : Int32).toNatClampNeg < 56 := by
      have z_1 := Int32.le_iff_toInt_le.mp c_12
      have y_6 : (6 : Int32).toInt = 6 := by decide
      have y_1 : (1 : Int32).toInt = 1 := by decide
      have y_4 : (4 : Int32).toInt = 4 := by decide
      have y_12 : (12 : Int32).toInt = 12 := by decide
      have t_x_1 : x_1.toInt = (4 : Int32).toInt * (x1 : Int32).toInt := by rw [ex_1]; exact mul_toInt (by first | omega | (rw [y_4]; omega)) (by first | omega | (rw [y_4]; omega))
      rw [y_4] at t_x_1
      have t_x_2 : x_2.toInt = (12 : Int32).toInt + (x_1 : Int32).toInt := by rw [ex_2]; exact add_toInt (by omega) (by omega)
      have t_x_17 : x_17.toInt = (x_2 : Int32).toInt + (1 : Int32).toInt := by rw [ex_17]; exact add_toInt (by omega) (by omega)
      have hcl : (x_17 : Int32).toNatClampNeg = (x_17 : Int32).toInt.toNat := rfl
      omega
    have pf_26 : SaidD T g_25 d := SaidD.keep pf_15 eg_25 hx_27
    have ar_pf_26 := SaidD.ar pf_26
    refine lv_aload_n hx hb dX12_takes_76 rfl (lv_at hl 1 rfl) ?_
    refine gf_X12_39 hx hb hts hown hK hP 0 rfl rfl dX12_takes_77 ?_
    refine lv_iload_n hx hb dX12_takes_80 rfl (lv_at hl 0 rfl) ?_
    refine lv_iconst (v := 3) hx hb dX12_takes_81 (by decide) ?_
    refine lv_iadd hx hb dX12_takes_82 ?_
    refine lv_topi (fun x_28 ex_28 => ?_)
    refine lv_aload_n hx hb dX12_takes_83 rfl (lv_at hl 1 rfl) ?_
    refine gf_X12_39 hx hb hts hown hK hP 0 rfl rfl dX12_takes_84 ?_
    refine lv_bipush (v := 10) hx hb dX12_takes_87 (by decide) ?_
    refine va_iald hx hb hK hP 1 0 rfl rfl (vin_dec (by decide +kernel)) dX12_takes_89 ?_
    refine lv_topi (fun x_29 ex_29 => ?_)
    have lx_29 : x_29.toInt = (g_25 10).toInt := congrArg Int32.toInt ex_29
    have hi_30 : vp_in x_28 126 := by
      have z_1 := Int32.le_iff_toInt_le.mp c_12
      have y_6 : (6 : Int32).toInt = 6 := by decide
      have y_3 : (3 : Int32).toInt = 3 := by decide
      have y_4 : (4 : Int32).toInt = 4 := by decide
      have y_12 : (12 : Int32).toInt = 12 := by decide
      have t_x_1 : x_1.toInt = (4 : Int32).toInt * (x1 : Int32).toInt := by rw [ex_1]; exact mul_toInt (by first | omega | (rw [y_4]; omega)) (by first | omega | (rw [y_4]; omega))
      rw [y_4] at t_x_1
      have t_x_2 : x_2.toInt = (12 : Int32).toInt + (x_1 : Int32).toInt := by rw [ex_2]; exact add_toInt (by omega) (by omega)
      have t_x_28 : x_28.toInt = (x_2 : Int32).toInt + (3 : Int32).toInt := by rw [ex_28]; exact add_toInt (by omega) (by omega)
      refine vp_in_iff.mpr ⟨?_, ?_⟩ <;> omega
    refine st_int hx hb hK hP hD hS 1 0 rfl rfl hi_30 dX12_takes_90 (fun g_31 H locs eg_31 hP₀ hD₀ hS₀ => ?_)
    replace hP : va_P D classes [((Ma 0), .inr (12, [.ref (Ma 1), .int (Mv 0), .int (Mv 1), .ref (Ma 2), .ref (Ma 3), .ref (Ma 4), .ref (Ma 5), .ref (Ma 6), .int (Mv 2), .int (Mv 3), .int (Mv 4), .int (Mv 5), .int (Mv 6), .int (Mv 7), .int (Mv 8), .ref (Ma 7), .int (Mv 9), .ref (Ma 8), .int (Mv 10), .ref (Ma 9), .ref (Ma 10), .int (Mv 11), .int (Mv 12), .int (Mv 13), .ref (Ma 11), .int (Mv 14), .ref (Ma 12), .ref (Ma 13), .ref (Ma 14), .ref (Ma 15), .ref (Ma 16), .long (Mj 0), .ref (Ma 17), .ref (Ma 18), .ref (Ma 19), .ref (Ma 20)])), ((Ma 10), .inl (tc 0, 126, .inl g_31))] H := hP₀
    replace hD : va_D A [((Ma 0), .inr (12, [.ref (Ma 1), .int (Mv 0), .int (Mv 1), .ref (Ma 2), .ref (Ma 3), .ref (Ma 4), .ref (Ma 5), .ref (Ma 6), .int (Mv 2), .int (Mv 3), .int (Mv 4), .int (Mv 5), .int (Mv 6), .int (Mv 7), .int (Mv 8), .ref (Ma 7), .int (Mv 9), .ref (Ma 8), .int (Mv 10), .ref (Ma 9), .ref (Ma 10), .int (Mv 11), .int (Mv 12), .int (Mv 13), .ref (Ma 11), .int (Mv 14), .ref (Ma 12), .ref (Ma 13), .ref (Ma 14), .ref (Ma 15), .ref (Ma 16), .long (Mj 0), .ref (Ma 17), .ref (Ma 18), .ref (Ma 19), .ref (Ma 20)])), ((Ma 10), .inl (tc 0, 126, .inl g_31))] := hD₀
    replace hS := hS₀
    clear hP₀ hD₀ hS₀
    have hx_33 : 11 ≤ (x_28 : Int32).toNatClampNeg ∧ (x_28 : Int32).toNatClampNeg < 56 := by
      have z_1 := Int32.le_iff_toInt_le.mp c_12
      have y_6 : (6 : Int32).toInt = 6 := by decide
      have y_3 : (3 : Int32).toInt = 3 := by decide
      have y_4 : (4 : Int32).toInt = 4 := by decide
      have y_12 : (12 : Int32).toInt = 12 := by decide
      have t_x_1 : x_1.toInt = (4 : Int32).toInt * (x1 : Int32).toInt := by rw [ex_1]; exact mul_toInt (by first | omega | (rw [y_4]; omega)) (by first | omega | (rw [y_4]; omega))
      rw [y_4] at t_x_1
      have t_x_2 : x_2.toInt = (12 : Int32).toInt + (x_1 : Int32).toInt := by rw [ex_2]; exact add_toInt (by omega) (by omega)
      have t_x_28 : x_28.toInt = (x_2 : Int32).toInt + (3 : Int32).toInt := by rw [ex_28]; exact add_toInt (by omega) (by omega)
      have hcl : (x_28 : Int32).toNatClampNeg = (x_28 : Int32).toInt.toNat := rfl
      omega
    have pf_32 : SaidD T g_31 d := SaidD.keep pf_26 eg_31 hx_33
    have ar_pf_32 := SaidD.ar pf_32
    have hF_34 : g_31 = (dX12_takes (Mf 10) x1) := by
      clear hP hD hS hl
      replace ex_1 := ex_1.symm; subst ex_1
      replace ex_2 := ex_2.symm; subst ex_2
      replace ex_3 := ex_3.symm; subst ex_3
      replace ex_4 := ex_4.symm; subst ex_4
      replace ex_6 := ex_6.symm; subst ex_6
      replace ex_7 := ex_7.symm; subst ex_7
      replace eg_8 := eg_8.symm; subst eg_8
      replace ex_11 := ex_11.symm; subst ex_11
      replace eg_14 := eg_14.symm; subst eg_14
      replace ex_17 := ex_17.symm; subst ex_17
      replace ex_19 := ex_19.symm; subst ex_19
      replace ex_20 := ex_20.symm; subst ex_20
      replace ex_22 := ex_22.symm; subst ex_22
      replace ex_23 := ex_23.symm; subst ex_23
      replace eg_25 := eg_25.symm; subst eg_25
      replace ex_28 := ex_28.symm; subst ex_28
      replace ex_29 := ex_29.symm; subst ex_29
      replace eg_31 := eg_31.symm; subst eg_31
      unfold dX12_takes
      rw [if_pos c_12]
      try rfl
    exact retV hx hb hr hlk hP hD hS g_31 ⟨rfl, pf_32, hF_34⟩ [0, 1] rfl rfl dX12_takes_91 (Nat.le_of_ble_eq_true rfl) (Nat.le_of_ble_eq_true rfl) rfl
  · skip
    refine lv_aload_n hx hb dX12_takes_42 rfl (lv_at hl 1 rfl) ?_
    refine gf_X12_39 hx hb hts hown hK hP 0 rfl rfl dX12_takes_43 ?_
    refine lv_iload_n hx hb dX12_takes_46 rfl (lv_at hl 0 rfl) ?_
    have hi_35 : vp_in x_2 126 := by
      have z_1 := Int32.lt_iff_toInt_lt.mp (Int32.not_le.mp c_12)
      have y_6 : (6 : Int32).toInt = 6 := by decide
      have y_4 : (4 : Int32).toInt = 4 := by decide
      have y_12 : (12 : Int32).toInt = 12 := by decide
      have t_x_1 : x_1.toInt = (4 : Int32).toInt * (x1 : Int32).toInt := by rw [ex_1]; exact mul_toInt (by first | omega | (rw [y_4]; omega)) (by first | omega | (rw [y_4]; omega))
      rw [y_4] at t_x_1
      have t_x_2 : x_2.toInt = (12 : Int32).toInt + (x_1 : Int32).toInt := by rw [ex_2]; exact add_toInt (by omega) (by omega)
      refine vp_in_iff.mpr ⟨?_, ?_⟩ <;> omega
    refine va_iald hx hb hK hP 1 0 rfl rfl hi_35 dX12_takes_47 ?_
    refine lv_topi (fun x_36 ex_36 => ?_)
    refine lv_bipush (v := 6) hx hb dX12_takes_48 (by decide) ?_
    refine lv_isub hx hb dX12_takes_50 ?_
    refine lv_topi (fun x_37 ex_37 => ?_)
    refine lv_goto (tgt := 55) hx hb dX12_takes_51 (by decide) ?_
    have hi_38 : vp_in x_2 126 := by
      have z_1 := Int32.lt_iff_toInt_lt.mp (Int32.not_le.mp c_12)
      have y_6 : (6 : Int32).toInt = 6 := by decide
      have y_4 : (4 : Int32).toInt = 4 := by decide
      have y_12 : (12 : Int32).toInt = 12 := by decide
      have t_x_1 : x_1.toInt = (4 : Int32).toInt * (x1 : Int32).toInt := by rw [ex_1]; exact mul_toInt (by first | omega | (rw [y_4]; omega)) (by first | omega | (rw [y_4]; omega))
      rw [y_4] at t_x_1
      have t_x_2 : x_2.toInt = (12 : Int32).toInt + (x_1 : Int32).toInt := by rw [ex_2]; exact add_toInt (by omega) (by omega)
      refine vp_in_iff.mpr ⟨?_, ?_⟩ <;> omega
    refine st_int hx hb hK hP hD hS 1 0 rfl rfl hi_38 dX12_takes_55 (fun g_39 H locs eg_39 hP₀ hD₀ hS₀ => ?_)
    replace hP : va_P D classes [((Ma 0), .inr (12, [.ref (Ma 1), .int (Mv 0), .int (Mv 1), .ref (Ma 2), .ref (Ma 3), .ref (Ma 4), .ref (Ma 5), .ref (Ma 6), .int (Mv 2), .int (Mv 3), .int (Mv 4), .int (Mv 5), .int (Mv 6), .int (Mv 7), .int (Mv 8), .ref (Ma 7), .int (Mv 9), .ref (Ma 8), .int (Mv 10), .ref (Ma 9), .ref (Ma 10), .int (Mv 11), .int (Mv 12), .int (Mv 13), .ref (Ma 11), .int (Mv 14), .ref (Ma 12), .ref (Ma 13), .ref (Ma 14), .ref (Ma 15), .ref (Ma 16), .long (Mj 0), .ref (Ma 17), .ref (Ma 18), .ref (Ma 19), .ref (Ma 20)])), ((Ma 10), .inl (tc 0, 126, .inl g_39))] H := hP₀
    replace hD : va_D A [((Ma 0), .inr (12, [.ref (Ma 1), .int (Mv 0), .int (Mv 1), .ref (Ma 2), .ref (Ma 3), .ref (Ma 4), .ref (Ma 5), .ref (Ma 6), .int (Mv 2), .int (Mv 3), .int (Mv 4), .int (Mv 5), .int (Mv 6), .int (Mv 7), .int (Mv 8), .ref (Ma 7), .int (Mv 9), .ref (Ma 8), .int (Mv 10), .ref (Ma 9), .ref (Ma 10), .int (Mv 11), .int (Mv 12), .int (Mv 13), .ref (Ma 11), .int (Mv 14), .ref (Ma 12), .ref (Ma 13), .ref (Ma 14), .ref (Ma 15), .ref (Ma 16), .long (Mj 0), .ref (Ma 17), .ref (Ma 18), .ref (Ma 19), .ref (Ma 20)])), ((Ma 10), .inl (tc 0, 126, .inl g_39))] := hD₀
    replace hS := hS₀
    clear hP₀ hD₀ hS₀
    have hx_41 : 11 ≤ (x_2 : Int32).toNatClampNeg ∧ (x_2 : Int32).toNatClampNeg < 56 := by
      have z_1 := Int32.lt_iff_toInt_lt.mp (Int32.not_le.mp c_12)
      have y_6 : (6 : Int32).toInt = 6 := by decide
      have y_4 : (4 : Int32).toInt = 4 := by decide
      have y_12 : (12 : Int32).toInt = 12 := by decide
      have t_x_1 : x_1.toInt = (4 : Int32).toInt * (x1 : Int32).toInt := by rw [ex_1]; exact mul_toInt (by first | omega | (rw [y_4]; omega)) (by first | omega | (rw [y_4]; omega))
      rw [y_4] at t_x_1
      have t_x_2 : x_2.toInt = (12 : Int32).toInt + (x_1 : Int32).toInt := by rw [ex_2]; exact add_toInt (by omega) (by omega)
      have hcl : (x_2 : Int32).toNatClampNeg = (x_2 : Int32).toInt.toNat := rfl
      omega
    have pf_40 : SaidD T g_39 d := SaidD.keep pf_9 eg_39 hx_41
    have ar_pf_40 := SaidD.ar pf_40
    refine lv_aload_n hx hb dX12_takes_56 rfl (lv_at hl 1 rfl) ?_
    refine gf_X12_39 hx hb hts hown hK hP 0 rfl rfl dX12_takes_57 ?_
    refine lv_iload_n hx hb dX12_takes_60 rfl (lv_at hl 0 rfl) ?_
    refine lv_iconst (v := 1) hx hb dX12_takes_61 (by decide) ?_
    refine lv_iadd hx hb dX12_takes_62 ?_
    refine lv_topi (fun x_42 ex_42 => ?_)
    refine lv_dup2_11 hx hb dX12_takes_63 rfl rfl ?_
    have hi_43 : vp_in x_42 126 := by
      have z_1 := Int32.lt_iff_toInt_lt.mp (Int32.not_le.mp c_12)
      have y_6 : (6 : Int32).toInt = 6 := by decide
      have y_1 : (1 : Int32).toInt = 1 := by decide
      have y_4 : (4 : Int32).toInt = 4 := by decide
      have y_12 : (12 : Int32).toInt = 12 := by decide
      have t_x_1 : x_1.toInt = (4 : Int32).toInt * (x1 : Int32).toInt := by rw [ex_1]; exact mul_toInt (by first | omega | (rw [y_4]; omega)) (by first | omega | (rw [y_4]; omega))
      rw [y_4] at t_x_1
      have t_x_2 : x_2.toInt = (12 : Int32).toInt + (x_1 : Int32).toInt := by rw [ex_2]; exact add_toInt (by omega) (by omega)
      have t_x_42 : x_42.toInt = (x_2 : Int32).toInt + (1 : Int32).toInt := by rw [ex_42]; exact add_toInt (by omega) (by omega)
      refine vp_in_iff.mpr ⟨?_, ?_⟩ <;> omega
    refine va_iald hx hb hK hP 1 0 rfl rfl hi_43 dX12_takes_64 ?_
    refine lv_topi (fun x_44 ex_44 => ?_)
    refine lv_aload_n hx hb dX12_takes_65 rfl (lv_at hl 1 rfl) ?_
    refine gf_X12_39 hx hb hts hown hK hP 0 rfl rfl dX12_takes_66 ?_
    refine lv_bipush (v := 56) hx hb dX12_takes_69 (by decide) ?_
    refine lv_iload_n hx hb dX12_takes_71 rfl (lv_at hl 2 rfl) ?_
    refine lv_iadd hx hb dX12_takes_72 ?_
    refine lv_topi (fun x_45 ex_45 => ?_)
    have hi_46 : vp_in x_45 126 := by
      have z_1 := Int32.lt_iff_toInt_lt.mp (Int32.not_le.mp c_12)
      have y_6 : (6 : Int32).toInt = 6 := by decide
      have y_56 : (56 : Int32).toInt = 56 := by decide
      have t_x_45 : x_45.toInt = (56 : Int32).toInt + (x1 : Int32).toInt := by rw [ex_45]; exact add_toInt (by omega) (by omega)
      refine vp_in_iff.mpr ⟨?_, ?_⟩ <;> omega
    refine va_iald hx hb hK hP 1 0 rfl rfl hi_46 dX12_takes_73 ?_
    refine lv_topi (fun x_47 ex_47 => ?_)
    refine lv_iadd hx hb dX12_takes_74 ?_
    refine lv_topi (fun x_48 ex_48 => ?_)
    have hi_49 : vp_in x_42 126 := by
      have z_1 := Int32.lt_iff_toInt_lt.mp (Int32.not_le.mp c_12)
      have y_6 : (6 : Int32).toInt = 6 := by decide
      have y_1 : (1 : Int32).toInt = 1 := by decide
      have y_4 : (4 : Int32).toInt = 4 := by decide
      have y_12 : (12 : Int32).toInt = 12 := by decide
      have t_x_1 : x_1.toInt = (4 : Int32).toInt * (x1 : Int32).toInt := by rw [ex_1]; exact mul_toInt (by first | omega | (rw [y_4]; omega)) (by first | omega | (rw [y_4]; omega))
      rw [y_4] at t_x_1
      have t_x_2 : x_2.toInt = (12 : Int32).toInt + (x_1 : Int32).toInt := by rw [ex_2]; exact add_toInt (by omega) (by omega)
      have t_x_42 : x_42.toInt = (x_2 : Int32).toInt + (1 : Int32).toInt := by rw [ex_42]; exact add_toInt (by omega) (by omega)
      refine vp_in_iff.mpr ⟨?_, ?_⟩ <;> omega
    refine st_int hx hb hK hP hD hS 1 0 rfl rfl hi_49 dX12_takes_75 (fun g_50 H locs eg_50 hP₀ hD₀ hS₀ => ?_)
    replace hP : va_P D classes [((Ma 0), .inr (12, [.ref (Ma 1), .int (Mv 0), .int (Mv 1), .ref (Ma 2), .ref (Ma 3), .ref (Ma 4), .ref (Ma 5), .ref (Ma 6), .int (Mv 2), .int (Mv 3), .int (Mv 4), .int (Mv 5), .int (Mv 6), .int (Mv 7), .int (Mv 8), .ref (Ma 7), .int (Mv 9), .ref (Ma 8), .int (Mv 10), .ref (Ma 9), .ref (Ma 10), .int (Mv 11), .int (Mv 12), .int (Mv 13), .ref (Ma 11), .int (Mv 14), .ref (Ma 12), .ref (Ma 13), .ref (Ma 14), .ref (Ma 15), .ref (Ma 16), .long (Mj 0), .ref (Ma 17), .ref (Ma 18), .ref (Ma 19), .ref (Ma 20)])), ((Ma 10), .inl (tc 0, 126, .inl g_50))] H := hP₀
    replace hD : va_D A [((Ma 0), .inr (12, [.ref (Ma 1), .int (Mv 0), .int (Mv 1), .ref (Ma 2), .ref (Ma 3), .ref (Ma 4), .ref (Ma 5), .ref (Ma 6), .int (Mv 2), .int (Mv 3), .int (Mv 4), .int (Mv 5), .int (Mv 6), .int (Mv 7), .int (Mv 8), .ref (Ma 7), .int (Mv 9), .ref (Ma 8), .int (Mv 10), .ref (Ma 9), .ref (Ma 10), .int (Mv 11), .int (Mv 12), .int (Mv 13), .ref (Ma 11), .int (Mv 14), .ref (Ma 12), .ref (Ma 13), .ref (Ma 14), .ref (Ma 15), .ref (Ma 16), .long (Mj 0), .ref (Ma 17), .ref (Ma 18), .ref (Ma 19), .ref (Ma 20)])), ((Ma 10), .inl (tc 0, 126, .inl g_50))] := hD₀
    replace hS := hS₀
    clear hP₀ hD₀ hS₀
    have hx_52 : 11 ≤ (x_42 : Int32).toNatClampNeg ∧ (x_42 : Int32).toNatClampNeg < 56 := by
      have z_1 := Int32.lt_iff_toInt_lt.mp (Int32.not_le.mp c_12)
      have y_6 : (6 : Int32).toInt = 6 := by decide
      have y_1 : (1 : Int32).toInt = 1 := by decide
      have y_4 : (4 : Int32).toInt = 4 := by decide
      have y_12 : (12 : Int32).toInt = 12 := by decide
      have t_x_1 : x_1.toInt = (4 : Int32).toInt * (x1 : Int32).toInt := by rw [ex_1]; exact mul_toInt (by first | omega | (rw [y_4]; omega)) (by first | omega | (rw [y_4]; omega))
      rw [y_4] at t_x_1
      have t_x_2 : x_2.toInt = (12 : Int32).toInt + (x_1 : Int32).toInt := by rw [ex_2]; exact add_toInt (by omega) (by omega)
      have t_x_42 : x_42.toInt = (x_2 : Int32).toInt + (1 : Int32).toInt := by rw [ex_42]; exact add_toInt (by omega) (by omega)
      have hcl : (x_42 : Int32).toNatClampNeg = (x_42 : Int32).toInt.toNat := rfl
      omega
    have pf_51 : SaidD T g_50 d := SaidD.keep pf_40 eg_50 hx_52
    have ar_pf_51 := SaidD.ar pf_51
    refine lv_aload_n hx hb dX12_takes_76 rfl (lv_at hl 1 rfl) ?_
    refine gf_X12_39 hx hb hts hown hK hP 0 rfl rfl dX12_takes_77 ?_
    refine lv_iload_n hx hb dX12_takes_80 rfl (lv_at hl 0 rfl) ?_
    refine lv_iconst (v := 3) hx hb dX12_takes_81 (by decide) ?_
    refine lv_iadd hx hb dX12_takes_82 ?_
    refine lv_topi (fun x_53 ex_53 => ?_)
    refine lv_aload_n hx hb dX12_takes_83 rfl (lv_at hl 1 rfl) ?_
    refine gf_X12_39 hx hb hts hown hK hP 0 rfl rfl dX12_takes_84 ?_
    refine lv_bipush (v := 10) hx hb dX12_takes_87 (by decide) ?_
    refine va_iald hx hb hK hP 1 0 rfl rfl (vin_dec (by decide +kernel)) dX12_takes_89 ?_
    refine lv_topi (fun x_54 ex_54 => ?_)
    have lx_54 : x_54.toInt = (g_50 10).toInt := congrArg Int32.toInt ex_54
    have hi_55 : vp_in x_53 126 := by
      have z_1 := Int32.lt_iff_toInt_lt.mp (Int32.not_le.mp c_12)
      have y_6 : (6 : Int32).toInt = 6 := by decide
      have y_3 : (3 : Int32).toInt = 3 := by decide
      have y_4 : (4 : Int32).toInt = 4 := by decide
      have y_12 : (12 : Int32).toInt = 12 := by decide
      have t_x_1 : x_1.toInt = (4 : Int32).toInt * (x1 : Int32).toInt := by rw [ex_1]; exact mul_toInt (by first | omega | (rw [y_4]; omega)) (by first | omega | (rw [y_4]; omega))
      rw [y_4] at t_x_1
      have t_x_2 : x_2.toInt = (12 : Int32).toInt + (x_1 : Int32).toInt := by rw [ex_2]; exact add_toInt (by omega) (by omega)
      have t_x_53 : x_53.toInt = (x_2 : Int32).toInt + (3 : Int32).toInt := by rw [ex_53]; exact add_toInt (by omega) (by omega)
      refine vp_in_iff.mpr ⟨?_, ?_⟩ <;> omega
    refine st_int hx hb hK hP hD hS 1 0 rfl rfl hi_55 dX12_takes_90 (fun g_56 H locs eg_56 hP₀ hD₀ hS₀ => ?_)
    replace hP : va_P D classes [((Ma 0), .inr (12, [.ref (Ma 1), .int (Mv 0), .int (Mv 1), .ref (Ma 2), .ref (Ma 3), .ref (Ma 4), .ref (Ma 5), .ref (Ma 6), .int (Mv 2), .int (Mv 3), .int (Mv 4), .int (Mv 5), .int (Mv 6), .int (Mv 7), .int (Mv 8), .ref (Ma 7), .int (Mv 9), .ref (Ma 8), .int (Mv 10), .ref (Ma 9), .ref (Ma 10), .int (Mv 11), .int (Mv 12), .int (Mv 13), .ref (Ma 11), .int (Mv 14), .ref (Ma 12), .ref (Ma 13), .ref (Ma 14), .ref (Ma 15), .ref (Ma 16), .long (Mj 0), .ref (Ma 17), .ref (Ma 18), .ref (Ma 19), .ref (Ma 20)])), ((Ma 10), .inl (tc 0, 126, .inl g_56))] H := hP₀
    replace hD : va_D A [((Ma 0), .inr (12, [.ref (Ma 1), .int (Mv 0), .int (Mv 1), .ref (Ma 2), .ref (Ma 3), .ref (Ma 4), .ref (Ma 5), .ref (Ma 6), .int (Mv 2), .int (Mv 3), .int (Mv 4), .int (Mv 5), .int (Mv 6), .int (Mv 7), .int (Mv 8), .ref (Ma 7), .int (Mv 9), .ref (Ma 8), .int (Mv 10), .ref (Ma 9), .ref (Ma 10), .int (Mv 11), .int (Mv 12), .int (Mv 13), .ref (Ma 11), .int (Mv 14), .ref (Ma 12), .ref (Ma 13), .ref (Ma 14), .ref (Ma 15), .ref (Ma 16), .long (Mj 0), .ref (Ma 17), .ref (Ma 18), .ref (Ma 19), .ref (Ma 20)])), ((Ma 10), .inl (tc 0, 126, .inl g_56))] := hD₀
    replace hS := hS₀
    clear hP₀ hD₀ hS₀
    have hx_58 : 11 ≤ (x_53 : Int32).toNatClampNeg ∧ (x_53 : Int32).toNatClampNeg < 56 := by
      have z_1 := Int32.lt_iff_toInt_lt.mp (Int32.not_le.mp c_12)
      have y_6 : (6 : Int32).toInt = 6 := by decide
      have y_3 : (3 : Int32).toInt = 3 := by decide
      have y_4 : (4 : Int32).toInt = 4 := by decide
      have y_12 : (12 : Int32).toInt = 12 := by decide
      have t_x_1 : x_1.toInt = (4 : Int32).toInt * (x1 : Int32).toInt := by rw [ex_1]; exact mul_toInt (by first | omega | (rw [y_4]; omega)) (by first | omega | (rw [y_4]; omega))
      rw [y_4] at t_x_1
      have t_x_2 : x_2.toInt = (12 : Int32).toInt + (x_1 : Int32).toInt := by rw [ex_2]; exact add_toInt (by omega) (by omega)
      have t_x_53 : x_53.toInt = (x_2 : Int32).toInt + (3 : Int32).toInt := by rw [ex_53]; exact add_toInt (by omega) (by omega)
      have hcl : (x_53 : Int32).toNatClampNeg = (x_53 : Int32).toInt.toNat := rfl
      omega
    have pf_57 : SaidD T g_56 d := SaidD.keep pf_51 eg_56 hx_58
    have ar_pf_57 := SaidD.ar pf_57
    have hF_59 : g_56 = (dX12_takes (Mf 10) x1) := by
      clear hP hD hS hl
      replace ex_1 := ex_1.symm; subst ex_1
      replace ex_2 := ex_2.symm; subst ex_2
      replace ex_3 := ex_3.symm; subst ex_3
      replace ex_4 := ex_4.symm; subst ex_4
      replace ex_6 := ex_6.symm; subst ex_6
      replace ex_7 := ex_7.symm; subst ex_7
      replace eg_8 := eg_8.symm; subst eg_8
      replace ex_11 := ex_11.symm; subst ex_11
      replace ex_36 := ex_36.symm; subst ex_36
      replace ex_37 := ex_37.symm; subst ex_37
      replace eg_39 := eg_39.symm; subst eg_39
      replace ex_42 := ex_42.symm; subst ex_42
      replace ex_44 := ex_44.symm; subst ex_44
      replace ex_45 := ex_45.symm; subst ex_45
      replace ex_47 := ex_47.symm; subst ex_47
      replace ex_48 := ex_48.symm; subst ex_48
      replace eg_50 := eg_50.symm; subst eg_50
      replace ex_53 := ex_53.symm; subst ex_53
      replace ex_54 := ex_54.symm; subst ex_54
      replace eg_56 := eg_56.symm; subst eg_56
      unfold dX12_takes
      rw [if_neg c_12]
      try rfl
    exact retV hx hb hr hlk hP hD hS g_56 ⟨rfl, pf_57, hF_59⟩ [0, 1] rfl rfl dX12_takes_91 (Nat.le_of_ble_eq_true rfl) (Nat.le_of_ble_eq_true rfl) rfl
set_option maxRecDepth 100000 in
theorem cu_dX12_takes {T : Nat → Option Int32} (l : Launch) (D : va_G) (tc : Nat → ClassId) (sk : (Nat → Nat) × (Nat → Nat)) (Ma_0 : Nat) (Ma_1 : Nat) (Ma_2 : Nat) (Ma_3 : Nat) (Ma_4 : Nat) (Ma_5 : Nat) (Ma_6 : Nat) (Ma_7 : Nat) (Ma_8 : Nat) (Ma_9 : Nat) (Ma_10 : Nat) (Ma_11 : Nat) (Ma_12 : Nat) (Ma_13 : Nat) (Ma_14 : Nat) (Ma_15 : Nat) (Ma_16 : Nat) (Ma_17 : Nat) (Ma_18 : Nat) (Ma_19 : Nat) (Ma_20 : Nat) (Mv_0 : Int32) (Mv_1 : Int32) (Mv_2 : Int32) (Mv_3 : Int32) (Mv_4 : Int32) (Mv_5 : Int32) (Mv_6 : Int32) (Mv_7 : Int32) (Mv_8 : Int32) (Mv_9 : Int32) (Mv_10 : Int32) (Mv_11 : Int32) (Mv_12 : Int32) (Mv_13 : Int32) (Mv_14 : Int32) (Mf_10 : Nat → Int32) (Mj_0 : Int64) (x1 : Int32) (d : Int) (h_b : 0 ≤ x1.toInt ∧ x1.toInt < 6) (h_said : SaidD T Mf_10 d) : Ct l yX12_takes cX12_takes 3 none { frames := 0, cells := 0, slots := 0, locals := 0 } D tc sk [.ref Ma_0, .int x1] [(Ma_0, .inr (12, [.ref Ma_1, .int Mv_0, .int Mv_1, .ref Ma_2, .ref Ma_3, .ref Ma_4, .ref Ma_5, .ref Ma_6, .int Mv_2, .int Mv_3, .int Mv_4, .int Mv_5, .int Mv_6, .int Mv_7, .int Mv_8, .ref Ma_7, .int Mv_9, .ref Ma_8, .int Mv_10, .ref Ma_9, .ref Ma_10, .int Mv_11, .int Mv_12, .int Mv_13, .ref Ma_11, .int Mv_14, .ref Ma_12, .ref Ma_13, .ref Ma_14, .ref Ma_15, .ref Ma_16, .long Mj_0, .ref Ma_17, .ref Ma_18, .ref Ma_19, .ref Ma_20])), (Ma_10, .inl (tc 0, 126, .inl Mf_10))] (fun (v : Option Value) (oo0x1 : Nat → Int32) => v = none ∧ (SaidD T oo0x1 d) ∧ (DEq (oo0x1) (dX12_takes Mf_10 x1))) (fun (oo0x1 : Nat → Int32) => [(Ma_0, .inr (12, [.ref Ma_1, .int Mv_0, .int Mv_1, .ref Ma_2, .ref Ma_3, .ref Ma_4, .ref Ma_5, .ref Ma_6, .int Mv_2, .int Mv_3, .int Mv_4, .int Mv_5, .int Mv_6, .int Mv_7, .int Mv_8, .ref Ma_7, .int Mv_9, .ref Ma_8, .int Mv_10, .ref Ma_9, .ref Ma_10, .int Mv_11, .int Mv_12, .int Mv_13, .ref Ma_11, .int Mv_14, .ref Ma_12, .ref Ma_13, .ref Ma_14, .ref Ma_15, .ref Ma_16, .long Mj_0, .ref Ma_17, .ref Ma_18, .ref Ma_19, .ref Ma_20])), (Ma_10, .inl (tc 0, 126, .inl oo0x1))]) 0 0 :=
  ct_dX12_takes l D tc sk (fun k => ([Ma_0, Ma_1, Ma_2, Ma_3, Ma_4, Ma_5, Ma_6, Ma_7, Ma_8, Ma_9, Ma_10, Ma_11, Ma_12, Ma_13, Ma_14, Ma_15, Ma_16, Ma_17, Ma_18, Ma_19, Ma_20] : List (Nat)).getD k 0) (fun k => ([Mv_0, Mv_1, Mv_2, Mv_3, Mv_4, Mv_5, Mv_6, Mv_7, Mv_8, Mv_9, Mv_10, Mv_11, Mv_12, Mv_13, Mv_14] : List (Int32)).getD k 0) (fun k => ([(fun _ => 0), (fun _ => 0), (fun _ => 0), (fun _ => 0), (fun _ => 0), (fun _ => 0), (fun _ => 0), (fun _ => 0), (fun _ => 0), (fun _ => 0), Mf_10] : List (Nat → Int32)).getD k (fun _ => 0)) (fun k => ([Mj_0] : List (Int64)).getD k 0) x1 d h_b h_said
def dX12_isMet (Mf_10 : Nat → Int32) (Mv_13 : Int32) (x1 : Int32) : Int32 := (if (dX12_isOf Mv_13 (dX12_clock Mf_10)) = (0 : Int32) then (if (dX12_isOf (Mf_10 (((46 : Int32) + (dX12_clock Mf_10))).toNatClampNeg) x1) = (0 : Int32) then (0 : Int32) else (1 : Int32)) else (1 : Int32))
set_option maxHeartbeats 4000000 in
set_option maxRecDepth 100000 in
theorem ct_dX12_isMet {T : Nat → Option Int32} (l : Launch) (D : va_G) (tc : Nat → ClassId) (sk : (Nat → Nat) × (Nat → Nat)) (Ma : Nat → Nat) (Mv : Nat → Int32) (Mf : Nat → Nat → Int32) (Mj : Nat → Int64) (x1 : Int32) (d : Int) (h_b : 0 ≤ x1.toInt ∧ x1.toInt < 6) (h_said : SaidD T (Mf 10) d) : Ct l yX12_isMet cX12_isMet 2 (some .boolean) { frames := 2, cells := 0, slots := 0, locals := 40 } D tc sk [.ref (Ma 0), .int x1] [((Ma 0), .inr (12, [.ref (Ma 1), .int (Mv 0), .int (Mv 1), .ref (Ma 2), .ref (Ma 3), .ref (Ma 4), .ref (Ma 5), .ref (Ma 6), .int (Mv 2), .int (Mv 3), .int (Mv 4), .int (Mv 5), .int (Mv 6), .int (Mv 7), .int (Mv 8), .ref (Ma 7), .int (Mv 9), .ref (Ma 8), .int (Mv 10), .ref (Ma 9), .ref (Ma 10), .int (Mv 11), .int (Mv 12), .int (Mv 13), .ref (Ma 11), .int (Mv 14), .ref (Ma 12), .ref (Ma 13), .ref (Ma 14), .ref (Ma 15), .ref (Ma 16), .long (Mj 0), .ref (Ma 17), .ref (Ma 18), .ref (Ma 19), .ref (Ma 20)])), ((Ma 10), .inl (tc 0, 126, .inl (Mf 10)))] (fun (v : Option Value) (_ : Unit) => ∃ r : Int32, v = some (.int r) ∧ (((r.toInt = 0 ∨ r.toInt = 1)) ∧ r = (dX12_isMet (Mf 10) (Mv 13) x1))) (fun (_ : Unit) => [((Ma 0), .inr (12, [.ref (Ma 1), .int (Mv 0), .int (Mv 1), .ref (Ma 2), .ref (Ma 3), .ref (Ma 4), .ref (Ma 5), .ref (Ma 6), .int (Mv 2), .int (Mv 3), .int (Mv 4), .int (Mv 5), .int (Mv 6), .int (Mv 7), .int (Mv 8), .ref (Ma 7), .int (Mv 9), .ref (Ma 8), .int (Mv 10), .ref (Ma 9), .ref (Ma 10), .int (Mv 11), .int (Mv 12), .int (Mv 13), .ref (Ma 11), .int (Mv 14), .ref (Ma 12), .ref (Ma 13), .ref (Ma 14), .ref (Ma 15), .ref (Ma 16), .long (Mj 0), .ref (Ma 17), .ref (Ma 18), .ref (Ma 19), .ref (Ma 20)])), ((Ma 10), .inl (tc 0, 126, .inl (Mf 10)))]) 0 0 := by
  refine Ct.start (by decide) (Nat.le_of_ble_eq_true rfl) (fun p e s m below meth c A ls hx hb hr hlk hin hml hown hts hK hX hP hD hA hl hS => ?_)
  have hl : lv_has ls 2 [(0, .ref (Ma 0)), (1, .int x1)] := hl
  have ar_h_said := SaidD.ar h_said
  refine lv_aload_n hx hb dX12_isMet_0 rfl (lv_at hl 0 rfl) ?_
  refine gf_X12_324 hx hb hts hown hK hP 0 rfl rfl dX12_isMet_1 ?_
  refine lv_aload_n hx hb dX12_isMet_4 rfl (lv_at hl 0 rfl) ?_
  refine cV (a := (Ma 0)) (As := []) (rest := [.int (Mv 13)]) (wr := []) ⟨hx, hb, hml, hown, hts⟩ hK hX hA (cu_dX12_clock l D tc sk (Ma 0) (Ma 1) (Ma 2) (Ma 3) (Ma 4) (Ma 5) (Ma 6) (Ma 7) (Ma 8) (Ma 9) (Ma 10) (Ma 11) (Ma 12) (Ma 13) (Ma 14) (Ma 15) (Ma 16) (Ma 17) (Ma 18) (Ma 19) (Ma 20) (Mv 0) (Mv 1) (Mv 2) (Mv 3) (Mv 4) (Mv 5) (Mv 6) (Mv 7) (Mv 8) (Mv 9) (Mv 10) (Mv 11) (Mv 12) (Mv 13) (Mv 14) (Mf 10) (Mj 0) d h_said) k_1435 k_1432 k_1434 k_70 k_106 pl_X12_clock ⟨Nat.le_of_ble_eq_true rfl, Nat.le_of_ble_eq_true rfl⟩ rfl rfl (va_recv hK hP (ci := 12) (q0 := 0) rfl rfl) hP hD hS [0, 1] [] rfl rfl rfl rfl rfl (by decide) rfl hl.1 rfl (Nat.le_of_ble_eq_true rfl) dX12_isMet_5 ⟨Nat.le_of_ble_eq_true rfl, Nat.le_of_ble_eq_true rfl⟩ (fun v_1 u_2 H locs hv_3 hP₀ hD₀ hS₀ => ?_)
  obtain ⟨r_4, rfl, he_5⟩ := hv_3
  have he_5 : ((0 ≤ r_4.toInt ∧ r_4.toInt < 10)) ∧ r_4 = (dX12_clock (Mf 10)) := he_5
  refine W.eq (g2 := F0 m 8 ls [.int r_4, .int (Mv 13)]) rfl ?_
  replace hP : va_P D classes [((Ma 0), .inr (12, [.ref (Ma 1), .int (Mv 0), .int (Mv 1), .ref (Ma 2), .ref (Ma 3), .ref (Ma 4), .ref (Ma 5), .ref (Ma 6), .int (Mv 2), .int (Mv 3), .int (Mv 4), .int (Mv 5), .int (Mv 6), .int (Mv 7), .int (Mv 8), .ref (Ma 7), .int (Mv 9), .ref (Ma 8), .int (Mv 10), .ref (Ma 9), .ref (Ma 10), .int (Mv 11), .int (Mv 12), .int (Mv 13), .ref (Ma 11), .int (Mv 14), .ref (Ma 12), .ref (Ma 13), .ref (Ma 14), .ref (Ma 15), .ref (Ma 16), .long (Mj 0), .ref (Ma 17), .ref (Ma 18), .ref (Ma 19), .ref (Ma 20)])), ((Ma 10), .inl (tc 0, 126, .inl (Mf 10)))] H := hP₀
  replace hD : va_D A [((Ma 0), .inr (12, [.ref (Ma 1), .int (Mv 0), .int (Mv 1), .ref (Ma 2), .ref (Ma 3), .ref (Ma 4), .ref (Ma 5), .ref (Ma 6), .int (Mv 2), .int (Mv 3), .int (Mv 4), .int (Mv 5), .int (Mv 6), .int (Mv 7), .int (Mv 8), .ref (Ma 7), .int (Mv 9), .ref (Ma 8), .int (Mv 10), .ref (Ma 9), .ref (Ma 10), .int (Mv 11), .int (Mv 12), .int (Mv 13), .ref (Ma 11), .int (Mv 14), .ref (Ma 12), .ref (Ma 13), .ref (Ma 14), .ref (Ma 15), .ref (Ma 16), .long (Mj 0), .ref (Ma 17), .ref (Ma 18), .ref (Ma 19), .ref (Ma 20)])), ((Ma 10), .inl (tc 0, 126, .inl (Mf 10)))] := hD₀
  replace hS := hS₀
  clear hP₀ hD₀ hS₀
  obtain ⟨he_5, hq_7⟩ := he_5
  have er_4 : r_4 = (dX12_clock (Mf 10)) := hq_7
  refine cS (As := [.int (Mv 13), .int r_4]) (rest := []) (wr := [((Ma 0), .inr (12, [.ref (Ma 1), .int (Mv 0), .int (Mv 1), .ref (Ma 2), .ref (Ma 3), .ref (Ma 4), .ref (Ma 5), .ref (Ma 6), .int (Mv 2), .int (Mv 3), .int (Mv 4), .int (Mv 5), .int (Mv 6), .int (Mv 7), .int (Mv 8), .ref (Ma 7), .int (Mv 9), .ref (Ma 8), .int (Mv 10), .ref (Ma 9), .ref (Ma 10), .int (Mv 11), .int (Mv 12), .int (Mv 13), .ref (Ma 11), .int (Mv 14), .ref (Ma 12), .ref (Ma 13), .ref (Ma 14), .ref (Ma 15), .ref (Ma 16), .long (Mj 0), .ref (Ma 17), .ref (Ma 18), .ref (Ma 19), .ref (Ma 20)])), ((Ma 10), .inl (tc 0, 126, .inl (Mf 10)))]) ⟨hx, hb, hml, hown, hts⟩ hK hX hA (ct_dX12_isOf l D tc sk (Mv 13) r_4) k_1469 k_1467 k_1468 k_106 pl_X12_isOf ⟨Nat.le_of_ble_eq_true rfl, Nat.le_of_ble_eq_true rfl⟩ rfl rfl  hP hD hS [] [0, 1] rfl rfl rfl rfl rfl (by decide) rfl hl.1 rfl (Nat.le_of_ble_eq_true rfl) dX12_isMet_8 ⟨Nat.le_of_ble_eq_true rfl, Nat.le_of_ble_eq_true rfl⟩ (fun v_8 u_9 H locs hv_10 hP₀ hD₀ hS₀ => ?_)
  obtain ⟨r_11, rfl, he_12⟩ := hv_10
  have he_12 : ((r_11.toInt = 0 ∨ r_11.toInt = 1)) ∧ r_11 = (dX12_isOf (Mv 13) r_4) := he_12
  refine W.eq (g2 := F0 m 11 ls [.int r_11]) rfl ?_
  replace hP : va_P D classes [((Ma 0), .inr (12, [.ref (Ma 1), .int (Mv 0), .int (Mv 1), .ref (Ma 2), .ref (Ma 3), .ref (Ma 4), .ref (Ma 5), .ref (Ma 6), .int (Mv 2), .int (Mv 3), .int (Mv 4), .int (Mv 5), .int (Mv 6), .int (Mv 7), .int (Mv 8), .ref (Ma 7), .int (Mv 9), .ref (Ma 8), .int (Mv 10), .ref (Ma 9), .ref (Ma 10), .int (Mv 11), .int (Mv 12), .int (Mv 13), .ref (Ma 11), .int (Mv 14), .ref (Ma 12), .ref (Ma 13), .ref (Ma 14), .ref (Ma 15), .ref (Ma 16), .long (Mj 0), .ref (Ma 17), .ref (Ma 18), .ref (Ma 19), .ref (Ma 20)])), ((Ma 10), .inl (tc 0, 126, .inl (Mf 10)))] H := hP₀
  replace hD : va_D A [((Ma 0), .inr (12, [.ref (Ma 1), .int (Mv 0), .int (Mv 1), .ref (Ma 2), .ref (Ma 3), .ref (Ma 4), .ref (Ma 5), .ref (Ma 6), .int (Mv 2), .int (Mv 3), .int (Mv 4), .int (Mv 5), .int (Mv 6), .int (Mv 7), .int (Mv 8), .ref (Ma 7), .int (Mv 9), .ref (Ma 8), .int (Mv 10), .ref (Ma 9), .ref (Ma 10), .int (Mv 11), .int (Mv 12), .int (Mv 13), .ref (Ma 11), .int (Mv 14), .ref (Ma 12), .ref (Ma 13), .ref (Ma 14), .ref (Ma 15), .ref (Ma 16), .long (Mj 0), .ref (Ma 17), .ref (Ma 18), .ref (Ma 19), .ref (Ma 20)])), ((Ma 10), .inl (tc 0, 126, .inl (Mf 10)))] := hD₀
  replace hS := hS₀
  clear hP₀ hD₀ hS₀
  obtain ⟨he_12, hq_14⟩ := he_12
  have er_11 : r_11 = (dX12_isOf (Mv 13) r_4) := hq_14
  refine lv_if_ne (tgt := 33) hx hb dX12_isMet_11 (by decide) (fun c_15 => ?_) (fun c_15 => ?_)
  · skip
    refine lv_iconst (v := 1) hx hb dX12_isMet_33 (by decide) ?_
    refine lv_goto (tgt := 38) hx hb dX12_isMet_34 (by decide) ?_
    have hp_16 : ((1 : Int32).toInt = 0 ∨ (1 : Int32).toInt = 1) := by
      have z_1 : ¬ (r_11 : Int32).toInt = (0 : Int32).toInt := fun z => c_15 (Int32.toInt_inj.mp z)
      have y_0 : (0 : Int32).toInt = 0 := by decide
      have y_1 : (1 : Int32).toInt = 1 := by decide
      have yr : (1 : Int32).toInt = 1 := by decide
      omega
    have hF_17 : (1 : Int32) = (dX12_isMet (Mf 10) (Mv 13) x1) := by
      clear hP hD hS hl
      replace er_4 := er_4.symm; subst er_4
      replace er_11 := er_11.symm; subst er_11
      unfold dX12_isMet
      rw [if_neg c_15]
      try rfl
    exact retI (v := 1) hx hb hr hlk (rfl) hP hD hS () ⟨_, rfl, ⟨hp_16, hF_17⟩⟩ [0, 1] rfl rfl dX12_isMet_38 (Nat.le_of_ble_eq_true rfl) (Nat.le_of_ble_eq_true rfl) rfl
  · skip
    refine lv_aload_n hx hb dX12_isMet_14 rfl (lv_at hl 0 rfl) ?_
    refine gf_X12_39 hx hb hts hown hK hP 0 rfl rfl dX12_isMet_15 ?_
    refine lv_bipush (v := 46) hx hb dX12_isMet_18 (by decide) ?_
    refine lv_aload_n hx hb dX12_isMet_20 rfl (lv_at hl 0 rfl) ?_
    refine cV (a := (Ma 0)) (As := []) (rest := [.int 46, .ref (Ma 10)]) (wr := []) ⟨hx, hb, hml, hown, hts⟩ hK hX hA (cu_dX12_clock l D tc sk (Ma 0) (Ma 1) (Ma 2) (Ma 3) (Ma 4) (Ma 5) (Ma 6) (Ma 7) (Ma 8) (Ma 9) (Ma 10) (Ma 11) (Ma 12) (Ma 13) (Ma 14) (Ma 15) (Ma 16) (Ma 17) (Ma 18) (Ma 19) (Ma 20) (Mv 0) (Mv 1) (Mv 2) (Mv 3) (Mv 4) (Mv 5) (Mv 6) (Mv 7) (Mv 8) (Mv 9) (Mv 10) (Mv 11) (Mv 12) (Mv 13) (Mv 14) (Mf 10) (Mj 0) d h_said) k_1435 k_1432 k_1434 k_70 k_106 pl_X12_clock ⟨Nat.le_of_ble_eq_true rfl, Nat.le_of_ble_eq_true rfl⟩ rfl rfl (va_recv hK hP (ci := 12) (q0 := 0) rfl rfl) hP hD hS [0, 1] [] rfl rfl rfl rfl rfl (by decide) rfl hl.1 rfl (Nat.le_of_ble_eq_true rfl) dX12_isMet_21 ⟨Nat.le_of_ble_eq_true rfl, Nat.le_of_ble_eq_true rfl⟩ (fun v_18 u_19 H locs hv_20 hP₀ hD₀ hS₀ => ?_)
    obtain ⟨r_21, rfl, he_22⟩ := hv_20
    have he_22 : ((0 ≤ r_21.toInt ∧ r_21.toInt < 10)) ∧ r_21 = (dX12_clock (Mf 10)) := he_22
    refine W.eq (g2 := F0 m 24 ls [.int r_21, .int 46, .ref (Ma 10)]) rfl ?_
    replace hP : va_P D classes [((Ma 0), .inr (12, [.ref (Ma 1), .int (Mv 0), .int (Mv 1), .ref (Ma 2), .ref (Ma 3), .ref (Ma 4), .ref (Ma 5), .ref (Ma 6), .int (Mv 2), .int (Mv 3), .int (Mv 4), .int (Mv 5), .int (Mv 6), .int (Mv 7), .int (Mv 8), .ref (Ma 7), .int (Mv 9), .ref (Ma 8), .int (Mv 10), .ref (Ma 9), .ref (Ma 10), .int (Mv 11), .int (Mv 12), .int (Mv 13), .ref (Ma 11), .int (Mv 14), .ref (Ma 12), .ref (Ma 13), .ref (Ma 14), .ref (Ma 15), .ref (Ma 16), .long (Mj 0), .ref (Ma 17), .ref (Ma 18), .ref (Ma 19), .ref (Ma 20)])), ((Ma 10), .inl (tc 0, 126, .inl (Mf 10)))] H := hP₀
    replace hD : va_D A [((Ma 0), .inr (12, [.ref (Ma 1), .int (Mv 0), .int (Mv 1), .ref (Ma 2), .ref (Ma 3), .ref (Ma 4), .ref (Ma 5), .ref (Ma 6), .int (Mv 2), .int (Mv 3), .int (Mv 4), .int (Mv 5), .int (Mv 6), .int (Mv 7), .int (Mv 8), .ref (Ma 7), .int (Mv 9), .ref (Ma 8), .int (Mv 10), .ref (Ma 9), .ref (Ma 10), .int (Mv 11), .int (Mv 12), .int (Mv 13), .ref (Ma 11), .int (Mv 14), .ref (Ma 12), .ref (Ma 13), .ref (Ma 14), .ref (Ma 15), .ref (Ma 16), .long (Mj 0), .ref (Ma 17), .ref (Ma 18), .ref (Ma 19), .ref (Ma 20)])), ((Ma 10), .inl (tc 0, 126, .inl (Mf 10)))] := hD₀
    replace hS := hS₀
    clear hP₀ hD₀ hS₀
    obtain ⟨he_22, hq_24⟩ := he_22
    have er_21 : r_21 = (dX12_clock (Mf 10)) := hq_24
    refine lv_iadd hx hb dX12_isMet_24 ?_
    refine lv_topi (fun x_25 ex_25 => ?_)
    have hi_26 : vp_in x_25 126 := by
      have z_1 := congrArg Int32.toInt c_15
      have y_0 : (0 : Int32).toInt = 0 := by decide
      have y_46 : (46 : Int32).toInt = 46 := by decide
      have t_x_25 : x_25.toInt = (46 : Int32).toInt + (r_21 : Int32).toInt := by rw [ex_25]; exact add_toInt (by omega) (by omega)
      refine vp_in_iff.mpr ⟨?_, ?_⟩ <;> omega
    refine va_iald hx hb hK hP 1 0 rfl rfl hi_26 dX12_isMet_25 ?_
    refine lv_topi (fun x_27 ex_27 => ?_)
    refine lv_iload_n hx hb dX12_isMet_26 rfl (lv_at hl 1 rfl) ?_
    refine cS (As := [.int x_27, .int x1]) (rest := []) (wr := [((Ma 0), .inr (12, [.ref (Ma 1), .int (Mv 0), .int (Mv 1), .ref (Ma 2), .ref (Ma 3), .ref (Ma 4), .ref (Ma 5), .ref (Ma 6), .int (Mv 2), .int (Mv 3), .int (Mv 4), .int (Mv 5), .int (Mv 6), .int (Mv 7), .int (Mv 8), .ref (Ma 7), .int (Mv 9), .ref (Ma 8), .int (Mv 10), .ref (Ma 9), .ref (Ma 10), .int (Mv 11), .int (Mv 12), .int (Mv 13), .ref (Ma 11), .int (Mv 14), .ref (Ma 12), .ref (Ma 13), .ref (Ma 14), .ref (Ma 15), .ref (Ma 16), .long (Mj 0), .ref (Ma 17), .ref (Ma 18), .ref (Ma 19), .ref (Ma 20)])), ((Ma 10), .inl (tc 0, 126, .inl (Mf 10)))]) ⟨hx, hb, hml, hown, hts⟩ hK hX hA (ct_dX12_isOf l D tc sk x_27 x1) k_1469 k_1467 k_1468 k_106 pl_X12_isOf ⟨Nat.le_of_ble_eq_true rfl, Nat.le_of_ble_eq_true rfl⟩ rfl rfl  hP hD hS [] [0, 1] rfl rfl rfl rfl rfl (by decide) rfl hl.1 rfl (Nat.le_of_ble_eq_true rfl) dX12_isMet_27 ⟨Nat.le_of_ble_eq_true rfl, Nat.le_of_ble_eq_true rfl⟩ (fun v_28 u_29 H locs hv_30 hP₀ hD₀ hS₀ => ?_)
    obtain ⟨r_31, rfl, he_32⟩ := hv_30
    have he_32 : ((r_31.toInt = 0 ∨ r_31.toInt = 1)) ∧ r_31 = (dX12_isOf x_27 x1) := he_32
    refine W.eq (g2 := F0 m 30 ls [.int r_31]) rfl ?_
    replace hP : va_P D classes [((Ma 0), .inr (12, [.ref (Ma 1), .int (Mv 0), .int (Mv 1), .ref (Ma 2), .ref (Ma 3), .ref (Ma 4), .ref (Ma 5), .ref (Ma 6), .int (Mv 2), .int (Mv 3), .int (Mv 4), .int (Mv 5), .int (Mv 6), .int (Mv 7), .int (Mv 8), .ref (Ma 7), .int (Mv 9), .ref (Ma 8), .int (Mv 10), .ref (Ma 9), .ref (Ma 10), .int (Mv 11), .int (Mv 12), .int (Mv 13), .ref (Ma 11), .int (Mv 14), .ref (Ma 12), .ref (Ma 13), .ref (Ma 14), .ref (Ma 15), .ref (Ma 16), .long (Mj 0), .ref (Ma 17), .ref (Ma 18), .ref (Ma 19), .ref (Ma 20)])), ((Ma 10), .inl (tc 0, 126, .inl (Mf 10)))] H := hP₀
    replace hD : va_D A [((Ma 0), .inr (12, [.ref (Ma 1), .int (Mv 0), .int (Mv 1), .ref (Ma 2), .ref (Ma 3), .ref (Ma 4), .ref (Ma 5), .ref (Ma 6), .int (Mv 2), .int (Mv 3), .int (Mv 4), .int (Mv 5), .int (Mv 6), .int (Mv 7), .int (Mv 8), .ref (Ma 7), .int (Mv 9), .ref (Ma 8), .int (Mv 10), .ref (Ma 9), .ref (Ma 10), .int (Mv 11), .int (Mv 12), .int (Mv 13), .ref (Ma 11), .int (Mv 14), .ref (Ma 12), .ref (Ma 13), .ref (Ma 14), .ref (Ma 15), .ref (Ma 16), .long (Mj 0), .ref (Ma 17), .ref (Ma 18), .ref (Ma 19), .ref (Ma 20)])), ((Ma 10), .inl (tc 0, 126, .inl (Mf 10)))] := hD₀
    replace hS := hS₀
    clear hP₀ hD₀ hS₀
    obtain ⟨he_32, hq_34⟩ := he_32
    have er_31 : r_31 = (dX12_isOf x_27 x1) := hq_34
    refine lv_if_eq (tgt := 37) hx hb dX12_isMet_30 (by decide) (fun c_35 => ?_) (fun c_35 => ?_)
    · skip
      refine lv_iconst (v := 0) hx hb dX12_isMet_37 (by decide) ?_
      have hp_36 : ((0 : Int32).toInt = 0 ∨ (0 : Int32).toInt = 1) := by
        have z_1 := congrArg Int32.toInt c_15
        have z_2 := congrArg Int32.toInt c_35
        have y_0 : (0 : Int32).toInt = 0 := by decide
        omega
      have hF_37 : (0 : Int32) = (dX12_isMet (Mf 10) (Mv 13) x1) := by
        clear hP hD hS hl
        replace er_4 := er_4.symm; subst er_4
        replace er_11 := er_11.symm; subst er_11
        replace er_21 := er_21.symm; subst er_21
        replace ex_25 := ex_25.symm; subst ex_25
        replace ex_27 := ex_27.symm; subst ex_27
        replace er_31 := er_31.symm; subst er_31
        unfold dX12_isMet
        rw [if_pos c_15, if_pos c_35]
        try rfl
      exact retI (v := 0) hx hb hr hlk (rfl) hP hD hS () ⟨_, rfl, ⟨hp_36, hF_37⟩⟩ [0, 1] rfl rfl dX12_isMet_38 (Nat.le_of_ble_eq_true rfl) (Nat.le_of_ble_eq_true rfl) rfl
    · skip
      refine lv_iconst (v := 1) hx hb dX12_isMet_33 (by decide) ?_
      refine lv_goto (tgt := 38) hx hb dX12_isMet_34 (by decide) ?_
      have hp_38 : ((1 : Int32).toInt = 0 ∨ (1 : Int32).toInt = 1) := by
        have z_1 := congrArg Int32.toInt c_15
        have z_2 : ¬ (r_31 : Int32).toInt = (0 : Int32).toInt := fun z => c_35 (Int32.toInt_inj.mp z)
        have y_0 : (0 : Int32).toInt = 0 := by decide
        have y_1 : (1 : Int32).toInt = 1 := by decide
        have yr : (1 : Int32).toInt = 1 := by decide
        omega
      have hF_39 : (1 : Int32) = (dX12_isMet (Mf 10) (Mv 13) x1) := by
        clear hP hD hS hl
        replace er_4 := er_4.symm; subst er_4
        replace er_11 := er_11.symm; subst er_11
        replace er_21 := er_21.symm; subst er_21
        replace ex_25 := ex_25.symm; subst ex_25
        replace ex_27 := ex_27.symm; subst ex_27
        replace er_31 := er_31.symm; subst er_31
        unfold dX12_isMet
        rw [if_pos c_15, if_neg c_35]
        try rfl
      exact retI (v := 1) hx hb hr hlk (rfl) hP hD hS () ⟨_, rfl, ⟨hp_38, hF_39⟩⟩ [0, 1] rfl rfl dX12_isMet_38 (Nat.le_of_ble_eq_true rfl) (Nat.le_of_ble_eq_true rfl) rfl
set_option maxRecDepth 100000 in
theorem cu_dX12_isMet {T : Nat → Option Int32} (l : Launch) (D : va_G) (tc : Nat → ClassId) (sk : (Nat → Nat) × (Nat → Nat)) (Ma_0 : Nat) (Ma_1 : Nat) (Ma_2 : Nat) (Ma_3 : Nat) (Ma_4 : Nat) (Ma_5 : Nat) (Ma_6 : Nat) (Ma_7 : Nat) (Ma_8 : Nat) (Ma_9 : Nat) (Ma_10 : Nat) (Ma_11 : Nat) (Ma_12 : Nat) (Ma_13 : Nat) (Ma_14 : Nat) (Ma_15 : Nat) (Ma_16 : Nat) (Ma_17 : Nat) (Ma_18 : Nat) (Ma_19 : Nat) (Ma_20 : Nat) (Mv_0 : Int32) (Mv_1 : Int32) (Mv_2 : Int32) (Mv_3 : Int32) (Mv_4 : Int32) (Mv_5 : Int32) (Mv_6 : Int32) (Mv_7 : Int32) (Mv_8 : Int32) (Mv_9 : Int32) (Mv_10 : Int32) (Mv_11 : Int32) (Mv_12 : Int32) (Mv_13 : Int32) (Mv_14 : Int32) (Mf_10 : Nat → Int32) (Mj_0 : Int64) (x1 : Int32) (d : Int) (h_b : 0 ≤ x1.toInt ∧ x1.toInt < 6) (h_said : SaidD T Mf_10 d) : Ct l yX12_isMet cX12_isMet 2 (some .boolean) { frames := 2, cells := 0, slots := 0, locals := 40 } D tc sk [.ref Ma_0, .int x1] [(Ma_0, .inr (12, [.ref Ma_1, .int Mv_0, .int Mv_1, .ref Ma_2, .ref Ma_3, .ref Ma_4, .ref Ma_5, .ref Ma_6, .int Mv_2, .int Mv_3, .int Mv_4, .int Mv_5, .int Mv_6, .int Mv_7, .int Mv_8, .ref Ma_7, .int Mv_9, .ref Ma_8, .int Mv_10, .ref Ma_9, .ref Ma_10, .int Mv_11, .int Mv_12, .int Mv_13, .ref Ma_11, .int Mv_14, .ref Ma_12, .ref Ma_13, .ref Ma_14, .ref Ma_15, .ref Ma_16, .long Mj_0, .ref Ma_17, .ref Ma_18, .ref Ma_19, .ref Ma_20])), (Ma_10, .inl (tc 0, 126, .inl Mf_10))] (fun (v : Option Value) (_ : Unit) => ∃ r : Int32, v = some (.int r) ∧ (((r.toInt = 0 ∨ r.toInt = 1)) ∧ r = (dX12_isMet Mf_10 Mv_13 x1))) (fun (_ : Unit) => [(Ma_0, .inr (12, [.ref Ma_1, .int Mv_0, .int Mv_1, .ref Ma_2, .ref Ma_3, .ref Ma_4, .ref Ma_5, .ref Ma_6, .int Mv_2, .int Mv_3, .int Mv_4, .int Mv_5, .int Mv_6, .int Mv_7, .int Mv_8, .ref Ma_7, .int Mv_9, .ref Ma_8, .int Mv_10, .ref Ma_9, .ref Ma_10, .int Mv_11, .int Mv_12, .int Mv_13, .ref Ma_11, .int Mv_14, .ref Ma_12, .ref Ma_13, .ref Ma_14, .ref Ma_15, .ref Ma_16, .long Mj_0, .ref Ma_17, .ref Ma_18, .ref Ma_19, .ref Ma_20])), (Ma_10, .inl (tc 0, 126, .inl Mf_10))]) 0 0 :=
  ct_dX12_isMet l D tc sk (fun k => ([Ma_0, Ma_1, Ma_2, Ma_3, Ma_4, Ma_5, Ma_6, Ma_7, Ma_8, Ma_9, Ma_10, Ma_11, Ma_12, Ma_13, Ma_14, Ma_15, Ma_16, Ma_17, Ma_18, Ma_19, Ma_20] : List (Nat)).getD k 0) (fun k => ([Mv_0, Mv_1, Mv_2, Mv_3, Mv_4, Mv_5, Mv_6, Mv_7, Mv_8, Mv_9, Mv_10, Mv_11, Mv_12, Mv_13, Mv_14] : List (Int32)).getD k 0) (fun k => ([(fun _ => 0), (fun _ => 0), (fun _ => 0), (fun _ => 0), (fun _ => 0), (fun _ => 0), (fun _ => 0), (fun _ => 0), (fun _ => 0), (fun _ => 0), Mf_10] : List (Nat → Int32)).getD k (fun _ => 0)) (fun k => ([Mj_0] : List (Int64)).getD k 0) x1 d h_b h_said
def dX12_comes (Mf_10 : Nat → Int32) (Mv_13 : Int32) (x1 : Int32) : Int32 × (Nat → Int32) := (if (dX12_isMet Mf_10 Mv_13 x1) = (0 : Int32) then ((1 : Int32), (dX12_takes Mf_10 x1)) else ((0 : Int32), (upd (upd Mf_10 ((((12 : Int32) + ((4 : Int32) * x1)) + (2 : Int32))).toNatClampNeg ((Mf_10 ((((12 : Int32) + ((4 : Int32) * x1)) + (2 : Int32))).toNatClampNeg) + (1 : Int32))) ((((12 : Int32) + ((4 : Int32) * x1)) + (3 : Int32))).toNatClampNeg ((upd Mf_10 ((((12 : Int32) + ((4 : Int32) * x1)) + (2 : Int32))).toNatClampNeg ((Mf_10 ((((12 : Int32) + ((4 : Int32) * x1)) + (2 : Int32))).toNatClampNeg) + (1 : Int32))) ((10 : Int32)).toNatClampNeg))))
set_option maxHeartbeats 4000000 in
set_option maxRecDepth 100000 in
theorem ct_dX12_comes {T : Nat → Option Int32} (l : Launch) (D : va_G) (tc : Nat → ClassId) (sk : (Nat → Nat) × (Nat → Nat)) (Ma : Nat → Nat) (Mv : Nat → Int32) (Mf : Nat → Nat → Int32) (Mj : Nat → Int64) (x1 : Int32) (d : Int) (h_b : 0 ≤ x1.toInt ∧ x1.toInt < 6) (h_said : SaidD T (Mf 10) d) : Ct l yX12_comes cX12_comes 2 (some .boolean) { frames := 3, cells := 0, slots := 0, locals := 61 } D tc sk [.ref (Ma 0), .int x1] [((Ma 0), .inr (12, [.ref (Ma 1), .int (Mv 0), .int (Mv 1), .ref (Ma 2), .ref (Ma 3), .ref (Ma 4), .ref (Ma 5), .ref (Ma 6), .int (Mv 2), .int (Mv 3), .int (Mv 4), .int (Mv 5), .int (Mv 6), .int (Mv 7), .int (Mv 8), .ref (Ma 7), .int (Mv 9), .ref (Ma 8), .int (Mv 10), .ref (Ma 9), .ref (Ma 10), .int (Mv 11), .int (Mv 12), .int (Mv 13), .ref (Ma 11), .int (Mv 14), .ref (Ma 12), .ref (Ma 13), .ref (Ma 14), .ref (Ma 15), .ref (Ma 16), .long (Mj 0), .ref (Ma 17), .ref (Ma 18), .ref (Ma 19), .ref (Ma 20)])), ((Ma 10), .inl (tc 0, 126, .inl (Mf 10)))] (fun (v : Option Value) (oo0x1 : Nat → Int32) => ∃ r : Int32, v = some (.int r) ∧ (((r.toInt = 0 ∨ r.toInt = 1)) ∧ (r, oo0x1) = (dX12_comes (Mf 10) (Mv 13) x1)) ∧ (SaidD T oo0x1 d)) (fun (oo0x1 : Nat → Int32) => [((Ma 0), .inr (12, [.ref (Ma 1), .int (Mv 0), .int (Mv 1), .ref (Ma 2), .ref (Ma 3), .ref (Ma 4), .ref (Ma 5), .ref (Ma 6), .int (Mv 2), .int (Mv 3), .int (Mv 4), .int (Mv 5), .int (Mv 6), .int (Mv 7), .int (Mv 8), .ref (Ma 7), .int (Mv 9), .ref (Ma 8), .int (Mv 10), .ref (Ma 9), .ref (Ma 10), .int (Mv 11), .int (Mv 12), .int (Mv 13), .ref (Ma 11), .int (Mv 14), .ref (Ma 12), .ref (Ma 13), .ref (Ma 14), .ref (Ma 15), .ref (Ma 16), .long (Mj 0), .ref (Ma 17), .ref (Ma 18), .ref (Ma 19), .ref (Ma 20)])), ((Ma 10), .inl (tc 0, 126, .inl oo0x1))]) 0 0 := by
  refine Ct.start (by decide) (Nat.le_of_ble_eq_true rfl) (fun p e s m below meth c A ls hx hb hr hlk hin hml hown hts hK hX hP hD hA hl hS => ?_)
  have hl : lv_has ls 2 [(0, .ref (Ma 0)), (1, .int x1)] := hl
  have ar_h_said := SaidD.ar h_said
  refine lv_aload_n hx hb dX12_comes_0 rfl (lv_at hl 0 rfl) ?_
  refine lv_iload_n hx hb dX12_comes_1 rfl (lv_at hl 1 rfl) ?_
  refine cV (a := (Ma 0)) (As := [.int x1]) (rest := []) (wr := []) ⟨hx, hb, hml, hown, hts⟩ hK hX hA (cu_dX12_isMet l D tc sk (Ma 0) (Ma 1) (Ma 2) (Ma 3) (Ma 4) (Ma 5) (Ma 6) (Ma 7) (Ma 8) (Ma 9) (Ma 10) (Ma 11) (Ma 12) (Ma 13) (Ma 14) (Ma 15) (Ma 16) (Ma 17) (Ma 18) (Ma 19) (Ma 20) (Mv 0) (Mv 1) (Mv 2) (Mv 3) (Mv 4) (Mv 5) (Mv 6) (Mv 7) (Mv 8) (Mv 9) (Mv 10) (Mv 11) (Mv 12) (Mv 13) (Mv 14) (Mf 10) (Mj 0) x1 d h_b h_said) k_1466 k_1463 k_1465 k_77 k_106 pl_X12_isMet ⟨Nat.le_of_ble_eq_true rfl, Nat.le_of_ble_eq_true rfl⟩ rfl rfl (va_recv hK hP (ci := 12) (q0 := 0) rfl rfl) hP hD hS [0, 1] [] rfl rfl rfl rfl rfl (by decide) rfl hl.1 rfl (Nat.le_of_ble_eq_true rfl) dX12_comes_2 ⟨Nat.le_of_ble_eq_true rfl, Nat.le_of_ble_eq_true rfl⟩ (fun v_1 u_2 H locs hv_3 hP₀ hD₀ hS₀ => ?_)
  obtain ⟨r_4, rfl, he_5⟩ := hv_3
  have he_5 : ((r_4.toInt = 0 ∨ r_4.toInt = 1)) ∧ r_4 = (dX12_isMet (Mf 10) (Mv 13) x1) := he_5
  refine W.eq (g2 := F0 m 5 ls [.int r_4]) rfl ?_
  replace hP : va_P D classes [((Ma 0), .inr (12, [.ref (Ma 1), .int (Mv 0), .int (Mv 1), .ref (Ma 2), .ref (Ma 3), .ref (Ma 4), .ref (Ma 5), .ref (Ma 6), .int (Mv 2), .int (Mv 3), .int (Mv 4), .int (Mv 5), .int (Mv 6), .int (Mv 7), .int (Mv 8), .ref (Ma 7), .int (Mv 9), .ref (Ma 8), .int (Mv 10), .ref (Ma 9), .ref (Ma 10), .int (Mv 11), .int (Mv 12), .int (Mv 13), .ref (Ma 11), .int (Mv 14), .ref (Ma 12), .ref (Ma 13), .ref (Ma 14), .ref (Ma 15), .ref (Ma 16), .long (Mj 0), .ref (Ma 17), .ref (Ma 18), .ref (Ma 19), .ref (Ma 20)])), ((Ma 10), .inl (tc 0, 126, .inl (Mf 10)))] H := hP₀
  replace hD : va_D A [((Ma 0), .inr (12, [.ref (Ma 1), .int (Mv 0), .int (Mv 1), .ref (Ma 2), .ref (Ma 3), .ref (Ma 4), .ref (Ma 5), .ref (Ma 6), .int (Mv 2), .int (Mv 3), .int (Mv 4), .int (Mv 5), .int (Mv 6), .int (Mv 7), .int (Mv 8), .ref (Ma 7), .int (Mv 9), .ref (Ma 8), .int (Mv 10), .ref (Ma 9), .ref (Ma 10), .int (Mv 11), .int (Mv 12), .int (Mv 13), .ref (Ma 11), .int (Mv 14), .ref (Ma 12), .ref (Ma 13), .ref (Ma 14), .ref (Ma 15), .ref (Ma 16), .long (Mj 0), .ref (Ma 17), .ref (Ma 18), .ref (Ma 19), .ref (Ma 20)])), ((Ma 10), .inl (tc 0, 126, .inl (Mf 10)))] := hD₀
  replace hS := hS₀
  clear hP₀ hD₀ hS₀
  obtain ⟨he_5, hq_7⟩ := he_5
  have er_4 : r_4 = (dX12_isMet (Mf 10) (Mv 13) x1) := hq_7
  refine lv_if_eq (tgt := 47) hx hb dX12_comes_5 (by decide) (fun c_8 => ?_) (fun c_8 => ?_)
  · skip
    refine lv_aload_n hx hb dX12_comes_47 rfl (lv_at hl 0 rfl) ?_
    refine lv_iload_n hx hb dX12_comes_48 rfl (lv_at hl 1 rfl) ?_
    refine cV (a := (Ma 0)) (As := [.int x1]) (rest := []) (wr := []) ⟨hx, hb, hml, hown, hts⟩ hK hX hA (cu_dX12_takes l D tc sk (Ma 0) (Ma 1) (Ma 2) (Ma 3) (Ma 4) (Ma 5) (Ma 6) (Ma 7) (Ma 8) (Ma 9) (Ma 10) (Ma 11) (Ma 12) (Ma 13) (Ma 14) (Ma 15) (Ma 16) (Ma 17) (Ma 18) (Ma 19) (Ma 20) (Mv 0) (Mv 1) (Mv 2) (Mv 3) (Mv 4) (Mv 5) (Mv 6) (Mv 7) (Mv 8) (Mv 9) (Mv 10) (Mv 11) (Mv 12) (Mv 13) (Mv 14) (Mf 10) (Mj 0) x1 d h_b h_said) k_1473 k_1470 k_1472 k_78 k_106 pl_X12_takes ⟨Nat.le_of_ble_eq_true rfl, Nat.le_of_ble_eq_true rfl⟩ rfl rfl (va_recv hK hP (ci := 12) (q0 := 0) rfl rfl) hP hD hS [0, 1] [] rfl rfl rfl rfl rfl (by decide) rfl hl.1 rfl (Nat.le_of_ble_eq_true rfl) dX12_comes_49 ⟨Nat.le_of_ble_eq_true rfl, Nat.le_of_ble_eq_true rfl⟩ (fun v_9 u_10 H locs hv_11 hP₀ hD₀ hS₀ => ?_)
    obtain ⟨sv_12, rfl⟩ : ∃ z, z = u_10 := ⟨_, rfl⟩
    obtain ⟨rfl, pf_13, pf_14⟩ := hv_11
    have pf_13 : SaidD T sv_12 d := pf_13
    have ar_pf_13 := SaidD.ar pf_13
    have pf_14 : DEq (sv_12) (dX12_takes (Mf 10) x1) := pf_14
    refine W.eq (g2 := F0 m 52 ls []) rfl ?_
    replace hP : va_P D classes [((Ma 0), .inr (12, [.ref (Ma 1), .int (Mv 0), .int (Mv 1), .ref (Ma 2), .ref (Ma 3), .ref (Ma 4), .ref (Ma 5), .ref (Ma 6), .int (Mv 2), .int (Mv 3), .int (Mv 4), .int (Mv 5), .int (Mv 6), .int (Mv 7), .int (Mv 8), .ref (Ma 7), .int (Mv 9), .ref (Ma 8), .int (Mv 10), .ref (Ma 9), .ref (Ma 10), .int (Mv 11), .int (Mv 12), .int (Mv 13), .ref (Ma 11), .int (Mv 14), .ref (Ma 12), .ref (Ma 13), .ref (Ma 14), .ref (Ma 15), .ref (Ma 16), .long (Mj 0), .ref (Ma 17), .ref (Ma 18), .ref (Ma 19), .ref (Ma 20)])), ((Ma 10), .inl (tc 0, 126, .inl sv_12))] H := hP₀
    replace hD : va_D A [((Ma 0), .inr (12, [.ref (Ma 1), .int (Mv 0), .int (Mv 1), .ref (Ma 2), .ref (Ma 3), .ref (Ma 4), .ref (Ma 5), .ref (Ma 6), .int (Mv 2), .int (Mv 3), .int (Mv 4), .int (Mv 5), .int (Mv 6), .int (Mv 7), .int (Mv 8), .ref (Ma 7), .int (Mv 9), .ref (Ma 8), .int (Mv 10), .ref (Ma 9), .ref (Ma 10), .int (Mv 11), .int (Mv 12), .int (Mv 13), .ref (Ma 11), .int (Mv 14), .ref (Ma 12), .ref (Ma 13), .ref (Ma 14), .ref (Ma 15), .ref (Ma 16), .long (Mj 0), .ref (Ma 17), .ref (Ma 18), .ref (Ma 19), .ref (Ma 20)])), ((Ma 10), .inl (tc 0, 126, .inl sv_12))] := hD₀
    replace hS := hS₀
    clear hP₀ hD₀ hS₀
    have esv_12 : sv_12 = (dX12_takes (Mf 10) x1) := pf_14
    refine lv_iconst (v := 1) hx hb dX12_comes_52 (by decide) ?_
    have hp_15 : ((1 : Int32).toInt = 0 ∨ (1 : Int32).toInt = 1) := by
      have z_1 := congrArg Int32.toInt c_8
      have y_0 : (0 : Int32).toInt = 0 := by decide
      have y_1 : (1 : Int32).toInt = 1 := by decide
      have yr : (1 : Int32).toInt = 1 := by decide
      omega
    have hF_16 : ((1 : Int32), sv_12) = (dX12_comes (Mf 10) (Mv 13) x1) := by
      clear hP hD hS hl
      replace er_4 := er_4.symm; subst er_4
      replace esv_12 := esv_12.symm; subst esv_12
      unfold dX12_comes
      rw [if_pos c_8]
      try rfl
    exact retI (v := 1) hx hb hr hlk (rfl) hP hD hS sv_12 ⟨_, rfl, ⟨hp_15, hF_16⟩, pf_13⟩ [0, 1] rfl rfl dX12_comes_53 (Nat.le_of_ble_eq_true rfl) (Nat.le_of_ble_eq_true rfl) rfl
  · skip
    refine lv_aload_n hx hb dX12_comes_8 rfl (lv_at hl 0 rfl) ?_
    refine gf_X12_39 hx hb hts hown hK hP 0 rfl rfl dX12_comes_9 ?_
    refine lv_bipush (v := 12) hx hb dX12_comes_12 (by decide) ?_
    refine lv_iconst (v := 4) hx hb dX12_comes_14 (by decide) ?_
    refine lv_iload_n hx hb dX12_comes_15 rfl (lv_at hl 1 rfl) ?_
    refine lv_imul hx hb dX12_comes_16 ?_
    refine lv_topi (fun x_17 ex_17 => ?_)
    refine lv_iadd hx hb dX12_comes_17 ?_
    refine lv_topi (fun x_18 ex_18 => ?_)
    refine lv_iconst (v := 2) hx hb dX12_comes_18 (by decide) ?_
    refine lv_iadd hx hb dX12_comes_19 ?_
    refine lv_topi (fun x_19 ex_19 => ?_)
    refine lv_dup2_11 hx hb dX12_comes_20 rfl rfl ?_
    have hi_20 : vp_in x_19 126 := by
      have z_1 : ¬ (r_4 : Int32).toInt = (0 : Int32).toInt := fun z => c_8 (Int32.toInt_inj.mp z)
      have y_0 : (0 : Int32).toInt = 0 := by decide
      have y_2 : (2 : Int32).toInt = 2 := by decide
      have y_4 : (4 : Int32).toInt = 4 := by decide
      have y_12 : (12 : Int32).toInt = 12 := by decide
      have t_x_17 : x_17.toInt = (4 : Int32).toInt * (x1 : Int32).toInt := by rw [ex_17]; exact mul_toInt (by first | omega | (rw [y_4]; omega)) (by first | omega | (rw [y_4]; omega))
      rw [y_4] at t_x_17
      have t_x_18 : x_18.toInt = (12 : Int32).toInt + (x_17 : Int32).toInt := by rw [ex_18]; exact add_toInt (by omega) (by omega)
      have t_x_19 : x_19.toInt = (x_18 : Int32).toInt + (2 : Int32).toInt := by rw [ex_19]; exact add_toInt (by omega) (by omega)
      refine vp_in_iff.mpr ⟨?_, ?_⟩ <;> omega
    refine va_iald hx hb hK hP 1 0 rfl rfl hi_20 dX12_comes_21 ?_
    refine lv_topi (fun x_21 ex_21 => ?_)
    refine lv_iconst (v := 1) hx hb dX12_comes_22 (by decide) ?_
    refine lv_iadd hx hb dX12_comes_23 ?_
    refine lv_topi (fun x_22 ex_22 => ?_)
    have hi_23 : vp_in x_19 126 := by
      have z_1 : ¬ (r_4 : Int32).toInt = (0 : Int32).toInt := fun z => c_8 (Int32.toInt_inj.mp z)
      have y_0 : (0 : Int32).toInt = 0 := by decide
      have y_2 : (2 : Int32).toInt = 2 := by decide
      have y_4 : (4 : Int32).toInt = 4 := by decide
      have y_12 : (12 : Int32).toInt = 12 := by decide
      have t_x_17 : x_17.toInt = (4 : Int32).toInt * (x1 : Int32).toInt := by rw [ex_17]; exact mul_toInt (by first | omega | (rw [y_4]; omega)) (by first | omega | (rw [y_4]; omega))
      rw [y_4] at t_x_17
      have t_x_18 : x_18.toInt = (12 : Int32).toInt + (x_17 : Int32).toInt := by rw [ex_18]; exact add_toInt (by omega) (by omega)
      have t_x_19 : x_19.toInt = (x_18 : Int32).toInt + (2 : Int32).toInt := by rw [ex_19]; exact add_toInt (by omega) (by omega)
      refine vp_in_iff.mpr ⟨?_, ?_⟩ <;> omega
    refine st_int hx hb hK hP hD hS 1 0 rfl rfl hi_23 dX12_comes_24 (fun g_24 H locs eg_24 hP₀ hD₀ hS₀ => ?_)
    replace hP : va_P D classes [((Ma 0), .inr (12, [.ref (Ma 1), .int (Mv 0), .int (Mv 1), .ref (Ma 2), .ref (Ma 3), .ref (Ma 4), .ref (Ma 5), .ref (Ma 6), .int (Mv 2), .int (Mv 3), .int (Mv 4), .int (Mv 5), .int (Mv 6), .int (Mv 7), .int (Mv 8), .ref (Ma 7), .int (Mv 9), .ref (Ma 8), .int (Mv 10), .ref (Ma 9), .ref (Ma 10), .int (Mv 11), .int (Mv 12), .int (Mv 13), .ref (Ma 11), .int (Mv 14), .ref (Ma 12), .ref (Ma 13), .ref (Ma 14), .ref (Ma 15), .ref (Ma 16), .long (Mj 0), .ref (Ma 17), .ref (Ma 18), .ref (Ma 19), .ref (Ma 20)])), ((Ma 10), .inl (tc 0, 126, .inl g_24))] H := hP₀
    replace hD : va_D A [((Ma 0), .inr (12, [.ref (Ma 1), .int (Mv 0), .int (Mv 1), .ref (Ma 2), .ref (Ma 3), .ref (Ma 4), .ref (Ma 5), .ref (Ma 6), .int (Mv 2), .int (Mv 3), .int (Mv 4), .int (Mv 5), .int (Mv 6), .int (Mv 7), .int (Mv 8), .ref (Ma 7), .int (Mv 9), .ref (Ma 8), .int (Mv 10), .ref (Ma 9), .ref (Ma 10), .int (Mv 11), .int (Mv 12), .int (Mv 13), .ref (Ma 11), .int (Mv 14), .ref (Ma 12), .ref (Ma 13), .ref (Ma 14), .ref (Ma 15), .ref (Ma 16), .long (Mj 0), .ref (Ma 17), .ref (Ma 18), .ref (Ma 19), .ref (Ma 20)])), ((Ma 10), .inl (tc 0, 126, .inl g_24))] := hD₀
    replace hS := hS₀
    clear hP₀ hD₀ hS₀
    have hx_26 : 11 ≤ (x_19 : Int32).toNatClampNeg ∧ (x_19 : Int32).toNatClampNeg < 56 := by
      have z_1 : ¬ (r_4 : Int32).toInt = (0 : Int32).toInt := fun z => c_8 (Int32.toInt_inj.mp z)
      have y_0 : (0 : Int32).toInt = 0 := by decide
      have y_2 : (2 : Int32).toInt = 2 := by decide
      have y_4 : (4 : Int32).toInt = 4 := by decide
      have y_12 : (12 : Int32).toInt = 12 := by decide
      have t_x_17 : x_17.toInt = (4 : Int32).toInt * (x1 : Int32).toInt := by rw [ex_17]; exact mul_toInt (by first | omega | (rw [y_4]; omega)) (by first | omega | (rw [y_4]; omega))
      rw [y_4] at t_x_17
      have t_x_18 : x_18.toInt = (12 : Int32).toInt + (x_17 : Int32).toInt := by rw [ex_18]; exact add_toInt (by omega) (by omega)
      have t_x_19 : x_19.toInt = (x_18 : Int32).toInt + (2 : Int32).toInt := by rw [ex_19]; exact add_toInt (by omega) (by omega)
      have hcl : (x_19 : Int32).toNatClampNeg = (x_19 : Int32).toInt.toNat := rfl
      omega
    have pf_25 : SaidD T g_24 d := SaidD.keep h_said eg_24 hx_26
    have ar_pf_25 := SaidD.ar pf_25
    refine lv_aload_n hx hb dX12_comes_25 rfl (lv_at hl 0 rfl) ?_
    refine gf_X12_39 hx hb hts hown hK hP 0 rfl rfl dX12_comes_26 ?_
    refine lv_bipush (v := 12) hx hb dX12_comes_29 (by decide) ?_
    refine lv_iconst (v := 4) hx hb dX12_comes_31 (by decide) ?_
    refine lv_iload_n hx hb dX12_comes_32 rfl (lv_at hl 1 rfl) ?_
    refine lv_imul hx hb dX12_comes_33 ?_
    refine lv_topi (fun x_27 ex_27 => ?_)
    refine lv_iadd hx hb dX12_comes_34 ?_
    refine lv_topi (fun x_28 ex_28 => ?_)
    refine lv_iconst (v := 3) hx hb dX12_comes_35 (by decide) ?_
    refine lv_iadd hx hb dX12_comes_36 ?_
    refine lv_topi (fun x_29 ex_29 => ?_)
    refine lv_aload_n hx hb dX12_comes_37 rfl (lv_at hl 0 rfl) ?_
    refine gf_X12_39 hx hb hts hown hK hP 0 rfl rfl dX12_comes_38 ?_
    refine lv_bipush (v := 10) hx hb dX12_comes_41 (by decide) ?_
    refine va_iald hx hb hK hP 1 0 rfl rfl (vin_dec (by decide +kernel)) dX12_comes_43 ?_
    refine lv_topi (fun x_30 ex_30 => ?_)
    have lx_30 : x_30.toInt = (g_24 10).toInt := congrArg Int32.toInt ex_30
    have hi_31 : vp_in x_29 126 := by
      have z_1 : ¬ (r_4 : Int32).toInt = (0 : Int32).toInt := fun z => c_8 (Int32.toInt_inj.mp z)
      have y_0 : (0 : Int32).toInt = 0 := by decide
      have y_3 : (3 : Int32).toInt = 3 := by decide
      have y_4 : (4 : Int32).toInt = 4 := by decide
      have y_12 : (12 : Int32).toInt = 12 := by decide
      have t_x_27 : x_27.toInt = (4 : Int32).toInt * (x1 : Int32).toInt := by rw [ex_27]; exact mul_toInt (by first | omega | (rw [y_4]; omega)) (by first | omega | (rw [y_4]; omega))
      rw [y_4] at t_x_27
      have t_x_28 : x_28.toInt = (12 : Int32).toInt + (x_27 : Int32).toInt := by rw [ex_28]; exact add_toInt (by omega) (by omega)
      have t_x_29 : x_29.toInt = (x_28 : Int32).toInt + (3 : Int32).toInt := by rw [ex_29]; exact add_toInt (by omega) (by omega)
      refine vp_in_iff.mpr ⟨?_, ?_⟩ <;> omega
    refine st_int hx hb hK hP hD hS 1 0 rfl rfl hi_31 dX12_comes_44 (fun g_32 H locs eg_32 hP₀ hD₀ hS₀ => ?_)
    replace hP : va_P D classes [((Ma 0), .inr (12, [.ref (Ma 1), .int (Mv 0), .int (Mv 1), .ref (Ma 2), .ref (Ma 3), .ref (Ma 4), .ref (Ma 5), .ref (Ma 6), .int (Mv 2), .int (Mv 3), .int (Mv 4), .int (Mv 5), .int (Mv 6), .int (Mv 7), .int (Mv 8), .ref (Ma 7), .int (Mv 9), .ref (Ma 8), .int (Mv 10), .ref (Ma 9), .ref (Ma 10), .int (Mv 11), .int (Mv 12), .int (Mv 13), .ref (Ma 11), .int (Mv 14), .ref (Ma 12), .ref (Ma 13), .ref (Ma 14), .ref (Ma 15), .ref (Ma 16), .long (Mj 0), .ref (Ma 17), .ref (Ma 18), .ref (Ma 19), .ref (Ma 20)])), ((Ma 10), .inl (tc 0, 126, .inl g_32))] H := hP₀
    replace hD : va_D A [((Ma 0), .inr (12, [.ref (Ma 1), .int (Mv 0), .int (Mv 1), .ref (Ma 2), .ref (Ma 3), .ref (Ma 4), .ref (Ma 5), .ref (Ma 6), .int (Mv 2), .int (Mv 3), .int (Mv 4), .int (Mv 5), .int (Mv 6), .int (Mv 7), .int (Mv 8), .ref (Ma 7), .int (Mv 9), .ref (Ma 8), .int (Mv 10), .ref (Ma 9), .ref (Ma 10), .int (Mv 11), .int (Mv 12), .int (Mv 13), .ref (Ma 11), .int (Mv 14), .ref (Ma 12), .ref (Ma 13), .ref (Ma 14), .ref (Ma 15), .ref (Ma 16), .long (Mj 0), .ref (Ma 17), .ref (Ma 18), .ref (Ma 19), .ref (Ma 20)])), ((Ma 10), .inl (tc 0, 126, .inl g_32))] := hD₀
    replace hS := hS₀
    clear hP₀ hD₀ hS₀
    have hx_34 : 11 ≤ (x_29 : Int32).toNatClampNeg ∧ (x_29 : Int32).toNatClampNeg < 56 := by
      have z_1 : ¬ (r_4 : Int32).toInt = (0 : Int32).toInt := fun z => c_8 (Int32.toInt_inj.mp z)
      have y_0 : (0 : Int32).toInt = 0 := by decide
      have y_3 : (3 : Int32).toInt = 3 := by decide
      have y_4 : (4 : Int32).toInt = 4 := by decide
      have y_12 : (12 : Int32).toInt = 12 := by decide
      have t_x_27 : x_27.toInt = (4 : Int32).toInt * (x1 : Int32).toInt := by rw [ex_27]; exact mul_toInt (by first | omega | (rw [y_4]; omega)) (by first | omega | (rw [y_4]; omega))
      rw [y_4] at t_x_27
      have t_x_28 : x_28.toInt = (12 : Int32).toInt + (x_27 : Int32).toInt := by rw [ex_28]; exact add_toInt (by omega) (by omega)
      have t_x_29 : x_29.toInt = (x_28 : Int32).toInt + (3 : Int32).toInt := by rw [ex_29]; exact add_toInt (by omega) (by omega)
      have hcl : (x_29 : Int32).toNatClampNeg = (x_29 : Int32).toInt.toNat := rfl
      omega
    have pf_33 : SaidD T g_32 d := SaidD.keep pf_25 eg_32 hx_34
    have ar_pf_33 := SaidD.ar pf_33
    refine lv_iconst (v := 0) hx hb dX12_comes_45 (by decide) ?_
    have hp_35 : ((0 : Int32).toInt = 0 ∨ (0 : Int32).toInt = 1) := by
      have z_1 : ¬ (r_4 : Int32).toInt = (0 : Int32).toInt := fun z => c_8 (Int32.toInt_inj.mp z)
      have y_0 : (0 : Int32).toInt = 0 := by decide
      omega
    have hF_36 : ((0 : Int32), g_32) = (dX12_comes (Mf 10) (Mv 13) x1) := by
      clear hP hD hS hl
      replace er_4 := er_4.symm; subst er_4
      replace ex_17 := ex_17.symm; subst ex_17
      replace ex_18 := ex_18.symm; subst ex_18
      replace ex_19 := ex_19.symm; subst ex_19
      replace ex_21 := ex_21.symm; subst ex_21
      replace ex_22 := ex_22.symm; subst ex_22
      replace eg_24 := eg_24.symm; subst eg_24
      replace ex_27 := ex_27.symm; subst ex_27
      replace ex_28 := ex_28.symm; subst ex_28
      replace ex_29 := ex_29.symm; subst ex_29
      replace ex_30 := ex_30.symm; subst ex_30
      replace eg_32 := eg_32.symm; subst eg_32
      unfold dX12_comes
      rw [if_neg c_8]
      try rfl
    exact retI (v := 0) hx hb hr hlk (rfl) hP hD hS g_32 ⟨_, rfl, ⟨hp_35, hF_36⟩, pf_33⟩ [0, 1] rfl rfl dX12_comes_46 (Nat.le_of_ble_eq_true rfl) (Nat.le_of_ble_eq_true rfl) rfl
set_option maxRecDepth 100000 in
theorem cu_dX12_comes {T : Nat → Option Int32} (l : Launch) (D : va_G) (tc : Nat → ClassId) (sk : (Nat → Nat) × (Nat → Nat)) (Ma_0 : Nat) (Ma_1 : Nat) (Ma_2 : Nat) (Ma_3 : Nat) (Ma_4 : Nat) (Ma_5 : Nat) (Ma_6 : Nat) (Ma_7 : Nat) (Ma_8 : Nat) (Ma_9 : Nat) (Ma_10 : Nat) (Ma_11 : Nat) (Ma_12 : Nat) (Ma_13 : Nat) (Ma_14 : Nat) (Ma_15 : Nat) (Ma_16 : Nat) (Ma_17 : Nat) (Ma_18 : Nat) (Ma_19 : Nat) (Ma_20 : Nat) (Mv_0 : Int32) (Mv_1 : Int32) (Mv_2 : Int32) (Mv_3 : Int32) (Mv_4 : Int32) (Mv_5 : Int32) (Mv_6 : Int32) (Mv_7 : Int32) (Mv_8 : Int32) (Mv_9 : Int32) (Mv_10 : Int32) (Mv_11 : Int32) (Mv_12 : Int32) (Mv_13 : Int32) (Mv_14 : Int32) (Mf_10 : Nat → Int32) (Mj_0 : Int64) (x1 : Int32) (d : Int) (h_b : 0 ≤ x1.toInt ∧ x1.toInt < 6) (h_said : SaidD T Mf_10 d) : Ct l yX12_comes cX12_comes 2 (some .boolean) { frames := 3, cells := 0, slots := 0, locals := 61 } D tc sk [.ref Ma_0, .int x1] [(Ma_0, .inr (12, [.ref Ma_1, .int Mv_0, .int Mv_1, .ref Ma_2, .ref Ma_3, .ref Ma_4, .ref Ma_5, .ref Ma_6, .int Mv_2, .int Mv_3, .int Mv_4, .int Mv_5, .int Mv_6, .int Mv_7, .int Mv_8, .ref Ma_7, .int Mv_9, .ref Ma_8, .int Mv_10, .ref Ma_9, .ref Ma_10, .int Mv_11, .int Mv_12, .int Mv_13, .ref Ma_11, .int Mv_14, .ref Ma_12, .ref Ma_13, .ref Ma_14, .ref Ma_15, .ref Ma_16, .long Mj_0, .ref Ma_17, .ref Ma_18, .ref Ma_19, .ref Ma_20])), (Ma_10, .inl (tc 0, 126, .inl Mf_10))] (fun (v : Option Value) (oo0x1 : Nat → Int32) => ∃ r : Int32, v = some (.int r) ∧ (((r.toInt = 0 ∨ r.toInt = 1)) ∧ (r, oo0x1) = (dX12_comes Mf_10 Mv_13 x1)) ∧ (SaidD T oo0x1 d)) (fun (oo0x1 : Nat → Int32) => [(Ma_0, .inr (12, [.ref Ma_1, .int Mv_0, .int Mv_1, .ref Ma_2, .ref Ma_3, .ref Ma_4, .ref Ma_5, .ref Ma_6, .int Mv_2, .int Mv_3, .int Mv_4, .int Mv_5, .int Mv_6, .int Mv_7, .int Mv_8, .ref Ma_7, .int Mv_9, .ref Ma_8, .int Mv_10, .ref Ma_9, .ref Ma_10, .int Mv_11, .int Mv_12, .int Mv_13, .ref Ma_11, .int Mv_14, .ref Ma_12, .ref Ma_13, .ref Ma_14, .ref Ma_15, .ref Ma_16, .long Mj_0, .ref Ma_17, .ref Ma_18, .ref Ma_19, .ref Ma_20])), (Ma_10, .inl (tc 0, 126, .inl oo0x1))]) 0 0 :=
  ct_dX12_comes l D tc sk (fun k => ([Ma_0, Ma_1, Ma_2, Ma_3, Ma_4, Ma_5, Ma_6, Ma_7, Ma_8, Ma_9, Ma_10, Ma_11, Ma_12, Ma_13, Ma_14, Ma_15, Ma_16, Ma_17, Ma_18, Ma_19, Ma_20] : List (Nat)).getD k 0) (fun k => ([Mv_0, Mv_1, Mv_2, Mv_3, Mv_4, Mv_5, Mv_6, Mv_7, Mv_8, Mv_9, Mv_10, Mv_11, Mv_12, Mv_13, Mv_14] : List (Int32)).getD k 0) (fun k => ([(fun _ => 0), (fun _ => 0), (fun _ => 0), (fun _ => 0), (fun _ => 0), (fun _ => 0), (fun _ => 0), (fun _ => 0), (fun _ => 0), (fun _ => 0), Mf_10] : List (Nat → Int32)).getD k (fun _ => 0)) (fun k => ([Mj_0] : List (Int64)).getD k 0) x1 d h_b h_said
def dX12_weathers_l15 (zz_1601 : Int32) : Nat → Int32 → (Nat → Int32) → Int32 × (Nat → Int32)
  | 0, _, _ => (0, (fun _ => 0))
  | n + 1, yy_1600, yy_1601 => (if (yy_1601 ((3 : Int32)).toNatClampNeg) ≤ yy_1600 then (yy_1600, yy_1601) else (if zz_1601 < (5 : Int32) then (if (2 : Int32) < zz_1601 then dX12_weathers_l15 zz_1601 n (yy_1600 + 1) yy_1601 else (if (yy_1601 (((12 : Int32) + ((4 : Int32) * yy_1600))).toNatClampNeg) ≤ (0 : Int32) then dX12_weathers_l15 zz_1601 n (yy_1600 + 1) (upd yy_1601 (((12 : Int32) + ((4 : Int32) * yy_1600))).toNatClampNeg ((yy_1601 (((12 : Int32) + ((4 : Int32) * yy_1600))).toNatClampNeg) - (0 : Int32))) else dX12_weathers_l15 zz_1601 n (yy_1600 + 1) (upd yy_1601 (((12 : Int32) + ((4 : Int32) * yy_1600))).toNatClampNeg ((yy_1601 (((12 : Int32) + ((4 : Int32) * yy_1600))).toNatClampNeg) - (1 : Int32))))) else (if (20 : Int32) ≤ (yy_1601 (((12 : Int32) + ((4 : Int32) * yy_1600))).toNatClampNeg) then dX12_weathers_l15 zz_1601 n (yy_1600 + 1) (upd yy_1601 (((12 : Int32) + ((4 : Int32) * yy_1600))).toNatClampNeg ((yy_1601 (((12 : Int32) + ((4 : Int32) * yy_1600))).toNatClampNeg) + (0 : Int32))) else dX12_weathers_l15 zz_1601 n (yy_1600 + 1) (upd yy_1601 (((12 : Int32) + ((4 : Int32) * yy_1600))).toNatClampNeg ((yy_1601 (((12 : Int32) + ((4 : Int32) * yy_1600))).toNatClampNeg) + (1 : Int32))))))
theorem dX12_weathers_l15_s {zz_1601 : Int32} {n : Nat} {yy_1600 : Int32} {yy_1601 : Nat → Int32} : dX12_weathers_l15 zz_1601 (n + 1) yy_1600 yy_1601 = (if (yy_1601 ((3 : Int32)).toNatClampNeg) ≤ yy_1600 then (yy_1600, yy_1601) else (if zz_1601 < (5 : Int32) then (if (2 : Int32) < zz_1601 then dX12_weathers_l15 zz_1601 n (yy_1600 + 1) yy_1601 else (if (yy_1601 (((12 : Int32) + ((4 : Int32) * yy_1600))).toNatClampNeg) ≤ (0 : Int32) then dX12_weathers_l15 zz_1601 n (yy_1600 + 1) (upd yy_1601 (((12 : Int32) + ((4 : Int32) * yy_1600))).toNatClampNeg ((yy_1601 (((12 : Int32) + ((4 : Int32) * yy_1600))).toNatClampNeg) - (0 : Int32))) else dX12_weathers_l15 zz_1601 n (yy_1600 + 1) (upd yy_1601 (((12 : Int32) + ((4 : Int32) * yy_1600))).toNatClampNeg ((yy_1601 (((12 : Int32) + ((4 : Int32) * yy_1600))).toNatClampNeg) - (1 : Int32))))) else (if (20 : Int32) ≤ (yy_1601 (((12 : Int32) + ((4 : Int32) * yy_1600))).toNatClampNeg) then dX12_weathers_l15 zz_1601 n (yy_1600 + 1) (upd yy_1601 (((12 : Int32) + ((4 : Int32) * yy_1600))).toNatClampNeg ((yy_1601 (((12 : Int32) + ((4 : Int32) * yy_1600))).toNatClampNeg) + (0 : Int32))) else dX12_weathers_l15 zz_1601 n (yy_1600 + 1) (upd yy_1601 (((12 : Int32) + ((4 : Int32) * yy_1600))).toNatClampNeg ((yy_1601 (((12 : Int32) + ((4 : Int32) * yy_1600))).toNatClampNeg) + (1 : Int32)))))) := rfl
def dX12_weathers (Mf_10 : Nat → Int32) : (Nat → Int32) := ((dX12_weathers_l15 (Mf_10 (((36 : Int32) + (dX12_clock Mf_10))).toNatClampNeg) ((6 - (0 : Int32).toInt).toNat + 1) (0 : Int32) Mf_10).2)
set_option maxHeartbeats 4000000 in
set_option maxRecDepth 100000 in
theorem ct_dX12_weathers {T : Nat → Option Int32} (l : Launch) (D : va_G) (tc : Nat → ClassId) (sk : (Nat → Nat) × (Nat → Nat)) (Ma : Nat → Nat) (Mv : Nat → Int32) (Mf : Nat → Nat → Int32) (Mj : Nat → Int64) (d : Int) (h_said : SaidD T (Mf 10) d) : Ct l yX12_weathers cX12_weathers 4 none { frames := 2, cells := 0, slots := 0, locals := 40 } D tc sk [.ref (Ma 0)] [((Ma 0), .inr (12, [.ref (Ma 1), .int (Mv 0), .int (Mv 1), .ref (Ma 2), .ref (Ma 3), .ref (Ma 4), .ref (Ma 5), .ref (Ma 6), .int (Mv 2), .int (Mv 3), .int (Mv 4), .int (Mv 5), .int (Mv 6), .int (Mv 7), .int (Mv 8), .ref (Ma 7), .int (Mv 9), .ref (Ma 8), .int (Mv 10), .ref (Ma 9), .ref (Ma 10), .int (Mv 11), .int (Mv 12), .int (Mv 13), .ref (Ma 11), .int (Mv 14), .ref (Ma 12), .ref (Ma 13), .ref (Ma 14), .ref (Ma 15), .ref (Ma 16), .long (Mj 0), .ref (Ma 17), .ref (Ma 18), .ref (Ma 19), .ref (Ma 20)])), ((Ma 10), .inl (tc 0, 126, .inl (Mf 10)))] (fun (v : Option Value) (oo0x1 : Nat → Int32) => v = none ∧ (SaidD T oo0x1 d) ∧ (DEq (oo0x1) (dX12_weathers (Mf 10)))) (fun (oo0x1 : Nat → Int32) => [((Ma 0), .inr (12, [.ref (Ma 1), .int (Mv 0), .int (Mv 1), .ref (Ma 2), .ref (Ma 3), .ref (Ma 4), .ref (Ma 5), .ref (Ma 6), .int (Mv 2), .int (Mv 3), .int (Mv 4), .int (Mv 5), .int (Mv 6), .int (Mv 7), .int (Mv 8), .ref (Ma 7), .int (Mv 9), .ref (Ma 8), .int (Mv 10), .ref (Ma 9), .ref (Ma 10), .int (Mv 11), .int (Mv 12), .int (Mv 13), .ref (Ma 11), .int (Mv 14), .ref (Ma 12), .ref (Ma 13), .ref (Ma 14), .ref (Ma 15), .ref (Ma 16), .long (Mj 0), .ref (Ma 17), .ref (Ma 18), .ref (Ma 19), .ref (Ma 20)])), ((Ma 10), .inl (tc 0, 126, .inl oo0x1))]) 0 0 := by
  refine Ct.start (by decide) (Nat.le_of_ble_eq_true rfl) (fun p e s m below meth c A ls hx hb hr hlk hin hml hown hts hK hX hP hD hA hl hS => ?_)
  have hl : lv_has ls 4 [(0, .ref (Ma 0))] := hl
  have ar_h_said := SaidD.ar h_said
  refine lv_aload_n hx hb dX12_weathers_0 rfl (lv_at hl 0 rfl) ?_
  refine gf_X12_39 hx hb hts hown hK hP 0 rfl rfl dX12_weathers_1 ?_
  refine lv_bipush (v := 36) hx hb dX12_weathers_4 (by decide) ?_
  refine lv_aload_n hx hb dX12_weathers_6 rfl (lv_at hl 0 rfl) ?_
  refine cV (a := (Ma 0)) (As := []) (rest := [.int 36, .ref (Ma 10)]) (wr := []) ⟨hx, hb, hml, hown, hts⟩ hK hX hA (cu_dX12_clock l D tc sk (Ma 0) (Ma 1) (Ma 2) (Ma 3) (Ma 4) (Ma 5) (Ma 6) (Ma 7) (Ma 8) (Ma 9) (Ma 10) (Ma 11) (Ma 12) (Ma 13) (Ma 14) (Ma 15) (Ma 16) (Ma 17) (Ma 18) (Ma 19) (Ma 20) (Mv 0) (Mv 1) (Mv 2) (Mv 3) (Mv 4) (Mv 5) (Mv 6) (Mv 7) (Mv 8) (Mv 9) (Mv 10) (Mv 11) (Mv 12) (Mv 13) (Mv 14) (Mf 10) (Mj 0) d h_said) k_1435 k_1432 k_1434 k_70 k_106 pl_X12_clock ⟨Nat.le_of_ble_eq_true rfl, Nat.le_of_ble_eq_true rfl⟩ rfl rfl (va_recv hK hP (ci := 12) (q0 := 0) rfl rfl) hP hD hS [0, 1] [] rfl rfl rfl rfl rfl (by decide) rfl hl.1 rfl (Nat.le_of_ble_eq_true rfl) dX12_weathers_7 ⟨Nat.le_of_ble_eq_true rfl, Nat.le_of_ble_eq_true rfl⟩ (fun v_1 u_2 H locs hv_3 hP₀ hD₀ hS₀ => ?_)
  obtain ⟨r_4, rfl, he_5⟩ := hv_3
  have he_5 : ((0 ≤ r_4.toInt ∧ r_4.toInt < 10)) ∧ r_4 = (dX12_clock (Mf 10)) := he_5
  refine W.eq (g2 := F0 m 10 ls [.int r_4, .int 36, .ref (Ma 10)]) rfl ?_
  replace hP : va_P D classes [((Ma 0), .inr (12, [.ref (Ma 1), .int (Mv 0), .int (Mv 1), .ref (Ma 2), .ref (Ma 3), .ref (Ma 4), .ref (Ma 5), .ref (Ma 6), .int (Mv 2), .int (Mv 3), .int (Mv 4), .int (Mv 5), .int (Mv 6), .int (Mv 7), .int (Mv 8), .ref (Ma 7), .int (Mv 9), .ref (Ma 8), .int (Mv 10), .ref (Ma 9), .ref (Ma 10), .int (Mv 11), .int (Mv 12), .int (Mv 13), .ref (Ma 11), .int (Mv 14), .ref (Ma 12), .ref (Ma 13), .ref (Ma 14), .ref (Ma 15), .ref (Ma 16), .long (Mj 0), .ref (Ma 17), .ref (Ma 18), .ref (Ma 19), .ref (Ma 20)])), ((Ma 10), .inl (tc 0, 126, .inl (Mf 10)))] H := hP₀
  replace hD : va_D A [((Ma 0), .inr (12, [.ref (Ma 1), .int (Mv 0), .int (Mv 1), .ref (Ma 2), .ref (Ma 3), .ref (Ma 4), .ref (Ma 5), .ref (Ma 6), .int (Mv 2), .int (Mv 3), .int (Mv 4), .int (Mv 5), .int (Mv 6), .int (Mv 7), .int (Mv 8), .ref (Ma 7), .int (Mv 9), .ref (Ma 8), .int (Mv 10), .ref (Ma 9), .ref (Ma 10), .int (Mv 11), .int (Mv 12), .int (Mv 13), .ref (Ma 11), .int (Mv 14), .ref (Ma 12), .ref (Ma 13), .ref (Ma 14), .ref (Ma 15), .ref (Ma 16), .long (Mj 0), .ref (Ma 17), .ref (Ma 18), .ref (Ma 19), .ref (Ma 20)])), ((Ma 10), .inl (tc 0, 126, .inl (Mf 10)))] := hD₀
  replace hS := hS₀
  clear hP₀ hD₀ hS₀
  obtain ⟨he_5, hq_7⟩ := he_5
  have er_4 : r_4 = (dX12_clock (Mf 10)) := hq_7
  refine lv_iadd hx hb dX12_weathers_10 ?_
  refine lv_topi (fun x_8 ex_8 => ?_)
  have hi_9 : vp_in x_8 126 := by
    have y_36 : (36 : Int32).toInt = 36 := by decide
    have t_x_8 : x_8.toInt = (36 : Int32).toInt + (r_4 : Int32).toInt := by rw [ex_8]; exact add_toInt (by omega) (by omega)
    refine vp_in_iff.mpr ⟨?_, ?_⟩ <;> omega
  refine va_iald hx hb hK hP 1 0 rfl rfl hi_9 dX12_weathers_11 ?_
  refine lv_topi (fun x_10 ex_10 => ?_)
  refine lv_istore_n (lv' := [(1, .int x_10), (0, .ref (Ma 0))]) hx hb dX12_weathers_12 rfl hl (by decide) rfl (fun ls hl₀ => ?_)
  replace hl := hl₀
  clear hl₀
  refine lv_iconst (v := 0) hx hb dX12_weathers_13 (by decide) ?_
  refine lv_istore_n (lv' := [(2, .int 0), (1, .int x_10), (0, .ref (Ma 0))]) hx hb dX12_weathers_14 rfl hl (by decide) rfl (fun ls hl₀ => ?_)
  replace hl := hl₀
  clear hl₀
  have loop_13 : ∀ (n_11 : Nat) (yy_1600 : Int32) (yy_1601 : Nat → Int32) (H : Heap) (locs : List Loc) (ls : Array Slot), (6 - (yy_1600 : Int32).toInt).toNat < n_11 → (dX12_weathers_l15 x_10 ((6 - (0 : Int32).toInt).toNat + 1) (0 : Int32) (Mf 10)) = dX12_weathers_l15 x_10 ((6 - (yy_1600 : Int32).toInt).toNat + 1) yy_1600 yy_1601 → (0 ≤ (yy_1600 : Int32).toInt) → (SaidD T yy_1601 d) → va_P D classes [((Ma 0), .inr (12, [.ref (Ma 1), .int (Mv 0), .int (Mv 1), .ref (Ma 2), .ref (Ma 3), .ref (Ma 4), .ref (Ma 5), .ref (Ma 6), .int (Mv 2), .int (Mv 3), .int (Mv 4), .int (Mv 5), .int (Mv 6), .int (Mv 7), .int (Mv 8), .ref (Ma 7), .int (Mv 9), .ref (Ma 8), .int (Mv 10), .ref (Ma 9), .ref (Ma 10), .int (Mv 11), .int (Mv 12), .int (Mv 13), .ref (Ma 11), .int (Mv 14), .ref (Ma 12), .ref (Ma 13), .ref (Ma 14), .ref (Ma 15), .ref (Ma 16), .long (Mj 0), .ref (Ma 17), .ref (Ma 18), .ref (Ma 19), .ref (Ma 20)])), ((Ma 10), .inl (tc 0, 126, .inl yy_1601))] H → va_D A [((Ma 0), .inr (12, [.ref (Ma 1), .int (Mv 0), .int (Mv 1), .ref (Ma 2), .ref (Ma 3), .ref (Ma 4), .ref (Ma 5), .ref (Ma 6), .int (Mv 2), .int (Mv 3), .int (Mv 4), .int (Mv 5), .int (Mv 6), .int (Mv 7), .int (Mv 8), .ref (Ma 7), .int (Mv 9), .ref (Ma 8), .int (Mv 10), .ref (Ma 9), .ref (Ma 10), .int (Mv 11), .int (Mv 12), .int (Mv 13), .ref (Ma 11), .int (Mv 14), .ref (Ma 12), .ref (Ma 13), .ref (Ma 14), .ref (Ma 15), .ref (Ma 16), .long (Mj 0), .ref (Ma 17), .ref (Ma 18), .ref (Ma 19), .ref (Ma 20)])), ((Ma 10), .inl (tc 0, 126, .inl yy_1601))] → va_S A s.heap H locs → lv_has ls 4 [(2, .int yy_1600), (1, .int x_10), (0, .ref (Ma 0))] → W p l e ({ frames := 2, cells := 0, slots := 0, locals := 40 }) s m ([.ref (Ma 0)].toArray) below meth c H locs 0 0 (MQ below (QW (fun (v : Option Value) (oo0x1 : Nat → Int32) => v = none ∧ (SaidD T oo0x1 d) ∧ (DEq (oo0x1) (dX12_weathers (Mf 10)))) (BW D (fun (oo0x1 : Nat → Int32) => [((Ma 0), .inr (12, [.ref (Ma 1), .int (Mv 0), .int (Mv 1), .ref (Ma 2), .ref (Ma 3), .ref (Ma 4), .ref (Ma 5), .ref (Ma 6), .int (Mv 2), .int (Mv 3), .int (Mv 4), .int (Mv 5), .int (Mv 6), .int (Mv 7), .int (Mv 8), .ref (Ma 7), .int (Mv 9), .ref (Ma 8), .int (Mv 10), .ref (Ma 9), .ref (Ma 10), .int (Mv 11), .int (Mv 12), .int (Mv 13), .ref (Ma 11), .int (Mv 14), .ref (Ma 12), .ref (Ma 13), .ref (Ma 14), .ref (Ma 15), .ref (Ma 16), .long (Mj 0), .ref (Ma 17), .ref (Ma 18), .ref (Ma 19), .ref (Ma 20)])), ((Ma 10), .inl (tc 0, 126, .inl oo0x1))]) A) A) ([.ref (Ma 0)].toArray) s 0 0 A) (F0 m 15 ls []) := by
    clear hP hD hS hl
    intro n_11
    induction n_11 with
    | zero =>
      intro yy_1600 yy_1601 H locs ls h1
      exact absurd h1 (Nat.not_lt_zero _)
    | succ n_11 ih_12 =>
      intro yy_1600 yy_1601 H locs ls hn_17 hL_16 pf_14 pf_15 hP hD hS hl
      have ar_pf_15 := SaidD.ar pf_15
      refine lv_iload_n hx hb dX12_weathers_15 rfl (lv_at hl 0 rfl) ?_
      refine lv_aload_n hx hb dX12_weathers_16 rfl (lv_at hl 2 rfl) ?_
      refine gf_X12_39 hx hb hts hown hK hP 0 rfl rfl dX12_weathers_17 ?_
      refine lv_iconst (v := 3) hx hb dX12_weathers_20 (by decide) ?_
      refine va_iald hx hb hK hP 1 0 rfl rfl (vin_dec (by decide +kernel)) dX12_weathers_21 ?_
      refine lv_topi (fun x_18 ex_18 => ?_)
      have lx_18 : x_18.toInt = (yy_1601 3).toInt := congrArg Int32.toInt ex_18
      refine lv_icmp_ge (tgt := 99) hx hb dX12_weathers_22 (by decide) (fun c_19 => ?_) (fun c_19 => ?_)
      · skip
        have hb_21 : dX12_weathers_l15 x_10 ((6 - (yy_1600 : Int32).toInt).toNat + 1) yy_1600 yy_1601 = (yy_1600, yy_1601) := by
          clear hP hD hS hl ih_12
          replace er_4 := er_4.symm; subst er_4
          replace ex_8 := ex_8.symm; subst ex_8
          replace ex_10 := ex_10.symm; subst ex_10
          replace ex_18 := ex_18.symm; subst ex_18
          rw [dX12_weathers_l15_s]
          rw [if_pos c_19]
          try rfl
        have hX_20 : (dX12_weathers_l15 x_10 ((6 - (0 : Int32).toInt).toNat + 1) (0 : Int32) (Mf 10)) = (yy_1600, yy_1601) := hL_16.trans hb_21
        have hX_20_0 : (dX12_weathers_l15 x_10 ((6 - (0 : Int32).toInt).toNat + 1) (0 : Int32) (Mf 10)).1 = yy_1600 := congrArg (fun z => z.1) hX_20
        have hX_20_1 : (dX12_weathers_l15 x_10 ((6 - (0 : Int32).toInt).toNat + 1) (0 : Int32) (Mf 10)).2 = yy_1601 := congrArg (fun z => z.2) hX_20
        have hF_22 : yy_1601 = (dX12_weathers (Mf 10)) := by
          clear hP hD hS hl ih_12
          replace er_4 := er_4.symm; subst er_4
          replace ex_8 := ex_8.symm; subst ex_8
          replace ex_10 := ex_10.symm; subst ex_10
          replace ex_18 := ex_18.symm; subst ex_18
          unfold dX12_weathers
          try rw [hX_20_0]
          try rw [hX_20_1]
          try rfl
        exact retV hx hb hr hlk hP hD hS yy_1601 ⟨rfl, pf_15, hF_22⟩ [0, 1] rfl rfl dX12_weathers_99 (Nat.le_of_ble_eq_true rfl) (Nat.le_of_ble_eq_true rfl) rfl
      · skip
        refine lv_bipush (v := 12) hx hb dX12_weathers_25 (by decide) ?_
        refine lv_iconst (v := 4) hx hb dX12_weathers_27 (by decide) ?_
        refine lv_iload_n hx hb dX12_weathers_28 rfl (lv_at hl 0 rfl) ?_
        refine lv_imul hx hb dX12_weathers_29 ?_
        refine lv_topi (fun x_23 ex_23 => ?_)
        refine lv_iadd hx hb dX12_weathers_30 ?_
        refine lv_topi (fun x_24 ex_24 => ?_)
        refine lv_istore_n (lv' := [(3, .int x_24), (2, .int yy_1600), (1, .int x_10), (0, .ref (Ma 0))]) hx hb dX12_weathers_31 rfl hl (by decide) rfl (fun ls hl₀ => ?_)
        replace hl := hl₀
        clear hl₀
        refine lv_iload_n hx hb dX12_weathers_32 rfl (lv_at hl 2 rfl) ?_
        refine lv_iconst (v := 5) hx hb dX12_weathers_33 (by decide) ?_
        refine lv_icmp_lt (tgt := 65) hx hb dX12_weathers_34 (by decide) (fun c_25 => ?_) (fun c_25 => ?_)
        · skip
          refine lv_iload_n hx hb dX12_weathers_65 rfl (lv_at hl 2 rfl) ?_
          refine lv_iconst (v := 2) hx hb dX12_weathers_66 (by decide) ?_
          refine lv_icmp_gt (tgt := 93) hx hb dX12_weathers_67 (by decide) (fun c_26 => ?_) (fun c_26 => ?_)
          · skip
            obtain ⟨x_27, ex_27⟩ : ∃ y : Int32, y = yy_1600 + 1 := ⟨_, rfl⟩
            refine lv_iinc (v := x_27) (lv' := [(2, .int x_27), (3, .int x_24), (1, .int x_10), (0, .ref (Ma 0))]) hx hb dX12_weathers_93 hl (k := 1) rfl (by rw [ex_27]; rfl) (by decide) rfl (fun ls hl₀ => ?_)
            replace hl := hl₀
            clear hl₀
            refine lv_goto (tgt := 15) hx hb dX12_weathers_96 (by decide) ?_
            have hb_28 : 6 - (x_27 : Int32).toInt < 6 - (yy_1600 : Int32).toInt ∧ 1 ≤ 6 - (yy_1600 : Int32).toInt := by
              have z_1 := Int32.lt_iff_toInt_lt.mp (Int32.not_le.mp c_19)
              have z_2 := Int32.lt_iff_toInt_lt.mp c_25
              have z_3 := Int32.lt_iff_toInt_lt.mp c_26
              have y_2 : (2 : Int32).toInt = 2 := by decide
              have y_5 : (5 : Int32).toInt = 5 := by decide
              have y_1 : (1 : Int32).toInt = 1 := by decide
              have t_x_27 : x_27.toInt = (yy_1600 : Int32).toInt + (1 : Int32).toInt := by rw [ex_27]; exact add_toInt (by omega) (by omega)
              omega
            have hm_29 : (6 - (yy_1600 : Int32).toInt).toNat = (6 - (x_27 : Int32).toInt).toNat + 1 := by
              have z_1 := Int32.lt_iff_toInt_lt.mp (Int32.not_le.mp c_19)
              have z_2 := Int32.lt_iff_toInt_lt.mp c_25
              have z_3 := Int32.lt_iff_toInt_lt.mp c_26
              have y_2 : (2 : Int32).toInt = 2 := by decide
              have y_5 : (5 : Int32).toInt = 5 := by decide
              have y_1 : (1 : Int32).toInt = 1 := by decide
              have t_x_27 : x_27.toInt = (yy_1600 : Int32).toInt + (1 : Int32).toInt := by rw [ex_27]; exact add_toInt (by omega) (by omega)
              omega
            have hb_30 : dX12_weathers_l15 x_10 ((6 - (yy_1600 : Int32).toInt).toNat + 1) yy_1600 yy_1601 = dX12_weathers_l15 x_10 ((6 - (yy_1600 : Int32).toInt).toNat) x_27 yy_1601 := by
              clear hP hD hS hl ih_12
              replace er_4 := er_4.symm; subst er_4
              replace ex_8 := ex_8.symm; subst ex_8
              replace ex_10 := ex_10.symm; subst ex_10
              replace ex_18 := ex_18.symm; subst ex_18
              replace ex_23 := ex_23.symm; subst ex_23
              replace ex_24 := ex_24.symm; subst ex_24
              replace ex_27 := ex_27.symm; subst ex_27
              rw [dX12_weathers_l15_s]
              rw [if_neg c_19, if_pos c_25, if_pos c_26]
              try rfl
            have hL_31 : (dX12_weathers_l15 x_10 ((6 - (0 : Int32).toInt).toNat + 1) (0 : Int32) (Mf 10)) = dX12_weathers_l15 x_10 ((6 - (x_27 : Int32).toInt).toNat + 1) x_27 yy_1601 := by
              rw [hL_16, hb_30, hm_29]
            have ha_32 : 0 ≤ (x_27 : Int32).toInt := by
              have z_1 := Int32.lt_iff_toInt_lt.mp (Int32.not_le.mp c_19)
              have z_2 := Int32.lt_iff_toInt_lt.mp c_25
              have z_3 := Int32.lt_iff_toInt_lt.mp c_26
              have y_2 : (2 : Int32).toInt = 2 := by decide
              have y_5 : (5 : Int32).toInt = 5 := by decide
              have y_1 : (1 : Int32).toInt = 1 := by decide
              have t_x_27 : x_27.toInt = (yy_1600 : Int32).toInt + (1 : Int32).toInt := by rw [ex_27]; exact add_toInt (by omega) (by omega)
              omega
            exact ih_12 x_27 yy_1601 _ _ _ (by omega) hL_31 ha_32 pf_15 (hP.sub [0, 1] rfl) (hD.sub [0, 1] rfl rfl) hS (lv_sub hl [0, 2, 3] rfl)
          · skip
            refine lv_aload_n hx hb dX12_weathers_70 rfl (lv_at hl 3 rfl) ?_
            refine gf_X12_39 hx hb hts hown hK hP 0 rfl rfl dX12_weathers_71 ?_
            refine lv_iload_n hx hb dX12_weathers_74 rfl (lv_at hl 0 rfl) ?_
            refine lv_dup2_11 hx hb dX12_weathers_75 rfl rfl ?_
            have hi_33 : vp_in x_24 126 := by
              have z_1 := Int32.lt_iff_toInt_lt.mp (Int32.not_le.mp c_19)
              have z_2 := Int32.lt_iff_toInt_lt.mp c_25
              have z_3 := Int32.le_iff_toInt_le.mp (Int32.not_lt.mp c_26)
              have y_2 : (2 : Int32).toInt = 2 := by decide
              have y_5 : (5 : Int32).toInt = 5 := by decide
              have y_4 : (4 : Int32).toInt = 4 := by decide
              have y_12 : (12 : Int32).toInt = 12 := by decide
              have t_x_23 : x_23.toInt = (4 : Int32).toInt * (yy_1600 : Int32).toInt := by rw [ex_23]; exact mul_toInt (by first | omega | (rw [y_4]; omega)) (by first | omega | (rw [y_4]; omega))
              rw [y_4] at t_x_23
              have t_x_24 : x_24.toInt = (12 : Int32).toInt + (x_23 : Int32).toInt := by rw [ex_24]; exact add_toInt (by omega) (by omega)
              refine vp_in_iff.mpr ⟨?_, ?_⟩ <;> omega
            refine va_iald hx hb hK hP 1 0 rfl rfl hi_33 dX12_weathers_76 ?_
            refine lv_topi (fun x_34 ex_34 => ?_)
            refine lv_aload_n hx hb dX12_weathers_77 rfl (lv_at hl 3 rfl) ?_
            refine gf_X12_39 hx hb hts hown hK hP 0 rfl rfl dX12_weathers_78 ?_
            refine lv_iload_n hx hb dX12_weathers_81 rfl (lv_at hl 0 rfl) ?_
            have hi_35 : vp_in x_24 126 := by
              have z_1 := Int32.lt_iff_toInt_lt.mp (Int32.not_le.mp c_19)
              have z_2 := Int32.lt_iff_toInt_lt.mp c_25
              have z_3 := Int32.le_iff_toInt_le.mp (Int32.not_lt.mp c_26)
              have y_2 : (2 : Int32).toInt = 2 := by decide
              have y_5 : (5 : Int32).toInt = 5 := by decide
              have y_4 : (4 : Int32).toInt = 4 := by decide
              have y_12 : (12 : Int32).toInt = 12 := by decide
              have t_x_23 : x_23.toInt = (4 : Int32).toInt * (yy_1600 : Int32).toInt := by rw [ex_23]; exact mul_toInt (by first | omega | (rw [y_4]; omega)) (by first | omega | (rw [y_4]; omega))
              rw [y_4] at t_x_23
              have t_x_24 : x_24.toInt = (12 : Int32).toInt + (x_23 : Int32).toInt := by rw [ex_24]; exact add_toInt (by omega) (by omega)
              refine vp_in_iff.mpr ⟨?_, ?_⟩ <;> omega
            refine va_iald hx hb hK hP 1 0 rfl rfl hi_35 dX12_weathers_82 ?_
            refine lv_topi (fun x_36 ex_36 => ?_)
            refine lv_if_le (tgt := 90) hx hb dX12_weathers_83 (by decide) (fun c_37 => ?_) (fun c_37 => ?_)
            · skip
              refine lv_iconst (v := 0) hx hb dX12_weathers_90 (by decide) ?_
              refine lv_isub hx hb dX12_weathers_91 ?_
              refine lv_topi (fun x_38 ex_38 => ?_)
              have hi_39 : vp_in x_24 126 := by
                have z_1 := Int32.lt_iff_toInt_lt.mp (Int32.not_le.mp c_19)
                have z_2 := Int32.lt_iff_toInt_lt.mp c_25
                have z_3 := Int32.le_iff_toInt_le.mp (Int32.not_lt.mp c_26)
                have z_4 := Int32.le_iff_toInt_le.mp c_37
                have y_0 : (0 : Int32).toInt = 0 := by decide
                have y_2 : (2 : Int32).toInt = 2 := by decide
                have y_5 : (5 : Int32).toInt = 5 := by decide
                have y_4 : (4 : Int32).toInt = 4 := by decide
                have y_12 : (12 : Int32).toInt = 12 := by decide
                have t_x_23 : x_23.toInt = (4 : Int32).toInt * (yy_1600 : Int32).toInt := by rw [ex_23]; exact mul_toInt (by first | omega | (rw [y_4]; omega)) (by first | omega | (rw [y_4]; omega))
                rw [y_4] at t_x_23
                have t_x_24 : x_24.toInt = (12 : Int32).toInt + (x_23 : Int32).toInt := by rw [ex_24]; exact add_toInt (by omega) (by omega)
                refine vp_in_iff.mpr ⟨?_, ?_⟩ <;> omega
              refine st_int hx hb hK hP hD hS 1 0 rfl rfl hi_39 dX12_weathers_92 (fun g_40 H locs eg_40 hP₀ hD₀ hS₀ => ?_)
              replace hP : va_P D classes [((Ma 0), .inr (12, [.ref (Ma 1), .int (Mv 0), .int (Mv 1), .ref (Ma 2), .ref (Ma 3), .ref (Ma 4), .ref (Ma 5), .ref (Ma 6), .int (Mv 2), .int (Mv 3), .int (Mv 4), .int (Mv 5), .int (Mv 6), .int (Mv 7), .int (Mv 8), .ref (Ma 7), .int (Mv 9), .ref (Ma 8), .int (Mv 10), .ref (Ma 9), .ref (Ma 10), .int (Mv 11), .int (Mv 12), .int (Mv 13), .ref (Ma 11), .int (Mv 14), .ref (Ma 12), .ref (Ma 13), .ref (Ma 14), .ref (Ma 15), .ref (Ma 16), .long (Mj 0), .ref (Ma 17), .ref (Ma 18), .ref (Ma 19), .ref (Ma 20)])), ((Ma 10), .inl (tc 0, 126, .inl g_40))] H := hP₀
              replace hD : va_D A [((Ma 0), .inr (12, [.ref (Ma 1), .int (Mv 0), .int (Mv 1), .ref (Ma 2), .ref (Ma 3), .ref (Ma 4), .ref (Ma 5), .ref (Ma 6), .int (Mv 2), .int (Mv 3), .int (Mv 4), .int (Mv 5), .int (Mv 6), .int (Mv 7), .int (Mv 8), .ref (Ma 7), .int (Mv 9), .ref (Ma 8), .int (Mv 10), .ref (Ma 9), .ref (Ma 10), .int (Mv 11), .int (Mv 12), .int (Mv 13), .ref (Ma 11), .int (Mv 14), .ref (Ma 12), .ref (Ma 13), .ref (Ma 14), .ref (Ma 15), .ref (Ma 16), .long (Mj 0), .ref (Ma 17), .ref (Ma 18), .ref (Ma 19), .ref (Ma 20)])), ((Ma 10), .inl (tc 0, 126, .inl g_40))] := hD₀
              replace hS := hS₀
              clear hP₀ hD₀ hS₀
              have hx_42 : 11 ≤ (x_24 : Int32).toNatClampNeg ∧ (x_24 : Int32).toNatClampNeg < 56 := by
                have z_1 := Int32.lt_iff_toInt_lt.mp (Int32.not_le.mp c_19)
                have z_2 := Int32.lt_iff_toInt_lt.mp c_25
                have z_3 := Int32.le_iff_toInt_le.mp (Int32.not_lt.mp c_26)
                have z_4 := Int32.le_iff_toInt_le.mp c_37
                have y_0 : (0 : Int32).toInt = 0 := by decide
                have y_2 : (2 : Int32).toInt = 2 := by decide
                have y_5 : (5 : Int32).toInt = 5 := by decide
                have y_4 : (4 : Int32).toInt = 4 := by decide
                have y_12 : (12 : Int32).toInt = 12 := by decide
                have t_x_23 : x_23.toInt = (4 : Int32).toInt * (yy_1600 : Int32).toInt := by rw [ex_23]; exact mul_toInt (by first | omega | (rw [y_4]; omega)) (by first | omega | (rw [y_4]; omega))
                rw [y_4] at t_x_23
                have t_x_24 : x_24.toInt = (12 : Int32).toInt + (x_23 : Int32).toInt := by rw [ex_24]; exact add_toInt (by omega) (by omega)
                have hcl : (x_24 : Int32).toNatClampNeg = (x_24 : Int32).toInt.toNat := rfl
                omega
              have pf_41 : SaidD T g_40 d := SaidD.keep pf_15 eg_40 hx_42
              have ar_pf_41 := SaidD.ar pf_41
              obtain ⟨x_43, ex_43⟩ : ∃ y : Int32, y = yy_1600 + 1 := ⟨_, rfl⟩
              refine lv_iinc (v := x_43) (lv' := [(2, .int x_43), (3, .int x_24), (1, .int x_10), (0, .ref (Ma 0))]) hx hb dX12_weathers_93 hl (k := 1) rfl (by rw [ex_43]; rfl) (by decide) rfl (fun ls hl₀ => ?_)
              replace hl := hl₀
              clear hl₀
              refine lv_goto (tgt := 15) hx hb dX12_weathers_96 (by decide) ?_
              have hb_44 : 6 - (x_43 : Int32).toInt < 6 - (yy_1600 : Int32).toInt ∧ 1 ≤ 6 - (yy_1600 : Int32).toInt := by
                have z_1 := Int32.lt_iff_toInt_lt.mp (Int32.not_le.mp c_19)
                have z_2 := Int32.lt_iff_toInt_lt.mp c_25
                have z_3 := Int32.le_iff_toInt_le.mp (Int32.not_lt.mp c_26)
                have z_4 := Int32.le_iff_toInt_le.mp c_37
                have y_0 : (0 : Int32).toInt = 0 := by decide
                have y_2 : (2 : Int32).toInt = 2 := by decide
                have y_5 : (5 : Int32).toInt = 5 := by decide
                have y_1 : (1 : Int32).toInt = 1 := by decide
                have t_x_43 : x_43.toInt = (yy_1600 : Int32).toInt + (1 : Int32).toInt := by rw [ex_43]; exact add_toInt (by omega) (by omega)
                omega
              have hm_45 : (6 - (yy_1600 : Int32).toInt).toNat = (6 - (x_43 : Int32).toInt).toNat + 1 := by
                have z_1 := Int32.lt_iff_toInt_lt.mp (Int32.not_le.mp c_19)
                have z_2 := Int32.lt_iff_toInt_lt.mp c_25
                have z_3 := Int32.le_iff_toInt_le.mp (Int32.not_lt.mp c_26)
                have z_4 := Int32.le_iff_toInt_le.mp c_37
                have y_0 : (0 : Int32).toInt = 0 := by decide
                have y_2 : (2 : Int32).toInt = 2 := by decide
                have y_5 : (5 : Int32).toInt = 5 := by decide
                have y_1 : (1 : Int32).toInt = 1 := by decide
                have t_x_43 : x_43.toInt = (yy_1600 : Int32).toInt + (1 : Int32).toInt := by rw [ex_43]; exact add_toInt (by omega) (by omega)
                omega
              have hb_46 : dX12_weathers_l15 x_10 ((6 - (yy_1600 : Int32).toInt).toNat + 1) yy_1600 yy_1601 = dX12_weathers_l15 x_10 ((6 - (yy_1600 : Int32).toInt).toNat) x_43 g_40 := by
                clear hP hD hS hl ih_12
                replace er_4 := er_4.symm; subst er_4
                replace ex_8 := ex_8.symm; subst ex_8
                replace ex_10 := ex_10.symm; subst ex_10
                replace ex_18 := ex_18.symm; subst ex_18
                replace ex_23 := ex_23.symm; subst ex_23
                replace ex_24 := ex_24.symm; subst ex_24
                replace ex_34 := ex_34.symm; subst ex_34
                replace ex_36 := ex_36.symm; subst ex_36
                replace ex_38 := ex_38.symm; subst ex_38
                replace eg_40 := eg_40.symm; subst eg_40
                replace ex_43 := ex_43.symm; subst ex_43
                rw [dX12_weathers_l15_s]
                rw [if_neg c_19, if_pos c_25, if_neg c_26, if_pos c_37]
                try rfl
              have hL_47 : (dX12_weathers_l15 x_10 ((6 - (0 : Int32).toInt).toNat + 1) (0 : Int32) (Mf 10)) = dX12_weathers_l15 x_10 ((6 - (x_43 : Int32).toInt).toNat + 1) x_43 g_40 := by
                rw [hL_16, hb_46, hm_45]
              have ha_48 : 0 ≤ (x_43 : Int32).toInt := by
                have z_1 := Int32.lt_iff_toInt_lt.mp (Int32.not_le.mp c_19)
                have z_2 := Int32.lt_iff_toInt_lt.mp c_25
                have z_3 := Int32.le_iff_toInt_le.mp (Int32.not_lt.mp c_26)
                have z_4 := Int32.le_iff_toInt_le.mp c_37
                have y_0 : (0 : Int32).toInt = 0 := by decide
                have y_2 : (2 : Int32).toInt = 2 := by decide
                have y_5 : (5 : Int32).toInt = 5 := by decide
                have y_1 : (1 : Int32).toInt = 1 := by decide
                have t_x_43 : x_43.toInt = (yy_1600 : Int32).toInt + (1 : Int32).toInt := by rw [ex_43]; exact add_toInt (by omega) (by omega)
                omega
              exact ih_12 x_43 g_40 _ _ _ (by omega) hL_47 ha_48 pf_41 (hP.sub [0, 1] rfl) (hD.sub [0, 1] rfl rfl) hS (lv_sub hl [0, 2, 3] rfl)
            · skip
              refine lv_iconst (v := 1) hx hb dX12_weathers_86 (by decide) ?_
              refine lv_goto (tgt := 91) hx hb dX12_weathers_87 (by decide) ?_
              refine lv_isub hx hb dX12_weathers_91 ?_
              refine lv_topi (fun x_49 ex_49 => ?_)
              have hi_50 : vp_in x_24 126 := by
                have z_1 := Int32.lt_iff_toInt_lt.mp (Int32.not_le.mp c_19)
                have z_2 := Int32.lt_iff_toInt_lt.mp c_25
                have z_3 := Int32.le_iff_toInt_le.mp (Int32.not_lt.mp c_26)
                have z_4 := Int32.lt_iff_toInt_lt.mp (Int32.not_le.mp c_37)
                have y_0 : (0 : Int32).toInt = 0 := by decide
                have y_2 : (2 : Int32).toInt = 2 := by decide
                have y_5 : (5 : Int32).toInt = 5 := by decide
                have y_4 : (4 : Int32).toInt = 4 := by decide
                have y_12 : (12 : Int32).toInt = 12 := by decide
                have t_x_23 : x_23.toInt = (4 : Int32).toInt * (yy_1600 : Int32).toInt := by rw [ex_23]; exact mul_toInt (by first | omega | (rw [y_4]; omega)) (by first | omega | (rw [y_4]; omega))
                rw [y_4] at t_x_23
                have t_x_24 : x_24.toInt = (12 : Int32).toInt + (x_23 : Int32).toInt := by rw [ex_24]; exact add_toInt (by omega) (by omega)
                refine vp_in_iff.mpr ⟨?_, ?_⟩ <;> omega
              refine st_int hx hb hK hP hD hS 1 0 rfl rfl hi_50 dX12_weathers_92 (fun g_51 H locs eg_51 hP₀ hD₀ hS₀ => ?_)
              replace hP : va_P D classes [((Ma 0), .inr (12, [.ref (Ma 1), .int (Mv 0), .int (Mv 1), .ref (Ma 2), .ref (Ma 3), .ref (Ma 4), .ref (Ma 5), .ref (Ma 6), .int (Mv 2), .int (Mv 3), .int (Mv 4), .int (Mv 5), .int (Mv 6), .int (Mv 7), .int (Mv 8), .ref (Ma 7), .int (Mv 9), .ref (Ma 8), .int (Mv 10), .ref (Ma 9), .ref (Ma 10), .int (Mv 11), .int (Mv 12), .int (Mv 13), .ref (Ma 11), .int (Mv 14), .ref (Ma 12), .ref (Ma 13), .ref (Ma 14), .ref (Ma 15), .ref (Ma 16), .long (Mj 0), .ref (Ma 17), .ref (Ma 18), .ref (Ma 19), .ref (Ma 20)])), ((Ma 10), .inl (tc 0, 126, .inl g_51))] H := hP₀
              replace hD : va_D A [((Ma 0), .inr (12, [.ref (Ma 1), .int (Mv 0), .int (Mv 1), .ref (Ma 2), .ref (Ma 3), .ref (Ma 4), .ref (Ma 5), .ref (Ma 6), .int (Mv 2), .int (Mv 3), .int (Mv 4), .int (Mv 5), .int (Mv 6), .int (Mv 7), .int (Mv 8), .ref (Ma 7), .int (Mv 9), .ref (Ma 8), .int (Mv 10), .ref (Ma 9), .ref (Ma 10), .int (Mv 11), .int (Mv 12), .int (Mv 13), .ref (Ma 11), .int (Mv 14), .ref (Ma 12), .ref (Ma 13), .ref (Ma 14), .ref (Ma 15), .ref (Ma 16), .long (Mj 0), .ref (Ma 17), .ref (Ma 18), .ref (Ma 19), .ref (Ma 20)])), ((Ma 10), .inl (tc 0, 126, .inl g_51))] := hD₀
              replace hS := hS₀
              clear hP₀ hD₀ hS₀
              have hx_53 : 11 ≤ (x_24 : Int32).toNatClampNeg ∧ (x_24 : Int32).toNatClampNeg < 56 := by
                have z_1 := Int32.lt_iff_toInt_lt.mp (Int32.not_le.mp c_19)
                have z_2 := Int32.lt_iff_toInt_lt.mp c_25
                have z_3 := Int32.le_iff_toInt_le.mp (Int32.not_lt.mp c_26)
                have z_4 := Int32.lt_iff_toInt_lt.mp (Int32.not_le.mp c_37)
                have y_0 : (0 : Int32).toInt = 0 := by decide
                have y_2 : (2 : Int32).toInt = 2 := by decide
                have y_5 : (5 : Int32).toInt = 5 := by decide
                have y_4 : (4 : Int32).toInt = 4 := by decide
                have y_12 : (12 : Int32).toInt = 12 := by decide
                have t_x_23 : x_23.toInt = (4 : Int32).toInt * (yy_1600 : Int32).toInt := by rw [ex_23]; exact mul_toInt (by first | omega | (rw [y_4]; omega)) (by first | omega | (rw [y_4]; omega))
                rw [y_4] at t_x_23
                have t_x_24 : x_24.toInt = (12 : Int32).toInt + (x_23 : Int32).toInt := by rw [ex_24]; exact add_toInt (by omega) (by omega)
                have hcl : (x_24 : Int32).toNatClampNeg = (x_24 : Int32).toInt.toNat := rfl
                omega
              have pf_52 : SaidD T g_51 d := SaidD.keep pf_15 eg_51 hx_53
              have ar_pf_52 := SaidD.ar pf_52
              obtain ⟨x_54, ex_54⟩ : ∃ y : Int32, y = yy_1600 + 1 := ⟨_, rfl⟩
              refine lv_iinc (v := x_54) (lv' := [(2, .int x_54), (3, .int x_24), (1, .int x_10), (0, .ref (Ma 0))]) hx hb dX12_weathers_93 hl (k := 1) rfl (by rw [ex_54]; rfl) (by decide) rfl (fun ls hl₀ => ?_)
              replace hl := hl₀
              clear hl₀
              refine lv_goto (tgt := 15) hx hb dX12_weathers_96 (by decide) ?_
              have hb_55 : 6 - (x_54 : Int32).toInt < 6 - (yy_1600 : Int32).toInt ∧ 1 ≤ 6 - (yy_1600 : Int32).toInt := by
                have z_1 := Int32.lt_iff_toInt_lt.mp (Int32.not_le.mp c_19)
                have z_2 := Int32.lt_iff_toInt_lt.mp c_25
                have z_3 := Int32.le_iff_toInt_le.mp (Int32.not_lt.mp c_26)
                have z_4 := Int32.lt_iff_toInt_lt.mp (Int32.not_le.mp c_37)
                have y_0 : (0 : Int32).toInt = 0 := by decide
                have y_2 : (2 : Int32).toInt = 2 := by decide
                have y_5 : (5 : Int32).toInt = 5 := by decide
                have y_1 : (1 : Int32).toInt = 1 := by decide
                have t_x_54 : x_54.toInt = (yy_1600 : Int32).toInt + (1 : Int32).toInt := by rw [ex_54]; exact add_toInt (by omega) (by omega)
                omega
              have hm_56 : (6 - (yy_1600 : Int32).toInt).toNat = (6 - (x_54 : Int32).toInt).toNat + 1 := by
                have z_1 := Int32.lt_iff_toInt_lt.mp (Int32.not_le.mp c_19)
                have z_2 := Int32.lt_iff_toInt_lt.mp c_25
                have z_3 := Int32.le_iff_toInt_le.mp (Int32.not_lt.mp c_26)
                have z_4 := Int32.lt_iff_toInt_lt.mp (Int32.not_le.mp c_37)
                have y_0 : (0 : Int32).toInt = 0 := by decide
                have y_2 : (2 : Int32).toInt = 2 := by decide
                have y_5 : (5 : Int32).toInt = 5 := by decide
                have y_1 : (1 : Int32).toInt = 1 := by decide
                have t_x_54 : x_54.toInt = (yy_1600 : Int32).toInt + (1 : Int32).toInt := by rw [ex_54]; exact add_toInt (by omega) (by omega)
                omega
              have hb_57 : dX12_weathers_l15 x_10 ((6 - (yy_1600 : Int32).toInt).toNat + 1) yy_1600 yy_1601 = dX12_weathers_l15 x_10 ((6 - (yy_1600 : Int32).toInt).toNat) x_54 g_51 := by
                clear hP hD hS hl ih_12
                replace er_4 := er_4.symm; subst er_4
                replace ex_8 := ex_8.symm; subst ex_8
                replace ex_10 := ex_10.symm; subst ex_10
                replace ex_18 := ex_18.symm; subst ex_18
                replace ex_23 := ex_23.symm; subst ex_23
                replace ex_24 := ex_24.symm; subst ex_24
                replace ex_34 := ex_34.symm; subst ex_34
                replace ex_36 := ex_36.symm; subst ex_36
                replace ex_49 := ex_49.symm; subst ex_49
                replace eg_51 := eg_51.symm; subst eg_51
                replace ex_54 := ex_54.symm; subst ex_54
                rw [dX12_weathers_l15_s]
                rw [if_neg c_19, if_pos c_25, if_neg c_26, if_neg c_37]
                try rfl
              have hL_58 : (dX12_weathers_l15 x_10 ((6 - (0 : Int32).toInt).toNat + 1) (0 : Int32) (Mf 10)) = dX12_weathers_l15 x_10 ((6 - (x_54 : Int32).toInt).toNat + 1) x_54 g_51 := by
                rw [hL_16, hb_57, hm_56]
              have ha_59 : 0 ≤ (x_54 : Int32).toInt := by
                have z_1 := Int32.lt_iff_toInt_lt.mp (Int32.not_le.mp c_19)
                have z_2 := Int32.lt_iff_toInt_lt.mp c_25
                have z_3 := Int32.le_iff_toInt_le.mp (Int32.not_lt.mp c_26)
                have z_4 := Int32.lt_iff_toInt_lt.mp (Int32.not_le.mp c_37)
                have y_0 : (0 : Int32).toInt = 0 := by decide
                have y_2 : (2 : Int32).toInt = 2 := by decide
                have y_5 : (5 : Int32).toInt = 5 := by decide
                have y_1 : (1 : Int32).toInt = 1 := by decide
                have t_x_54 : x_54.toInt = (yy_1600 : Int32).toInt + (1 : Int32).toInt := by rw [ex_54]; exact add_toInt (by omega) (by omega)
                omega
              exact ih_12 x_54 g_51 _ _ _ (by omega) hL_58 ha_59 pf_52 (hP.sub [0, 1] rfl) (hD.sub [0, 1] rfl rfl) hS (lv_sub hl [0, 2, 3] rfl)
        · skip
          refine lv_aload_n hx hb dX12_weathers_37 rfl (lv_at hl 3 rfl) ?_
          refine gf_X12_39 hx hb hts hown hK hP 0 rfl rfl dX12_weathers_38 ?_
          refine lv_iload_n hx hb dX12_weathers_41 rfl (lv_at hl 0 rfl) ?_
          refine lv_dup2_11 hx hb dX12_weathers_42 rfl rfl ?_
          have hi_60 : vp_in x_24 126 := by
            have z_1 := Int32.lt_iff_toInt_lt.mp (Int32.not_le.mp c_19)
            have z_2 := Int32.le_iff_toInt_le.mp (Int32.not_lt.mp c_25)
            have y_5 : (5 : Int32).toInt = 5 := by decide
            have y_4 : (4 : Int32).toInt = 4 := by decide
            have y_12 : (12 : Int32).toInt = 12 := by decide
            have t_x_23 : x_23.toInt = (4 : Int32).toInt * (yy_1600 : Int32).toInt := by rw [ex_23]; exact mul_toInt (by first | omega | (rw [y_4]; omega)) (by first | omega | (rw [y_4]; omega))
            rw [y_4] at t_x_23
            have t_x_24 : x_24.toInt = (12 : Int32).toInt + (x_23 : Int32).toInt := by rw [ex_24]; exact add_toInt (by omega) (by omega)
            refine vp_in_iff.mpr ⟨?_, ?_⟩ <;> omega
          refine va_iald hx hb hK hP 1 0 rfl rfl hi_60 dX12_weathers_43 ?_
          refine lv_topi (fun x_61 ex_61 => ?_)
          refine lv_aload_n hx hb dX12_weathers_44 rfl (lv_at hl 3 rfl) ?_
          refine gf_X12_39 hx hb hts hown hK hP 0 rfl rfl dX12_weathers_45 ?_
          refine lv_iload_n hx hb dX12_weathers_48 rfl (lv_at hl 0 rfl) ?_
          have hi_62 : vp_in x_24 126 := by
            have z_1 := Int32.lt_iff_toInt_lt.mp (Int32.not_le.mp c_19)
            have z_2 := Int32.le_iff_toInt_le.mp (Int32.not_lt.mp c_25)
            have y_5 : (5 : Int32).toInt = 5 := by decide
            have y_4 : (4 : Int32).toInt = 4 := by decide
            have y_12 : (12 : Int32).toInt = 12 := by decide
            have t_x_23 : x_23.toInt = (4 : Int32).toInt * (yy_1600 : Int32).toInt := by rw [ex_23]; exact mul_toInt (by first | omega | (rw [y_4]; omega)) (by first | omega | (rw [y_4]; omega))
            rw [y_4] at t_x_23
            have t_x_24 : x_24.toInt = (12 : Int32).toInt + (x_23 : Int32).toInt := by rw [ex_24]; exact add_toInt (by omega) (by omega)
            refine vp_in_iff.mpr ⟨?_, ?_⟩ <;> omega
          refine va_iald hx hb hK hP 1 0 rfl rfl hi_62 dX12_weathers_49 ?_
          refine lv_topi (fun x_63 ex_63 => ?_)
          refine lv_bipush (v := 20) hx hb dX12_weathers_50 (by decide) ?_
          refine lv_icmp_ge (tgt := 59) hx hb dX12_weathers_52 (by decide) (fun c_64 => ?_) (fun c_64 => ?_)
          · skip
            refine lv_iconst (v := 0) hx hb dX12_weathers_59 (by decide) ?_
            refine lv_iadd hx hb dX12_weathers_60 ?_
            refine lv_topi (fun x_65 ex_65 => ?_)
            have hi_66 : vp_in x_24 126 := by
              have z_1 := Int32.lt_iff_toInt_lt.mp (Int32.not_le.mp c_19)
              have z_2 := Int32.le_iff_toInt_le.mp (Int32.not_lt.mp c_25)
              have z_3 := Int32.le_iff_toInt_le.mp c_64
              have y_5 : (5 : Int32).toInt = 5 := by decide
              have y_20 : (20 : Int32).toInt = 20 := by decide
              have y_4 : (4 : Int32).toInt = 4 := by decide
              have y_12 : (12 : Int32).toInt = 12 := by decide
              have t_x_23 : x_23.toInt = (4 : Int32).toInt * (yy_1600 : Int32).toInt := by rw [ex_23]; exact mul_toInt (by first | omega | (rw [y_4]; omega)) (by first | omega | (rw [y_4]; omega))
              rw [y_4] at t_x_23
              have t_x_24 : x_24.toInt = (12 : Int32).toInt + (x_23 : Int32).toInt := by rw [ex_24]; exact add_toInt (by omega) (by omega)
              refine vp_in_iff.mpr ⟨?_, ?_⟩ <;> omega
            refine st_int hx hb hK hP hD hS 1 0 rfl rfl hi_66 dX12_weathers_61 (fun g_67 H locs eg_67 hP₀ hD₀ hS₀ => ?_)
            replace hP : va_P D classes [((Ma 0), .inr (12, [.ref (Ma 1), .int (Mv 0), .int (Mv 1), .ref (Ma 2), .ref (Ma 3), .ref (Ma 4), .ref (Ma 5), .ref (Ma 6), .int (Mv 2), .int (Mv 3), .int (Mv 4), .int (Mv 5), .int (Mv 6), .int (Mv 7), .int (Mv 8), .ref (Ma 7), .int (Mv 9), .ref (Ma 8), .int (Mv 10), .ref (Ma 9), .ref (Ma 10), .int (Mv 11), .int (Mv 12), .int (Mv 13), .ref (Ma 11), .int (Mv 14), .ref (Ma 12), .ref (Ma 13), .ref (Ma 14), .ref (Ma 15), .ref (Ma 16), .long (Mj 0), .ref (Ma 17), .ref (Ma 18), .ref (Ma 19), .ref (Ma 20)])), ((Ma 10), .inl (tc 0, 126, .inl g_67))] H := hP₀
            replace hD : va_D A [((Ma 0), .inr (12, [.ref (Ma 1), .int (Mv 0), .int (Mv 1), .ref (Ma 2), .ref (Ma 3), .ref (Ma 4), .ref (Ma 5), .ref (Ma 6), .int (Mv 2), .int (Mv 3), .int (Mv 4), .int (Mv 5), .int (Mv 6), .int (Mv 7), .int (Mv 8), .ref (Ma 7), .int (Mv 9), .ref (Ma 8), .int (Mv 10), .ref (Ma 9), .ref (Ma 10), .int (Mv 11), .int (Mv 12), .int (Mv 13), .ref (Ma 11), .int (Mv 14), .ref (Ma 12), .ref (Ma 13), .ref (Ma 14), .ref (Ma 15), .ref (Ma 16), .long (Mj 0), .ref (Ma 17), .ref (Ma 18), .ref (Ma 19), .ref (Ma 20)])), ((Ma 10), .inl (tc 0, 126, .inl g_67))] := hD₀
            replace hS := hS₀
            clear hP₀ hD₀ hS₀
            have hx_69 : 11 ≤ (x_24 : Int32).toNatClampNeg ∧ (x_24 : Int32).toNatClampNeg < 56 := by
              have z_1 := Int32.lt_iff_toInt_lt.mp (Int32.not_le.mp c_19)
              have z_2 := Int32.le_iff_toInt_le.mp (Int32.not_lt.mp c_25)
              have z_3 := Int32.le_iff_toInt_le.mp c_64
              have y_5 : (5 : Int32).toInt = 5 := by decide
              have y_20 : (20 : Int32).toInt = 20 := by decide
              have y_4 : (4 : Int32).toInt = 4 := by decide
              have y_12 : (12 : Int32).toInt = 12 := by decide
              have t_x_23 : x_23.toInt = (4 : Int32).toInt * (yy_1600 : Int32).toInt := by rw [ex_23]; exact mul_toInt (by first | omega | (rw [y_4]; omega)) (by first | omega | (rw [y_4]; omega))
              rw [y_4] at t_x_23
              have t_x_24 : x_24.toInt = (12 : Int32).toInt + (x_23 : Int32).toInt := by rw [ex_24]; exact add_toInt (by omega) (by omega)
              have hcl : (x_24 : Int32).toNatClampNeg = (x_24 : Int32).toInt.toNat := rfl
              omega
            have pf_68 : SaidD T g_67 d := SaidD.keep pf_15 eg_67 hx_69
            have ar_pf_68 := SaidD.ar pf_68
            refine lv_goto (tgt := 93) hx hb dX12_weathers_62 (by decide) ?_
            obtain ⟨x_70, ex_70⟩ : ∃ y : Int32, y = yy_1600 + 1 := ⟨_, rfl⟩
            refine lv_iinc (v := x_70) (lv' := [(2, .int x_70), (3, .int x_24), (1, .int x_10), (0, .ref (Ma 0))]) hx hb dX12_weathers_93 hl (k := 1) rfl (by rw [ex_70]; rfl) (by decide) rfl (fun ls hl₀ => ?_)
            replace hl := hl₀
            clear hl₀
            refine lv_goto (tgt := 15) hx hb dX12_weathers_96 (by decide) ?_
            have hb_71 : 6 - (x_70 : Int32).toInt < 6 - (yy_1600 : Int32).toInt ∧ 1 ≤ 6 - (yy_1600 : Int32).toInt := by
              have z_1 := Int32.lt_iff_toInt_lt.mp (Int32.not_le.mp c_19)
              have z_2 := Int32.le_iff_toInt_le.mp (Int32.not_lt.mp c_25)
              have z_3 := Int32.le_iff_toInt_le.mp c_64
              have y_5 : (5 : Int32).toInt = 5 := by decide
              have y_20 : (20 : Int32).toInt = 20 := by decide
              have y_1 : (1 : Int32).toInt = 1 := by decide
              have t_x_70 : x_70.toInt = (yy_1600 : Int32).toInt + (1 : Int32).toInt := by rw [ex_70]; exact add_toInt (by omega) (by omega)
              omega
            have hm_72 : (6 - (yy_1600 : Int32).toInt).toNat = (6 - (x_70 : Int32).toInt).toNat + 1 := by
              have z_1 := Int32.lt_iff_toInt_lt.mp (Int32.not_le.mp c_19)
              have z_2 := Int32.le_iff_toInt_le.mp (Int32.not_lt.mp c_25)
              have z_3 := Int32.le_iff_toInt_le.mp c_64
              have y_5 : (5 : Int32).toInt = 5 := by decide
              have y_20 : (20 : Int32).toInt = 20 := by decide
              have y_1 : (1 : Int32).toInt = 1 := by decide
              have t_x_70 : x_70.toInt = (yy_1600 : Int32).toInt + (1 : Int32).toInt := by rw [ex_70]; exact add_toInt (by omega) (by omega)
              omega
            have hb_73 : dX12_weathers_l15 x_10 ((6 - (yy_1600 : Int32).toInt).toNat + 1) yy_1600 yy_1601 = dX12_weathers_l15 x_10 ((6 - (yy_1600 : Int32).toInt).toNat) x_70 g_67 := by
              clear hP hD hS hl ih_12
              replace er_4 := er_4.symm; subst er_4
              replace ex_8 := ex_8.symm; subst ex_8
              replace ex_10 := ex_10.symm; subst ex_10
              replace ex_18 := ex_18.symm; subst ex_18
              replace ex_23 := ex_23.symm; subst ex_23
              replace ex_24 := ex_24.symm; subst ex_24
              replace ex_61 := ex_61.symm; subst ex_61
              replace ex_63 := ex_63.symm; subst ex_63
              replace ex_65 := ex_65.symm; subst ex_65
              replace eg_67 := eg_67.symm; subst eg_67
              replace ex_70 := ex_70.symm; subst ex_70
              rw [dX12_weathers_l15_s]
              rw [if_neg c_19, if_neg c_25, if_pos c_64]
              try rfl
            have hL_74 : (dX12_weathers_l15 x_10 ((6 - (0 : Int32).toInt).toNat + 1) (0 : Int32) (Mf 10)) = dX12_weathers_l15 x_10 ((6 - (x_70 : Int32).toInt).toNat + 1) x_70 g_67 := by
              rw [hL_16, hb_73, hm_72]
            have ha_75 : 0 ≤ (x_70 : Int32).toInt := by
              have z_1 := Int32.lt_iff_toInt_lt.mp (Int32.not_le.mp c_19)
              have z_2 := Int32.le_iff_toInt_le.mp (Int32.not_lt.mp c_25)
              have z_3 := Int32.le_iff_toInt_le.mp c_64
              have y_5 : (5 : Int32).toInt = 5 := by decide
              have y_20 : (20 : Int32).toInt = 20 := by decide
              have y_1 : (1 : Int32).toInt = 1 := by decide
              have t_x_70 : x_70.toInt = (yy_1600 : Int32).toInt + (1 : Int32).toInt := by rw [ex_70]; exact add_toInt (by omega) (by omega)
              omega
            exact ih_12 x_70 g_67 _ _ _ (by omega) hL_74 ha_75 pf_68 (hP.sub [0, 1] rfl) (hD.sub [0, 1] rfl rfl) hS (lv_sub hl [0, 2, 3] rfl)
          · skip
            refine lv_iconst (v := 1) hx hb dX12_weathers_55 (by decide) ?_
            refine lv_goto (tgt := 60) hx hb dX12_weathers_56 (by decide) ?_
            refine lv_iadd hx hb dX12_weathers_60 ?_
            refine lv_topi (fun x_76 ex_76 => ?_)
            have hi_77 : vp_in x_24 126 := by
              have z_1 := Int32.lt_iff_toInt_lt.mp (Int32.not_le.mp c_19)
              have z_2 := Int32.le_iff_toInt_le.mp (Int32.not_lt.mp c_25)
              have z_3 := Int32.lt_iff_toInt_lt.mp (Int32.not_le.mp c_64)
              have y_5 : (5 : Int32).toInt = 5 := by decide
              have y_20 : (20 : Int32).toInt = 20 := by decide
              have y_4 : (4 : Int32).toInt = 4 := by decide
              have y_12 : (12 : Int32).toInt = 12 := by decide
              have t_x_23 : x_23.toInt = (4 : Int32).toInt * (yy_1600 : Int32).toInt := by rw [ex_23]; exact mul_toInt (by first | omega | (rw [y_4]; omega)) (by first | omega | (rw [y_4]; omega))
              rw [y_4] at t_x_23
              have t_x_24 : x_24.toInt = (12 : Int32).toInt + (x_23 : Int32).toInt := by rw [ex_24]; exact add_toInt (by omega) (by omega)
              refine vp_in_iff.mpr ⟨?_, ?_⟩ <;> omega
            refine st_int hx hb hK hP hD hS 1 0 rfl rfl hi_77 dX12_weathers_61 (fun g_78 H locs eg_78 hP₀ hD₀ hS₀ => ?_)
            replace hP : va_P D classes [((Ma 0), .inr (12, [.ref (Ma 1), .int (Mv 0), .int (Mv 1), .ref (Ma 2), .ref (Ma 3), .ref (Ma 4), .ref (Ma 5), .ref (Ma 6), .int (Mv 2), .int (Mv 3), .int (Mv 4), .int (Mv 5), .int (Mv 6), .int (Mv 7), .int (Mv 8), .ref (Ma 7), .int (Mv 9), .ref (Ma 8), .int (Mv 10), .ref (Ma 9), .ref (Ma 10), .int (Mv 11), .int (Mv 12), .int (Mv 13), .ref (Ma 11), .int (Mv 14), .ref (Ma 12), .ref (Ma 13), .ref (Ma 14), .ref (Ma 15), .ref (Ma 16), .long (Mj 0), .ref (Ma 17), .ref (Ma 18), .ref (Ma 19), .ref (Ma 20)])), ((Ma 10), .inl (tc 0, 126, .inl g_78))] H := hP₀
            replace hD : va_D A [((Ma 0), .inr (12, [.ref (Ma 1), .int (Mv 0), .int (Mv 1), .ref (Ma 2), .ref (Ma 3), .ref (Ma 4), .ref (Ma 5), .ref (Ma 6), .int (Mv 2), .int (Mv 3), .int (Mv 4), .int (Mv 5), .int (Mv 6), .int (Mv 7), .int (Mv 8), .ref (Ma 7), .int (Mv 9), .ref (Ma 8), .int (Mv 10), .ref (Ma 9), .ref (Ma 10), .int (Mv 11), .int (Mv 12), .int (Mv 13), .ref (Ma 11), .int (Mv 14), .ref (Ma 12), .ref (Ma 13), .ref (Ma 14), .ref (Ma 15), .ref (Ma 16), .long (Mj 0), .ref (Ma 17), .ref (Ma 18), .ref (Ma 19), .ref (Ma 20)])), ((Ma 10), .inl (tc 0, 126, .inl g_78))] := hD₀
            replace hS := hS₀
            clear hP₀ hD₀ hS₀
            have hx_80 : 11 ≤ (x_24 : Int32).toNatClampNeg ∧ (x_24 : Int32).toNatClampNeg < 56 := by
              have z_1 := Int32.lt_iff_toInt_lt.mp (Int32.not_le.mp c_19)
              have z_2 := Int32.le_iff_toInt_le.mp (Int32.not_lt.mp c_25)
              have z_3 := Int32.lt_iff_toInt_lt.mp (Int32.not_le.mp c_64)
              have y_5 : (5 : Int32).toInt = 5 := by decide
              have y_20 : (20 : Int32).toInt = 20 := by decide
              have y_4 : (4 : Int32).toInt = 4 := by decide
              have y_12 : (12 : Int32).toInt = 12 := by decide
              have t_x_23 : x_23.toInt = (4 : Int32).toInt * (yy_1600 : Int32).toInt := by rw [ex_23]; exact mul_toInt (by first | omega | (rw [y_4]; omega)) (by first | omega | (rw [y_4]; omega))
              rw [y_4] at t_x_23
              have t_x_24 : x_24.toInt = (12 : Int32).toInt + (x_23 : Int32).toInt := by rw [ex_24]; exact add_toInt (by omega) (by omega)
              have hcl : (x_24 : Int32).toNatClampNeg = (x_24 : Int32).toInt.toNat := rfl
              omega
            have pf_79 : SaidD T g_78 d := SaidD.keep pf_15 eg_78 hx_80
            have ar_pf_79 := SaidD.ar pf_79
            refine lv_goto (tgt := 93) hx hb dX12_weathers_62 (by decide) ?_
            obtain ⟨x_81, ex_81⟩ : ∃ y : Int32, y = yy_1600 + 1 := ⟨_, rfl⟩
            refine lv_iinc (v := x_81) (lv' := [(2, .int x_81), (3, .int x_24), (1, .int x_10), (0, .ref (Ma 0))]) hx hb dX12_weathers_93 hl (k := 1) rfl (by rw [ex_81]; rfl) (by decide) rfl (fun ls hl₀ => ?_)
            replace hl := hl₀
            clear hl₀
            refine lv_goto (tgt := 15) hx hb dX12_weathers_96 (by decide) ?_
            have hb_82 : 6 - (x_81 : Int32).toInt < 6 - (yy_1600 : Int32).toInt ∧ 1 ≤ 6 - (yy_1600 : Int32).toInt := by
              have z_1 := Int32.lt_iff_toInt_lt.mp (Int32.not_le.mp c_19)
              have z_2 := Int32.le_iff_toInt_le.mp (Int32.not_lt.mp c_25)
              have z_3 := Int32.lt_iff_toInt_lt.mp (Int32.not_le.mp c_64)
              have y_5 : (5 : Int32).toInt = 5 := by decide
              have y_20 : (20 : Int32).toInt = 20 := by decide
              have y_1 : (1 : Int32).toInt = 1 := by decide
              have t_x_81 : x_81.toInt = (yy_1600 : Int32).toInt + (1 : Int32).toInt := by rw [ex_81]; exact add_toInt (by omega) (by omega)
              omega
            have hm_83 : (6 - (yy_1600 : Int32).toInt).toNat = (6 - (x_81 : Int32).toInt).toNat + 1 := by
              have z_1 := Int32.lt_iff_toInt_lt.mp (Int32.not_le.mp c_19)
              have z_2 := Int32.le_iff_toInt_le.mp (Int32.not_lt.mp c_25)
              have z_3 := Int32.lt_iff_toInt_lt.mp (Int32.not_le.mp c_64)
              have y_5 : (5 : Int32).toInt = 5 := by decide
              have y_20 : (20 : Int32).toInt = 20 := by decide
              have y_1 : (1 : Int32).toInt = 1 := by decide
              have t_x_81 : x_81.toInt = (yy_1600 : Int32).toInt + (1 : Int32).toInt := by rw [ex_81]; exact add_toInt (by omega) (by omega)
              omega
            have hb_84 : dX12_weathers_l15 x_10 ((6 - (yy_1600 : Int32).toInt).toNat + 1) yy_1600 yy_1601 = dX12_weathers_l15 x_10 ((6 - (yy_1600 : Int32).toInt).toNat) x_81 g_78 := by
              clear hP hD hS hl ih_12
              replace er_4 := er_4.symm; subst er_4
              replace ex_8 := ex_8.symm; subst ex_8
              replace ex_10 := ex_10.symm; subst ex_10
              replace ex_18 := ex_18.symm; subst ex_18
              replace ex_23 := ex_23.symm; subst ex_23
              replace ex_24 := ex_24.symm; subst ex_24
              replace ex_61 := ex_61.symm; subst ex_61
              replace ex_63 := ex_63.symm; subst ex_63
              replace ex_76 := ex_76.symm; subst ex_76
              replace eg_78 := eg_78.symm; subst eg_78
              replace ex_81 := ex_81.symm; subst ex_81
              rw [dX12_weathers_l15_s]
              rw [if_neg c_19, if_neg c_25, if_neg c_64]
              try rfl
            have hL_85 : (dX12_weathers_l15 x_10 ((6 - (0 : Int32).toInt).toNat + 1) (0 : Int32) (Mf 10)) = dX12_weathers_l15 x_10 ((6 - (x_81 : Int32).toInt).toNat + 1) x_81 g_78 := by
              rw [hL_16, hb_84, hm_83]
            have ha_86 : 0 ≤ (x_81 : Int32).toInt := by
              have z_1 := Int32.lt_iff_toInt_lt.mp (Int32.not_le.mp c_19)
              have z_2 := Int32.le_iff_toInt_le.mp (Int32.not_lt.mp c_25)
              have z_3 := Int32.lt_iff_toInt_lt.mp (Int32.not_le.mp c_64)
              have y_5 : (5 : Int32).toInt = 5 := by decide
              have y_20 : (20 : Int32).toInt = 20 := by decide
              have y_1 : (1 : Int32).toInt = 1 := by decide
              have t_x_81 : x_81.toInt = (yy_1600 : Int32).toInt + (1 : Int32).toInt := by rw [ex_81]; exact add_toInt (by omega) (by omega)
              omega
            exact ih_12 x_81 g_78 _ _ _ (by omega) hL_85 ha_86 pf_79 (hP.sub [0, 1] rfl) (hD.sub [0, 1] rfl rfl) hS (lv_sub hl [0, 2, 3] rfl)
  have ha_87 : 0 ≤ (0 : Int32).toInt := by
    have y_0 : (0 : Int32).toInt = 0 := by decide
    omega
  exact loop_13 _ 0 (Mf 10) _ _ _ (Nat.lt_succ_self _) rfl ha_87 h_said hP hD hS hl
set_option maxRecDepth 100000 in
theorem cu_dX12_weathers {T : Nat → Option Int32} (l : Launch) (D : va_G) (tc : Nat → ClassId) (sk : (Nat → Nat) × (Nat → Nat)) (Ma_0 : Nat) (Ma_1 : Nat) (Ma_2 : Nat) (Ma_3 : Nat) (Ma_4 : Nat) (Ma_5 : Nat) (Ma_6 : Nat) (Ma_7 : Nat) (Ma_8 : Nat) (Ma_9 : Nat) (Ma_10 : Nat) (Ma_11 : Nat) (Ma_12 : Nat) (Ma_13 : Nat) (Ma_14 : Nat) (Ma_15 : Nat) (Ma_16 : Nat) (Ma_17 : Nat) (Ma_18 : Nat) (Ma_19 : Nat) (Ma_20 : Nat) (Mv_0 : Int32) (Mv_1 : Int32) (Mv_2 : Int32) (Mv_3 : Int32) (Mv_4 : Int32) (Mv_5 : Int32) (Mv_6 : Int32) (Mv_7 : Int32) (Mv_8 : Int32) (Mv_9 : Int32) (Mv_10 : Int32) (Mv_11 : Int32) (Mv_12 : Int32) (Mv_13 : Int32) (Mv_14 : Int32) (Mf_10 : Nat → Int32) (Mj_0 : Int64) (d : Int) (h_said : SaidD T Mf_10 d) : Ct l yX12_weathers cX12_weathers 4 none { frames := 2, cells := 0, slots := 0, locals := 40 } D tc sk [.ref Ma_0] [(Ma_0, .inr (12, [.ref Ma_1, .int Mv_0, .int Mv_1, .ref Ma_2, .ref Ma_3, .ref Ma_4, .ref Ma_5, .ref Ma_6, .int Mv_2, .int Mv_3, .int Mv_4, .int Mv_5, .int Mv_6, .int Mv_7, .int Mv_8, .ref Ma_7, .int Mv_9, .ref Ma_8, .int Mv_10, .ref Ma_9, .ref Ma_10, .int Mv_11, .int Mv_12, .int Mv_13, .ref Ma_11, .int Mv_14, .ref Ma_12, .ref Ma_13, .ref Ma_14, .ref Ma_15, .ref Ma_16, .long Mj_0, .ref Ma_17, .ref Ma_18, .ref Ma_19, .ref Ma_20])), (Ma_10, .inl (tc 0, 126, .inl Mf_10))] (fun (v : Option Value) (oo0x1 : Nat → Int32) => v = none ∧ (SaidD T oo0x1 d) ∧ (DEq (oo0x1) (dX12_weathers Mf_10))) (fun (oo0x1 : Nat → Int32) => [(Ma_0, .inr (12, [.ref Ma_1, .int Mv_0, .int Mv_1, .ref Ma_2, .ref Ma_3, .ref Ma_4, .ref Ma_5, .ref Ma_6, .int Mv_2, .int Mv_3, .int Mv_4, .int Mv_5, .int Mv_6, .int Mv_7, .int Mv_8, .ref Ma_7, .int Mv_9, .ref Ma_8, .int Mv_10, .ref Ma_9, .ref Ma_10, .int Mv_11, .int Mv_12, .int Mv_13, .ref Ma_11, .int Mv_14, .ref Ma_12, .ref Ma_13, .ref Ma_14, .ref Ma_15, .ref Ma_16, .long Mj_0, .ref Ma_17, .ref Ma_18, .ref Ma_19, .ref Ma_20])), (Ma_10, .inl (tc 0, 126, .inl oo0x1))]) 0 0 :=
  ct_dX12_weathers l D tc sk (fun k => ([Ma_0, Ma_1, Ma_2, Ma_3, Ma_4, Ma_5, Ma_6, Ma_7, Ma_8, Ma_9, Ma_10, Ma_11, Ma_12, Ma_13, Ma_14, Ma_15, Ma_16, Ma_17, Ma_18, Ma_19, Ma_20] : List (Nat)).getD k 0) (fun k => ([Mv_0, Mv_1, Mv_2, Mv_3, Mv_4, Mv_5, Mv_6, Mv_7, Mv_8, Mv_9, Mv_10, Mv_11, Mv_12, Mv_13, Mv_14] : List (Int32)).getD k 0) (fun k => ([(fun _ => 0), (fun _ => 0), (fun _ => 0), (fun _ => 0), (fun _ => 0), (fun _ => 0), (fun _ => 0), (fun _ => 0), (fun _ => 0), (fun _ => 0), Mf_10] : List (Nat → Int32)).getD k (fun _ => 0)) (fun k => ([Mj_0] : List (Int64)).getD k 0) d h_said
def dX12_passes_l4 (Mf_2 : Nat → Int32) (Mf_4 : Nat → Int32) (Mf_5 : Nat → Int32) (Mv_11 : Int32) (Mv_13 : Int32) : Nat → Int32 → Int32 → (Nat → Int64) → (Nat → Int64) → (Nat → Int32) → Int32 → Int32 × Int32 × (Nat → Int64) × (Nat → Int64) × (Nat → Int32) × Int32
  | 0, _, _, _, _, _, _ => (0, 0, (fun _ => 0), (fun _ => 0), (fun _ => 0), 0)
  | n + 1, yy_500, yy_501, yy_502, yy_503, yy_504, yy_505 => (if (yy_504 ((3 : Int32)).toNatClampNeg) ≤ yy_500 then (yy_500, yy_501, yy_502, yy_503, yy_504, yy_505) else (if (dX12_canBuy yy_504 yy_500) = (0 : Int32) then dX12_passes_l4 Mf_2 Mf_4 Mf_5 Mv_11 Mv_13 n (yy_500 + 1) yy_501 yy_502 yy_503 yy_504 yy_505 else (if (dX12_isWilling Mf_2 Mf_4 Mf_5 yy_504 yy_502 yy_503 yy_501 Mv_11 yy_500).1 = (0 : Int32) then dX12_passes_l4 Mf_2 Mf_4 Mf_5 Mv_11 Mv_13 n (yy_500 + 1) ((dX12_isWilling Mf_2 Mf_4 Mf_5 yy_504 yy_502 yy_503 yy_501 Mv_11 yy_500).2.1) ((dX12_isWilling Mf_2 Mf_4 Mf_5 yy_504 yy_502 yy_503 yy_501 Mv_11 yy_500).2.2.1) ((dX12_isWilling Mf_2 Mf_4 Mf_5 yy_504 yy_502 yy_503 yy_501 Mv_11 yy_500).2.2.2) yy_504 yy_505 else (if (dX12_comes yy_504 Mv_13 yy_500).1 = (0 : Int32) then dX12_passes_l4 Mf_2 Mf_4 Mf_5 Mv_11 Mv_13 n (yy_500 + 1) ((dX12_isWilling Mf_2 Mf_4 Mf_5 yy_504 yy_502 yy_503 yy_501 Mv_11 yy_500).2.1) ((dX12_isWilling Mf_2 Mf_4 Mf_5 yy_504 yy_502 yy_503 yy_501 Mv_11 yy_500).2.2.1) ((dX12_isWilling Mf_2 Mf_4 Mf_5 yy_504 yy_502 yy_503 yy_501 Mv_11 yy_500).2.2.2) ((dX12_comes yy_504 Mv_13 yy_500).2) yy_505 else dX12_passes_l4 Mf_2 Mf_4 Mf_5 Mv_11 Mv_13 n (yy_500 + 1) ((dX12_isWilling Mf_2 Mf_4 Mf_5 yy_504 yy_502 yy_503 yy_501 Mv_11 yy_500).2.1) ((dX12_isWilling Mf_2 Mf_4 Mf_5 yy_504 yy_502 yy_503 yy_501 Mv_11 yy_500).2.2.1) ((dX12_isWilling Mf_2 Mf_4 Mf_5 yy_504 yy_502 yy_503 yy_501 Mv_11 yy_500).2.2.2) ((dX12_comes yy_504 Mv_13 yy_500).2) (yy_505 ||| ((1 : Int32) <<< (yy_500 &&& 31)))))))
theorem dX12_passes_l4_s {Mf_2 : Nat → Int32} {Mf_4 : Nat → Int32} {Mf_5 : Nat → Int32} {Mv_11 : Int32} {Mv_13 : Int32} {n : Nat} {yy_500 : Int32} {yy_501 : Int32} {yy_502 : Nat → Int64} {yy_503 : Nat → Int64} {yy_504 : Nat → Int32} {yy_505 : Int32} : dX12_passes_l4 Mf_2 Mf_4 Mf_5 Mv_11 Mv_13 (n + 1) yy_500 yy_501 yy_502 yy_503 yy_504 yy_505 = (if (yy_504 ((3 : Int32)).toNatClampNeg) ≤ yy_500 then (yy_500, yy_501, yy_502, yy_503, yy_504, yy_505) else (if (dX12_canBuy yy_504 yy_500) = (0 : Int32) then dX12_passes_l4 Mf_2 Mf_4 Mf_5 Mv_11 Mv_13 n (yy_500 + 1) yy_501 yy_502 yy_503 yy_504 yy_505 else (if (dX12_isWilling Mf_2 Mf_4 Mf_5 yy_504 yy_502 yy_503 yy_501 Mv_11 yy_500).1 = (0 : Int32) then dX12_passes_l4 Mf_2 Mf_4 Mf_5 Mv_11 Mv_13 n (yy_500 + 1) ((dX12_isWilling Mf_2 Mf_4 Mf_5 yy_504 yy_502 yy_503 yy_501 Mv_11 yy_500).2.1) ((dX12_isWilling Mf_2 Mf_4 Mf_5 yy_504 yy_502 yy_503 yy_501 Mv_11 yy_500).2.2.1) ((dX12_isWilling Mf_2 Mf_4 Mf_5 yy_504 yy_502 yy_503 yy_501 Mv_11 yy_500).2.2.2) yy_504 yy_505 else (if (dX12_comes yy_504 Mv_13 yy_500).1 = (0 : Int32) then dX12_passes_l4 Mf_2 Mf_4 Mf_5 Mv_11 Mv_13 n (yy_500 + 1) ((dX12_isWilling Mf_2 Mf_4 Mf_5 yy_504 yy_502 yy_503 yy_501 Mv_11 yy_500).2.1) ((dX12_isWilling Mf_2 Mf_4 Mf_5 yy_504 yy_502 yy_503 yy_501 Mv_11 yy_500).2.2.1) ((dX12_isWilling Mf_2 Mf_4 Mf_5 yy_504 yy_502 yy_503 yy_501 Mv_11 yy_500).2.2.2) ((dX12_comes yy_504 Mv_13 yy_500).2) yy_505 else dX12_passes_l4 Mf_2 Mf_4 Mf_5 Mv_11 Mv_13 n (yy_500 + 1) ((dX12_isWilling Mf_2 Mf_4 Mf_5 yy_504 yy_502 yy_503 yy_501 Mv_11 yy_500).2.1) ((dX12_isWilling Mf_2 Mf_4 Mf_5 yy_504 yy_502 yy_503 yy_501 Mv_11 yy_500).2.2.1) ((dX12_isWilling Mf_2 Mf_4 Mf_5 yy_504 yy_502 yy_503 yy_501 Mv_11 yy_500).2.2.2) ((dX12_comes yy_504 Mv_13 yy_500).2) (yy_505 ||| ((1 : Int32) <<< (yy_500 &&& 31))))))) := rfl
def dX12_passes (Mf_2 : Nat → Int32) (Mf_4 : Nat → Int32) (Mf_5 : Nat → Int32) (Mf_10 : Nat → Int32) (Mg_8 : Nat → Int64) (Mg_9 : Nat → Int64) (Mv_10 : Int32) (Mv_11 : Int32) (Mv_13 : Int32) : Int32 × Int32 × (Nat → Int64) × (Nat → Int64) × (Nat → Int32) := (if (((dX12_weathers ((dX12_passes_l4 Mf_2 Mf_4 Mf_5 Mv_11 Mv_13 ((6 - (0 : Int32).toInt).toNat + 1) (0 : Int32) Mv_10 Mg_8 Mg_9 Mf_10 (0 : Int32)).2.2.2.2.1)) ((10 : Int32)).toNatClampNeg) - ((dX12_weathers ((dX12_passes_l4 Mf_2 Mf_4 Mf_5 Mv_11 Mv_13 ((6 - (0 : Int32).toInt).toNat + 1) (0 : Int32) Mv_10 Mg_8 Mg_9 Mf_10 (0 : Int32)).2.2.2.2.1)) ((10 : Int32)).toNatClampNeg) / (7 : Int32) * (7 : Int32)) = (6 : Int32) then (if ((upd (dX12_weathers ((dX12_passes_l4 Mf_2 Mf_4 Mf_5 Mv_11 Mv_13 ((6 - (0 : Int32).toInt).toNat + 1) (0 : Int32) Mv_10 Mg_8 Mg_9 Mf_10 (0 : Int32)).2.2.2.2.1)) ((11 : Int32)).toNatClampNeg (((dX12_weathers ((dX12_passes_l4 Mf_2 Mf_4 Mf_5 Mv_11 Mv_13 ((6 - (0 : Int32).toInt).toNat + 1) (0 : Int32) Mv_10 Mg_8 Mg_9 Mf_10 (0 : Int32)).2.2.2.2.1)) ((11 : Int32)).toNatClampNeg) + ((dX12_weathers ((dX12_passes_l4 Mf_2 Mf_4 Mf_5 Mv_11 Mv_13 ((6 - (0 : Int32).toInt).toNat + 1) (0 : Int32) Mv_10 Mg_8 Mg_9 Mf_10 (0 : Int32)).2.2.2.2.1)) ((1 : Int32)).toNatClampNeg))) ((11 : Int32)).toNatClampNeg) ≤ (99 : Int32) then ((dX12_passes_l4 Mf_2 Mf_4 Mf_5 Mv_11 Mv_13 ((6 - (0 : Int32).toInt).toNat + 1) (0 : Int32) Mv_10 Mg_8 Mg_9 Mf_10 (0 : Int32)).2.2.2.2.2, (dX12_passes_l4 Mf_2 Mf_4 Mf_5 Mv_11 Mv_13 ((6 - (0 : Int32).toInt).toNat + 1) (0 : Int32) Mv_10 Mg_8 Mg_9 Mf_10 (0 : Int32)).2.1, ((dX12_passes_l4 Mf_2 Mf_4 Mf_5 Mv_11 Mv_13 ((6 - (0 : Int32).toInt).toNat + 1) (0 : Int32) Mv_10 Mg_8 Mg_9 Mf_10 (0 : Int32)).2.2.1), ((dX12_passes_l4 Mf_2 Mf_4 Mf_5 Mv_11 Mv_13 ((6 - (0 : Int32).toInt).toNat + 1) (0 : Int32) Mv_10 Mg_8 Mg_9 Mf_10 (0 : Int32)).2.2.2.1), (upd (upd (dX12_weathers ((dX12_passes_l4 Mf_2 Mf_4 Mf_5 Mv_11 Mv_13 ((6 - (0 : Int32).toInt).toNat + 1) (0 : Int32) Mv_10 Mg_8 Mg_9 Mf_10 (0 : Int32)).2.2.2.2.1)) ((11 : Int32)).toNatClampNeg (((dX12_weathers ((dX12_passes_l4 Mf_2 Mf_4 Mf_5 Mv_11 Mv_13 ((6 - (0 : Int32).toInt).toNat + 1) (0 : Int32) Mv_10 Mg_8 Mg_9 Mf_10 (0 : Int32)).2.2.2.2.1)) ((11 : Int32)).toNatClampNeg) + ((dX12_weathers ((dX12_passes_l4 Mf_2 Mf_4 Mf_5 Mv_11 Mv_13 ((6 - (0 : Int32).toInt).toNat + 1) (0 : Int32) Mv_10 Mg_8 Mg_9 Mf_10 (0 : Int32)).2.2.2.2.1)) ((1 : Int32)).toNatClampNeg))) ((10 : Int32)).toNatClampNeg (((upd (dX12_weathers ((dX12_passes_l4 Mf_2 Mf_4 Mf_5 Mv_11 Mv_13 ((6 - (0 : Int32).toInt).toNat + 1) (0 : Int32) Mv_10 Mg_8 Mg_9 Mf_10 (0 : Int32)).2.2.2.2.1)) ((11 : Int32)).toNatClampNeg (((dX12_weathers ((dX12_passes_l4 Mf_2 Mf_4 Mf_5 Mv_11 Mv_13 ((6 - (0 : Int32).toInt).toNat + 1) (0 : Int32) Mv_10 Mg_8 Mg_9 Mf_10 (0 : Int32)).2.2.2.2.1)) ((11 : Int32)).toNatClampNeg) + ((dX12_weathers ((dX12_passes_l4 Mf_2 Mf_4 Mf_5 Mv_11 Mv_13 ((6 - (0 : Int32).toInt).toNat + 1) (0 : Int32) Mv_10 Mg_8 Mg_9 Mf_10 (0 : Int32)).2.2.2.2.1)) ((1 : Int32)).toNatClampNeg))) ((10 : Int32)).toNatClampNeg) + (1 : Int32)))) else ((dX12_passes_l4 Mf_2 Mf_4 Mf_5 Mv_11 Mv_13 ((6 - (0 : Int32).toInt).toNat + 1) (0 : Int32) Mv_10 Mg_8 Mg_9 Mf_10 (0 : Int32)).2.2.2.2.2, (dX12_passes_l4 Mf_2 Mf_4 Mf_5 Mv_11 Mv_13 ((6 - (0 : Int32).toInt).toNat + 1) (0 : Int32) Mv_10 Mg_8 Mg_9 Mf_10 (0 : Int32)).2.1, ((dX12_passes_l4 Mf_2 Mf_4 Mf_5 Mv_11 Mv_13 ((6 - (0 : Int32).toInt).toNat + 1) (0 : Int32) Mv_10 Mg_8 Mg_9 Mf_10 (0 : Int32)).2.2.1), ((dX12_passes_l4 Mf_2 Mf_4 Mf_5 Mv_11 Mv_13 ((6 - (0 : Int32).toInt).toNat + 1) (0 : Int32) Mv_10 Mg_8 Mg_9 Mf_10 (0 : Int32)).2.2.2.1), (upd (upd (upd (dX12_weathers ((dX12_passes_l4 Mf_2 Mf_4 Mf_5 Mv_11 Mv_13 ((6 - (0 : Int32).toInt).toNat + 1) (0 : Int32) Mv_10 Mg_8 Mg_9 Mf_10 (0 : Int32)).2.2.2.2.1)) ((11 : Int32)).toNatClampNeg (((dX12_weathers ((dX12_passes_l4 Mf_2 Mf_4 Mf_5 Mv_11 Mv_13 ((6 - (0 : Int32).toInt).toNat + 1) (0 : Int32) Mv_10 Mg_8 Mg_9 Mf_10 (0 : Int32)).2.2.2.2.1)) ((11 : Int32)).toNatClampNeg) + ((dX12_weathers ((dX12_passes_l4 Mf_2 Mf_4 Mf_5 Mv_11 Mv_13 ((6 - (0 : Int32).toInt).toNat + 1) (0 : Int32) Mv_10 Mg_8 Mg_9 Mf_10 (0 : Int32)).2.2.2.2.1)) ((1 : Int32)).toNatClampNeg))) ((11 : Int32)).toNatClampNeg (99 : Int32)) ((10 : Int32)).toNatClampNeg (((upd (upd (dX12_weathers ((dX12_passes_l4 Mf_2 Mf_4 Mf_5 Mv_11 Mv_13 ((6 - (0 : Int32).toInt).toNat + 1) (0 : Int32) Mv_10 Mg_8 Mg_9 Mf_10 (0 : Int32)).2.2.2.2.1)) ((11 : Int32)).toNatClampNeg (((dX12_weathers ((dX12_passes_l4 Mf_2 Mf_4 Mf_5 Mv_11 Mv_13 ((6 - (0 : Int32).toInt).toNat + 1) (0 : Int32) Mv_10 Mg_8 Mg_9 Mf_10 (0 : Int32)).2.2.2.2.1)) ((11 : Int32)).toNatClampNeg) + ((dX12_weathers ((dX12_passes_l4 Mf_2 Mf_4 Mf_5 Mv_11 Mv_13 ((6 - (0 : Int32).toInt).toNat + 1) (0 : Int32) Mv_10 Mg_8 Mg_9 Mf_10 (0 : Int32)).2.2.2.2.1)) ((1 : Int32)).toNatClampNeg))) ((11 : Int32)).toNatClampNeg (99 : Int32)) ((10 : Int32)).toNatClampNeg) + (1 : Int32))))) else ((dX12_passes_l4 Mf_2 Mf_4 Mf_5 Mv_11 Mv_13 ((6 - (0 : Int32).toInt).toNat + 1) (0 : Int32) Mv_10 Mg_8 Mg_9 Mf_10 (0 : Int32)).2.2.2.2.2, (dX12_passes_l4 Mf_2 Mf_4 Mf_5 Mv_11 Mv_13 ((6 - (0 : Int32).toInt).toNat + 1) (0 : Int32) Mv_10 Mg_8 Mg_9 Mf_10 (0 : Int32)).2.1, ((dX12_passes_l4 Mf_2 Mf_4 Mf_5 Mv_11 Mv_13 ((6 - (0 : Int32).toInt).toNat + 1) (0 : Int32) Mv_10 Mg_8 Mg_9 Mf_10 (0 : Int32)).2.2.1), ((dX12_passes_l4 Mf_2 Mf_4 Mf_5 Mv_11 Mv_13 ((6 - (0 : Int32).toInt).toNat + 1) (0 : Int32) Mv_10 Mg_8 Mg_9 Mf_10 (0 : Int32)).2.2.2.1), (upd (dX12_weathers ((dX12_passes_l4 Mf_2 Mf_4 Mf_5 Mv_11 Mv_13 ((6 - (0 : Int32).toInt).toNat + 1) (0 : Int32) Mv_10 Mg_8 Mg_9 Mf_10 (0 : Int32)).2.2.2.2.1)) ((10 : Int32)).toNatClampNeg (((dX12_weathers ((dX12_passes_l4 Mf_2 Mf_4 Mf_5 Mv_11 Mv_13 ((6 - (0 : Int32).toInt).toNat + 1) (0 : Int32) Mv_10 Mg_8 Mg_9 Mf_10 (0 : Int32)).2.2.2.2.1)) ((10 : Int32)).toNatClampNeg) + (1 : Int32)))))
set_option maxHeartbeats 4000000 in
set_option maxRecDepth 100000 in
theorem ct_dX12_passes {T : Nat → Option Int32} (l : Launch) (D : va_G) (tc : Nat → ClassId) (sk : (Nat → Nat) × (Nat → Nat)) (Ma : Nat → Nat) (Mv : Nat → Int32) (Mf : Nat → Nat → Int32) (Mj : Nat → Int64) (Mg : Nat → Nat → Int64) (d : Int) (h_said : SaidD T (Mf 10) d) (h_d : d ≤ 1000000) (h_rul : RulD (Mf 2) (Mf 4) (Mf 5) (Mv 1)) (h_frc : -1 ≤ (Mv 11).toInt ∧ (Mv 11).toInt < (Mv 1).toInt ∧ (Mv 1).toInt ≤ 6) : Ct l yX12_passes cX12_passes 3 (some .int) { frames := 4, cells := 0, slots := 0, locals := 99 } D tc sk [.ref (Ma 0)] [((Ma 0), .inr (12, [.ref (Ma 1), .int (Mv 0), .int (Mv 1), .ref (Ma 2), .ref (Ma 3), .ref (Ma 4), .ref (Ma 5), .ref (Ma 6), .int (Mv 2), .int (Mv 3), .int (Mv 4), .int (Mv 5), .int (Mv 6), .int (Mv 7), .int (Mv 8), .ref (Ma 7), .int (Mv 9), .ref (Ma 8), .int (Mv 10), .ref (Ma 9), .ref (Ma 10), .int (Mv 11), .int (Mv 12), .int (Mv 13), .ref (Ma 11), .int (Mv 14), .ref (Ma 12), .ref (Ma 13), .ref (Ma 14), .ref (Ma 15), .ref (Ma 16), .long (Mj 0), .ref (Ma 17), .ref (Ma 18), .ref (Ma 19), .ref (Ma 20)])), ((Ma 2), .inl (tc 0, 2400, .inl (Mf 2))), ((Ma 4), .inl (tc 0, 288, .inl (Mf 4))), ((Ma 5), .inl (tc 0, 6, .inl (Mf 5))), ((Ma 8), .inl (tc 1, 64, .inr (.inl (Mg 8)))), ((Ma 9), .inl (tc 1, 13, .inr (.inl (Mg 9)))), ((Ma 10), .inl (tc 0, 126, .inl (Mf 10)))] (fun (v : Option Value) (u : (Int32) × (Nat → Int64) × (Nat → Int64) × (Nat → Int32)) => match u with | (oo0x1, oo0x2, oo0x3, oo0x4) => ∃ r : Int32, v = some (.int r) ∧ ((True) ∧ (r, oo0x1, oo0x2, oo0x3, oo0x4) = (dX12_passes (Mf 2) (Mf 4) (Mf 5) (Mf 10) (Mg 8) (Mg 9) (Mv 10) (Mv 11) (Mv 13))) ∧ (SaidD T oo0x4 (d + 1))) (fun (u : (Int32) × (Nat → Int64) × (Nat → Int64) × (Nat → Int32)) => match u with | (oo0x1, oo0x2, oo0x3, oo0x4) => [((Ma 0), .inr (12, [.ref (Ma 1), .int (Mv 0), .int (Mv 1), .ref (Ma 2), .ref (Ma 3), .ref (Ma 4), .ref (Ma 5), .ref (Ma 6), .int (Mv 2), .int (Mv 3), .int (Mv 4), .int (Mv 5), .int (Mv 6), .int (Mv 7), .int (Mv 8), .ref (Ma 7), .int (Mv 9), .ref (Ma 8), .int oo0x1, .ref (Ma 9), .ref (Ma 10), .int (Mv 11), .int (Mv 12), .int (Mv 13), .ref (Ma 11), .int (Mv 14), .ref (Ma 12), .ref (Ma 13), .ref (Ma 14), .ref (Ma 15), .ref (Ma 16), .long (Mj 0), .ref (Ma 17), .ref (Ma 18), .ref (Ma 19), .ref (Ma 20)])), ((Ma 2), .inl (tc 0, 2400, .inl (Mf 2))), ((Ma 4), .inl (tc 0, 288, .inl (Mf 4))), ((Ma 5), .inl (tc 0, 6, .inl (Mf 5))), ((Ma 8), .inl (tc 1, 64, .inr (.inl oo0x2))), ((Ma 9), .inl (tc 1, 13, .inr (.inl oo0x3))), ((Ma 10), .inl (tc 0, 126, .inl oo0x4))]) 0 0 := by
  refine Ct.start (by decide) (Nat.le_of_ble_eq_true rfl) (fun p e s m below meth c A ls hx hb hr hlk hin hml hown hts hK hX hP hD hA hl hS => ?_)
  have hl : lv_has ls 3 [(0, .ref (Ma 0))] := hl
  have ar_h_said := SaidD.ar h_said
  refine lv_iconst (v := 0) hx hb dX12_passes_0 (by decide) ?_
  refine lv_istore_n (lv' := [(1, .int 0), (0, .ref (Ma 0))]) hx hb dX12_passes_1 rfl hl (by decide) rfl (fun ls hl₀ => ?_)
  replace hl := hl₀
  clear hl₀
  refine lv_iconst (v := 0) hx hb dX12_passes_2 (by decide) ?_
  refine lv_istore_n (lv' := [(2, .int 0), (1, .int 0), (0, .ref (Ma 0))]) hx hb dX12_passes_3 rfl hl (by decide) rfl (fun ls hl₀ => ?_)
  replace hl := hl₀
  clear hl₀
  have loop_3 : ∀ (n_1 : Nat) (yy_500 : Int32) (yy_501 : Int32) (yy_502 : Nat → Int64) (yy_503 : Nat → Int64) (yy_504 : Nat → Int32) (yy_505 : Int32) (H : Heap) (locs : List Loc) (ls : Array Slot), (6 - (yy_500 : Int32).toInt).toNat < n_1 → (dX12_passes_l4 (Mf 2) (Mf 4) (Mf 5) (Mv 11) (Mv 13) ((6 - (0 : Int32).toInt).toNat + 1) (0 : Int32) (Mv 10) (Mg 8) (Mg 9) (Mf 10) (0 : Int32)) = dX12_passes_l4 (Mf 2) (Mf 4) (Mf 5) (Mv 11) (Mv 13) ((6 - (yy_500 : Int32).toInt).toNat + 1) yy_500 yy_501 yy_502 yy_503 yy_504 yy_505 → (0 ≤ (yy_500 : Int32).toInt) → (SaidD T yy_504 d) → va_P D classes [((Ma 0), .inr (12, [.ref (Ma 1), .int (Mv 0), .int (Mv 1), .ref (Ma 2), .ref (Ma 3), .ref (Ma 4), .ref (Ma 5), .ref (Ma 6), .int (Mv 2), .int (Mv 3), .int (Mv 4), .int (Mv 5), .int (Mv 6), .int (Mv 7), .int (Mv 8), .ref (Ma 7), .int (Mv 9), .ref (Ma 8), .int yy_501, .ref (Ma 9), .ref (Ma 10), .int (Mv 11), .int (Mv 12), .int (Mv 13), .ref (Ma 11), .int (Mv 14), .ref (Ma 12), .ref (Ma 13), .ref (Ma 14), .ref (Ma 15), .ref (Ma 16), .long (Mj 0), .ref (Ma 17), .ref (Ma 18), .ref (Ma 19), .ref (Ma 20)])), ((Ma 2), .inl (tc 0, 2400, .inl (Mf 2))), ((Ma 4), .inl (tc 0, 288, .inl (Mf 4))), ((Ma 5), .inl (tc 0, 6, .inl (Mf 5))), ((Ma 8), .inl (tc 1, 64, .inr (.inl yy_502))), ((Ma 9), .inl (tc 1, 13, .inr (.inl yy_503))), ((Ma 10), .inl (tc 0, 126, .inl yy_504))] H → va_D A [((Ma 0), .inr (12, [.ref (Ma 1), .int (Mv 0), .int (Mv 1), .ref (Ma 2), .ref (Ma 3), .ref (Ma 4), .ref (Ma 5), .ref (Ma 6), .int (Mv 2), .int (Mv 3), .int (Mv 4), .int (Mv 5), .int (Mv 6), .int (Mv 7), .int (Mv 8), .ref (Ma 7), .int (Mv 9), .ref (Ma 8), .int yy_501, .ref (Ma 9), .ref (Ma 10), .int (Mv 11), .int (Mv 12), .int (Mv 13), .ref (Ma 11), .int (Mv 14), .ref (Ma 12), .ref (Ma 13), .ref (Ma 14), .ref (Ma 15), .ref (Ma 16), .long (Mj 0), .ref (Ma 17), .ref (Ma 18), .ref (Ma 19), .ref (Ma 20)])), ((Ma 2), .inl (tc 0, 2400, .inl (Mf 2))), ((Ma 4), .inl (tc 0, 288, .inl (Mf 4))), ((Ma 5), .inl (tc 0, 6, .inl (Mf 5))), ((Ma 8), .inl (tc 1, 64, .inr (.inl yy_502))), ((Ma 9), .inl (tc 1, 13, .inr (.inl yy_503))), ((Ma 10), .inl (tc 0, 126, .inl yy_504))] → va_S A s.heap H locs → lv_has ls 3 [(2, .int yy_500), (1, .int yy_505), (0, .ref (Ma 0))] → W p l e ({ frames := 4, cells := 0, slots := 0, locals := 99 }) s m ([.ref (Ma 0)].toArray) below meth c H locs 0 0 (MQ below (QW (fun (v : Option Value) (u : (Int32) × (Nat → Int64) × (Nat → Int64) × (Nat → Int32)) => match u with | (oo0x1, oo0x2, oo0x3, oo0x4) => ∃ r : Int32, v = some (.int r) ∧ ((True) ∧ (r, oo0x1, oo0x2, oo0x3, oo0x4) = (dX12_passes (Mf 2) (Mf 4) (Mf 5) (Mf 10) (Mg 8) (Mg 9) (Mv 10) (Mv 11) (Mv 13))) ∧ (SaidD T oo0x4 (d + 1))) (BW D (fun (u : (Int32) × (Nat → Int64) × (Nat → Int64) × (Nat → Int32)) => match u with | (oo0x1, oo0x2, oo0x3, oo0x4) => [((Ma 0), .inr (12, [.ref (Ma 1), .int (Mv 0), .int (Mv 1), .ref (Ma 2), .ref (Ma 3), .ref (Ma 4), .ref (Ma 5), .ref (Ma 6), .int (Mv 2), .int (Mv 3), .int (Mv 4), .int (Mv 5), .int (Mv 6), .int (Mv 7), .int (Mv 8), .ref (Ma 7), .int (Mv 9), .ref (Ma 8), .int oo0x1, .ref (Ma 9), .ref (Ma 10), .int (Mv 11), .int (Mv 12), .int (Mv 13), .ref (Ma 11), .int (Mv 14), .ref (Ma 12), .ref (Ma 13), .ref (Ma 14), .ref (Ma 15), .ref (Ma 16), .long (Mj 0), .ref (Ma 17), .ref (Ma 18), .ref (Ma 19), .ref (Ma 20)])), ((Ma 2), .inl (tc 0, 2400, .inl (Mf 2))), ((Ma 4), .inl (tc 0, 288, .inl (Mf 4))), ((Ma 5), .inl (tc 0, 6, .inl (Mf 5))), ((Ma 8), .inl (tc 1, 64, .inr (.inl oo0x2))), ((Ma 9), .inl (tc 1, 13, .inr (.inl oo0x3))), ((Ma 10), .inl (tc 0, 126, .inl oo0x4))]) A) A) ([.ref (Ma 0)].toArray) s 0 0 A) (F0 m 4 ls []) := by
    clear hP hD hS hl
    intro n_1
    induction n_1 with
    | zero =>
      intro yy_500 yy_501 yy_502 yy_503 yy_504 yy_505 H locs ls h1
      exact absurd h1 (Nat.not_lt_zero _)
    | succ n_1 ih_2 =>
      intro yy_500 yy_501 yy_502 yy_503 yy_504 yy_505 H locs ls hn_7 hL_6 pf_4 pf_5 hP hD hS hl
      have ar_pf_5 := SaidD.ar pf_5
      refine lv_iload_n hx hb dX12_passes_4 rfl (lv_at hl 0 rfl) ?_
      refine lv_aload_n hx hb dX12_passes_5 rfl (lv_at hl 2 rfl) ?_
      refine gf_X12_39 hx hb hts hown hK hP 0 rfl rfl dX12_passes_6 ?_
      refine lv_iconst (v := 3) hx hb dX12_passes_9 (by decide) ?_
      refine va_iald hx hb hK hP 6 0 rfl rfl (vin_dec (by decide +kernel)) dX12_passes_10 ?_
      refine lv_topi (fun x_8 ex_8 => ?_)
      have lx_8 : x_8.toInt = (yy_504 3).toInt := congrArg Int32.toInt ex_8
      refine lv_icmp_ge (tgt := 50) hx hb dX12_passes_11 (by decide) (fun c_9 => ?_) (fun c_9 => ?_)
      · skip
        have hb_11 : dX12_passes_l4 (Mf 2) (Mf 4) (Mf 5) (Mv 11) (Mv 13) ((6 - (yy_500 : Int32).toInt).toNat + 1) yy_500 yy_501 yy_502 yy_503 yy_504 yy_505 = (yy_500, yy_501, yy_502, yy_503, yy_504, yy_505) := by
          clear hP hD hS hl ih_2
          replace ex_8 := ex_8.symm; subst ex_8
          rw [dX12_passes_l4_s]
          rw [if_pos c_9]
          try rfl
        have hX_10 : (dX12_passes_l4 (Mf 2) (Mf 4) (Mf 5) (Mv 11) (Mv 13) ((6 - (0 : Int32).toInt).toNat + 1) (0 : Int32) (Mv 10) (Mg 8) (Mg 9) (Mf 10) (0 : Int32)) = (yy_500, yy_501, yy_502, yy_503, yy_504, yy_505) := hL_6.trans hb_11
        have hX_10_0 : (dX12_passes_l4 (Mf 2) (Mf 4) (Mf 5) (Mv 11) (Mv 13) ((6 - (0 : Int32).toInt).toNat + 1) (0 : Int32) (Mv 10) (Mg 8) (Mg 9) (Mf 10) (0 : Int32)).1 = yy_500 := congrArg (fun z => z.1) hX_10
        have hX_10_1 : (dX12_passes_l4 (Mf 2) (Mf 4) (Mf 5) (Mv 11) (Mv 13) ((6 - (0 : Int32).toInt).toNat + 1) (0 : Int32) (Mv 10) (Mg 8) (Mg 9) (Mf 10) (0 : Int32)).2.1 = yy_501 := congrArg (fun z => z.2.1) hX_10
        have hX_10_2 : (dX12_passes_l4 (Mf 2) (Mf 4) (Mf 5) (Mv 11) (Mv 13) ((6 - (0 : Int32).toInt).toNat + 1) (0 : Int32) (Mv 10) (Mg 8) (Mg 9) (Mf 10) (0 : Int32)).2.2.1 = yy_502 := congrArg (fun z => z.2.2.1) hX_10
        have hX_10_3 : (dX12_passes_l4 (Mf 2) (Mf 4) (Mf 5) (Mv 11) (Mv 13) ((6 - (0 : Int32).toInt).toNat + 1) (0 : Int32) (Mv 10) (Mg 8) (Mg 9) (Mf 10) (0 : Int32)).2.2.2.1 = yy_503 := congrArg (fun z => z.2.2.2.1) hX_10
        have hX_10_4 : (dX12_passes_l4 (Mf 2) (Mf 4) (Mf 5) (Mv 11) (Mv 13) ((6 - (0 : Int32).toInt).toNat + 1) (0 : Int32) (Mv 10) (Mg 8) (Mg 9) (Mf 10) (0 : Int32)).2.2.2.2.1 = yy_504 := congrArg (fun z => z.2.2.2.2.1) hX_10
        have hX_10_5 : (dX12_passes_l4 (Mf 2) (Mf 4) (Mf 5) (Mv 11) (Mv 13) ((6 - (0 : Int32).toInt).toNat + 1) (0 : Int32) (Mv 10) (Mg 8) (Mg 9) (Mf 10) (0 : Int32)).2.2.2.2.2 = yy_505 := congrArg (fun z => z.2.2.2.2.2) hX_10
        refine lv_aload_n hx hb dX12_passes_50 rfl (lv_at hl 2 rfl) ?_
        refine cV (a := (Ma 0)) (As := []) (rest := []) (wr := [((Ma 2), .inl (tc 0, 2400, .inl (Mf 2))), ((Ma 4), .inl (tc 0, 288, .inl (Mf 4))), ((Ma 5), .inl (tc 0, 6, .inl (Mf 5))), ((Ma 8), .inl (tc 1, 64, .inr (.inl yy_502))), ((Ma 9), .inl (tc 1, 13, .inr (.inl yy_503)))]) ⟨hx, hb, hml, hown, hts⟩ hK hX hA (cu_dX12_weathers l D tc sk (Ma 0) (Ma 1) (Ma 2) (Ma 3) (Ma 4) (Ma 5) (Ma 6) (Ma 7) (Ma 8) (Ma 9) (Ma 10) (Ma 11) (Ma 12) (Ma 13) (Ma 14) (Ma 15) (Ma 16) (Ma 17) (Ma 18) (Ma 19) (Ma 20) (Mv 0) (Mv 1) (Mv 2) (Mv 3) (Mv 4) (Mv 5) (Mv 6) (Mv 7) (Mv 8) (Mv 9) yy_501 (Mv 11) (Mv 12) (Mv 13) (Mv 14) yy_504 (Mj 0) d pf_5) k_1477 k_1474 k_1476 k_79 k_106 pl_X12_weathers ⟨Nat.le_of_ble_eq_true rfl, Nat.le_of_ble_eq_true rfl⟩ rfl rfl (va_recv hK hP (ci := 12) (q0 := 0) rfl rfl) hP hD hS [0, 6] [1, 2, 3, 4, 5] rfl rfl rfl rfl rfl (by decide) rfl hl.1 rfl (Nat.le_of_ble_eq_true rfl) dX12_passes_51 ⟨Nat.le_of_ble_eq_true rfl, Nat.le_of_ble_eq_true rfl⟩ (fun v_12 u_13 H locs hv_14 hP₀ hD₀ hS₀ => ?_)
        obtain ⟨sv_15, rfl⟩ : ∃ z, z = u_13 := ⟨_, rfl⟩
        obtain ⟨rfl, pf_16, pf_17⟩ := hv_14
        have pf_16 : SaidD T sv_15 d := pf_16
        have ar_pf_16 := SaidD.ar pf_16
        have pf_17 : DEq (sv_15) (dX12_weathers yy_504) := pf_17
        refine W.eq (g2 := F0 m 54 ls []) rfl ?_
        replace hP : va_P D classes [((Ma 2), .inl (tc 0, 2400, .inl (Mf 2))), ((Ma 4), .inl (tc 0, 288, .inl (Mf 4))), ((Ma 5), .inl (tc 0, 6, .inl (Mf 5))), ((Ma 8), .inl (tc 1, 64, .inr (.inl yy_502))), ((Ma 9), .inl (tc 1, 13, .inr (.inl yy_503))), ((Ma 0), .inr (12, [.ref (Ma 1), .int (Mv 0), .int (Mv 1), .ref (Ma 2), .ref (Ma 3), .ref (Ma 4), .ref (Ma 5), .ref (Ma 6), .int (Mv 2), .int (Mv 3), .int (Mv 4), .int (Mv 5), .int (Mv 6), .int (Mv 7), .int (Mv 8), .ref (Ma 7), .int (Mv 9), .ref (Ma 8), .int yy_501, .ref (Ma 9), .ref (Ma 10), .int (Mv 11), .int (Mv 12), .int (Mv 13), .ref (Ma 11), .int (Mv 14), .ref (Ma 12), .ref (Ma 13), .ref (Ma 14), .ref (Ma 15), .ref (Ma 16), .long (Mj 0), .ref (Ma 17), .ref (Ma 18), .ref (Ma 19), .ref (Ma 20)])), ((Ma 10), .inl (tc 0, 126, .inl sv_15))] H := hP₀
        replace hD : va_D A [((Ma 2), .inl (tc 0, 2400, .inl (Mf 2))), ((Ma 4), .inl (tc 0, 288, .inl (Mf 4))), ((Ma 5), .inl (tc 0, 6, .inl (Mf 5))), ((Ma 8), .inl (tc 1, 64, .inr (.inl yy_502))), ((Ma 9), .inl (tc 1, 13, .inr (.inl yy_503))), ((Ma 0), .inr (12, [.ref (Ma 1), .int (Mv 0), .int (Mv 1), .ref (Ma 2), .ref (Ma 3), .ref (Ma 4), .ref (Ma 5), .ref (Ma 6), .int (Mv 2), .int (Mv 3), .int (Mv 4), .int (Mv 5), .int (Mv 6), .int (Mv 7), .int (Mv 8), .ref (Ma 7), .int (Mv 9), .ref (Ma 8), .int yy_501, .ref (Ma 9), .ref (Ma 10), .int (Mv 11), .int (Mv 12), .int (Mv 13), .ref (Ma 11), .int (Mv 14), .ref (Ma 12), .ref (Ma 13), .ref (Ma 14), .ref (Ma 15), .ref (Ma 16), .long (Mj 0), .ref (Ma 17), .ref (Ma 18), .ref (Ma 19), .ref (Ma 20)])), ((Ma 10), .inl (tc 0, 126, .inl sv_15))] := hD₀
        replace hS := hS₀
        clear hP₀ hD₀ hS₀
        have esv_15 : sv_15 = (dX12_weathers yy_504) := pf_17
        refine lv_aload_n hx hb dX12_passes_54 rfl (lv_at hl 2 rfl) ?_
        refine gf_X12_39 hx hb hts hown hK hP 5 rfl rfl dX12_passes_55 ?_
        refine lv_bipush (v := 10) hx hb dX12_passes_58 (by decide) ?_
        refine va_iald hx hb hK hP 6 0 rfl rfl (vin_dec (by decide +kernel)) dX12_passes_60 ?_
        refine lv_topi (fun x_18 ex_18 => ?_)
        have lx_18 : x_18.toInt = (sv_15 10).toInt := congrArg Int32.toInt ex_18
        refine lv_bipush (v := 7) hx hb dX12_passes_61 (by decide) ?_
        refine lv_irem hx hb dX12_passes_63 (by decide) ?_
        refine lv_topi (fun x_19 ex_19 => ?_)
        refine lv_bipush (v := 6) hx hb dX12_passes_64 (by decide) ?_
        refine lv_icmp_ne (tgt := 106) hx hb dX12_passes_66 (by decide) (fun c_20 => ?_) (fun c_20 => ?_)
        · skip
          refine lv_aload_n hx hb dX12_passes_106 rfl (lv_at hl 2 rfl) ?_
          refine gf_X12_39 hx hb hts hown hK hP 5 rfl rfl dX12_passes_107 ?_
          refine lv_bipush (v := 10) hx hb dX12_passes_110 (by decide) ?_
          refine lv_dup2_11 hx hb dX12_passes_112 rfl rfl ?_
          refine va_iald hx hb hK hP 6 0 rfl rfl (vin_dec (by decide +kernel)) dX12_passes_113 ?_
          refine lv_topi (fun x_21 ex_21 => ?_)
          have lx_21 : x_21.toInt = (sv_15 10).toInt := congrArg Int32.toInt ex_21
          refine lv_iconst (v := 1) hx hb dX12_passes_114 (by decide) ?_
          refine lv_iadd hx hb dX12_passes_115 ?_
          refine lv_topi (fun x_22 ex_22 => ?_)
          refine st_int hx hb hK hP hD hS 6 0 rfl rfl (vin_dec (by decide +kernel)) dX12_passes_116 (fun g_23 H locs eg_23 hP₀ hD₀ hS₀ => ?_)
          replace hP : va_P D classes [((Ma 2), .inl (tc 0, 2400, .inl (Mf 2))), ((Ma 4), .inl (tc 0, 288, .inl (Mf 4))), ((Ma 5), .inl (tc 0, 6, .inl (Mf 5))), ((Ma 8), .inl (tc 1, 64, .inr (.inl yy_502))), ((Ma 9), .inl (tc 1, 13, .inr (.inl yy_503))), ((Ma 0), .inr (12, [.ref (Ma 1), .int (Mv 0), .int (Mv 1), .ref (Ma 2), .ref (Ma 3), .ref (Ma 4), .ref (Ma 5), .ref (Ma 6), .int (Mv 2), .int (Mv 3), .int (Mv 4), .int (Mv 5), .int (Mv 6), .int (Mv 7), .int (Mv 8), .ref (Ma 7), .int (Mv 9), .ref (Ma 8), .int yy_501, .ref (Ma 9), .ref (Ma 10), .int (Mv 11), .int (Mv 12), .int (Mv 13), .ref (Ma 11), .int (Mv 14), .ref (Ma 12), .ref (Ma 13), .ref (Ma 14), .ref (Ma 15), .ref (Ma 16), .long (Mj 0), .ref (Ma 17), .ref (Ma 18), .ref (Ma 19), .ref (Ma 20)])), ((Ma 10), .inl (tc 0, 126, .inl g_23))] H := hP₀
          replace hD : va_D A [((Ma 2), .inl (tc 0, 2400, .inl (Mf 2))), ((Ma 4), .inl (tc 0, 288, .inl (Mf 4))), ((Ma 5), .inl (tc 0, 6, .inl (Mf 5))), ((Ma 8), .inl (tc 1, 64, .inr (.inl yy_502))), ((Ma 9), .inl (tc 1, 13, .inr (.inl yy_503))), ((Ma 0), .inr (12, [.ref (Ma 1), .int (Mv 0), .int (Mv 1), .ref (Ma 2), .ref (Ma 3), .ref (Ma 4), .ref (Ma 5), .ref (Ma 6), .int (Mv 2), .int (Mv 3), .int (Mv 4), .int (Mv 5), .int (Mv 6), .int (Mv 7), .int (Mv 8), .ref (Ma 7), .int (Mv 9), .ref (Ma 8), .int yy_501, .ref (Ma 9), .ref (Ma 10), .int (Mv 11), .int (Mv 12), .int (Mv 13), .ref (Ma 11), .int (Mv 14), .ref (Ma 12), .ref (Ma 13), .ref (Ma 14), .ref (Ma 15), .ref (Ma 16), .long (Mj 0), .ref (Ma 17), .ref (Ma 18), .ref (Ma 19), .ref (Ma 20)])), ((Ma 10), .inl (tc 0, 126, .inl g_23))] := hD₀
          replace hS := hS₀
          clear hP₀ hD₀ hS₀
          have hx_25 : 0 ≤ (x_22 : Int32).toInt ∧ (x_22 : Int32).toInt ≤ (d + 1) := by
            have z_1 := Int32.le_iff_toInt_le.mp c_9
            have z_2 : ¬ (x_19 : Int32).toInt = (6 : Int32).toInt := fun z => c_20 (Int32.toInt_inj.mp z)
            have y_6 : (6 : Int32).toInt = 6 := by decide
            have y_1 : (1 : Int32).toInt = 1 := by decide
            have y_7 : (7 : Int32).toInt = 7 := by decide
            have t_x_22 : x_22.toInt = (x_21 : Int32).toInt + (1 : Int32).toInt := by rw [ex_22]; exact add_toInt (by omega) (by omega)
            have t_x_19 := rem_bounds (x := x_18) (y := 7) (by omega)
            rw [← ex_19] at t_x_19
            omega
          have pf_24 : SaidD T g_23 (d + 1) := SaidD.day pf_16.1 eg_23 (by decide) hx_25
          have ar_pf_24 := SaidD.ar pf_24
          refine lv_iload_n hx hb dX12_passes_117 rfl (lv_at hl 1 rfl) ?_
          have hF_26 : (yy_505, yy_501, yy_502, yy_503, g_23) = (dX12_passes (Mf 2) (Mf 4) (Mf 5) (Mf 10) (Mg 8) (Mg 9) (Mv 10) (Mv 11) (Mv 13)) := by
            clear hP hD hS hl ih_2
            replace ex_8 := ex_8.symm; subst ex_8
            replace esv_15 := esv_15.symm; subst esv_15
            replace ex_18 := ex_18.symm; subst ex_18
            replace ex_19 := ex_19.symm; subst ex_19
            replace ex_21 := ex_21.symm; subst ex_21
            replace ex_22 := ex_22.symm; subst ex_22
            replace eg_23 := eg_23.symm; subst eg_23
            unfold dX12_passes
            try rw [hX_10_0]
            try rw [hX_10_1]
            try rw [hX_10_2]
            try rw [hX_10_3]
            try rw [hX_10_4]
            try rw [hX_10_5]
            rw [if_neg c_20]
            try rfl
          exact retI (v := yy_505) hx hb hr hlk (rfl) hP hD hS (yy_501, yy_502, yy_503, g_23) ⟨_, rfl, ⟨trivial, hF_26⟩, pf_24⟩ [5, 0, 1, 2, 3, 4, 6] rfl rfl dX12_passes_118 (Nat.le_of_ble_eq_true rfl) (Nat.le_of_ble_eq_true rfl) rfl
        · skip
          refine lv_aload_n hx hb dX12_passes_69 rfl (lv_at hl 2 rfl) ?_
          refine gf_X12_39 hx hb hts hown hK hP 5 rfl rfl dX12_passes_70 ?_
          refine lv_bipush (v := 11) hx hb dX12_passes_73 (by decide) ?_
          refine lv_dup2_11 hx hb dX12_passes_75 rfl rfl ?_
          refine va_iald hx hb hK hP 6 0 rfl rfl (vin_dec (by decide +kernel)) dX12_passes_76 ?_
          refine lv_topi (fun x_27 ex_27 => ?_)
          have lx_27 : x_27.toInt = (sv_15 11).toInt := congrArg Int32.toInt ex_27
          refine lv_aload_n hx hb dX12_passes_77 rfl (lv_at hl 2 rfl) ?_
          refine gf_X12_39 hx hb hts hown hK hP 5 rfl rfl dX12_passes_78 ?_
          refine lv_iconst (v := 1) hx hb dX12_passes_81 (by decide) ?_
          refine va_iald hx hb hK hP 6 0 rfl rfl (vin_dec (by decide +kernel)) dX12_passes_82 ?_
          refine lv_topi (fun x_28 ex_28 => ?_)
          have lx_28 : x_28.toInt = (sv_15 1).toInt := congrArg Int32.toInt ex_28
          refine lv_iadd hx hb dX12_passes_83 ?_
          refine lv_topi (fun x_29 ex_29 => ?_)
          refine st_int hx hb hK hP hD hS 6 0 rfl rfl (vin_dec (by decide +kernel)) dX12_passes_84 (fun g_30 H locs eg_30 hP₀ hD₀ hS₀ => ?_)
          replace hP : va_P D classes [((Ma 2), .inl (tc 0, 2400, .inl (Mf 2))), ((Ma 4), .inl (tc 0, 288, .inl (Mf 4))), ((Ma 5), .inl (tc 0, 6, .inl (Mf 5))), ((Ma 8), .inl (tc 1, 64, .inr (.inl yy_502))), ((Ma 9), .inl (tc 1, 13, .inr (.inl yy_503))), ((Ma 0), .inr (12, [.ref (Ma 1), .int (Mv 0), .int (Mv 1), .ref (Ma 2), .ref (Ma 3), .ref (Ma 4), .ref (Ma 5), .ref (Ma 6), .int (Mv 2), .int (Mv 3), .int (Mv 4), .int (Mv 5), .int (Mv 6), .int (Mv 7), .int (Mv 8), .ref (Ma 7), .int (Mv 9), .ref (Ma 8), .int yy_501, .ref (Ma 9), .ref (Ma 10), .int (Mv 11), .int (Mv 12), .int (Mv 13), .ref (Ma 11), .int (Mv 14), .ref (Ma 12), .ref (Ma 13), .ref (Ma 14), .ref (Ma 15), .ref (Ma 16), .long (Mj 0), .ref (Ma 17), .ref (Ma 18), .ref (Ma 19), .ref (Ma 20)])), ((Ma 10), .inl (tc 0, 126, .inl g_30))] H := hP₀
          replace hD : va_D A [((Ma 2), .inl (tc 0, 2400, .inl (Mf 2))), ((Ma 4), .inl (tc 0, 288, .inl (Mf 4))), ((Ma 5), .inl (tc 0, 6, .inl (Mf 5))), ((Ma 8), .inl (tc 1, 64, .inr (.inl yy_502))), ((Ma 9), .inl (tc 1, 13, .inr (.inl yy_503))), ((Ma 0), .inr (12, [.ref (Ma 1), .int (Mv 0), .int (Mv 1), .ref (Ma 2), .ref (Ma 3), .ref (Ma 4), .ref (Ma 5), .ref (Ma 6), .int (Mv 2), .int (Mv 3), .int (Mv 4), .int (Mv 5), .int (Mv 6), .int (Mv 7), .int (Mv 8), .ref (Ma 7), .int (Mv 9), .ref (Ma 8), .int yy_501, .ref (Ma 9), .ref (Ma 10), .int (Mv 11), .int (Mv 12), .int (Mv 13), .ref (Ma 11), .int (Mv 14), .ref (Ma 12), .ref (Ma 13), .ref (Ma 14), .ref (Ma 15), .ref (Ma 16), .long (Mj 0), .ref (Ma 17), .ref (Ma 18), .ref (Ma 19), .ref (Ma 20)])), ((Ma 10), .inl (tc 0, 126, .inl g_30))] := hD₀
          replace hS := hS₀
          clear hP₀ hD₀ hS₀
          have pf_31 : SaidD T g_30 d := SaidD.keep pf_16 eg_30 (by decide)
          have ar_pf_31 := SaidD.ar pf_31
          refine lv_aload_n hx hb dX12_passes_85 rfl (lv_at hl 2 rfl) ?_
          refine gf_X12_39 hx hb hts hown hK hP 5 rfl rfl dX12_passes_86 ?_
          refine lv_bipush (v := 11) hx hb dX12_passes_89 (by decide) ?_
          refine va_iald hx hb hK hP 6 0 rfl rfl (vin_dec (by decide +kernel)) dX12_passes_91 ?_
          refine lv_topi (fun x_32 ex_32 => ?_)
          have lx_32 : x_32.toInt = (g_30 11).toInt := congrArg Int32.toInt ex_32
          refine lv_bipush (v := 99) hx hb dX12_passes_92 (by decide) ?_
          refine lv_icmp_le (tgt := 106) hx hb dX12_passes_94 (by decide) (fun c_33 => ?_) (fun c_33 => ?_)
          · skip
            refine lv_aload_n hx hb dX12_passes_106 rfl (lv_at hl 2 rfl) ?_
            refine gf_X12_39 hx hb hts hown hK hP 5 rfl rfl dX12_passes_107 ?_
            refine lv_bipush (v := 10) hx hb dX12_passes_110 (by decide) ?_
            refine lv_dup2_11 hx hb dX12_passes_112 rfl rfl ?_
            refine va_iald hx hb hK hP 6 0 rfl rfl (vin_dec (by decide +kernel)) dX12_passes_113 ?_
            refine lv_topi (fun x_34 ex_34 => ?_)
            have lx_34 : x_34.toInt = (g_30 10).toInt := congrArg Int32.toInt ex_34
            refine lv_iconst (v := 1) hx hb dX12_passes_114 (by decide) ?_
            refine lv_iadd hx hb dX12_passes_115 ?_
            refine lv_topi (fun x_35 ex_35 => ?_)
            refine st_int hx hb hK hP hD hS 6 0 rfl rfl (vin_dec (by decide +kernel)) dX12_passes_116 (fun g_36 H locs eg_36 hP₀ hD₀ hS₀ => ?_)
            replace hP : va_P D classes [((Ma 2), .inl (tc 0, 2400, .inl (Mf 2))), ((Ma 4), .inl (tc 0, 288, .inl (Mf 4))), ((Ma 5), .inl (tc 0, 6, .inl (Mf 5))), ((Ma 8), .inl (tc 1, 64, .inr (.inl yy_502))), ((Ma 9), .inl (tc 1, 13, .inr (.inl yy_503))), ((Ma 0), .inr (12, [.ref (Ma 1), .int (Mv 0), .int (Mv 1), .ref (Ma 2), .ref (Ma 3), .ref (Ma 4), .ref (Ma 5), .ref (Ma 6), .int (Mv 2), .int (Mv 3), .int (Mv 4), .int (Mv 5), .int (Mv 6), .int (Mv 7), .int (Mv 8), .ref (Ma 7), .int (Mv 9), .ref (Ma 8), .int yy_501, .ref (Ma 9), .ref (Ma 10), .int (Mv 11), .int (Mv 12), .int (Mv 13), .ref (Ma 11), .int (Mv 14), .ref (Ma 12), .ref (Ma 13), .ref (Ma 14), .ref (Ma 15), .ref (Ma 16), .long (Mj 0), .ref (Ma 17), .ref (Ma 18), .ref (Ma 19), .ref (Ma 20)])), ((Ma 10), .inl (tc 0, 126, .inl g_36))] H := hP₀
            replace hD : va_D A [((Ma 2), .inl (tc 0, 2400, .inl (Mf 2))), ((Ma 4), .inl (tc 0, 288, .inl (Mf 4))), ((Ma 5), .inl (tc 0, 6, .inl (Mf 5))), ((Ma 8), .inl (tc 1, 64, .inr (.inl yy_502))), ((Ma 9), .inl (tc 1, 13, .inr (.inl yy_503))), ((Ma 0), .inr (12, [.ref (Ma 1), .int (Mv 0), .int (Mv 1), .ref (Ma 2), .ref (Ma 3), .ref (Ma 4), .ref (Ma 5), .ref (Ma 6), .int (Mv 2), .int (Mv 3), .int (Mv 4), .int (Mv 5), .int (Mv 6), .int (Mv 7), .int (Mv 8), .ref (Ma 7), .int (Mv 9), .ref (Ma 8), .int yy_501, .ref (Ma 9), .ref (Ma 10), .int (Mv 11), .int (Mv 12), .int (Mv 13), .ref (Ma 11), .int (Mv 14), .ref (Ma 12), .ref (Ma 13), .ref (Ma 14), .ref (Ma 15), .ref (Ma 16), .long (Mj 0), .ref (Ma 17), .ref (Ma 18), .ref (Ma 19), .ref (Ma 20)])), ((Ma 10), .inl (tc 0, 126, .inl g_36))] := hD₀
            replace hS := hS₀
            clear hP₀ hD₀ hS₀
            have hx_38 : 0 ≤ (x_35 : Int32).toInt ∧ (x_35 : Int32).toInt ≤ (d + 1) := by
              have z_1 := Int32.le_iff_toInt_le.mp c_9
              have z_2 := congrArg Int32.toInt c_20
              have z_3 := Int32.le_iff_toInt_le.mp c_33
              have y_6 : (6 : Int32).toInt = 6 := by decide
              have y_99 : (99 : Int32).toInt = 99 := by decide
              have y_1 : (1 : Int32).toInt = 1 := by decide
              have y_7 : (7 : Int32).toInt = 7 := by decide
              have t_x_35 : x_35.toInt = (x_34 : Int32).toInt + (1 : Int32).toInt := by rw [ex_35]; exact add_toInt (by omega) (by omega)
              have t_x_19 := rem_bounds (x := x_18) (y := 7) (by omega)
              rw [← ex_19] at t_x_19
              omega
            have pf_37 : SaidD T g_36 (d + 1) := SaidD.day pf_31.1 eg_36 (by decide) hx_38
            have ar_pf_37 := SaidD.ar pf_37
            refine lv_iload_n hx hb dX12_passes_117 rfl (lv_at hl 1 rfl) ?_
            have hF_39 : (yy_505, yy_501, yy_502, yy_503, g_36) = (dX12_passes (Mf 2) (Mf 4) (Mf 5) (Mf 10) (Mg 8) (Mg 9) (Mv 10) (Mv 11) (Mv 13)) := by
              clear hP hD hS hl ih_2
              replace ex_8 := ex_8.symm; subst ex_8
              replace esv_15 := esv_15.symm; subst esv_15
              replace ex_18 := ex_18.symm; subst ex_18
              replace ex_19 := ex_19.symm; subst ex_19
              replace ex_27 := ex_27.symm; subst ex_27
              replace ex_28 := ex_28.symm; subst ex_28
              replace ex_29 := ex_29.symm; subst ex_29
              replace eg_30 := eg_30.symm; subst eg_30
              replace ex_32 := ex_32.symm; subst ex_32
              replace ex_34 := ex_34.symm; subst ex_34
              replace ex_35 := ex_35.symm; subst ex_35
              replace eg_36 := eg_36.symm; subst eg_36
              unfold dX12_passes
              try rw [hX_10_0]
              try rw [hX_10_1]
              try rw [hX_10_2]
              try rw [hX_10_3]
              try rw [hX_10_4]
              try rw [hX_10_5]
              rw [if_pos c_20, if_pos c_33]
              try rfl
            exact retI (v := yy_505) hx hb hr hlk (rfl) hP hD hS (yy_501, yy_502, yy_503, g_36) ⟨_, rfl, ⟨trivial, hF_39⟩, pf_37⟩ [5, 0, 1, 2, 3, 4, 6] rfl rfl dX12_passes_118 (Nat.le_of_ble_eq_true rfl) (Nat.le_of_ble_eq_true rfl) rfl
          · skip
            refine lv_aload_n hx hb dX12_passes_97 rfl (lv_at hl 2 rfl) ?_
            refine gf_X12_39 hx hb hts hown hK hP 5 rfl rfl dX12_passes_98 ?_
            refine lv_bipush (v := 11) hx hb dX12_passes_101 (by decide) ?_
            refine lv_bipush (v := 99) hx hb dX12_passes_103 (by decide) ?_
            refine st_int hx hb hK hP hD hS 6 0 rfl rfl (vin_dec (by decide +kernel)) dX12_passes_105 (fun g_40 H locs eg_40 hP₀ hD₀ hS₀ => ?_)
            replace hP : va_P D classes [((Ma 2), .inl (tc 0, 2400, .inl (Mf 2))), ((Ma 4), .inl (tc 0, 288, .inl (Mf 4))), ((Ma 5), .inl (tc 0, 6, .inl (Mf 5))), ((Ma 8), .inl (tc 1, 64, .inr (.inl yy_502))), ((Ma 9), .inl (tc 1, 13, .inr (.inl yy_503))), ((Ma 0), .inr (12, [.ref (Ma 1), .int (Mv 0), .int (Mv 1), .ref (Ma 2), .ref (Ma 3), .ref (Ma 4), .ref (Ma 5), .ref (Ma 6), .int (Mv 2), .int (Mv 3), .int (Mv 4), .int (Mv 5), .int (Mv 6), .int (Mv 7), .int (Mv 8), .ref (Ma 7), .int (Mv 9), .ref (Ma 8), .int yy_501, .ref (Ma 9), .ref (Ma 10), .int (Mv 11), .int (Mv 12), .int (Mv 13), .ref (Ma 11), .int (Mv 14), .ref (Ma 12), .ref (Ma 13), .ref (Ma 14), .ref (Ma 15), .ref (Ma 16), .long (Mj 0), .ref (Ma 17), .ref (Ma 18), .ref (Ma 19), .ref (Ma 20)])), ((Ma 10), .inl (tc 0, 126, .inl g_40))] H := hP₀
            replace hD : va_D A [((Ma 2), .inl (tc 0, 2400, .inl (Mf 2))), ((Ma 4), .inl (tc 0, 288, .inl (Mf 4))), ((Ma 5), .inl (tc 0, 6, .inl (Mf 5))), ((Ma 8), .inl (tc 1, 64, .inr (.inl yy_502))), ((Ma 9), .inl (tc 1, 13, .inr (.inl yy_503))), ((Ma 0), .inr (12, [.ref (Ma 1), .int (Mv 0), .int (Mv 1), .ref (Ma 2), .ref (Ma 3), .ref (Ma 4), .ref (Ma 5), .ref (Ma 6), .int (Mv 2), .int (Mv 3), .int (Mv 4), .int (Mv 5), .int (Mv 6), .int (Mv 7), .int (Mv 8), .ref (Ma 7), .int (Mv 9), .ref (Ma 8), .int yy_501, .ref (Ma 9), .ref (Ma 10), .int (Mv 11), .int (Mv 12), .int (Mv 13), .ref (Ma 11), .int (Mv 14), .ref (Ma 12), .ref (Ma 13), .ref (Ma 14), .ref (Ma 15), .ref (Ma 16), .long (Mj 0), .ref (Ma 17), .ref (Ma 18), .ref (Ma 19), .ref (Ma 20)])), ((Ma 10), .inl (tc 0, 126, .inl g_40))] := hD₀
            replace hS := hS₀
            clear hP₀ hD₀ hS₀
            have pf_41 : SaidD T g_40 d := SaidD.keep pf_31 eg_40 (by decide)
            have ar_pf_41 := SaidD.ar pf_41
            refine lv_aload_n hx hb dX12_passes_106 rfl (lv_at hl 2 rfl) ?_
            refine gf_X12_39 hx hb hts hown hK hP 5 rfl rfl dX12_passes_107 ?_
            refine lv_bipush (v := 10) hx hb dX12_passes_110 (by decide) ?_
            refine lv_dup2_11 hx hb dX12_passes_112 rfl rfl ?_
            refine va_iald hx hb hK hP 6 0 rfl rfl (vin_dec (by decide +kernel)) dX12_passes_113 ?_
            refine lv_topi (fun x_42 ex_42 => ?_)
            have lx_42 : x_42.toInt = (g_40 10).toInt := congrArg Int32.toInt ex_42
            refine lv_iconst (v := 1) hx hb dX12_passes_114 (by decide) ?_
            refine lv_iadd hx hb dX12_passes_115 ?_
            refine lv_topi (fun x_43 ex_43 => ?_)
            refine st_int hx hb hK hP hD hS 6 0 rfl rfl (vin_dec (by decide +kernel)) dX12_passes_116 (fun g_44 H locs eg_44 hP₀ hD₀ hS₀ => ?_)
            replace hP : va_P D classes [((Ma 2), .inl (tc 0, 2400, .inl (Mf 2))), ((Ma 4), .inl (tc 0, 288, .inl (Mf 4))), ((Ma 5), .inl (tc 0, 6, .inl (Mf 5))), ((Ma 8), .inl (tc 1, 64, .inr (.inl yy_502))), ((Ma 9), .inl (tc 1, 13, .inr (.inl yy_503))), ((Ma 0), .inr (12, [.ref (Ma 1), .int (Mv 0), .int (Mv 1), .ref (Ma 2), .ref (Ma 3), .ref (Ma 4), .ref (Ma 5), .ref (Ma 6), .int (Mv 2), .int (Mv 3), .int (Mv 4), .int (Mv 5), .int (Mv 6), .int (Mv 7), .int (Mv 8), .ref (Ma 7), .int (Mv 9), .ref (Ma 8), .int yy_501, .ref (Ma 9), .ref (Ma 10), .int (Mv 11), .int (Mv 12), .int (Mv 13), .ref (Ma 11), .int (Mv 14), .ref (Ma 12), .ref (Ma 13), .ref (Ma 14), .ref (Ma 15), .ref (Ma 16), .long (Mj 0), .ref (Ma 17), .ref (Ma 18), .ref (Ma 19), .ref (Ma 20)])), ((Ma 10), .inl (tc 0, 126, .inl g_44))] H := hP₀
            replace hD : va_D A [((Ma 2), .inl (tc 0, 2400, .inl (Mf 2))), ((Ma 4), .inl (tc 0, 288, .inl (Mf 4))), ((Ma 5), .inl (tc 0, 6, .inl (Mf 5))), ((Ma 8), .inl (tc 1, 64, .inr (.inl yy_502))), ((Ma 9), .inl (tc 1, 13, .inr (.inl yy_503))), ((Ma 0), .inr (12, [.ref (Ma 1), .int (Mv 0), .int (Mv 1), .ref (Ma 2), .ref (Ma 3), .ref (Ma 4), .ref (Ma 5), .ref (Ma 6), .int (Mv 2), .int (Mv 3), .int (Mv 4), .int (Mv 5), .int (Mv 6), .int (Mv 7), .int (Mv 8), .ref (Ma 7), .int (Mv 9), .ref (Ma 8), .int yy_501, .ref (Ma 9), .ref (Ma 10), .int (Mv 11), .int (Mv 12), .int (Mv 13), .ref (Ma 11), .int (Mv 14), .ref (Ma 12), .ref (Ma 13), .ref (Ma 14), .ref (Ma 15), .ref (Ma 16), .long (Mj 0), .ref (Ma 17), .ref (Ma 18), .ref (Ma 19), .ref (Ma 20)])), ((Ma 10), .inl (tc 0, 126, .inl g_44))] := hD₀
            replace hS := hS₀
            clear hP₀ hD₀ hS₀
            have hx_46 : 0 ≤ (x_43 : Int32).toInt ∧ (x_43 : Int32).toInt ≤ (d + 1) := by
              have z_1 := Int32.le_iff_toInt_le.mp c_9
              have z_2 := congrArg Int32.toInt c_20
              have z_3 := Int32.lt_iff_toInt_lt.mp (Int32.not_le.mp c_33)
              have y_6 : (6 : Int32).toInt = 6 := by decide
              have y_99 : (99 : Int32).toInt = 99 := by decide
              have y_1 : (1 : Int32).toInt = 1 := by decide
              have y_7 : (7 : Int32).toInt = 7 := by decide
              have t_x_43 : x_43.toInt = (x_42 : Int32).toInt + (1 : Int32).toInt := by rw [ex_43]; exact add_toInt (by omega) (by omega)
              have t_x_19 := rem_bounds (x := x_18) (y := 7) (by omega)
              rw [← ex_19] at t_x_19
              omega
            have pf_45 : SaidD T g_44 (d + 1) := SaidD.day pf_41.1 eg_44 (by decide) hx_46
            have ar_pf_45 := SaidD.ar pf_45
            refine lv_iload_n hx hb dX12_passes_117 rfl (lv_at hl 1 rfl) ?_
            have hF_47 : (yy_505, yy_501, yy_502, yy_503, g_44) = (dX12_passes (Mf 2) (Mf 4) (Mf 5) (Mf 10) (Mg 8) (Mg 9) (Mv 10) (Mv 11) (Mv 13)) := by
              clear hP hD hS hl ih_2
              replace ex_8 := ex_8.symm; subst ex_8
              replace esv_15 := esv_15.symm; subst esv_15
              replace ex_18 := ex_18.symm; subst ex_18
              replace ex_19 := ex_19.symm; subst ex_19
              replace ex_27 := ex_27.symm; subst ex_27
              replace ex_28 := ex_28.symm; subst ex_28
              replace ex_29 := ex_29.symm; subst ex_29
              replace eg_30 := eg_30.symm; subst eg_30
              replace ex_32 := ex_32.symm; subst ex_32
              replace eg_40 := eg_40.symm; subst eg_40
              replace ex_42 := ex_42.symm; subst ex_42
              replace ex_43 := ex_43.symm; subst ex_43
              replace eg_44 := eg_44.symm; subst eg_44
              unfold dX12_passes
              try rw [hX_10_0]
              try rw [hX_10_1]
              try rw [hX_10_2]
              try rw [hX_10_3]
              try rw [hX_10_4]
              try rw [hX_10_5]
              rw [if_pos c_20, if_neg c_33]
              try rfl
            exact retI (v := yy_505) hx hb hr hlk (rfl) hP hD hS (yy_501, yy_502, yy_503, g_44) ⟨_, rfl, ⟨trivial, hF_47⟩, pf_45⟩ [5, 0, 1, 2, 3, 4, 6] rfl rfl dX12_passes_118 (Nat.le_of_ble_eq_true rfl) (Nat.le_of_ble_eq_true rfl) rfl
      · skip
        refine lv_aload_n hx hb dX12_passes_14 rfl (lv_at hl 2 rfl) ?_
        refine lv_iload_n hx hb dX12_passes_15 rfl (lv_at hl 0 rfl) ?_
        have ha_48 : 0 ≤ yy_500.toInt ∧ yy_500.toInt < 6 := by
          have z_1 := Int32.lt_iff_toInt_lt.mp (Int32.not_le.mp c_9)
          omega
        refine cV (a := (Ma 0)) (As := [.int yy_500]) (rest := []) (wr := [((Ma 2), .inl (tc 0, 2400, .inl (Mf 2))), ((Ma 4), .inl (tc 0, 288, .inl (Mf 4))), ((Ma 5), .inl (tc 0, 6, .inl (Mf 5))), ((Ma 8), .inl (tc 1, 64, .inr (.inl yy_502))), ((Ma 9), .inl (tc 1, 13, .inr (.inl yy_503)))]) ⟨hx, hb, hml, hown, hts⟩ hK hX hA (cu_dX12_canBuy l D tc sk (Ma 0) (Ma 1) (Ma 2) (Ma 3) (Ma 4) (Ma 5) (Ma 6) (Ma 7) (Ma 8) (Ma 9) (Ma 10) (Ma 11) (Ma 12) (Ma 13) (Ma 14) (Ma 15) (Ma 16) (Ma 17) (Ma 18) (Ma 19) (Ma 20) (Mv 0) (Mv 1) (Mv 2) (Mv 3) (Mv 4) (Mv 5) (Mv 6) (Mv 7) (Mv 8) (Mv 9) yy_501 (Mv 11) (Mv 12) (Mv 13) (Mv 14) yy_504 (Mj 0) yy_500 ha_48) k_1427 k_1424 k_1426 k_68 k_106 pl_X12_canBuy ⟨Nat.le_of_ble_eq_true rfl, Nat.le_of_ble_eq_true rfl⟩ rfl rfl (va_recv hK hP (ci := 12) (q0 := 0) rfl rfl) hP hD hS [0, 6] [1, 2, 3, 4, 5] rfl rfl rfl rfl rfl (by decide) rfl hl.1 rfl (Nat.le_of_ble_eq_true rfl) dX12_passes_16 ⟨Nat.le_of_ble_eq_true rfl, Nat.le_of_ble_eq_true rfl⟩ (fun v_49 u_50 H locs hv_51 hP₀ hD₀ hS₀ => ?_)
        obtain ⟨r_52, rfl, he_53⟩ := hv_51
        have he_53 : ((r_52.toInt = 0 ∨ r_52.toInt = 1)) ∧ r_52 = (dX12_canBuy yy_504 yy_500) := he_53
        refine W.eq (g2 := F0 m 19 ls [.int r_52]) rfl ?_
        replace hP : va_P D classes [((Ma 2), .inl (tc 0, 2400, .inl (Mf 2))), ((Ma 4), .inl (tc 0, 288, .inl (Mf 4))), ((Ma 5), .inl (tc 0, 6, .inl (Mf 5))), ((Ma 8), .inl (tc 1, 64, .inr (.inl yy_502))), ((Ma 9), .inl (tc 1, 13, .inr (.inl yy_503))), ((Ma 0), .inr (12, [.ref (Ma 1), .int (Mv 0), .int (Mv 1), .ref (Ma 2), .ref (Ma 3), .ref (Ma 4), .ref (Ma 5), .ref (Ma 6), .int (Mv 2), .int (Mv 3), .int (Mv 4), .int (Mv 5), .int (Mv 6), .int (Mv 7), .int (Mv 8), .ref (Ma 7), .int (Mv 9), .ref (Ma 8), .int yy_501, .ref (Ma 9), .ref (Ma 10), .int (Mv 11), .int (Mv 12), .int (Mv 13), .ref (Ma 11), .int (Mv 14), .ref (Ma 12), .ref (Ma 13), .ref (Ma 14), .ref (Ma 15), .ref (Ma 16), .long (Mj 0), .ref (Ma 17), .ref (Ma 18), .ref (Ma 19), .ref (Ma 20)])), ((Ma 10), .inl (tc 0, 126, .inl yy_504))] H := hP₀
        replace hD : va_D A [((Ma 2), .inl (tc 0, 2400, .inl (Mf 2))), ((Ma 4), .inl (tc 0, 288, .inl (Mf 4))), ((Ma 5), .inl (tc 0, 6, .inl (Mf 5))), ((Ma 8), .inl (tc 1, 64, .inr (.inl yy_502))), ((Ma 9), .inl (tc 1, 13, .inr (.inl yy_503))), ((Ma 0), .inr (12, [.ref (Ma 1), .int (Mv 0), .int (Mv 1), .ref (Ma 2), .ref (Ma 3), .ref (Ma 4), .ref (Ma 5), .ref (Ma 6), .int (Mv 2), .int (Mv 3), .int (Mv 4), .int (Mv 5), .int (Mv 6), .int (Mv 7), .int (Mv 8), .ref (Ma 7), .int (Mv 9), .ref (Ma 8), .int yy_501, .ref (Ma 9), .ref (Ma 10), .int (Mv 11), .int (Mv 12), .int (Mv 13), .ref (Ma 11), .int (Mv 14), .ref (Ma 12), .ref (Ma 13), .ref (Ma 14), .ref (Ma 15), .ref (Ma 16), .long (Mj 0), .ref (Ma 17), .ref (Ma 18), .ref (Ma 19), .ref (Ma 20)])), ((Ma 10), .inl (tc 0, 126, .inl yy_504))] := hD₀
        replace hS := hS₀
        clear hP₀ hD₀ hS₀
        obtain ⟨he_53, hq_55⟩ := he_53
        have er_52 : r_52 = (dX12_canBuy yy_504 yy_500) := hq_55
        refine lv_if_eq (tgt := 44) hx hb dX12_passes_19 (by decide) (fun c_56 => ?_) (fun c_56 => ?_)
        · skip
          obtain ⟨x_57, ex_57⟩ : ∃ y : Int32, y = yy_500 + 1 := ⟨_, rfl⟩
          refine lv_iinc (v := x_57) (lv' := [(2, .int x_57), (1, .int yy_505), (0, .ref (Ma 0))]) hx hb dX12_passes_44 hl (k := 0) rfl (by rw [ex_57]; rfl) (by decide) rfl (fun ls hl₀ => ?_)
          replace hl := hl₀
          clear hl₀
          refine lv_goto (tgt := 4) hx hb dX12_passes_47 (by decide) ?_
          have hb_58 : 6 - (x_57 : Int32).toInt < 6 - (yy_500 : Int32).toInt ∧ 1 ≤ 6 - (yy_500 : Int32).toInt := by
            have z_1 := Int32.lt_iff_toInt_lt.mp (Int32.not_le.mp c_9)
            have z_2 := congrArg Int32.toInt c_56
            have y_0 : (0 : Int32).toInt = 0 := by decide
            have y_1 : (1 : Int32).toInt = 1 := by decide
            have t_x_57 : x_57.toInt = (yy_500 : Int32).toInt + (1 : Int32).toInt := by rw [ex_57]; exact add_toInt (by omega) (by omega)
            omega
          have hm_59 : (6 - (yy_500 : Int32).toInt).toNat = (6 - (x_57 : Int32).toInt).toNat + 1 := by
            have z_1 := Int32.lt_iff_toInt_lt.mp (Int32.not_le.mp c_9)
            have z_2 := congrArg Int32.toInt c_56
            have y_0 : (0 : Int32).toInt = 0 := by decide
            have y_1 : (1 : Int32).toInt = 1 := by decide
            have t_x_57 : x_57.toInt = (yy_500 : Int32).toInt + (1 : Int32).toInt := by rw [ex_57]; exact add_toInt (by omega) (by omega)
            omega
          have hb_60 : dX12_passes_l4 (Mf 2) (Mf 4) (Mf 5) (Mv 11) (Mv 13) ((6 - (yy_500 : Int32).toInt).toNat + 1) yy_500 yy_501 yy_502 yy_503 yy_504 yy_505 = dX12_passes_l4 (Mf 2) (Mf 4) (Mf 5) (Mv 11) (Mv 13) ((6 - (yy_500 : Int32).toInt).toNat) x_57 yy_501 yy_502 yy_503 yy_504 yy_505 := by
            clear hP hD hS hl ih_2
            replace ex_8 := ex_8.symm; subst ex_8
            replace er_52 := er_52.symm; subst er_52
            replace ex_57 := ex_57.symm; subst ex_57
            rw [dX12_passes_l4_s]
            rw [if_neg c_9, if_pos c_56]
            try rfl
          have hL_61 : (dX12_passes_l4 (Mf 2) (Mf 4) (Mf 5) (Mv 11) (Mv 13) ((6 - (0 : Int32).toInt).toNat + 1) (0 : Int32) (Mv 10) (Mg 8) (Mg 9) (Mf 10) (0 : Int32)) = dX12_passes_l4 (Mf 2) (Mf 4) (Mf 5) (Mv 11) (Mv 13) ((6 - (x_57 : Int32).toInt).toNat + 1) x_57 yy_501 yy_502 yy_503 yy_504 yy_505 := by
            rw [hL_6, hb_60, hm_59]
          have ha_62 : 0 ≤ (x_57 : Int32).toInt := by
            have z_1 := Int32.lt_iff_toInt_lt.mp (Int32.not_le.mp c_9)
            have z_2 := congrArg Int32.toInt c_56
            have y_0 : (0 : Int32).toInt = 0 := by decide
            have y_1 : (1 : Int32).toInt = 1 := by decide
            have t_x_57 : x_57.toInt = (yy_500 : Int32).toInt + (1 : Int32).toInt := by rw [ex_57]; exact add_toInt (by omega) (by omega)
            omega
          exact ih_2 x_57 yy_501 yy_502 yy_503 yy_504 yy_505 _ _ _ (by omega) hL_61 ha_62 pf_5 (hP.sub [5, 0, 1, 2, 3, 4, 6] rfl) (hD.sub [5, 0, 1, 2, 3, 4, 6] rfl rfl) hS (lv_sub hl [0, 1, 2] rfl)
        · skip
          refine lv_aload_n hx hb dX12_passes_22 rfl (lv_at hl 2 rfl) ?_
          refine lv_iload_n hx hb dX12_passes_23 rfl (lv_at hl 0 rfl) ?_
          have ha_63 : 0 ≤ yy_500.toInt ∧ yy_500.toInt < 6 := by
            have z_1 := Int32.lt_iff_toInt_lt.mp (Int32.not_le.mp c_9)
            have z_2 : ¬ (r_52 : Int32).toInt = (0 : Int32).toInt := fun z => c_56 (Int32.toInt_inj.mp z)
            have y_0 : (0 : Int32).toInt = 0 := by decide
            omega
          have ha_64 : 1 ≤ (yy_504 2).toInt ∧ (yy_504 2).toInt ≤ 10 := by
            have z_1 := Int32.lt_iff_toInt_lt.mp (Int32.not_le.mp c_9)
            have z_2 : ¬ (r_52 : Int32).toInt = (0 : Int32).toInt := fun z => c_56 (Int32.toInt_inj.mp z)
            have y_0 : (0 : Int32).toInt = 0 := by decide
            omega
          refine cV (a := (Ma 0)) (As := [.int yy_500]) (rest := []) (wr := []) ⟨hx, hb, hml, hown, hts⟩ hK hX hA (cu_dX12_isWilling l D tc sk (Ma 0) (Ma 1) (Ma 2) (Ma 3) (Ma 4) (Ma 5) (Ma 6) (Ma 7) (Ma 8) (Ma 9) (Ma 10) (Ma 11) (Ma 12) (Ma 13) (Ma 14) (Ma 15) (Ma 16) (Ma 17) (Ma 18) (Ma 19) (Ma 20) (Mv 0) (Mv 1) (Mv 2) (Mv 3) (Mv 4) (Mv 5) (Mv 6) (Mv 7) (Mv 8) (Mv 9) yy_501 (Mv 11) (Mv 12) (Mv 13) (Mv 14) (Mf 2) (Mf 4) (Mf 5) yy_504 (Mj 0) yy_502 yy_503 yy_500 d ha_63 pf_5 h_d h_rul h_frc ha_64) k_1431 k_1428 k_1430 k_69 k_106 pl_X12_isWilling ⟨Nat.le_of_ble_eq_true rfl, Nat.le_of_ble_eq_true rfl⟩ rfl rfl (va_recv hK hP (ci := 12) (q0 := 5) rfl rfl) hP hD hS [5, 0, 1, 2, 3, 4, 6] [] rfl rfl rfl rfl rfl (by decide) rfl hl.1 rfl (Nat.le_of_ble_eq_true rfl) dX12_passes_24 ⟨Nat.le_of_ble_eq_true rfl, Nat.le_of_ble_eq_true rfl⟩ (fun v_65 u_66 H locs hv_67 hP₀ hD₀ hS₀ => ?_)
          obtain ⟨sv_68, sv_69, sv_70⟩ := u_66
          obtain ⟨r_71, rfl, he_72⟩ := hv_67
          have he_72 : ((r_71.toInt = 0 ∨ r_71.toInt = 1)) ∧ (r_71, sv_68, sv_69, sv_70) = (dX12_isWilling (Mf 2) (Mf 4) (Mf 5) yy_504 yy_502 yy_503 yy_501 (Mv 11) yy_500) := he_72
          refine W.eq (g2 := F0 m 27 ls [.int r_71]) rfl ?_
          replace hP : va_P D classes [((Ma 0), .inr (12, [.ref (Ma 1), .int (Mv 0), .int (Mv 1), .ref (Ma 2), .ref (Ma 3), .ref (Ma 4), .ref (Ma 5), .ref (Ma 6), .int (Mv 2), .int (Mv 3), .int (Mv 4), .int (Mv 5), .int (Mv 6), .int (Mv 7), .int (Mv 8), .ref (Ma 7), .int (Mv 9), .ref (Ma 8), .int sv_68, .ref (Ma 9), .ref (Ma 10), .int (Mv 11), .int (Mv 12), .int (Mv 13), .ref (Ma 11), .int (Mv 14), .ref (Ma 12), .ref (Ma 13), .ref (Ma 14), .ref (Ma 15), .ref (Ma 16), .long (Mj 0), .ref (Ma 17), .ref (Ma 18), .ref (Ma 19), .ref (Ma 20)])), ((Ma 2), .inl (tc 0, 2400, .inl (Mf 2))), ((Ma 4), .inl (tc 0, 288, .inl (Mf 4))), ((Ma 5), .inl (tc 0, 6, .inl (Mf 5))), ((Ma 8), .inl (tc 1, 64, .inr (.inl sv_69))), ((Ma 9), .inl (tc 1, 13, .inr (.inl sv_70))), ((Ma 10), .inl (tc 0, 126, .inl yy_504))] H := hP₀
          replace hD : va_D A [((Ma 0), .inr (12, [.ref (Ma 1), .int (Mv 0), .int (Mv 1), .ref (Ma 2), .ref (Ma 3), .ref (Ma 4), .ref (Ma 5), .ref (Ma 6), .int (Mv 2), .int (Mv 3), .int (Mv 4), .int (Mv 5), .int (Mv 6), .int (Mv 7), .int (Mv 8), .ref (Ma 7), .int (Mv 9), .ref (Ma 8), .int sv_68, .ref (Ma 9), .ref (Ma 10), .int (Mv 11), .int (Mv 12), .int (Mv 13), .ref (Ma 11), .int (Mv 14), .ref (Ma 12), .ref (Ma 13), .ref (Ma 14), .ref (Ma 15), .ref (Ma 16), .long (Mj 0), .ref (Ma 17), .ref (Ma 18), .ref (Ma 19), .ref (Ma 20)])), ((Ma 2), .inl (tc 0, 2400, .inl (Mf 2))), ((Ma 4), .inl (tc 0, 288, .inl (Mf 4))), ((Ma 5), .inl (tc 0, 6, .inl (Mf 5))), ((Ma 8), .inl (tc 1, 64, .inr (.inl sv_69))), ((Ma 9), .inl (tc 1, 13, .inr (.inl sv_70))), ((Ma 10), .inl (tc 0, 126, .inl yy_504))] := hD₀
          replace hS := hS₀
          clear hP₀ hD₀ hS₀
          obtain ⟨he_72, hq_74⟩ := he_72
          have er_71 : r_71 = (dX12_isWilling (Mf 2) (Mf 4) (Mf 5) yy_504 yy_502 yy_503 yy_501 (Mv 11) yy_500).1 := congrArg (fun z => z.1) hq_74
          have esv_68 : sv_68 = (dX12_isWilling (Mf 2) (Mf 4) (Mf 5) yy_504 yy_502 yy_503 yy_501 (Mv 11) yy_500).2.1 := congrArg (fun z => z.2.1) hq_74
          have esv_69 : sv_69 = (dX12_isWilling (Mf 2) (Mf 4) (Mf 5) yy_504 yy_502 yy_503 yy_501 (Mv 11) yy_500).2.2.1 := congrArg (fun z => z.2.2.1) hq_74
          have esv_70 : sv_70 = (dX12_isWilling (Mf 2) (Mf 4) (Mf 5) yy_504 yy_502 yy_503 yy_501 (Mv 11) yy_500).2.2.2 := congrArg (fun z => z.2.2.2) hq_74
          refine lv_if_eq (tgt := 44) hx hb dX12_passes_27 (by decide) (fun c_75 => ?_) (fun c_75 => ?_)
          · skip
            obtain ⟨x_76, ex_76⟩ : ∃ y : Int32, y = yy_500 + 1 := ⟨_, rfl⟩
            refine lv_iinc (v := x_76) (lv' := [(2, .int x_76), (1, .int yy_505), (0, .ref (Ma 0))]) hx hb dX12_passes_44 hl (k := 0) rfl (by rw [ex_76]; rfl) (by decide) rfl (fun ls hl₀ => ?_)
            replace hl := hl₀
            clear hl₀
            refine lv_goto (tgt := 4) hx hb dX12_passes_47 (by decide) ?_
            have hb_77 : 6 - (x_76 : Int32).toInt < 6 - (yy_500 : Int32).toInt ∧ 1 ≤ 6 - (yy_500 : Int32).toInt := by
              have z_1 := Int32.lt_iff_toInt_lt.mp (Int32.not_le.mp c_9)
              have z_2 : ¬ (r_52 : Int32).toInt = (0 : Int32).toInt := fun z => c_56 (Int32.toInt_inj.mp z)
              have z_3 := congrArg Int32.toInt c_75
              have y_0 : (0 : Int32).toInt = 0 := by decide
              have y_1 : (1 : Int32).toInt = 1 := by decide
              have t_x_76 : x_76.toInt = (yy_500 : Int32).toInt + (1 : Int32).toInt := by rw [ex_76]; exact add_toInt (by omega) (by omega)
              omega
            have hm_78 : (6 - (yy_500 : Int32).toInt).toNat = (6 - (x_76 : Int32).toInt).toNat + 1 := by
              have z_1 := Int32.lt_iff_toInt_lt.mp (Int32.not_le.mp c_9)
              have z_2 : ¬ (r_52 : Int32).toInt = (0 : Int32).toInt := fun z => c_56 (Int32.toInt_inj.mp z)
              have z_3 := congrArg Int32.toInt c_75
              have y_0 : (0 : Int32).toInt = 0 := by decide
              have y_1 : (1 : Int32).toInt = 1 := by decide
              have t_x_76 : x_76.toInt = (yy_500 : Int32).toInt + (1 : Int32).toInt := by rw [ex_76]; exact add_toInt (by omega) (by omega)
              omega
            have hb_79 : dX12_passes_l4 (Mf 2) (Mf 4) (Mf 5) (Mv 11) (Mv 13) ((6 - (yy_500 : Int32).toInt).toNat + 1) yy_500 yy_501 yy_502 yy_503 yy_504 yy_505 = dX12_passes_l4 (Mf 2) (Mf 4) (Mf 5) (Mv 11) (Mv 13) ((6 - (yy_500 : Int32).toInt).toNat) x_76 sv_68 sv_69 sv_70 yy_504 yy_505 := by
              clear hP hD hS hl ih_2
              replace ex_8 := ex_8.symm; subst ex_8
              replace er_52 := er_52.symm; subst er_52
              replace er_71 := er_71.symm; subst er_71
              replace esv_68 := esv_68.symm; subst esv_68
              replace esv_69 := esv_69.symm; subst esv_69
              replace esv_70 := esv_70.symm; subst esv_70
              replace ex_76 := ex_76.symm; subst ex_76
              rw [dX12_passes_l4_s]
              rw [if_neg c_9, if_neg c_56, if_pos c_75]
              try rfl
            have hL_80 : (dX12_passes_l4 (Mf 2) (Mf 4) (Mf 5) (Mv 11) (Mv 13) ((6 - (0 : Int32).toInt).toNat + 1) (0 : Int32) (Mv 10) (Mg 8) (Mg 9) (Mf 10) (0 : Int32)) = dX12_passes_l4 (Mf 2) (Mf 4) (Mf 5) (Mv 11) (Mv 13) ((6 - (x_76 : Int32).toInt).toNat + 1) x_76 sv_68 sv_69 sv_70 yy_504 yy_505 := by
              rw [hL_6, hb_79, hm_78]
            have ha_81 : 0 ≤ (x_76 : Int32).toInt := by
              have z_1 := Int32.lt_iff_toInt_lt.mp (Int32.not_le.mp c_9)
              have z_2 : ¬ (r_52 : Int32).toInt = (0 : Int32).toInt := fun z => c_56 (Int32.toInt_inj.mp z)
              have z_3 := congrArg Int32.toInt c_75
              have y_0 : (0 : Int32).toInt = 0 := by decide
              have y_1 : (1 : Int32).toInt = 1 := by decide
              have t_x_76 : x_76.toInt = (yy_500 : Int32).toInt + (1 : Int32).toInt := by rw [ex_76]; exact add_toInt (by omega) (by omega)
              omega
            exact ih_2 x_76 sv_68 sv_69 sv_70 yy_504 yy_505 _ _ _ (by omega) hL_80 ha_81 pf_5 (hP.sub [0, 1, 2, 3, 4, 5, 6] rfl) (hD.sub [0, 1, 2, 3, 4, 5, 6] rfl rfl) hS (lv_sub hl [0, 1, 2] rfl)
          · skip
            refine lv_aload_n hx hb dX12_passes_30 rfl (lv_at hl 2 rfl) ?_
            refine lv_iload_n hx hb dX12_passes_31 rfl (lv_at hl 0 rfl) ?_
            have ha_82 : 0 ≤ yy_500.toInt ∧ yy_500.toInt < 6 := by
              have z_1 := Int32.lt_iff_toInt_lt.mp (Int32.not_le.mp c_9)
              have z_2 : ¬ (r_52 : Int32).toInt = (0 : Int32).toInt := fun z => c_56 (Int32.toInt_inj.mp z)
              have z_3 : ¬ (r_71 : Int32).toInt = (0 : Int32).toInt := fun z => c_75 (Int32.toInt_inj.mp z)
              have y_0 : (0 : Int32).toInt = 0 := by decide
              omega
            refine cV (a := (Ma 0)) (As := [.int yy_500]) (rest := []) (wr := [((Ma 2), .inl (tc 0, 2400, .inl (Mf 2))), ((Ma 4), .inl (tc 0, 288, .inl (Mf 4))), ((Ma 5), .inl (tc 0, 6, .inl (Mf 5))), ((Ma 8), .inl (tc 1, 64, .inr (.inl sv_69))), ((Ma 9), .inl (tc 1, 13, .inr (.inl sv_70)))]) ⟨hx, hb, hml, hown, hts⟩ hK hX hA (cu_dX12_comes l D tc sk (Ma 0) (Ma 1) (Ma 2) (Ma 3) (Ma 4) (Ma 5) (Ma 6) (Ma 7) (Ma 8) (Ma 9) (Ma 10) (Ma 11) (Ma 12) (Ma 13) (Ma 14) (Ma 15) (Ma 16) (Ma 17) (Ma 18) (Ma 19) (Ma 20) (Mv 0) (Mv 1) (Mv 2) (Mv 3) (Mv 4) (Mv 5) (Mv 6) (Mv 7) (Mv 8) (Mv 9) sv_68 (Mv 11) (Mv 12) (Mv 13) (Mv 14) yy_504 (Mj 0) yy_500 d ha_82 pf_5) k_1462 k_1459 k_1461 k_76 k_106 pl_X12_comes ⟨Nat.le_of_ble_eq_true rfl, Nat.le_of_ble_eq_true rfl⟩ rfl rfl (va_recv hK hP (ci := 12) (q0 := 0) rfl rfl) hP hD hS [0, 6] [1, 2, 3, 4, 5] rfl rfl rfl rfl rfl (by decide) rfl hl.1 rfl (Nat.le_of_ble_eq_true rfl) dX12_passes_32 ⟨Nat.le_of_ble_eq_true rfl, Nat.le_of_ble_eq_true rfl⟩ (fun v_83 u_84 H locs hv_85 hP₀ hD₀ hS₀ => ?_)
            obtain ⟨sv_86, rfl⟩ : ∃ z, z = u_84 := ⟨_, rfl⟩
            obtain ⟨r_88, rfl, he_89, pf_87⟩ := hv_85
            have he_89 : ((r_88.toInt = 0 ∨ r_88.toInt = 1)) ∧ (r_88, sv_86) = (dX12_comes yy_504 (Mv 13) yy_500) := he_89
            have pf_87 : SaidD T sv_86 d := pf_87
            have ar_pf_87 := SaidD.ar pf_87
            refine W.eq (g2 := F0 m 35 ls [.int r_88]) rfl ?_
            replace hP : va_P D classes [((Ma 2), .inl (tc 0, 2400, .inl (Mf 2))), ((Ma 4), .inl (tc 0, 288, .inl (Mf 4))), ((Ma 5), .inl (tc 0, 6, .inl (Mf 5))), ((Ma 8), .inl (tc 1, 64, .inr (.inl sv_69))), ((Ma 9), .inl (tc 1, 13, .inr (.inl sv_70))), ((Ma 0), .inr (12, [.ref (Ma 1), .int (Mv 0), .int (Mv 1), .ref (Ma 2), .ref (Ma 3), .ref (Ma 4), .ref (Ma 5), .ref (Ma 6), .int (Mv 2), .int (Mv 3), .int (Mv 4), .int (Mv 5), .int (Mv 6), .int (Mv 7), .int (Mv 8), .ref (Ma 7), .int (Mv 9), .ref (Ma 8), .int sv_68, .ref (Ma 9), .ref (Ma 10), .int (Mv 11), .int (Mv 12), .int (Mv 13), .ref (Ma 11), .int (Mv 14), .ref (Ma 12), .ref (Ma 13), .ref (Ma 14), .ref (Ma 15), .ref (Ma 16), .long (Mj 0), .ref (Ma 17), .ref (Ma 18), .ref (Ma 19), .ref (Ma 20)])), ((Ma 10), .inl (tc 0, 126, .inl sv_86))] H := hP₀
            replace hD : va_D A [((Ma 2), .inl (tc 0, 2400, .inl (Mf 2))), ((Ma 4), .inl (tc 0, 288, .inl (Mf 4))), ((Ma 5), .inl (tc 0, 6, .inl (Mf 5))), ((Ma 8), .inl (tc 1, 64, .inr (.inl sv_69))), ((Ma 9), .inl (tc 1, 13, .inr (.inl sv_70))), ((Ma 0), .inr (12, [.ref (Ma 1), .int (Mv 0), .int (Mv 1), .ref (Ma 2), .ref (Ma 3), .ref (Ma 4), .ref (Ma 5), .ref (Ma 6), .int (Mv 2), .int (Mv 3), .int (Mv 4), .int (Mv 5), .int (Mv 6), .int (Mv 7), .int (Mv 8), .ref (Ma 7), .int (Mv 9), .ref (Ma 8), .int sv_68, .ref (Ma 9), .ref (Ma 10), .int (Mv 11), .int (Mv 12), .int (Mv 13), .ref (Ma 11), .int (Mv 14), .ref (Ma 12), .ref (Ma 13), .ref (Ma 14), .ref (Ma 15), .ref (Ma 16), .long (Mj 0), .ref (Ma 17), .ref (Ma 18), .ref (Ma 19), .ref (Ma 20)])), ((Ma 10), .inl (tc 0, 126, .inl sv_86))] := hD₀
            replace hS := hS₀
            clear hP₀ hD₀ hS₀
            obtain ⟨he_89, hq_91⟩ := he_89
            have er_88 : r_88 = (dX12_comes yy_504 (Mv 13) yy_500).1 := congrArg (fun z => z.1) hq_91
            have esv_86 : sv_86 = (dX12_comes yy_504 (Mv 13) yy_500).2 := congrArg (fun z => z.2) hq_91
            refine lv_if_eq (tgt := 44) hx hb dX12_passes_35 (by decide) (fun c_92 => ?_) (fun c_92 => ?_)
            · skip
              obtain ⟨x_93, ex_93⟩ : ∃ y : Int32, y = yy_500 + 1 := ⟨_, rfl⟩
              refine lv_iinc (v := x_93) (lv' := [(2, .int x_93), (1, .int yy_505), (0, .ref (Ma 0))]) hx hb dX12_passes_44 hl (k := 0) rfl (by rw [ex_93]; rfl) (by decide) rfl (fun ls hl₀ => ?_)
              replace hl := hl₀
              clear hl₀
              refine lv_goto (tgt := 4) hx hb dX12_passes_47 (by decide) ?_
              have hb_94 : 6 - (x_93 : Int32).toInt < 6 - (yy_500 : Int32).toInt ∧ 1 ≤ 6 - (yy_500 : Int32).toInt := by
                have z_1 := Int32.lt_iff_toInt_lt.mp (Int32.not_le.mp c_9)
                have z_2 : ¬ (r_52 : Int32).toInt = (0 : Int32).toInt := fun z => c_56 (Int32.toInt_inj.mp z)
                have z_3 : ¬ (r_71 : Int32).toInt = (0 : Int32).toInt := fun z => c_75 (Int32.toInt_inj.mp z)
                have z_4 := congrArg Int32.toInt c_92
                have y_0 : (0 : Int32).toInt = 0 := by decide
                have y_1 : (1 : Int32).toInt = 1 := by decide
                have t_x_93 : x_93.toInt = (yy_500 : Int32).toInt + (1 : Int32).toInt := by rw [ex_93]; exact add_toInt (by omega) (by omega)
                omega
              have hm_95 : (6 - (yy_500 : Int32).toInt).toNat = (6 - (x_93 : Int32).toInt).toNat + 1 := by
                have z_1 := Int32.lt_iff_toInt_lt.mp (Int32.not_le.mp c_9)
                have z_2 : ¬ (r_52 : Int32).toInt = (0 : Int32).toInt := fun z => c_56 (Int32.toInt_inj.mp z)
                have z_3 : ¬ (r_71 : Int32).toInt = (0 : Int32).toInt := fun z => c_75 (Int32.toInt_inj.mp z)
                have z_4 := congrArg Int32.toInt c_92
                have y_0 : (0 : Int32).toInt = 0 := by decide
                have y_1 : (1 : Int32).toInt = 1 := by decide
                have t_x_93 : x_93.toInt = (yy_500 : Int32).toInt + (1 : Int32).toInt := by rw [ex_93]; exact add_toInt (by omega) (by omega)
                omega
              have hb_96 : dX12_passes_l4 (Mf 2) (Mf 4) (Mf 5) (Mv 11) (Mv 13) ((6 - (yy_500 : Int32).toInt).toNat + 1) yy_500 yy_501 yy_502 yy_503 yy_504 yy_505 = dX12_passes_l4 (Mf 2) (Mf 4) (Mf 5) (Mv 11) (Mv 13) ((6 - (yy_500 : Int32).toInt).toNat) x_93 sv_68 sv_69 sv_70 sv_86 yy_505 := by
                clear hP hD hS hl ih_2
                replace ex_8 := ex_8.symm; subst ex_8
                replace er_52 := er_52.symm; subst er_52
                replace er_71 := er_71.symm; subst er_71
                replace esv_68 := esv_68.symm; subst esv_68
                replace esv_69 := esv_69.symm; subst esv_69
                replace esv_70 := esv_70.symm; subst esv_70
                replace er_88 := er_88.symm; subst er_88
                replace esv_86 := esv_86.symm; subst esv_86
                replace ex_93 := ex_93.symm; subst ex_93
                rw [dX12_passes_l4_s]
                rw [if_neg c_9, if_neg c_56, if_neg c_75, if_pos c_92]
                try rfl
              have hL_97 : (dX12_passes_l4 (Mf 2) (Mf 4) (Mf 5) (Mv 11) (Mv 13) ((6 - (0 : Int32).toInt).toNat + 1) (0 : Int32) (Mv 10) (Mg 8) (Mg 9) (Mf 10) (0 : Int32)) = dX12_passes_l4 (Mf 2) (Mf 4) (Mf 5) (Mv 11) (Mv 13) ((6 - (x_93 : Int32).toInt).toNat + 1) x_93 sv_68 sv_69 sv_70 sv_86 yy_505 := by
                rw [hL_6, hb_96, hm_95]
              have ha_98 : 0 ≤ (x_93 : Int32).toInt := by
                have z_1 := Int32.lt_iff_toInt_lt.mp (Int32.not_le.mp c_9)
                have z_2 : ¬ (r_52 : Int32).toInt = (0 : Int32).toInt := fun z => c_56 (Int32.toInt_inj.mp z)
                have z_3 : ¬ (r_71 : Int32).toInt = (0 : Int32).toInt := fun z => c_75 (Int32.toInt_inj.mp z)
                have z_4 := congrArg Int32.toInt c_92
                have y_0 : (0 : Int32).toInt = 0 := by decide
                have y_1 : (1 : Int32).toInt = 1 := by decide
                have t_x_93 : x_93.toInt = (yy_500 : Int32).toInt + (1 : Int32).toInt := by rw [ex_93]; exact add_toInt (by omega) (by omega)
                omega
              exact ih_2 x_93 sv_68 sv_69 sv_70 sv_86 yy_505 _ _ _ (by omega) hL_97 ha_98 pf_87 (hP.sub [5, 0, 1, 2, 3, 4, 6] rfl) (hD.sub [5, 0, 1, 2, 3, 4, 6] rfl rfl) hS (lv_sub hl [0, 1, 2] rfl)
            · skip
              refine lv_iload_n hx hb dX12_passes_38 rfl (lv_at hl 1 rfl) ?_
              refine lv_iconst (v := 1) hx hb dX12_passes_39 (by decide) ?_
              refine lv_iload_n hx hb dX12_passes_40 rfl (lv_at hl 0 rfl) ?_
              refine lv_ishl hx hb dX12_passes_41 ?_
              refine lv_topi (fun x_99 ex_99 => ?_)
              refine lv_ior hx hb dX12_passes_42 ?_
              refine lv_topi (fun x_100 ex_100 => ?_)
              refine lv_istore_n (lv' := [(1, .int x_100), (2, .int yy_500), (0, .ref (Ma 0))]) hx hb dX12_passes_43 rfl hl (by decide) rfl (fun ls hl₀ => ?_)
              replace hl := hl₀
              clear hl₀
              obtain ⟨x_101, ex_101⟩ : ∃ y : Int32, y = yy_500 + 1 := ⟨_, rfl⟩
              refine lv_iinc (v := x_101) (lv' := [(2, .int x_101), (1, .int x_100), (0, .ref (Ma 0))]) hx hb dX12_passes_44 hl (k := 1) rfl (by rw [ex_101]; rfl) (by decide) rfl (fun ls hl₀ => ?_)
              replace hl := hl₀
              clear hl₀
              refine lv_goto (tgt := 4) hx hb dX12_passes_47 (by decide) ?_
              have hb_102 : 6 - (x_101 : Int32).toInt < 6 - (yy_500 : Int32).toInt ∧ 1 ≤ 6 - (yy_500 : Int32).toInt := by
                have z_1 := Int32.lt_iff_toInt_lt.mp (Int32.not_le.mp c_9)
                have z_2 : ¬ (r_52 : Int32).toInt = (0 : Int32).toInt := fun z => c_56 (Int32.toInt_inj.mp z)
                have z_3 : ¬ (r_71 : Int32).toInt = (0 : Int32).toInt := fun z => c_75 (Int32.toInt_inj.mp z)
                have z_4 : ¬ (r_88 : Int32).toInt = (0 : Int32).toInt := fun z => c_92 (Int32.toInt_inj.mp z)
                have y_0 : (0 : Int32).toInt = 0 := by decide
                have y_1 : (1 : Int32).toInt = 1 := by decide
                have t_x_101 : x_101.toInt = (yy_500 : Int32).toInt + (1 : Int32).toInt := by rw [ex_101]; exact add_toInt (by omega) (by omega)
                omega
              have hm_103 : (6 - (yy_500 : Int32).toInt).toNat = (6 - (x_101 : Int32).toInt).toNat + 1 := by
                have z_1 := Int32.lt_iff_toInt_lt.mp (Int32.not_le.mp c_9)
                have z_2 : ¬ (r_52 : Int32).toInt = (0 : Int32).toInt := fun z => c_56 (Int32.toInt_inj.mp z)
                have z_3 : ¬ (r_71 : Int32).toInt = (0 : Int32).toInt := fun z => c_75 (Int32.toInt_inj.mp z)
                have z_4 : ¬ (r_88 : Int32).toInt = (0 : Int32).toInt := fun z => c_92 (Int32.toInt_inj.mp z)
                have y_0 : (0 : Int32).toInt = 0 := by decide
                have y_1 : (1 : Int32).toInt = 1 := by decide
                have t_x_101 : x_101.toInt = (yy_500 : Int32).toInt + (1 : Int32).toInt := by rw [ex_101]; exact add_toInt (by omega) (by omega)
                omega
              have hb_104 : dX12_passes_l4 (Mf 2) (Mf 4) (Mf 5) (Mv 11) (Mv 13) ((6 - (yy_500 : Int32).toInt).toNat + 1) yy_500 yy_501 yy_502 yy_503 yy_504 yy_505 = dX12_passes_l4 (Mf 2) (Mf 4) (Mf 5) (Mv 11) (Mv 13) ((6 - (yy_500 : Int32).toInt).toNat) x_101 sv_68 sv_69 sv_70 sv_86 x_100 := by
                clear hP hD hS hl ih_2
                replace ex_8 := ex_8.symm; subst ex_8
                replace er_52 := er_52.symm; subst er_52
                replace er_71 := er_71.symm; subst er_71
                replace esv_68 := esv_68.symm; subst esv_68
                replace esv_69 := esv_69.symm; subst esv_69
                replace esv_70 := esv_70.symm; subst esv_70
                replace er_88 := er_88.symm; subst er_88
                replace esv_86 := esv_86.symm; subst esv_86
                replace ex_99 := ex_99.symm; subst ex_99
                replace ex_100 := ex_100.symm; subst ex_100
                replace ex_101 := ex_101.symm; subst ex_101
                rw [dX12_passes_l4_s]
                rw [if_neg c_9, if_neg c_56, if_neg c_75, if_neg c_92]
                try rfl
              have hL_105 : (dX12_passes_l4 (Mf 2) (Mf 4) (Mf 5) (Mv 11) (Mv 13) ((6 - (0 : Int32).toInt).toNat + 1) (0 : Int32) (Mv 10) (Mg 8) (Mg 9) (Mf 10) (0 : Int32)) = dX12_passes_l4 (Mf 2) (Mf 4) (Mf 5) (Mv 11) (Mv 13) ((6 - (x_101 : Int32).toInt).toNat + 1) x_101 sv_68 sv_69 sv_70 sv_86 x_100 := by
                rw [hL_6, hb_104, hm_103]
              have ha_106 : 0 ≤ (x_101 : Int32).toInt := by
                have z_1 := Int32.lt_iff_toInt_lt.mp (Int32.not_le.mp c_9)
                have z_2 : ¬ (r_52 : Int32).toInt = (0 : Int32).toInt := fun z => c_56 (Int32.toInt_inj.mp z)
                have z_3 : ¬ (r_71 : Int32).toInt = (0 : Int32).toInt := fun z => c_75 (Int32.toInt_inj.mp z)
                have z_4 : ¬ (r_88 : Int32).toInt = (0 : Int32).toInt := fun z => c_92 (Int32.toInt_inj.mp z)
                have y_0 : (0 : Int32).toInt = 0 := by decide
                have y_1 : (1 : Int32).toInt = 1 := by decide
                have t_x_101 : x_101.toInt = (yy_500 : Int32).toInt + (1 : Int32).toInt := by rw [ex_101]; exact add_toInt (by omega) (by omega)
                omega
              exact ih_2 x_101 sv_68 sv_69 sv_70 sv_86 x_100 _ _ _ (by omega) hL_105 ha_106 pf_87 (hP.sub [5, 0, 1, 2, 3, 4, 6] rfl) (hD.sub [5, 0, 1, 2, 3, 4, 6] rfl rfl) hS (lv_sub hl [0, 1, 2] rfl)
  have ha_107 : 0 ≤ (0 : Int32).toInt := by
    have y_0 : (0 : Int32).toInt = 0 := by decide
    omega
  exact loop_3 _ 0 (Mv 10) (Mg 8) (Mg 9) (Mf 10) 0 _ _ _ (Nat.lt_succ_self _) rfl ha_107 h_said hP hD hS hl
set_option maxRecDepth 100000 in
theorem cu_dX12_passes {T : Nat → Option Int32} (l : Launch) (D : va_G) (tc : Nat → ClassId) (sk : (Nat → Nat) × (Nat → Nat)) (Ma_0 : Nat) (Ma_1 : Nat) (Ma_2 : Nat) (Ma_3 : Nat) (Ma_4 : Nat) (Ma_5 : Nat) (Ma_6 : Nat) (Ma_7 : Nat) (Ma_8 : Nat) (Ma_9 : Nat) (Ma_10 : Nat) (Ma_11 : Nat) (Ma_12 : Nat) (Ma_13 : Nat) (Ma_14 : Nat) (Ma_15 : Nat) (Ma_16 : Nat) (Ma_17 : Nat) (Ma_18 : Nat) (Ma_19 : Nat) (Ma_20 : Nat) (Mv_0 : Int32) (Mv_1 : Int32) (Mv_2 : Int32) (Mv_3 : Int32) (Mv_4 : Int32) (Mv_5 : Int32) (Mv_6 : Int32) (Mv_7 : Int32) (Mv_8 : Int32) (Mv_9 : Int32) (Mv_10 : Int32) (Mv_11 : Int32) (Mv_12 : Int32) (Mv_13 : Int32) (Mv_14 : Int32) (Mf_2 : Nat → Int32) (Mf_4 : Nat → Int32) (Mf_5 : Nat → Int32) (Mf_10 : Nat → Int32) (Mj_0 : Int64) (Mg_8 : Nat → Int64) (Mg_9 : Nat → Int64) (d : Int) (h_said : SaidD T Mf_10 d) (h_d : d ≤ 1000000) (h_rul : RulD Mf_2 Mf_4 Mf_5 Mv_1) (h_frc : -1 ≤ Mv_11.toInt ∧ Mv_11.toInt < Mv_1.toInt ∧ Mv_1.toInt ≤ 6) : Ct l yX12_passes cX12_passes 3 (some .int) { frames := 4, cells := 0, slots := 0, locals := 99 } D tc sk [.ref Ma_0] [(Ma_0, .inr (12, [.ref Ma_1, .int Mv_0, .int Mv_1, .ref Ma_2, .ref Ma_3, .ref Ma_4, .ref Ma_5, .ref Ma_6, .int Mv_2, .int Mv_3, .int Mv_4, .int Mv_5, .int Mv_6, .int Mv_7, .int Mv_8, .ref Ma_7, .int Mv_9, .ref Ma_8, .int Mv_10, .ref Ma_9, .ref Ma_10, .int Mv_11, .int Mv_12, .int Mv_13, .ref Ma_11, .int Mv_14, .ref Ma_12, .ref Ma_13, .ref Ma_14, .ref Ma_15, .ref Ma_16, .long Mj_0, .ref Ma_17, .ref Ma_18, .ref Ma_19, .ref Ma_20])), (Ma_2, .inl (tc 0, 2400, .inl Mf_2)), (Ma_4, .inl (tc 0, 288, .inl Mf_4)), (Ma_5, .inl (tc 0, 6, .inl Mf_5)), (Ma_8, .inl (tc 1, 64, .inr (.inl Mg_8))), (Ma_9, .inl (tc 1, 13, .inr (.inl Mg_9))), (Ma_10, .inl (tc 0, 126, .inl Mf_10))] (fun (v : Option Value) (u : (Int32) × (Nat → Int64) × (Nat → Int64) × (Nat → Int32)) => match u with | (oo0x1, oo0x2, oo0x3, oo0x4) => ∃ r : Int32, v = some (.int r) ∧ ((True) ∧ (r, oo0x1, oo0x2, oo0x3, oo0x4) = (dX12_passes Mf_2 Mf_4 Mf_5 Mf_10 Mg_8 Mg_9 Mv_10 Mv_11 Mv_13)) ∧ (SaidD T oo0x4 (d + 1))) (fun (u : (Int32) × (Nat → Int64) × (Nat → Int64) × (Nat → Int32)) => match u with | (oo0x1, oo0x2, oo0x3, oo0x4) => [(Ma_0, .inr (12, [.ref Ma_1, .int Mv_0, .int Mv_1, .ref Ma_2, .ref Ma_3, .ref Ma_4, .ref Ma_5, .ref Ma_6, .int Mv_2, .int Mv_3, .int Mv_4, .int Mv_5, .int Mv_6, .int Mv_7, .int Mv_8, .ref Ma_7, .int Mv_9, .ref Ma_8, .int oo0x1, .ref Ma_9, .ref Ma_10, .int Mv_11, .int Mv_12, .int Mv_13, .ref Ma_11, .int Mv_14, .ref Ma_12, .ref Ma_13, .ref Ma_14, .ref Ma_15, .ref Ma_16, .long Mj_0, .ref Ma_17, .ref Ma_18, .ref Ma_19, .ref Ma_20])), (Ma_2, .inl (tc 0, 2400, .inl Mf_2)), (Ma_4, .inl (tc 0, 288, .inl Mf_4)), (Ma_5, .inl (tc 0, 6, .inl Mf_5)), (Ma_8, .inl (tc 1, 64, .inr (.inl oo0x2))), (Ma_9, .inl (tc 1, 13, .inr (.inl oo0x3))), (Ma_10, .inl (tc 0, 126, .inl oo0x4))]) 0 0 :=
  ct_dX12_passes l D tc sk (fun k => ([Ma_0, Ma_1, Ma_2, Ma_3, Ma_4, Ma_5, Ma_6, Ma_7, Ma_8, Ma_9, Ma_10, Ma_11, Ma_12, Ma_13, Ma_14, Ma_15, Ma_16, Ma_17, Ma_18, Ma_19, Ma_20] : List (Nat)).getD k 0) (fun k => ([Mv_0, Mv_1, Mv_2, Mv_3, Mv_4, Mv_5, Mv_6, Mv_7, Mv_8, Mv_9, Mv_10, Mv_11, Mv_12, Mv_13, Mv_14] : List (Int32)).getD k 0) (fun k => ([(fun _ => 0), (fun _ => 0), Mf_2, (fun _ => 0), Mf_4, Mf_5, (fun _ => 0), (fun _ => 0), (fun _ => 0), (fun _ => 0), Mf_10] : List (Nat → Int32)).getD k (fun _ => 0)) (fun k => ([Mj_0] : List (Int64)).getD k 0) (fun k => ([(fun _ => 0), (fun _ => 0), (fun _ => 0), (fun _ => 0), (fun _ => 0), (fun _ => 0), (fun _ => 0), (fun _ => 0), Mg_8, Mg_9] : List (Nat → Int64)).getD k (fun _ => 0)) d h_said h_d h_rul h_frc
