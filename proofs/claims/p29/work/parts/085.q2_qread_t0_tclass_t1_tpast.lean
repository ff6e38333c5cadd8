set_option maxRecDepth 16384
set_option maxHeartbeats 4000000 in
set_option maxRecDepth 100000 in
theorem ct_zX0_read (l : Launch) (D : va_G) (tc : Nat → ClassId) (sk : (Nat → Nat) × (Nat → Nat)) (Wa : Nat → Nat) (Aa : Nat → Nat) (Av : Nat → Int32) (Af : Nat → Nat → Int32) (Ta : Nat → Nat) (Tv : Nat → Int32) (Tf : Nat → Nat → Int32) (h_tape : 0 ≤ ((Tv 0) : Int32).toInt ∧ ((Tv 0) : Int32).toInt ≤ 400 ∧ 0 ≤ ((Tv 1) : Int32).toInt ∧ ((Tv 1) : Int32).toInt ≤ 400 ∧ 0 ≤ ((Tv 2) : Int32).toInt ∧ ((Tv 2) : Int32).toInt ≤ 400) (h_by : Byt (Tf 1)) (h_bu : 0 ≤ ((Av 3) : Int32).toInt ∧ ((Av 3) : Int32).toInt ≤ 6) : Ct l yX0_read cX0_read 3 (some .int) { frames := 7, cells := 0, slots := 0, locals := 156 } D tc sk [.ref (Wa 0), .ref (Ta 0)] [((Wa 0), .inr (0, [.ref (Aa 0)])), ((Aa 0), .inr (9, [.int (Av 0), .int (Av 1), .int (Av 2), .int (Av 3), .int (Av 4), .int (Av 5), .ref (Aa 1), .ref (Aa 2), .ref (Aa 3), .ref (Aa 4), .ref (Aa 5), .ref (Aa 6), .ref (Aa 7), .ref (Aa 8)])), ((Aa 1), .inl (tc 0, 10, .inl (Af 1))), ((Aa 2), .inl (tc 0, 10, .inl (Af 2))), ((Aa 3), .inl (tc 0, 6, .inl (Af 3))), ((Aa 4), .inl (tc 0, 6, .inl (Af 4))), ((Aa 5), .inl (tc 0, 6, .inl (Af 5))), ((Aa 6), .inl (tc 0, 6, .inl (Af 6))), ((Aa 7), .inl (tc 0, 6, .inl (Af 7))), ((Aa 8), .inl (tc 0, 6, .inl (Af 8))), ((Ta 0), .inr (10, [.ref (Ta 1), .int (Tv 0), .int (Tv 1), .int (Tv 2), .int (Tv 3), .int (Tv 4)])), ((Ta 1), .inl (tc 0, 400, .inl (Tf 1)))] (fun (v : Option Value) (u : (Int32) × (Int32) × (Int32) × (Int32) × (Nat → Int32) × (Nat → Int32) × (Nat → Int32) × (Nat → Int32) × (Nat → Int32) × (Nat → Int32) × (Nat → Int32) × (Nat → Int32) × (Int32) × (Int32) × (Int32) × (Int32)) => match u with | (oo0x1, oo0x2, oo0x3, oo0x4, oo0x5, oo0x6, oo0x7, oo0x8, oo0x9, oo0x10, oo0x11, oo0x12, oo0x13, oo0x14, oo0x15, oo0x16) => ∃ r : Int32, v = some (.int r) ∧ (QkR (cB (Tf 1) (Tv 0)) r oo0x1 oo0x2 oo0x3 oo0x4 0 0 oo0x5 oo0x6 oo0x7 oo0x8 oo0x9 oo0x10 oo0x11 oo0x12) ∧ (0 ≤ ((Tv 0) : Int32).toInt ∧ ((Tv 0) : Int32).toInt ≤ 400 ∧ 0 ≤ (oo0x13 : Int32).toInt ∧ (oo0x13 : Int32).toInt ≤ 400 ∧ 0 ≤ (oo0x14 : Int32).toInt ∧ (oo0x14 : Int32).toInt ≤ 400) ∧ (0 ≤ (oo0x4 : Int32).toInt ∧ (oo0x4 : Int32).toInt ≤ 6)) (fun (u : (Int32) × (Int32) × (Int32) × (Int32) × (Nat → Int32) × (Nat → Int32) × (Nat → Int32) × (Nat → Int32) × (Nat → Int32) × (Nat → Int32) × (Nat → Int32) × (Nat → Int32) × (Int32) × (Int32) × (Int32) × (Int32)) => match u with | (oo0x1, oo0x2, oo0x3, oo0x4, oo0x5, oo0x6, oo0x7, oo0x8, oo0x9, oo0x10, oo0x11, oo0x12, oo0x13, oo0x14, oo0x15, oo0x16) => [((Wa 0), .inr (0, [.ref (Aa 0)])), ((Aa 0), .inr (9, [.int oo0x1, .int oo0x2, .int oo0x3, .int oo0x4, .int 0, .int 0, .ref (Aa 1), .ref (Aa 2), .ref (Aa 3), .ref (Aa 4), .ref (Aa 5), .ref (Aa 6), .ref (Aa 7), .ref (Aa 8)])), ((Aa 1), .inl (tc 0, 10, .inl oo0x5)), ((Aa 2), .inl (tc 0, 10, .inl oo0x6)), ((Aa 3), .inl (tc 0, 6, .inl oo0x7)), ((Aa 4), .inl (tc 0, 6, .inl oo0x8)), ((Aa 5), .inl (tc 0, 6, .inl oo0x9)), ((Aa 6), .inl (tc 0, 6, .inl oo0x10)), ((Aa 7), .inl (tc 0, 6, .inl oo0x11)), ((Aa 8), .inl (tc 0, 6, .inl oo0x12)), ((Ta 0), .inr (10, [.ref (Ta 1), .int (Tv 0), .int oo0x13, .int oo0x14, .int oo0x15, .int oo0x16])), ((Ta 1), .inl (tc 0, 400, .inl (Tf 1)))]) 0 0 := by
  refine Ct.start (by decide) (Nat.le_of_ble_eq_true rfl) (fun p e s m below meth c A ls hx hb hr hlk hin hml hown hts hK hX hP hD hA hl hS => ?_)
  have hl : lv_has ls 3 [(0, .ref (Wa 0)), (1, .ref (Ta 0))] := hl
  refine lv_aload_n hx hb dX0_read_0 rfl (lv_at hl 0 rfl) ?_
  refine gf_X0_12 hx hb hts hown hK hP 0 rfl rfl dX0_read_1 ?_
  refine cV (a := (Aa 0)) (As := []) (rest := []) (wr := [((Wa 0), .inr (0, [.ref (Aa 0)])), ((Ta 0), .inr (10, [.ref (Ta 1), .int (Tv 0), .int (Tv 1), .int (Tv 2), .int (Tv 3), .int (Tv 4)])), ((Ta 1), .inl (tc 0, 400, .inl (Tf 1)))]) ⟨hx, hb, hml, hown, hts⟩ hK hX hA (cu_zX9_clear l D tc sk (Aa 0) (Aa 1) (Aa 2) (Aa 3) (Aa 4) (Aa 5) (Aa 6) (Aa 7) (Aa 8) (Av 0) (Av 1) (Av 2) (Av 3) (Av 4) (Av 5) (Af 1) (Af 2) (Af 3) (Af 4) (Af 5) (Af 6) (Af 7) (Af 8)) k_470 k_467 k_468 k_469 k_98 pl_X9_clear ⟨Nat.le_of_ble_eq_true rfl, Nat.le_of_ble_eq_true rfl⟩ rfl rfl (va_recv hK hP (ci := 9) (q0 := 1) rfl rfl) hP hD hS [1, 2, 3, 4, 5, 6, 7, 8, 9] [0, 10, 11] rfl rfl rfl rfl rfl (by decide) rfl hl.1 rfl (Nat.le_of_ble_eq_true rfl) dX0_read_4 ⟨Nat.le_of_ble_eq_true rfl, Nat.le_of_ble_eq_true rfl⟩ (fun v_1 u_2 H locs hv_3 hP₀ hD₀ hS₀ => ?_)
  obtain ⟨sv_4, sv_5, sv_6, sv_7, sv_8, sv_9, sv_10, sv_11⟩ := u_2
  obtain ⟨rfl, pf_12⟩ := hv_3
  have pf_12 : ShC 0 0 0 0 0 0 sv_4 sv_5 sv_6 sv_7 sv_8 sv_9 sv_10 sv_11 qz_0 := pf_12
  refine W.eq (g2 := F0 m 7 ls []) rfl ?_
  replace hP : va_P D classes [((Wa 0), .inr (0, [.ref (Aa 0)])), ((Ta 0), .inr (10, [.ref (Ta 1), .int (Tv 0), .int (Tv 1), .int (Tv 2), .int (Tv 3), .int (Tv 4)])), ((Ta 1), .inl (tc 0, 400, .inl (Tf 1))), ((Aa 0), .inr (9, [.int 0, .int 0, .int 0, .int 0, .int 0, .int 0, .ref (Aa 1), .ref (Aa 2), .ref (Aa 3), .ref (Aa 4), .ref (Aa 5), .ref (Aa 6), .ref (Aa 7), .ref (Aa 8)])), ((Aa 1), .inl (tc 0, 10, .inl sv_4)), ((Aa 2), .inl (tc 0, 10, .inl sv_5)), ((Aa 3), .inl (tc 0, 6, .inl sv_6)), ((Aa 4), .inl (tc 0, 6, .inl sv_7)), ((Aa 5), .inl (tc 0, 6, .inl sv_8)), ((Aa 6), .inl (tc 0, 6, .inl sv_9)), ((Aa 7), .inl (tc 0, 6, .inl sv_10)), ((Aa 8), .inl (tc 0, 6, .inl sv_11))] H := hP₀
  replace hD : va_D A [((Wa 0), .inr (0, [.ref (Aa 0)])), ((Ta 0), .inr (10, [.ref (Ta 1), .int (Tv 0), .int (Tv 1), .int (Tv 2), .int (Tv 3), .int (Tv 4)])), ((Ta 1), .inl (tc 0, 400, .inl (Tf 1))), ((Aa 0), .inr (9, [.int 0, .int 0, .int 0, .int 0, .int 0, .int 0, .ref (Aa 1), .ref (Aa 2), .ref (Aa 3), .ref (Aa 4), .ref (Aa 5), .ref (Aa 6), .ref (Aa 7), .ref (Aa 8)])), ((Aa 1), .inl (tc 0, 10, .inl sv_4)), ((Aa 2), .inl (tc 0, 10, .inl sv_5)), ((Aa 3), .inl (tc 0, 6, .inl sv_6)), ((Aa 4), .inl (tc 0, 6, .inl sv_7)), ((Aa 5), .inl (tc 0, 6, .inl sv_8)), ((Aa 6), .inl (tc 0, 6, .inl sv_9)), ((Aa 7), .inl (tc 0, 6, .inl sv_10)), ((Aa 8), .inl (tc 0, 6, .inl sv_11))] := hD₀
  replace hS := hS₀
  clear hP₀ hD₀ hS₀
  refine lv_aload_n hx hb dX0_read_7 rfl (lv_at hl 1 rfl) ?_
  refine cV (a := (Ta 0)) (As := []) (rest := []) (wr := [((Wa 0), .inr (0, [.ref (Aa 0)])), ((Aa 0), .inr (9, [.int 0, .int 0, .int 0, .int 0, .int 0, .int 0, .ref (Aa 1), .ref (Aa 2), .ref (Aa 3), .ref (Aa 4), .ref (Aa 5), .ref (Aa 6), .ref (Aa 7), .ref (Aa 8)])), ((Aa 1), .inl (tc 0, 10, .inl sv_4)), ((Aa 2), .inl (tc 0, 10, .inl sv_5)), ((Aa 3), .inl (tc 0, 6, .inl sv_6)), ((Aa 4), .inl (tc 0, 6, .inl sv_7)), ((Aa 5), .inl (tc 0, 6, .inl sv_8)), ((Aa 6), .inl (tc 0, 6, .inl sv_9)), ((Aa 7), .inl (tc 0, 6, .inl sv_10)), ((Aa 8), .inl (tc 0, 6, .inl sv_11))]) ⟨hx, hb, hml, hown, hts⟩ hK hX hA (cu_fX10_begin l D tc sk (Ta 0) (Ta 1) (Tv 0) (Tv 1) (Tv 2) (Tv 3) (Tv 4) (Tf 1) h_tape h_by) k_474 k_471 k_472 k_473 k_96 pl_X10_begin ⟨Nat.le_of_ble_eq_true rfl, Nat.le_of_ble_eq_true rfl⟩ rfl rfl (va_recv hK hP (ci := 10) (q0 := 1) rfl rfl) hP hD hS [1, 2] [0, 3, 4, 5, 6, 7, 8, 9, 10, 11] rfl rfl rfl rfl rfl (by decide) rfl hl.1 rfl (Nat.le_of_ble_eq_true rfl) dX0_read_8 ⟨Nat.le_of_ble_eq_true rfl, Nat.le_of_ble_eq_true rfl⟩ (fun v_13 u_14 H locs hv_15 hP₀ hD₀ hS₀ => ?_)
  obtain ⟨sv_16, sv_17, sv_18⟩ := u_14
  obtain ⟨rfl, pf_19, pf_20⟩ := hv_15
  have pf_19 : 0 ≤ ((Tv 0) : Int32).toInt ∧ ((Tv 0) : Int32).toInt ≤ 400 ∧ 0 ≤ (sv_16 : Int32).toInt ∧ (sv_16 : Int32).toInt ≤ 400 ∧ 0 ≤ (sv_17 : Int32).toInt ∧ (sv_17 : Int32).toInt ≤ 400 := pf_19
  have pf_20 : TpR (Tf 1) (Tv 0) (rSK (cB (Tf 1) (Tv 0)) (.ok (0, 0))) sv_16 sv_17 sv_18 0 := pf_20
  obtain ⟨ro_21, ero_21⟩ : ∃ z : Except Int (Nat × Nat), z = (rSK (cB (Tf 1) (Tv 0)) (.ok (0, 0))) := ⟨_, rfl⟩
  rw [← ero_21] at pf_20
  have tb_22 : TpB (rTE (cB (Tf 1) (Tv 0)) ro_21) sv_17 0 := TpR.tb pf_20
  refine W.eq (g2 := F0 m 11 ls []) rfl ?_
  replace hP : va_P D classes [((Wa 0), .inr (0, [.ref (Aa 0)])), ((Aa 0), .inr (9, [.int 0, .int 0, .int 0, .int 0, .int 0, .int 0, .ref (Aa 1), .ref (Aa 2), .ref (Aa 3), .ref (Aa 4), .ref (Aa 5), .ref (Aa 6), .ref (Aa 7), .ref (Aa 8)])), ((Aa 1), .inl (tc 0, 10, .inl sv_4)), ((Aa 2), .inl (tc 0, 10, .inl sv_5)), ((Aa 3), .inl (tc 0, 6, .inl sv_6)), ((Aa 4), .inl (tc 0, 6, .inl sv_7)), ((Aa 5), .inl (tc 0, 6, .inl sv_8)), ((Aa 6), .inl (tc 0, 6, .inl sv_9)), ((Aa 7), .inl (tc 0, 6, .inl sv_10)), ((Aa 8), .inl (tc 0, 6, .inl sv_11)), ((Ta 0), .inr (10, [.ref (Ta 1), .int (Tv 0), .int sv_16, .int sv_17, .int sv_18, .int 0])), ((Ta 1), .inl (tc 0, 400, .inl (Tf 1)))] H := hP₀
  replace hD : va_D A [((Wa 0), .inr (0, [.ref (Aa 0)])), ((Aa 0), .inr (9, [.int 0, .int 0, .int 0, .int 0, .int 0, .int 0, .ref (Aa 1), .ref (Aa 2), .ref (Aa 3), .ref (Aa 4), .ref (Aa 5), .ref (Aa 6), .ref (Aa 7), .ref (Aa 8)])), ((Aa 1), .inl (tc 0, 10, .inl sv_4)), ((Aa 2), .inl (tc 0, 10, .inl sv_5)), ((Aa 3), .inl (tc 0, 6, .inl sv_6)), ((Aa 4), .inl (tc 0, 6, .inl sv_7)), ((Aa 5), .inl (tc 0, 6, .inl sv_8)), ((Aa 6), .inl (tc 0, 6, .inl sv_9)), ((Aa 7), .inl (tc 0, 6, .inl sv_10)), ((Aa 8), .inl (tc 0, 6, .inl sv_11)), ((Ta 0), .inr (10, [.ref (Ta 1), .int (Tv 0), .int sv_16, .int sv_17, .int sv_18, .int 0])), ((Ta 1), .inl (tc 0, 400, .inl (Tf 1)))] := hD₀
  replace hS := hS₀
  clear hP₀ hD₀ hS₀
  refine lv_iconst (v := 0) hx hb dX0_read_11 (by decide) ?_
  refine lv_istore_n (lv' := [(2, .int 0), (0, .ref (Wa 0)), (1, .ref (Ta 0))]) hx hb dX0_read_12 rfl hl (by decide) rfl (fun ls hl₀ => ?_)
  replace hl := hl₀
  clear hl₀
  have loop_53 : ∀ (n_51 : Nat) (vy_37 : Int32) (vy_38 : Int32) (vy_39 : Int32) (vy_40 : Int32) (vy_41 : Int32) (vy_42 : Nat → Int32) (vy_43 : Nat → Int32) (vy_44 : Nat → Int32) (vy_45 : Nat → Int32) (vy_46 : Nat → Int32) (vy_47 : Int32) (vy_48 : Int32) (vy_49 : Int32) (vy_50 : Int32) (H : Heap) (locs : List Loc) (ls : Array Slot), (42 - (vy_37 : Int32).toInt).toNat < n_51 → (0 ≤ (vy_37 : Int32).toInt ∧ (vy_37 : Int32).toInt ≤ 41) → (0 ≤ ((Tv 0) : Int32).toInt ∧ ((Tv 0) : Int32).toInt ≤ 400 ∧ 0 ≤ (vy_47 : Int32).toInt ∧ (vy_47 : Int32).toInt ≤ 400 ∧ 0 ≤ (vy_48 : Int32).toInt ∧ (vy_48 : Int32).toInt ≤ 400) → (0 ≤ (vy_41 : Int32).toInt ∧ (vy_41 : Int32).toInt ≤ 6) → (QbL (Tf 1) (Tv 0) vy_47 vy_48 vy_49 vy_50 vy_38 vy_39 vy_40 vy_41 0 0 vy_42 vy_43 vy_44 vy_45 vy_46 sv_9 sv_10 sv_11 vy_37) → va_P D classes [((Wa 0), .inr (0, [.ref (Aa 0)])), ((Aa 0), .inr (9, [.int vy_38, .int vy_39, .int vy_40, .int vy_41, .int 0, .int 0, .ref (Aa 1), .ref (Aa 2), .ref (Aa 3), .ref (Aa 4), .ref (Aa 5), .ref (Aa 6), .ref (Aa 7), .ref (Aa 8)])), ((Aa 1), .inl (tc 0, 10, .inl vy_42)), ((Aa 2), .inl (tc 0, 10, .inl vy_43)), ((Aa 3), .inl (tc 0, 6, .inl vy_44)), ((Aa 4), .inl (tc 0, 6, .inl vy_45)), ((Aa 5), .inl (tc 0, 6, .inl vy_46)), ((Aa 6), .inl (tc 0, 6, .inl sv_9)), ((Aa 7), .inl (tc 0, 6, .inl sv_10)), ((Aa 8), .inl (tc 0, 6, .inl sv_11)), ((Ta 0), .inr (10, [.ref (Ta 1), .int (Tv 0), .int vy_47, .int vy_48, .int vy_49, .int vy_50])), ((Ta 1), .inl (tc 0, 400, .inl (Tf 1)))] H → va_D A [((Wa 0), .inr (0, [.ref (Aa 0)])), ((Aa 0), .inr (9, [.int vy_38, .int vy_39, .int vy_40, .int vy_41, .int 0, .int 0, .ref (Aa 1), .ref (Aa 2), .ref (Aa 3), .ref (Aa 4), .ref (Aa 5), .ref (Aa 6), .ref (Aa 7), .ref (Aa 8)])), ((Aa 1), .inl (tc 0, 10, .inl vy_42)), ((Aa 2), .inl (tc 0, 10, .inl vy_43)), ((Aa 3), .inl (tc 0, 6, .inl vy_44)), ((Aa 4), .inl (tc 0, 6, .inl vy_45)), ((Aa 5), .inl (tc 0, 6, .inl vy_46)), ((Aa 6), .inl (tc 0, 6, .inl sv_9)), ((Aa 7), .inl (tc 0, 6, .inl sv_10)), ((Aa 8), .inl (tc 0, 6, .inl sv_11)), ((Ta 0), .inr (10, [.ref (Ta 1), .int (Tv 0), .int vy_47, .int vy_48, .int vy_49, .int vy_50])), ((Ta 1), .inl (tc 0, 400, .inl (Tf 1)))] → va_S A s.heap H locs → lv_has ls 3 [(2, .int vy_37), (0, .ref (Wa 0)), (1, .ref (Ta 0))] → W p l e ({ frames := 7, cells := 0, slots := 0, locals := 156 }) s m ([.ref (Wa 0), .ref (Ta 0)].toArray) below meth c H locs 0 0 (MQ below (QW (fun (v : Option Value) (u : (Int32) × (Int32) × (Int32) × (Int32) × (Nat → Int32) × (Nat → Int32) × (Nat → Int32) × (Nat → Int32) × (Nat → Int32) × (Nat → Int32) × (Nat → Int32) × (Nat → Int32) × (Int32) × (Int32) × (Int32) × (Int32)) => match u with | (oo0x1, oo0x2, oo0x3, oo0x4, oo0x5, oo0x6, oo0x7, oo0x8, oo0x9, oo0x10, oo0x11, oo0x12, oo0x13, oo0x14, oo0x15, oo0x16) => ∃ r : Int32, v = some (.int r) ∧ (QkR (cB (Tf 1) (Tv 0)) r oo0x1 oo0x2 oo0x3 oo0x4 0 0 oo0x5 oo0x6 oo0x7 oo0x8 oo0x9 oo0x10 oo0x11 oo0x12) ∧ (0 ≤ ((Tv 0) : Int32).toInt ∧ ((Tv 0) : Int32).toInt ≤ 400 ∧ 0 ≤ (oo0x13 : Int32).toInt ∧ (oo0x13 : Int32).toInt ≤ 400 ∧ 0 ≤ (oo0x14 : Int32).toInt ∧ (oo0x14 : Int32).toInt ≤ 400) ∧ (0 ≤ (oo0x4 : Int32).toInt ∧ (oo0x4 : Int32).toInt ≤ 6)) (BW D (fun (u : (Int32) × (Int32) × (Int32) × (Int32) × (Nat → Int32) × (Nat → Int32) × (Nat → Int32) × (Nat → Int32) × (Nat → Int32) × (Nat → Int32) × (Nat → Int32) × (Nat → Int32) × (Int32) × (Int32) × (Int32) × (Int32)) => match u with | (oo0x1, oo0x2, oo0x3, oo0x4, oo0x5, oo0x6, oo0x7, oo0x8, oo0x9, oo0x10, oo0x11, oo0x12, oo0x13, oo0x14, oo0x15, oo0x16) => [((Wa 0), .inr (0, [.ref (Aa 0)])), ((Aa 0), .inr (9, [.int oo0x1, .int oo0x2, .int oo0x3, .int oo0x4, .int 0, .int 0, .ref (Aa 1), .ref (Aa 2), .ref (Aa 3), .ref (Aa 4), .ref (Aa 5), .ref (Aa 6), .ref (Aa 7), .ref (Aa 8)])), ((Aa 1), .inl (tc 0, 10, .inl oo0x5)), ((Aa 2), .inl (tc 0, 10, .inl oo0x6)), ((Aa 3), .inl (tc 0, 6, .inl oo0x7)), ((Aa 4), .inl (tc 0, 6, .inl oo0x8)), ((Aa 5), .inl (tc 0, 6, .inl oo0x9)), ((Aa 6), .inl (tc 0, 6, .inl oo0x10)), ((Aa 7), .inl (tc 0, 6, .inl oo0x11)), ((Aa 8), .inl (tc 0, 6, .inl oo0x12)), ((Ta 0), .inr (10, [.ref (Ta 1), .int (Tv 0), .int oo0x13, .int oo0x14, .int oo0x15, .int oo0x16])), ((Ta 1), .inl (tc 0, 400, .inl (Tf 1)))]) A) A) ([.ref (Wa 0), .ref (Ta 0)].toArray) s 0 0 A) (F0 m 13 ls []) := by
    clear hP hD hS hl
    intro n_51
    induction n_51 with
    | zero =>
      intro vy_37 vy_38 vy_39 vy_40 vy_41 vy_42 vy_43 vy_44 vy_45 vy_46 vy_47 vy_48 vy_49 vy_50 H locs ls h1
      exact absurd h1 (Nat.not_lt_zero _)
    | succ n_51 ih_52 =>
      intro vy_37 vy_38 vy_39 vy_40 vy_41 vy_42 vy_43 vy_44 vy_45 vy_46 vy_47 vy_48 vy_49 vy_50 H locs ls hn_58 pf_54 pf_55 pf_56 pf_57 hP hD hS hl
      obtain ⟨bq_59, pf_60, pf_61, pf_62⟩ := id pf_57
      obtain ⟨ro_63, ero_63⟩ : ∃ z : Except Int (Nat × Nat), z = (fsC bq_59) := ⟨_, rfl⟩
      rw [← ero_63] at pf_60
      have tb_64 : TpB (rTE (cB (Tf 1) (Tv 0)) ro_63) vy_48 vy_50 := TpR.tb pf_60
      have pf_65 : FsR bq_59 ro_63 := ero_63.symm
      refine lv_iload_n hx hb dX0_read_13 rfl (lv_at hl 0 rfl) ?_
      refine lv_bipush (v := 40) hx hb dX0_read_14 (by decide) ?_
      refine lv_icmp_gt (tgt := 44) hx hb dX0_read_16 (by decide) (fun c_66 => ?_) (fun c_66 => ?_)
      · skip
        refine lv_aload_n hx hb dX0_read_44 rfl (lv_at hl 2 rfl) ?_
        refine cV (a := (Ta 0)) (As := []) (rest := []) (wr := [((Wa 0), .inr (0, [.ref (Aa 0)])), ((Aa 0), .inr (9, [.int vy_38, .int vy_39, .int vy_40, .int vy_41, .int 0, .int 0, .ref (Aa 1), .ref (Aa 2), .ref (Aa 3), .ref (Aa 4), .ref (Aa 5), .ref (Aa 6), .ref (Aa 7), .ref (Aa 8)])), ((Aa 1), .inl (tc 0, 10, .inl vy_42)), ((Aa 2), .inl (tc 0, 10, .inl vy_43)), ((Aa 3), .inl (tc 0, 6, .inl vy_44)), ((Aa 4), .inl (tc 0, 6, .inl vy_45)), ((Aa 5), .inl (tc 0, 6, .inl vy_46)), ((Aa 6), .inl (tc 0, 6, .inl sv_9)), ((Aa 7), .inl (tc 0, 6, .inl sv_10)), ((Aa 8), .inl (tc 0, 6, .inl sv_11))]) ⟨hx, hb, hml, hown, hts⟩ hK hX hA (cu_fX10_finish l D tc sk (Ta 0) (Ta 1) (Tv 0) vy_47 vy_48 vy_49 vy_50 (Tf 1) ro_63 pf_55 h_by pf_60) k_595 k_592 k_593 k_594 k_96 pl_X10_finish ⟨Nat.le_of_ble_eq_true rfl, Nat.le_of_ble_eq_true rfl⟩ rfl rfl (va_recv hK hP (ci := 10) (q0 := 10) rfl rfl) hP hD hS [10, 11] [0, 1, 2, 3, 4, 5, 6, 7, 8, 9] rfl rfl rfl rfl rfl (by decide) rfl hl.1 rfl (Nat.le_of_ble_eq_true rfl) dX0_read_45 ⟨Nat.le_of_ble_eq_true rfl, Nat.le_of_ble_eq_true rfl⟩ (fun v_67 u_68 H locs hv_69 hP₀ hD₀ hS₀ => ?_)
        obtain ⟨sv_70, sv_71⟩ := u_68
        obtain ⟨rfl, pf_72, pf_73⟩ := hv_69
        have pf_72 : 0 ≤ ((Tv 0) : Int32).toInt ∧ ((Tv 0) : Int32).toInt ≤ 400 ∧ 0 ≤ (vy_47 : Int32).toInt ∧ (vy_47 : Int32).toInt ≤ 400 ∧ 0 ≤ (vy_48 : Int32).toInt ∧ (vy_48 : Int32).toInt ≤ 400 := pf_72
        have pf_73 : TpR (Tf 1) (Tv 0) (rEN (cB (Tf 1) (Tv 0)) ro_63) vy_47 vy_48 sv_70 sv_71 := pf_73
        obtain ⟨ro_74, ero_74⟩ : ∃ z : Except Int (Nat × Nat), z = (rEN (cB (Tf 1) (Tv 0)) ro_63) := ⟨_, rfl⟩
        rw [← ero_74] at pf_73
        have tb_75 : TpB (rTE (cB (Tf 1) (Tv 0)) ro_74) vy_48 sv_71 := TpR.tb pf_73
        refine W.eq (g2 := F0 m 48 ls []) rfl ?_
        replace hP : va_P D classes [((Wa 0), .inr (0, [.ref (Aa 0)])), ((Aa 0), .inr (9, [.int vy_38, .int vy_39, .int vy_40, .int vy_41, .int 0, .int 0, .ref (Aa 1), .ref (Aa 2), .ref (Aa 3), .ref (Aa 4), .ref (Aa 5), .ref (Aa 6), .ref (Aa 7), .ref (Aa 8)])), ((Aa 1), .inl (tc 0, 10, .inl vy_42)), ((Aa 2), .inl (tc 0, 10, .inl vy_43)), ((Aa 3), .inl (tc 0, 6, .inl vy_44)), ((Aa 4), .inl (tc 0, 6, .inl vy_45)), ((Aa 5), .inl (tc 0, 6, .inl vy_46)), ((Aa 6), .inl (tc 0, 6, .inl sv_9)), ((Aa 7), .inl (tc 0, 6, .inl sv_10)), ((Aa 8), .inl (tc 0, 6, .inl sv_11)), ((Ta 0), .inr (10, [.ref (Ta 1), .int (Tv 0), .int vy_47, .int vy_48, .int sv_70, .int sv_71])), ((Ta 1), .inl (tc 0, 400, .inl (Tf 1)))] H := hP₀
        replace hD : va_D A [((Wa 0), .inr (0, [.ref (Aa 0)])), ((Aa 0), .inr (9, [.int vy_38, .int vy_39, .int vy_40, .int vy_41, .int 0, .int 0, .ref (Aa 1), .ref (Aa 2), .ref (Aa 3), .ref (Aa 4), .ref (Aa 5), .ref (Aa 6), .ref (Aa 7), .ref (Aa 8)])), ((Aa 1), .inl (tc 0, 10, .inl vy_42)), ((Aa 2), .inl (tc 0, 10, .inl vy_43)), ((Aa 3), .inl (tc 0, 6, .inl vy_44)), ((Aa 4), .inl (tc 0, 6, .inl vy_45)), ((Aa 5), .inl (tc 0, 6, .inl vy_46)), ((Aa 6), .inl (tc 0, 6, .inl sv_9)), ((Aa 7), .inl (tc 0, 6, .inl sv_10)), ((Aa 8), .inl (tc 0, 6, .inl sv_11)), ((Ta 0), .inr (10, [.ref (Ta 1), .int (Tv 0), .int vy_47, .int vy_48, .int sv_70, .int sv_71])), ((Ta 1), .inl (tc 0, 400, .inl (Tf 1)))] := hD₀
        replace hS := hS₀
        clear hP₀ hD₀ hS₀
        refine lv_aload_n hx hb dX0_read_48 rfl (lv_at hl 2 rfl) ?_
        refine gf_X0_37 hx hb hts hown hK hP 10 rfl rfl dX0_read_49 ?_
        have hr_76 : 40 < (vy_37 : Int32).toInt := by
          have z_1 := Int32.lt_iff_toInt_lt.mp c_66
          have y_40 : (40 : Int32).toInt = 40 := by decide
          omega
        have hu_77 : TpR (Tf 1) (Tv 0) (rEN (cB (Tf 1) (Tv 0)) (fsC bq_59)) vy_47 vy_48 sv_70 sv_71 := by
          rw [← ero_63, ← ero_74]
          exact pf_73
        have hr_78 : ¬ (vy_37 : Int32).toInt = 0 := by
          have z_1 := Int32.lt_iff_toInt_lt.mp c_66
          have y_40 : (40 : Int32).toInt = 40 := by decide
          omega
        exact retI (v := sv_71) hx hb hr hlk (rfl) hP hD hS (vy_38, vy_39, vy_40, vy_41, vy_42, vy_43, vy_44, vy_45, vy_46, sv_9, sv_10, sv_11, vy_47, vy_48, sv_70, sv_71) ⟨_, rfl, (QkR.of (QbL.fin pf_62 hr_78 (Or.inl hr_76)) hu_77 pf_61), pf_72, pf_56⟩ [0, 1, 2, 3, 4, 5, 6, 7, 8, 9, 10, 11] rfl rfl dX0_read_52 (Nat.le_of_ble_eq_true rfl) (Nat.le_of_ble_eq_true rfl) rfl
      · skip
        refine lv_iload_n hx hb dX0_read_19 rfl (lv_at hl 0 rfl) ?_
        refine lv_if_eq (tgt := 32) hx hb dX0_read_20 (by decide) (fun c_79 => ?_) (fun c_79 => ?_)
        · skip
          refine lv_aload_n hx hb dX0_read_32 rfl (lv_at hl 1 rfl) ?_
          refine lv_aload_n hx hb dX0_read_33 rfl (lv_at hl 2 rfl) ?_
          refine lv_iload_n hx hb dX0_read_34 rfl (lv_at hl 0 rfl) ?_
          have ha_80 : 0 ≤ vy_37.toInt ∧ vy_37.toInt ≤ 40 := by
            have z_1 := Int32.le_iff_toInt_le.mp (Int32.not_lt.mp c_66)
            have z_2 := congrArg Int32.toInt c_79
            have y_0 : (0 : Int32).toInt = 0 := by decide
            have y_40 : (40 : Int32).toInt = 40 := by decide
            omega
          refine cV (a := (Wa 0)) (As := [.ref (Ta 0), .int vy_37]) (rest := []) (wr := []) ⟨hx, hb, hml, hown, hts⟩ hK hX hA (cu_zX0_readClause l D tc sk (Wa 0) (Aa 0) (Aa 1) (Aa 2) (Aa 3) (Aa 4) (Aa 5) (Aa 6) (Aa 7) (Aa 8) vy_38 vy_39 vy_40 vy_41 0 0 vy_42 vy_43 vy_44 vy_45 vy_46 sv_9 sv_10 sv_11 (Ta 0) (Ta 1) (Tv 0) vy_47 vy_48 vy_49 vy_50 (Tf 1) vy_37 ro_63 bq_59 pf_55 h_by pf_60 pf_56 ha_80 pf_65 pf_61) k_496 k_493 k_495 k_1 k_97 pl_X0_readClause ⟨Nat.le_of_ble_eq_true rfl, Nat.le_of_ble_eq_true rfl⟩ rfl rfl (va_recv hK hP (ci := 0) (q0 := 0) rfl rfl) hP hD hS [0, 1, 2, 3, 4, 5, 6, 7, 8, 9, 10, 11] [] rfl rfl rfl rfl rfl (by decide) rfl hl.1 rfl (Nat.le_of_ble_eq_true rfl) dX0_read_35 ⟨Nat.le_of_ble_eq_true rfl, Nat.le_of_ble_eq_true rfl⟩ (fun v_81 u_82 H locs hv_83 hP₀ hD₀ hS₀ => ?_)
          obtain ⟨sv_84, sv_85, sv_86, sv_87, sv_88, sv_89, sv_90, sv_91, sv_92, sv_93, sv_94, sv_95, sv_96⟩ := u_82
          obtain ⟨rfl, pf_97, pf_98, pf_99, pf_100⟩ := hv_83
          have pf_97 : 0 ≤ ((Tv 0) : Int32).toInt ∧ ((Tv 0) : Int32).toInt ≤ 400 ∧ 0 ≤ (sv_93 : Int32).toInt ∧ (sv_93 : Int32).toInt ≤ 400 ∧ 0 ≤ (sv_94 : Int32).toInt ∧ (sv_94 : Int32).toInt ≤ 400 := pf_97
          have pf_98 : 0 ≤ (sv_87 : Int32).toInt ∧ (sv_87 : Int32).toInt ≤ 6 := pf_98
          have pf_99 : TpR (Tf 1) (Tv 0) (fsC (pz_b bq_59 (qz_cl (cB (Tf 1) (Tv 0)) vy_37.toInt.toNat))) sv_93 sv_94 sv_95 sv_96 := pf_99
          obtain ⟨ro_101, ero_101⟩ : ∃ z : Except Int (Nat × Nat), z = (fsC (pz_b bq_59 (qz_cl (cB (Tf 1) (Tv 0)) vy_37.toInt.toNat))) := ⟨_, rfl⟩
          rw [← ero_101] at pf_99
          have tb_102 : TpB (rTE (cB (Tf 1) (Tv 0)) ro_101) sv_94 sv_96 := TpR.tb pf_99
          have pf_100 : QsQ (pz_b bq_59 (qz_cl (cB (Tf 1) (Tv 0)) vy_37.toInt.toNat)) sv_84 sv_85 sv_86 sv_87 (0 : Int32) (0 : Int32) sv_88 sv_89 sv_90 sv_91 sv_92 sv_9 sv_10 sv_11 := pf_100
          refine W.eq (g2 := F0 m 38 ls []) rfl ?_
          replace hP : va_P D classes [((Wa 0), .inr (0, [.ref (Aa 0)])), ((Aa 0), .inr (9, [.int sv_84, .int sv_85, .int sv_86, .int sv_87, .int 0, .int 0, .ref (Aa 1), .ref (Aa 2), .ref (Aa 3), .ref (Aa 4), .ref (Aa 5), .ref (Aa 6), .ref (Aa 7), .ref (Aa 8)])), ((Aa 1), .inl (tc 0, 10, .inl sv_88)), ((Aa 2), .inl (tc 0, 10, .inl sv_89)), ((Aa 3), .inl (tc 0, 6, .inl sv_90)), ((Aa 4), .inl (tc 0, 6, .inl sv_91)), ((Aa 5), .inl (tc 0, 6, .inl sv_92)), ((Aa 6), .inl (tc 0, 6, .inl sv_9)), ((Aa 7), .inl (tc 0, 6, .inl sv_10)), ((Aa 8), .inl (tc 0, 6, .inl sv_11)), ((Ta 0), .inr (10, [.ref (Ta 1), .int (Tv 0), .int sv_93, .int sv_94, .int sv_95, .int sv_96])), ((Ta 1), .inl (tc 0, 400, .inl (Tf 1)))] H := hP₀
          replace hD : va_D A [((Wa 0), .inr (0, [.ref (Aa 0)])), ((Aa 0), .inr (9, [.int sv_84, .int sv_85, .int sv_86, .int sv_87, .int 0, .int 0, .ref (Aa 1), .ref (Aa 2), .ref (Aa 3), .ref (Aa 4), .ref (Aa 5), .ref (Aa 6), .ref (Aa 7), .ref (Aa 8)])), ((Aa 1), .inl (tc 0, 10, .inl sv_88)), ((Aa 2), .inl (tc 0, 10, .inl sv_89)), ((Aa 3), .inl (tc 0, 6, .inl sv_90)), ((Aa 4), .inl (tc 0, 6, .inl sv_91)), ((Aa 5), .inl (tc 0, 6, .inl sv_92)), ((Aa 6), .inl (tc 0, 6, .inl sv_9)), ((Aa 7), .inl (tc 0, 6, .inl sv_10)), ((Aa 8), .inl (tc 0, 6, .inl sv_11)), ((Ta 0), .inr (10, [.ref (Ta 1), .int (Tv 0), .int sv_93, .int sv_94, .int sv_95, .int sv_96])), ((Ta 1), .inl (tc 0, 400, .inl (Tf 1)))] := hD₀
          replace hS := hS₀
          clear hP₀ hD₀ hS₀
          obtain ⟨x_103, ex_103⟩ : ∃ y : Int32, y = vy_37 + 1 := ⟨_, rfl⟩
          refine lv_iinc (v := x_103) (lv' := [(2, .int x_103), (0, .ref (Wa 0)), (1, .ref (Ta 0))]) hx hb dX0_read_38 hl (k := 0) rfl (by rw [ex_103]; rfl) (by decide) rfl (fun ls hl₀ => ?_)
          replace hl := hl₀
          clear hl₀
          refine lv_goto (tgt := 13) hx hb dX0_read_41 (by decide) ?_
          have hb_104 : 42 - (x_103 : Int32).toInt < 42 - (vy_37 : Int32).toInt ∧ 1 ≤ 42 - (vy_37 : Int32).toInt := by
            have z_1 := Int32.le_iff_toInt_le.mp (Int32.not_lt.mp c_66)
            have z_2 := congrArg Int32.toInt c_79
            have y_0 : (0 : Int32).toInt = 0 := by decide
            have y_40 : (40 : Int32).toInt = 40 := by decide
            have y_1 : (1 : Int32).toInt = 1 := by decide
            have t_x_103 : x_103.toInt = (vy_37 : Int32).toInt + (1 : Int32).toInt := by rw [ex_103]; exact add_toInt (by omega) (by omega)
            omega
          have ha_105 : 0 ≤ (x_103 : Int32).toInt ∧ (x_103 : Int32).toInt ≤ 41 := by
            have z_1 := Int32.le_iff_toInt_le.mp (Int32.not_lt.mp c_66)
            have z_2 := congrArg Int32.toInt c_79
            have y_0 : (0 : Int32).toInt = 0 := by decide
            have y_40 : (40 : Int32).toInt = 40 := by decide
            have y_1 : (1 : Int32).toInt = 1 := by decide
            have t_x_103 : x_103.toInt = (vy_37 : Int32).toInt + (1 : Int32).toInt := by rw [ex_103]; exact add_toInt (by omega) (by omega)
            omega
          have hu_106 : TpR (Tf 1) (Tv 0) (fsC (pz_b bq_59 (qz_cl (cB (Tf 1) (Tv 0)) vy_37.toInt.toNat))) sv_93 sv_94 sv_95 sv_96 := by rw [← ero_101]; exact pf_99
          have hi_107 : (x_103 : Int32).toInt = (vy_37 : Int32).toInt + 1 := by
            have z_1 := Int32.le_iff_toInt_le.mp (Int32.not_lt.mp c_66)
            have z_2 := congrArg Int32.toInt c_79
            have y_0 : (0 : Int32).toInt = 0 := by decide
            have y_40 : (40 : Int32).toInt = 40 := by decide
            have y_1 : (1 : Int32).toInt = 1 := by decide
            have t_x_103 : x_103.toInt = (vy_37 : Int32).toInt + (1 : Int32).toInt := by rw [ex_103]; exact add_toInt (by omega) (by omega)
            omega
          have hr_108 : (vy_37 : Int32).toInt = 0 := by
            have z_1 := Int32.le_iff_toInt_le.mp (Int32.not_lt.mp c_66)
            have z_2 := congrArg Int32.toInt c_79
            have y_0 : (0 : Int32).toInt = 0 := by decide
            have y_40 : (40 : Int32).toInt = 40 := by decide
            omega
          exact ih_52 x_103 sv_84 sv_85 sv_86 sv_87 sv_88 sv_89 sv_90 sv_91 sv_92 sv_93 sv_94 sv_95 sv_96 _ _ _ (by omega) ha_105 pf_97 pf_98 (QbL.next0 hr_108 pf_62 hu_106 pf_100 hi_107) (hP.sub [0, 1, 2, 3, 4, 5, 6, 7, 8, 9, 10, 11] rfl) (hD.sub [0, 1, 2, 3, 4, 5, 6, 7, 8, 9, 10, 11] rfl rfl) hS (lv_sub hl [0, 1, 2] rfl)
        · skip
          refine lv_aload_n hx hb dX0_read_23 rfl (lv_at hl 2 rfl) ?_
          refine lv_bipush (v := 59) hx hb dX0_read_24 (by decide) ?_
          have ha_109 : 0 ≤ (59 : Int32).toInt := by
            have z_1 := Int32.le_iff_toInt_le.mp (Int32.not_lt.mp c_66)
            have z_2 : ¬ (vy_37 : Int32).toInt = (0 : Int32).toInt := fun z => c_79 (Int32.toInt_inj.mp z)
            have y_0 : (0 : Int32).toInt = 0 := by decide
            have y_40 : (40 : Int32).toInt = 40 := by decide
            have y_59 : (59 : Int32).toInt = 59 := by decide
            omega
          have ha_110 : (59 : Int32).toInt = (59 : Int) := by
            have z_1 := Int32.le_iff_toInt_le.mp (Int32.not_lt.mp c_66)
            have z_2 : ¬ (vy_37 : Int32).toInt = (0 : Int32).toInt := fun z => c_79 (Int32.toInt_inj.mp z)
            have y_0 : (0 : Int32).toInt = 0 := by decide
            have y_40 : (40 : Int32).toInt = 40 := by decide
            have y_59 : (59 : Int32).toInt = 59 := by decide
            omega
          refine cV (a := (Ta 0)) (As := [.int 59]) (rest := []) (wr := [((Wa 0), .inr (0, [.ref (Aa 0)])), ((Aa 0), .inr (9, [.int vy_38, .int vy_39, .int vy_40, .int vy_41, .int 0, .int 0, .ref (Aa 1), .ref (Aa 2), .ref (Aa 3), .ref (Aa 4), .ref (Aa 5), .ref (Aa 6), .ref (Aa 7), .ref (Aa 8)])), ((Aa 1), .inl (tc 0, 10, .inl vy_42)), ((Aa 2), .inl (tc 0, 10, .inl vy_43)), ((Aa 3), .inl (tc 0, 6, .inl vy_44)), ((Aa 4), .inl (tc 0, 6, .inl vy_45)), ((Aa 5), .inl (tc 0, 6, .inl vy_46)), ((Aa 6), .inl (tc 0, 6, .inl sv_9)), ((Aa 7), .inl (tc 0, 6, .inl sv_10)), ((Aa 8), .inl (tc 0, 6, .inl sv_11))]) ⟨hx, hb, hml, hown, hts⟩ hK hX hA (cu_fX10_takes l D tc sk (Ta 0) (Ta 1) (Tv 0) vy_47 vy_48 vy_49 vy_50 (Tf 1) 59 ro_63 59 pf_55 h_by pf_60 ha_109 ha_110) k_492 k_489 k_490 k_491 k_96 pl_X10_takes ⟨Nat.le_of_ble_eq_true rfl, Nat.le_of_ble_eq_true rfl⟩ rfl rfl (va_recv hK hP (ci := 10) (q0 := 10) rfl rfl) hP hD hS [10, 11] [0, 1, 2, 3, 4, 5, 6, 7, 8, 9] rfl rfl rfl rfl rfl (by decide) rfl hl.1 rfl (Nat.le_of_ble_eq_true rfl) dX0_read_26 ⟨Nat.le_of_ble_eq_true rfl, Nat.le_of_ble_eq_true rfl⟩ (fun v_111 u_112 H locs hv_113 hP₀ hD₀ hS₀ => ?_)
          obtain ⟨sv_114, sv_115, sv_116⟩ := u_112
          obtain ⟨r_118, rfl, he_119, pf_117, hm_121, hm_122⟩ := hv_113
          have he_119 : (r_118.toInt = 0 ∨ r_118.toInt = 1) := he_119
          have pf_117 : 0 ≤ ((Tv 0) : Int32).toInt ∧ ((Tv 0) : Int32).toInt ≤ 400 ∧ 0 ≤ (sv_114 : Int32).toInt ∧ (sv_114 : Int32).toInt ≤ 400 ∧ 0 ≤ (sv_115 : Int32).toInt ∧ (sv_115 : Int32).toInt ≤ 400 := pf_117
          refine W.eq (g2 := F0 m 29 ls [.int r_118]) rfl ?_
          replace hP : va_P D classes [((Wa 0), .inr (0, [.ref (Aa 0)])), ((Aa 0), .inr (9, [.int vy_38, .int vy_39, .int vy_40, .int vy_41, .int 0, .int 0, .ref (Aa 1), .ref (Aa 2), .ref (Aa 3), .ref (Aa 4), .ref (Aa 5), .ref (Aa 6), .ref (Aa 7), .ref (Aa 8)])), ((Aa 1), .inl (tc 0, 10, .inl vy_42)), ((Aa 2), .inl (tc 0, 10, .inl vy_43)), ((Aa 3), .inl (tc 0, 6, .inl vy_44)), ((Aa 4), .inl (tc 0, 6, .inl vy_45)), ((Aa 5), .inl (tc 0, 6, .inl vy_46)), ((Aa 6), .inl (tc 0, 6, .inl sv_9)), ((Aa 7), .inl (tc 0, 6, .inl sv_10)), ((Aa 8), .inl (tc 0, 6, .inl sv_11)), ((Ta 0), .inr (10, [.ref (Ta 1), .int (Tv 0), .int sv_114, .int sv_115, .int sv_116, .int vy_50])), ((Ta 1), .inl (tc 0, 400, .inl (Tf 1)))] H := hP₀
          replace hD : va_D A [((Wa 0), .inr (0, [.ref (Aa 0)])), ((Aa 0), .inr (9, [.int vy_38, .int vy_39, .int vy_40, .int vy_41, .int 0, .int 0, .ref (Aa 1), .ref (Aa 2), .ref (Aa 3), .ref (Aa 4), .ref (Aa 5), .ref (Aa 6), .ref (Aa 7), .ref (Aa 8)])), ((Aa 1), .inl (tc 0, 10, .inl vy_42)), ((Aa 2), .inl (tc 0, 10, .inl vy_43)), ((Aa 3), .inl (tc 0, 6, .inl vy_44)), ((Aa 4), .inl (tc 0, 6, .inl vy_45)), ((Aa 5), .inl (tc 0, 6, .inl vy_46)), ((Aa 6), .inl (tc 0, 6, .inl sv_9)), ((Aa 7), .inl (tc 0, 6, .inl sv_10)), ((Aa 8), .inl (tc 0, 6, .inl sv_11)), ((Ta 0), .inr (10, [.ref (Ta 1), .int (Tv 0), .int sv_114, .int sv_115, .int sv_116, .int vy_50])), ((Ta 1), .inl (tc 0, 400, .inl (Tf 1)))] := hD₀
          replace hS := hS₀
          clear hP₀ hD₀ hS₀
          refine lv_if_eq (tgt := 44) hx hb dX0_read_29 (by decide) (fun c_123 => ?_) (fun c_123 => ?_)
          · skip
            have hz_126 : (r_118 : Int32).toInt = 0 := by
              have z_1 := Int32.le_iff_toInt_le.mp (Int32.not_lt.mp c_66)
              have z_2 : ¬ (vy_37 : Int32).toInt = (0 : Int32).toInt := fun z => c_79 (Int32.toInt_inj.mp z)
              have z_3 := congrArg Int32.toInt c_123
              have y_0 : (0 : Int32).toInt = 0 := by decide
              have y_40 : (40 : Int32).toInt = 40 := by decide
              omega
            obtain ⟨pf_124, pf_125⟩ := hm_122 hz_126
            have pf_124 : NSg (cB (Tf 1) (Tv 0)) (59 : Int) ro_63 := pf_124
            have pf_125 : TpR (Tf 1) (Tv 0) ro_63 sv_114 sv_115 sv_116 vy_50 := pf_125
            have tb_127 : TpB (rTE (cB (Tf 1) (Tv 0)) ro_63) sv_115 vy_50 := TpR.tb pf_125
            refine lv_aload_n hx hb dX0_read_44 rfl (lv_at hl 2 rfl) ?_
            refine cV (a := (Ta 0)) (As := []) (rest := []) (wr := [((Wa 0), .inr (0, [.ref (Aa 0)])), ((Aa 0), .inr (9, [.int vy_38, .int vy_39, .int vy_40, .int vy_41, .int 0, .int 0, .ref (Aa 1), .ref (Aa 2), .ref (Aa 3), .ref (Aa 4), .ref (Aa 5), .ref (Aa 6), .ref (Aa 7), .ref (Aa 8)])), ((Aa 1), .inl (tc 0, 10, .inl vy_42)), ((Aa 2), .inl (tc 0, 10, .inl vy_43)), ((Aa 3), .inl (tc 0, 6, .inl vy_44)), ((Aa 4), .inl (tc 0, 6, .inl vy_45)), ((Aa 5), .inl (tc 0, 6, .inl vy_46)), ((Aa 6), .inl (tc 0, 6, .inl sv_9)), ((Aa 7), .inl (tc 0, 6, .inl sv_10)), ((Aa 8), .inl (tc 0, 6, .inl sv_11))]) ⟨hx, hb, hml, hown, hts⟩ hK hX hA (cu_fX10_finish l D tc sk (Ta 0) (Ta 1) (Tv 0) sv_114 sv_115 sv_116 vy_50 (Tf 1) ro_63 pf_117 h_by pf_125) k_595 k_592 k_593 k_594 k_96 pl_X10_finish ⟨Nat.le_of_ble_eq_true rfl, Nat.le_of_ble_eq_true rfl⟩ rfl rfl (va_recv hK hP (ci := 10) (q0 := 10) rfl rfl) hP hD hS [10, 11] [0, 1, 2, 3, 4, 5, 6, 7, 8, 9] rfl rfl rfl rfl rfl (by decide) rfl hl.1 rfl (Nat.le_of_ble_eq_true rfl) dX0_read_45 ⟨Nat.le_of_ble_eq_true rfl, Nat.le_of_ble_eq_true rfl⟩ (fun v_128 u_129 H locs hv_130 hP₀ hD₀ hS₀ => ?_)
            obtain ⟨sv_131, sv_132⟩ := u_129
            obtain ⟨rfl, pf_133, pf_134⟩ := hv_130
            have pf_133 : 0 ≤ ((Tv 0) : Int32).toInt ∧ ((Tv 0) : Int32).toInt ≤ 400 ∧ 0 ≤ (sv_114 : Int32).toInt ∧ (sv_114 : Int32).toInt ≤ 400 ∧ 0 ≤ (sv_115 : Int32).toInt ∧ (sv_115 : Int32).toInt ≤ 400 := pf_133
            have pf_134 : TpR (Tf 1) (Tv 0) (rEN (cB (Tf 1) (Tv 0)) ro_63) sv_114 sv_115 sv_131 sv_132 := pf_134
            obtain ⟨ro_135, ero_135⟩ : ∃ z : Except Int (Nat × Nat), z = (rEN (cB (Tf 1) (Tv 0)) ro_63) := ⟨_, rfl⟩
            rw [← ero_135] at pf_134
            have tb_136 : TpB (rTE (cB (Tf 1) (Tv 0)) ro_135) sv_115 sv_132 := TpR.tb pf_134
            refine W.eq (g2 := F0 m 48 ls []) rfl ?_
            replace hP : va_P D classes [((Wa 0), .inr (0, [.ref (Aa 0)])), ((Aa 0), .inr (9, [.int vy_38, .int vy_39, .int vy_40, .int vy_41, .int 0, .int 0, .ref (Aa 1), .ref (Aa 2), .ref (Aa 3), .ref (Aa 4), .ref (Aa 5), .ref (Aa 6), .ref (Aa 7), .ref (Aa 8)])), ((Aa 1), .inl (tc 0, 10, .inl vy_42)), ((Aa 2), .inl (tc 0, 10, .inl vy_43)), ((Aa 3), .inl (tc 0, 6, .inl vy_44)), ((Aa 4), .inl (tc 0, 6, .inl vy_45)), ((Aa 5), .inl (tc 0, 6, .inl vy_46)), ((Aa 6), .inl (tc 0, 6, .inl sv_9)), ((Aa 7), .inl (tc 0, 6, .inl sv_10)), ((Aa 8), .inl (tc 0, 6, .inl sv_11)), ((Ta 0), .inr (10, [.ref (Ta 1), .int (Tv 0), .int sv_114, .int sv_115, .int sv_131, .int sv_132])), ((Ta 1), .inl (tc 0, 400, .inl (Tf 1)))] H := hP₀
            replace hD : va_D A [((Wa 0), .inr (0, [.ref (Aa 0)])), ((Aa 0), .inr (9, [.int vy_38, .int vy_39, .int vy_40, .int vy_41, .int 0, .int 0, .ref (Aa 1), .ref (Aa 2), .ref (Aa 3), .ref (Aa 4), .ref (Aa 5), .ref (Aa 6), .ref (Aa 7), .ref (Aa 8)])), ((Aa 1), .inl (tc 0, 10, .inl vy_42)), ((Aa 2), .inl (tc 0, 10, .inl vy_43)), ((Aa 3), .inl (tc 0, 6, .inl vy_44)), ((Aa 4), .inl (tc 0, 6, .inl vy_45)), ((Aa 5), .inl (tc 0, 6, .inl vy_46)), ((Aa 6), .inl (tc 0, 6, .inl sv_9)), ((Aa 7), .inl (tc 0, 6, .inl sv_10)), ((Aa 8), .inl (tc 0, 6, .inl sv_11)), ((Ta 0), .inr (10, [.ref (Ta 1), .int (Tv 0), .int sv_114, .int sv_115, .int sv_131, .int sv_132])), ((Ta 1), .inl (tc 0, 400, .inl (Tf 1)))] := hD₀
            replace hS := hS₀
            clear hP₀ hD₀ hS₀
            refine lv_aload_n hx hb dX0_read_48 rfl (lv_at hl 2 rfl) ?_
            refine gf_X0_37 hx hb hts hown hK hP 10 rfl rfl dX0_read_49 ?_
            have hu_137 : TpR (Tf 1) (Tv 0) (rEN (cB (Tf 1) (Tv 0)) (fsC bq_59)) sv_114 sv_115 sv_131 sv_132 := by
              rw [← ero_63, ← ero_135]
              exact pf_134
            have hr_138 : ¬ (vy_37 : Int32).toInt = 0 := by
              have z_1 := Int32.le_iff_toInt_le.mp (Int32.not_lt.mp c_66)
              have z_2 : ¬ (vy_37 : Int32).toInt = (0 : Int32).toInt := fun z => c_79 (Int32.toInt_inj.mp z)
              have z_3 := congrArg Int32.toInt c_123
              have y_0 : (0 : Int32).toInt = 0 := by decide
              have y_40 : (40 : Int32).toInt = 40 := by decide
              omega
            exact retI (v := sv_132) hx hb hr hlk (rfl) hP hD hS (vy_38, vy_39, vy_40, vy_41, vy_42, vy_43, vy_44, vy_45, vy_46, sv_9, sv_10, sv_11, sv_114, sv_115, sv_131, sv_132) ⟨_, rfl, (QkR.of (QbL.fin pf_62 hr_138 (Or.inr (ero_63 ▸ pf_124))) hu_137 pf_61), pf_133, pf_56⟩ [0, 1, 2, 3, 4, 5, 6, 7, 8, 9, 10, 11] rfl rfl dX0_read_52 (Nat.le_of_ble_eq_true rfl) (Nat.le_of_ble_eq_true rfl) rfl
          · skip
            have hz_141 : (r_118 : Int32).toInt = 1 := by
              have z_1 := Int32.le_iff_toInt_le.mp (Int32.not_lt.mp c_66)
              have z_2 : ¬ (vy_37 : Int32).toInt = (0 : Int32).toInt := fun z => c_79 (Int32.toInt_inj.mp z)
              have z_3 : ¬ (r_118 : Int32).toInt = (0 : Int32).toInt := fun z => c_123 (Int32.toInt_inj.mp z)
              have y_0 : (0 : Int32).toInt = 0 := by decide
              have y_40 : (40 : Int32).toInt = 40 := by decide
              omega
            obtain ⟨pf_139, pf_140⟩ := hm_121 hz_141
            have pf_139 : Sg (cB (Tf 1) (Tv 0)) (59 : Int) ro_63 := pf_139
            have pf_140 : TpR (Tf 1) (Tv 0) (rNX (cB (Tf 1) (Tv 0)) ro_63) sv_114 sv_115 sv_116 vy_50 := pf_140
            obtain ⟨ro_142, ero_142⟩ : ∃ z : Except Int (Nat × Nat), z = (rNX (cB (Tf 1) (Tv 0)) ro_63) := ⟨_, rfl⟩
            rw [← ero_142] at pf_140
            have tb_143 : TpB (rTE (cB (Tf 1) (Tv 0)) ro_142) sv_115 vy_50 := TpR.tb pf_140
            have pf_144 : FsR (qNX (cB (Tf 1) (Tv 0)) bq_59) ro_142 := by
              show fsC (qNX (cB (Tf 1) (Tv 0)) bq_59) = ro_142
              rw [fsC_nx, ero_142, ero_63]
            have pf_145 : QsQ (qNX (cB (Tf 1) (Tv 0)) bq_59) vy_38 vy_39 vy_40 vy_41 0 0 vy_42 vy_43 vy_44 vy_45 vy_46 sv_9 sv_10 sv_11 := QsQ.nx pf_61
            refine lv_aload_n hx hb dX0_read_32 rfl (lv_at hl 1 rfl) ?_
            refine lv_aload_n hx hb dX0_read_33 rfl (lv_at hl 2 rfl) ?_
            refine lv_iload_n hx hb dX0_read_34 rfl (lv_at hl 0 rfl) ?_
            have ha_146 : 0 ≤ vy_37.toInt ∧ vy_37.toInt ≤ 40 := by
              have z_1 := Int32.le_iff_toInt_le.mp (Int32.not_lt.mp c_66)
              have z_2 : ¬ (vy_37 : Int32).toInt = (0 : Int32).toInt := fun z => c_79 (Int32.toInt_inj.mp z)
              have z_3 : ¬ (r_118 : Int32).toInt = (0 : Int32).toInt := fun z => c_123 (Int32.toInt_inj.mp z)
              have y_0 : (0 : Int32).toInt = 0 := by decide
              have y_40 : (40 : Int32).toInt = 40 := by decide
              omega
            refine cV (a := (Wa 0)) (As := [.ref (Ta 0), .int vy_37]) (rest := []) (wr := []) ⟨hx, hb, hml, hown, hts⟩ hK hX hA (cu_zX0_readClause l D tc sk (Wa 0) (Aa 0) (Aa 1) (Aa 2) (Aa 3) (Aa 4) (Aa 5) (Aa 6) (Aa 7) (Aa 8) vy_38 vy_39 vy_40 vy_41 0 0 vy_42 vy_43 vy_44 vy_45 vy_46 sv_9 sv_10 sv_11 (Ta 0) (Ta 1) (Tv 0) sv_114 sv_115 sv_116 vy_50 (Tf 1) vy_37 ro_142 (qNX (cB (Tf 1) (Tv 0)) bq_59) pf_117 h_by pf_140 pf_56 ha_146 pf_144 pf_145) k_496 k_493 k_495 k_1 k_97 pl_X0_readClause ⟨Nat.le_of_ble_eq_true rfl, Nat.le_of_ble_eq_true rfl⟩ rfl rfl (va_recv hK hP (ci := 0) (q0 := 0) rfl rfl) hP hD hS [0, 1, 2, 3, 4, 5, 6, 7, 8, 9, 10, 11] [] rfl rfl rfl rfl rfl (by decide) rfl hl.1 rfl (Nat.le_of_ble_eq_true rfl) dX0_read_35 ⟨Nat.le_of_ble_eq_true rfl, Nat.le_of_ble_eq_true rfl⟩ (fun v_147 u_148 H locs hv_149 hP₀ hD₀ hS₀ => ?_)
            obtain ⟨sv_150, sv_151, sv_152, sv_153, sv_154, sv_155, sv_156, sv_157, sv_158, sv_159, sv_160, sv_161, sv_162⟩ := u_148
            obtain ⟨rfl, pf_163, pf_164, pf_165, pf_166⟩ := hv_149
            have pf_163 : 0 ≤ ((Tv 0) : Int32).toInt ∧ ((Tv 0) : Int32).toInt ≤ 400 ∧ 0 ≤ (sv_159 : Int32).toInt ∧ (sv_159 : Int32).toInt ≤ 400 ∧ 0 ≤ (sv_160 : Int32).toInt ∧ (sv_160 : Int32).toInt ≤ 400 := pf_163
            have pf_164 : 0 ≤ (sv_153 : Int32).toInt ∧ (sv_153 : Int32).toInt ≤ 6 := pf_164
            have pf_165 : TpR (Tf 1) (Tv 0) (fsC (pz_b (qNX (cB (Tf 1) (Tv 0)) bq_59) (qz_cl (cB (Tf 1) (Tv 0)) vy_37.toInt.toNat))) sv_159 sv_160 sv_161 sv_162 := pf_165
            obtain ⟨ro_167, ero_167⟩ : ∃ z : Except Int (Nat × Nat), z = (fsC (pz_b (qNX (cB (Tf 1) (Tv 0)) bq_59) (qz_cl (cB (Tf 1) (Tv 0)) vy_37.toInt.toNat))) := ⟨_, rfl⟩
            rw [← ero_167] at pf_165
            have tb_168 : TpB (rTE (cB (Tf 1) (Tv 0)) ro_167) sv_160 sv_162 := TpR.tb pf_165
            have pf_166 : QsQ (pz_b (qNX (cB (Tf 1) (Tv 0)) bq_59) (qz_cl (cB (Tf 1) (Tv 0)) vy_37.toInt.toNat)) sv_150 sv_151 sv_152 sv_153 (0 : Int32) (0 : Int32) sv_154 sv_155 sv_156 sv_157 sv_158 sv_9 sv_10 sv_11 := pf_166
            refine W.eq (g2 := F0 m 38 ls []) rfl ?_
            replace hP : va_P D classes [((Wa 0), .inr (0, [.ref (Aa 0)])), ((Aa 0), .inr (9, [.int sv_150, .int sv_151, .int sv_152, .int sv_153, .int 0, .int 0, .ref (Aa 1), .ref (Aa 2), .ref (Aa 3), .ref (Aa 4), .ref (Aa 5), .ref (Aa 6), .ref (Aa 7), .ref (Aa 8)])), ((Aa 1), .inl (tc 0, 10, .inl sv_154)), ((Aa 2), .inl (tc 0, 10, .inl sv_155)), ((Aa 3), .inl (tc 0, 6, .inl sv_156)), ((Aa 4), .inl (tc 0, 6, .inl sv_157)), ((Aa 5), .inl (tc 0, 6, .inl sv_158)), ((Aa 6), .inl (tc 0, 6, .inl sv_9)), ((Aa 7), .inl (tc 0, 6, .inl sv_10)), ((Aa 8), .inl (tc 0, 6, .inl sv_11)), ((Ta 0), .inr (10, [.ref (Ta 1), .int (Tv 0), .int sv_159, .int sv_160, .int sv_161, .int sv_162])), ((Ta 1), .inl (tc 0, 400, .inl (Tf 1)))] H := hP₀
            replace hD : va_D A [((Wa 0), .inr (0, [.ref (Aa 0)])), ((Aa 0), .inr (9, [.int sv_150, .int sv_151, .int sv_152, .int sv_153, .int 0, .int 0, .ref (Aa 1), .ref (Aa 2), .ref (Aa 3), .ref (Aa 4), .ref (Aa 5), .ref (Aa 6), .ref (Aa 7), .ref (Aa 8)])), ((Aa 1), .inl (tc 0, 10, .inl sv_154)), ((Aa 2), .inl (tc 0, 10, .inl sv_155)), ((Aa 3), .inl (tc 0, 6, .inl sv_156)), ((Aa 4), .inl (tc 0, 6, .inl sv_157)), ((Aa 5), .inl (tc 0, 6, .inl sv_158)), ((Aa 6), .inl (tc 0, 6, .inl sv_9)), ((Aa 7), .inl (tc 0, 6, .inl sv_10)), ((Aa 8), .inl (tc 0, 6, .inl sv_11)), ((Ta 0), .inr (10, [.ref (Ta 1), .int (Tv 0), .int sv_159, .int sv_160, .int sv_161, .int sv_162])), ((Ta 1), .inl (tc 0, 400, .inl (Tf 1)))] := hD₀
            replace hS := hS₀
            clear hP₀ hD₀ hS₀
            obtain ⟨x_169, ex_169⟩ : ∃ y : Int32, y = vy_37 + 1 := ⟨_, rfl⟩
            refine lv_iinc (v := x_169) (lv' := [(2, .int x_169), (0, .ref (Wa 0)), (1, .ref (Ta 0))]) hx hb dX0_read_38 hl (k := 0) rfl (by rw [ex_169]; rfl) (by decide) rfl (fun ls hl₀ => ?_)
            replace hl := hl₀
            clear hl₀
            refine lv_goto (tgt := 13) hx hb dX0_read_41 (by decide) ?_
            have hb_170 : 42 - (x_169 : Int32).toInt < 42 - (vy_37 : Int32).toInt ∧ 1 ≤ 42 - (vy_37 : Int32).toInt := by
              have z_1 := Int32.le_iff_toInt_le.mp (Int32.not_lt.mp c_66)
              have z_2 : ¬ (vy_37 : Int32).toInt = (0 : Int32).toInt := fun z => c_79 (Int32.toInt_inj.mp z)
              have z_3 : ¬ (r_118 : Int32).toInt = (0 : Int32).toInt := fun z => c_123 (Int32.toInt_inj.mp z)
              have y_0 : (0 : Int32).toInt = 0 := by decide
              have y_40 : (40 : Int32).toInt = 40 := by decide
              have y_1 : (1 : Int32).toInt = 1 := by decide
              have t_x_169 : x_169.toInt = (vy_37 : Int32).toInt + (1 : Int32).toInt := by rw [ex_169]; exact add_toInt (by omega) (by omega)
              omega
            have ha_171 : 0 ≤ (x_169 : Int32).toInt ∧ (x_169 : Int32).toInt ≤ 41 := by
              have z_1 := Int32.le_iff_toInt_le.mp (Int32.not_lt.mp c_66)
              have z_2 : ¬ (vy_37 : Int32).toInt = (0 : Int32).toInt := fun z => c_79 (Int32.toInt_inj.mp z)
              have z_3 : ¬ (r_118 : Int32).toInt = (0 : Int32).toInt := fun z => c_123 (Int32.toInt_inj.mp z)
              have y_0 : (0 : Int32).toInt = 0 := by decide
              have y_40 : (40 : Int32).toInt = 40 := by decide
              have y_1 : (1 : Int32).toInt = 1 := by decide
              have t_x_169 : x_169.toInt = (vy_37 : Int32).toInt + (1 : Int32).toInt := by rw [ex_169]; exact add_toInt (by omega) (by omega)
              omega
            have hu_172 : TpR (Tf 1) (Tv 0) (fsC (pz_b (qNX (cB (Tf 1) (Tv 0)) bq_59) (qz_cl (cB (Tf 1) (Tv 0)) vy_37.toInt.toNat))) sv_159 sv_160 sv_161 sv_162 := by rw [← ero_167]; exact pf_165
            have hi_173 : (x_169 : Int32).toInt = (vy_37 : Int32).toInt + 1 := by
              have z_1 := Int32.le_iff_toInt_le.mp (Int32.not_lt.mp c_66)
              have z_2 : ¬ (vy_37 : Int32).toInt = (0 : Int32).toInt := fun z => c_79 (Int32.toInt_inj.mp z)
              have z_3 : ¬ (r_118 : Int32).toInt = (0 : Int32).toInt := fun z => c_123 (Int32.toInt_inj.mp z)
              have y_0 : (0 : Int32).toInt = 0 := by decide
              have y_40 : (40 : Int32).toInt = 40 := by decide
              have y_1 : (1 : Int32).toInt = 1 := by decide
              have t_x_169 : x_169.toInt = (vy_37 : Int32).toInt + (1 : Int32).toInt := by rw [ex_169]; exact add_toInt (by omega) (by omega)
              omega
            have hr_174 : 1 ≤ (vy_37 : Int32).toInt ∧ (vy_37 : Int32).toInt ≤ 40 := by
              have z_1 := Int32.le_iff_toInt_le.mp (Int32.not_lt.mp c_66)
              have z_2 : ¬ (vy_37 : Int32).toInt = (0 : Int32).toInt := fun z => c_79 (Int32.toInt_inj.mp z)
              have z_3 : ¬ (r_118 : Int32).toInt = (0 : Int32).toInt := fun z => c_123 (Int32.toInt_inj.mp z)
              have y_0 : (0 : Int32).toInt = 0 := by decide
              have y_40 : (40 : Int32).toInt = 40 := by decide
              omega
            exact ih_52 x_169 sv_150 sv_151 sv_152 sv_153 sv_154 sv_155 sv_156 sv_157 sv_158 sv_159 sv_160 sv_161 sv_162 _ _ _ (by omega) ha_171 pf_163 pf_164 (QbL.nextS h_tape.2.1 hr_174 (ero_63 ▸ pf_139) pf_62 hu_172 pf_166 hi_173) (hP.sub [0, 1, 2, 3, 4, 5, 6, 7, 8, 9, 10, 11] rfl) (hD.sub [0, 1, 2, 3, 4, 5, 6, 7, 8, 9, 10, 11] rfl rfl) hS (lv_sub hl [0, 1, 2] rfl)
  have ha_175 : 0 ≤ (0 : Int32).toInt ∧ (0 : Int32).toInt ≤ 41 := by
    have y_0 : (0 : Int32).toInt = 0 := by decide
    omega
  have ha_176 : 0 ≤ (0 : Int32).toInt ∧ (0 : Int32).toInt ≤ 6 := by
    have y_0 : (0 : Int32).toInt = 0 := by decide
    omega
  have hu_177 : TpR (Tf 1) (Tv 0) (rSK (cB (Tf 1) (Tv 0)) (.ok (0, 0))) sv_16 sv_17 sv_18 0 := by
    rw [← ero_21]
    exact pf_20
  have hr_178 : (0 : Int32).toInt = 0 := by
    have y_0 : (0 : Int32).toInt = 0 := by decide
    omega
  exact loop_53 _ 0 0 0 0 0 sv_4 sv_5 sv_6 sv_7 sv_8 sv_16 sv_17 sv_18 0 _ _ _ (Nat.lt_succ_self _) ha_175 pf_19 ha_176 (QbL.start hu_177 pf_12 hr_178) hP hD hS hl
set_option maxRecDepth 100000 in
theorem cu_zX0_read (l : Launch) (D : va_G) (tc : Nat → ClassId) (sk : (Nat → Nat) × (Nat → Nat)) (Wa_0 : Nat) (Aa_0 : Nat) (Aa_1 : Nat) (Aa_2 : Nat) (Aa_3 : Nat) (Aa_4 : Nat) (Aa_5 : Nat) (Aa_6 : Nat) (Aa_7 : Nat) (Aa_8 : Nat) (Av_0 : Int32) (Av_1 : Int32) (Av_2 : Int32) (Av_3 : Int32) (Av_4 : Int32) (Av_5 : Int32) (Af_1 : Nat → Int32) (Af_2 : Nat → Int32) (Af_3 : Nat → Int32) (Af_4 : Nat → Int32) (Af_5 : Nat → Int32) (Af_6 : Nat → Int32) (Af_7 : Nat → Int32) (Af_8 : Nat → Int32) (Ta_0 : Nat) (Ta_1 : Nat) (Tv_0 : Int32) (Tv_1 : Int32) (Tv_2 : Int32) (Tv_3 : Int32) (Tv_4 : Int32) (Tf_1 : Nat → Int32) (h_tape : 0 ≤ (Tv_0 : Int32).toInt ∧ (Tv_0 : Int32).toInt ≤ 400 ∧ 0 ≤ (Tv_1 : Int32).toInt ∧ (Tv_1 : Int32).toInt ≤ 400 ∧ 0 ≤ (Tv_2 : Int32).toInt ∧ (Tv_2 : Int32).toInt ≤ 400) (h_by : Byt Tf_1) (h_bu : 0 ≤ (Av_3 : Int32).toInt ∧ (Av_3 : Int32).toInt ≤ 6) : Ct l yX0_read cX0_read 3 (some .int) { frames := 7, cells := 0, slots := 0, locals := 156 } D tc sk [.ref Wa_0, .ref Ta_0] [(Wa_0, .inr (0, [.ref Aa_0])), (Aa_0, .inr (9, [.int Av_0, .int Av_1, .int Av_2, .int Av_3, .int Av_4, .int Av_5, .ref Aa_1, .ref Aa_2, .ref Aa_3, .ref Aa_4, .ref Aa_5, .ref Aa_6, .ref Aa_7, .ref Aa_8])), (Aa_1, .inl (tc 0, 10, .inl Af_1)), (Aa_2, .inl (tc 0, 10, .inl Af_2)), (Aa_3, .inl (tc 0, 6, .inl Af_3)), (Aa_4, .inl (tc 0, 6, .inl Af_4)), (Aa_5, .inl (tc 0, 6, .inl Af_5)), (Aa_6, .inl (tc 0, 6, .inl Af_6)), (Aa_7, .inl (tc 0, 6, .inl Af_7)), (Aa_8, .inl (tc 0, 6, .inl Af_8)), (Ta_0, .inr (10, [.ref Ta_1, .int Tv_0, .int Tv_1, .int Tv_2, .int Tv_3, .int Tv_4])), (Ta_1, .inl (tc 0, 400, .inl Tf_1))] (fun (v : Option Value) (u : (Int32) × (Int32) × (Int32) × (Int32) × (Nat → Int32) × (Nat → Int32) × (Nat → Int32) × (Nat → Int32) × (Nat → Int32) × (Nat → Int32) × (Nat → Int32) × (Nat → Int32) × (Int32) × (Int32) × (Int32) × (Int32)) => match u with | (oo0x1, oo0x2, oo0x3, oo0x4, oo0x5, oo0x6, oo0x7, oo0x8, oo0x9, oo0x10, oo0x11, oo0x12, oo0x13, oo0x14, oo0x15, oo0x16) => ∃ r : Int32, v = some (.int r) ∧ (QkR (cB Tf_1 Tv_0) r oo0x1 oo0x2 oo0x3 oo0x4 0 0 oo0x5 oo0x6 oo0x7 oo0x8 oo0x9 oo0x10 oo0x11 oo0x12) ∧ (0 ≤ (Tv_0 : Int32).toInt ∧ (Tv_0 : Int32).toInt ≤ 400 ∧ 0 ≤ (oo0x13 : Int32).toInt ∧ (oo0x13 : Int32).toInt ≤ 400 ∧ 0 ≤ (oo0x14 : Int32).toInt ∧ (oo0x14 : Int32).toInt ≤ 400) ∧ (0 ≤ (oo0x4 : Int32).toInt ∧ (oo0x4 : Int32).toInt ≤ 6)) (fun (u : (Int32) × (Int32) × (Int32) × (Int32) × (Nat → Int32) × (Nat → Int32) × (Nat → Int32) × (Nat → Int32) × (Nat → Int32) × (Nat → Int32) × (Nat → Int32) × (Nat → Int32) × (Int32) × (Int32) × (Int32) × (Int32)) => match u with | (oo0x1, oo0x2, oo0x3, oo0x4, oo0x5, oo0x6, oo0x7, oo0x8, oo0x9, oo0x10, oo0x11, oo0x12, oo0x13, oo0x14, oo0x15, oo0x16) => [(Wa_0, .inr (0, [.ref Aa_0])), (Aa_0, .inr (9, [.int oo0x1, .int oo0x2, .int oo0x3, .int oo0x4, .int 0, .int 0, .ref Aa_1, .ref Aa_2, .ref Aa_3, .ref Aa_4, .ref Aa_5, .ref Aa_6, .ref Aa_7, .ref Aa_8])), (Aa_1, .inl (tc 0, 10, .inl oo0x5)), (Aa_2, .inl (tc 0, 10, .inl oo0x6)), (Aa_3, .inl (tc 0, 6, .inl oo0x7)), (Aa_4, .inl (tc 0, 6, .inl oo0x8)), (Aa_5, .inl (tc 0, 6, .inl oo0x9)), (Aa_6, .inl (tc 0, 6, .inl oo0x10)), (Aa_7, .inl (tc 0, 6, .inl oo0x11)), (Aa_8, .inl (tc 0, 6, .inl oo0x12)), (Ta_0, .inr (10, [.ref Ta_1, .int Tv_0, .int oo0x13, .int oo0x14, .int oo0x15, .int oo0x16])), (Ta_1, .inl (tc 0, 400, .inl Tf_1))]) 0 0 :=
  ct_zX0_read l D tc sk (fun k => ([Wa_0] : List (Nat)).getD k 0) (fun k => ([Aa_0, Aa_1, Aa_2, Aa_3, Aa_4, Aa_5, Aa_6, Aa_7, Aa_8] : List (Nat)).getD k 0) (fun k => ([Av_0, Av_1, Av_2, Av_3, Av_4, Av_5] : List (Int32)).getD k 0) (fun k => ([(fun _ => 0), Af_1, Af_2, Af_3, Af_4, Af_5, Af_6, Af_7, Af_8] : List (Nat → Int32)).getD k (fun _ => 0)) (fun k => ([Ta_0, Ta_1] : List (Nat)).getD k 0) (fun k => ([Tv_0, Tv_1, Tv_2, Tv_3, Tv_4] : List (Int32)).getD k 0) (fun k => ([(fun _ => 0), Tf_1] : List (Nat → Int32)).getD k (fun _ => 0)) h_tape h_by h_bu
set_option maxHeartbeats 4000000 in
set_option maxRecDepth 100000 in
theorem ct_hX3_add (l : Launch) (D : va_G) (tc : Nat → ClassId) (sk : (Nat → Nat) × (Nat → Nat)) (Na : Nat → Nat) (Nv : Nat → Int32) (Nf : Nat → Nat → Int32) (x1 : Int32) (x2 : Int32) (x3 : Int32) (dr : Nat → Int) (h_tn : TnC dr (Nv 0) (Nf 1) (Nf 2) (Nf 3)) : Ct l yX3_add cX3_add 4 (some .boolean) { frames := 0, cells := 0, slots := 0, locals := 0 } D tc sk [.ref (Na 0), .int x1, .int x2, .int x3] [((Na 0), .inr (3, [.ref (Na 1), .ref (Na 2), .ref (Na 3), .int (Nv 0)])), ((Na 1), .inl (tc 0, 10, .inl (Nf 1))), ((Na 2), .inl (tc 0, 10, .inl (Nf 2))), ((Na 3), .inl (tc 0, 10, .inl (Nf 3)))] (fun (v : Option Value) (u : (Int32) × (Nat → Int32) × (Nat → Int32) × (Nat → Int32)) => match u with | (oo0x1, oo0x2, oo0x3, oo0x4) => ∃ r : Int32, v = some (.int r) ∧ (((r.toInt = 0 ∧ ((Nv 0).toInt < 0 ∨ 10 ≤ (Nv 0).toInt) ∧ (oo0x1 : Int32).toInt = (Nv 0).toInt) ∨ (r.toInt = 1 ∧ 0 ≤ (Nv 0).toInt ∧ (Nv 0).toInt < 10 ∧ (oo0x1 : Int32).toInt = (Nv 0).toInt + 1))) ∧ (r.toInt = 1 → (TnC (qz_nt dr x1.toInt x2.toInt x3.toInt) oo0x1 oo0x2 oo0x3 oo0x4)) ∧ (r.toInt = 0 → (TnC dr oo0x1 oo0x2 oo0x3 oo0x4))) (fun (u : (Int32) × (Nat → Int32) × (Nat → Int32) × (Nat → Int32)) => match u with | (oo0x1, oo0x2, oo0x3, oo0x4) => [((Na 0), .inr (3, [.ref (Na 1), .ref (Na 2), .ref (Na 3), .int oo0x1])), ((Na 1), .inl (tc 0, 10, .inl oo0x2)), ((Na 2), .inl (tc 0, 10, .inl oo0x3)), ((Na 3), .inl (tc 0, 10, .inl oo0x4))]) 0 0 := by
  refine Ct.start (by decide) (Nat.le_of_ble_eq_true rfl) (fun p e s m below meth c A ls hx hb hr hlk hin hml hown hts hK hX hP hD hA hl hS => ?_)
  have hl : lv_has ls 4 [(0, .ref (Na 0)), (1, .int x1), (2, .int x2), (3, .int x3)] := hl
  refine lv_aload_n hx hb dX3_add_0 rfl (lv_at hl 0 rfl) ?_
  refine gf_X3_19 hx hb hts hown hK hP 0 rfl rfl dX3_add_1 ?_
  refine lv_if_lt (tgt := 16) hx hb dX3_add_4 (by decide) (fun c_1 => ?_) (fun c_1 => ?_)
  · skip
    refine lv_iconst (v := 0) hx hb dX3_add_16 (by decide) ?_
    have hp_2 : (((0 : Int32).toInt = 0 ∧ ((Nv 0).toInt < 0 ∨ 10 ≤ (Nv 0).toInt) ∧ ((Nv 0) : Int32).toInt = (Nv 0).toInt) ∨ ((0 : Int32).toInt = 1 ∧ 0 ≤ (Nv 0).toInt ∧ (Nv 0).toInt < 10 ∧ ((Nv 0) : Int32).toInt = (Nv 0).toInt + 1)) := by
      have z_1 := Int32.lt_iff_toInt_lt.mp c_1
      have y_0 : (0 : Int32).toInt = 0 := by decide
      omega
    have hm_3 : (0 : Int32).toInt = 0 → (TnC dr (Nv 0) (Nf 1) (Nf 2) (Nf 3)) := by
      intro h1r
      exact h_tn
    exact retI (v := 0) hx hb hr hlk (rfl) hP hD hS ((Nv 0), (Nf 1), (Nf 2), (Nf 3)) ⟨_, rfl, hp_2, (fun h => absurd h (by decide)), hm_3⟩ [0, 1, 2, 3] rfl rfl dX3_add_17 (Nat.le_of_ble_eq_true rfl) (Nat.le_of_ble_eq_true rfl) rfl
  · skip
    refine lv_aload_n hx hb dX3_add_7 rfl (lv_at hl 0 rfl) ?_
    refine gf_X3_19 hx hb hts hown hK hP 0 rfl rfl dX3_add_8 ?_
    refine lv_bipush (v := 10) hx hb dX3_add_11 (by decide) ?_
    refine lv_icmp_lt (tgt := 18) hx hb dX3_add_13 (by decide) (fun c_4 => ?_) (fun c_4 => ?_)
    · skip
      refine lv_aload_n hx hb dX3_add_18 rfl (lv_at hl 0 rfl) ?_
      refine gf_X3_9 hx hb hts hown hK hP 0 rfl rfl dX3_add_19 ?_
      refine lv_aload_n hx hb dX3_add_22 rfl (lv_at hl 0 rfl) ?_
      refine gf_X3_19 hx hb hts hown hK hP 0 rfl rfl dX3_add_23 ?_
      refine lv_iload_n hx hb dX3_add_26 rfl (lv_at hl 1 rfl) ?_
      have hi_5 : vp_in (Nv 0) 10 := by
        have z_1 := Int32.le_iff_toInt_le.mp (Int32.not_lt.mp c_1)
        have z_2 := Int32.lt_iff_toInt_lt.mp c_4
        have y_0 : (0 : Int32).toInt = 0 := by decide
        have y_10 : (10 : Int32).toInt = 10 := by decide
        refine vp_in_iff.mpr ⟨?_, ?_⟩ <;> omega
      refine st_int hx hb hK hP hD hS 1 0 rfl rfl hi_5 dX3_add_27 (fun g_6 H locs eg_6 hP₀ hD₀ hS₀ => ?_)
      replace hP : va_P D classes [((Na 0), .inr (3, [.ref (Na 1), .ref (Na 2), .ref (Na 3), .int (Nv 0)])), ((Na 1), .inl (tc 0, 10, .inl g_6)), ((Na 2), .inl (tc 0, 10, .inl (Nf 2))), ((Na 3), .inl (tc 0, 10, .inl (Nf 3)))] H := hP₀
      replace hD : va_D A [((Na 0), .inr (3, [.ref (Na 1), .ref (Na 2), .ref (Na 3), .int (Nv 0)])), ((Na 1), .inl (tc 0, 10, .inl g_6)), ((Na 2), .inl (tc 0, 10, .inl (Nf 2))), ((Na 3), .inl (tc 0, 10, .inl (Nf 3)))] := hD₀
      replace hS := hS₀
      clear hP₀ hD₀ hS₀
      refine lv_aload_n hx hb dX3_add_28 rfl (lv_at hl 0 rfl) ?_
      refine gf_X3_13 hx hb hts hown hK hP 0 rfl rfl dX3_add_29 ?_
      refine lv_aload_n hx hb dX3_add_32 rfl (lv_at hl 0 rfl) ?_
      refine gf_X3_19 hx hb hts hown hK hP 0 rfl rfl dX3_add_33 ?_
      refine lv_iload_n hx hb dX3_add_36 rfl (lv_at hl 2 rfl) ?_
      have hi_7 : vp_in (Nv 0) 10 := by
        have z_1 := Int32.le_iff_toInt_le.mp (Int32.not_lt.mp c_1)
        have z_2 := Int32.lt_iff_toInt_lt.mp c_4
        have y_0 : (0 : Int32).toInt = 0 := by decide
        have y_10 : (10 : Int32).toInt = 10 := by decide
        refine vp_in_iff.mpr ⟨?_, ?_⟩ <;> omega
      refine st_int hx hb hK hP hD hS 2 0 rfl rfl hi_7 dX3_add_37 (fun g_8 H locs eg_8 hP₀ hD₀ hS₀ => ?_)
      replace hP : va_P D classes [((Na 0), .inr (3, [.ref (Na 1), .ref (Na 2), .ref (Na 3), .int (Nv 0)])), ((Na 1), .inl (tc 0, 10, .inl g_6)), ((Na 2), .inl (tc 0, 10, .inl g_8)), ((Na 3), .inl (tc 0, 10, .inl (Nf 3)))] H := hP₀
      replace hD : va_D A [((Na 0), .inr (3, [.ref (Na 1), .ref (Na 2), .ref (Na 3), .int (Nv 0)])), ((Na 1), .inl (tc 0, 10, .inl g_6)), ((Na 2), .inl (tc 0, 10, .inl g_8)), ((Na 3), .inl (tc 0, 10, .inl (Nf 3)))] := hD₀
      replace hS := hS₀
      clear hP₀ hD₀ hS₀
      refine lv_aload_n hx hb dX3_add_38 rfl (lv_at hl 0 rfl) ?_
      refine gf_X3_16 hx hb hts hown hK hP 0 rfl rfl dX3_add_39 ?_
      refine lv_aload_n hx hb dX3_add_42 rfl (lv_at hl 0 rfl) ?_
      refine gf_X3_19 hx hb hts hown hK hP 0 rfl rfl dX3_add_43 ?_
      refine lv_iload_n hx hb dX3_add_46 rfl (lv_at hl 3 rfl) ?_
      have hi_9 : vp_in (Nv 0) 10 := by
        have z_1 := Int32.le_iff_toInt_le.mp (Int32.not_lt.mp c_1)
        have z_2 := Int32.lt_iff_toInt_lt.mp c_4
        have y_0 : (0 : Int32).toInt = 0 := by decide
        have y_10 : (10 : Int32).toInt = 10 := by decide
        refine vp_in_iff.mpr ⟨?_, ?_⟩ <;> omega
      refine st_int hx hb hK hP hD hS 3 0 rfl rfl hi_9 dX3_add_47 (fun g_10 H locs eg_10 hP₀ hD₀ hS₀ => ?_)
      replace hP : va_P D classes [((Na 0), .inr (3, [.ref (Na 1), .ref (Na 2), .ref (Na 3), .int (Nv 0)])), ((Na 1), .inl (tc 0, 10, .inl g_6)), ((Na 2), .inl (tc 0, 10, .inl g_8)), ((Na 3), .inl (tc 0, 10, .inl g_10))] H := hP₀
      replace hD : va_D A [((Na 0), .inr (3, [.ref (Na 1), .ref (Na 2), .ref (Na 3), .int (Nv 0)])), ((Na 1), .inl (tc 0, 10, .inl g_6)), ((Na 2), .inl (tc 0, 10, .inl g_8)), ((Na 3), .inl (tc 0, 10, .inl g_10))] := hD₀
      replace hS := hS₀
      clear hP₀ hD₀ hS₀
      refine lv_aload_n hx hb dX3_add_48 rfl (lv_at hl 0 rfl) ?_
      refine lv_dup hx hb dX3_add_49 rfl ?_
      refine gf_X3_19 hx hb hts hown hK hP 0 rfl rfl dX3_add_50 ?_
      refine lv_iconst (v := 1) hx hb dX3_add_53 (by decide) ?_
      refine lv_iadd hx hb dX3_add_54 ?_
      refine lv_topi (fun x_11 ex_11 => ?_)
      refine pf_X3_19 hx hb hts hown hK hP hD hS 0 rfl (Nat.le_of_ble_eq_true rfl) rfl rfl dX3_add_55 (fun H locs hP₀ hD₀ hS₀ => ?_)
      replace hP : va_P D classes [((Na 0), .inr (3, [.ref (Na 1), .ref (Na 2), .ref (Na 3), .int x_11])), ((Na 1), .inl (tc 0, 10, .inl g_6)), ((Na 2), .inl (tc 0, 10, .inl g_8)), ((Na 3), .inl (tc 0, 10, .inl g_10))] H := hP₀
      replace hD : va_D A [((Na 0), .inr (3, [.ref (Na 1), .ref (Na 2), .ref (Na 3), .int x_11])), ((Na 1), .inl (tc 0, 10, .inl g_6)), ((Na 2), .inl (tc 0, 10, .inl g_8)), ((Na 3), .inl (tc 0, 10, .inl g_10))] := hD₀
      replace hS := hS₀
      clear hP₀ hD₀ hS₀
      refine lv_iconst (v := 1) hx hb dX3_add_58 (by decide) ?_
      have hp_12 : (((1 : Int32).toInt = 0 ∧ ((Nv 0).toInt < 0 ∨ 10 ≤ (Nv 0).toInt) ∧ (x_11 : Int32).toInt = (Nv 0).toInt) ∨ ((1 : Int32).toInt = 1 ∧ 0 ≤ (Nv 0).toInt ∧ (Nv 0).toInt < 10 ∧ (x_11 : Int32).toInt = (Nv 0).toInt + 1)) := by
        have z_1 := Int32.le_iff_toInt_le.mp (Int32.not_lt.mp c_1)
        have z_2 := Int32.lt_iff_toInt_lt.mp c_4
        have y_0 : (0 : Int32).toInt = 0 := by decide
        have y_10 : (10 : Int32).toInt = 10 := by decide
        have y_1 : (1 : Int32).toInt = 1 := by decide
        have t_x_11 : x_11.toInt = ((Nv 0) : Int32).toInt + (1 : Int32).toInt := by rw [ex_11]; exact add_toInt (by omega) (by omega)
        have yr : (1 : Int32).toInt = 1 := by decide
        omega
      have hm_13 : (1 : Int32).toInt = 1 → (TnC (qz_nt dr x1.toInt x2.toInt x3.toInt) x_11 g_6 g_8 g_10) := by
        intro h1r
        have hr_14 : 0 ≤ (Nv 0).toInt ∧ (Nv 0).toInt < 10 := by
          have z_1 := Int32.le_iff_toInt_le.mp (Int32.not_lt.mp c_1)
          have z_2 := Int32.lt_iff_toInt_lt.mp c_4
          have y_0 : (0 : Int32).toInt = 0 := by decide
          have y_10 : (10 : Int32).toInt = 10 := by decide
          omega
        have hi_15 : (x_11 : Int32).toInt = (Nv 0).toInt + 1 := by
          have z_1 := Int32.le_iff_toInt_le.mp (Int32.not_lt.mp c_1)
          have z_2 := Int32.lt_iff_toInt_lt.mp c_4
          have y_0 : (0 : Int32).toInt = 0 := by decide
          have y_10 : (10 : Int32).toInt = 10 := by decide
          have y_1 : (1 : Int32).toInt = 1 := by decide
          have t_x_11 : x_11.toInt = ((Nv 0) : Int32).toInt + (1 : Int32).toInt := by rw [ex_11]; exact add_toInt (by omega) (by omega)
          omega
        exact (TnC.add h_tn hr_14 eg_6 eg_8 eg_10 hi_15)
      exact retI (v := 1) hx hb hr hlk (rfl) hP hD hS (x_11, g_6, g_8, g_10) ⟨_, rfl, hp_12, hm_13, (fun h => absurd h (by decide))⟩ [0, 1, 2, 3] rfl rfl dX3_add_59 (Nat.le_of_ble_eq_true rfl) (Nat.le_of_ble_eq_true rfl) rfl
    · skip
      refine lv_iconst (v := 0) hx hb dX3_add_16 (by decide) ?_
      have hp_16 : (((0 : Int32).toInt = 0 ∧ ((Nv 0).toInt < 0 ∨ 10 ≤ (Nv 0).toInt) ∧ ((Nv 0) : Int32).toInt = (Nv 0).toInt) ∨ ((0 : Int32).toInt = 1 ∧ 0 ≤ (Nv 0).toInt ∧ (Nv 0).toInt < 10 ∧ ((Nv 0) : Int32).toInt = (Nv 0).toInt + 1)) := by
        have z_1 := Int32.le_iff_toInt_le.mp (Int32.not_lt.mp c_1)
        have z_2 := Int32.le_iff_toInt_le.mp (Int32.not_lt.mp c_4)
        have y_0 : (0 : Int32).toInt = 0 := by decide
        have y_10 : (10 : Int32).toInt = 10 := by decide
        omega
      have hm_17 : (0 : Int32).toInt = 0 → (TnC dr (Nv 0) (Nf 1) (Nf 2) (Nf 3)) := by
        intro h1r
        exact h_tn
      exact retI (v := 0) hx hb hr hlk (rfl) hP hD hS ((Nv 0), (Nf 1), (Nf 2), (Nf 3)) ⟨_, rfl, hp_16, (fun h => absurd h (by decide)), hm_17⟩ [0, 1, 2, 3] rfl rfl dX3_add_17 (Nat.le_of_ble_eq_true rfl) (Nat.le_of_ble_eq_true rfl) rfl
set_option maxRecDepth 100000 in
theorem cu_hX3_add (l : Launch) (D : va_G) (tc : Nat → ClassId) (sk : (Nat → Nat) × (Nat → Nat)) (Na_0 : Nat) (Na_1 : Nat) (Na_2 : Nat) (Na_3 : Nat) (Nv_0 : Int32) (Nf_1 : Nat → Int32) (Nf_2 : Nat → Int32) (Nf_3 : Nat → Int32) (x1 : Int32) (x2 : Int32) (x3 : Int32) (dr : Nat → Int) (h_tn : TnC dr Nv_0 Nf_1 Nf_2 Nf_3) : Ct l yX3_add cX3_add 4 (some .boolean) { frames := 0, cells := 0, slots := 0, locals := 0 } D tc sk [.ref Na_0, .int x1, .int x2, .int x3] [(Na_0, .inr (3, [.ref Na_1, .ref Na_2, .ref Na_3, .int Nv_0])), (Na_1, .inl (tc 0, 10, .inl Nf_1)), (Na_2, .inl (tc 0, 10, .inl Nf_2)), (Na_3, .inl (tc 0, 10, .inl Nf_3))] (fun (v : Option Value) (u : (Int32) × (Nat → Int32) × (Nat → Int32) × (Nat → Int32)) => match u with | (oo0x1, oo0x2, oo0x3, oo0x4) => ∃ r : Int32, v = some (.int r) ∧ (((r.toInt = 0 ∧ (Nv_0.toInt < 0 ∨ 10 ≤ Nv_0.toInt) ∧ (oo0x1 : Int32).toInt = Nv_0.toInt) ∨ (r.toInt = 1 ∧ 0 ≤ Nv_0.toInt ∧ Nv_0.toInt < 10 ∧ (oo0x1 : Int32).toInt = Nv_0.toInt + 1))) ∧ (r.toInt = 1 → (TnC (qz_nt dr x1.toInt x2.toInt x3.toInt) oo0x1 oo0x2 oo0x3 oo0x4)) ∧ (r.toInt = 0 → (TnC dr oo0x1 oo0x2 oo0x3 oo0x4))) (fun (u : (Int32) × (Nat → Int32) × (Nat → Int32) × (Nat → Int32)) => match u with | (oo0x1, oo0x2, oo0x3, oo0x4) => [(Na_0, .inr (3, [.ref Na_1, .ref Na_2, .ref Na_3, .int oo0x1])), (Na_1, .inl (tc 0, 10, .inl oo0x2)), (Na_2, .inl (tc 0, 10, .inl oo0x3)), (Na_3, .inl (tc 0, 10, .inl oo0x4))]) 0 0 :=
  ct_hX3_add l D tc sk (fun k => ([Na_0, Na_1, Na_2, Na_3] : List (Nat)).getD k 0) (fun k => ([Nv_0] : List (Int32)).getD k 0) (fun k => ([(fun _ => 0), Nf_1, Nf_2, Nf_3] : List (Nat → Int32)).getD k (fun _ => 0)) x1 x2 x3 dr h_tn
set_option maxHeartbeats 4000000 in
set_option maxRecDepth 100000 in
theorem ct_hX11_note (l : Launch) (D : va_G) (tc : Nat → ClassId) (sk : (Nat → Nat) × (Nat → Nat)) (Ga : Nat → Nat) (Gv : Nat → Int32) (Sa : Nat → Nat) (Sv : Nat → Int32) (Aa : Nat → Nat) (Av : Nat → Int32) (Af : Nat → Nat → Int32) (Na : Nat → Nat) (Nv : Nat → Int32) (Nf : Nat → Nat → Int32) (x1 : Int32) (x2 : Int32) (x3 : Int32) (dr : Nat → Int) (h_bA : 0 ≤ ((Av 3) : Int32).toInt ∧ ((Av 3) : Int32).toInt ≤ 6) (h_ky : KyC dr (Av 2) (Av 3) (Af 4)) (h_tn : TnC dr (Nv 0) (Nf 1) (Nf 2) (Nf 3)) : Ct l yX11_note cX11_note 4 (some .int) { frames := 1, cells := 0, slots := 0, locals := 23 } D tc sk [.ref (Ga 0), .int x1, .int x2, .int x3] [((Ga 0), .inr (11, [.ref (Ga 1), .ref (Ga 2), .ref (Ga 3), .ref (Ga 4), .int (Gv 0), .ref (Sa 0), .ref (Aa 0), .ref (Ga 7), .ref (Ga 8), .ref (Ga 9), .ref (Ga 10), .ref (Ga 11)])), ((Sa 0), .inr (8, [.ref (Aa 0), .ref (Sa 2), .ref (Na 0), .int (Sv 0), .int (Sv 1)])), ((Aa 0), .inr (9, [.int (Av 0), .int (Av 1), .int (Av 2), .int (Av 3), .int (Av 4), .int (Av 5), .ref (Aa 1), .ref (Aa 2), .ref (Aa 3), .ref (Aa 4), .ref (Aa 5), .ref (Aa 6), .ref (Aa 7), .ref (Aa 8)])), ((Aa 1), .inl (tc 0, 10, .inl (Af 1))), ((Aa 2), .inl (tc 0, 10, .inl (Af 2))), ((Aa 3), .inl (tc 0, 6, .inl (Af 3))), ((Aa 4), .inl (tc 0, 6, .inl (Af 4))), ((Aa 5), .inl (tc 0, 6, .inl (Af 5))), ((Aa 6), .inl (tc 0, 6, .inl (Af 6))), ((Aa 7), .inl (tc 0, 6, .inl (Af 7))), ((Aa 8), .inl (tc 0, 6, .inl (Af 8))), ((Na 0), .inr (3, [.ref (Na 1), .ref (Na 2), .ref (Na 3), .int (Nv 0)])), ((Na 1), .inl (tc 0, 10, .inl (Nf 1))), ((Na 2), .inl (tc 0, 10, .inl (Nf 2))), ((Na 3), .inl (tc 0, 10, .inl (Nf 3)))] (fun (v : Option Value) (u : (Int32) × (Nat → Int32) × (Nat → Int32) × (Nat → Int32)) => match u with | (oo0x1, oo0x2, oo0x3, oo0x4) => ∃ r : Int32, v = some (.int r) ∧ (NtX x1 x2 x3 r dr oo0x1 oo0x2 oo0x3 oo0x4)) (fun (u : (Int32) × (Nat → Int32) × (Nat → Int32) × (Nat → Int32)) => match u with | (oo0x1, oo0x2, oo0x3, oo0x4) => [((Ga 0), .inr (11, [.ref (Ga 1), .ref (Ga 2), .ref (Ga 3), .ref (Ga 4), .int (Gv 0), .ref (Sa 0), .ref (Aa 0), .ref (Ga 7), .ref (Ga 8), .ref (Ga 9), .ref (Ga 10), .ref (Ga 11)])), ((Sa 0), .inr (8, [.ref (Aa 0), .ref (Sa 2), .ref (Na 0), .int (Sv 0), .int (Sv 1)])), ((Aa 0), .inr (9, [.int (Av 0), .int (Av 1), .int (Av 2), .int (Av 3), .int (Av 4), .int (Av 5), .ref (Aa 1), .ref (Aa 2), .ref (Aa 3), .ref (Aa 4), .ref (Aa 5), .ref (Aa 6), .ref (Aa 7), .ref (Aa 8)])), ((Aa 1), .inl (tc 0, 10, .inl (Af 1))), ((Aa 2), .inl (tc 0, 10, .inl (Af 2))), ((Aa 3), .inl (tc 0, 6, .inl (Af 3))), ((Aa 4), .inl (tc 0, 6, .inl (Af 4))), ((Aa 5), .inl (tc 0, 6, .inl (Af 5))), ((Aa 6), .inl (tc 0, 6, .inl (Af 6))), ((Aa 7), .inl (tc 0, 6, .inl (Af 7))), ((Aa 8), .inl (tc 0, 6, .inl (Af 8))), ((Na 0), .inr (3, [.ref (Na 1), .ref (Na 2), .ref (Na 3), .int oo0x1])), ((Na 1), .inl (tc 0, 10, .inl oo0x2)), ((Na 2), .inl (tc 0, 10, .inl oo0x3)), ((Na 3), .inl (tc 0, 10, .inl oo0x4))]) 0 0 := by
  refine Ct.start (by decide) (Nat.le_of_ble_eq_true rfl) (fun p e s m below meth c A ls hx hb hr hlk hin hml hown hts hK hX hP hD hA hl hS => ?_)
  have hl : lv_has ls 4 [(0, .ref (Ga 0)), (1, .int x1), (2, .int x2), (3, .int x3)] := hl
  have hn10 := h_tn.1; have hn11 := h_tn.2.1
  refine lv_iload_n hx hb dX11_note_0 rfl (lv_at hl 1 rfl) ?_
  refine lv_iconst (v := (-1)) hx hb dX11_note_1 (by decide) ?_
  refine lv_icmp_ne (tgt := 18) hx hb dX11_note_2 (by decide) (fun c_1 => ?_) (fun c_1 => ?_)
  · skip
    refine lv_iload_n hx hb dX11_note_18 rfl (lv_at hl 1 rfl) ?_
    refine lv_iconst (v := 0) hx hb dX11_note_19 (by decide) ?_
    refine lv_bipush (v := 60) hx hb dX11_note_20 (by decide) ?_
    refine cS (As := [.int x1, .int 0, .int 60]) (rest := []) (wr := [((Ga 0), .inr (11, [.ref (Ga 1), .ref (Ga 2), .ref (Ga 3), .ref (Ga 4), .int (Gv 0), .ref (Sa 0), .ref (Aa 0), .ref (Ga 7), .ref (Ga 8), .ref (Ga 9), .ref (Ga 10), .ref (Ga 11)])), ((Sa 0), .inr (8, [.ref (Aa 0), .ref (Sa 2), .ref (Na 0), .int (Sv 0), .int (Sv 1)])), ((Aa 0), .inr (9, [.int (Av 0), .int (Av 1), .int (Av 2), .int (Av 3), .int (Av 4), .int (Av 5), .ref (Aa 1), .ref (Aa 2), .ref (Aa 3), .ref (Aa 4), .ref (Aa 5), .ref (Aa 6), .ref (Aa 7), .ref (Aa 8)])), ((Aa 1), .inl (tc 0, 10, .inl (Af 1))), ((Aa 2), .inl (tc 0, 10, .inl (Af 2))), ((Aa 3), .inl (tc 0, 6, .inl (Af 3))), ((Aa 4), .inl (tc 0, 6, .inl (Af 4))), ((Aa 5), .inl (tc 0, 6, .inl (Af 5))), ((Aa 6), .inl (tc 0, 6, .inl (Af 6))), ((Aa 7), .inl (tc 0, 6, .inl (Af 7))), ((Aa 8), .inl (tc 0, 6, .inl (Af 8))), ((Na 0), .inr (3, [.ref (Na 1), .ref (Na 2), .ref (Na 3), .int (Nv 0)])), ((Na 1), .inl (tc 0, 10, .inl (Nf 1))), ((Na 2), .inl (tc 0, 10, .inl (Nf 2))), ((Na 3), .inl (tc 0, 10, .inl (Nf 3)))]) ⟨hx, hb, hml, hown, hts⟩ hK hX hA (ct_gX11_isWithin l D tc sk x1 0 60) k_716 k_714 k_715 k_95 pl_X11_isWithin ⟨Nat.le_of_ble_eq_true rfl, Nat.le_of_ble_eq_true rfl⟩ rfl rfl  hP hD hS [] [0, 1, 2, 3, 4, 5, 6, 7, 8, 9, 10, 11, 12, 13, 14] rfl rfl rfl rfl rfl (by decide) rfl hl.1 rfl (Nat.le_of_ble_eq_true rfl) dX11_note_22 ⟨Nat.le_of_ble_eq_true rfl, Nat.le_of_ble_eq_true rfl⟩ (fun v_2 u_3 H locs hv_4 hP₀ hD₀ hS₀ => ?_)
    obtain ⟨r_5, rfl, he_6⟩ := hv_4
    have he_6 : ((r_5.toInt = 0 ∧ (x1.toInt < (0 : Int32).toInt ∨ (60 : Int32).toInt < x1.toInt)) ∨ (r_5.toInt = 1 ∧ (0 : Int32).toInt ≤ x1.toInt ∧ x1.toInt ≤ (60 : Int32).toInt)) := he_6
    refine W.eq (g2 := F0 m 25 ls [.int r_5]) rfl ?_
    replace hP : va_P D classes [((Ga 0), .inr (11, [.ref (Ga 1), .ref (Ga 2), .ref (Ga 3), .ref (Ga 4), .int (Gv 0), .ref (Sa 0), .ref (Aa 0), .ref (Ga 7), .ref (Ga 8), .ref (Ga 9), .ref (Ga 10), .ref (Ga 11)])), ((Sa 0), .inr (8, [.ref (Aa 0), .ref (Sa 2), .ref (Na 0), .int (Sv 0), .int (Sv 1)])), ((Aa 0), .inr (9, [.int (Av 0), .int (Av 1), .int (Av 2), .int (Av 3), .int (Av 4), .int (Av 5), .ref (Aa 1), .ref (Aa 2), .ref (Aa 3), .ref (Aa 4), .ref (Aa 5), .ref (Aa 6), .ref (Aa 7), .ref (Aa 8)])), ((Aa 1), .inl (tc 0, 10, .inl (Af 1))), ((Aa 2), .inl (tc 0, 10, .inl (Af 2))), ((Aa 3), .inl (tc 0, 6, .inl (Af 3))), ((Aa 4), .inl (tc 0, 6, .inl (Af 4))), ((Aa 5), .inl (tc 0, 6, .inl (Af 5))), ((Aa 6), .inl (tc 0, 6, .inl (Af 6))), ((Aa 7), .inl (tc 0, 6, .inl (Af 7))), ((Aa 8), .inl (tc 0, 6, .inl (Af 8))), ((Na 0), .inr (3, [.ref (Na 1), .ref (Na 2), .ref (Na 3), .int (Nv 0)])), ((Na 1), .inl (tc 0, 10, .inl (Nf 1))), ((Na 2), .inl (tc 0, 10, .inl (Nf 2))), ((Na 3), .inl (tc 0, 10, .inl (Nf 3)))] H := hP₀
    replace hD : va_D A [((Ga 0), .inr (11, [.ref (Ga 1), .ref (Ga 2), .ref (Ga 3), .ref (Ga 4), .int (Gv 0), .ref (Sa 0), .ref (Aa 0), .ref (Ga 7), .ref (Ga 8), .ref (Ga 9), .ref (Ga 10), .ref (Ga 11)])), ((Sa 0), .inr (8, [.ref (Aa 0), .ref (Sa 2), .ref (Na 0), .int (Sv 0), .int (Sv 1)])), ((Aa 0), .inr (9, [.int (Av 0), .int (Av 1), .int (Av 2), .int (Av 3), .int (Av 4), .int (Av 5), .ref (Aa 1), .ref (Aa 2), .ref (Aa 3), .ref (Aa 4), .ref (Aa 5), .ref (Aa 6), .ref (Aa 7), .ref (Aa 8)])), ((Aa 1), .inl (tc 0, 10, .inl (Af 1))), ((Aa 2), .inl (tc 0, 10, .inl (Af 2))), ((Aa 3), .inl (tc 0, 6, .inl (Af 3))), ((Aa 4), .inl (tc 0, 6, .inl (Af 4))), ((Aa 5), .inl (tc 0, 6, .inl (Af 5))), ((Aa 6), .inl (tc 0, 6, .inl (Af 6))), ((Aa 7), .inl (tc 0, 6, .inl (Af 7))), ((Aa 8), .inl (tc 0, 6, .inl (Af 8))), ((Na 0), .inr (3, [.ref (Na 1), .ref (Na 2), .ref (Na 3), .int (Nv 0)])), ((Na 1), .inl (tc 0, 10, .inl (Nf 1))), ((Na 2), .inl (tc 0, 10, .inl (Nf 2))), ((Na 3), .inl (tc 0, 10, .inl (Nf 3)))] := hD₀
    replace hS := hS₀
    clear hP₀ hD₀ hS₀
    have yl_he_6_0 : (0 : Int32).toInt = 0 := by decide
    have yl_he_6_60 : (60 : Int32).toInt = 60 := by decide
    refine lv_if_eq (tgt := 48) hx hb dX11_note_25 (by decide) (fun c_8 => ?_) (fun c_8 => ?_)
    · skip
      refine lv_bipush (v := (-2)) hx hb dX11_note_48 (by decide) ?_
      have hr_9 : ¬ x1.toInt = -1 := by
        have z_1 : ¬ (x1 : Int32).toInt = ((-1) : Int32).toInt := fun z => c_1 (Int32.toInt_inj.mp z)
        have z_2 := congrArg Int32.toInt c_8
        have y_m1 : (-1 : Int32).toInt = -1 := by decide
        have y_0 : (0 : Int32).toInt = 0 := by decide
        omega
      have hr_10 : x1.toInt < 0 ∨ 60 < x1.toInt ∨ x2.toInt < 0 ∨ (Av 3).toInt ≤ x2.toInt ∨ x3.toInt < 0 ∨ 1 < x3.toInt ∨ 10 ≤ ((Nv 0) : Int32).toInt := by
        have z_1 : ¬ (x1 : Int32).toInt = ((-1) : Int32).toInt := fun z => c_1 (Int32.toInt_inj.mp z)
        have z_2 := congrArg Int32.toInt c_8
        have y_m1 : (-1 : Int32).toInt = -1 := by decide
        have y_0 : (0 : Int32).toInt = 0 := by decide
        omega
      exact retI (v := (-2)) hx hb hr hlk (rfl) hP hD hS ((Nv 0), (Nf 1), (Nf 2), (Nf 3)) ⟨_, rfl, (NtX.bad h_tn h_ky.2.1 hr_9 hr_10 (by decide))⟩ [0, 1, 2, 3, 4, 5, 6, 7, 8, 9, 10, 11, 12, 13, 14] rfl rfl dX11_note_50 (Nat.le_of_ble_eq_true rfl) (Nat.le_of_ble_eq_true rfl) rfl
    · skip
      refine lv_aload_n hx hb dX11_note_28 rfl (lv_at hl 0 rfl) ?_
      refine gf_X11_51 hx hb hts hown hK hP 0 rfl rfl dX11_note_29 ?_
      refine lv_iload_n hx hb dX11_note_32 rfl (lv_at hl 2 rfl) ?_
      refine cV (a := (Aa 0)) (As := [.int x2]) (rest := []) (wr := [((Ga 0), .inr (11, [.ref (Ga 1), .ref (Ga 2), .ref (Ga 3), .ref (Ga 4), .int (Gv 0), .ref (Sa 0), .ref (Aa 0), .ref (Ga 7), .ref (Ga 8), .ref (Ga 9), .ref (Ga 10), .ref (Ga 11)])), ((Sa 0), .inr (8, [.ref (Aa 0), .ref (Sa 2), .ref (Na 0), .int (Sv 0), .int (Sv 1)])), ((Na 0), .inr (3, [.ref (Na 1), .ref (Na 2), .ref (Na 3), .int (Nv 0)])), ((Na 1), .inl (tc 0, 10, .inl (Nf 1))), ((Na 2), .inl (tc 0, 10, .inl (Nf 2))), ((Na 3), .inl (tc 0, 10, .inl (Nf 3)))]) ⟨hx, hb, hml, hown, hts⟩ hK hX hA (cu_gX9_hasBuyer l D tc sk (Aa 0) (Aa 1) (Aa 2) (Aa 3) (Aa 4) (Aa 5) (Aa 6) (Aa 7) (Aa 8) (Av 0) (Av 1) (Av 2) (Av 3) (Av 4) (Av 5) (Af 1) (Af 2) (Af 3) (Af 4) (Af 5) (Af 6) (Af 7) (Af 8) x2) k_591 k_702 k_589 k_590 k_98 pl_X9_hasBuyer ⟨Nat.le_of_ble_eq_true rfl, Nat.le_of_ble_eq_true rfl⟩ rfl rfl (va_recv hK hP (ci := 9) (q0 := 2) rfl rfl) hP hD hS [2, 3, 4, 5, 6, 7, 8, 9, 10] [0, 1, 11, 12, 13, 14] rfl rfl rfl rfl rfl (by decide) rfl hl.1 rfl (Nat.le_of_ble_eq_true rfl) dX11_note_33 ⟨Nat.le_of_ble_eq_true rfl, Nat.le_of_ble_eq_true rfl⟩ (fun v_11 u_12 H locs hv_13 hP₀ hD₀ hS₀ => ?_)
      obtain ⟨r_14, rfl, he_15⟩ := hv_13
      have he_15 : ((r_14.toInt = 0 ∧ (x2.toInt < 0 ∨ (Av 3).toInt ≤ x2.toInt ∨ 6 ≤ x2.toInt)) ∨ (r_14.toInt = 1 ∧ 0 ≤ x2.toInt ∧ x2.toInt < (Av 3).toInt ∧ x2.toInt < 6)) := he_15
      refine W.eq (g2 := F0 m 36 ls [.int r_14]) rfl ?_
      replace hP : va_P D classes [((Ga 0), .inr (11, [.ref (Ga 1), .ref (Ga 2), .ref (Ga 3), .ref (Ga 4), .int (Gv 0), .ref (Sa 0), .ref (Aa 0), .ref (Ga 7), .ref (Ga 8), .ref (Ga 9), .ref (Ga 10), .ref (Ga 11)])), ((Sa 0), .inr (8, [.ref (Aa 0), .ref (Sa 2), .ref (Na 0), .int (Sv 0), .int (Sv 1)])), ((Na 0), .inr (3, [.ref (Na 1), .ref (Na 2), .ref (Na 3), .int (Nv 0)])), ((Na 1), .inl (tc 0, 10, .inl (Nf 1))), ((Na 2), .inl (tc 0, 10, .inl (Nf 2))), ((Na 3), .inl (tc 0, 10, .inl (Nf 3))), ((Aa 0), .inr (9, [.int (Av 0), .int (Av 1), .int (Av 2), .int (Av 3), .int (Av 4), .int (Av 5), .ref (Aa 1), .ref (Aa 2), .ref (Aa 3), .ref (Aa 4), .ref (Aa 5), .ref (Aa 6), .ref (Aa 7), .ref (Aa 8)])), ((Aa 1), .inl (tc 0, 10, .inl (Af 1))), ((Aa 2), .inl (tc 0, 10, .inl (Af 2))), ((Aa 3), .inl (tc 0, 6, .inl (Af 3))), ((Aa 4), .inl (tc 0, 6, .inl (Af 4))), ((Aa 5), .inl (tc 0, 6, .inl (Af 5))), ((Aa 6), .inl (tc 0, 6, .inl (Af 6))), ((Aa 7), .inl (tc 0, 6, .inl (Af 7))), ((Aa 8), .inl (tc 0, 6, .inl (Af 8)))] H := hP₀
      replace hD : va_D A [((Ga 0), .inr (11, [.ref (Ga 1), .ref (Ga 2), .ref (Ga 3), .ref (Ga 4), .int (Gv 0), .ref (Sa 0), .ref (Aa 0), .ref (Ga 7), .ref (Ga 8), .ref (Ga 9), .ref (Ga 10), .ref (Ga 11)])), ((Sa 0), .inr (8, [.ref (Aa 0), .ref (Sa 2), .ref (Na 0), .int (Sv 0), .int (Sv 1)])), ((Na 0), .inr (3, [.ref (Na 1), .ref (Na 2), .ref (Na 3), .int (Nv 0)])), ((Na 1), .inl (tc 0, 10, .inl (Nf 1))), ((Na 2), .inl (tc 0, 10, .inl (Nf 2))), ((Na 3), .inl (tc 0, 10, .inl (Nf 3))), ((Aa 0), .inr (9, [.int (Av 0), .int (Av 1), .int (Av 2), .int (Av 3), .int (Av 4), .int (Av 5), .ref (Aa 1), .ref (Aa 2), .ref (Aa 3), .ref (Aa 4), .ref (Aa 5), .ref (Aa 6), .ref (Aa 7), .ref (Aa 8)])), ((Aa 1), .inl (tc 0, 10, .inl (Af 1))), ((Aa 2), .inl (tc 0, 10, .inl (Af 2))), ((Aa 3), .inl (tc 0, 6, .inl (Af 3))), ((Aa 4), .inl (tc 0, 6, .inl (Af 4))), ((Aa 5), .inl (tc 0, 6, .inl (Af 5))), ((Aa 6), .inl (tc 0, 6, .inl (Af 6))), ((Aa 7), .inl (tc 0, 6, .inl (Af 7))), ((Aa 8), .inl (tc 0, 6, .inl (Af 8)))] := hD₀
      replace hS := hS₀
      clear hP₀ hD₀ hS₀
      refine lv_if_eq (tgt := 48) hx hb dX11_note_36 (by decide) (fun c_17 => ?_) (fun c_17 => ?_)
      · skip
        refine lv_bipush (v := (-2)) hx hb dX11_note_48 (by decide) ?_
        have hr_18 : ¬ x1.toInt = -1 := by
          have z_1 : ¬ (x1 : Int32).toInt = ((-1) : Int32).toInt := fun z => c_1 (Int32.toInt_inj.mp z)
          have z_2 : ¬ (r_5 : Int32).toInt = (0 : Int32).toInt := fun z => c_8 (Int32.toInt_inj.mp z)
          have z_3 := congrArg Int32.toInt c_17
          have y_m1 : (-1 : Int32).toInt = -1 := by decide
          have y_0 : (0 : Int32).toInt = 0 := by decide
          omega
        have hr_19 : x1.toInt < 0 ∨ 60 < x1.toInt ∨ x2.toInt < 0 ∨ (Av 3).toInt ≤ x2.toInt ∨ x3.toInt < 0 ∨ 1 < x3.toInt ∨ 10 ≤ ((Nv 0) : Int32).toInt := by
          have z_1 : ¬ (x1 : Int32).toInt = ((-1) : Int32).toInt := fun z => c_1 (Int32.toInt_inj.mp z)
          have z_2 : ¬ (r_5 : Int32).toInt = (0 : Int32).toInt := fun z => c_8 (Int32.toInt_inj.mp z)
          have z_3 := congrArg Int32.toInt c_17
          have y_m1 : (-1 : Int32).toInt = -1 := by decide
          have y_0 : (0 : Int32).toInt = 0 := by decide
          omega
        exact retI (v := (-2)) hx hb hr hlk (rfl) hP hD hS ((Nv 0), (Nf 1), (Nf 2), (Nf 3)) ⟨_, rfl, (NtX.bad h_tn h_ky.2.1 hr_18 hr_19 (by decide))⟩ [0, 1, 6, 7, 8, 9, 10, 11, 12, 13, 14, 2, 3, 4, 5] rfl rfl dX11_note_50 (Nat.le_of_ble_eq_true rfl) (Nat.le_of_ble_eq_true rfl) rfl
      · skip
        refine lv_iload_n hx hb dX11_note_39 rfl (lv_at hl 3 rfl) ?_
        refine lv_iconst (v := 0) hx hb dX11_note_40 (by decide) ?_
        refine lv_iconst (v := 1) hx hb dX11_note_41 (by decide) ?_
        refine cS (As := [.int x3, .int 0, .int 1]) (rest := []) (wr := [((Ga 0), .inr (11, [.ref (Ga 1), .ref (Ga 2), .ref (Ga 3), .ref (Ga 4), .int (Gv 0), .ref (Sa 0), .ref (Aa 0), .ref (Ga 7), .ref (Ga 8), .ref (Ga 9), .ref (Ga 10), .ref (Ga 11)])), ((Sa 0), .inr (8, [.ref (Aa 0), .ref (Sa 2), .ref (Na 0), .int (Sv 0), .int (Sv 1)])), ((Na 0), .inr (3, [.ref (Na 1), .ref (Na 2), .ref (Na 3), .int (Nv 0)])), ((Na 1), .inl (tc 0, 10, .inl (Nf 1))), ((Na 2), .inl (tc 0, 10, .inl (Nf 2))), ((Na 3), .inl (tc 0, 10, .inl (Nf 3))), ((Aa 0), .inr (9, [.int (Av 0), .int (Av 1), .int (Av 2), .int (Av 3), .int (Av 4), .int (Av 5), .ref (Aa 1), .ref (Aa 2), .ref (Aa 3), .ref (Aa 4), .ref (Aa 5), .ref (Aa 6), .ref (Aa 7), .ref (Aa 8)])), ((Aa 1), .inl (tc 0, 10, .inl (Af 1))), ((Aa 2), .inl (tc 0, 10, .inl (Af 2))), ((Aa 3), .inl (tc 0, 6, .inl (Af 3))), ((Aa 4), .inl (tc 0, 6, .inl (Af 4))), ((Aa 5), .inl (tc 0, 6, .inl (Af 5))), ((Aa 6), .inl (tc 0, 6, .inl (Af 6))), ((Aa 7), .inl (tc 0, 6, .inl (Af 7))), ((Aa 8), .inl (tc 0, 6, .inl (Af 8)))]) ⟨hx, hb, hml, hown, hts⟩ hK hX hA (ct_gX11_isWithin l D tc sk x3 0 1) k_716 k_714 k_715 k_95 pl_X11_isWithin ⟨Nat.le_of_ble_eq_true rfl, Nat.le_of_ble_eq_true rfl⟩ rfl rfl  hP hD hS [] [0, 1, 2, 3, 4, 5, 6, 7, 8, 9, 10, 11, 12, 13, 14] rfl rfl rfl rfl rfl (by decide) rfl hl.1 rfl (Nat.le_of_ble_eq_true rfl) dX11_note_42 ⟨Nat.le_of_ble_eq_true rfl, Nat.le_of_ble_eq_true rfl⟩ (fun v_20 u_21 H locs hv_22 hP₀ hD₀ hS₀ => ?_)
        obtain ⟨r_23, rfl, he_24⟩ := hv_22
        have he_24 : ((r_23.toInt = 0 ∧ (x3.toInt < (0 : Int32).toInt ∨ (1 : Int32).toInt < x3.toInt)) ∨ (r_23.toInt = 1 ∧ (0 : Int32).toInt ≤ x3.toInt ∧ x3.toInt ≤ (1 : Int32).toInt)) := he_24
        refine W.eq (g2 := F0 m 45 ls [.int r_23]) rfl ?_
        replace hP : va_P D classes [((Ga 0), .inr (11, [.ref (Ga 1), .ref (Ga 2), .ref (Ga 3), .ref (Ga 4), .int (Gv 0), .ref (Sa 0), .ref (Aa 0), .ref (Ga 7), .ref (Ga 8), .ref (Ga 9), .ref (Ga 10), .ref (Ga 11)])), ((Sa 0), .inr (8, [.ref (Aa 0), .ref (Sa 2), .ref (Na 0), .int (Sv 0), .int (Sv 1)])), ((Na 0), .inr (3, [.ref (Na 1), .ref (Na 2), .ref (Na 3), .int (Nv 0)])), ((Na 1), .inl (tc 0, 10, .inl (Nf 1))), ((Na 2), .inl (tc 0, 10, .inl (Nf 2))), ((Na 3), .inl (tc 0, 10, .inl (Nf 3))), ((Aa 0), .inr (9, [.int (Av 0), .int (Av 1), .int (Av 2), .int (Av 3), .int (Av 4), .int (Av 5), .ref (Aa 1), .ref (Aa 2), .ref (Aa 3), .ref (Aa 4), .ref (Aa 5), .ref (Aa 6), .ref (Aa 7), .ref (Aa 8)])), ((Aa 1), .inl (tc 0, 10, .inl (Af 1))), ((Aa 2), .inl (tc 0, 10, .inl (Af 2))), ((Aa 3), .inl (tc 0, 6, .inl (Af 3))), ((Aa 4), .inl (tc 0, 6, .inl (Af 4))), ((Aa 5), .inl (tc 0, 6, .inl (Af 5))), ((Aa 6), .inl (tc 0, 6, .inl (Af 6))), ((Aa 7), .inl (tc 0, 6, .inl (Af 7))), ((Aa 8), .inl (tc 0, 6, .inl (Af 8)))] H := hP₀
        replace hD : va_D A [((Ga 0), .inr (11, [.ref (Ga 1), .ref (Ga 2), .ref (Ga 3), .ref (Ga 4), .int (Gv 0), .ref (Sa 0), .ref (Aa 0), .ref (Ga 7), .ref (Ga 8), .ref (Ga 9), .ref (Ga 10), .ref (Ga 11)])), ((Sa 0), .inr (8, [.ref (Aa 0), .ref (Sa 2), .ref (Na 0), .int (Sv 0), .int (Sv 1)])), ((Na 0), .inr (3, [.ref (Na 1), .ref (Na 2), .ref (Na 3), .int (Nv 0)])), ((Na 1), .inl (tc 0, 10, .inl (Nf 1))), ((Na 2), .inl (tc 0, 10, .inl (Nf 2))), ((Na 3), .inl (tc 0, 10, .inl (Nf 3))), ((Aa 0), .inr (9, [.int (Av 0), .int (Av 1), .int (Av 2), .int (Av 3), .int (Av 4), .int (Av 5), .ref (Aa 1), .ref (Aa 2), .ref (Aa 3), .ref (Aa 4), .ref (Aa 5), .ref (Aa 6), .ref (Aa 7), .ref (Aa 8)])), ((Aa 1), .inl (tc 0, 10, .inl (Af 1))), ((Aa 2), .inl (tc 0, 10, .inl (Af 2))), ((Aa 3), .inl (tc 0, 6, .inl (Af 3))), ((Aa 4), .inl (tc 0, 6, .inl (Af 4))), ((Aa 5), .inl (tc 0, 6, .inl (Af 5))), ((Aa 6), .inl (tc 0, 6, .inl (Af 6))), ((Aa 7), .inl (tc 0, 6, .inl (Af 7))), ((Aa 8), .inl (tc 0, 6, .inl (Af 8)))] := hD₀
        replace hS := hS₀
        clear hP₀ hD₀ hS₀
        have yl_he_24_0 : (0 : Int32).toInt = 0 := by decide
        have yl_he_24_1 : (1 : Int32).toInt = 1 := by decide
        refine lv_if_ne (tgt := 51) hx hb dX11_note_45 (by decide) (fun c_26 => ?_) (fun c_26 => ?_)
        · skip
          refine lv_aload_n hx hb dX11_note_51 rfl (lv_at hl 0 rfl) ?_
          refine gf_X11_43 hx hb hts hown hK hP 0 rfl rfl dX11_note_52 ?_
          refine gf_X11_111 hx hb hts hown hK hP 1 rfl rfl dX11_note_55 ?_
          refine lv_iload_n hx hb dX11_note_58 rfl (lv_at hl 1 rfl) ?_
          refine lv_iload_n hx hb dX11_note_59 rfl (lv_at hl 2 rfl) ?_
          refine lv_iload_n hx hb dX11_note_60 rfl (lv_at hl 3 rfl) ?_
          refine cV (a := (Na 0)) (As := [.int x1, .int x2, .int x3]) (rest := []) (wr := [((Ga 0), .inr (11, [.ref (Ga 1), .ref (Ga 2), .ref (Ga 3), .ref (Ga 4), .int (Gv 0), .ref (Sa 0), .ref (Aa 0), .ref (Ga 7), .ref (Ga 8), .ref (Ga 9), .ref (Ga 10), .ref (Ga 11)])), ((Sa 0), .inr (8, [.ref (Aa 0), .ref (Sa 2), .ref (Na 0), .int (Sv 0), .int (Sv 1)])), ((Aa 0), .inr (9, [.int (Av 0), .int (Av 1), .int (Av 2), .int (Av 3), .int (Av 4), .int (Av 5), .ref (Aa 1), .ref (Aa 2), .ref (Aa 3), .ref (Aa 4), .ref (Aa 5), .ref (Aa 6), .ref (Aa 7), .ref (Aa 8)])), ((Aa 1), .inl (tc 0, 10, .inl (Af 1))), ((Aa 2), .inl (tc 0, 10, .inl (Af 2))), ((Aa 3), .inl (tc 0, 6, .inl (Af 3))), ((Aa 4), .inl (tc 0, 6, .inl (Af 4))), ((Aa 5), .inl (tc 0, 6, .inl (Af 5))), ((Aa 6), .inl (tc 0, 6, .inl (Af 6))), ((Aa 7), .inl (tc 0, 6, .inl (Af 7))), ((Aa 8), .inl (tc 0, 6, .inl (Af 8)))]) ⟨hx, hb, hml, hown, hts⟩ hK hX hA (cu_hX3_add l D tc sk (Na 0) (Na 1) (Na 2) (Na 3) (Nv 0) (Nf 1) (Nf 2) (Nf 3) x1 x2 x3 dr h_tn) k_973 k_970 k_971 k_972 k_101 pl_X3_add ⟨Nat.le_of_ble_eq_true rfl, Nat.le_of_ble_eq_true rfl⟩ rfl rfl (va_recv hK hP (ci := 3) (q0 := 2) rfl rfl) hP hD hS [2, 3, 4, 5] [0, 1, 6, 7, 8, 9, 10, 11, 12, 13, 14] rfl rfl rfl rfl rfl (by decide) rfl hl.1 rfl (Nat.le_of_ble_eq_true rfl) dX11_note_61 ⟨Nat.le_of_ble_eq_true rfl, Nat.le_of_ble_eq_true rfl⟩ (fun v_27 u_28 H locs hv_29 hP₀ hD₀ hS₀ => ?_)
          obtain ⟨sv_30, sv_31, sv_32, sv_33⟩ := u_28
          obtain ⟨r_34, rfl, he_35, hm_37, hm_38⟩ := hv_29
          have he_35 : ((r_34.toInt = 0 ∧ ((Nv 0).toInt < 0 ∨ 10 ≤ (Nv 0).toInt) ∧ (sv_30 : Int32).toInt = (Nv 0).toInt) ∨ (r_34.toInt = 1 ∧ 0 ≤ (Nv 0).toInt ∧ (Nv 0).toInt < 10 ∧ (sv_30 : Int32).toInt = (Nv 0).toInt + 1)) := he_35
          refine W.eq (g2 := F0 m 64 ls [.int r_34]) rfl ?_
          replace hP : va_P D classes [((Ga 0), .inr (11, [.ref (Ga 1), .ref (Ga 2), .ref (Ga 3), .ref (Ga 4), .int (Gv 0), .ref (Sa 0), .ref (Aa 0), .ref (Ga 7), .ref (Ga 8), .ref (Ga 9), .ref (Ga 10), .ref (Ga 11)])), ((Sa 0), .inr (8, [.ref (Aa 0), .ref (Sa 2), .ref (Na 0), .int (Sv 0), .int (Sv 1)])), ((Aa 0), .inr (9, [.int (Av 0), .int (Av 1), .int (Av 2), .int (Av 3), .int (Av 4), .int (Av 5), .ref (Aa 1), .ref (Aa 2), .ref (Aa 3), .ref (Aa 4), .ref (Aa 5), .ref (Aa 6), .ref (Aa 7), .ref (Aa 8)])), ((Aa 1), .inl (tc 0, 10, .inl (Af 1))), ((Aa 2), .inl (tc 0, 10, .inl (Af 2))), ((Aa 3), .inl (tc 0, 6, .inl (Af 3))), ((Aa 4), .inl (tc 0, 6, .inl (Af 4))), ((Aa 5), .inl (tc 0, 6, .inl (Af 5))), ((Aa 6), .inl (tc 0, 6, .inl (Af 6))), ((Aa 7), .inl (tc 0, 6, .inl (Af 7))), ((Aa 8), .inl (tc 0, 6, .inl (Af 8))), ((Na 0), .inr (3, [.ref (Na 1), .ref (Na 2), .ref (Na 3), .int sv_30])), ((Na 1), .inl (tc 0, 10, .inl sv_31)), ((Na 2), .inl (tc 0, 10, .inl sv_32)), ((Na 3), .inl (tc 0, 10, .inl sv_33))] H := hP₀
          replace hD : va_D A [((Ga 0), .inr (11, [.ref (Ga 1), .ref (Ga 2), .ref (Ga 3), .ref (Ga 4), .int (Gv 0), .ref (Sa 0), .ref (Aa 0), .ref (Ga 7), .ref (Ga 8), .ref (Ga 9), .ref (Ga 10), .ref (Ga 11)])), ((Sa 0), .inr (8, [.ref (Aa 0), .ref (Sa 2), .ref (Na 0), .int (Sv 0), .int (Sv 1)])), ((Aa 0), .inr (9, [.int (Av 0), .int (Av 1), .int (Av 2), .int (Av 3), .int (Av 4), .int (Av 5), .ref (Aa 1), .ref (Aa 2), .ref (Aa 3), .ref (Aa 4), .ref (Aa 5), .ref (Aa 6), .ref (Aa 7), .ref (Aa 8)])), ((Aa 1), .inl (tc 0, 10, .inl (Af 1))), ((Aa 2), .inl (tc 0, 10, .inl (Af 2))), ((Aa 3), .inl (tc 0, 6, .inl (Af 3))), ((Aa 4), .inl (tc 0, 6, .inl (Af 4))), ((Aa 5), .inl (tc 0, 6, .inl (Af 5))), ((Aa 6), .inl (tc 0, 6, .inl (Af 6))), ((Aa 7), .inl (tc 0, 6, .inl (Af 7))), ((Aa 8), .inl (tc 0, 6, .inl (Af 8))), ((Na 0), .inr (3, [.ref (Na 1), .ref (Na 2), .ref (Na 3), .int sv_30])), ((Na 1), .inl (tc 0, 10, .inl sv_31)), ((Na 2), .inl (tc 0, 10, .inl sv_32)), ((Na 3), .inl (tc 0, 10, .inl sv_33))] := hD₀
          replace hS := hS₀
          clear hP₀ hD₀ hS₀
          refine lv_if_eq (tgt := 80) hx hb dX11_note_64 (by decide) (fun c_39 => ?_) (fun c_39 => ?_)
          · skip
            have hz_41 : (r_34 : Int32).toInt = 0 := by
              have z_1 : ¬ (x1 : Int32).toInt = ((-1) : Int32).toInt := fun z => c_1 (Int32.toInt_inj.mp z)
              have z_2 : ¬ (r_5 : Int32).toInt = (0 : Int32).toInt := fun z => c_8 (Int32.toInt_inj.mp z)
              have z_3 : ¬ (r_14 : Int32).toInt = (0 : Int32).toInt := fun z => c_17 (Int32.toInt_inj.mp z)
              have z_4 : ¬ (r_23 : Int32).toInt = (0 : Int32).toInt := fun z => c_26 (Int32.toInt_inj.mp z)
              have z_5 := congrArg Int32.toInt c_39
              have y_m1 : (-1 : Int32).toInt = -1 := by decide
              have y_0 : (0 : Int32).toInt = 0 := by decide
              omega
            obtain pf_40 := hm_38 hz_41
            have pf_40 : TnC dr sv_30 sv_31 sv_32 sv_33 := pf_40
            refine lv_bipush (v := (-2)) hx hb dX11_note_80 (by decide) ?_
            have hr_42 : ¬ x1.toInt = -1 := by
              have z_1 : ¬ (x1 : Int32).toInt = ((-1) : Int32).toInt := fun z => c_1 (Int32.toInt_inj.mp z)
              have z_2 : ¬ (r_5 : Int32).toInt = (0 : Int32).toInt := fun z => c_8 (Int32.toInt_inj.mp z)
              have z_3 : ¬ (r_14 : Int32).toInt = (0 : Int32).toInt := fun z => c_17 (Int32.toInt_inj.mp z)
              have z_4 : ¬ (r_23 : Int32).toInt = (0 : Int32).toInt := fun z => c_26 (Int32.toInt_inj.mp z)
              have z_5 := congrArg Int32.toInt c_39
              have y_m1 : (-1 : Int32).toInt = -1 := by decide
              have y_0 : (0 : Int32).toInt = 0 := by decide
              omega
            have hn10 := h_tn.1
            have hn11 := h_tn.2.1
            have hr_43 : x1.toInt < 0 ∨ 60 < x1.toInt ∨ x2.toInt < 0 ∨ (Av 3).toInt ≤ x2.toInt ∨ x3.toInt < 0 ∨ 1 < x3.toInt ∨ 10 ≤ (sv_30 : Int32).toInt := by
              have z_1 : ¬ (x1 : Int32).toInt = ((-1) : Int32).toInt := fun z => c_1 (Int32.toInt_inj.mp z)
              have z_2 : ¬ (r_5 : Int32).toInt = (0 : Int32).toInt := fun z => c_8 (Int32.toInt_inj.mp z)
              have z_3 : ¬ (r_14 : Int32).toInt = (0 : Int32).toInt := fun z => c_17 (Int32.toInt_inj.mp z)
              have z_4 : ¬ (r_23 : Int32).toInt = (0 : Int32).toInt := fun z => c_26 (Int32.toInt_inj.mp z)
              have z_5 := congrArg Int32.toInt c_39
              have y_m1 : (-1 : Int32).toInt = -1 := by decide
              have y_0 : (0 : Int32).toInt = 0 := by decide
              omega
            exact retI (v := (-2)) hx hb hr hlk (rfl) hP hD hS (sv_30, sv_31, sv_32, sv_33) ⟨_, rfl, (NtX.bad pf_40 h_ky.2.1 hr_42 hr_43 (by decide))⟩ [0, 1, 2, 3, 4, 5, 6, 7, 8, 9, 10, 11, 12, 13, 14] rfl rfl dX11_note_82 (Nat.le_of_ble_eq_true rfl) (Nat.le_of_ble_eq_true rfl) rfl
          · skip
            have hz_45 : (r_34 : Int32).toInt = 1 := by
              have z_1 : ¬ (x1 : Int32).toInt = ((-1) : Int32).toInt := fun z => c_1 (Int32.toInt_inj.mp z)
              have z_2 : ¬ (r_5 : Int32).toInt = (0 : Int32).toInt := fun z => c_8 (Int32.toInt_inj.mp z)
              have z_3 : ¬ (r_14 : Int32).toInt = (0 : Int32).toInt := fun z => c_17 (Int32.toInt_inj.mp z)
              have z_4 : ¬ (r_23 : Int32).toInt = (0 : Int32).toInt := fun z => c_26 (Int32.toInt_inj.mp z)
              have z_5 : ¬ (r_34 : Int32).toInt = (0 : Int32).toInt := fun z => c_39 (Int32.toInt_inj.mp z)
              have y_m1 : (-1 : Int32).toInt = -1 := by decide
              have y_0 : (0 : Int32).toInt = 0 := by decide
              omega
            obtain pf_44 := hm_37 hz_45
            have pf_44 : TnC (qz_nt dr x1.toInt x2.toInt x3.toInt) sv_30 sv_31 sv_32 sv_33 := pf_44
            refine lv_aload_n hx hb dX11_note_67 rfl (lv_at hl 0 rfl) ?_
            refine gf_X11_43 hx hb hts hown hK hP 0 rfl rfl dX11_note_68 ?_
            refine gf_X11_111 hx hb hts hown hK hP 1 rfl rfl dX11_note_71 ?_
            refine gf_X11_115 hx hb hts hown hK hP 11 rfl rfl dX11_note_74 ?_
            refine lv_goto (tgt := 82) hx hb dX11_note_77 (by decide) ?_
            have hr_46 : ¬ x1.toInt = -1 := by
              have z_1 : ¬ (x1 : Int32).toInt = ((-1) : Int32).toInt := fun z => c_1 (Int32.toInt_inj.mp z)
              have z_2 : ¬ (r_5 : Int32).toInt = (0 : Int32).toInt := fun z => c_8 (Int32.toInt_inj.mp z)
              have z_3 : ¬ (r_14 : Int32).toInt = (0 : Int32).toInt := fun z => c_17 (Int32.toInt_inj.mp z)
              have z_4 : ¬ (r_23 : Int32).toInt = (0 : Int32).toInt := fun z => c_26 (Int32.toInt_inj.mp z)
              have z_5 : ¬ (r_34 : Int32).toInt = (0 : Int32).toInt := fun z => c_39 (Int32.toInt_inj.mp z)
              have y_m1 : (-1 : Int32).toInt = -1 := by decide
              have y_0 : (0 : Int32).toInt = 0 := by decide
              omega
            have hr_47 : 0 ≤ x1.toInt ∧ x1.toInt ≤ 60 ∧ 0 ≤ x2.toInt ∧ x2.toInt < (Av 3).toInt ∧ 0 ≤ x3.toInt ∧ x3.toInt ≤ 1 := by
              have z_1 : ¬ (x1 : Int32).toInt = ((-1) : Int32).toInt := fun z => c_1 (Int32.toInt_inj.mp z)
              have z_2 : ¬ (r_5 : Int32).toInt = (0 : Int32).toInt := fun z => c_8 (Int32.toInt_inj.mp z)
              have z_3 : ¬ (r_14 : Int32).toInt = (0 : Int32).toInt := fun z => c_17 (Int32.toInt_inj.mp z)
              have z_4 : ¬ (r_23 : Int32).toInt = (0 : Int32).toInt := fun z => c_26 (Int32.toInt_inj.mp z)
              have z_5 : ¬ (r_34 : Int32).toInt = (0 : Int32).toInt := fun z => c_39 (Int32.toInt_inj.mp z)
              have y_m1 : (-1 : Int32).toInt = -1 := by decide
              have y_0 : (0 : Int32).toInt = 0 := by decide
              omega
            have hr_48 : (Nv 0).toInt < 10 := by
              have z_1 : ¬ (x1 : Int32).toInt = ((-1) : Int32).toInt := fun z => c_1 (Int32.toInt_inj.mp z)
              have z_2 : ¬ (r_5 : Int32).toInt = (0 : Int32).toInt := fun z => c_8 (Int32.toInt_inj.mp z)
              have z_3 : ¬ (r_14 : Int32).toInt = (0 : Int32).toInt := fun z => c_17 (Int32.toInt_inj.mp z)
              have z_4 : ¬ (r_23 : Int32).toInt = (0 : Int32).toInt := fun z => c_26 (Int32.toInt_inj.mp z)
              have z_5 : ¬ (r_34 : Int32).toInt = (0 : Int32).toInt := fun z => c_39 (Int32.toInt_inj.mp z)
              have y_m1 : (-1 : Int32).toInt = -1 := by decide
              have y_0 : (0 : Int32).toInt = 0 := by decide
              omega
            have hi_49 : (sv_30 : Int32).toInt = (Nv 0).toInt + 1 := by
              have z_1 : ¬ (x1 : Int32).toInt = ((-1) : Int32).toInt := fun z => c_1 (Int32.toInt_inj.mp z)
              have z_2 : ¬ (r_5 : Int32).toInt = (0 : Int32).toInt := fun z => c_8 (Int32.toInt_inj.mp z)
              have z_3 : ¬ (r_14 : Int32).toInt = (0 : Int32).toInt := fun z => c_17 (Int32.toInt_inj.mp z)
              have z_4 : ¬ (r_23 : Int32).toInt = (0 : Int32).toInt := fun z => c_26 (Int32.toInt_inj.mp z)
              have z_5 : ¬ (r_34 : Int32).toInt = (0 : Int32).toInt := fun z => c_39 (Int32.toInt_inj.mp z)
              have y_m1 : (-1 : Int32).toInt = -1 := by decide
              have y_0 : (0 : Int32).toInt = 0 := by decide
              omega
            exact retI (v := sv_30) hx hb hr hlk (rfl) hP hD hS (sv_30, sv_31, sv_32, sv_33) ⟨_, rfl, (NtX.add pf_44 h_ky.2.1 hr_47 h_tn.1 hr_48 hi_49)⟩ [0, 1, 2, 3, 4, 5, 6, 7, 8, 9, 10, 11, 12, 13, 14] rfl rfl dX11_note_82 (Nat.le_of_ble_eq_true rfl) (Nat.le_of_ble_eq_true rfl) rfl
        · skip
          refine lv_bipush (v := (-2)) hx hb dX11_note_48 (by decide) ?_
          have hr_50 : ¬ x1.toInt = -1 := by
            have z_1 : ¬ (x1 : Int32).toInt = ((-1) : Int32).toInt := fun z => c_1 (Int32.toInt_inj.mp z)
            have z_2 : ¬ (r_5 : Int32).toInt = (0 : Int32).toInt := fun z => c_8 (Int32.toInt_inj.mp z)
            have z_3 : ¬ (r_14 : Int32).toInt = (0 : Int32).toInt := fun z => c_17 (Int32.toInt_inj.mp z)
            have z_4 := congrArg Int32.toInt c_26
            have y_m1 : (-1 : Int32).toInt = -1 := by decide
            have y_0 : (0 : Int32).toInt = 0 := by decide
            omega
          have hr_51 : x1.toInt < 0 ∨ 60 < x1.toInt ∨ x2.toInt < 0 ∨ (Av 3).toInt ≤ x2.toInt ∨ x3.toInt < 0 ∨ 1 < x3.toInt ∨ 10 ≤ ((Nv 0) : Int32).toInt := by
            have z_1 : ¬ (x1 : Int32).toInt = ((-1) : Int32).toInt := fun z => c_1 (Int32.toInt_inj.mp z)
            have z_2 : ¬ (r_5 : Int32).toInt = (0 : Int32).toInt := fun z => c_8 (Int32.toInt_inj.mp z)
            have z_3 : ¬ (r_14 : Int32).toInt = (0 : Int32).toInt := fun z => c_17 (Int32.toInt_inj.mp z)
            have z_4 := congrArg Int32.toInt c_26
            have y_m1 : (-1 : Int32).toInt = -1 := by decide
            have y_0 : (0 : Int32).toInt = 0 := by decide
            omega
          exact retI (v := (-2)) hx hb hr hlk (rfl) hP hD hS ((Nv 0), (Nf 1), (Nf 2), (Nf 3)) ⟨_, rfl, (NtX.bad h_tn h_ky.2.1 hr_50 hr_51 (by decide))⟩ [0, 1, 6, 7, 8, 9, 10, 11, 12, 13, 14, 2, 3, 4, 5] rfl rfl dX11_note_50 (Nat.le_of_ble_eq_true rfl) (Nat.le_of_ble_eq_true rfl) rfl
  · skip
    refine lv_aload_n hx hb dX11_note_5 rfl (lv_at hl 0 rfl) ?_
    refine gf_X11_43 hx hb hts hown hK hP 0 rfl rfl dX11_note_6 ?_
    refine gf_X11_111 hx hb hts hown hK hP 1 rfl rfl dX11_note_9 ?_
    refine lv_iconst (v := 0) hx hb dX11_note_12 (by decide) ?_
    refine pf_X11_115 hx hb hts hown hK hP hD hS 11 rfl (Nat.le_of_ble_eq_true rfl) rfl rfl dX11_note_13 (fun H locs hP₀ hD₀ hS₀ => ?_)
    replace hP : va_P D classes [((Ga 0), .inr (11, [.ref (Ga 1), .ref (Ga 2), .ref (Ga 3), .ref (Ga 4), .int (Gv 0), .ref (Sa 0), .ref (Aa 0), .ref (Ga 7), .ref (Ga 8), .ref (Ga 9), .ref (Ga 10), .ref (Ga 11)])), ((Sa 0), .inr (8, [.ref (Aa 0), .ref (Sa 2), .ref (Na 0), .int (Sv 0), .int (Sv 1)])), ((Aa 0), .inr (9, [.int (Av 0), .int (Av 1), .int (Av 2), .int (Av 3), .int (Av 4), .int (Av 5), .ref (Aa 1), .ref (Aa 2), .ref (Aa 3), .ref (Aa 4), .ref (Aa 5), .ref (Aa 6), .ref (Aa 7), .ref (Aa 8)])), ((Aa 1), .inl (tc 0, 10, .inl (Af 1))), ((Aa 2), .inl (tc 0, 10, .inl (Af 2))), ((Aa 3), .inl (tc 0, 6, .inl (Af 3))), ((Aa 4), .inl (tc 0, 6, .inl (Af 4))), ((Aa 5), .inl (tc 0, 6, .inl (Af 5))), ((Aa 6), .inl (tc 0, 6, .inl (Af 6))), ((Aa 7), .inl (tc 0, 6, .inl (Af 7))), ((Aa 8), .inl (tc 0, 6, .inl (Af 8))), ((Na 0), .inr (3, [.ref (Na 1), .ref (Na 2), .ref (Na 3), .int 0])), ((Na 1), .inl (tc 0, 10, .inl (Nf 1))), ((Na 2), .inl (tc 0, 10, .inl (Nf 2))), ((Na 3), .inl (tc 0, 10, .inl (Nf 3)))] H := hP₀
    replace hD : va_D A [((Ga 0), .inr (11, [.ref (Ga 1), .ref (Ga 2), .ref (Ga 3), .ref (Ga 4), .int (Gv 0), .ref (Sa 0), .ref (Aa 0), .ref (Ga 7), .ref (Ga 8), .ref (Ga 9), .ref (Ga 10), .ref (Ga 11)])), ((Sa 0), .inr (8, [.ref (Aa 0), .ref (Sa 2), .ref (Na 0), .int (Sv 0), .int (Sv 1)])), ((Aa 0), .inr (9, [.int (Av 0), .int (Av 1), .int (Av 2), .int (Av 3), .int (Av 4), .int (Av 5), .ref (Aa 1), .ref (Aa 2), .ref (Aa 3), .ref (Aa 4), .ref (Aa 5), .ref (Aa 6), .ref (Aa 7), .ref (Aa 8)])), ((Aa 1), .inl (tc 0, 10, .inl (Af 1))), ((Aa 2), .inl (tc 0, 10, .inl (Af 2))), ((Aa 3), .inl (tc 0, 6, .inl (Af 3))), ((Aa 4), .inl (tc 0, 6, .inl (Af 4))), ((Aa 5), .inl (tc 0, 6, .inl (Af 5))), ((Aa 6), .inl (tc 0, 6, .inl (Af 6))), ((Aa 7), .inl (tc 0, 6, .inl (Af 7))), ((Aa 8), .inl (tc 0, 6, .inl (Af 8))), ((Na 0), .inr (3, [.ref (Na 1), .ref (Na 2), .ref (Na 3), .int 0])), ((Na 1), .inl (tc 0, 10, .inl (Nf 1))), ((Na 2), .inl (tc 0, 10, .inl (Nf 2))), ((Na 3), .inl (tc 0, 10, .inl (Nf 3)))] := hD₀
    replace hS := hS₀
    clear hP₀ hD₀ hS₀
    refine lv_iconst (v := 0) hx hb dX11_note_16 (by decide) ?_
    have hr_52 : x1.toInt = -1 := by
      have z_1 := congrArg Int32.toInt c_1
      have y_m1 : (-1 : Int32).toInt = -1 := by decide
      omega
    have hr_53 : (0 : Int32).toInt = 0 := by
      have z_1 := congrArg Int32.toInt c_1
      have y_m1 : (-1 : Int32).toInt = -1 := by decide
      have y_0 : (0 : Int32).toInt = 0 := by decide
      omega
    exact retI (v := 0) hx hb hr hlk (rfl) hP hD hS (0, (Nf 1), (Nf 2), (Nf 3)) ⟨_, rfl, (NtX.none h_tn hr_52 (by decide) hr_53)⟩ [0, 1, 2, 3, 4, 5, 6, 7, 8, 9, 10, 11, 12, 13, 14] rfl rfl dX11_note_17 (Nat.le_of_ble_eq_true rfl) (Nat.le_of_ble_eq_true rfl) rfl
set_option maxHeartbeats 4000000 in
set_option maxRecDepth 100000 in
theorem ct_hX5_keep_n (l : Launch) (D : va_G) (tc : Nat → ClassId) (sk : (Nat → Nat) × (Nat → Nat)) (Pa : Nat → Nat) (Pv : Nat → Int32) (Pq : Nat → Nat → Option Nat) (Aa : Nat → Nat) (Av : Nat → Int32) (Af : Nat → Nat → Int32) (dr : Nat → Int) (h_nx : 0 ≤ ((Pv 0) : Int32).toInt ∧ ((Pv 0) : Int32).toInt < 20) (h_q : (Pq 1) (Pv 0).toNatClampNeg = none) (h_bA : 0 ≤ ((Av 3) : Int32).toInt ∧ ((Av 3) : Int32).toInt ≤ 6) (h_sz : 0 ≤ (Pv 1).toInt ∧ (Pv 1).toInt ≤ 20) (h_ky : KyC dr (Av 2) (Av 3) (Af 4)) : Ct l yX5_keep cX5_keep 3 none { frames := 2, cells := 9, slots := 70, locals := 61 } D tc sk [.ref (Pa 0), .ref (Aa 0)] [((Pa 0), .inr (5, [.ref (Pa 1), .int (Pv 0), .int (Pv 1)])), ((Pa 1), .inl (tc 5, 20, .inr (.inr (.inr (.inr (Pq 1)))))), ((Aa 0), .inr (9, [.int (Av 0), .int (Av 1), .int (Av 2), .int (Av 3), .int (Av 4), .int (Av 5), .ref (Aa 1), .ref (Aa 2), .ref (Aa 3), .ref (Aa 4), .ref (Aa 5), .ref (Aa 6), .ref (Aa 7), .ref (Aa 8)])), ((Aa 1), .inl (tc 0, 10, .inl (Af 1))), ((Aa 2), .inl (tc 0, 10, .inl (Af 2))), ((Aa 3), .inl (tc 0, 6, .inl (Af 3))), ((Aa 4), .inl (tc 0, 6, .inl (Af 4))), ((Aa 5), .inl (tc 0, 6, .inl (Af 5))), ((Aa 6), .inl (tc 0, 6, .inl (Af 6))), ((Aa 7), .inl (tc 0, 6, .inl (Af 7))), ((Aa 8), .inl (tc 0, 6, .inl (Af 8)))] (fun (v : Option Value) (u : (Bool) × (Nat) × (Nat) × (Nat) × (Nat) × (Nat) × (Nat) × (Nat) × (Nat) × (Nat) × (Int32) × (Int32) × (Nat → Int32) × (Nat → Int32) × (Nat → Int32) × (Nat → Int32) × (Nat → Int32) × (Nat → Int32) × (Nat → Int32) × (Nat → Int32)) => match u with | (true, na0x0, na0x1, na0x2, na0x3, na0x4, na0x5, na0x6, na0x7, na0x8, oo0x1, oo0x2, oo0x3, oo0x4, oo0x5, oo0x6, oo0x7, oo0x8, oo0x9, oo0x10) => v = none ∧ (0 ≤ (oo0x1 : Int32).toInt ∧ (oo0x1 : Int32).toInt < 20) ∧ (0 ≤ ((Av 3) : Int32).toInt ∧ ((Av 3) : Int32).toInt ≤ 6) ∧ (RgN dr (Pv 0) (Pv 1) oo0x1 oo0x2 (Av 2) (Av 3) oo0x6) | (false, na0x0, na0x1, na0x2, na0x3, na0x4, na0x5, na0x6, na0x7, na0x8, oo0x1, oo0x2, oo0x3, oo0x4, oo0x5, oo0x6, oo0x7, oo0x8, oo0x9, oo0x10) => v = none ∧ (0 ≤ ((Pv 0) : Int32).toInt ∧ ((Pv 0) : Int32).toInt < 20)) (fun (u : (Bool) × (Nat) × (Nat) × (Nat) × (Nat) × (Nat) × (Nat) × (Nat) × (Nat) × (Nat) × (Int32) × (Int32) × (Nat → Int32) × (Nat → Int32) × (Nat → Int32) × (Nat → Int32) × (Nat → Int32) × (Nat → Int32) × (Nat → Int32) × (Nat → Int32)) => match u with | (true, na0x0, na0x1, na0x2, na0x3, na0x4, na0x5, na0x6, na0x7, na0x8, oo0x1, oo0x2, oo0x3, oo0x4, oo0x5, oo0x6, oo0x7, oo0x8, oo0x9, oo0x10) => [((Pa 0), .inr (5, [.ref (Pa 1), .int oo0x1, .int oo0x2])), ((Pa 1), .inl (tc 5, 20, .inr (.inr (.inr (.inr (va_up (Pq 1) ((Pv 0) : Int32).toNatClampNeg (some na0x0))))))), ((Aa 0), .inr (9, [.int (Av 0), .int (Av 1), .int (Av 2), .int (Av 3), .int (Av 4), .int (Av 5), .ref (Aa 1), .ref (Aa 2), .ref (Aa 3), .ref (Aa 4), .ref (Aa 5), .ref (Aa 6), .ref (Aa 7), .ref (Aa 8)])), ((Aa 1), .inl (tc 0, 10, .inl (Af 1))), ((Aa 2), .inl (tc 0, 10, .inl (Af 2))), ((Aa 3), .inl (tc 0, 6, .inl (Af 3))), ((Aa 4), .inl (tc 0, 6, .inl (Af 4))), ((Aa 5), .inl (tc 0, 6, .inl (Af 5))), ((Aa 6), .inl (tc 0, 6, .inl (Af 6))), ((Aa 7), .inl (tc 0, 6, .inl (Af 7))), ((Aa 8), .inl (tc 0, 6, .inl (Af 8))), (na0x0, .inr (9, [.int (Av 0), .int (Av 1), .int (Av 2), .int (Av 3), .int (Av 4), .int (Av 5), .ref na0x1, .ref na0x2, .ref na0x3, .ref na0x4, .ref na0x5, .ref na0x6, .ref na0x7, .ref na0x8])), (na0x1, .inl (tc 0, 10, .inl oo0x3)), (na0x2, .inl (tc 0, 10, .inl oo0x4)), (na0x3, .inl (tc 0, 6, .inl oo0x5)), (na0x4, .inl (tc 0, 6, .inl oo0x6)), (na0x5, .inl (tc 0, 6, .inl oo0x7)), (na0x6, .inl (tc 0, 6, .inl oo0x8)), (na0x7, .inl (tc 0, 6, .inl oo0x9)), (na0x8, .inl (tc 0, 6, .inl oo0x10))] | (false, na0x0, na0x1, na0x2, na0x3, na0x4, na0x5, na0x6, na0x7, na0x8, oo0x1, oo0x2, oo0x3, oo0x4, oo0x5, oo0x6, oo0x7, oo0x8, oo0x9, oo0x10) => [((Pa 0), .inr (5, [.ref (Pa 1), .int (Pv 0), .int (Pv 1)])), ((Pa 1), .inl (tc 5, 20, .inr (.inr (.inr (.inr (Pq 1)))))), ((Aa 0), .inr (9, [.int (Av 0), .int (Av 1), .int (Av 2), .int (Av 3), .int (Av 4), .int (Av 5), .ref (Aa 1), .ref (Aa 2), .ref (Aa 3), .ref (Aa 4), .ref (Aa 5), .ref (Aa 6), .ref (Aa 7), .ref (Aa 8)])), ((Aa 1), .inl (tc 0, 10, .inl (Af 1))), ((Aa 2), .inl (tc 0, 10, .inl (Af 2))), ((Aa 3), .inl (tc 0, 6, .inl (Af 3))), ((Aa 4), .inl (tc 0, 6, .inl (Af 4))), ((Aa 5), .inl (tc 0, 6, .inl (Af 5))), ((Aa 6), .inl (tc 0, 6, .inl (Af 6))), ((Aa 7), .inl (tc 0, 6, .inl (Af 7))), ((Aa 8), .inl (tc 0, 6, .inl (Af 8)))]) 9 70 := by
  refine Ct.start (by decide) (Nat.le_of_ble_eq_true rfl) (fun p e s m below meth c A ls hx hb hr hlk hin hml hown hts hK hX hP hD hA hl hS => ?_)
  have hl : lv_has ls 3 [(0, .ref (Pa 0)), (1, .ref (Aa 0))] := hl
  refine lv_aload_n hx hb dX5_keep_0 rfl (lv_at hl 0 rfl) ?_
  refine gf_X5_17 hx hb hts hown hK hP 0 rfl rfl dX5_keep_1 ?_
  refine lv_if_lt (tgt := 16) hx hb dX5_keep_4 (by decide) (fun c_1 => ?_) (fun c_1 => ?_)
  · skip
    exact retV hx hb hr hlk hP hD hS (false, 0, 0, 0, 0, 0, 0, 0, 0, 0, 0, 0, (fun _ => 0), (fun _ => 0), (fun _ => 0), (fun _ => 0), (fun _ => 0), (fun _ => 0), (fun _ => 0), (fun _ => 0)) ⟨rfl, h_nx⟩ [0, 1, 2, 3, 4, 5, 6, 7, 8, 9, 10] rfl rfl dX5_keep_16 (Nat.le_of_ble_eq_true rfl) (Nat.le_of_ble_eq_true rfl) rfl
  · skip
    refine lv_aload_n hx hb dX5_keep_7 rfl (lv_at hl 0 rfl) ?_
    refine gf_X5_17 hx hb hts hown hK hP 0 rfl rfl dX5_keep_8 ?_
    refine lv_bipush (v := 20) hx hb dX5_keep_11 (by decide) ?_
    refine lv_icmp_lt (tgt := 17) hx hb dX5_keep_13 (by decide) (fun c_2 => ?_) (fun c_2 => ?_)
    · skip
      refine lv_aload_n hx hb dX5_keep_17 rfl (lv_at hl 0 rfl) ?_
      refine gf_X5_13 hx hb hts hown hK hP 0 rfl rfl dX5_keep_18 ?_
      refine lv_aload_n hx hb dX5_keep_21 rfl (lv_at hl 0 rfl) ?_
      refine gf_X5_17 hx hb hts hown hK hP 0 rfl rfl dX5_keep_22 ?_
      have hi_3 : vp_in (Pv 0) 20 := by
        have z_1 := Int32.le_iff_toInt_le.mp (Int32.not_lt.mp c_1)
        have z_2 := Int32.lt_iff_toInt_lt.mp c_2
        have y_0 : (0 : Int32).toInt = 0 := by decide
        have y_20 : (20 : Int32).toInt = 20 := by decide
        refine vp_in_iff.mpr ⟨?_, ?_⟩ <;> omega
      refine va_aldq hx hb hK hP 1 5 rfl rfl hi_3 dX5_keep_25 ?_
      refine lv_val (v := .null) (by rw [h_q]; rfl) ?_
      refine lv_astore_nN (lv' := [(2, .null), (0, .ref (Pa 0)), (1, .ref (Aa 0))]) hx hb dX5_keep_26 rfl hl (by decide) rfl (fun ls hl₀ => ?_)
      replace hl := hl₀
      clear hl₀
      refine lv_aload_nN hx hb dX5_keep_27 rfl (lv_at hl 0 rfl) ?_
      refine lv_ifnonnullN hx hb dX5_keep_28 ?_
      refine va_new (ci := 9) (fs := [.int 0, .int 0, .int 0, .int 0, .int 0, .int 0, .null, .null, .null, .null, .null, .null, .null, .null]) (C := RX9) (T := TX9) (N := 14) hx hb hts iX9 tyX9 tyX9_ok hown (hts _ k_331) (hts _ k_164) (hts _ k_98) hK hP hD hS hA rfl dfX9 (Nat.le_of_ble_eq_true rfl) (Nat.le_of_ble_eq_true rfl) dX5_keep_31 (fun q_4 H hP₀ hD₀ hS₀ => ?_)
      replace hP : va_P D classes [((Pa 0), .inr (5, [.ref (Pa 1), .int (Pv 0), .int (Pv 1)])), ((Pa 1), .inl (tc 5, 20, .inr (.inr (.inr (.inr (Pq 1)))))), ((Aa 0), .inr (9, [.int (Av 0), .int (Av 1), .int (Av 2), .int (Av 3), .int (Av 4), .int (Av 5), .ref (Aa 1), .ref (Aa 2), .ref (Aa 3), .ref (Aa 4), .ref (Aa 5), .ref (Aa 6), .ref (Aa 7), .ref (Aa 8)])), ((Aa 1), .inl (tc 0, 10, .inl (Af 1))), ((Aa 2), .inl (tc 0, 10, .inl (Af 2))), ((Aa 3), .inl (tc 0, 6, .inl (Af 3))), ((Aa 4), .inl (tc 0, 6, .inl (Af 4))), ((Aa 5), .inl (tc 0, 6, .inl (Af 5))), ((Aa 6), .inl (tc 0, 6, .inl (Af 6))), ((Aa 7), .inl (tc 0, 6, .inl (Af 7))), ((Aa 8), .inl (tc 0, 6, .inl (Af 8))), (q_4, .inr (9, [.int 0, .int 0, .int 0, .int 0, .int 0, .int 0, .null, .null, .null, .null, .null, .null, .null, .null]))] H := hP₀
      replace hD : va_D A [((Pa 0), .inr (5, [.ref (Pa 1), .int (Pv 0), .int (Pv 1)])), ((Pa 1), .inl (tc 5, 20, .inr (.inr (.inr (.inr (Pq 1)))))), ((Aa 0), .inr (9, [.int (Av 0), .int (Av 1), .int (Av 2), .int (Av 3), .int (Av 4), .int (Av 5), .ref (Aa 1), .ref (Aa 2), .ref (Aa 3), .ref (Aa 4), .ref (Aa 5), .ref (Aa 6), .ref (Aa 7), .ref (Aa 8)])), ((Aa 1), .inl (tc 0, 10, .inl (Af 1))), ((Aa 2), .inl (tc 0, 10, .inl (Af 2))), ((Aa 3), .inl (tc 0, 6, .inl (Af 3))), ((Aa 4), .inl (tc 0, 6, .inl (Af 4))), ((Aa 5), .inl (tc 0, 6, .inl (Af 5))), ((Aa 6), .inl (tc 0, 6, .inl (Af 6))), ((Aa 7), .inl (tc 0, 6, .inl (Af 7))), ((Aa 8), .inl (tc 0, 6, .inl (Af 8))), (q_4, .inr (9, [.int 0, .int 0, .int 0, .int 0, .int 0, .int 0, .null, .null, .null, .null, .null, .null, .null, .null]))] := hD₀
      replace hS := hS₀
      clear hP₀ hD₀ hS₀
      refine lv_dup hx hb dX5_keep_34 rfl ?_
      refine cN (a := q_4) (As := []) (rest := [.ref q_4]) (wr := [((Pa 0), .inr (5, [.ref (Pa 1), .int (Pv 0), .int (Pv 1)])), ((Pa 1), .inl (tc 5, 20, .inr (.inr (.inr (.inr (Pq 1)))))), ((Aa 0), .inr (9, [.int (Av 0), .int (Av 1), .int (Av 2), .int (Av 3), .int (Av 4), .int (Av 5), .ref (Aa 1), .ref (Aa 2), .ref (Aa 3), .ref (Aa 4), .ref (Aa 5), .ref (Aa 6), .ref (Aa 7), .ref (Aa 8)])), ((Aa 1), .inl (tc 0, 10, .inl (Af 1))), ((Aa 2), .inl (tc 0, 10, .inl (Af 2))), ((Aa 3), .inl (tc 0, 6, .inl (Af 3))), ((Aa 4), .inl (tc 0, 6, .inl (Af 4))), ((Aa 5), .inl (tc 0, 6, .inl (Af 5))), ((Aa 6), .inl (tc 0, 6, .inl (Af 6))), ((Aa 7), .inl (tc 0, 6, .inl (Af 7))), ((Aa 8), .inl (tc 0, 6, .inl (Af 8)))]) ⟨hx, hb, hml, hown, hts⟩ hK hX hA (ct_X9_init l D tc sk q_4) k_167 (by decide) k_166 k_98 rfl pl_X9_init ⟨Nat.le_of_ble_eq_true rfl, Nat.le_of_ble_eq_true rfl⟩ rfl rfl  hP hD hS [11] [0, 1, 2, 3, 4, 5, 6, 7, 8, 9, 10] rfl rfl rfl rfl rfl (by decide) rfl hl.1 rfl (Nat.le_of_ble_eq_true rfl) dX5_keep_35 ⟨Nat.le_of_ble_eq_true rfl, Nat.le_of_ble_eq_true rfl⟩ (fun v_5 u_6 H locs hv_7 hP₀ hD₀ hS₀ => ?_)
      obtain ⟨sv_8, sv_9, sv_10, sv_11, sv_12, sv_13, sv_14, sv_15⟩ := u_6
      obtain rfl : v_5 = none := hv_7
      refine W.eq (g2 := F0 m 38 ls [.ref q_4]) rfl ?_
      replace hP : va_P D classes [((Pa 0), .inr (5, [.ref (Pa 1), .int (Pv 0), .int (Pv 1)])), ((Pa 1), .inl (tc 5, 20, .inr (.inr (.inr (.inr (Pq 1)))))), ((Aa 0), .inr (9, [.int (Av 0), .int (Av 1), .int (Av 2), .int (Av 3), .int (Av 4), .int (Av 5), .ref (Aa 1), .ref (Aa 2), .ref (Aa 3), .ref (Aa 4), .ref (Aa 5), .ref (Aa 6), .ref (Aa 7), .ref (Aa 8)])), ((Aa 1), .inl (tc 0, 10, .inl (Af 1))), ((Aa 2), .inl (tc 0, 10, .inl (Af 2))), ((Aa 3), .inl (tc 0, 6, .inl (Af 3))), ((Aa 4), .inl (tc 0, 6, .inl (Af 4))), ((Aa 5), .inl (tc 0, 6, .inl (Af 5))), ((Aa 6), .inl (tc 0, 6, .inl (Af 6))), ((Aa 7), .inl (tc 0, 6, .inl (Af 7))), ((Aa 8), .inl (tc 0, 6, .inl (Af 8))), (q_4, .inr (9, [.int 0, .int 0, .int 0, .int 0, .int 0, .int 0, .ref sv_8, .ref sv_9, .ref sv_10, .ref sv_11, .ref sv_12, .ref sv_13, .ref sv_14, .ref sv_15])), (sv_8, .inl (tc 0, 10, .inl (fun _ => 0))), (sv_9, .inl (tc 0, 10, .inl (fun _ => 0))), (sv_10, .inl (tc 0, 6, .inl (fun _ => 0))), (sv_11, .inl (tc 0, 6, .inl (fun _ => 0))), (sv_12, .inl (tc 0, 6, .inl (fun _ => 0))), (sv_13, .inl (tc 0, 6, .inl (fun _ => 0))), (sv_14, .inl (tc 0, 6, .inl (fun _ => 0))), (sv_15, .inl (tc 0, 6, .inl (fun _ => 0)))] H := hP₀
      replace hD : va_D A [((Pa 0), .inr (5, [.ref (Pa 1), .int (Pv 0), .int (Pv 1)])), ((Pa 1), .inl (tc 5, 20, .inr (.inr (.inr (.inr (Pq 1)))))), ((Aa 0), .inr (9, [.int (Av 0), .int (Av 1), .int (Av 2), .int (Av 3), .int (Av 4), .int (Av 5), .ref (Aa 1), .ref (Aa 2), .ref (Aa 3), .ref (Aa 4), .ref (Aa 5), .ref (Aa 6), .ref (Aa 7), .ref (Aa 8)])), ((Aa 1), .inl (tc 0, 10, .inl (Af 1))), ((Aa 2), .inl (tc 0, 10, .inl (Af 2))), ((Aa 3), .inl (tc 0, 6, .inl (Af 3))), ((Aa 4), .inl (tc 0, 6, .inl (Af 4))), ((Aa 5), .inl (tc 0, 6, .inl (Af 5))), ((Aa 6), .inl (tc 0, 6, .inl (Af 6))), ((Aa 7), .inl (tc 0, 6, .inl (Af 7))), ((Aa 8), .inl (tc 0, 6, .inl (Af 8))), (q_4, .inr (9, [.int 0, .int 0, .int 0, .int 0, .int 0, .int 0, .ref sv_8, .ref sv_9, .ref sv_10, .ref sv_11, .ref sv_12, .ref sv_13, .ref sv_14, .ref sv_15])), (sv_8, .inl (tc 0, 10, .inl (fun _ => 0))), (sv_9, .inl (tc 0, 10, .inl (fun _ => 0))), (sv_10, .inl (tc 0, 6, .inl (fun _ => 0))), (sv_11, .inl (tc 0, 6, .inl (fun _ => 0))), (sv_12, .inl (tc 0, 6, .inl (fun _ => 0))), (sv_13, .inl (tc 0, 6, .inl (fun _ => 0))), (sv_14, .inl (tc 0, 6, .inl (fun _ => 0))), (sv_15, .inl (tc 0, 6, .inl (fun _ => 0)))] := hD₀
      replace hS := hS₀
      clear hP₀ hD₀ hS₀
      refine lv_astore_n (lv' := [(2, .ref q_4), (0, .ref (Pa 0)), (1, .ref (Aa 0))]) hx hb dX5_keep_38 rfl hl (by decide) rfl (fun ls hl₀ => ?_)
      replace hl := hl₀
      clear hl₀
      refine lv_aload_n hx hb dX5_keep_39 rfl (lv_at hl 1 rfl) ?_
      refine gf_X5_13 hx hb hts hown hK hP 0 rfl rfl dX5_keep_40 ?_
      refine lv_aload_n hx hb dX5_keep_43 rfl (lv_at hl 1 rfl) ?_
      refine gf_X5_17 hx hb hts hown hK hP 0 rfl rfl dX5_keep_44 ?_
      refine lv_aload_n hx hb dX5_keep_47 rfl (lv_at hl 0 rfl) ?_
      have hi_16 : vp_in (Pv 0) 20 := by
        have z_1 := Int32.le_iff_toInt_le.mp (Int32.not_lt.mp c_1)
        have z_2 := Int32.lt_iff_toInt_lt.mp c_2
        have y_0 : (0 : Int32).toInt = 0 := by decide
        have y_20 : (20 : Int32).toInt = 20 := by decide
        refine vp_in_iff.mpr ⟨?_, ?_⟩ <;> omega
      refine st_ref hx hb hK hP hD hS 1 5 11 9 (r := (RX9, TX9, 14)) rfl rfl rfl rfl hi_16 dX5_keep_48 (fun g_17 H locs eg_17 hP₀ hD₀ hS₀ => ?_)
      replace hP : va_P D classes [((Pa 0), .inr (5, [.ref (Pa 1), .int (Pv 0), .int (Pv 1)])), ((Pa 1), .inl (tc 5, 20, .inr (.inr (.inr (.inr g_17))))), ((Aa 0), .inr (9, [.int (Av 0), .int (Av 1), .int (Av 2), .int (Av 3), .int (Av 4), .int (Av 5), .ref (Aa 1), .ref (Aa 2), .ref (Aa 3), .ref (Aa 4), .ref (Aa 5), .ref (Aa 6), .ref (Aa 7), .ref (Aa 8)])), ((Aa 1), .inl (tc 0, 10, .inl (Af 1))), ((Aa 2), .inl (tc 0, 10, .inl (Af 2))), ((Aa 3), .inl (tc 0, 6, .inl (Af 3))), ((Aa 4), .inl (tc 0, 6, .inl (Af 4))), ((Aa 5), .inl (tc 0, 6, .inl (Af 5))), ((Aa 6), .inl (tc 0, 6, .inl (Af 6))), ((Aa 7), .inl (tc 0, 6, .inl (Af 7))), ((Aa 8), .inl (tc 0, 6, .inl (Af 8))), (q_4, .inr (9, [.int 0, .int 0, .int 0, .int 0, .int 0, .int 0, .ref sv_8, .ref sv_9, .ref sv_10, .ref sv_11, .ref sv_12, .ref sv_13, .ref sv_14, .ref sv_15])), (sv_8, .inl (tc 0, 10, .inl (fun _ => 0))), (sv_9, .inl (tc 0, 10, .inl (fun _ => 0))), (sv_10, .inl (tc 0, 6, .inl (fun _ => 0))), (sv_11, .inl (tc 0, 6, .inl (fun _ => 0))), (sv_12, .inl (tc 0, 6, .inl (fun _ => 0))), (sv_13, .inl (tc 0, 6, .inl (fun _ => 0))), (sv_14, .inl (tc 0, 6, .inl (fun _ => 0))), (sv_15, .inl (tc 0, 6, .inl (fun _ => 0)))] H := hP₀
      replace hD : va_D A [((Pa 0), .inr (5, [.ref (Pa 1), .int (Pv 0), .int (Pv 1)])), ((Pa 1), .inl (tc 5, 20, .inr (.inr (.inr (.inr g_17))))), ((Aa 0), .inr (9, [.int (Av 0), .int (Av 1), .int (Av 2), .int (Av 3), .int (Av 4), .int (Av 5), .ref (Aa 1), .ref (Aa 2), .ref (Aa 3), .ref (Aa 4), .ref (Aa 5), .ref (Aa 6), .ref (Aa 7), .ref (Aa 8)])), ((Aa 1), .inl (tc 0, 10, .inl (Af 1))), ((Aa 2), .inl (tc 0, 10, .inl (Af 2))), ((Aa 3), .inl (tc 0, 6, .inl (Af 3))), ((Aa 4), .inl (tc 0, 6, .inl (Af 4))), ((Aa 5), .inl (tc 0, 6, .inl (Af 5))), ((Aa 6), .inl (tc 0, 6, .inl (Af 6))), ((Aa 7), .inl (tc 0, 6, .inl (Af 7))), ((Aa 8), .inl (tc 0, 6, .inl (Af 8))), (q_4, .inr (9, [.int 0, .int 0, .int 0, .int 0, .int 0, .int 0, .ref sv_8, .ref sv_9, .ref sv_10, .ref sv_11, .ref sv_12, .ref sv_13, .ref sv_14, .ref sv_15])), (sv_8, .inl (tc 0, 10, .inl (fun _ => 0))), (sv_9, .inl (tc 0, 10, .inl (fun _ => 0))), (sv_10, .inl (tc 0, 6, .inl (fun _ => 0))), (sv_11, .inl (tc 0, 6, .inl (fun _ => 0))), (sv_12, .inl (tc 0, 6, .inl (fun _ => 0))), (sv_13, .inl (tc 0, 6, .inl (fun _ => 0))), (sv_14, .inl (tc 0, 6, .inl (fun _ => 0))), (sv_15, .inl (tc 0, 6, .inl (fun _ => 0)))] := hD₀
      replace hS := hS₀
      clear hP₀ hD₀ hS₀
      subst eg_17
      replace hP : va_P D classes [((Pa 0), .inr (5, [.ref (Pa 1), .int (Pv 0), .int (Pv 1)])), ((Pa 1), .inl (tc 5, 20, .inr (.inr (.inr (.inr (va_up (Pq 1) ((Pv 0) : Int32).toNatClampNeg (some q_4))))))), ((Aa 0), .inr (9, [.int (Av 0), .int (Av 1), .int (Av 2), .int (Av 3), .int (Av 4), .int (Av 5), .ref (Aa 1), .ref (Aa 2), .ref (Aa 3), .ref (Aa 4), .ref (Aa 5), .ref (Aa 6), .ref (Aa 7), .ref (Aa 8)])), ((Aa 1), .inl (tc 0, 10, .inl (Af 1))), ((Aa 2), .inl (tc 0, 10, .inl (Af 2))), ((Aa 3), .inl (tc 0, 6, .inl (Af 3))), ((Aa 4), .inl (tc 0, 6, .inl (Af 4))), ((Aa 5), .inl (tc 0, 6, .inl (Af 5))), ((Aa 6), .inl (tc 0, 6, .inl (Af 6))), ((Aa 7), .inl (tc 0, 6, .inl (Af 7))), ((Aa 8), .inl (tc 0, 6, .inl (Af 8))), (q_4, .inr (9, [.int 0, .int 0, .int 0, .int 0, .int 0, .int 0, .ref sv_8, .ref sv_9, .ref sv_10, .ref sv_11, .ref sv_12, .ref sv_13, .ref sv_14, .ref sv_15])), (sv_8, .inl (tc 0, 10, .inl (fun _ => 0))), (sv_9, .inl (tc 0, 10, .inl (fun _ => 0))), (sv_10, .inl (tc 0, 6, .inl (fun _ => 0))), (sv_11, .inl (tc 0, 6, .inl (fun _ => 0))), (sv_12, .inl (tc 0, 6, .inl (fun _ => 0))), (sv_13, .inl (tc 0, 6, .inl (fun _ => 0))), (sv_14, .inl (tc 0, 6, .inl (fun _ => 0))), (sv_15, .inl (tc 0, 6, .inl (fun _ => 0)))] H := hP
      replace hD : va_D A [((Pa 0), .inr (5, [.ref (Pa 1), .int (Pv 0), .int (Pv 1)])), ((Pa 1), .inl (tc 5, 20, .inr (.inr (.inr (.inr (va_up (Pq 1) ((Pv 0) : Int32).toNatClampNeg (some q_4))))))), ((Aa 0), .inr (9, [.int (Av 0), .int (Av 1), .int (Av 2), .int (Av 3), .int (Av 4), .int (Av 5), .ref (Aa 1), .ref (Aa 2), .ref (Aa 3), .ref (Aa 4), .ref (Aa 5), .ref (Aa 6), .ref (Aa 7), .ref (Aa 8)])), ((Aa 1), .inl (tc 0, 10, .inl (Af 1))), ((Aa 2), .inl (tc 0, 10, .inl (Af 2))), ((Aa 3), .inl (tc 0, 6, .inl (Af 3))), ((Aa 4), .inl (tc 0, 6, .inl (Af 4))), ((Aa 5), .inl (tc 0, 6, .inl (Af 5))), ((Aa 6), .inl (tc 0, 6, .inl (Af 6))), ((Aa 7), .inl (tc 0, 6, .inl (Af 7))), ((Aa 8), .inl (tc 0, 6, .inl (Af 8))), (q_4, .inr (9, [.int 0, .int 0, .int 0, .int 0, .int 0, .int 0, .ref sv_8, .ref sv_9, .ref sv_10, .ref sv_11, .ref sv_12, .ref sv_13, .ref sv_14, .ref sv_15])), (sv_8, .inl (tc 0, 10, .inl (fun _ => 0))), (sv_9, .inl (tc 0, 10, .inl (fun _ => 0))), (sv_10, .inl (tc 0, 6, .inl (fun _ => 0))), (sv_11, .inl (tc 0, 6, .inl (fun _ => 0))), (sv_12, .inl (tc 0, 6, .inl (fun _ => 0))), (sv_13, .inl (tc 0, 6, .inl (fun _ => 0))), (sv_14, .inl (tc 0, 6, .inl (fun _ => 0))), (sv_15, .inl (tc 0, 6, .inl (fun _ => 0)))] := hD
      refine lv_aload_n hx hb dX5_keep_49 rfl (lv_at hl 0 rfl) ?_
      refine lv_aload_n hx hb dX5_keep_50 rfl (lv_at hl 2 rfl) ?_
      refine cV (a := q_4) (As := [.ref (Aa 0)]) (rest := []) (wr := [((Pa 0), .inr (5, [.ref (Pa 1), .int (Pv 0), .int (Pv 1)])), ((Pa 1), .inl (tc 5, 20, .inr (.inr (.inr (.inr (va_up (Pq 1) ((Pv 0) : Int32).toNatClampNeg (some q_4)))))))]) ⟨hx, hb, hml, hown, hts⟩ hK hX hA (cu_hX9_copyFrom l D tc sk q_4 sv_8 sv_9 sv_10 sv_11 sv_12 sv_13 sv_14 sv_15 0 0 0 0 0 0 (fun _ => 0) (fun _ => 0) (fun _ => 0) (fun _ => 0) (fun _ => 0) (fun _ => 0) (fun _ => 0) (fun _ => 0) (Aa 0) (Aa 1) (Aa 2) (Aa 3) (Aa 4) (Aa 5) (Aa 6) (Aa 7) (Aa 8) (Av 0) (Av 1) (Av 2) (Av 3) (Av 4) (Av 5) (Af 1) (Af 2) (Af 3) (Af 4) (Af 5) (Af 6) (Af 7) (Af 8)) k_599 k_730 k_597 k_598 k_98 pl_X9_copyFrom ⟨Nat.le_of_ble_eq_true rfl, Nat.le_of_ble_eq_true rfl⟩ rfl rfl (va_recv hK hP (ci := 9) (q0 := 11) rfl rfl) hP hD hS [11, 12, 13, 14, 15, 16, 17, 18, 19, 2, 3, 4, 5, 6, 7, 8, 9, 10] [0, 1] rfl rfl rfl rfl rfl (by decide) rfl hl.1 rfl (Nat.le_of_ble_eq_true rfl) dX5_keep_51 ⟨Nat.le_of_ble_eq_true rfl, Nat.le_of_ble_eq_true rfl⟩ (fun v_18 u_19 H locs hv_20 hP₀ hD₀ hS₀ => ?_)
      obtain ⟨sv_21, sv_22, sv_23, sv_24, sv_25, sv_26, sv_27, sv_28⟩ := u_19
      obtain ⟨rfl, pf_29⟩ := hv_20
      have pf_29 : Cpy8 sv_21 sv_22 sv_23 sv_24 sv_25 sv_26 sv_27 sv_28 (Af 1) (Af 2) (Af 3) (Af 4) (Af 5) (Af 6) (Af 7) (Af 8) := pf_29
      refine W.eq (g2 := F0 m 54 ls []) rfl ?_
      replace hP : va_P D classes [((Pa 0), .inr (5, [.ref (Pa 1), .int (Pv 0), .int (Pv 1)])), ((Pa 1), .inl (tc 5, 20, .inr (.inr (.inr (.inr (va_up (Pq 1) ((Pv 0) : Int32).toNatClampNeg (some q_4))))))), (q_4, .inr (9, [.int (Av 0), .int (Av 1), .int (Av 2), .int (Av 3), .int (Av 4), .int (Av 5), .ref sv_8, .ref sv_9, .ref sv_10, .ref sv_11, .ref sv_12, .ref sv_13, .ref sv_14, .ref sv_15])), (sv_8, .inl (tc 0, 10, .inl sv_21)), (sv_9, .inl (tc 0, 10, .inl sv_22)), (sv_10, .inl (tc 0, 6, .inl sv_23)), (sv_11, .inl (tc 0, 6, .inl sv_24)), (sv_12, .inl (tc 0, 6, .inl sv_25)), (sv_13, .inl (tc 0, 6, .inl sv_26)), (sv_14, .inl (tc 0, 6, .inl sv_27)), (sv_15, .inl (tc 0, 6, .inl sv_28)), ((Aa 0), .inr (9, [.int (Av 0), .int (Av 1), .int (Av 2), .int (Av 3), .int (Av 4), .int (Av 5), .ref (Aa 1), .ref (Aa 2), .ref (Aa 3), .ref (Aa 4), .ref (Aa 5), .ref (Aa 6), .ref (Aa 7), .ref (Aa 8)])), ((Aa 1), .inl (tc 0, 10, .inl (Af 1))), ((Aa 2), .inl (tc 0, 10, .inl (Af 2))), ((Aa 3), .inl (tc 0, 6, .inl (Af 3))), ((Aa 4), .inl (tc 0, 6, .inl (Af 4))), ((Aa 5), .inl (tc 0, 6, .inl (Af 5))), ((Aa 6), .inl (tc 0, 6, .inl (Af 6))), ((Aa 7), .inl (tc 0, 6, .inl (Af 7))), ((Aa 8), .inl (tc 0, 6, .inl (Af 8)))] H := hP₀
      replace hD : va_D A [((Pa 0), .inr (5, [.ref (Pa 1), .int (Pv 0), .int (Pv 1)])), ((Pa 1), .inl (tc 5, 20, .inr (.inr (.inr (.inr (va_up (Pq 1) ((Pv 0) : Int32).toNatClampNeg (some q_4))))))), (q_4, .inr (9, [.int (Av 0), .int (Av 1), .int (Av 2), .int (Av 3), .int (Av 4), .int (Av 5), .ref sv_8, .ref sv_9, .ref sv_10, .ref sv_11, .ref sv_12, .ref sv_13, .ref sv_14, .ref sv_15])), (sv_8, .inl (tc 0, 10, .inl sv_21)), (sv_9, .inl (tc 0, 10, .inl sv_22)), (sv_10, .inl (tc 0, 6, .inl sv_23)), (sv_11, .inl (tc 0, 6, .inl sv_24)), (sv_12, .inl (tc 0, 6, .inl sv_25)), (sv_13, .inl (tc 0, 6, .inl sv_26)), (sv_14, .inl (tc 0, 6, .inl sv_27)), (sv_15, .inl (tc 0, 6, .inl sv_28)), ((Aa 0), .inr (9, [.int (Av 0), .int (Av 1), .int (Av 2), .int (Av 3), .int (Av 4), .int (Av 5), .ref (Aa 1), .ref (Aa 2), .ref (Aa 3), .ref (Aa 4), .ref (Aa 5), .ref (Aa 6), .ref (Aa 7), .ref (Aa 8)])), ((Aa 1), .inl (tc 0, 10, .inl (Af 1))), ((Aa 2), .inl (tc 0, 10, .inl (Af 2))), ((Aa 3), .inl (tc 0, 6, .inl (Af 3))), ((Aa 4), .inl (tc 0, 6, .inl (Af 4))), ((Aa 5), .inl (tc 0, 6, .inl (Af 5))), ((Aa 6), .inl (tc 0, 6, .inl (Af 6))), ((Aa 7), .inl (tc 0, 6, .inl (Af 7))), ((Aa 8), .inl (tc 0, 6, .inl (Af 8)))] := hD₀
      replace hS := hS₀
      clear hP₀ hD₀ hS₀
      refine lv_aload_n hx hb dX5_keep_54 rfl (lv_at hl 1 rfl) ?_
      refine lv_aload_n hx hb dX5_keep_55 rfl (lv_at hl 1 rfl) ?_
      refine gf_X5_17 hx hb hts hown hK hP 0 rfl rfl dX5_keep_56 ?_
      refine lv_iconst (v := 1) hx hb dX5_keep_59 (by decide) ?_
      refine lv_iadd hx hb dX5_keep_60 ?_
      refine lv_topi (fun x_30 ex_30 => ?_)
      refine lv_bipush (v := 20) hx hb dX5_keep_61 (by decide) ?_
      refine lv_irem hx hb dX5_keep_63 (by decide) ?_
      refine lv_topi (fun x_31 ex_31 => ?_)
      have tr_x_31 : (x_31 : Int32).toInt = (x_30 : Int32).toInt % 20 := by
        have z_1 := Int32.le_iff_toInt_le.mp (Int32.not_lt.mp c_1)
        have z_2 := Int32.lt_iff_toInt_lt.mp c_2
        have y_0 : (0 : Int32).toInt = 0 := by decide
        have y_20 : (20 : Int32).toInt = 20 := by decide
        have y_1 : (1 : Int32).toInt = 1 := by decide
        have t_x_30 : x_30.toInt = ((Pv 0) : Int32).toInt + (1 : Int32).toInt := by rw [ex_30]; exact add_toInt (by omega) (by omega)
        have tz := rem_emod (x := x_30) (y := 20) (by omega)
        rw [← ex_31, show (20 : Int32).toInt = 20 by decide] at tz
        omega
      have ta_x_31 : (x_30 : Int32).toInt = (Pv 0).toInt + 1 := by
        have z_1 := Int32.le_iff_toInt_le.mp (Int32.not_lt.mp c_1)
        have z_2 := Int32.lt_iff_toInt_lt.mp c_2
        have y_0 : (0 : Int32).toInt = 0 := by decide
        have y_20 : (20 : Int32).toInt = 20 := by decide
        have y_1 : (1 : Int32).toInt = 1 := by decide
        have t_x_30 : x_30.toInt = ((Pv 0) : Int32).toInt + (1 : Int32).toInt := by rw [ex_30]; exact add_toInt (by omega) (by omega)
        omega
      refine pf_X5_17 hx hb hts hown hK hP hD hS 0 rfl (Nat.le_of_ble_eq_true rfl) rfl rfl dX5_keep_64 (fun H locs hP₀ hD₀ hS₀ => ?_)
      replace hP : va_P D classes [((Pa 0), .inr (5, [.ref (Pa 1), .int x_31, .int (Pv 1)])), ((Pa 1), .inl (tc 5, 20, .inr (.inr (.inr (.inr (va_up (Pq 1) ((Pv 0) : Int32).toNatClampNeg (some q_4))))))), (q_4, .inr (9, [.int (Av 0), .int (Av 1), .int (Av 2), .int (Av 3), .int (Av 4), .int (Av 5), .ref sv_8, .ref sv_9, .ref sv_10, .ref sv_11, .ref sv_12, .ref sv_13, .ref sv_14, .ref sv_15])), (sv_8, .inl (tc 0, 10, .inl sv_21)), (sv_9, .inl (tc 0, 10, .inl sv_22)), (sv_10, .inl (tc 0, 6, .inl sv_23)), (sv_11, .inl (tc 0, 6, .inl sv_24)), (sv_12, .inl (tc 0, 6, .inl sv_25)), (sv_13, .inl (tc 0, 6, .inl sv_26)), (sv_14, .inl (tc 0, 6, .inl sv_27)), (sv_15, .inl (tc 0, 6, .inl sv_28)), ((Aa 0), .inr (9, [.int (Av 0), .int (Av 1), .int (Av 2), .int (Av 3), .int (Av 4), .int (Av 5), .ref (Aa 1), .ref (Aa 2), .ref (Aa 3), .ref (Aa 4), .ref (Aa 5), .ref (Aa 6), .ref (Aa 7), .ref (Aa 8)])), ((Aa 1), .inl (tc 0, 10, .inl (Af 1))), ((Aa 2), .inl (tc 0, 10, .inl (Af 2))), ((Aa 3), .inl (tc 0, 6, .inl (Af 3))), ((Aa 4), .inl (tc 0, 6, .inl (Af 4))), ((Aa 5), .inl (tc 0, 6, .inl (Af 5))), ((Aa 6), .inl (tc 0, 6, .inl (Af 6))), ((Aa 7), .inl (tc 0, 6, .inl (Af 7))), ((Aa 8), .inl (tc 0, 6, .inl (Af 8)))] H := hP₀
      replace hD : va_D A [((Pa 0), .inr (5, [.ref (Pa 1), .int x_31, .int (Pv 1)])), ((Pa 1), .inl (tc 5, 20, .inr (.inr (.inr (.inr (va_up (Pq 1) ((Pv 0) : Int32).toNatClampNeg (some q_4))))))), (q_4, .inr (9, [.int (Av 0), .int (Av 1), .int (Av 2), .int (Av 3), .int (Av 4), .int (Av 5), .ref sv_8, .ref sv_9, .ref sv_10, .ref sv_11, .ref sv_12, .ref sv_13, .ref sv_14, .ref sv_15])), (sv_8, .inl (tc 0, 10, .inl sv_21)), (sv_9, .inl (tc 0, 10, .inl sv_22)), (sv_10, .inl (tc 0, 6, .inl sv_23)), (sv_11, .inl (tc 0, 6, .inl sv_24)), (sv_12, .inl (tc 0, 6, .inl sv_25)), (sv_13, .inl (tc 0, 6, .inl sv_26)), (sv_14, .inl (tc 0, 6, .inl sv_27)), (sv_15, .inl (tc 0, 6, .inl sv_28)), ((Aa 0), .inr (9, [.int (Av 0), .int (Av 1), .int (Av 2), .int (Av 3), .int (Av 4), .int (Av 5), .ref (Aa 1), .ref (Aa 2), .ref (Aa 3), .ref (Aa 4), .ref (Aa 5), .ref (Aa 6), .ref (Aa 7), .ref (Aa 8)])), ((Aa 1), .inl (tc 0, 10, .inl (Af 1))), ((Aa 2), .inl (tc 0, 10, .inl (Af 2))), ((Aa 3), .inl (tc 0, 6, .inl (Af 3))), ((Aa 4), .inl (tc 0, 6, .inl (Af 4))), ((Aa 5), .inl (tc 0, 6, .inl (Af 5))), ((Aa 6), .inl (tc 0, 6, .inl (Af 6))), ((Aa 7), .inl (tc 0, 6, .inl (Af 7))), ((Aa 8), .inl (tc 0, 6, .inl (Af 8)))] := hD₀
      replace hS := hS₀
      clear hP₀ hD₀ hS₀
      refine lv_aload_n hx hb dX5_keep_67 rfl (lv_at hl 1 rfl) ?_
      refine lv_bipush (v := 20) hx hb dX5_keep_68 (by decide) ?_
      refine lv_aload_n hx hb dX5_keep_70 rfl (lv_at hl 1 rfl) ?_
      refine gf_X5_21 hx hb hts hown hK hP 0 rfl rfl dX5_keep_71 ?_
      refine lv_iconst (v := 1) hx hb dX5_keep_74 (by decide) ?_
      refine lv_iadd hx hb dX5_keep_75 ?_
      refine lv_topi (fun x_32 ex_32 => ?_)
      have tm_x_32 : (x_32 : Int32).toInt = (Pv 1).toInt + 1 := by
        have z_1 := Int32.le_iff_toInt_le.mp (Int32.not_lt.mp c_1)
        have z_2 := Int32.lt_iff_toInt_lt.mp c_2
        have y_0 : (0 : Int32).toInt = 0 := by decide
        have y_20 : (20 : Int32).toInt = 20 := by decide
        have y_1 : (1 : Int32).toInt = 1 := by decide
        have t_x_32 : x_32.toInt = ((Pv 1) : Int32).toInt + (1 : Int32).toInt := by rw [ex_32]; exact add_toInt (by omega) (by omega)
        omega
      refine va_mmin hx hb (hml.trans hl.1.symm) hown (hts _ k_731) (hts _ k_680) (hts _ k_114) (hts _ k_681) (Nat.le_of_ble_eq_true rfl) (Nat.le_of_ble_eq_true rfl) (Nat.le_of_ble_eq_true rfl) (Nat.le_of_ble_eq_true rfl) dX5_keep_76 ?_
      refine lv_topi (fun x_33 ex_33 => ?_)
      have mx_33 := imin_f ex_33
      rw [show (20 : Int32).toInt = 20 by decide] at mx_33
      refine pf_X5_21 hx hb hts hown hK hP hD hS 0 rfl (Nat.le_of_ble_eq_true rfl) rfl rfl dX5_keep_79 (fun H locs hP₀ hD₀ hS₀ => ?_)
      replace hP : va_P D classes [((Pa 0), .inr (5, [.ref (Pa 1), .int x_31, .int x_33])), ((Pa 1), .inl (tc 5, 20, .inr (.inr (.inr (.inr (va_up (Pq 1) ((Pv 0) : Int32).toNatClampNeg (some q_4))))))), (q_4, .inr (9, [.int (Av 0), .int (Av 1), .int (Av 2), .int (Av 3), .int (Av 4), .int (Av 5), .ref sv_8, .ref sv_9, .ref sv_10, .ref sv_11, .ref sv_12, .ref sv_13, .ref sv_14, .ref sv_15])), (sv_8, .inl (tc 0, 10, .inl sv_21)), (sv_9, .inl (tc 0, 10, .inl sv_22)), (sv_10, .inl (tc 0, 6, .inl sv_23)), (sv_11, .inl (tc 0, 6, .inl sv_24)), (sv_12, .inl (tc 0, 6, .inl sv_25)), (sv_13, .inl (tc 0, 6, .inl sv_26)), (sv_14, .inl (tc 0, 6, .inl sv_27)), (sv_15, .inl (tc 0, 6, .inl sv_28)), ((Aa 0), .inr (9, [.int (Av 0), .int (Av 1), .int (Av 2), .int (Av 3), .int (Av 4), .int (Av 5), .ref (Aa 1), .ref (Aa 2), .ref (Aa 3), .ref (Aa 4), .ref (Aa 5), .ref (Aa 6), .ref (Aa 7), .ref (Aa 8)])), ((Aa 1), .inl (tc 0, 10, .inl (Af 1))), ((Aa 2), .inl (tc 0, 10, .inl (Af 2))), ((Aa 3), .inl (tc 0, 6, .inl (Af 3))), ((Aa 4), .inl (tc 0, 6, .inl (Af 4))), ((Aa 5), .inl (tc 0, 6, .inl (Af 5))), ((Aa 6), .inl (tc 0, 6, .inl (Af 6))), ((Aa 7), .inl (tc 0, 6, .inl (Af 7))), ((Aa 8), .inl (tc 0, 6, .inl (Af 8)))] H := hP₀
      replace hD : va_D A [((Pa 0), .inr (5, [.ref (Pa 1), .int x_31, .int x_33])), ((Pa 1), .inl (tc 5, 20, .inr (.inr (.inr (.inr (va_up (Pq 1) ((Pv 0) : Int32).toNatClampNeg (some q_4))))))), (q_4, .inr (9, [.int (Av 0), .int (Av 1), .int (Av 2), .int (Av 3), .int (Av 4), .int (Av 5), .ref sv_8, .ref sv_9, .ref sv_10, .ref sv_11, .ref sv_12, .ref sv_13, .ref sv_14, .ref sv_15])), (sv_8, .inl (tc 0, 10, .inl sv_21)), (sv_9, .inl (tc 0, 10, .inl sv_22)), (sv_10, .inl (tc 0, 6, .inl sv_23)), (sv_11, .inl (tc 0, 6, .inl sv_24)), (sv_12, .inl (tc 0, 6, .inl sv_25)), (sv_13, .inl (tc 0, 6, .inl sv_26)), (sv_14, .inl (tc 0, 6, .inl sv_27)), (sv_15, .inl (tc 0, 6, .inl sv_28)), ((Aa 0), .inr (9, [.int (Av 0), .int (Av 1), .int (Av 2), .int (Av 3), .int (Av 4), .int (Av 5), .ref (Aa 1), .ref (Aa 2), .ref (Aa 3), .ref (Aa 4), .ref (Aa 5), .ref (Aa 6), .ref (Aa 7), .ref (Aa 8)])), ((Aa 1), .inl (tc 0, 10, .inl (Af 1))), ((Aa 2), .inl (tc 0, 10, .inl (Af 2))), ((Aa 3), .inl (tc 0, 6, .inl (Af 3))), ((Aa 4), .inl (tc 0, 6, .inl (Af 4))), ((Aa 5), .inl (tc 0, 6, .inl (Af 5))), ((Aa 6), .inl (tc 0, 6, .inl (Af 6))), ((Aa 7), .inl (tc 0, 6, .inl (Af 7))), ((Aa 8), .inl (tc 0, 6, .inl (Af 8)))] := hD₀
      replace hS := hS₀
      clear hP₀ hD₀ hS₀
      have ha_34 : 0 ≤ (x_31 : Int32).toInt ∧ (x_31 : Int32).toInt < 20 := by
        have z_1 := Int32.le_iff_toInt_le.mp (Int32.not_lt.mp c_1)
        have z_2 := Int32.lt_iff_toInt_lt.mp c_2
        have y_0 : (0 : Int32).toInt = 0 := by decide
        have y_20 : (20 : Int32).toInt = 20 := by decide
        have y_1 : (1 : Int32).toInt = 1 := by decide
        have t_x_30 : x_30.toInt = ((Pv 0) : Int32).toInt + (1 : Int32).toInt := by rw [ex_30]; exact add_toInt (by omega) (by omega)
        have t_x_31 := rem_bounds (x := x_30) (y := 20) (by omega)
        rw [← ex_31] at t_x_31
        omega
      have hr_35 : (x_31 : Int32).toInt = ((Pv 0).toInt + 1) % 20 ∧ (x_33 : Int32).toInt ≤ (Pv 1).toInt + 1 ∧ 0 ≤ (x_33 : Int32).toInt ∧ (x_33 : Int32).toInt ≤ 20 := by
        have z_1 := Int32.le_iff_toInt_le.mp (Int32.not_lt.mp c_1)
        have z_2 := Int32.lt_iff_toInt_lt.mp c_2
        have y_0 : (0 : Int32).toInt = 0 := by decide
        have y_20 : (20 : Int32).toInt = 20 := by decide
        have y_1 : (1 : Int32).toInt = 1 := by decide
        have t_x_30 : x_30.toInt = ((Pv 0) : Int32).toInt + (1 : Int32).toInt := by rw [ex_30]; exact add_toInt (by omega) (by omega)
        have t_x_31 := rem_bounds (x := x_30) (y := 20) (by omega)
        rw [← ex_31] at t_x_31
        have t_x_32 : x_32.toInt = ((Pv 1) : Int32).toInt + (1 : Int32).toInt := by rw [ex_32]; exact add_toInt (by omega) (by omega)
        omega
      exact retV hx hb hr hlk hP hD hS (true, q_4, sv_8, sv_9, sv_10, sv_11, sv_12, sv_13, sv_14, sv_15, x_31, x_33, sv_21, sv_22, sv_23, sv_24, sv_25, sv_26, sv_27, sv_28) ⟨rfl, ha_34, h_bA, ⟨hr_35, (KyC.cpy h_ky pf_29)⟩⟩ [0, 1, 11, 12, 13, 14, 15, 16, 17, 18, 19, 2, 3, 4, 5, 6, 7, 8, 9, 10] rfl rfl dX5_keep_82 (Nat.le_of_ble_eq_true rfl) (Nat.le_of_ble_eq_true rfl) rfl
    · skip
      exact retV hx hb hr hlk hP hD hS (false, 0, 0, 0, 0, 0, 0, 0, 0, 0, 0, 0, (fun _ => 0), (fun _ => 0), (fun _ => 0), (fun _ => 0), (fun _ => 0), (fun _ => 0), (fun _ => 0), (fun _ => 0)) ⟨rfl, h_nx⟩ [0, 1, 2, 3, 4, 5, 6, 7, 8, 9, 10] rfl rfl dX5_keep_16 (Nat.le_of_ble_eq_true rfl) (Nat.le_of_ble_eq_true rfl) rfl
set_option maxRecDepth 100000 in
theorem cu_hX5_keep_n (l : Launch) (D : va_G) (tc : Nat → ClassId) (sk : (Nat → Nat) × (Nat → Nat)) (Pa_0 : Nat) (Pa_1 : Nat) (Pv_0 : Int32) (Pv_1 : Int32) (Pq_1 : Nat → Option Nat) (Aa_0 : Nat) (Aa_1 : Nat) (Aa_2 : Nat) (Aa_3 : Nat) (Aa_4 : Nat) (Aa_5 : Nat) (Aa_6 : Nat) (Aa_7 : Nat) (Aa_8 : Nat) (Av_0 : Int32) (Av_1 : Int32) (Av_2 : Int32) (Av_3 : Int32) (Av_4 : Int32) (Av_5 : Int32) (Af_1 : Nat → Int32) (Af_2 : Nat → Int32) (Af_3 : Nat → Int32) (Af_4 : Nat → Int32) (Af_5 : Nat → Int32) (Af_6 : Nat → Int32) (Af_7 : Nat → Int32) (Af_8 : Nat → Int32) (dr : Nat → Int) (h_nx : 0 ≤ (Pv_0 : Int32).toInt ∧ (Pv_0 : Int32).toInt < 20) (h_q : Pq_1 Pv_0.toNatClampNeg = none) (h_bA : 0 ≤ (Av_3 : Int32).toInt ∧ (Av_3 : Int32).toInt ≤ 6) (h_sz : 0 ≤ Pv_1.toInt ∧ Pv_1.toInt ≤ 20) (h_ky : KyC dr Av_2 Av_3 Af_4) : Ct l yX5_keep cX5_keep 3 none { frames := 2, cells := 9, slots := 70, locals := 61 } D tc sk [.ref Pa_0, .ref Aa_0] [(Pa_0, .inr (5, [.ref Pa_1, .int Pv_0, .int Pv_1])), (Pa_1, .inl (tc 5, 20, .inr (.inr (.inr (.inr Pq_1))))), (Aa_0, .inr (9, [.int Av_0, .int Av_1, .int Av_2, .int Av_3, .int Av_4, .int Av_5, .ref Aa_1, .ref Aa_2, .ref Aa_3, .ref Aa_4, .ref Aa_5, .ref Aa_6, .ref Aa_7, .ref Aa_8])), (Aa_1, .inl (tc 0, 10, .inl Af_1)), (Aa_2, .inl (tc 0, 10, .inl Af_2)), (Aa_3, .inl (tc 0, 6, .inl Af_3)), (Aa_4, .inl (tc 0, 6, .inl Af_4)), (Aa_5, .inl (tc 0, 6, .inl Af_5)), (Aa_6, .inl (tc 0, 6, .inl Af_6)), (Aa_7, .inl (tc 0, 6, .inl Af_7)), (Aa_8, .inl (tc 0, 6, .inl Af_8))] (fun (v : Option Value) (u : (Bool) × (Nat) × (Nat) × (Nat) × (Nat) × (Nat) × (Nat) × (Nat) × (Nat) × (Nat) × (Int32) × (Int32) × (Nat → Int32) × (Nat → Int32) × (Nat → Int32) × (Nat → Int32) × (Nat → Int32) × (Nat → Int32) × (Nat → Int32) × (Nat → Int32)) => match u with | (true, na0x0, na0x1, na0x2, na0x3, na0x4, na0x5, na0x6, na0x7, na0x8, oo0x1, oo0x2, oo0x3, oo0x4, oo0x5, oo0x6, oo0x7, oo0x8, oo0x9, oo0x10) => v = none ∧ (0 ≤ (oo0x1 : Int32).toInt ∧ (oo0x1 : Int32).toInt < 20) ∧ (0 ≤ (Av_3 : Int32).toInt ∧ (Av_3 : Int32).toInt ≤ 6) ∧ (RgN dr Pv_0 Pv_1 oo0x1 oo0x2 Av_2 Av_3 oo0x6) | (false, na0x0, na0x1, na0x2, na0x3, na0x4, na0x5, na0x6, na0x7, na0x8, oo0x1, oo0x2, oo0x3, oo0x4, oo0x5, oo0x6, oo0x7, oo0x8, oo0x9, oo0x10) => v = none ∧ (0 ≤ (Pv_0 : Int32).toInt ∧ (Pv_0 : Int32).toInt < 20)) (fun (u : (Bool) × (Nat) × (Nat) × (Nat) × (Nat) × (Nat) × (Nat) × (Nat) × (Nat) × (Nat) × (Int32) × (Int32) × (Nat → Int32) × (Nat → Int32) × (Nat → Int32) × (Nat → Int32) × (Nat → Int32) × (Nat → Int32) × (Nat → Int32) × (Nat → Int32)) => match u with | (true, na0x0, na0x1, na0x2, na0x3, na0x4, na0x5, na0x6, na0x7, na0x8, oo0x1, oo0x2, oo0x3, oo0x4, oo0x5, oo0x6, oo0x7, oo0x8, oo0x9, oo0x10) => [(Pa_0, .inr (5, [.ref Pa_1, .int oo0x1, .int oo0x2])), (Pa_1, .inl (tc 5, 20, .inr (.inr (.inr (.inr (va_up Pq_1 (Pv_0 : Int32).toNatClampNeg (some na0x0))))))), (Aa_0, .inr (9, [.int Av_0, .int Av_1, .int Av_2, .int Av_3, .int Av_4, .int Av_5, .ref Aa_1, .ref Aa_2, .ref Aa_3, .ref Aa_4, .ref Aa_5, .ref Aa_6, .ref Aa_7, .ref Aa_8])), (Aa_1, .inl (tc 0, 10, .inl Af_1)), (Aa_2, .inl (tc 0, 10, .inl Af_2)), (Aa_3, .inl (tc 0, 6, .inl Af_3)), (Aa_4, .inl (tc 0, 6, .inl Af_4)), (Aa_5, .inl (tc 0, 6, .inl Af_5)), (Aa_6, .inl (tc 0, 6, .inl Af_6)), (Aa_7, .inl (tc 0, 6, .inl Af_7)), (Aa_8, .inl (tc 0, 6, .inl Af_8)), (na0x0, .inr (9, [.int Av_0, .int Av_1, .int Av_2, .int Av_3, .int Av_4, .int Av_5, .ref na0x1, .ref na0x2, .ref na0x3, .ref na0x4, .ref na0x5, .ref na0x6, .ref na0x7, .ref na0x8])), (na0x1, .inl (tc 0, 10, .inl oo0x3)), (na0x2, .inl (tc 0, 10, .inl oo0x4)), (na0x3, .inl (tc 0, 6, .inl oo0x5)), (na0x4, .inl (tc 0, 6, .inl oo0x6)), (na0x5, .inl (tc 0, 6, .inl oo0x7)), (na0x6, .inl (tc 0, 6, .inl oo0x8)), (na0x7, .inl (tc 0, 6, .inl oo0x9)), (na0x8, .inl (tc 0, 6, .inl oo0x10))] | (false, na0x0, na0x1, na0x2, na0x3, na0x4, na0x5, na0x6, na0x7, na0x8, oo0x1, oo0x2, oo0x3, oo0x4, oo0x5, oo0x6, oo0x7, oo0x8, oo0x9, oo0x10) => [(Pa_0, .inr (5, [.ref Pa_1, .int Pv_0, .int Pv_1])), (Pa_1, .inl (tc 5, 20, .inr (.inr (.inr (.inr Pq_1))))), (Aa_0, .inr (9, [.int Av_0, .int Av_1, .int Av_2, .int Av_3, .int Av_4, .int Av_5, .ref Aa_1, .ref Aa_2, .ref Aa_3, .ref Aa_4, .ref Aa_5, .ref Aa_6, .ref Aa_7, .ref Aa_8])), (Aa_1, .inl (tc 0, 10, .inl Af_1)), (Aa_2, .inl (tc 0, 10, .inl Af_2)), (Aa_3, .inl (tc 0, 6, .inl Af_3)), (Aa_4, .inl (tc 0, 6, .inl Af_4)), (Aa_5, .inl (tc 0, 6, .inl Af_5)), (Aa_6, .inl (tc 0, 6, .inl Af_6)), (Aa_7, .inl (tc 0, 6, .inl Af_7)), (Aa_8, .inl (tc 0, 6, .inl Af_8))]) 9 70 :=
  ct_hX5_keep_n l D tc sk (fun k => ([Pa_0, Pa_1] : List (Nat)).getD k 0) (fun k => ([Pv_0, Pv_1] : List (Int32)).getD k 0) (fun k => ([(fun _ => none), Pq_1] : List (Nat → Option Nat)).getD k (fun _ => none)) (fun k => ([Aa_0, Aa_1, Aa_2, Aa_3, Aa_4, Aa_5, Aa_6, Aa_7, Aa_8] : List (Nat)).getD k 0) (fun k => ([Av_0, Av_1, Av_2, Av_3, Av_4, Av_5] : List (Int32)).getD k 0) (fun k => ([(fun _ => 0), Af_1, Af_2, Af_3, Af_4, Af_5, Af_6, Af_7, Af_8] : List (Nat → Int32)).getD k (fun _ => 0)) dr h_nx h_q h_bA h_sz h_ky
set_option maxHeartbeats 4000000 in
set_option maxRecDepth 100000 in
theorem ct_hX5_keep_s (l : Launch) (D : va_G) (tc : Nat → ClassId) (sk : (Nat → Nat) × (Nat → Nat)) (Pa : Nat → Nat) (Pv : Nat → Int32) (Pq : Nat → Nat → Option Nat) (Aa : Nat → Nat) (Av : Nat → Int32) (Af : Nat → Nat → Int32) (Ea : Nat → Nat) (Ev : Nat → Int32) (Ef : Nat → Nat → Int32) (dr : Nat → Int) (h_nx : 0 ≤ ((Pv 0) : Int32).toInt ∧ ((Pv 0) : Int32).toInt < 20) (h_q : (Pq 1) (Pv 0).toNatClampNeg = some (Ea 0)) (h_bA : 0 ≤ ((Av 3) : Int32).toInt ∧ ((Av 3) : Int32).toInt ≤ 6) (h_bE : 0 ≤ ((Ev 3) : Int32).toInt ∧ ((Ev 3) : Int32).toInt ≤ 6) (h_sz : 0 ≤ (Pv 1).toInt ∧ (Pv 1).toInt ≤ 20) (h_ky : KyC dr (Av 2) (Av 3) (Af 4)) : Ct l yX5_keep cX5_keep 3 none { frames := 2, cells := 0, slots := 0, locals := 61 } D tc sk [.ref (Pa 0), .ref (Aa 0)] [((Pa 0), .inr (5, [.ref (Pa 1), .int (Pv 0), .int (Pv 1)])), ((Pa 1), .inl (tc 5, 20, .inr (.inr (.inr (.inr (Pq 1)))))), ((Aa 0), .inr (9, [.int (Av 0), .int (Av 1), .int (Av 2), .int (Av 3), .int (Av 4), .int (Av 5), .ref (Aa 1), .ref (Aa 2), .ref (Aa 3), .ref (Aa 4), .ref (Aa 5), .ref (Aa 6), .ref (Aa 7), .ref (Aa 8)])), ((Aa 1), .inl (tc 0, 10, .inl (Af 1))), ((Aa 2), .inl (tc 0, 10, .inl (Af 2))), ((Aa 3), .inl (tc 0, 6, .inl (Af 3))), ((Aa 4), .inl (tc 0, 6, .inl (Af 4))), ((Aa 5), .inl (tc 0, 6, .inl (Af 5))), ((Aa 6), .inl (tc 0, 6, .inl (Af 6))), ((Aa 7), .inl (tc 0, 6, .inl (Af 7))), ((Aa 8), .inl (tc 0, 6, .inl (Af 8))), ((Ea 0), .inr (9, [.int (Ev 0), .int (Ev 1), .int (Ev 2), .int (Ev 3), .int (Ev 4), .int (Ev 5), .ref (Ea 1), .ref (Ea 2), .ref (Ea 3), .ref (Ea 4), .ref (Ea 5), .ref (Ea 6), .ref (Ea 7), .ref (Ea 8)])), ((Ea 1), .inl (tc 0, 10, .inl (Ef 1))), ((Ea 2), .inl (tc 0, 10, .inl (Ef 2))), ((Ea 3), .inl (tc 0, 6, .inl (Ef 3))), ((Ea 4), .inl (tc 0, 6, .inl (Ef 4))), ((Ea 5), .inl (tc 0, 6, .inl (Ef 5))), ((Ea 6), .inl (tc 0, 6, .inl (Ef 6))), ((Ea 7), .inl (tc 0, 6, .inl (Ef 7))), ((Ea 8), .inl (tc 0, 6, .inl (Ef 8)))] (fun (v : Option Value) (u : (Int32) × (Int32) × (Int32) × (Int32) × (Int32) × (Int32) × (Int32) × (Int32) × (Nat → Int32) × (Nat → Int32) × (Nat → Int32) × (Nat → Int32) × (Nat → Int32) × (Nat → Int32) × (Nat → Int32) × (Nat → Int32)) => match u with | (oo0x1, oo0x2, oo0x3, oo0x4, oo0x5, oo0x6, oo0x7, oo0x8, oo0x9, oo0x10, oo0x11, oo0x12, oo0x13, oo0x14, oo0x15, oo0x16) => v = none ∧ (0 ≤ (oo0x1 : Int32).toInt ∧ (oo0x1 : Int32).toInt < 20) ∧ (0 ≤ (oo0x6 : Int32).toInt ∧ (oo0x6 : Int32).toInt ≤ 6) ∧ (RgN dr (Pv 0) (Pv 1) oo0x1 oo0x2 oo0x5 oo0x6 oo0x12)) (fun (u : (Int32) × (Int32) × (Int32) × (Int32) × (Int32) × (Int32) × (Int32) × (Int32) × (Nat → Int32) × (Nat → Int32) × (Nat → Int32) × (Nat → Int32) × (Nat → Int32) × (Nat → Int32) × (Nat → Int32) × (Nat → Int32)) => match u with | (oo0x1, oo0x2, oo0x3, oo0x4, oo0x5, oo0x6, oo0x7, oo0x8, oo0x9, oo0x10, oo0x11, oo0x12, oo0x13, oo0x14, oo0x15, oo0x16) => [((Pa 0), .inr (5, [.ref (Pa 1), .int oo0x1, .int oo0x2])), ((Pa 1), .inl (tc 5, 20, .inr (.inr (.inr (.inr (Pq 1)))))), ((Aa 0), .inr (9, [.int (Av 0), .int (Av 1), .int (Av 2), .int (Av 3), .int (Av 4), .int (Av 5), .ref (Aa 1), .ref (Aa 2), .ref (Aa 3), .ref (Aa 4), .ref (Aa 5), .ref (Aa 6), .ref (Aa 7), .ref (Aa 8)])), ((Aa 1), .inl (tc 0, 10, .inl (Af 1))), ((Aa 2), .inl (tc 0, 10, .inl (Af 2))), ((Aa 3), .inl (tc 0, 6, .inl (Af 3))), ((Aa 4), .inl (tc 0, 6, .inl (Af 4))), ((Aa 5), .inl (tc 0, 6, .inl (Af 5))), ((Aa 6), .inl (tc 0, 6, .inl (Af 6))), ((Aa 7), .inl (tc 0, 6, .inl (Af 7))), ((Aa 8), .inl (tc 0, 6, .inl (Af 8))), ((Ea 0), .inr (9, [.int oo0x3, .int oo0x4, .int oo0x5, .int oo0x6, .int oo0x7, .int oo0x8, .ref (Ea 1), .ref (Ea 2), .ref (Ea 3), .ref (Ea 4), .ref (Ea 5), .ref (Ea 6), .ref (Ea 7), .ref (Ea 8)])), ((Ea 1), .inl (tc 0, 10, .inl oo0x9)), ((Ea 2), .inl (tc 0, 10, .inl oo0x10)), ((Ea 3), .inl (tc 0, 6, .inl oo0x11)), ((Ea 4), .inl (tc 0, 6, .inl oo0x12)), ((Ea 5), .inl (tc 0, 6, .inl oo0x13)), ((Ea 6), .inl (tc 0, 6, .inl oo0x14)), ((Ea 7), .inl (tc 0, 6, .inl oo0x15)), ((Ea 8), .inl (tc 0, 6, .inl oo0x16))]) 0 0 := by
  refine Ct.start (by decide) (Nat.le_of_ble_eq_true rfl) (fun p e s m below meth c A ls hx hb hr hlk hin hml hown hts hK hX hP hD hA hl hS => ?_)
  have hl : lv_has ls 3 [(0, .ref (Pa 0)), (1, .ref (Aa 0))] := hl
  refine lv_aload_n hx hb dX5_keep_0 rfl (lv_at hl 0 rfl) ?_
  refine gf_X5_17 hx hb hts hown hK hP 0 rfl rfl dX5_keep_1 ?_
  refine lv_if_lt (tgt := 16) hx hb dX5_keep_4 (by decide) (fun c_1 => ?_) (fun c_1 => ?_)
  · skip
    have hf_2 : False := by
      have z_1 := Int32.lt_iff_toInt_lt.mp c_1
      have y_0 : (0 : Int32).toInt = 0 := by decide
      omega
    exact retV hx hb hr hlk hP hD hS ((Pv 0), (Pv 1), (Ev 0), (Ev 1), (Ev 2), (Ev 3), (Ev 4), (Ev 5), (Ef 1), (Ef 2), (Ef 3), (Ef 4), (Ef 5), (Ef 6), (Ef 7), (Ef 8)) ⟨rfl, h_nx, h_bE, (hf_2.elim)⟩ [0, 1, 2, 3, 4, 5, 6, 7, 8, 9, 10, 11, 12, 13, 14, 15, 16, 17, 18, 19] rfl rfl dX5_keep_16 (Nat.le_of_ble_eq_true rfl) (Nat.le_of_ble_eq_true rfl) rfl
  · skip
    refine lv_aload_n hx hb dX5_keep_7 rfl (lv_at hl 0 rfl) ?_
    refine gf_X5_17 hx hb hts hown hK hP 0 rfl rfl dX5_keep_8 ?_
    refine lv_bipush (v := 20) hx hb dX5_keep_11 (by decide) ?_
    refine lv_icmp_lt (tgt := 17) hx hb dX5_keep_13 (by decide) (fun c_3 => ?_) (fun c_3 => ?_)
    · skip
      refine lv_aload_n hx hb dX5_keep_17 rfl (lv_at hl 0 rfl) ?_
      refine gf_X5_13 hx hb hts hown hK hP 0 rfl rfl dX5_keep_18 ?_
      refine lv_aload_n hx hb dX5_keep_21 rfl (lv_at hl 0 rfl) ?_
      refine gf_X5_17 hx hb hts hown hK hP 0 rfl rfl dX5_keep_22 ?_
      have hi_4 : vp_in (Pv 0) 20 := by
        have z_1 := Int32.le_iff_toInt_le.mp (Int32.not_lt.mp c_1)
        have z_2 := Int32.lt_iff_toInt_lt.mp c_3
        have y_0 : (0 : Int32).toInt = 0 := by decide
        have y_20 : (20 : Int32).toInt = 20 := by decide
        refine vp_in_iff.mpr ⟨?_, ?_⟩ <;> omega
      refine va_aldq hx hb hK hP 1 5 rfl rfl hi_4 dX5_keep_25 ?_
      refine lv_val (v := .ref (Ea 0)) (by rw [h_q]; rfl) ?_
      refine lv_astore_n (lv' := [(2, .ref (Ea 0)), (0, .ref (Pa 0)), (1, .ref (Aa 0))]) hx hb dX5_keep_26 rfl hl (by decide) rfl (fun ls hl₀ => ?_)
      replace hl := hl₀
      clear hl₀
      refine lv_aload_n hx hb dX5_keep_27 rfl (lv_at hl 0 rfl) ?_
      refine lv_ifnonnull (tgt := 49) hx hb dX5_keep_28 (by decide) ?_
      refine lv_aload_n hx hb dX5_keep_49 rfl (lv_at hl 0 rfl) ?_
      refine lv_aload_n hx hb dX5_keep_50 rfl (lv_at hl 2 rfl) ?_
      refine cV (a := (Ea 0)) (As := [.ref (Aa 0)]) (rest := []) (wr := [((Pa 0), .inr (5, [.ref (Pa 1), .int (Pv 0), .int (Pv 1)])), ((Pa 1), .inl (tc 5, 20, .inr (.inr (.inr (.inr (Pq 1))))))]) ⟨hx, hb, hml, hown, hts⟩ hK hX hA (cu_hX9_copyFrom l D tc sk (Ea 0) (Ea 1) (Ea 2) (Ea 3) (Ea 4) (Ea 5) (Ea 6) (Ea 7) (Ea 8) (Ev 0) (Ev 1) (Ev 2) (Ev 3) (Ev 4) (Ev 5) (Ef 1) (Ef 2) (Ef 3) (Ef 4) (Ef 5) (Ef 6) (Ef 7) (Ef 8) (Aa 0) (Aa 1) (Aa 2) (Aa 3) (Aa 4) (Aa 5) (Aa 6) (Aa 7) (Aa 8) (Av 0) (Av 1) (Av 2) (Av 3) (Av 4) (Av 5) (Af 1) (Af 2) (Af 3) (Af 4) (Af 5) (Af 6) (Af 7) (Af 8)) k_599 k_730 k_597 k_598 k_98 pl_X9_copyFrom ⟨Nat.le_of_ble_eq_true rfl, Nat.le_of_ble_eq_true rfl⟩ rfl rfl (va_recv hK hP (ci := 9) (q0 := 11) rfl rfl) hP hD hS [11, 12, 13, 14, 15, 16, 17, 18, 19, 2, 3, 4, 5, 6, 7, 8, 9, 10] [0, 1] rfl rfl rfl rfl rfl (by decide) rfl hl.1 rfl (Nat.le_of_ble_eq_true rfl) dX5_keep_51 ⟨Nat.le_of_ble_eq_true rfl, Nat.le_of_ble_eq_true rfl⟩ (fun v_5 u_6 H locs hv_7 hP₀ hD₀ hS₀ => ?_)
      obtain ⟨sv_8, sv_9, sv_10, sv_11, sv_12, sv_13, sv_14, sv_15⟩ := u_6
      obtain ⟨rfl, pf_16⟩ := hv_7
      have pf_16 : Cpy8 sv_8 sv_9 sv_10 sv_11 sv_12 sv_13 sv_14 sv_15 (Af 1) (Af 2) (Af 3) (Af 4) (Af 5) (Af 6) (Af 7) (Af 8) := pf_16
      refine W.eq (g2 := F0 m 54 ls []) rfl ?_
      replace hP : va_P D classes [((Pa 0), .inr (5, [.ref (Pa 1), .int (Pv 0), .int (Pv 1)])), ((Pa 1), .inl (tc 5, 20, .inr (.inr (.inr (.inr (Pq 1)))))), ((Ea 0), .inr (9, [.int (Av 0), .int (Av 1), .int (Av 2), .int (Av 3), .int (Av 4), .int (Av 5), .ref (Ea 1), .ref (Ea 2), .ref (Ea 3), .ref (Ea 4), .ref (Ea 5), .ref (Ea 6), .ref (Ea 7), .ref (Ea 8)])), ((Ea 1), .inl (tc 0, 10, .inl sv_8)), ((Ea 2), .inl (tc 0, 10, .inl sv_9)), ((Ea 3), .inl (tc 0, 6, .inl sv_10)), ((Ea 4), .inl (tc 0, 6, .inl sv_11)), ((Ea 5), .inl (tc 0, 6, .inl sv_12)), ((Ea 6), .inl (tc 0, 6, .inl sv_13)), ((Ea 7), .inl (tc 0, 6, .inl sv_14)), ((Ea 8), .inl (tc 0, 6, .inl sv_15)), ((Aa 0), .inr (9, [.int (Av 0), .int (Av 1), .int (Av 2), .int (Av 3), .int (Av 4), .int (Av 5), .ref (Aa 1), .ref (Aa 2), .ref (Aa 3), .ref (Aa 4), .ref (Aa 5), .ref (Aa 6), .ref (Aa 7), .ref (Aa 8)])), ((Aa 1), .inl (tc 0, 10, .inl (Af 1))), ((Aa 2), .inl (tc 0, 10, .inl (Af 2))), ((Aa 3), .inl (tc 0, 6, .inl (Af 3))), ((Aa 4), .inl (tc 0, 6, .inl (Af 4))), ((Aa 5), .inl (tc 0, 6, .inl (Af 5))), ((Aa 6), .inl (tc 0, 6, .inl (Af 6))), ((Aa 7), .inl (tc 0, 6, .inl (Af 7))), ((Aa 8), .inl (tc 0, 6, .inl (Af 8)))] H := hP₀
      replace hD : va_D A [((Pa 0), .inr (5, [.ref (Pa 1), .int (Pv 0), .int (Pv 1)])), ((Pa 1), .inl (tc 5, 20, .inr (.inr (.inr (.inr (Pq 1)))))), ((Ea 0), .inr (9, [.int (Av 0), .int (Av 1), .int (Av 2), .int (Av 3), .int (Av 4), .int (Av 5), .ref (Ea 1), .ref (Ea 2), .ref (Ea 3), .ref (Ea 4), .ref (Ea 5), .ref (Ea 6), .ref (Ea 7), .ref (Ea 8)])), ((Ea 1), .inl (tc 0, 10, .inl sv_8)), ((Ea 2), .inl (tc 0, 10, .inl sv_9)), ((Ea 3), .inl (tc 0, 6, .inl sv_10)), ((Ea 4), .inl (tc 0, 6, .inl sv_11)), ((Ea 5), .inl (tc 0, 6, .inl sv_12)), ((Ea 6), .inl (tc 0, 6, .inl sv_13)), ((Ea 7), .inl (tc 0, 6, .inl sv_14)), ((Ea 8), .inl (tc 0, 6, .inl sv_15)), ((Aa 0), .inr (9, [.int (Av 0), .int (Av 1), .int (Av 2), .int (Av 3), .int (Av 4), .int (Av 5), .ref (Aa 1), .ref (Aa 2), .ref (Aa 3), .ref (Aa 4), .ref (Aa 5), .ref (Aa 6), .ref (Aa 7), .ref (Aa 8)])), ((Aa 1), .inl (tc 0, 10, .inl (Af 1))), ((Aa 2), .inl (tc 0, 10, .inl (Af 2))), ((Aa 3), .inl (tc 0, 6, .inl (Af 3))), ((Aa 4), .inl (tc 0, 6, .inl (Af 4))), ((Aa 5), .inl (tc 0, 6, .inl (Af 5))), ((Aa 6), .inl (tc 0, 6, .inl (Af 6))), ((Aa 7), .inl (tc 0, 6, .inl (Af 7))), ((Aa 8), .inl (tc 0, 6, .inl (Af 8)))] := hD₀
      replace hS := hS₀
      clear hP₀ hD₀ hS₀
      refine lv_aload_n hx hb dX5_keep_54 rfl (lv_at hl 1 rfl) ?_
      refine lv_aload_n hx hb dX5_keep_55 rfl (lv_at hl 1 rfl) ?_
      refine gf_X5_17 hx hb hts hown hK hP 0 rfl rfl dX5_keep_56 ?_
      refine lv_iconst (v := 1) hx hb dX5_keep_59 (by decide) ?_
      refine lv_iadd hx hb dX5_keep_60 ?_
      refine lv_topi (fun x_17 ex_17 => ?_)
      refine lv_bipush (v := 20) hx hb dX5_keep_61 (by decide) ?_
      refine lv_irem hx hb dX5_keep_63 (by decide) ?_
      refine lv_topi (fun x_18 ex_18 => ?_)
      have tr_x_18 : (x_18 : Int32).toInt = (x_17 : Int32).toInt % 20 := by
        have z_1 := Int32.le_iff_toInt_le.mp (Int32.not_lt.mp c_1)
        have z_2 := Int32.lt_iff_toInt_lt.mp c_3
        have y_0 : (0 : Int32).toInt = 0 := by decide
        have y_20 : (20 : Int32).toInt = 20 := by decide
        have y_1 : (1 : Int32).toInt = 1 := by decide
        have t_x_17 : x_17.toInt = ((Pv 0) : Int32).toInt + (1 : Int32).toInt := by rw [ex_17]; exact add_toInt (by omega) (by omega)
        have tz := rem_emod (x := x_17) (y := 20) (by omega)
        rw [← ex_18, show (20 : Int32).toInt = 20 by decide] at tz
        omega
      have ta_x_18 : (x_17 : Int32).toInt = (Pv 0).toInt + 1 := by
        have z_1 := Int32.le_iff_toInt_le.mp (Int32.not_lt.mp c_1)
        have z_2 := Int32.lt_iff_toInt_lt.mp c_3
        have y_0 : (0 : Int32).toInt = 0 := by decide
        have y_20 : (20 : Int32).toInt = 20 := by decide
        have y_1 : (1 : Int32).toInt = 1 := by decide
        have t_x_17 : x_17.toInt = ((Pv 0) : Int32).toInt + (1 : Int32).toInt := by rw [ex_17]; exact add_toInt (by omega) (by omega)
        omega
      refine pf_X5_17 hx hb hts hown hK hP hD hS 0 rfl (Nat.le_of_ble_eq_true rfl) rfl rfl dX5_keep_64 (fun H locs hP₀ hD₀ hS₀ => ?_)
      replace hP : va_P D classes [((Pa 0), .inr (5, [.ref (Pa 1), .int x_18, .int (Pv 1)])), ((Pa 1), .inl (tc 5, 20, .inr (.inr (.inr (.inr (Pq 1)))))), ((Ea 0), .inr (9, [.int (Av 0), .int (Av 1), .int (Av 2), .int (Av 3), .int (Av 4), .int (Av 5), .ref (Ea 1), .ref (Ea 2), .ref (Ea 3), .ref (Ea 4), .ref (Ea 5), .ref (Ea 6), .ref (Ea 7), .ref (Ea 8)])), ((Ea 1), .inl (tc 0, 10, .inl sv_8)), ((Ea 2), .inl (tc 0, 10, .inl sv_9)), ((Ea 3), .inl (tc 0, 6, .inl sv_10)), ((Ea 4), .inl (tc 0, 6, .inl sv_11)), ((Ea 5), .inl (tc 0, 6, .inl sv_12)), ((Ea 6), .inl (tc 0, 6, .inl sv_13)), ((Ea 7), .inl (tc 0, 6, .inl sv_14)), ((Ea 8), .inl (tc 0, 6, .inl sv_15)), ((Aa 0), .inr (9, [.int (Av 0), .int (Av 1), .int (Av 2), .int (Av 3), .int (Av 4), .int (Av 5), .ref (Aa 1), .ref (Aa 2), .ref (Aa 3), .ref (Aa 4), .ref (Aa 5), .ref (Aa 6), .ref (Aa 7), .ref (Aa 8)])), ((Aa 1), .inl (tc 0, 10, .inl (Af 1))), ((Aa 2), .inl (tc 0, 10, .inl (Af 2))), ((Aa 3), .inl (tc 0, 6, .inl (Af 3))), ((Aa 4), .inl (tc 0, 6, .inl (Af 4))), ((Aa 5), .inl (tc 0, 6, .inl (Af 5))), ((Aa 6), .inl (tc 0, 6, .inl (Af 6))), ((Aa 7), .inl (tc 0, 6, .inl (Af 7))), ((Aa 8), .inl (tc 0, 6, .inl (Af 8)))] H := hP₀
      replace hD : va_D A [((Pa 0), .inr (5, [.ref (Pa 1), .int x_18, .int (Pv 1)])), ((Pa 1), .inl (tc 5, 20, .inr (.inr (.inr (.inr (Pq 1)))))), ((Ea 0), .inr (9, [.int (Av 0), .int (Av 1), .int (Av 2), .int (Av 3), .int (Av 4), .int (Av 5), .ref (Ea 1), .ref (Ea 2), .ref (Ea 3), .ref (Ea 4), .ref (Ea 5), .ref (Ea 6), .ref (Ea 7), .ref (Ea 8)])), ((Ea 1), .inl (tc 0, 10, .inl sv_8)), ((Ea 2), .inl (tc 0, 10, .inl sv_9)), ((Ea 3), .inl (tc 0, 6, .inl sv_10)), ((Ea 4), .inl (tc 0, 6, .inl sv_11)), ((Ea 5), .inl (tc 0, 6, .inl sv_12)), ((Ea 6), .inl (tc 0, 6, .inl sv_13)), ((Ea 7), .inl (tc 0, 6, .inl sv_14)), ((Ea 8), .inl (tc 0, 6, .inl sv_15)), ((Aa 0), .inr (9, [.int (Av 0), .int (Av 1), .int (Av 2), .int (Av 3), .int (Av 4), .int (Av 5), .ref (Aa 1), .ref (Aa 2), .ref (Aa 3), .ref (Aa 4), .ref (Aa 5), .ref (Aa 6), .ref (Aa 7), .ref (Aa 8)])), ((Aa 1), .inl (tc 0, 10, .inl (Af 1))), ((Aa 2), .inl (tc 0, 10, .inl (Af 2))), ((Aa 3), .inl (tc 0, 6, .inl (Af 3))), ((Aa 4), .inl (tc 0, 6, .inl (Af 4))), ((Aa 5), .inl (tc 0, 6, .inl (Af 5))), ((Aa 6), .inl (tc 0, 6, .inl (Af 6))), ((Aa 7), .inl (tc 0, 6, .inl (Af 7))), ((Aa 8), .inl (tc 0, 6, .inl (Af 8)))] := hD₀
      replace hS := hS₀
      clear hP₀ hD₀ hS₀
      refine lv_aload_n hx hb dX5_keep_67 rfl (lv_at hl 1 rfl) ?_
      refine lv_bipush (v := 20) hx hb dX5_keep_68 (by decide) ?_
      refine lv_aload_n hx hb dX5_keep_70 rfl (lv_at hl 1 rfl) ?_
      refine gf_X5_21 hx hb hts hown hK hP 0 rfl rfl dX5_keep_71 ?_
      refine lv_iconst (v := 1) hx hb dX5_keep_74 (by decide) ?_
      refine lv_iadd hx hb dX5_keep_75 ?_
      refine lv_topi (fun x_19 ex_19 => ?_)
      have tm_x_19 : (x_19 : Int32).toInt = (Pv 1).toInt + 1 := by
        have z_1 := Int32.le_iff_toInt_le.mp (Int32.not_lt.mp c_1)
        have z_2 := Int32.lt_iff_toInt_lt.mp c_3
        have y_0 : (0 : Int32).toInt = 0 := by decide
        have y_20 : (20 : Int32).toInt = 20 := by decide
        have y_1 : (1 : Int32).toInt = 1 := by decide
        have t_x_19 : x_19.toInt = ((Pv 1) : Int32).toInt + (1 : Int32).toInt := by rw [ex_19]; exact add_toInt (by omega) (by omega)
        omega
      refine va_mmin hx hb (hml.trans hl.1.symm) hown (hts _ k_731) (hts _ k_680) (hts _ k_114) (hts _ k_681) (Nat.le_of_ble_eq_true rfl) (Nat.le_of_ble_eq_true rfl) (Nat.le_of_ble_eq_true rfl) (Nat.le_of_ble_eq_true rfl) dX5_keep_76 ?_
      refine lv_topi (fun x_20 ex_20 => ?_)
      have mx_20 := imin_f ex_20
      rw [show (20 : Int32).toInt = 20 by decide] at mx_20
      refine pf_X5_21 hx hb hts hown hK hP hD hS 0 rfl (Nat.le_of_ble_eq_true rfl) rfl rfl dX5_keep_79 (fun H locs hP₀ hD₀ hS₀ => ?_)
      replace hP : va_P D classes [((Pa 0), .inr (5, [.ref (Pa 1), .int x_18, .int x_20])), ((Pa 1), .inl (tc 5, 20, .inr (.inr (.inr (.inr (Pq 1)))))), ((Ea 0), .inr (9, [.int (Av 0), .int (Av 1), .int (Av 2), .int (Av 3), .int (Av 4), .int (Av 5), .ref (Ea 1), .ref (Ea 2), .ref (Ea 3), .ref (Ea 4), .ref (Ea 5), .ref (Ea 6), .ref (Ea 7), .ref (Ea 8)])), ((Ea 1), .inl (tc 0, 10, .inl sv_8)), ((Ea 2), .inl (tc 0, 10, .inl sv_9)), ((Ea 3), .inl (tc 0, 6, .inl sv_10)), ((Ea 4), .inl (tc 0, 6, .inl sv_11)), ((Ea 5), .inl (tc 0, 6, .inl sv_12)), ((Ea 6), .inl (tc 0, 6, .inl sv_13)), ((Ea 7), .inl (tc 0, 6, .inl sv_14)), ((Ea 8), .inl (tc 0, 6, .inl sv_15)), ((Aa 0), .inr (9, [.int (Av 0), .int (Av 1), .int (Av 2), .int (Av 3), .int (Av 4), .int (Av 5), .ref (Aa 1), .ref (Aa 2), .ref (Aa 3), .ref (Aa 4), .ref (Aa 5), .ref (Aa 6), .ref (Aa 7), .ref (Aa 8)])), ((Aa 1), .inl (tc 0, 10, .inl (Af 1))), ((Aa 2), .inl (tc 0, 10, .inl (Af 2))), ((Aa 3), .inl (tc 0, 6, .inl (Af 3))), ((Aa 4), .inl (tc 0, 6, .inl (Af 4))), ((Aa 5), .inl (tc 0, 6, .inl (Af 5))), ((Aa 6), .inl (tc 0, 6, .inl (Af 6))), ((Aa 7), .inl (tc 0, 6, .inl (Af 7))), ((Aa 8), .inl (tc 0, 6, .inl (Af 8)))] H := hP₀
      replace hD : va_D A [((Pa 0), .inr (5, [.ref (Pa 1), .int x_18, .int x_20])), ((Pa 1), .inl (tc 5, 20, .inr (.inr (.inr (.inr (Pq 1)))))), ((Ea 0), .inr (9, [.int (Av 0), .int (Av 1), .int (Av 2), .int (Av 3), .int (Av 4), .int (Av 5), .ref (Ea 1), .ref (Ea 2), .ref (Ea 3), .ref (Ea 4), .ref (Ea 5), .ref (Ea 6), .ref (Ea 7), .ref (Ea 8)])), ((Ea 1), .inl (tc 0, 10, .inl sv_8)), ((Ea 2), .inl (tc 0, 10, .inl sv_9)), ((Ea 3), .inl (tc 0, 6, .inl sv_10)), ((Ea 4), .inl (tc 0, 6, .inl sv_11)), ((Ea 5), .inl (tc 0, 6, .inl sv_12)), ((Ea 6), .inl (tc 0, 6, .inl sv_13)), ((Ea 7), .inl (tc 0, 6, .inl sv_14)), ((Ea 8), .inl (tc 0, 6, .inl sv_15)), ((Aa 0), .inr (9, [.int (Av 0), .int (Av 1), .int (Av 2), .int (Av 3), .int (Av 4), .int (Av 5), .ref (Aa 1), .ref (Aa 2), .ref (Aa 3), .ref (Aa 4), .ref (Aa 5), .ref (Aa 6), .ref (Aa 7), .ref (Aa 8)])), ((Aa 1), .inl (tc 0, 10, .inl (Af 1))), ((Aa 2), .inl (tc 0, 10, .inl (Af 2))), ((Aa 3), .inl (tc 0, 6, .inl (Af 3))), ((Aa 4), .inl (tc 0, 6, .inl (Af 4))), ((Aa 5), .inl (tc 0, 6, .inl (Af 5))), ((Aa 6), .inl (tc 0, 6, .inl (Af 6))), ((Aa 7), .inl (tc 0, 6, .inl (Af 7))), ((Aa 8), .inl (tc 0, 6, .inl (Af 8)))] := hD₀
      replace hS := hS₀
      clear hP₀ hD₀ hS₀
      have ha_21 : 0 ≤ (x_18 : Int32).toInt ∧ (x_18 : Int32).toInt < 20 := by
        have z_1 := Int32.le_iff_toInt_le.mp (Int32.not_lt.mp c_1)
        have z_2 := Int32.lt_iff_toInt_lt.mp c_3
        have y_0 : (0 : Int32).toInt = 0 := by decide
        have y_20 : (20 : Int32).toInt = 20 := by decide
        have y_1 : (1 : Int32).toInt = 1 := by decide
        have t_x_17 : x_17.toInt = ((Pv 0) : Int32).toInt + (1 : Int32).toInt := by rw [ex_17]; exact add_toInt (by omega) (by omega)
        have t_x_18 := rem_bounds (x := x_17) (y := 20) (by omega)
        rw [← ex_18] at t_x_18
        omega
      have hr_22 : (x_18 : Int32).toInt = ((Pv 0).toInt + 1) % 20 ∧ (x_20 : Int32).toInt ≤ (Pv 1).toInt + 1 ∧ 0 ≤ (x_20 : Int32).toInt ∧ (x_20 : Int32).toInt ≤ 20 := by
        have z_1 := Int32.le_iff_toInt_le.mp (Int32.not_lt.mp c_1)
        have z_2 := Int32.lt_iff_toInt_lt.mp c_3
        have y_0 : (0 : Int32).toInt = 0 := by decide
        have y_20 : (20 : Int32).toInt = 20 := by decide
        have y_1 : (1 : Int32).toInt = 1 := by decide
        have t_x_17 : x_17.toInt = ((Pv 0) : Int32).toInt + (1 : Int32).toInt := by rw [ex_17]; exact add_toInt (by omega) (by omega)
        have t_x_18 := rem_bounds (x := x_17) (y := 20) (by omega)
        rw [← ex_18] at t_x_18
        have t_x_19 : x_19.toInt = ((Pv 1) : Int32).toInt + (1 : Int32).toInt := by rw [ex_19]; exact add_toInt (by omega) (by omega)
        omega
      exact retV hx hb hr hlk hP hD hS (x_18, x_20, (Av 0), (Av 1), (Av 2), (Av 3), (Av 4), (Av 5), sv_8, sv_9, sv_10, sv_11, sv_12, sv_13, sv_14, sv_15) ⟨rfl, ha_21, h_bA, ⟨hr_22, (KyC.cpy h_ky pf_16)⟩⟩ [0, 1, 11, 12, 13, 14, 15, 16, 17, 18, 19, 2, 3, 4, 5, 6, 7, 8, 9, 10] rfl rfl dX5_keep_82 (Nat.le_of_ble_eq_true rfl) (Nat.le_of_ble_eq_true rfl) rfl
    · skip
      have hf_23 : False := by
        have z_1 := Int32.le_iff_toInt_le.mp (Int32.not_lt.mp c_1)
        have z_2 := Int32.le_iff_toInt_le.mp (Int32.not_lt.mp c_3)
        have y_0 : (0 : Int32).toInt = 0 := by decide
        have y_20 : (20 : Int32).toInt = 20 := by decide
        omega
      exact retV hx hb hr hlk hP hD hS ((Pv 0), (Pv 1), (Ev 0), (Ev 1), (Ev 2), (Ev 3), (Ev 4), (Ev 5), (Ef 1), (Ef 2), (Ef 3), (Ef 4), (Ef 5), (Ef 6), (Ef 7), (Ef 8)) ⟨rfl, h_nx, h_bE, (hf_23.elim)⟩ [0, 1, 2, 3, 4, 5, 6, 7, 8, 9, 10, 11, 12, 13, 14, 15, 16, 17, 18, 19] rfl rfl dX5_keep_16 (Nat.le_of_ble_eq_true rfl) (Nat.le_of_ble_eq_true rfl) rfl
set_option maxRecDepth 100000 in
theorem cu_hX5_keep_s (l : Launch) (D : va_G) (tc : Nat → ClassId) (sk : (Nat → Nat) × (Nat → Nat)) (Pa_0 : Nat) (Pa_1 : Nat) (Pv_0 : Int32) (Pv_1 : Int32) (Pq_1 : Nat → Option Nat) (Aa_0 : Nat) (Aa_1 : Nat) (Aa_2 : Nat) (Aa_3 : Nat) (Aa_4 : Nat) (Aa_5 : Nat) (Aa_6 : Nat) (Aa_7 : Nat) (Aa_8 : Nat) (Av_0 : Int32) (Av_1 : Int32) (Av_2 : Int32) (Av_3 : Int32) (Av_4 : Int32) (Av_5 : Int32) (Af_1 : Nat → Int32) (Af_2 : Nat → Int32) (Af_3 : Nat → Int32) (Af_4 : Nat → Int32) (Af_5 : Nat → Int32) (Af_6 : Nat → Int32) (Af_7 : Nat → Int32) (Af_8 : Nat → Int32) (Ea_0 : Nat) (Ea_1 : Nat) (Ea_2 : Nat) (Ea_3 : Nat) (Ea_4 : Nat) (Ea_5 : Nat) (Ea_6 : Nat) (Ea_7 : Nat) (Ea_8 : Nat) (Ev_0 : Int32) (Ev_1 : Int32) (Ev_2 : Int32) (Ev_3 : Int32) (Ev_4 : Int32) (Ev_5 : Int32) (Ef_1 : Nat → Int32) (Ef_2 : Nat → Int32) (Ef_3 : Nat → Int32) (Ef_4 : Nat → Int32) (Ef_5 : Nat → Int32) (Ef_6 : Nat → Int32) (Ef_7 : Nat → Int32) (Ef_8 : Nat → Int32) (dr : Nat → Int) (h_nx : 0 ≤ (Pv_0 : Int32).toInt ∧ (Pv_0 : Int32).toInt < 20) (h_q : Pq_1 Pv_0.toNatClampNeg = some Ea_0) (h_bA : 0 ≤ (Av_3 : Int32).toInt ∧ (Av_3 : Int32).toInt ≤ 6) (h_bE : 0 ≤ (Ev_3 : Int32).toInt ∧ (Ev_3 : Int32).toInt ≤ 6) (h_sz : 0 ≤ Pv_1.toInt ∧ Pv_1.toInt ≤ 20) (h_ky : KyC dr Av_2 Av_3 Af_4) : Ct l yX5_keep cX5_keep 3 none { frames := 2, cells := 0, slots := 0, locals := 61 } D tc sk [.ref Pa_0, .ref Aa_0] [(Pa_0, .inr (5, [.ref Pa_1, .int Pv_0, .int Pv_1])), (Pa_1, .inl (tc 5, 20, .inr (.inr (.inr (.inr Pq_1))))), (Aa_0, .inr (9, [.int Av_0, .int Av_1, .int Av_2, .int Av_3, .int Av_4, .int Av_5, .ref Aa_1, .ref Aa_2, .ref Aa_3, .ref Aa_4, .ref Aa_5, .ref Aa_6, .ref Aa_7, .ref Aa_8])), (Aa_1, .inl (tc 0, 10, .inl Af_1)), (Aa_2, .inl (tc 0, 10, .inl Af_2)), (Aa_3, .inl (tc 0, 6, .inl Af_3)), (Aa_4, .inl (tc 0, 6, .inl Af_4)), (Aa_5, .inl (tc 0, 6, .inl Af_5)), (Aa_6, .inl (tc 0, 6, .inl Af_6)), (Aa_7, .inl (tc 0, 6, .inl Af_7)), (Aa_8, .inl (tc 0, 6, .inl Af_8)), (Ea_0, .inr (9, [.int Ev_0, .int Ev_1, .int Ev_2, .int Ev_3, .int Ev_4, .int Ev_5, .ref Ea_1, .ref Ea_2, .ref Ea_3, .ref Ea_4, .ref Ea_5, .ref Ea_6, .ref Ea_7, .ref Ea_8])), (Ea_1, .inl (tc 0, 10, .inl Ef_1)), (Ea_2, .inl (tc 0, 10, .inl Ef_2)), (Ea_3, .inl (tc 0, 6, .inl Ef_3)), (Ea_4, .inl (tc 0, 6, .inl Ef_4)), (Ea_5, .inl (tc 0, 6, .inl Ef_5)), (Ea_6, .inl (tc 0, 6, .inl Ef_6)), (Ea_7, .inl (tc 0, 6, .inl Ef_7)), (Ea_8, .inl (tc 0, 6, .inl Ef_8))] (fun (v : Option Value) (u : (Int32) × (Int32) × (Int32) × (Int32) × (Int32) × (Int32) × (Int32) × (Int32) × (Nat → Int32) × (Nat → Int32) × (Nat → Int32) × (Nat → Int32) × (Nat → Int32) × (Nat → Int32) × (Nat → Int32) × (Nat → Int32)) => match u with | (oo0x1, oo0x2, oo0x3, oo0x4, oo0x5, oo0x6, oo0x7, oo0x8, oo0x9, oo0x10, oo0x11, oo0x12, oo0x13, oo0x14, oo0x15, oo0x16) => v = none ∧ (0 ≤ (oo0x1 : Int32).toInt ∧ (oo0x1 : Int32).toInt < 20) ∧ (0 ≤ (oo0x6 : Int32).toInt ∧ (oo0x6 : Int32).toInt ≤ 6) ∧ (RgN dr Pv_0 Pv_1 oo0x1 oo0x2 oo0x5 oo0x6 oo0x12)) (fun (u : (Int32) × (Int32) × (Int32) × (Int32) × (Int32) × (Int32) × (Int32) × (Int32) × (Nat → Int32) × (Nat → Int32) × (Nat → Int32) × (Nat → Int32) × (Nat → Int32) × (Nat → Int32) × (Nat → Int32) × (Nat → Int32)) => match u with | (oo0x1, oo0x2, oo0x3, oo0x4, oo0x5, oo0x6, oo0x7, oo0x8, oo0x9, oo0x10, oo0x11, oo0x12, oo0x13, oo0x14, oo0x15, oo0x16) => [(Pa_0, .inr (5, [.ref Pa_1, .int oo0x1, .int oo0x2])), (Pa_1, .inl (tc 5, 20, .inr (.inr (.inr (.inr Pq_1))))), (Aa_0, .inr (9, [.int Av_0, .int Av_1, .int Av_2, .int Av_3, .int Av_4, .int Av_5, .ref Aa_1, .ref Aa_2, .ref Aa_3, .ref Aa_4, .ref Aa_5, .ref Aa_6, .ref Aa_7, .ref Aa_8])), (Aa_1, .inl (tc 0, 10, .inl Af_1)), (Aa_2, .inl (tc 0, 10, .inl Af_2)), (Aa_3, .inl (tc 0, 6, .inl Af_3)), (Aa_4, .inl (tc 0, 6, .inl Af_4)), (Aa_5, .inl (tc 0, 6, .inl Af_5)), (Aa_6, .inl (tc 0, 6, .inl Af_6)), (Aa_7, .inl (tc 0, 6, .inl Af_7)), (Aa_8, .inl (tc 0, 6, .inl Af_8)), (Ea_0, .inr (9, [.int oo0x3, .int oo0x4, .int oo0x5, .int oo0x6, .int oo0x7, .int oo0x8, .ref Ea_1, .ref Ea_2, .ref Ea_3, .ref Ea_4, .ref Ea_5, .ref Ea_6, .ref Ea_7, .ref Ea_8])), (Ea_1, .inl (tc 0, 10, .inl oo0x9)), (Ea_2, .inl (tc 0, 10, .inl oo0x10)), (Ea_3, .inl (tc 0, 6, .inl oo0x11)), (Ea_4, .inl (tc 0, 6, .inl oo0x12)), (Ea_5, .inl (tc 0, 6, .inl oo0x13)), (Ea_6, .inl (tc 0, 6, .inl oo0x14)), (Ea_7, .inl (tc 0, 6, .inl oo0x15)), (Ea_8, .inl (tc 0, 6, .inl oo0x16))]) 0 0 :=
  ct_hX5_keep_s l D tc sk (fun k => ([Pa_0, Pa_1] : List (Nat)).getD k 0) (fun k => ([Pv_0, Pv_1] : List (Int32)).getD k 0) (fun k => ([(fun _ => none), Pq_1] : List (Nat → Option Nat)).getD k (fun _ => none)) (fun k => ([Aa_0, Aa_1, Aa_2, Aa_3, Aa_4, Aa_5, Aa_6, Aa_7, Aa_8] : List (Nat)).getD k 0) (fun k => ([Av_0, Av_1, Av_2, Av_3, Av_4, Av_5] : List (Int32)).getD k 0) (fun k => ([(fun _ => 0), Af_1, Af_2, Af_3, Af_4, Af_5, Af_6, Af_7, Af_8] : List (Nat → Int32)).getD k (fun _ => 0)) (fun k => ([Ea_0, Ea_1, Ea_2, Ea_3, Ea_4, Ea_5, Ea_6, Ea_7, Ea_8] : List (Nat)).getD k 0) (fun k => ([Ev_0, Ev_1, Ev_2, Ev_3, Ev_4, Ev_5] : List (Int32)).getD k 0) (fun k => ([(fun _ => 0), Ef_1, Ef_2, Ef_3, Ef_4, Ef_5, Ef_6, Ef_7, Ef_8] : List (Nat → Int32)).getD k (fun _ => 0)) dr h_nx h_q h_bA h_bE h_sz h_ky
set_option maxHeartbeats 4000000 in
set_option maxRecDepth 100000 in
theorem ct_hX5_giveBack_s (l : Launch) (D : va_G) (tc : Nat → ClassId) (sk : (Nat → Nat) × (Nat → Nat)) (Pa : Nat → Nat) (Pv : Nat → Int32) (Pq : Nat → Nat → Option Nat) (Aa : Nat → Nat) (Av : Nat → Int32) (Af : Nat → Nat → Int32) (Ea : Nat → Nat) (Ev : Nat → Int32) (Ef : Nat → Nat → Int32) (dr : Nat → Int) (h_nx : 0 ≤ ((Pv 0) : Int32).toInt ∧ ((Pv 0) : Int32).toInt < 20) (h_q : ∀ j : Int32, j.toInt = ((Pv 0).toInt + 19) % 20 → (Pq 1) j.toNatClampNeg = some (Ea 0)) (h_bA : 0 ≤ ((Av 3) : Int32).toInt ∧ ((Av 3) : Int32).toInt ≤ 6) (h_bE : 0 ≤ ((Ev 3) : Int32).toInt ∧ ((Ev 3) : Int32).toInt ≤ 6) (h_sz : 0 ≤ (Pv 1).toInt ∧ (Pv 1).toInt ≤ 20) (h_ky : KyC dr (Av 2) (Av 3) (Af 4)) (h_ke : KeE dr (Pv 1) (Ev 2) (Ev 3) (Ef 4)) : Ct l yX5_giveBack cX5_giveBack 4 (some .int) { frames := 2, cells := 0, slots := 0, locals := 61 } D tc sk [.ref (Pa 0), .ref (Aa 0)] [((Pa 0), .inr (5, [.ref (Pa 1), .int (Pv 0), .int (Pv 1)])), ((Pa 1), .inl (tc 5, 20, .inr (.inr (.inr (.inr (Pq 1)))))), ((Aa 0), .inr (9, [.int (Av 0), .int (Av 1), .int (Av 2), .int (Av 3), .int (Av 4), .int (Av 5), .ref (Aa 1), .ref (Aa 2), .ref (Aa 3), .ref (Aa 4), .ref (Aa 5), .ref (Aa 6), .ref (Aa 7), .ref (Aa 8)])), ((Aa 1), .inl (tc 0, 10, .inl (Af 1))), ((Aa 2), .inl (tc 0, 10, .inl (Af 2))), ((Aa 3), .inl (tc 0, 6, .inl (Af 3))), ((Aa 4), .inl (tc 0, 6, .inl (Af 4))), ((Aa 5), .inl (tc 0, 6, .inl (Af 5))), ((Aa 6), .inl (tc 0, 6, .inl (Af 6))), ((Aa 7), .inl (tc 0, 6, .inl (Af 7))), ((Aa 8), .inl (tc 0, 6, .inl (Af 8))), ((Ea 0), .inr (9, [.int (Ev 0), .int (Ev 1), .int (Ev 2), .int (Ev 3), .int (Ev 4), .int (Ev 5), .ref (Ea 1), .ref (Ea 2), .ref (Ea 3), .ref (Ea 4), .ref (Ea 5), .ref (Ea 6), .ref (Ea 7), .ref (Ea 8)])), ((Ea 1), .inl (tc 0, 10, .inl (Ef 1))), ((Ea 2), .inl (tc 0, 10, .inl (Ef 2))), ((Ea 3), .inl (tc 0, 6, .inl (Ef 3))), ((Ea 4), .inl (tc 0, 6, .inl (Ef 4))), ((Ea 5), .inl (tc 0, 6, .inl (Ef 5))), ((Ea 6), .inl (tc 0, 6, .inl (Ef 6))), ((Ea 7), .inl (tc 0, 6, .inl (Ef 7))), ((Ea 8), .inl (tc 0, 6, .inl (Ef 8)))] (fun (v : Option Value) (u : (Int32) × (Int32) × (Int32) × (Int32) × (Int32) × (Int32) × (Int32) × (Int32) × (Nat → Int32) × (Nat → Int32) × (Nat → Int32) × (Nat → Int32) × (Nat → Int32) × (Nat → Int32) × (Nat → Int32) × (Nat → Int32)) => match u with | (oo0x1, oo0x2, oo0x3, oo0x4, oo0x5, oo0x6, oo0x7, oo0x8, oo0x9, oo0x10, oo0x11, oo0x12, oo0x13, oo0x14, oo0x15, oo0x16) => ∃ r : Int32, v = some (.int r) ∧ (True) ∧ (0 ≤ (oo0x1 : Int32).toInt ∧ (oo0x1 : Int32).toInt < 20) ∧ (0 ≤ (oo0x6 : Int32).toInt ∧ (oo0x6 : Int32).toInt ≤ 6) ∧ (0 ≤ ((Ev 3) : Int32).toInt ∧ ((Ev 3) : Int32).toInt ≤ 6) ∧ (GbK dr (Pv 0) (Pv 1) oo0x1 oo0x2 oo0x5 oo0x6 oo0x12)) (fun (u : (Int32) × (Int32) × (Int32) × (Int32) × (Int32) × (Int32) × (Int32) × (Int32) × (Nat → Int32) × (Nat → Int32) × (Nat → Int32) × (Nat → Int32) × (Nat → Int32) × (Nat → Int32) × (Nat → Int32) × (Nat → Int32)) => match u with | (oo0x1, oo0x2, oo0x3, oo0x4, oo0x5, oo0x6, oo0x7, oo0x8, oo0x9, oo0x10, oo0x11, oo0x12, oo0x13, oo0x14, oo0x15, oo0x16) => [((Pa 0), .inr (5, [.ref (Pa 1), .int oo0x1, .int oo0x2])), ((Pa 1), .inl (tc 5, 20, .inr (.inr (.inr (.inr (Pq 1)))))), ((Aa 0), .inr (9, [.int oo0x3, .int oo0x4, .int oo0x5, .int oo0x6, .int oo0x7, .int oo0x8, .ref (Aa 1), .ref (Aa 2), .ref (Aa 3), .ref (Aa 4), .ref (Aa 5), .ref (Aa 6), .ref (Aa 7), .ref (Aa 8)])), ((Aa 1), .inl (tc 0, 10, .inl oo0x9)), ((Aa 2), .inl (tc 0, 10, .inl oo0x10)), ((Aa 3), .inl (tc 0, 6, .inl oo0x11)), ((Aa 4), .inl (tc 0, 6, .inl oo0x12)), ((Aa 5), .inl (tc 0, 6, .inl oo0x13)), ((Aa 6), .inl (tc 0, 6, .inl oo0x14)), ((Aa 7), .inl (tc 0, 6, .inl oo0x15)), ((Aa 8), .inl (tc 0, 6, .inl oo0x16)), ((Ea 0), .inr (9, [.int (Ev 0), .int (Ev 1), .int (Ev 2), .int (Ev 3), .int (Ev 4), .int (Ev 5), .ref (Ea 1), .ref (Ea 2), .ref (Ea 3), .ref (Ea 4), .ref (Ea 5), .ref (Ea 6), .ref (Ea 7), .ref (Ea 8)])), ((Ea 1), .inl (tc 0, 10, .inl (Ef 1))), ((Ea 2), .inl (tc 0, 10, .inl (Ef 2))), ((Ea 3), .inl (tc 0, 6, .inl (Ef 3))), ((Ea 4), .inl (tc 0, 6, .inl (Ef 4))), ((Ea 5), .inl (tc 0, 6, .inl (Ef 5))), ((Ea 6), .inl (tc 0, 6, .inl (Ef 6))), ((Ea 7), .inl (tc 0, 6, .inl (Ef 7))), ((Ea 8), .inl (tc 0, 6, .inl (Ef 8)))]) 0 0 := by
  refine Ct.start (by decide) (Nat.le_of_ble_eq_true rfl) (fun p e s m below meth c A ls hx hb hr hlk hin hml hown hts hK hX hP hD hA hl hS => ?_)
  have hl : lv_has ls 4 [(0, .ref (Pa 0)), (1, .ref (Aa 0))] := hl
  refine lv_aload_n hx hb dX5_giveBack_0 rfl (lv_at hl 0 rfl) ?_
  refine gf_X5_17 hx hb hts hown hK hP 0 rfl rfl dX5_giveBack_1 ?_
  refine lv_bipush (v := 20) hx hb dX5_giveBack_4 (by decide) ?_
  refine lv_iadd hx hb dX5_giveBack_6 ?_
  refine lv_topi (fun x_1 ex_1 => ?_)
  refine lv_iconst (v := 1) hx hb dX5_giveBack_7 (by decide) ?_
  refine lv_isub hx hb dX5_giveBack_8 ?_
  refine lv_topi (fun x_2 ex_2 => ?_)
  refine lv_bipush (v := 20) hx hb dX5_giveBack_9 (by decide) ?_
  refine lv_irem hx hb dX5_giveBack_11 (by decide) ?_
  refine lv_topi (fun x_3 ex_3 => ?_)
  refine lv_istore_n (lv' := [(2, .int x_3), (0, .ref (Pa 0)), (1, .ref (Aa 0))]) hx hb dX5_giveBack_12 rfl hl (by decide) rfl (fun ls hl₀ => ?_)
  replace hl := hl₀
  clear hl₀
  refine lv_aload_n hx hb dX5_giveBack_13 rfl (lv_at hl 1 rfl) ?_
  refine gf_X5_21 hx hb hts hown hK hP 0 rfl rfl dX5_giveBack_14 ?_
  refine lv_if_le (tgt := 24) hx hb dX5_giveBack_17 (by decide) (fun c_4 => ?_) (fun c_4 => ?_)
  · skip
    refine lv_iconst (v := (-1)) hx hb dX5_giveBack_24 (by decide) ?_
    exact retI (v := (-1)) hx hb hr hlk (rfl) hP hD hS ((Pv 0), (Pv 1), (Av 0), (Av 1), (Av 2), (Av 3), (Av 4), (Av 5), (Af 1), (Af 2), (Af 3), (Af 4), (Af 5), (Af 6), (Af 7), (Af 8)) ⟨_, rfl, trivial, h_nx, h_bA, h_bE, ⟨Or.inl ⟨rfl, rfl⟩, h_ky⟩⟩ [0, 1, 2, 3, 4, 5, 6, 7, 8, 9, 10, 11, 12, 13, 14, 15, 16, 17, 18, 19] rfl rfl dX5_giveBack_25 (Nat.le_of_ble_eq_true rfl) (Nat.le_of_ble_eq_true rfl) rfl
  · skip
    refine lv_iload_n hx hb dX5_giveBack_20 rfl (lv_at hl 0 rfl) ?_
    refine lv_if_ge (tgt := 26) hx hb dX5_giveBack_21 (by decide) (fun c_5 => ?_) (fun c_5 => ?_)
    · skip
      refine lv_aload_n hx hb dX5_giveBack_26 rfl (lv_at hl 1 rfl) ?_
      refine gf_X5_13 hx hb hts hown hK hP 0 rfl rfl dX5_giveBack_27 ?_
      refine lv_iload_n hx hb dX5_giveBack_30 rfl (lv_at hl 0 rfl) ?_
      have hi_6 : vp_in x_3 20 := by
        have z_1 := Int32.lt_iff_toInt_lt.mp (Int32.not_le.mp c_4)
        have z_2 := Int32.le_iff_toInt_le.mp c_5
        have y_0 : (0 : Int32).toInt = 0 := by decide
        have y_1 : (1 : Int32).toInt = 1 := by decide
        have y_20 : (20 : Int32).toInt = 20 := by decide
        have t_x_1 : x_1.toInt = ((Pv 0) : Int32).toInt + (20 : Int32).toInt := by rw [ex_1]; exact add_toInt (by omega) (by omega)
        have t_x_2 : x_2.toInt = (x_1 : Int32).toInt - (1 : Int32).toInt := by rw [ex_2]; exact sub_toInt (by omega) (by omega)
        have t_x_3 := rem_bounds (x := x_2) (y := 20) (by omega)
        rw [← ex_3] at t_x_3
        refine vp_in_iff.mpr ⟨?_, ?_⟩ <;> omega
      refine va_aldq hx hb hK hP 1 5 rfl rfl hi_6 dX5_giveBack_31 ?_
      have hi_7 : (x_3 : Int32).toInt = ((Pv 0).toInt + 19) % 20 := by
        have z_1 := Int32.lt_iff_toInt_lt.mp (Int32.not_le.mp c_4)
        have z_2 := Int32.le_iff_toInt_le.mp c_5
        have y_0 : (0 : Int32).toInt = 0 := by decide
        have y_1 : (1 : Int32).toInt = 1 := by decide
        have y_20 : (20 : Int32).toInt = 20 := by decide
        have t_x_1 : x_1.toInt = ((Pv 0) : Int32).toInt + (20 : Int32).toInt := by rw [ex_1]; exact add_toInt (by omega) (by omega)
        have t_x_2 : x_2.toInt = (x_1 : Int32).toInt - (1 : Int32).toInt := by rw [ex_2]; exact sub_toInt (by omega) (by omega)
        have t_x_3 := rem_bounds (x := x_2) (y := 20) (by omega)
        rw [← ex_3] at t_x_3
        have tz := rem_emod (x := x_2) (y := 20) (by omega)
        rw [← ex_3, show (20 : Int32).toInt = 20 by decide] at tz
        omega
      refine lv_val (v := .ref (Ea 0)) (by rw [h_q x_3 hi_7]; rfl) ?_
      refine lv_astore_n (lv' := [(3, .ref (Ea 0)), (2, .int x_3), (0, .ref (Pa 0)), (1, .ref (Aa 0))]) hx hb dX5_giveBack_32 rfl hl (by decide) rfl (fun ls hl₀ => ?_)
      replace hl := hl₀
      clear hl₀
      refine lv_aload_n hx hb dX5_giveBack_33 rfl (lv_at hl 0 rfl) ?_
      refine lv_ifnonnull (tgt := 39) hx hb dX5_giveBack_34 (by decide) ?_
      refine lv_aload_n hx hb dX5_giveBack_39 rfl (lv_at hl 3 rfl) ?_
      refine lv_aload_n hx hb dX5_giveBack_40 rfl (lv_at hl 0 rfl) ?_
      refine cV (a := (Aa 0)) (As := [.ref (Ea 0)]) (rest := []) (wr := [((Pa 0), .inr (5, [.ref (Pa 1), .int (Pv 0), .int (Pv 1)])), ((Pa 1), .inl (tc 5, 20, .inr (.inr (.inr (.inr (Pq 1))))))]) ⟨hx, hb, hml, hown, hts⟩ hK hX hA (cu_hX9_copyFrom l D tc sk (Aa 0) (Aa 1) (Aa 2) (Aa 3) (Aa 4) (Aa 5) (Aa 6) (Aa 7) (Aa 8) (Av 0) (Av 1) (Av 2) (Av 3) (Av 4) (Av 5) (Af 1) (Af 2) (Af 3) (Af 4) (Af 5) (Af 6) (Af 7) (Af 8) (Ea 0) (Ea 1) (Ea 2) (Ea 3) (Ea 4) (Ea 5) (Ea 6) (Ea 7) (Ea 8) (Ev 0) (Ev 1) (Ev 2) (Ev 3) (Ev 4) (Ev 5) (Ef 1) (Ef 2) (Ef 3) (Ef 4) (Ef 5) (Ef 6) (Ef 7) (Ef 8)) k_599 k_730 k_597 k_598 k_98 pl_X9_copyFrom ⟨Nat.le_of_ble_eq_true rfl, Nat.le_of_ble_eq_true rfl⟩ rfl rfl (va_recv hK hP (ci := 9) (q0 := 2) rfl rfl) hP hD hS [2, 3, 4, 5, 6, 7, 8, 9, 10, 11, 12, 13, 14, 15, 16, 17, 18, 19] [0, 1] rfl rfl rfl rfl rfl (by decide) rfl hl.1 rfl (Nat.le_of_ble_eq_true rfl) dX5_giveBack_41 ⟨Nat.le_of_ble_eq_true rfl, Nat.le_of_ble_eq_true rfl⟩ (fun v_8 u_9 H locs hv_10 hP₀ hD₀ hS₀ => ?_)
      obtain ⟨sv_11, sv_12, sv_13, sv_14, sv_15, sv_16, sv_17, sv_18⟩ := u_9
      obtain ⟨rfl, pf_19⟩ := hv_10
      have pf_19 : Cpy8 sv_11 sv_12 sv_13 sv_14 sv_15 sv_16 sv_17 sv_18 (Ef 1) (Ef 2) (Ef 3) (Ef 4) (Ef 5) (Ef 6) (Ef 7) (Ef 8) := pf_19
      refine W.eq (g2 := F0 m 44 ls []) rfl ?_
      replace hP : va_P D classes [((Pa 0), .inr (5, [.ref (Pa 1), .int (Pv 0), .int (Pv 1)])), ((Pa 1), .inl (tc 5, 20, .inr (.inr (.inr (.inr (Pq 1)))))), ((Aa 0), .inr (9, [.int (Ev 0), .int (Ev 1), .int (Ev 2), .int (Ev 3), .int (Ev 4), .int (Ev 5), .ref (Aa 1), .ref (Aa 2), .ref (Aa 3), .ref (Aa 4), .ref (Aa 5), .ref (Aa 6), .ref (Aa 7), .ref (Aa 8)])), ((Aa 1), .inl (tc 0, 10, .inl sv_11)), ((Aa 2), .inl (tc 0, 10, .inl sv_12)), ((Aa 3), .inl (tc 0, 6, .inl sv_13)), ((Aa 4), .inl (tc 0, 6, .inl sv_14)), ((Aa 5), .inl (tc 0, 6, .inl sv_15)), ((Aa 6), .inl (tc 0, 6, .inl sv_16)), ((Aa 7), .inl (tc 0, 6, .inl sv_17)), ((Aa 8), .inl (tc 0, 6, .inl sv_18)), ((Ea 0), .inr (9, [.int (Ev 0), .int (Ev 1), .int (Ev 2), .int (Ev 3), .int (Ev 4), .int (Ev 5), .ref (Ea 1), .ref (Ea 2), .ref (Ea 3), .ref (Ea 4), .ref (Ea 5), .ref (Ea 6), .ref (Ea 7), .ref (Ea 8)])), ((Ea 1), .inl (tc 0, 10, .inl (Ef 1))), ((Ea 2), .inl (tc 0, 10, .inl (Ef 2))), ((Ea 3), .inl (tc 0, 6, .inl (Ef 3))), ((Ea 4), .inl (tc 0, 6, .inl (Ef 4))), ((Ea 5), .inl (tc 0, 6, .inl (Ef 5))), ((Ea 6), .inl (tc 0, 6, .inl (Ef 6))), ((Ea 7), .inl (tc 0, 6, .inl (Ef 7))), ((Ea 8), .inl (tc 0, 6, .inl (Ef 8)))] H := hP₀
      replace hD : va_D A [((Pa 0), .inr (5, [.ref (Pa 1), .int (Pv 0), .int (Pv 1)])), ((Pa 1), .inl (tc 5, 20, .inr (.inr (.inr (.inr (Pq 1)))))), ((Aa 0), .inr (9, [.int (Ev 0), .int (Ev 1), .int (Ev 2), .int (Ev 3), .int (Ev 4), .int (Ev 5), .ref (Aa 1), .ref (Aa 2), .ref (Aa 3), .ref (Aa 4), .ref (Aa 5), .ref (Aa 6), .ref (Aa 7), .ref (Aa 8)])), ((Aa 1), .inl (tc 0, 10, .inl sv_11)), ((Aa 2), .inl (tc 0, 10, .inl sv_12)), ((Aa 3), .inl (tc 0, 6, .inl sv_13)), ((Aa 4), .inl (tc 0, 6, .inl sv_14)), ((Aa 5), .inl (tc 0, 6, .inl sv_15)), ((Aa 6), .inl (tc 0, 6, .inl sv_16)), ((Aa 7), .inl (tc 0, 6, .inl sv_17)), ((Aa 8), .inl (tc 0, 6, .inl sv_18)), ((Ea 0), .inr (9, [.int (Ev 0), .int (Ev 1), .int (Ev 2), .int (Ev 3), .int (Ev 4), .int (Ev 5), .ref (Ea 1), .ref (Ea 2), .ref (Ea 3), .ref (Ea 4), .ref (Ea 5), .ref (Ea 6), .ref (Ea 7), .ref (Ea 8)])), ((Ea 1), .inl (tc 0, 10, .inl (Ef 1))), ((Ea 2), .inl (tc 0, 10, .inl (Ef 2))), ((Ea 3), .inl (tc 0, 6, .inl (Ef 3))), ((Ea 4), .inl (tc 0, 6, .inl (Ef 4))), ((Ea 5), .inl (tc 0, 6, .inl (Ef 5))), ((Ea 6), .inl (tc 0, 6, .inl (Ef 6))), ((Ea 7), .inl (tc 0, 6, .inl (Ef 7))), ((Ea 8), .inl (tc 0, 6, .inl (Ef 8)))] := hD₀
      replace hS := hS₀
      clear hP₀ hD₀ hS₀
      refine lv_aload_n hx hb dX5_giveBack_44 rfl (lv_at hl 2 rfl) ?_
      refine lv_iload_n hx hb dX5_giveBack_45 rfl (lv_at hl 1 rfl) ?_
      refine pf_X5_17 hx hb hts hown hK hP hD hS 0 rfl (Nat.le_of_ble_eq_true rfl) rfl rfl dX5_giveBack_46 (fun H locs hP₀ hD₀ hS₀ => ?_)
      replace hP : va_P D classes [((Pa 0), .inr (5, [.ref (Pa 1), .int x_3, .int (Pv 1)])), ((Pa 1), .inl (tc 5, 20, .inr (.inr (.inr (.inr (Pq 1)))))), ((Aa 0), .inr (9, [.int (Ev 0), .int (Ev 1), .int (Ev 2), .int (Ev 3), .int (Ev 4), .int (Ev 5), .ref (Aa 1), .ref (Aa 2), .ref (Aa 3), .ref (Aa 4), .ref (Aa 5), .ref (Aa 6), .ref (Aa 7), .ref (Aa 8)])), ((Aa 1), .inl (tc 0, 10, .inl sv_11)), ((Aa 2), .inl (tc 0, 10, .inl sv_12)), ((Aa 3), .inl (tc 0, 6, .inl sv_13)), ((Aa 4), .inl (tc 0, 6, .inl sv_14)), ((Aa 5), .inl (tc 0, 6, .inl sv_15)), ((Aa 6), .inl (tc 0, 6, .inl sv_16)), ((Aa 7), .inl (tc 0, 6, .inl sv_17)), ((Aa 8), .inl (tc 0, 6, .inl sv_18)), ((Ea 0), .inr (9, [.int (Ev 0), .int (Ev 1), .int (Ev 2), .int (Ev 3), .int (Ev 4), .int (Ev 5), .ref (Ea 1), .ref (Ea 2), .ref (Ea 3), .ref (Ea 4), .ref (Ea 5), .ref (Ea 6), .ref (Ea 7), .ref (Ea 8)])), ((Ea 1), .inl (tc 0, 10, .inl (Ef 1))), ((Ea 2), .inl (tc 0, 10, .inl (Ef 2))), ((Ea 3), .inl (tc 0, 6, .inl (Ef 3))), ((Ea 4), .inl (tc 0, 6, .inl (Ef 4))), ((Ea 5), .inl (tc 0, 6, .inl (Ef 5))), ((Ea 6), .inl (tc 0, 6, .inl (Ef 6))), ((Ea 7), .inl (tc 0, 6, .inl (Ef 7))), ((Ea 8), .inl (tc 0, 6, .inl (Ef 8)))] H := hP₀
      replace hD : va_D A [((Pa 0), .inr (5, [.ref (Pa 1), .int x_3, .int (Pv 1)])), ((Pa 1), .inl (tc 5, 20, .inr (.inr (.inr (.inr (Pq 1)))))), ((Aa 0), .inr (9, [.int (Ev 0), .int (Ev 1), .int (Ev 2), .int (Ev 3), .int (Ev 4), .int (Ev 5), .ref (Aa 1), .ref (Aa 2), .ref (Aa 3), .ref (Aa 4), .ref (Aa 5), .ref (Aa 6), .ref (Aa 7), .ref (Aa 8)])), ((Aa 1), .inl (tc 0, 10, .inl sv_11)), ((Aa 2), .inl (tc 0, 10, .inl sv_12)), ((Aa 3), .inl (tc 0, 6, .inl sv_13)), ((Aa 4), .inl (tc 0, 6, .inl sv_14)), ((Aa 5), .inl (tc 0, 6, .inl sv_15)), ((Aa 6), .inl (tc 0, 6, .inl sv_16)), ((Aa 7), .inl (tc 0, 6, .inl sv_17)), ((Aa 8), .inl (tc 0, 6, .inl sv_18)), ((Ea 0), .inr (9, [.int (Ev 0), .int (Ev 1), .int (Ev 2), .int (Ev 3), .int (Ev 4), .int (Ev 5), .ref (Ea 1), .ref (Ea 2), .ref (Ea 3), .ref (Ea 4), .ref (Ea 5), .ref (Ea 6), .ref (Ea 7), .ref (Ea 8)])), ((Ea 1), .inl (tc 0, 10, .inl (Ef 1))), ((Ea 2), .inl (tc 0, 10, .inl (Ef 2))), ((Ea 3), .inl (tc 0, 6, .inl (Ef 3))), ((Ea 4), .inl (tc 0, 6, .inl (Ef 4))), ((Ea 5), .inl (tc 0, 6, .inl (Ef 5))), ((Ea 6), .inl (tc 0, 6, .inl (Ef 6))), ((Ea 7), .inl (tc 0, 6, .inl (Ef 7))), ((Ea 8), .inl (tc 0, 6, .inl (Ef 8)))] := hD₀
      replace hS := hS₀
      clear hP₀ hD₀ hS₀
      refine lv_aload_n hx hb dX5_giveBack_49 rfl (lv_at hl 2 rfl) ?_
      refine lv_dup hx hb dX5_giveBack_50 rfl ?_
      refine gf_X5_21 hx hb hts hown hK hP 0 rfl rfl dX5_giveBack_51 ?_
      refine lv_iconst (v := 1) hx hb dX5_giveBack_54 (by decide) ?_
      refine lv_isub hx hb dX5_giveBack_55 ?_
      refine lv_topi (fun x_20 ex_20 => ?_)
      refine pf_X5_21 hx hb hts hown hK hP hD hS 0 rfl (Nat.le_of_ble_eq_true rfl) rfl rfl dX5_giveBack_56 (fun H locs hP₀ hD₀ hS₀ => ?_)
      replace hP : va_P D classes [((Pa 0), .inr (5, [.ref (Pa 1), .int x_3, .int x_20])), ((Pa 1), .inl (tc 5, 20, .inr (.inr (.inr (.inr (Pq 1)))))), ((Aa 0), .inr (9, [.int (Ev 0), .int (Ev 1), .int (Ev 2), .int (Ev 3), .int (Ev 4), .int (Ev 5), .ref (Aa 1), .ref (Aa 2), .ref (Aa 3), .ref (Aa 4), .ref (Aa 5), .ref (Aa 6), .ref (Aa 7), .ref (Aa 8)])), ((Aa 1), .inl (tc 0, 10, .inl sv_11)), ((Aa 2), .inl (tc 0, 10, .inl sv_12)), ((Aa 3), .inl (tc 0, 6, .inl sv_13)), ((Aa 4), .inl (tc 0, 6, .inl sv_14)), ((Aa 5), .inl (tc 0, 6, .inl sv_15)), ((Aa 6), .inl (tc 0, 6, .inl sv_16)), ((Aa 7), .inl (tc 0, 6, .inl sv_17)), ((Aa 8), .inl (tc 0, 6, .inl sv_18)), ((Ea 0), .inr (9, [.int (Ev 0), .int (Ev 1), .int (Ev 2), .int (Ev 3), .int (Ev 4), .int (Ev 5), .ref (Ea 1), .ref (Ea 2), .ref (Ea 3), .ref (Ea 4), .ref (Ea 5), .ref (Ea 6), .ref (Ea 7), .ref (Ea 8)])), ((Ea 1), .inl (tc 0, 10, .inl (Ef 1))), ((Ea 2), .inl (tc 0, 10, .inl (Ef 2))), ((Ea 3), .inl (tc 0, 6, .inl (Ef 3))), ((Ea 4), .inl (tc 0, 6, .inl (Ef 4))), ((Ea 5), .inl (tc 0, 6, .inl (Ef 5))), ((Ea 6), .inl (tc 0, 6, .inl (Ef 6))), ((Ea 7), .inl (tc 0, 6, .inl (Ef 7))), ((Ea 8), .inl (tc 0, 6, .inl (Ef 8)))] H := hP₀
      replace hD : va_D A [((Pa 0), .inr (5, [.ref (Pa 1), .int x_3, .int x_20])), ((Pa 1), .inl (tc 5, 20, .inr (.inr (.inr (.inr (Pq 1)))))), ((Aa 0), .inr (9, [.int (Ev 0), .int (Ev 1), .int (Ev 2), .int (Ev 3), .int (Ev 4), .int (Ev 5), .ref (Aa 1), .ref (Aa 2), .ref (Aa 3), .ref (Aa 4), .ref (Aa 5), .ref (Aa 6), .ref (Aa 7), .ref (Aa 8)])), ((Aa 1), .inl (tc 0, 10, .inl sv_11)), ((Aa 2), .inl (tc 0, 10, .inl sv_12)), ((Aa 3), .inl (tc 0, 6, .inl sv_13)), ((Aa 4), .inl (tc 0, 6, .inl sv_14)), ((Aa 5), .inl (tc 0, 6, .inl sv_15)), ((Aa 6), .inl (tc 0, 6, .inl sv_16)), ((Aa 7), .inl (tc 0, 6, .inl sv_17)), ((Aa 8), .inl (tc 0, 6, .inl sv_18)), ((Ea 0), .inr (9, [.int (Ev 0), .int (Ev 1), .int (Ev 2), .int (Ev 3), .int (Ev 4), .int (Ev 5), .ref (Ea 1), .ref (Ea 2), .ref (Ea 3), .ref (Ea 4), .ref (Ea 5), .ref (Ea 6), .ref (Ea 7), .ref (Ea 8)])), ((Ea 1), .inl (tc 0, 10, .inl (Ef 1))), ((Ea 2), .inl (tc 0, 10, .inl (Ef 2))), ((Ea 3), .inl (tc 0, 6, .inl (Ef 3))), ((Ea 4), .inl (tc 0, 6, .inl (Ef 4))), ((Ea 5), .inl (tc 0, 6, .inl (Ef 5))), ((Ea 6), .inl (tc 0, 6, .inl (Ef 6))), ((Ea 7), .inl (tc 0, 6, .inl (Ef 7))), ((Ea 8), .inl (tc 0, 6, .inl (Ef 8)))] := hD₀
      replace hS := hS₀
      clear hP₀ hD₀ hS₀
      refine lv_aload_n hx hb dX5_giveBack_59 rfl (lv_at hl 2 rfl) ?_
      refine gf_X5_21 hx hb hts hown hK hP 0 rfl rfl dX5_giveBack_60 ?_
      have ha_21 : 0 ≤ (x_3 : Int32).toInt ∧ (x_3 : Int32).toInt < 20 := by
        have z_1 := Int32.lt_iff_toInt_lt.mp (Int32.not_le.mp c_4)
        have z_2 := Int32.le_iff_toInt_le.mp c_5
        have y_0 : (0 : Int32).toInt = 0 := by decide
        have y_1 : (1 : Int32).toInt = 1 := by decide
        have y_20 : (20 : Int32).toInt = 20 := by decide
        have t_x_1 : x_1.toInt = ((Pv 0) : Int32).toInt + (20 : Int32).toInt := by rw [ex_1]; exact add_toInt (by omega) (by omega)
        have t_x_2 : x_2.toInt = (x_1 : Int32).toInt - (1 : Int32).toInt := by rw [ex_2]; exact sub_toInt (by omega) (by omega)
        have t_x_3 := rem_bounds (x := x_2) (y := 20) (by omega)
        rw [← ex_3] at t_x_3
        omega
      have hr_22 : 0 < (Pv 1).toInt := by
        have z_1 := Int32.lt_iff_toInt_lt.mp (Int32.not_le.mp c_4)
        have z_2 := Int32.le_iff_toInt_le.mp c_5
        have y_0 : (0 : Int32).toInt = 0 := by decide
        have y_1 : (1 : Int32).toInt = 1 := by decide
        have y_20 : (20 : Int32).toInt = 20 := by decide
        have t_x_1 : x_1.toInt = ((Pv 0) : Int32).toInt + (20 : Int32).toInt := by rw [ex_1]; exact add_toInt (by omega) (by omega)
        have t_x_2 : x_2.toInt = (x_1 : Int32).toInt - (1 : Int32).toInt := by rw [ex_2]; exact sub_toInt (by omega) (by omega)
        have t_x_3 := rem_bounds (x := x_2) (y := 20) (by omega)
        rw [← ex_3] at t_x_3
        omega
      have pf_23 : KyC dr (Ev 2) (Ev 3) (Ef 4) := h_ke hr_22
      have hr_24 : 0 < (Pv 1).toInt ∧ (x_3 : Int32).toInt = ((Pv 0).toInt + 19) % 20 ∧ (x_20 : Int32).toInt = (Pv 1).toInt - 1 := by
        have z_1 := Int32.lt_iff_toInt_lt.mp (Int32.not_le.mp c_4)
        have z_2 := Int32.le_iff_toInt_le.mp c_5
        have y_0 : (0 : Int32).toInt = 0 := by decide
        have y_1 : (1 : Int32).toInt = 1 := by decide
        have y_20 : (20 : Int32).toInt = 20 := by decide
        have t_x_1 : x_1.toInt = ((Pv 0) : Int32).toInt + (20 : Int32).toInt := by rw [ex_1]; exact add_toInt (by omega) (by omega)
        have t_x_2 : x_2.toInt = (x_1 : Int32).toInt - (1 : Int32).toInt := by rw [ex_2]; exact sub_toInt (by omega) (by omega)
        have t_x_3 := rem_bounds (x := x_2) (y := 20) (by omega)
        rw [← ex_3] at t_x_3
        have t_x_20 : x_20.toInt = ((Pv 1) : Int32).toInt - (1 : Int32).toInt := by rw [ex_20]; exact sub_toInt (by omega) (by omega)
        omega
      exact retI (v := x_20) hx hb hr hlk (rfl) hP hD hS (x_3, x_20, (Ev 0), (Ev 1), (Ev 2), (Ev 3), (Ev 4), (Ev 5), sv_11, sv_12, sv_13, sv_14, sv_15, sv_16, sv_17, sv_18) ⟨_, rfl, trivial, ha_21, h_bE, h_bE, ⟨Or.inr hr_24, (KyC.cpy pf_23 pf_19)⟩⟩ [0, 1, 2, 3, 4, 5, 6, 7, 8, 9, 10, 11, 12, 13, 14, 15, 16, 17, 18, 19] rfl rfl dX5_giveBack_63 (Nat.le_of_ble_eq_true rfl) (Nat.le_of_ble_eq_true rfl) rfl
    · skip
      refine lv_iconst (v := (-1)) hx hb dX5_giveBack_24 (by decide) ?_
      exact retI (v := (-1)) hx hb hr hlk (rfl) hP hD hS ((Pv 0), (Pv 1), (Av 0), (Av 1), (Av 2), (Av 3), (Av 4), (Av 5), (Af 1), (Af 2), (Af 3), (Af 4), (Af 5), (Af 6), (Af 7), (Af 8)) ⟨_, rfl, trivial, h_nx, h_bA, h_bE, ⟨Or.inl ⟨rfl, rfl⟩, h_ky⟩⟩ [0, 1, 2, 3, 4, 5, 6, 7, 8, 9, 10, 11, 12, 13, 14, 15, 16, 17, 18, 19] rfl rfl dX5_giveBack_25 (Nat.le_of_ble_eq_true rfl) (Nat.le_of_ble_eq_true rfl) rfl
set_option maxRecDepth 100000 in
theorem cu_hX5_giveBack_s (l : Launch) (D : va_G) (tc : Nat → ClassId) (sk : (Nat → Nat) × (Nat → Nat)) (Pa_0 : Nat) (Pa_1 : Nat) (Pv_0 : Int32) (Pv_1 : Int32) (Pq_1 : Nat → Option Nat) (Aa_0 : Nat) (Aa_1 : Nat) (Aa_2 : Nat) (Aa_3 : Nat) (Aa_4 : Nat) (Aa_5 : Nat) (Aa_6 : Nat) (Aa_7 : Nat) (Aa_8 : Nat) (Av_0 : Int32) (Av_1 : Int32) (Av_2 : Int32) (Av_3 : Int32) (Av_4 : Int32) (Av_5 : Int32) (Af_1 : Nat → Int32) (Af_2 : Nat → Int32) (Af_3 : Nat → Int32) (Af_4 : Nat → Int32) (Af_5 : Nat → Int32) (Af_6 : Nat → Int32) (Af_7 : Nat → Int32) (Af_8 : Nat → Int32) (Ea_0 : Nat) (Ea_1 : Nat) (Ea_2 : Nat) (Ea_3 : Nat) (Ea_4 : Nat) (Ea_5 : Nat) (Ea_6 : Nat) (Ea_7 : Nat) (Ea_8 : Nat) (Ev_0 : Int32) (Ev_1 : Int32) (Ev_2 : Int32) (Ev_3 : Int32) (Ev_4 : Int32) (Ev_5 : Int32) (Ef_1 : Nat → Int32) (Ef_2 : Nat → Int32) (Ef_3 : Nat → Int32) (Ef_4 : Nat → Int32) (Ef_5 : Nat → Int32) (Ef_6 : Nat → Int32) (Ef_7 : Nat → Int32) (Ef_8 : Nat → Int32) (dr : Nat → Int) (h_nx : 0 ≤ (Pv_0 : Int32).toInt ∧ (Pv_0 : Int32).toInt < 20) (h_q : ∀ j : Int32, j.toInt = (Pv_0.toInt + 19) % 20 → Pq_1 j.toNatClampNeg = some Ea_0) (h_bA : 0 ≤ (Av_3 : Int32).toInt ∧ (Av_3 : Int32).toInt ≤ 6) (h_bE : 0 ≤ (Ev_3 : Int32).toInt ∧ (Ev_3 : Int32).toInt ≤ 6) (h_sz : 0 ≤ Pv_1.toInt ∧ Pv_1.toInt ≤ 20) (h_ky : KyC dr Av_2 Av_3 Af_4) (h_ke : KeE dr Pv_1 Ev_2 Ev_3 Ef_4) : Ct l yX5_giveBack cX5_giveBack 4 (some .int) { frames := 2, cells := 0, slots := 0, locals := 61 } D tc sk [.ref Pa_0, .ref Aa_0] [(Pa_0, .inr (5, [.ref Pa_1, .int Pv_0, .int Pv_1])), (Pa_1, .inl (tc 5, 20, .inr (.inr (.inr (.inr Pq_1))))), (Aa_0, .inr (9, [.int Av_0, .int Av_1, .int Av_2, .int Av_3, .int Av_4, .int Av_5, .ref Aa_1, .ref Aa_2, .ref Aa_3, .ref Aa_4, .ref Aa_5, .ref Aa_6, .ref Aa_7, .ref Aa_8])), (Aa_1, .inl (tc 0, 10, .inl Af_1)), (Aa_2, .inl (tc 0, 10, .inl Af_2)), (Aa_3, .inl (tc 0, 6, .inl Af_3)), (Aa_4, .inl (tc 0, 6, .inl Af_4)), (Aa_5, .inl (tc 0, 6, .inl Af_5)), (Aa_6, .inl (tc 0, 6, .inl Af_6)), (Aa_7, .inl (tc 0, 6, .inl Af_7)), (Aa_8, .inl (tc 0, 6, .inl Af_8)), (Ea_0, .inr (9, [.int Ev_0, .int Ev_1, .int Ev_2, .int Ev_3, .int Ev_4, .int Ev_5, .ref Ea_1, .ref Ea_2, .ref Ea_3, .ref Ea_4, .ref Ea_5, .ref Ea_6, .ref Ea_7, .ref Ea_8])), (Ea_1, .inl (tc 0, 10, .inl Ef_1)), (Ea_2, .inl (tc 0, 10, .inl Ef_2)), (Ea_3, .inl (tc 0, 6, .inl Ef_3)), (Ea_4, .inl (tc 0, 6, .inl Ef_4)), (Ea_5, .inl (tc 0, 6, .inl Ef_5)), (Ea_6, .inl (tc 0, 6, .inl Ef_6)), (Ea_7, .inl (tc 0, 6, .inl Ef_7)), (Ea_8, .inl (tc 0, 6, .inl Ef_8))] (fun (v : Option Value) (u : (Int32) × (Int32) × (Int32) × (Int32) × (Int32) × (Int32) × (Int32) × (Int32) × (Nat → Int32) × (Nat → Int32) × (Nat → Int32) × (Nat → Int32) × (Nat → Int32) × (Nat → Int32) × (Nat → Int32) × (Nat → Int32)) => match u with | (oo0x1, oo0x2, oo0x3, oo0x4, oo0x5, oo0x6, oo0x7, oo0x8, oo0x9, oo0x10, oo0x11, oo0x12, oo0x13, oo0x14, oo0x15, oo0x16) => ∃ r : Int32, v = some (.int r) ∧ (True) ∧ (0 ≤ (oo0x1 : Int32).toInt ∧ (oo0x1 : Int32).toInt < 20) ∧ (0 ≤ (oo0x6 : Int32).toInt ∧ (oo0x6 : Int32).toInt ≤ 6) ∧ (0 ≤ (Ev_3 : Int32).toInt ∧ (Ev_3 : Int32).toInt ≤ 6) ∧ (GbK dr Pv_0 Pv_1 oo0x1 oo0x2 oo0x5 oo0x6 oo0x12)) (fun (u : (Int32) × (Int32) × (Int32) × (Int32) × (Int32) × (Int32) × (Int32) × (Int32) × (Nat → Int32) × (Nat → Int32) × (Nat → Int32) × (Nat → Int32) × (Nat → Int32) × (Nat → Int32) × (Nat → Int32) × (Nat → Int32)) => match u with | (oo0x1, oo0x2, oo0x3, oo0x4, oo0x5, oo0x6, oo0x7, oo0x8, oo0x9, oo0x10, oo0x11, oo0x12, oo0x13, oo0x14, oo0x15, oo0x16) => [(Pa_0, .inr (5, [.ref Pa_1, .int oo0x1, .int oo0x2])), (Pa_1, .inl (tc 5, 20, .inr (.inr (.inr (.inr Pq_1))))), (Aa_0, .inr (9, [.int oo0x3, .int oo0x4, .int oo0x5, .int oo0x6, .int oo0x7, .int oo0x8, .ref Aa_1, .ref Aa_2, .ref Aa_3, .ref Aa_4, .ref Aa_5, .ref Aa_6, .ref Aa_7, .ref Aa_8])), (Aa_1, .inl (tc 0, 10, .inl oo0x9)), (Aa_2, .inl (tc 0, 10, .inl oo0x10)), (Aa_3, .inl (tc 0, 6, .inl oo0x11)), (Aa_4, .inl (tc 0, 6, .inl oo0x12)), (Aa_5, .inl (tc 0, 6, .inl oo0x13)), (Aa_6, .inl (tc 0, 6, .inl oo0x14)), (Aa_7, .inl (tc 0, 6, .inl oo0x15)), (Aa_8, .inl (tc 0, 6, .inl oo0x16)), (Ea_0, .inr (9, [.int Ev_0, .int Ev_1, .int Ev_2, .int Ev_3, .int Ev_4, .int Ev_5, .ref Ea_1, .ref Ea_2, .ref Ea_3, .ref Ea_4, .ref Ea_5, .ref Ea_6, .ref Ea_7, .ref Ea_8])), (Ea_1, .inl (tc 0, 10, .inl Ef_1)), (Ea_2, .inl (tc 0, 10, .inl Ef_2)), (Ea_3, .inl (tc 0, 6, .inl Ef_3)), (Ea_4, .inl (tc 0, 6, .inl Ef_4)), (Ea_5, .inl (tc 0, 6, .inl Ef_5)), (Ea_6, .inl (tc 0, 6, .inl Ef_6)), (Ea_7, .inl (tc 0, 6, .inl Ef_7)), (Ea_8, .inl (tc 0, 6, .inl Ef_8))]) 0 0 :=
  ct_hX5_giveBack_s l D tc sk (fun k => ([Pa_0, Pa_1] : List (Nat)).getD k 0) (fun k => ([Pv_0, Pv_1] : List (Int32)).getD k 0) (fun k => ([(fun _ => none), Pq_1] : List (Nat → Option Nat)).getD k (fun _ => none)) (fun k => ([Aa_0, Aa_1, Aa_2, Aa_3, Aa_4, Aa_5, Aa_6, Aa_7, Aa_8] : List (Nat)).getD k 0) (fun k => ([Av_0, Av_1, Av_2, Av_3, Av_4, Av_5] : List (Int32)).getD k 0) (fun k => ([(fun _ => 0), Af_1, Af_2, Af_3, Af_4, Af_5, Af_6, Af_7, Af_8] : List (Nat → Int32)).getD k (fun _ => 0)) (fun k => ([Ea_0, Ea_1, Ea_2, Ea_3, Ea_4, Ea_5, Ea_6, Ea_7, Ea_8] : List (Nat)).getD k 0) (fun k => ([Ev_0, Ev_1, Ev_2, Ev_3, Ev_4, Ev_5] : List (Int32)).getD k 0) (fun k => ([(fun _ => 0), Ef_1, Ef_2, Ef_3, Ef_4, Ef_5, Ef_6, Ef_7, Ef_8] : List (Nat → Int32)).getD k (fun _ => 0)) dr h_nx h_q h_bA h_bE h_sz h_ky h_ke
