set_option maxRecDepth 16384
set_option maxHeartbeats 4000000 in
set_option maxRecDepth 100000 in
theorem ct_zX0_read (l : Launch) (D : va_G) (tc : Nat → ClassId) (sk : (Nat → Nat) × (Nat → Nat)) (Wa : Nat → Nat) (Aa : Nat → Nat) (Av : Nat → Int32) (Af : Nat → Nat → Int32) (Ta : Nat → Nat) (Tv : Nat → Int32) (Tf : Nat → Nat → Int32) (h_tape : 0 ≤ ((Tv 0) : Int32).toInt ∧ ((Tv 0) : Int32).toInt ≤ 400 ∧ 0 ≤ ((Tv 1) : Int32).toInt ∧ ((Tv 1) : Int32).toInt ≤ 400 ∧ 0 ≤ ((Tv 2) : Int32).toInt ∧ ((Tv 2) : Int32).toInt ≤ 400) (h_by : Byt (Tf 1)) (h_bu : 0 ≤ ((Av 3) : Int32).toInt ∧ ((Av 3) : Int32).toInt ≤ 6) : Ct l yX0_read cX0_read 3 (some .int) { frames := 7, cells := 0, slots := 0, locals := 156 } D tc sk [.ref (Wa 0), .ref (Ta 0)] [((Wa 0), .inr (0, [.ref (Aa 0)])), ((Aa 0), .inr (9, [.int (Av 0), .int (Av 1), .int (Av 2), .int (Av 3), .int (Av 4), .int (Av 5), .ref (Aa 1), .ref (Aa 2), .ref (Aa 3), .ref (Aa 4), .ref (Aa 5), .ref (Aa 6), .ref (Aa 7), .ref (Aa 8)])), ((Aa 1), .inl (tc 0, 10, .inl (Af 1))), ((Aa 2), .inl (tc 0, 10, .inl (Af 2))), ((Aa 3), .inl (tc 0, 6, .inl (Af 3))), ((Aa 4), .inl (tc 0, 6, .inl (Af 4))), ((Aa 5), .inl (tc 0, 6, .inl (Af 5))), ((Aa 6), .inl (tc 0, 6, .inl (Af 6))), ((Aa 7), .inl (tc 0, 6, .inl (Af 7))), ((Aa 8), .inl (tc 0, 6, .inl (Af 8))), ((Ta 0), .inr (10, [.ref (Ta 1), .int (Tv 0), .int (Tv 1), .int (Tv 2), .int (Tv 3), .int (Tv 4)])), ((Ta 1), .inl (tc 0, 400, .inl (Tf 1)))] (fun (v : Option Value) (u : (Int32) × (Int32) × (Int32) × (Int32) × (Nat → Int32) × (Nat → Int32) × (Nat → Int32) × (Nat → Int32) × (Nat → Int32) × (Nat → Int32) × (Nat → Int32) × (Nat → Int32) × (Int32) × (Int32) × (Int32) × (Int32)) => match u with | (oo0x1, oo0x2, oo0x3, oo0x4, oo0x5, oo0x6, oo0x7, oo0x8, oo0x9, oo0x10, oo0x11, oo0x12, oo0x13, oo0x14, oo0x15, oo0x16) => ∃ r : Int32, v = some (.int r) ∧ (QkR (cB (Tf 1) (Tv 0)) r oo0x1 oo0x2 oo0x3 oo0x4 0 0 oo0x5 oo0x6 oo0x7 oo0x8 oo0x9 oo0x10 oo0x11 oo0x12) ∧ (0 ≤ ((Tv 0) : Int32).toInt ∧ ((Tv 0) : Int32).toInt ≤ 400 ∧ 0 ≤ (oo0x13 : Int32).toInt ∧ (oo0x13 : Int32).toInt ≤ 400 ∧ 0 ≤ (oo0x14 : Int32).toInt ∧ (oo0x14 : Int32).toInt ≤ 400) ∧ (0 ≤ (oo0x4 : Int32).toInt ∧ (oo0x4 : Int32).toInt ≤ 6)) (fun (u : (Int32) × (Int32) × (Int32) × (Int32) × (Nat → Int32) × (Nat → Int32) × (Nat → Int32) × (Nat → Int32) × (Nat → Int32) × (Nat → Int32) × (Nat → Int32) × (Nat → Int32) × (Int32) × (Int32) × (Int32) × (Int32)) => match u with | (oo0x1, oo0x2, oo0x3, oo0x4, oo0x5, oo0x6, oo0x7, oo0x8, oo0x9, oo0x10, oo0x11, oo0x12, oo0x13, oo0x14, oo0x15, oo0x16) => [((Wa 0), .inr (0, [.ref (Aa 0)])), ((Aa 0), .inr (9, [.int oo0x1, .int oo0x2, .int oo0x3, .int oo0x4, .int 0, .int 0, .ref (Aa 1), .ref (Aa 2), .ref (Aa 3), .ref (Aa 4), .ref (Aa 5), .ref (Aa 6), .ref (Aa 7), .ref (Aa 8)])), ((Aa 1), .inl (tc 0, 10, .inl oo0x5)), ((Aa 2), .inl (tc 0, 10, .inl oo0x6)), ((Aa 3), .inl (tc 0, 6, .inl oo0x7)), ((Aa 4), .inl (tc 0, 6, .inl oo0x8)), ((Aa 5), .inl (tc 0, 6, .inl oo0x9)), ((Aa 6), .inl (tc 0, 6, .inl oo0x10)), ((Aa 7), .inl (tc 0, 6, .inl oo0x11)), ((Aa 8), .inl (tc 0, 6, .inl oo0x12)), ((Ta 0), .inr (10, [.ref (Ta 1), .int (Tv 0), .int oo0x13, .int oo0x14, .int oo0x15, .int oo0x16])), ((Ta 1), .inl (tc 0, 400, .inl (Tf 1)))]) 0 0 := by
  refine Ct.start (by decide) (Nat.le_of_ble_eq_true rfl) (fun p e s m below meth c A ls hx hb hr hlk hin hml hown hts hK hX hP hD hA hl hS => ?_)
  have hl : lv_has ls 3 [(0, .ref (Wa 0)), (1, .ref (Ta 0))] := hl
  refine lv_aload_n hx hb dX0_read_0 rfl (lv_at hl 0 rfl) ?_
  refine gf_X0_12 hx hb hts hown hK hP 0 rfl rfl dX0_read_1 ?_
  refine cV (a := (Aa 0)) (As := []) (rest := []) (wr := [((Wa 0), .inr (0, [.ref (Aa 0)])), ((Ta 0), .inr (10, [.ref (Ta 1), .int (Tv 0), .int (Tv 1), .int (Tv 2), .int (Tv 3), .int (Tv 4)])), ((Ta 1), .inl (tc 0, 400, .inl (Tf 1)))]) ⟨hx, hb, hml, hown, hts⟩ hK hX hA (cu_zX9_clear l D tc sk (Aa 0) (Aa 1) (Aa 2) (Aa 3) (Aa 4) (Aa 5) (Aa 6) (Aa 7) (Aa 8) (Av 0) (Av 1) (Av 2) (Av 3) (Av 4) (Av 5) (Af 1) (Af 2) (Af 3) (Af 4) (Af 5) (Af 6) (Af 7) (Af 8)) k_470 k_467 k_468 k_469 k_98 pl_X9_clear ⟨Nat.le_of_ble_eq_true rfl, Nat.le_of_ble_eq_true rfl⟩ rfl rfl (va_recv hK hP (ci := 9) (q0 := 1) rfl rfl) hP hD hS [1, 2, 3, 4, 5, 6, 7, 8, 9] [0, 10, 11] rfl rfl rfl rfl rfl (by decide) rfl hl.1 rfl (Nat.le_of_ble_eq_true rfl) dX0_read_4 ⟨Nat.le_of_ble_eq_true rfl, Nat.le_of_ble_eq_true rfl⟩ (fun v_1 u_2 H locs hv_3 hP₀ hD₀ hS₀ => ?_)
  obtain ⟨sv_4, sv_5, sv_6, sv_7, sv_8, sv_9, sv_10, sv_11⟩ := u_2
  obtain ⟨rfl, pf_12⟩ := hv_3
  have pf_12 : ShC 0 0 0 0 0 0 sv_4 sv_5 sv_6 sv_7 sv_8 sv_9 sv_10 sv_11 qz_0 := pf_12
  refine W.eq (g2 := F0 m 7 ls []) rfl ?_
  replace hP : va_P D classes [((Wa 0), .inr (0, [.ref (Aa 0)])), ((Ta 0), .inr (10, [.ref (Ta 1), .int (Tv 0), .int (Tv 1), .int (Tv 2), .int (Tv 3), .int (Tv 4)])), ((Ta 1), .inl (tc 0, 400, .inl (Tf 1))), ((Aa 0), .inr (9, [.int 0, .int 0, .int 0, .int 0, .int 0, .int 0, .ref (Aa 1), .ref (Aa 2), .ref (Aa 3), .ref (Aa 4), .ref (Aa 5), .ref (Aa 6), .ref (Aa 7), .ref (Aa 8)])), ((Aa 1), .inl (tc 0, 10, .inl sv_4)), ((Aa 2), .inl (tc 0, 10, .inl sv_5)), ((Aa 3), .inl (tc 0, 6, .inl sv_6)), ((Aa 4), .inl (tc 0, 6, .inl sv_7)), ((Aa 5), .inl (tc 0, 6, .inl sv_8)), ((Aa 6), .inl (tc 0, 6, .inl sv_9)), ((Aa 7), .inl (tc 0, 6, .inl sv_10)), ((Aa 8), .inl (tc 0, 6, .inl sv_11))] H := hP₀
  replace hD : va_D A [((Wa 0), .inr (0, [.ref (Aa 0)])), ((Ta 0), .inr (10, [.ref (Ta 1), .int (Tv 0), .int (Tv 1), .int (Tv 2), .int (Tv 3), .int (Tv 4)])), ((Ta 1), .inl (tc 0, 400, .inl (Tf 1))), ((Aa 0), .inr (9, [.int 0, .int 0, .int 0, .int 0, .int 0, .int 0, .ref (Aa 1), .ref (Aa 2), .ref (Aa 3), .ref (Aa 4), .ref (Aa 5), .ref (Aa 6), .ref (Aa 7), .ref (Aa 8)])), ((Aa 1), .inl (tc 0, 10, .inl sv_4)), ((Aa 2), .inl (tc 0, 10, .inl sv_5)), ((Aa 3), .inl (tc 0, 6, .inl sv_6)), ((Aa 4), .inl (tc 0, 6, .inl sv_7)), ((Aa 5), .inl (tc 0, 6, .inl sv_8)), ((Aa 6), .inl (tc 0, 6, .inl sv_9)), ((Aa 7), .inl (tc 0, 6, .inl sv_10)), ((Aa 8), .inl (tc 0, 6, .inl sv_11))] := hD₀
  replace hS := hS₀
  clear hP₀ hD₀ hS₀
  refine lv_aload_n hx hb dX0_read_7 rfl (lv_at hl 1 rfl) ?_
  refine cV (a := (Ta 0)) (As := []) (rest := []) (wr := [((Wa 0), .inr (0, [.ref (Aa 0)])), ((Aa 0), .inr (9, [.int 0, .int 0, .int 0, .int 0, .int 0, .int 0, .ref (Aa 1), .ref (Aa 2), .ref (Aa 3), .ref (Aa 4), .ref (Aa 5), .ref (Aa 6), .ref (Aa 7), .ref (Aa 8)])), ((Aa 1), .inl (tc 0, 10, .inl sv_4)), ((Aa 2), .inl (tc 0, 10, .inl sv_5)), ((Aa 3), .inl (tc 0, 6, .inl sv_6)), ((Aa 4), .inl (tc 0, 6, .inl sv_7)), ((Aa 5), .inl (tc 0, 6, .inl sv_8)), ((Aa 6), .inl (tc 0, 6, .inl sv_9)), ((Aa 7), .inl (tc 0, 6, .inl sv_10)), ((Aa 8), .inl (tc 0, 6, .inl sv_11))]) ⟨hx, hb, hml, hown, hts⟩ hK hX hA (cu_fX10_begin l D tc sk (Ta 0) (Ta 1) (Tv 0) (Tv 1) (Tv 2) (Tv 3) (Tv 4) (Tf 1) h_tape h_by) k_474 k_471 k_472 k_473 k_96 pl_X10_begin ⟨Nat.le_of_ble_eq_true rfl, Nat.le_of_ble_eq_true rfl⟩ rfl rfl (va_recv hK hP (ci := 10) (q0 := 1) rfl rfl) hP hD hS [1, 2] [0, 3, 4, 5, 6, 7, 8, 9, 10, 11] rfl rfl rfl rfl rfl (by decide) rfl hl.1 rfl (Nat.le_of_ble_eq_true rfl) dX0_read_8 ⟨Nat.le_of_ble_eq_true rfl, Nat.le_of_ble_eq_true rfl⟩ (fun v_13 u_14 H locs hv_15 hP₀ hD₀ hS₀ => ?_)
  obtain ⟨sv_16, sv_17, sv_18⟩ := u_14
  obtain ⟨rfl, pf_19, pf_20⟩ := hv_15
  have pf_19 : 0 ≤ ((Tv 0) : Int32).toInt ∧ ((Tv 0) : Int32).toInt ≤ 400 ∧ 0 ≤ (sv_16 : Int32).toInt ∧ (sv_16 : Int32).toInt ≤ 400 ∧ 0 ≤ (sv_17 : Int32).toInt ∧ (sv_17 : Int32).toInt ≤ 400 := pf_19
  have pf_20 : TpR (Tf 1) (Tv 0) (rSK (cB (Tf 1) (Tv 0)) (.ok (0, 0))) sv_16 sv_17 sv_18 0 := pf_20
  obtain ⟨ro_21, ero_21⟩ : ∃ z : Except Int (Nat × Nat), z = (rSK (cB (Tf 1) (Tv 0)) (.ok (0, 0))) := ⟨_, rfl⟩
  rw [← ero_21] at pf_20
  have tb_22 : TpB (rTE (cB (Tf 1) (Tv 0)) ro_21) sv_17 0 := TpR.tb pf_20
  refine W.eq (g2 := F0 m 11 ls []) rfl ?_
  replace hP : va_P D classes [((Wa 0), .inr (0, [.ref (Aa 0)])), ((Aa 0), .inr (9, [.int 0, .int 0, .int 0, .int 0, .int 0, .int 0, .ref (Aa 1), .ref (Aa 2), .ref (Aa 3), .ref (Aa 4), .ref (Aa 5), .ref (Aa 6), .ref (Aa 7), .ref (Aa 8)])), ((Aa 1), .inl (tc 0, 10, .inl sv_4)), ((Aa 2), .inl (tc 0, 10, .inl sv_5)), ((Aa 3), .inl (tc 0, 6, .inl sv_6)), ((Aa 4), .inl (tc 0, 6, .inl sv_7)), ((Aa 5), .inl (tc 0, 6, .inl sv_8)), ((Aa 6), .inl (tc 0, 6, .inl sv_9)), ((Aa 7), .inl (tc 0, 6, .inl sv_10)), ((Aa 8), .inl (tc 0, 6, .inl sv_11)), ((Ta 0), .inr (10, [.ref (Ta 1), .int (Tv 0), .int sv_16, .int sv_17, .int sv_18, .int 0])), ((Ta 1), .inl (tc 0, 400, .inl (Tf 1)))] H := hP₀
  replace hD : va_D A [((Wa 0), .inr (0, [.ref (Aa 0)])), ((Aa 0), .inr (9, [.int 0, .int 0, .int 0, .int 0, .int 0, .int 0, .ref (Aa 1), .ref (Aa 2), .ref (Aa 3), .ref (Aa 4), .ref (Aa 5), .ref (Aa 6), .ref (Aa 7), .ref (Aa 8)])), ((Aa 1), .inl (tc 0, 10, .inl sv_4)), ((Aa 2), .inl (tc 0, 10, .inl sv_5)), ((Aa 3), .inl (tc 0, 6, .inl sv_6)), ((Aa 4), .inl (tc 0, 6, .inl sv_7)), ((Aa 5), .inl (tc 0, 6, .inl sv_8)), ((Aa 6), .inl (tc 0, 6, .inl sv_9)), ((Aa 7), .inl (tc 0, 6, .inl sv_10)), ((Aa 8), .inl (tc 0, 6, .inl sv_11)), ((Ta 0), .inr (10, [.ref (Ta 1), .int (Tv 0), .int sv_16, .int sv_17, .int sv_18, .int 0])), ((Ta 1), .inl (tc 0, 400, .inl (Tf 1)))] := hD₀
  replace hS := hS₀
  clear hP₀ hD₀ hS₀
  refine lv_iconst (v := 0) hx hb dX0_read_11 (by decide) ?_
  refine lv_istore_n (lv' := [(2, .int 0), (0, .ref (Wa 0)), (1, .ref (Ta 0))]) hx hb dX0_read_12 rfl hl (by decide) rfl (fun ls hl₀ => ?_)
  replace hl := hl₀
  clear hl₀
  have loop_53 : ∀ (n_51 : Nat) (vy_37 : Int32) (vy_38 : Int32) (vy_39 : Int32) (vy_40 : Int32) (vy_41 : Int32) (vy_42 : Nat → Int32) (vy_43 : Nat → Int32) (vy_44 : Nat → Int32) (vy_45 : Nat → Int32) (vy_46 : Nat → Int32) (vy_47 : Int32) (vy_48 : Int32) (vy_49 : Int32) (vy_50 : Int32) (H : Heap) (locs : List Loc) (ls : Array Slot), (42 - (vy_37 : Int32).toInt).toNat < n_51 → (0 ≤ (vy_37 : Int32).toInt ∧ (vy_37 : Int32).toInt ≤ 41) → (0 ≤ ((Tv 0) : Int32).toInt ∧ ((Tv 0) : Int32).toInt ≤ 400 ∧ 0 ≤ (vy_47 : Int32).toInt ∧ (vy_47 : Int32).toInt ≤ 400 ∧ 0 ≤ (vy_48 : Int32).toInt ∧ (vy_48 : Int32).toInt ≤ 400) → (0 ≤ (vy_41 : Int32).toInt ∧ (vy_41 : Int32).toInt ≤ 6) → (QbL (Tf 1) (Tv 0) vy_47 vy_48 vy_49 vy_50 vy_38 vy_39 vy_40 vy_41 0 0 vy_42 vy_43 vy_44 vy_45 vy_46 sv_9 sv_10 sv_11 vy_37) → va_P D classes [((Wa 0), .inr (0, [.ref (Aa 0)])), ((Aa 0), .inr (9, [.int vy_38, .int vy_39, .int vy_40, .int vy_41, .int 0, .int 0, .ref (Aa 1), .ref (Aa 2), .ref (Aa 3), .ref (Aa 4), .ref (Aa 5), .ref (Aa 6), .ref (Aa 7), .ref (Aa 8)])), ((Aa 1), .inl (tc 0, 10, .inl vy_42)), ((Aa 2), .inl (tc 0, 10, .inl vy_43)), ((Aa 3), .inl (tc 0, 6, .inl vy_44)), ((Aa 4), .inl (tc 0, 6, .inl vy_45)), ((Aa 5), .inl (tc 0, 6, .inl vy_46)), ((Aa 6), .inl (tc 0, 6, .inl sv_9)), ((Aa 7), .inl (tc 0, 6, .inl sv_10)), ((Aa 8), .inl (tc 0, 6, .inl sv_11)), ((Ta 0), .inr (10, [.ref (Ta 1), .int (Tv 0), .int vy_47, .int vy_48, .int vy_49, .int vy_50])), ((Ta 1), .inl (tc 0, 400, .inl (Tf 1)))] H → va_D A [((Wa 0), .inr (0, [.ref (Aa 0)])), ((Aa 0), .inr (9, [.int vy_38, .int vy_39, .int vy_40, .int vy_41, .int 0, .int 0, .ref (Aa 1), .ref (Aa 2), .ref (Aa 3), .ref (Aa 4), .ref (Aa 5), .ref (Aa 6), .ref (Aa 7), .ref (Aa 8)])), ((Aa 1), .inl (tc 0, 10, .inl vy_42)), ((Aa 2), .inl (tc 0, 10, .inl vy_43)), ((Aa 3), .inl (tc 0, 6, .inl vy_44)), ((Aa 4), .inl (tc 0, 6, .inl vy_45)), ((Aa 5), .inl (tc 0, 6, .inl vy_46)), ((Aa 6), .inl (tc 0, 6, .inl sv_9)), ((Aa 7), .inl (tc 0, 6, .inl sv_10)), ((Aa 8), .inl (tc 0, 6, .inl sv_11)), ((Ta 0), .inr (10, [.ref (Ta 1), .int (Tv 0), .int vy_47, .int vy_48, .int vy_49, .int vy_50])), ((Ta 1), .inl (tc 0, 400, .inl (Tf 1)))] → va_S A s.heap H locs → lv_has ls 3 [(2, .int vy_37), (0, .ref (Wa 0)), (1, .ref (Ta 0))] → W p l e ({ frames := 7, cells := 0, slots := 0, locals := 156 }) s m ([.ref (Wa 0), .ref (Ta 0)].toArray) below meth c H locs 0 0 (MQ below (QW (fun (v : Option Value) (u : (Int32) × (Int32) × (Int32) × (Int32) × (Nat → Int32) × (Nat → Int32) × (Nat → Int32) × (Nat → Int32) × (Nat → Int32) × (Nat → Int32) × (Nat → Int32) × (Nat → Int32) × (Int32) × (Int32) × (Int32) × (Int32)) => match u with | (oo0x1, oo0x2, oo0x3, oo0x4, oo0x5, oo0x6, oo0x7, oo0x8, oo0x9, oo0x10, oo0x11, oo0x12, oo0x13, oo0x14, oo0x15, oo0x16) => ∃ r : Int32, v = some (.int r) ∧ (QkR (cB (Tf 1) (Tv 0)) r oo0x1 oo0x2 oo0x3 oo0x4 0 0 oo0x5 oo0x6 oo0x7 oo0x8 oo0x9 oo0x10 oo0x11 oo0x12) ∧ (0 ≤ ((Tv 0) : Int32).toInt ∧ ((Tv 0) : Int32).toInt ≤ 400 ∧ 0 ≤ (oo0x13 : Int32).toInt ∧ (oo0x13 : Int32).toInt ≤ 400 ∧ 0 ≤ (oo0x14 : Int32).toInt ∧ (oo0x14 : Int32).toInt ≤ 400) ∧ (0 ≤ (oo0x4 : Int32).toInt ∧ (oo0x4 : Int32).toInt ≤ 6)) (BW D (fun (u : (Int32) × (Int32) × (Int32) × (Int32) × (Nat → Int32) × (Nat → Int32) × (Nat → Int32) × (Nat → Int32) × (Nat → Int32) × (Nat → Int32) × (Nat → Int32) × (Nat → Int32) × (Int32) × (Int32) × (Int32) × (Int32)) => match u with | (oo0x1, oo0x2, oo0x3, oo0x4, oo0x5, oo0x6, oo0x7, oo0x8, oo0x9, oo0x10, oo0x11, oo0x12, oo0x13, oo0x14, oo0x15, oo0x16) => [((Wa 0), .inr (0, [.ref (Aa 0)])), ((Aa 0), .inr (9, [.int oo0x1, .int oo0x2, .int oo0x3, .int oo0x4, .int 0, .int 0, .ref (Aa 1), .ref (Aa 2), .ref (Aa 3), .ref (Aa 4), .ref (Aa 5), .ref (Aa 6), .ref (Aa 7), .ref (Aa 8)])), ((Aa 1), .inl (tc 0, 10, .inl oo0x5)), ((Aa 2), .inl (tc 0, 10, .inl oo0x6)), ((Aa 3), .inl (tc 0, 6, .inl oo0x7)), ((Aa 4), .inl (tc 0, 6, .inl oo0x8)), ((Aa 5), .inl (tc 0, 6, .inl oo0x9)), ((Aa 6), .inl (tc 0, 6, .inl oo0x10)), ((Aa 7), .inl (tc 0, 6, .inl oo0x11)), ((Aa 8), .inl (tc 0, 6, .inl oo0x12)), ((Ta 0), .inr (10, [.ref (Ta 1), .int (Tv 0), .int oo0x13, .int oo0x14, .int oo0x15, .int oo0x16])), ((Ta 1), .inl (tc 0, 400, .inl (Tf 1)))]) A) A) ([.ref (Wa 0), .ref (Ta 0)].toArray) s 0 0 A) (F0 m 13 ls []) := by
    clear hP hD hS hl
    intro n_51
    induction n_51 with
    | zero =>
      intro vy_37 vy_38 vy_39 vy_40 vy_41 vy_42 vy_43 vy_44 vy_45 vy_46 vy_47 vy_48 vy_49 vy_50 H locs ls h1
      exact absurd h1 (Nat.not_lt_zero _)
    | succ n_51 ih_52 =>
      intro vy_37 vy_38 vy_39 vy_40 vy_41 vy_42 vy_43 vy_44 vy_45 vy_46 vy_47 vy_48 vy_49 vy_50 H locs ls hn_58 pf_54 pf_55 pf_56 pf_57 hP hD hS hl
      obtain ⟨bq_59, pf_60, pf_61, pf_62⟩ := id pf_57
      obtain ⟨ro_63, ero_63⟩ : ∃ z : Except Int (Nat × Nat), z = (fsC bq_59) := ⟨_, rfl⟩
      rw [← ero_63] at pf_60
      have tb_64 : TpB (rTE (cB (Tf 1) (Tv 0)) ro_63) vy_48 vy_50 := TpR.tb pf_60
      have pf_65 : FsR bq_59 ro_63 := ero_63.symm
      refine lv_iload_n hx hb dX0_read_13 rfl (lv_at hl 0 rfl) ?_
      refine lv_bipush (v := 40) hx hb dX0_read_14 (by decide) ?_
      refine lv_icmp_gt (tgt := 44) hx hb dX0_read_16 (by decide) (fun c_66 => ?_) (fun c_66 => ?_)
      · skip
        refine lv_aload_n hx hb dX0_read_44 rfl (lv_at hl 2 rfl) ?_
        refine cV (a := (Ta 0)) (As := []) (rest := []) (wr := [((Wa 0), .inr (0, [.ref (Aa 0)])), ((Aa 0), .inr (9, [.int vy_38, .int vy_39, .int vy_40, .int vy_41, .int 0, .int 0, .ref (Aa 1), .ref (Aa 2), .ref (Aa 3), .ref (Aa 4), .ref (Aa 5), .ref (Aa 6), .ref (Aa 7), .ref (Aa 8)])), ((Aa 1), .inl (tc 0, 10, .inl vy_42)), ((Aa 2), .inl (tc 0, 10, .inl vy_43)), ((Aa 3), .inl (tc 0, 6, .inl vy_44)), ((Aa 4), .inl (tc 0, 6, .inl vy_45)), ((Aa 5), .inl (tc 0, 6, .inl vy_46)), ((Aa 6), .inl (tc 0, 6, .inl sv_9)), ((Aa 7), .inl (tc 0, 6, .inl sv_10)), ((Aa 8), .inl (tc 0, 6, .inl sv_11))]) ⟨hx, hb, hml, hown, hts⟩ hK hX hA (cu_fX10_finish l D tc sk (Ta 0) (Ta 1) (Tv 0) vy_47 vy_48 vy_49 vy_50 (Tf 1) ro_63 pf_55 h_by pf_60) k_595 k_592 k_593 k_594 k_96 pl_X10_finish ⟨Nat.le_of_ble_eq_true rfl, Nat.le_of_ble_eq_true rfl⟩ rfl rfl (va_recv hK hP (ci := 10) (q0 := 10) rfl rfl) hP hD hS [10, 11] [0, 1, 2, 3, 4, 5, 6, 7, 8, 9] rfl rfl rfl rfl rfl (by decide) rfl hl.1 rfl (Nat.le_of_ble_eq_true rfl) dX0_read_45 ⟨Nat.le_of_ble_eq_true rfl, Nat.le_of_ble_eq_true rfl⟩ (fun v_67 u_68 H locs hv_69 hP₀ hD₀ hS₀ => ?_)
        obtain ⟨sv_70, sv_71⟩ := u_68
        obtain ⟨rfl, pf_72, pf_73⟩ := hv_69
        have pf_72 : 0 ≤ ((Tv 0) : Int32).toInt ∧ ((Tv 0) : Int32).toInt ≤ 400 ∧ 0 ≤ (vy_47 : Int32).toInt ∧ (vy_47 : Int32).toInt ≤ 400 ∧ 0 ≤ (vy_48 : Int32).toInt ∧ (vy_48 : Int32).toInt ≤ 400 := pf_72
        have pf_73 : TpR (Tf 1) (Tv 0) (rEN (cB (Tf 1) (Tv 0)) ro_63) vy_47 vy_48 sv_70 sv_71 := pf_73
        obtain ⟨ro_74, ero_74⟩ : ∃ z : Except Int (Nat × Nat), z = (rEN (cB (Tf 1) (Tv 0)) ro_63) := ⟨_, rfl⟩
        rw [← ero_74] at pf_73
        have tb_75 : TpB (rTE (cB (Tf 1) (Tv 0)) ro_74) vy_48 sv_71 := TpR.tb pf_73
        refine W.eq (g2 := F0 m 48 ls []) rfl ?_
        replace hP : va_P D classes [((Wa 0), .inr (0, [.ref (Aa 0)])), ((Aa 0), .inr (9, [.int vy_38, .int vy_39, .int vy_40, .int vy_41, .int 0, .int 0, .ref (Aa 1), .ref (Aa 2), .ref (Aa 3), .ref (Aa 4), .ref (Aa 5), .ref (Aa 6), .ref (Aa 7), .ref (Aa 8)])), ((Aa 1), .inl (tc 0, 10, .inl vy_42)), ((Aa 2), .inl (tc 0, 10, .inl vy_43)), ((Aa 3), .inl (tc 0, 6, .inl vy_44)), ((Aa 4), .inl (tc 0, 6, .inl vy_45)), ((Aa 5), .inl (tc 0, 6, .inl vy_46)), ((Aa 6), .inl (tc 0, 6, .inl sv_9)), ((Aa 7), .inl (tc 0, 6, .inl sv_10)), ((Aa 8), .inl (tc 0, 6, .inl sv_11)), ((Ta 0), .inr (10, [.ref (Ta 1), .int (Tv 0), .int vy_47, .int vy_48, .int sv_70, .int sv_71])), ((Ta 1), .inl (tc 0, 400, .inl (Tf 1)))] H := hP₀
        replace hD : va_D A [((Wa 0), .inr (0, [.ref (Aa 0)])), ((Aa 0), .inr (9, [.int vy_38, .int vy_39, .int vy_40, .int vy_41, .int 0, .int 0, .ref (Aa 1), .ref (Aa 2), .ref (Aa 3), .ref (Aa 4), .ref (Aa 5), .ref (Aa 6), .ref (Aa 7), .ref (Aa 8)])), ((Aa 1), .inl (tc 0, 10, .inl vy_42)), ((Aa 2), .inl (tc 0, 10, .inl vy_43)), ((Aa 3), .inl (tc 0, 6, .inl vy_44)), ((Aa 4), .inl (tc 0, 6, .inl vy_45)), ((Aa 5), .inl (tc 0, 6, .inl vy_46)), ((Aa 6), .inl (tc 0, 6, .inl sv_9)), ((Aa 7), .inl (tc 0, 6, .inl sv_10)), ((Aa 8), .inl (tc 0, 6, .inl sv_11)), ((Ta 0), .inr (10, [.ref (Ta 1), .int (Tv 0), .int vy_47, .int vy_48, .int sv_70, .int sv_71])), ((Ta 1), .inl (tc 0, 400, .inl (Tf 1)))] := hD₀
        replace hS := hS₀
        clear hP₀ hD₀ hS₀
        refine lv_aload_n hx hb dX0_read_48 rfl (lv_at hl 2 rfl) ?_
        refine gf_X0_37 hx hb hts hown hK hP 10 rfl rfl dX0_read_49 ?_
        have hr_76 : 40 < (vy_37 : Int32).toInt := by
          have z_1 := Int32.lt_iff_toInt_lt.mp c_66
          have y_40 : (40 : Int32).toInt = 40 := by decide
          omega
        have hu_77 : TpR (Tf 1) (Tv 0) (rEN (cB (Tf 1) (Tv 0)) (fsC bq_59)) vy_47 vy_48 sv_70 sv_71 := by
          rw [← ero_63, ← ero_74]
          exact pf_73
        have hr_78 : ¬ (vy_37 : Int32).toInt = 0 := by
          have z_1 := Int32.lt_iff_toInt_lt.mp c_66
          have y_40 : (40 : Int32).toInt = 40 := by decide
          omega
        exact retI (v := sv_71) hx hb hr hlk (rfl) hP hD hS (vy_38, vy_39, vy_40, vy_41, vy_42, vy_43, vy_44, vy_45, vy_46, sv_9, sv_10, sv_11, vy_47, vy_48, sv_70, sv_71) ⟨_, rfl, (QkR.of (QbL.fin pf_62 hr_78 (Or.inl hr_76)) hu_77 pf_61), pf_72, pf_56⟩ [0, 1, 2, 3, 4, 5, 6, 7, 8, 9, 10, 11] rfl rfl dX0_read_52 (Nat.le_of_ble_eq_true rfl) (Nat.le_of_ble_eq_true rfl) rfl
      · skip
        refine lv_iload_n hx hb dX0_read_19 rfl (lv_at hl 0 rfl) ?_
        refine lv_if_eq (tgt := 32) hx hb dX0_read_20 (by decide) (fun c_79 => ?_) (fun c_79 => ?_)
        · skip
          refine lv_aload_n hx hb dX0_read_32 rfl (lv_at hl 1 rfl) ?_
          refine lv_aload_n hx hb dX0_read_33 rfl (lv_at hl 2 rfl) ?_
          refine lv_iload_n hx hb dX0_read_34 rfl (lv_at hl 0 rfl) ?_
          have ha_80 : 0 ≤ vy_37.toInt ∧ vy_37.toInt ≤ 40 := by
            have z_1 := Int32.le_iff_toInt_le.mp (Int32.not_lt.mp c_66)
            have z_2 := congrArg Int32.toInt c_79
            have y_0 : (0 : Int32).toInt = 0 := by decide
            have y_40 : (40 : Int32).toInt = 40 := by decide
            omega
          refine cV (a := (Wa 0)) (As := [.ref (Ta 0), .int vy_37]) (rest := []) (wr := []) ⟨hx, hb, hml, hown, hts⟩ hK hX hA (cu_zX0_readClause l D tc sk (Wa 0) (Aa 0) (Aa 1) (Aa 2) (Aa 3) (Aa 4) (Aa 5) (Aa 6) (Aa 7) (Aa 8) vy_38 vy_39 vy_40 vy_41 0 0 vy_42 vy_43 vy_44 vy_45 vy_46 sv_9 sv_10 sv_11 (Ta 0) (Ta 1) (Tv 0) vy_47 vy_48 vy_49 vy_50 (Tf 1) vy_37 ro_63 bq_59 pf_55 h_by pf_60 pf_56 ha_80 pf_65 pf_61) k_496 k_493 k_495 k_1 k_97 pl_X0_readClause ⟨Nat.le_of_ble_eq_true rfl, Nat.le_of_ble_eq_true rfl⟩ rfl rfl (va_recv hK hP (ci := 0) (q0 := 0) rfl rfl) hP hD hS [0, 1, 2, 3, 4, 5, 6, 7, 8, 9, 10, 11] [] rfl rfl rfl rfl rfl (by decide) rfl hl.1 rfl (Nat.le_of_ble_eq_true rfl) dX0_read_35 ⟨Nat.le_of_ble_eq_true rfl, Nat.le_of_ble_eq_true rfl⟩ (fun v_81 u_82 H locs hv_83 hP₀ hD₀ hS₀ => ?_)
          obtain ⟨sv_84, sv_85, sv_86, sv_87, sv_88, sv_89, sv_90, sv_91, sv_92, sv_93, sv_94, sv_95, sv_96⟩ := u_82
          obtain ⟨rfl, pf_97, pf_98, pf_99, pf_100⟩ := hv_83
          have pf_97 : 0 ≤ ((Tv 0) : Int32).toInt ∧ ((Tv 0) : Int32).toInt ≤ 400 ∧ 0 ≤ (sv_93 : Int32).toInt ∧ (sv_93 : Int32).toInt ≤ 400 ∧ 0 ≤ (sv_94 : Int32).toInt ∧ (sv_94 : Int32).toInt ≤ 400 := pf_97
          have pf_98 : 0 ≤ (sv_87 : Int32).toInt ∧ (sv_87 : Int32).toInt ≤ 6 := pf_98
          have pf_99 : TpR (Tf 1) (Tv 0) (fsC (pz_b bq_59 (qz_cl (cB (Tf 1) (Tv 0)) vy_37.toInt.toNat))) sv_93 sv_94 sv_95 sv_96 := pf_99
          obtain ⟨ro_101, ero_101⟩ : ∃ z : Except Int (Nat × Nat), z = (fsC (pz_b bq_59 (qz_cl (cB (Tf 1) (Tv 0)) vy_37.toInt.toNat))) := ⟨_, rfl⟩
          rw [← ero_101] at pf_99
          have tb_102 : TpB (rTE (cB (Tf 1) (Tv 0)) ro_101) sv_94 sv_96 := TpR.tb pf_99
          have pf_100 : QsQ (pz_b bq_59 (qz_cl (cB (Tf 1) (Tv 0)) vy_37.toInt.toNat)) sv_84 sv_85 sv_86 sv_87 (0 : Int32) (0 : Int32) sv_88 sv_89 sv_90 sv_91 sv_92 sv_9 sv_10 sv_11 := pf_100
          refine W.eq (g2 := F0 m 38 ls []) rfl ?_
          replace hP : va_P D classes [((Wa 0), .inr (0, [.ref (Aa 0)])), ((Aa 0), .inr (9, [.int sv_84, .int sv_85, .int sv_86, .int sv_87, .int 0, .int 0, .ref (Aa 1), .ref (Aa 2), .ref (Aa 3), .ref (Aa 4), .ref (Aa 5), .ref (Aa 6), .ref (Aa 7), .ref (Aa 8)])), ((Aa 1), .inl (tc 0, 10, .inl sv_88)), ((Aa 2), .inl (tc 0, 10, .inl sv_89)), ((Aa 3), .inl (tc 0, 6, .inl sv_90)), ((Aa 4), .inl (tc 0, 6, .inl sv_91)), ((Aa 5), .inl (tc 0, 6, .inl sv_92)), ((Aa 6), .inl (tc 0, 6, .inl sv_9)), ((Aa 7), .inl (tc 0, 6, .inl sv_10)), ((Aa 8), .inl (tc 0, 6, .inl sv_11)), ((Ta 0), .inr (10, [.ref (Ta 1), .int (Tv 0), .int sv_93, .int sv_94, .int sv_95, .int sv_96])), ((Ta 1), .inl (tc 0, 400, .inl (Tf 1)))] H := hP₀
          replace hD : va_D A [((Wa 0), .inr (0, [.ref (Aa 0)])), ((Aa 0), .inr (9, [.int sv_84, .int sv_85, .int sv_86, .int sv_87, .int 0, .int 0, .ref (Aa 1), .ref (Aa 2), .ref (Aa 3), .ref (Aa 4), .ref (Aa 5), .ref (Aa 6), .ref (Aa 7), .ref (Aa 8)])), ((Aa 1), .inl (tc 0, 10, .inl sv_88)), ((Aa 2), .inl (tc 0, 10, .inl sv_89)), ((Aa 3), .inl (tc 0, 6, .inl sv_90)), ((Aa 4), .inl (tc 0, 6, .inl sv_91)), ((Aa 5), .inl (tc 0, 6, .inl sv_92)), ((Aa 6), .inl (tc 0, 6, .inl sv_9)), ((Aa 7), .inl (tc 0, 6, .inl sv_10)), ((Aa 8), .inl (tc 0, 6, .inl sv_11)), ((Ta 0), .inr (10, [.ref (Ta 1), .int (Tv 0), .int sv_93, .int sv_94, .int sv_95, .int sv_96])), ((Ta 1), .inl (tc 0, 400, .inl (Tf 1)))] := hD₀
          replace hS := hS₀
          clear hP₀ hD₀ hS₀
          obtain ⟨x_103, ex_103⟩ : ∃ y : Int32, y = vy_37 + 1 := ⟨_, rfl⟩
          refine lv_iinc (v := x_103) (lv' := [(2, .int x_103), (0, .ref (Wa 0)), (1, .ref (Ta 0))]) hx hb dX0_read_38 hl (k := 0) rfl (by rw [ex_103]; rfl) (by decide) rfl (fun ls hl₀ => ?_)
          replace hl := hl₀
          clear hl₀
          refine lv_goto (tgt := 13) hx hb dX0_read_41 (by decide) ?_
          have hb_104 : 42 - (x_103 : Int32).toInt < 42 - (vy_37 : Int32).toInt ∧ 1 ≤ 42 - (vy_37 : Int32).toInt := by
            have z_1 := Int32.le_iff_toInt_le.mp (Int32.not_lt.mp c_66)
            have z_2 := congrArg Int32.toInt c_79
            have y_0 : (0 : Int32).toInt = 0 := by decide
            have y_40 : (40 : Int32).toInt = 40 := by decide
            have y_1 : (1 : Int32).toInt = 1 := by decide
            have t_x_103 : x_103.toInt = (vy_37 : Int32).toInt + (1 : Int32).toInt := by rw [ex_103]; exact add_toInt (by omega) (by omega)
            omega
          have ha_105 : 0 ≤ (x_103 : Int32).toInt ∧ (x_103 : Int32).toInt ≤ 41 := by
            have z_1 := Int32.le_iff_toInt_le.mp (Int32.not_lt.mp c_66)
            have z_2 := congrArg Int32.toInt c_79
            have y_0 : (0 : Int32).toInt = 0 := by decide
            have y_40 : (40 : Int32).toInt = 40 := by decide
            have y_1 : (1 : Int32).toInt = 1 := by decide
            have t_x_103 : x_103.toInt = (vy_37 : Int32).toInt + (1 : Int32).toInt := by rw [ex_103]; exact add_toInt (by omega) (by omega)
            omega
          have hu_106 : TpR (Tf 1) (Tv 0) (fsC (pz_b bq_59 (qz_cl (cB (Tf 1) (Tv 0)) vy_37.toInt.toNat))) sv_93 sv_94 sv_95 sv_96 := by rw [← ero_101]; exact pf_99
          have hi_107 : (x_103 : Int32).toInt = (vy_37 : Int32).toInt + 1 := by
            have z_1 := Int32.le_iff_toInt_le.mp (Int32.not_lt.mp c_66)
            have z_2 := congrArg Int32.toInt c_79
            have y_0 : (0 : Int32).toInt = 0 := by decide
            have y_40 : (40 : Int32).toInt = 40 := by decide
            have y_1 : (1 : Int32).toInt = 1 := by decide
            have t_x_103 : x_103.toInt = (vy_37 : Int32).toInt + (1 : Int32).toInt := by rw [ex_103]; exact add_toInt (by omega) (by omega)
            omega
          have hr_108 : (vy_37 : Int32).toInt = 0 := by
            have z_1 := Int32.le_iff_toInt_le.mp (Int32.not_lt.mp c_66)
            have z_2 := congrArg Int32.toInt c_79
            have y_0 : (0 : Int32).toInt = 0 := by decide
            have y_40 : (40 : Int32).toInt = 40 := by decide
            omega
          exact ih_52 x_103 sv_84 sv_85 sv_86 sv_87 sv_88 sv_89 sv_90 sv_91 sv_92 sv_93 sv_94 sv_95 sv_96 _ _ _ (by omega) ha_105 pf_97 pf_98 (QbL.next0 hr_108 pf_62 hu_106 pf_100 hi_107) (hP.sub [0, 1, 2, 3, 4, 5, 6, 7, 8, 9, 10, 11] rfl) (hD.sub [0, 1, 2, 3, 4, 5, 6, 7, 8, 9, 10, 11] rfl rfl) hS (lv_sub hl [0, 1, 2] rfl)
        · skip
          refine lv_aload_n hx hb dX0_read_23 rfl (lv_at hl 2 rfl) ?_
          refine lv_bipush (v := 59) hx hb dX0_read_24 (by decide) ?_
          have ha_109 : 0 ≤ (59 : Int32).toInt := by
            have z_1 := Int32.le_iff_toInt_le.mp (Int32.not_lt.mp c_66)
            have z_2 : ¬ (vy_37 : Int32).toInt = (0 : Int32).toInt := fun z => c_79 (Int32.toInt_inj.mp z)
            have y_0 : (0 : Int32).toInt = 0 := by decide
            have y_40 : (40 : Int32).toInt = 40 := by decide
            have y_59 : (59 : Int32).toInt = 59 := by decide
            omega
          have ha_110 : (59 : Int32).toInt = (59 : Int) := by
            have z_1 := Int32.le_iff_toInt_le.mp (Int32.not_lt.mp c_66)
            have z_2 : ¬ (vy_37 : Int32).toInt = (0 : Int32).toInt := fun z => c_79 (Int32.toInt_inj.mp z)
            have y_0 : (0 : Int32).toInt = 0 := by decide
            have y_40 : (40 : Int32).toInt = 40 := by decide
            have y_59 : (59 : Int32).toInt = 59 := by decide
            omega
          refine cV (a := (Ta 0)) (As := [.int 59]) (rest := []) (wr := [((Wa 0), .inr (0, [.ref (Aa 0)])), ((Aa 0), .inr (9, [.int vy_38, .int vy_39, .int vy_40, .int vy_41, .int 0, .int 0, .ref (Aa 1), .ref (Aa 2), .ref (Aa 3), .ref (Aa 4), .ref (Aa 5), .ref (Aa 6), .ref (Aa 7), .ref (Aa 8)])), ((Aa 1), .inl (tc 0, 10, .inl vy_42)), ((Aa 2), .inl (tc 0, 10, .inl vy_43)), ((Aa 3), .inl (tc 0, 6, .inl vy_44)), ((Aa 4), .inl (tc 0, 6, .inl vy_45)), ((Aa 5), .inl (tc 0, 6, .inl vy_46)), ((Aa 6), .inl (tc 0, 6, .inl sv_9)), ((Aa 7), .inl (tc 0, 6, .inl sv_10)), ((Aa 8), .inl (tc 0, 6, .inl sv_11))]) ⟨hx, hb, hml, hown, hts⟩ hK hX hA (cu_fX10_takes l D tc sk (Ta 0) (Ta 1) (Tv 0) vy_47 vy_48 vy_49 vy_50 (Tf 1) 59 ro_63 59 pf_55 h_by pf_60 ha_109 ha_110) k_492 k_489 k_490 k_491 k_96 pl_X10_takes ⟨Nat.le_of_ble_eq_true rfl, Nat.le_of_ble_eq_true rfl⟩ rfl rfl (va_recv hK hP (ci := 10) (q0 := 10) rfl rfl) hP hD hS [10, 11] [0, 1, 2, 3, 4, 5, 6, 7, 8, 9] rfl rfl rfl rfl rfl (by decide) rfl hl.1 rfl (Nat.le_of_ble_eq_true rfl) dX0_read_26 ⟨Nat.le_of_ble_eq_true rfl, Nat.le_of_ble_eq_true rfl⟩ (fun v_111 u_112 H locs hv_113 hP₀ hD₀ hS₀ => ?_)
          obtain ⟨sv_114, sv_115, sv_116⟩ := u_112
          obtain ⟨r_118, rfl, he_119, pf_117, hm_121, hm_122⟩ := hv_113
          have he_119 : (r_118.toInt = 0 ∨ r_118.toInt = 1) := he_119
          have pf_117 : 0 ≤ ((Tv 0) : Int32).toInt ∧ ((Tv 0) : Int32).toInt ≤ 400 ∧ 0 ≤ (sv_114 : Int32).toInt ∧ (sv_114 : Int32).toInt ≤ 400 ∧ 0 ≤ (sv_115 : Int32).toInt ∧ (sv_115 : Int32).toInt ≤ 400 := pf_117
          refine W.eq (g2 := F0 m 29 ls [.int r_118]) rfl ?_
          replace hP : va_P D classes [((Wa 0), .inr (0, [.ref (Aa 0)])), ((Aa 0), .inr (9, [.int vy_38, .int vy_39, .int vy_40, .int vy_41, .int 0, .int 0, .ref (Aa 1), .ref (Aa 2), .ref (Aa 3), .ref (Aa 4), .ref (Aa 5), .ref (Aa 6), .ref (Aa 7), .ref (Aa 8)])), ((Aa 1), .inl (tc 0, 10, .inl vy_42)), ((Aa 2), .inl (tc 0, 10, .inl vy_43)), ((Aa 3), .inl (tc 0, 6, .inl vy_44)), ((Aa 4), .inl (tc 0, 6, .inl vy_45)), ((Aa 5), .inl (tc 0, 6, .inl vy_46)), ((Aa 6), .inl (tc 0, 6, .inl sv_9)), ((Aa 7), .inl (tc 0, 6, .inl sv_10)), ((Aa 8), .inl (tc 0, 6, .inl sv_11)), ((Ta 0), .inr (10, [.ref (Ta 1), .int (Tv 0), .int sv_114, .int sv_115, .int sv_116, .int vy_50])), ((Ta 1), .inl (tc 0, 400, .inl (Tf 1)))] H := hP₀
          replace hD : va_D A [((Wa 0), .inr (0, [.ref (Aa 0)])), ((Aa 0), .inr (9, [.int vy_38, .int vy_39, .int vy_40, .int vy_41, .int 0, .int 0, .ref (Aa 1), .ref (Aa 2), .ref (Aa 3), .ref (Aa 4), .ref (Aa 5), .ref (Aa 6), .ref (Aa 7), .ref (Aa 8)])), ((Aa 1), .inl (tc 0, 10, .inl vy_42)), ((Aa 2), .inl (tc 0, 10, .inl vy_43)), ((Aa 3), .inl (tc 0, 6, .inl vy_44)), ((Aa 4), .inl (tc 0, 6, .inl vy_45)), ((Aa 5), .inl (tc 0, 6, .inl vy_46)), ((Aa 6), .inl (tc 0, 6, .inl sv_9)), ((Aa 7), .inl (tc 0, 6, .inl sv_10)), ((Aa 8), .inl (tc 0, 6, .inl sv_11)), ((Ta 0), .inr (10, [.ref (Ta 1), .int (Tv 0), .int sv_114, .int sv_115, .int sv_116, .int vy_50])), ((Ta 1), .inl (tc 0, 400, .inl (Tf 1)))] := hD₀
          replace hS := hS₀
          clear hP₀ hD₀ hS₀
          refine lv_if_eq (tgt := 44) hx hb dX0_read_29 (by decide) (fun c_123 => ?_) (fun c_123 => ?_)
          · skip
            have hz_126 : (r_118 : Int32).toInt = 0 := by
              have z_1 := Int32.le_iff_toInt_le.mp (Int32.not_lt.mp c_66)
              have z_2 : ¬ (vy_37 : Int32).toInt = (0 : Int32).toInt := fun z => c_79 (Int32.toInt_inj.mp z)
              have z_3 := congrArg Int32.toInt c_123
              have y_0 : (0 : Int32).toInt = 0 := by decide
              have y_40 : (40 : Int32).toInt = 40 := by decide
              omega
            obtain ⟨pf_124, pf_125⟩ := hm_122 hz_126
            have pf_124 : NSg (cB (Tf 1) (Tv 0)) (59 : Int) ro_63 := pf_124
            have pf_125 : TpR (Tf 1) (Tv 0) ro_63 sv_114 sv_115 sv_116 vy_50 := pf_125
            have tb_127 : TpB (rTE (cB (Tf 1) (Tv 0)) ro_63) sv_115 vy_50 := TpR.tb pf_125
            refine lv_aload_n hx hb dX0_read_44 rfl (lv_at hl 2 rfl) ?_
            refine cV (a := (Ta 0)) (As := []) (rest := []) (wr := [((Wa 0), .inr (0, [.ref (Aa 0)])), ((Aa 0), .inr (9, [.int vy_38, .int vy_39, .int vy_40, .int vy_41, .int 0, .int 0, .ref (Aa 1), .ref (Aa 2), .ref (Aa 3), .ref (Aa 4), .ref (Aa 5), .ref (Aa 6), .ref (Aa 7), .ref (Aa 8)])), ((Aa 1), .inl (tc 0, 10, .inl vy_42)), ((Aa 2), .inl (tc 0, 10, .inl vy_43)), ((Aa 3), .inl (tc 0, 6, .inl vy_44)), ((Aa 4), .inl (tc 0, 6, .inl vy_45)), ((Aa 5), .inl (tc 0, 6, .inl vy_46)), ((Aa 6), .inl (tc 0, 6, .inl sv_9)), ((Aa 7), .inl (tc 0, 6, .inl sv_10)), ((Aa 8), .inl (tc 0, 6, .inl sv_11))]) ⟨hx, hb, hml, hown, hts⟩ hK hX hA (cu_fX10_finish l D tc sk (Ta 0) (Ta 1) (Tv 0) sv_114 sv_115 sv_116 vy_50 (Tf 1) ro_63 pf_117 h_by pf_125) k_595 k_592 k_593 k_594 k_96 pl_X10_finish ⟨Nat.le_of_ble_eq_true rfl, Nat.le_of_ble_eq_true rfl⟩ rfl rfl (va_recv hK hP (ci := 10) (q0 := 10) rfl rfl) hP hD hS [10, 11] [0, 1, 2, 3, 4, 5, 6, 7, 8, 9] rfl rfl rfl rfl rfl (by decide) rfl hl.1 rfl (Nat.le_of_ble_eq_true rfl) dX0_read_45 ⟨Nat.le_of_ble_eq_true rfl, Nat.le_of_ble_eq_true rfl⟩ (fun v_128 u_129 H locs hv_130 hP₀ hD₀ hS₀ => ?_)
            obtain ⟨sv_131, sv_132⟩ := u_129
            obtain ⟨rfl, pf_133, pf_134⟩ := hv_130
            have pf_133 : 0 ≤ ((Tv 0) : Int32).toInt ∧ ((Tv 0) : Int32).toInt ≤ 400 ∧ 0 ≤ (sv_114 : Int32).toInt ∧ (sv_114 : Int32).toInt ≤ 400 ∧ 0 ≤ (sv_115 : Int32).toInt ∧ (sv_115 : Int32).toInt ≤ 400 := pf_133
            have pf_134 : TpR (Tf 1) (Tv 0) (rEN (cB (Tf 1) (Tv 0)) ro_63) sv_114 sv_115 sv_131 sv_132 := pf_134
            obtain ⟨ro_135, ero_135⟩ : ∃ z : Except Int (Nat × Nat), z = (rEN (cB (Tf 1) (Tv 0)) ro_63) := ⟨_, rfl⟩
            rw [← ero_135] at pf_134
            have tb_136 : TpB (rTE (cB (Tf 1) (Tv 0)) ro_135) sv_115 sv_132 := TpR.tb pf_134
            refine W.eq (g2 := F0 m 48 ls []) rfl ?_
            replace hP : va_P D classes [((Wa 0), .inr (0, [.ref (Aa 0)])), ((Aa 0), .inr (9, [.int vy_38, .int vy_39, .int vy_40, .int vy_41, .int 0, .int 0, .ref (Aa 1), .ref (Aa 2), .ref (Aa 3), .ref (Aa 4), .ref (Aa 5), .ref (Aa 6), .ref (Aa 7), .ref (Aa 8)])), ((Aa 1), .inl (tc 0, 10, .inl vy_42)), ((Aa 2), .inl (tc 0, 10, .inl vy_43)), ((Aa 3), .inl (tc 0, 6, .inl vy_44)), ((Aa 4), .inl (tc 0, 6, .inl vy_45)), ((Aa 5), .inl (tc 0, 6, .inl vy_46)), ((Aa 6), .inl (tc 0, 6, .inl sv_9)), ((Aa 7), .inl (tc 0, 6, .inl sv_10)), ((Aa 8), .inl (tc 0, 6, .inl sv_11)), ((Ta 0), .inr (10, [.ref (Ta 1), .int (Tv 0), .int sv_114, .int sv_115, .int sv_131, .int sv_132])), ((Ta 1), .inl (tc 0, 400, .inl (Tf 1)))] H := hP₀
            replace hD : va_D A [((Wa 0), .inr (0, [.ref (Aa 0)])), ((Aa 0), .inr (9, [.int vy_38, .int vy_39, .int vy_40, .int vy_41, .int 0, .int 0, .ref (Aa 1), .ref (Aa 2), .ref (Aa 3), .ref (Aa 4), .ref (Aa 5), .ref (Aa 6), .ref (Aa 7), .ref (Aa 8)])), ((Aa 1), .inl (tc 0, 10, .inl vy_42)), ((Aa 2), .inl (tc 0, 10, .inl vy_43)), ((Aa 3), .inl (tc 0, 6, .inl vy_44)), ((Aa 4), .inl (tc 0, 6, .inl vy_45)), ((Aa 5), .inl (tc 0, 6, .inl vy_46)), ((Aa 6), .inl (tc 0, 6, .inl sv_9)), ((Aa 7), .inl (tc 0, 6, .inl sv_10)), ((Aa 8), .inl (tc 0, 6, .inl sv_11)), ((Ta 0), .inr (10, [.ref (Ta 1), .int (Tv 0), .int sv_114, .int sv_115, .int sv_131, .int sv_132])), ((Ta 1), .inl (tc 0, 400, .inl (Tf 1)))] := hD₀
            replace hS := hS₀
            clear hP₀ hD₀ hS₀
            refine lv_aload_n hx hb dX0_read_48 rfl (lv_at hl 2 rfl) ?_
            refine gf_X0_37 hx hb hts hown hK hP 10 rfl rfl dX0_read_49 ?_
            have hu_137 : TpR (Tf 1) (Tv 0) (rEN (cB (Tf 1) (Tv 0)) (fsC bq_59)) sv_114 sv_115 sv_131 sv_132 := by
              rw [← ero_63, ← ero_135]
              exact pf_134
            have hr_138 : ¬ (vy_37 : Int32).toInt = 0 := by
              have z_1 := Int32.le_iff_toInt_le.mp (Int32.not_lt.mp c_66)
              have z_2 : ¬ (vy_37 : Int32).toInt = (0 : Int32).toInt := fun z => c_79 (Int32.toInt_inj.mp z)
              have z_3 := congrArg Int32.toInt c_123
              have y_0 : (0 : Int32).toInt = 0 := by decide
              have y_40 : (40 : Int32).toInt = 40 := by decide
              omega
            exact retI (v := sv_132) hx hb hr hlk (rfl) hP hD hS (vy_38, vy_39, vy_40, vy_41, vy_42, vy_43, vy_44, vy_45, vy_46, sv_9, sv_10, sv_11, sv_114, sv_115, sv_131, sv_132) ⟨_, rfl, (QkR.of (QbL.fin pf_62 hr_138 (Or.inr (ero_63 ▸ pf_124))) hu_137 pf_61), pf_133, pf_56⟩ [0, 1, 2, 3, 4, 5, 6, 7, 8, 9, 10, 11] rfl rfl dX0_read_52 (Nat.le_of_ble_eq_true rfl) (Nat.le_of_ble_eq_true rfl) rfl
          · skip
            have hz_141 : (r_118 : Int32).toInt = 1 := by
              have z_1 := Int32.le_iff_toInt_le.mp (Int32.not_lt.mp c_66)
              have z_2 : ¬ (vy_37 : Int32).toInt = (0 : Int32).toInt := fun z => c_79 (Int32.toInt_inj.mp z)
              have z_3 : ¬ (r_118 : Int32).toInt = (0 : Int32).toInt := fun z => c_123 (Int32.toInt_inj.mp z)
              have y_0 : (0 : Int32).toInt = 0 := by decide
              have y_40 : (40 : Int32).toInt = 40 := by decide
              omega
            obtain ⟨pf_139, pf_140⟩ := hm_121 hz_141
            have pf_139 : Sg (cB (Tf 1) (Tv 0)) (59 : Int) ro_63 := pf_139
            have pf_140 : TpR (Tf 1) (Tv 0) (rNX (cB (Tf 1) (Tv 0)) ro_63) sv_114 sv_115 sv_116 vy_50 := pf_140
            obtain ⟨ro_142, ero_142⟩ : ∃ z : Except Int (Nat × Nat), z = (rNX (cB (Tf 1) (Tv 0)) ro_63) := ⟨_, rfl⟩
            rw [← ero_142] at pf_140
            have tb_143 : TpB (rTE (cB (Tf 1) (Tv 0)) ro_142) sv_115 vy_50 := TpR.tb pf_140
            have pf_144 : FsR (qNX (cB (Tf 1) (Tv 0)) bq_59) ro_142 := by
              show fsC (qNX (cB (Tf 1) (Tv 0)) bq_59) = ro_142
              rw [fsC_nx, ero_142, ero_63]
            have pf_145 : QsQ (qNX (cB (Tf 1) (Tv 0)) bq_59) vy_38 vy_39 vy_40 vy_41 0 0 vy_42 vy_43 vy_44 vy_45 vy_46 sv_9 sv_10 sv_11 := QsQ.nx pf_61
            refine lv_aload_n hx hb dX0_read_32 rfl (lv_at hl 1 rfl) ?_
            refine lv_aload_n hx hb dX0_read_33 rfl (lv_at hl 2 rfl) ?_
            refine lv_iload_n hx hb dX0_read_34 rfl (lv_at hl 0 rfl) ?_
            have ha_146 : 0 ≤ vy_37.toInt ∧ vy_37.toInt ≤ 40 := by
              have z_1 := Int32.le_iff_toInt_le.mp (Int32.not_lt.mp c_66)
              have z_2 : ¬ (vy_37 : Int32).toInt = (0 : Int32).toInt := fun z => c_79 (Int32.toInt_inj.mp z)
              have z_3 : ¬ (r_118 : Int32).toInt = (0 : Int32).toInt := fun z => c_123 (Int32.toInt_inj.mp z)
              have y_0 : (0 : Int32).toInt = 0 := by decide
              have y_40 : (40 : Int32).toInt = 40 := by decide
              omega
            refine cV (a := (Wa 0)) (As := [.ref (Ta 0), .int vy_37]) (rest := []) (wr := []) ⟨hx, hb, hml, hown, hts⟩ hK hX hA (cu_zX0_readClause l D tc sk (Wa 0) (Aa 0) (Aa 1) (Aa 2) (Aa 3) (Aa 4) (Aa 5) (Aa 6) (Aa 7) (Aa 8) vy_38 vy_39 vy_40 vy_41 0 0 vy_42 vy_43 vy_44 vy_45 vy_46 sv_9 sv_10 sv_11 (Ta 0) (Ta 1) (Tv 0) sv_114 sv_115 sv_116 vy_50 (Tf 1) vy_37 ro_142 (qNX (cB (Tf 1) (Tv 0)) bq_59) pf_117 h_by pf_140 pf_56 ha_146 pf_144 pf_145) k_496 k_493 k_495 k_1 k_97 pl_X0_readClause ⟨Nat.le_of_ble_eq_true rfl, Nat.le_of_ble_eq_true rfl⟩ rfl rfl (va_recv hK hP (ci := 0) (q0 := 0) rfl rfl) hP hD hS [0, 1, 2, 3, 4, 5, 6, 7, 8, 9, 10, 11] [] rfl rfl rfl rfl rfl (by decide) rfl hl.1 rfl (Nat.le_of_ble_eq_true rfl) dX0_read_35 ⟨Nat.le_of_ble_eq_true rfl, Nat.le_of_ble_eq_true rfl⟩ (fun v_147 u_148 H locs hv_149 hP₀ hD₀ hS₀ => ?_)
            obtain ⟨sv_150, sv_151, sv_152, sv_153, sv_154, sv_155, sv_156, sv_157, sv_158, sv_159, sv_160, sv_161, sv_162⟩ := u_148
            obtain ⟨rfl, pf_163, pf_164, pf_165, pf_166⟩ := hv_149
            have pf_163 : 0 ≤ ((Tv 0) : Int32).toInt ∧ ((Tv 0) : Int32).toInt ≤ 400 ∧ 0 ≤ (sv_159 : Int32).toInt ∧ (sv_159 : Int32).toInt ≤ 400 ∧ 0 ≤ (sv_160 : Int32).toInt ∧ (sv_160 : Int32).toInt ≤ 400 := pf_163
            have pf_164 : 0 ≤ (sv_153 : Int32).toInt ∧ (sv_153 : Int32).toInt ≤ 6 := pf_164
            have pf_165 : TpR (Tf 1) (Tv 0) (fsC (pz_b (qNX (cB (Tf 1) (Tv 0)) bq_59) (qz_cl (cB (Tf 1) (Tv 0)) vy_37.toInt.toNat))) sv_159 sv_160 sv_161 sv_162 := pf_165
            obtain ⟨ro_167, ero_167⟩ : ∃ z : Except Int (Nat × Nat), z = (fsC (pz_b (qNX (cB (Tf 1) (Tv 0)) bq_59) (qz_cl (cB (Tf 1) (Tv 0)) vy_37.toInt.toNat))) := ⟨_, rfl⟩
            rw [← ero_167] at pf_165
            have tb_168 : TpB (rTE (cB (Tf 1) (Tv 0)) ro_167) sv_160 sv_162 := TpR.tb pf_165
            have pf_166 : QsQ (pz_b (qNX (cB (Tf 1) (Tv 0)) bq_59) (qz_cl (cB (Tf 1) (Tv 0)) vy_37.toInt.toNat)) sv_150 sv_151 sv_152 sv_153 (0 : Int32) (0 : Int32) sv_154 sv_155 sv_156 sv_157 sv_158 sv_9 sv_10 sv_11 := pf_166
            refine W.eq (g2 := F0 m 38 ls []) rfl ?_
            replace hP : va_P D classes [((Wa 0), .inr (0, [.ref (Aa 0)])), ((Aa 0), .inr (9, [.int sv_150, .int sv_151, .int sv_152, .int sv_153, .int 0, .int 0, .ref (Aa 1), .ref (Aa 2), .ref (Aa 3), .ref (Aa 4), .ref (Aa 5), .ref (Aa 6), .ref (Aa 7), .ref (Aa 8)])), ((Aa 1), .inl (tc 0, 10, .inl sv_154)), ((Aa 2), .inl (tc 0, 10, .inl sv_155)), ((Aa 3), .inl (tc 0, 6, .inl sv_156)), ((Aa 4), .inl (tc 0, 6, .inl sv_157)), ((Aa 5), .inl (tc 0, 6, .inl sv_158)), ((Aa 6), .inl (tc 0, 6, .inl sv_9)), ((Aa 7), .inl (tc 0, 6, .inl sv_10)), ((Aa 8), .inl (tc 0, 6, .inl sv_11)), ((Ta 0), .inr (10, [.ref (Ta 1), .int (Tv 0), .int sv_159, .int sv_160, .int sv_161, .int sv_162])), ((Ta 1), .inl (tc 0, 400, .inl (Tf 1)))] H := hP₀
            replace hD : va_D A [((Wa 0), .inr (0, [.ref (Aa 0)])), ((Aa 0), .inr (9, [.int sv_150, .int sv_151, .int sv_152, .int sv_153, .int 0, .int 0, .ref (Aa 1), .ref (Aa 2), .ref (Aa 3), .ref (Aa 4), .ref (Aa 5), .ref (Aa 6), .ref (Aa 7), .ref (Aa 8)])), ((Aa 1), .inl (tc 0, 10, .inl sv_154)), ((Aa 2), .inl (tc 0, 10, .inl sv_155)), ((Aa 3), .inl (tc 0, 6, .inl sv_156)), ((Aa 4), .inl (tc 0, 6, .inl sv_157)), ((Aa 5), .inl (tc 0, 6, .inl sv_158)), ((Aa 6), .inl (tc 0, 6, .inl sv_9)), ((Aa 7), .inl (tc 0, 6, .inl sv_10)), ((Aa 8), .inl (tc 0, 6, .inl sv_11)), ((Ta 0), .inr (10, [.ref (Ta 1), .int (Tv 0), .int sv_159, .int sv_160, .int sv_161, .int sv_162])), ((Ta 1), .inl (tc 0, 400, .inl (Tf 1)))] := hD₀
            replace hS := hS₀
            clear hP₀ hD₀ hS₀
            obtain ⟨x_169, ex_169⟩ : ∃ y : Int32, y = vy_37 + 1 := ⟨_, rfl⟩
            refine lv_iinc (v := x_169) (lv' := [(2, .int x_169), (0, .ref (Wa 0)), (1, .ref (Ta 0))]) hx hb dX0_read_38 hl (k := 0) rfl (by rw [ex_169]; rfl) (by decide) rfl (fun ls hl₀ => ?_)
            replace hl := hl₀
            clear hl₀
            refine lv_goto (tgt := 13) hx hb dX0_read_41 (by decide) ?_
            have hb_170 : 42 - (x_169 : Int32).toInt < 42 - (vy_37 : Int32).toInt ∧ 1 ≤ 42 - (vy_37 : Int32).toInt := by
              have z_1 := Int32.le_iff_toInt_le.mp (Int32.not_lt.mp c_66)
              have z_2 : ¬ (vy_37 : Int32).toInt = (0 : Int32).toInt := fun z => c_79 (Int32.toInt_inj.mp z)
              have z_3 : ¬ (r_118 : Int32).toInt = (0 : Int32).toInt := fun z => c_123 (Int32.toInt_inj.mp z)
              have y_0 : (0 : Int32).toInt = 0 := by decide
              have y_40 : (40 : Int32).toInt = 40 := by decide
              have y_1 : (1 : Int32).toInt = 1 := by decide
              have t_x_169 : x_169.toInt = (vy_37 : Int32).toInt + (1 : Int32).toInt := by rw [ex_169]; exact add_toInt (by omega) (by omega)
              omega
            have ha_171 : 0 ≤ (x_169 : Int32).toInt ∧ (x_169 : Int32).toInt ≤ 41 := by
              have z_1 := Int32.le_iff_toInt_le.mp (Int32.not_lt.mp c_66)
              have z_2 : ¬ (vy_37 : Int32).toInt = (0 : Int32).toInt := fun z => c_79 (Int32.toInt_inj.mp z)
              have z_3 : ¬ (r_118 : Int32).toInt = (0 : Int32).toInt := fun z => c_123 (Int32.toInt_inj.mp z)
              have y_0 : (0 : Int32).toInt = 0 := by decide
              have y_40 : (40 : Int32).toInt = 40 := by decide
              have y_1 : (1 : Int32).toInt = 1 := by decide
              have t_x_169 : x_169.toInt = (vy_37 : Int32).toInt + (1 : Int32).toInt := by rw [ex_169]; exact add_toInt (by omega) (by omega)
              omega
            have hu_172 : TpR (Tf 1) (Tv 0) (fsC (pz_b (qNX (cB (Tf 1) (Tv 0)) bq_59) (qz_cl (cB (Tf 1) (Tv 0)) vy_37.toInt.toNat))) sv_159 sv_160 sv_161 sv_162 := by rw [← ero_167]; exact pf_165
            have hi_173 : (x_169 : Int32).toInt = (vy_37 : Int32).toInt + 1 := by
              have z_1 := Int32.le_iff_toInt_le.mp (Int32.not_lt.mp c_66)
              have z_2 : ¬ (vy_37 : Int32).toInt = (0 : Int32).toInt := fun z => c_79 (Int32.toInt_inj.mp z)
              have z_3 : ¬ (r_118 : Int32).toInt = (0 : Int32).toInt := fun z => c_123 (Int32.toInt_inj.mp z)
              have y_0 : (0 : Int32).toInt = 0 := by decide
              have y_40 : (40 : Int32).toInt = 40 := by decide
              have y_1 : (1 : Int32).toInt = 1 := by decide
              have t_x_169 : x_169.toInt = (vy_37 : Int32).toInt + (1 : Int32).toInt := by rw [ex_169]; exact add_toInt (by omega) (by omega)
              omega
            have hr_174 : 1 ≤ (vy_37 : Int32).toInt ∧ (vy_37 : Int32).toInt ≤ 40 := by
              have z_1 := Int32.le_iff_toInt_le.mp (Int32.not_lt.mp c_66)
              have z_2 : ¬ (vy_37 : Int32).toInt = (0 : Int32).toInt := fun z => c_79 (Int32.toInt_inj.mp z)
              have z_3 : ¬ (r_118 : Int32).toInt = (0 : Int32).toInt := fun z => c_123 (Int32.toInt_inj.mp z)
              have y_0 : (0 : Int32).toInt = 0 := by decide
              have y_40 : (40 : Int32).toInt = 40 := by decide
              omega
            exact ih_52 x_169 sv_150 sv_151 sv_152 sv_153 sv_154 sv_155 sv_156 sv_157 sv_158 sv_159 sv_160 sv_161 sv_162 _ _ _ (by omega) ha_171 pf_163 pf_164 (QbL.nextS h_tape.2.1 hr_174 (ero_63 ▸ pf_139) pf_62 hu_172 pf_166 hi_173) (hP.sub [0, 1, 2, 3, 4, 5, 6, 7, 8, 9, 10, 11] rfl) (hD.sub [0, 1, 2, 3, 4, 5, 6, 7, 8, 9, 10, 11] rfl rfl) hS (lv_sub hl [0, 1, 2] rfl)
  have ha_175 : 0 ≤ (0 : Int32).toInt ∧ (0 : Int32).toInt ≤ 41 := by
    have y_0 : (0 : Int32).toInt = 0 := by decide
    omega
  have ha_176 : 0 ≤ (0 : Int32).toInt ∧ (0 : Int32).toInt ≤ 6 := by
    have y_0 : (0 : Int32).toInt = 0 := by decide
    omega
  have hu_177 : TpR (Tf 1) (Tv 0) (rSK (cB (Tf 1) (Tv 0)) (.ok (0, 0))) sv_16 sv_17 sv_18 0 := by
    rw [← ero_21]
    exact pf_20
  have hr_178 : (0 : Int32).toInt = 0 := by
    have y_0 : (0 : Int32).toInt = 0 := by decide
    omega
  exact loop_53 _ 0 0 0 0 0 sv_4 sv_5 sv_6 sv_7 sv_8 sv_16 sv_17 sv_18 0 _ _ _ (Nat.lt_succ_self _) ha_175 pf_19 ha_176 (QbL.start hu_177 pf_12 hr_178) hP hD hS hl
set_option maxRecDepth 100000 in
theorem cu_zX0_read (l : Launch) (D : va_G) (tc : Nat → ClassId) (sk : (Nat → Nat) × (Nat → Nat)) (Wa_0 : Nat) (Aa_0 : Nat) (Aa_1 : Nat) (Aa_2 : Nat) (Aa_3 : Nat) (Aa_4 : Nat) (Aa_5 : Nat) (Aa_6 : Nat) (Aa_7 : Nat) (Aa_8 : Nat) (Av_0 : Int32) (Av_1 : Int32) (Av_2 : Int32) (Av_3 : Int32) (Av_4 : Int32) (Av_5 : Int32) (Af_1 : Nat → Int32) (Af_2 : Nat → Int32) (Af_3 : Nat → Int32) (Af_4 : Nat → Int32) (Af_5 : Nat → Int32) (Af_6 : Nat → Int32) (Af_7 : Nat → Int32) (Af_8 : Nat → Int32) (Ta_0 : Nat) (Ta_1 : Nat) (Tv_0 : Int32) (Tv_1 : Int32) (Tv_2 : Int32) (Tv_3 : Int32) (Tv_4 : Int32) (Tf_1 : Nat → Int32) (h_tape : 0 ≤ (Tv_0 : Int32).toInt ∧ (Tv_0 : Int32).toInt ≤ 400 ∧ 0 ≤ (Tv_1 : Int32).toInt ∧ (Tv_1 : Int32).toInt ≤ 400 ∧ 0 ≤ (Tv_2 : Int32).toInt ∧ (Tv_2 : Int32).toInt ≤ 400) (h_by : Byt Tf_1) (h_bu : 0 ≤ (Av_3 : Int32).toInt ∧ (Av_3 : Int32).toInt ≤ 6) : Ct l yX0_read cX0_read 3 (some .int) { frames := 7, cells := 0, slots := 0, locals := 156 } D tc sk [.ref Wa_0, .ref Ta_0] [(Wa_0, .inr (0, [.ref Aa_0])), (Aa_0, .inr (9, [.int Av_0, .int Av_1, .int Av_2, .int Av_3, .int Av_4, .int Av_5, .ref Aa_1, .ref Aa_2, .ref Aa_3, .ref Aa_4, .ref Aa_5, .ref Aa_6, .ref Aa_7, .ref Aa_8])), (Aa_1, .inl (tc 0, 10, .inl Af_1)), (Aa_2, .inl (tc 0, 10, .inl Af_2)), (Aa_3, .inl (tc 0, 6, .inl Af_3)), (Aa_4, .inl (tc 0, 6, .inl Af_4)), (Aa_5, .inl (tc 0, 6, .inl Af_5)), (Aa_6, .inl (tc 0, 6, .inl Af_6)), (Aa_7, .inl (tc 0, 6, .inl Af_7)), (Aa_8, .inl (tc 0, 6, .inl Af_8)), (Ta_0, .inr (10, [.ref Ta_1, .int Tv_0, .int Tv_1, .int Tv_2, .int Tv_3, .int Tv_4])), (Ta_1, .inl (tc 0, 400, .inl Tf_1))] (fun (v : Option Value) (u : (Int32) × (Int32) × (Int32) × (Int32) × (Nat → Int32) × (Nat → Int32) × (Nat → Int32) × (Nat → Int32) × (Nat → Int32) × (Nat → Int32) × (Nat → Int32) × (Nat → Int32) × (Int32) × (Int32) × (Int32) × (Int32)) => match u with | (oo0x1, oo0x2, oo0x3, oo0x4, oo0x5, oo0x6, oo0x7, oo0x8, oo0x9, oo0x10, oo0x11, oo0x12, oo0x13, oo0x14, oo0x15, oo0x16) => ∃ r : Int32, v = some (.int r) ∧ (QkR (cB Tf_1 Tv_0) r oo0x1 oo0x2 oo0x3 oo0x4 0 0 oo0x5 oo0x6 oo0x7 oo0x8 oo0x9 oo0x10 oo0x11 oo0x12) ∧ (0 ≤ (Tv_0 : Int32).toInt ∧ (Tv_0 : Int32).toInt ≤ 400 ∧ 0 ≤ (oo0x13 : Int32).toInt ∧ (oo0x13 : Int32).toInt ≤ 400 ∧ 0 ≤ (oo0x14 : Int32).toInt ∧ (oo0x14 : Int32).toInt ≤ 400) ∧ (0 ≤ (oo0x4 : Int32).toInt ∧ (oo0x4 : Int32).toInt ≤ 6)) (fun (u : (Int32) × (Int32) × (Int32) × (Int32) × (Nat → Int32) × (Nat → Int32) × (Nat → Int32) × (Nat → Int32) × (Nat → Int32) × (Nat → Int32) × (Nat → Int32) × (Nat → Int32) × (Int32) × (Int32) × (Int32) × (Int32)) => match u with | (oo0x1, oo0x2, oo0x3, oo0x4, oo0x5, oo0x6, oo0x7, oo0x8, oo0x9, oo0x10, oo0x11, oo0x12, oo0x13, oo0x14, oo0x15, oo0x16) => [(Wa_0, .inr (0, [.ref Aa_0])), (Aa_0, .inr (9, [.int oo0x1, .int oo0x2, .int oo0x3, .int oo0x4, .int 0, .int 0, .ref Aa_1, .ref Aa_2, .ref Aa_3, .ref Aa_4, .ref Aa_5, .ref Aa_6, .ref Aa_7, .ref Aa_8])), (Aa_1, .inl (tc 0, 10, .inl oo0x5)), (Aa_2, .inl (tc 0, 10, .inl oo0x6)), (Aa_3, .inl (tc 0, 6, .inl oo0x7)), (Aa_4, .inl (tc 0, 6, .inl oo0x8)), (Aa_5, .inl (tc 0, 6, .inl oo0x9)), (Aa_6, .inl (tc 0, 6, .inl oo0x10)), (Aa_7, .inl (tc 0, 6, .inl oo0x11)), (Aa_8, .inl (tc 0, 6, .inl oo0x12)), (Ta_0, .inr (10, [.ref Ta_1, .int Tv_0, .int oo0x13, .int oo0x14, .int oo0x15, .int oo0x16])), (Ta_1, .inl (tc 0, 400, .inl Tf_1))]) 0 0 :=
  ct_zX0_read l D tc sk (fun k => ([Wa_0] : List (Nat)).getD k 0) (fun k => ([Aa_0, Aa_1, Aa_2, Aa_3, Aa_4, Aa_5, Aa_6, Aa_7, Aa_8] : List (Nat)).getD k 0) (fun k => ([Av_0, Av_1, Av_2, Av_3, Av_4, Av_5] : List (Int32)).getD k 0) (fun k => ([(fun _ => 0), Af_1, Af_2, Af_3, Af_4, Af_5, Af_6, Af_7, Af_8] : List (Nat → Int32)).getD k (fun _ => 0)) (fun k => ([Ta_0, Ta_1] : List (Nat)).getD k 0) (fun k => ([Tv_0, Tv_1, Tv_2, Tv_3, Tv_4] : List (Int32)).getD k 0) (fun k => ([(fun _ => 0), Tf_1] : List (Nat → Int32)).getD k (fun _ => 0)) h_tape h_by h_bu
set_option maxHeartbeats 4000000 in
set_option maxRecDepth 100000 in
theorem ct_zX12_isBookHere (l : Launch) (D : va_G) (tc : Nat → ClassId) (sk : (Nat → Nat) × (Nat → Nat)) (Ma : Nat → Nat) (Mv : Nat → Int32) (Mf : Nat → Nat → Int32) (Mj : Nat → Int64) (x1 : Int32) (C : Nat → Int) (h_nx : 0 ≤ ((Mv 2) : Int32).toInt ∧ ((Mv 2) : Int32).toInt ≤ ((Mv 0) : Int32).toInt ∧ ((Mv 0) : Int32).toInt ≤ 400) (h_at : 0 ≤ x1.toInt ∧ x1.toInt ≤ 400) (h_ro : RdO (Mf 6)) (h_bs : ByS (Mf 1)) (h_w : ((Mv 3) : Int32).toInt = 0) (h_lt : LtH (rB (Mf 1) (Mv 0)) (Mv 2)) (h_e : RdE (Mf 6) C) : Ct l yX12_isBookHere cX12_isBookHere 2 (some .boolean) { frames := 3, cells := 0, slots := 0, locals := 72 } D tc sk [.ref (Ma 0), .int x1] [((Ma 0), .inr (12, [.ref (Ma 1), .int (Mv 0), .int (Mv 1), .ref (Ma 2), .ref (Ma 3), .ref (Ma 4), .ref (Ma 5), .ref (Ma 6), .int (Mv 2), .int (Mv 3), .int (Mv 4), .int (Mv 5), .int (Mv 6), .int (Mv 7), .int (Mv 8), .ref (Ma 7), .int (Mv 9), .ref (Ma 8), .int (Mv 10), .ref (Ma 9), .ref (Ma 10), .int (Mv 11), .int (Mv 12), .int (Mv 13), .ref (Ma 11), .int (Mv 14), .ref (Ma 12), .ref (Ma 13), .ref (Ma 14), .ref (Ma 15), .ref (Ma 16), .long (Mj 0), .ref (Ma 17), .ref (Ma 18), .ref (Ma 19), .ref (Ma 20)])), ((Ma 1), .inl (tc 2, 400, .inl (Mf 1))), ((Ma 6), .inl (tc 0, 95, .inl (Mf 6)))] (fun (v : Option Value) (u : (Int32) × (Int32) × (Int32) × (Nat → Int32)) => match u with | (oo0x1, oo0x2, oo0x3, oo0x4) => ∃ r : Int32, v = some (.int r) ∧ (((r.toInt = 0 ∧ ¬ (oo0x2 : Int32).toInt = 0) ∨ (r.toInt = 1 ∧ (oo0x4 0).toInt = 1 ∧ (oo0x2 : Int32).toInt = 0 ∧ ((Mf 6) 0).toInt ≤ 0))) ∧ (((Mv 2) : Int32).toInt ≤ (oo0x1 : Int32).toInt ∧ (oo0x1 : Int32).toInt ≤ ((Mv 0) : Int32).toInt) ∧ (r.toInt = 1 → (RdO oo0x4) ∧ (QfO (qz_k0 (rB (Mf 1) (Mv 0)) C (pNX (rB (Mf 1) (Mv 0)) (Mv 2))) (rB (Mf 1) (Mv 0)) oo0x2 oo0x1 oo0x4)) ∧ (r.toInt = 0 → (QoE (rB (Mf 1) (Mv 0)) C (Mv 2) ((Mf 6) 0) x1 oo0x2))) (fun (u : (Int32) × (Int32) × (Int32) × (Nat → Int32)) => match u with | (oo0x1, oo0x2, oo0x3, oo0x4) => [((Ma 0), .inr (12, [.ref (Ma 1), .int (Mv 0), .int (Mv 1), .ref (Ma 2), .ref (Ma 3), .ref (Ma 4), .ref (Ma 5), .ref (Ma 6), .int oo0x1, .int oo0x2, .int oo0x3, .int (Mv 5), .int (Mv 6), .int (Mv 7), .int (Mv 8), .ref (Ma 7), .int (Mv 9), .ref (Ma 8), .int (Mv 10), .ref (Ma 9), .ref (Ma 10), .int (Mv 11), .int (Mv 12), .int (Mv 13), .ref (Ma 11), .int (Mv 14), .ref (Ma 12), .ref (Ma 13), .ref (Ma 14), .ref (Ma 15), .ref (Ma 16), .long (Mj 0), .ref (Ma 17), .ref (Ma 18), .ref (Ma 19), .ref (Ma 20)])), ((Ma 1), .inl (tc 2, 400, .inl (Mf 1))), ((Ma 6), .inl (tc 0, 95, .inl oo0x4))]) 0 0 := by
  refine Ct.start (by decide) (Nat.le_of_ble_eq_true rfl) (fun p e s m below meth c A ls hx hb hr hlk hin hml hown hts hK hX hP hD hA hl hS => ?_)
  have hl : lv_has ls 2 [(0, .ref (Ma 0)), (1, .int x1)] := hl
  have ar_h_ro := RdO.ar h_ro
  have ar_h_lt := h_lt.1
  refine lv_aload_n hx hb dX12_isBookHere_0 rfl (lv_at hl 0 rfl) ?_
  refine gf_X12_26 hx hb hts hown hK hP 0 rfl rfl dX12_isBookHere_1 ?_
  refine lv_iconst (v := 0) hx hb dX12_isBookHere_4 (by decide) ?_
  refine va_iald hx hb hK hP 2 0 rfl rfl (vin_dec (by decide +kernel)) dX12_isBookHere_5 ?_
  refine lv_topi (fun x_1 ex_1 => ?_)
  have lx_1 : x_1.toInt = ((Mf 6) 0).toInt := congrArg Int32.toInt ex_1
  refine lv_if_le (tgt := 16) hx hb dX12_isBookHere_6 (by decide) (fun c_2 => ?_) (fun c_2 => ?_)
  · skip
    refine lv_aload_n hx hb dX12_isBookHere_16 rfl (lv_at hl 0 rfl) ?_
    refine cV (a := (Ma 0)) (As := []) (rest := []) (wr := [((Ma 6), .inl (tc 0, 95, .inl (Mf 6)))]) ⟨hx, hb, hml, hown, hts⟩ hK hX hA (cu_fX12_passWord l D tc sk (Ma 0) (Ma 1) (Ma 2) (Ma 3) (Ma 4) (Ma 5) (Ma 6) (Ma 7) (Ma 8) (Ma 9) (Ma 10) (Ma 11) (Ma 12) (Ma 13) (Ma 14) (Ma 15) (Ma 16) (Ma 17) (Ma 18) (Ma 19) (Ma 20) (Mv 0) (Mv 1) (Mv 2) (Mv 3) (Mv 4) (Mv 5) (Mv 6) (Mv 7) (Mv 8) (Mv 9) (Mv 10) (Mv 11) (Mv 12) (Mv 13) (Mv 14) (Mf 1) (Mj 0) h_nx h_bs) k_1244 k_1241 k_1243 k_34 k_106 pl_X12_passWord ⟨Nat.le_of_ble_eq_true rfl, Nat.le_of_ble_eq_true rfl⟩ rfl rfl (va_recv hK hP (ci := 12) (q0 := 0) rfl rfl) hP hD hS [0, 1] [2] rfl rfl rfl rfl rfl (by decide) rfl hl.1 rfl (Nat.le_of_ble_eq_true rfl) dX12_isBookHere_17 ⟨Nat.le_of_ble_eq_true rfl, Nat.le_of_ble_eq_true rfl⟩ (fun v_3 u_4 H locs hv_5 hP₀ hD₀ hS₀ => ?_)
    obtain ⟨sv_6, rfl⟩ : ∃ z, z = u_4 := ⟨_, rfl⟩
    obtain ⟨rfl, pf_7, pf_8, pf_9⟩ := hv_5
    have pf_7 : ((Mv 2) : Int32).toInt ≤ (sv_6 : Int32).toInt ∧ (sv_6 : Int32).toInt ≤ ((Mv 0) : Int32).toInt := pf_7
    have pf_8 : Pw (Mf 1) (Mv 0) (Mv 2) sv_6 := pf_8
    have pf_9 : PsR (rB (Mf 1) (Mv 0)) (Mv 2) sv_6 := pf_9
    refine W.eq (g2 := F0 m 20 ls []) rfl ?_
    replace hP : va_P D classes [((Ma 6), .inl (tc 0, 95, .inl (Mf 6))), ((Ma 0), .inr (12, [.ref (Ma 1), .int (Mv 0), .int (Mv 1), .ref (Ma 2), .ref (Ma 3), .ref (Ma 4), .ref (Ma 5), .ref (Ma 6), .int sv_6, .int (Mv 3), .int (Mv 4), .int (Mv 5), .int (Mv 6), .int (Mv 7), .int (Mv 8), .ref (Ma 7), .int (Mv 9), .ref (Ma 8), .int (Mv 10), .ref (Ma 9), .ref (Ma 10), .int (Mv 11), .int (Mv 12), .int (Mv 13), .ref (Ma 11), .int (Mv 14), .ref (Ma 12), .ref (Ma 13), .ref (Ma 14), .ref (Ma 15), .ref (Ma 16), .long (Mj 0), .ref (Ma 17), .ref (Ma 18), .ref (Ma 19), .ref (Ma 20)])), ((Ma 1), .inl (tc 2, 400, .inl (Mf 1)))] H := hP₀
    replace hD : va_D A [((Ma 6), .inl (tc 0, 95, .inl (Mf 6))), ((Ma 0), .inr (12, [.ref (Ma 1), .int (Mv 0), .int (Mv 1), .ref (Ma 2), .ref (Ma 3), .ref (Ma 4), .ref (Ma 5), .ref (Ma 6), .int sv_6, .int (Mv 3), .int (Mv 4), .int (Mv 5), .int (Mv 6), .int (Mv 7), .int (Mv 8), .ref (Ma 7), .int (Mv 9), .ref (Ma 8), .int (Mv 10), .ref (Ma 9), .ref (Ma 10), .int (Mv 11), .int (Mv 12), .int (Mv 13), .ref (Ma 11), .int (Mv 14), .ref (Ma 12), .ref (Ma 13), .ref (Ma 14), .ref (Ma 15), .ref (Ma 16), .long (Mj 0), .ref (Ma 17), .ref (Ma 18), .ref (Ma 19), .ref (Ma 20)])), ((Ma 1), .inl (tc 2, 400, .inl (Mf 1)))] := hD₀
    replace hS := hS₀
    clear hP₀ hD₀ hS₀
    refine lv_aload_n hx hb dX12_isBookHere_20 rfl (lv_at hl 0 rfl) ?_
    refine lv_bipush (v := 94) hx hb dX12_isBookHere_21 (by decide) ?_
    refine lv_iconst (v := 0) hx hb dX12_isBookHere_23 (by decide) ?_
    refine lv_bipush (v := 99) hx hb dX12_isBookHere_24 (by decide) ?_
    have ha_10 : 0 ≤ (sv_6 : Int32).toInt ∧ (sv_6 : Int32).toInt ≤ ((Mv 0) : Int32).toInt ∧ ((Mv 0) : Int32).toInt ≤ 400 := by
      have z_1 := Int32.le_iff_toInt_le.mp c_2
      have y_0 : (0 : Int32).toInt = 0 := by decide
      omega
    have ha_11 : 0 ≤ (94 : Int32).toInt ∧ (94 : Int32).toInt < 95 := by
      have z_1 := Int32.le_iff_toInt_le.mp c_2
      have y_0 : (0 : Int32).toInt = 0 := by decide
      have y_94 : (94 : Int32).toInt = 94 := by decide
      omega
    refine cV (a := (Ma 0)) (As := [.int 94, .int 0, .int 99]) (rest := []) (wr := []) ⟨hx, hb, hml, hown, hts⟩ hK hX hA (cu_fX12_cellHere l D tc sk (Ma 0) (Ma 1) (Ma 2) (Ma 3) (Ma 4) (Ma 5) (Ma 6) (Ma 7) (Ma 8) (Ma 9) (Ma 10) (Ma 11) (Ma 12) (Ma 13) (Ma 14) (Ma 15) (Ma 16) (Ma 17) (Ma 18) (Ma 19) (Ma 20) (Mv 0) (Mv 1) sv_6 (Mv 3) (Mv 4) (Mv 5) (Mv 6) (Mv 7) (Mv 8) (Mv 9) (Mv 10) (Mv 11) (Mv 12) (Mv 13) (Mv 14) (Mf 1) (Mf 6) (Mj 0) 94 0 99 ha_10 ha_11 h_bs h_w) k_1248 k_1245 k_1247 k_35 k_106 pl_X12_cellHere ⟨Nat.le_of_ble_eq_true rfl, Nat.le_of_ble_eq_true rfl⟩ rfl rfl (va_recv hK hP (ci := 12) (q0 := 1) rfl rfl) hP hD hS [1, 2, 0] [] rfl rfl rfl rfl rfl (by decide) rfl hl.1 rfl (Nat.le_of_ble_eq_true rfl) dX12_isBookHere_26 ⟨Nat.le_of_ble_eq_true rfl, Nat.le_of_ble_eq_true rfl⟩ (fun v_12 u_13 H locs hv_14 hP₀ hD₀ hS₀ => ?_)
    obtain ⟨sv_15, sv_16, sv_17, sv_18⟩ := u_13
    obtain ⟨r_21, rfl, he_22, pf_19, pf_20, hm_24, hm_25⟩ := hv_14
    have he_22 : ((r_21.toInt = 0 ∧ ¬ (sv_16 : Int32).toInt = 0) ∨ (r_21.toInt = 1 ∧ (0 : Int32).toInt ≤ (sv_18 (94 : Int32).toNatClampNeg).toInt ∧ (sv_18 (94 : Int32).toNatClampNeg).toInt ≤ (99 : Int32).toInt ∧ (sv_16 : Int32).toInt = 0)) := he_22
    have yl_he_22_0 : (0 : Int32).toInt = 0 := by decide
    have yl_he_22_94 : (94 : Int32).toInt = 94 := by decide
    have yl_he_22_99 : (99 : Int32).toInt = 99 := by decide
    have pf_19 : (sv_6 : Int32).toInt ≤ (sv_15 : Int32).toInt ∧ (sv_15 : Int32).toInt ≤ ((Mv 0) : Int32).toInt := pf_19
    have pf_20 : RdC (Mf 6) sv_18 (94 : Int32) := pf_20
    have kq_pf_20_0 := RdC.at pf_20 0 (by decide) (by decide)
    have kq_pf_20_2 := RdC.at pf_20 2 (by decide) (by decide)
    have kq_pf_20_3 := RdC.at pf_20 3 (by decide) (by decide)
    refine W.eq (g2 := F0 m 29 ls [.int r_21]) rfl ?_
    replace hP : va_P D classes [((Ma 0), .inr (12, [.ref (Ma 1), .int (Mv 0), .int (Mv 1), .ref (Ma 2), .ref (Ma 3), .ref (Ma 4), .ref (Ma 5), .ref (Ma 6), .int sv_15, .int sv_16, .int sv_17, .int (Mv 5), .int (Mv 6), .int (Mv 7), .int (Mv 8), .ref (Ma 7), .int (Mv 9), .ref (Ma 8), .int (Mv 10), .ref (Ma 9), .ref (Ma 10), .int (Mv 11), .int (Mv 12), .int (Mv 13), .ref (Ma 11), .int (Mv 14), .ref (Ma 12), .ref (Ma 13), .ref (Ma 14), .ref (Ma 15), .ref (Ma 16), .long (Mj 0), .ref (Ma 17), .ref (Ma 18), .ref (Ma 19), .ref (Ma 20)])), ((Ma 1), .inl (tc 2, 400, .inl (Mf 1))), ((Ma 6), .inl (tc 0, 95, .inl sv_18))] H := hP₀
    replace hD : va_D A [((Ma 0), .inr (12, [.ref (Ma 1), .int (Mv 0), .int (Mv 1), .ref (Ma 2), .ref (Ma 3), .ref (Ma 4), .ref (Ma 5), .ref (Ma 6), .int sv_15, .int sv_16, .int sv_17, .int (Mv 5), .int (Mv 6), .int (Mv 7), .int (Mv 8), .ref (Ma 7), .int (Mv 9), .ref (Ma 8), .int (Mv 10), .ref (Ma 9), .ref (Ma 10), .int (Mv 11), .int (Mv 12), .int (Mv 13), .ref (Ma 11), .int (Mv 14), .ref (Ma 12), .ref (Ma 13), .ref (Ma 14), .ref (Ma 15), .ref (Ma 16), .long (Mj 0), .ref (Ma 17), .ref (Ma 18), .ref (Ma 19), .ref (Ma 20)])), ((Ma 1), .inl (tc 2, 400, .inl (Mf 1))), ((Ma 6), .inl (tc 0, 95, .inl sv_18))] := hD₀
    replace hS := hS₀
    clear hP₀ hD₀ hS₀
    refine lv_if_eq (tgt := 54) hx hb dX12_isBookHere_29 (by decide) (fun c_26 => ?_) (fun c_26 => ?_)
    · skip
      have hz_28 : (r_21 : Int32).toInt = 0 := by
        have z_1 := Int32.le_iff_toInt_le.mp c_2
        have z_2 := congrArg Int32.toInt c_26
        have y_0 : (0 : Int32).toInt = 0 := by decide
        omega
      obtain pf_27 := hm_25 hz_28
      have pf_27 : NmE (rB (Mf 1) (Mv 0)) (0 : Int32).toInt (99 : Int32).toInt sv_6 sv_16 := pf_27
      refine lv_iconst (v := 0) hx hb dX12_isBookHere_54 (by decide) ?_
      have ha_29 : ((Mv 2) : Int32).toInt ≤ (sv_15 : Int32).toInt ∧ (sv_15 : Int32).toInt ≤ ((Mv 0) : Int32).toInt := by
        have z_1 := Int32.le_iff_toInt_le.mp c_2
        have z_2 := congrArg Int32.toInt c_26
        have y_0 : (0 : Int32).toInt = 0 := by decide
        omega
      have hp_30 : (((0 : Int32).toInt = 0 ∧ ¬ (sv_16 : Int32).toInt = 0) ∨ ((0 : Int32).toInt = 1 ∧ (sv_18 0).toInt = 1 ∧ (sv_16 : Int32).toInt = 0 ∧ ((Mf 6) 0).toInt ≤ 0)) := by
        have z_1 := Int32.le_iff_toInt_le.mp c_2
        have z_2 := congrArg Int32.toInt c_26
        have y_0 : (0 : Int32).toInt = 0 := by decide
        omega
      have hm_31 : (0 : Int32).toInt = 0 → (QoE (rB (Mf 1) (Mv 0)) C (Mv 2) ((Mf 6) 0) x1 sv_16) := by
        intro h1r
        have hn_32 : NmE (rB (Mf 1) (Mv 0)) 0 99 sv_6 sv_16 := by
          have hq := pf_27
          rw [show (0 : Int32).toInt = 0 by decide, show (99 : Int32).toInt = 99 by decide] at hq
          exact hq
        have hr_33 : ((Mf 6) 0).toInt ≤ 0 := by
          have z_1 := Int32.le_iff_toInt_le.mp c_2
          have z_2 := congrArg Int32.toInt c_26
          have y_0 : (0 : Int32).toInt = 0 := by decide
          omega
        exact (Or.inr ⟨hr_33, bk0_1 (RgO.ps h_lt pf_9 h_w) hn_32⟩)
      exact retI (v := 0) hx hb hr hlk (rfl) hP hD hS (sv_15, sv_16, sv_17, sv_18) ⟨_, rfl, hp_30, ha_29, (fun h => absurd h (by decide)), hm_31⟩ [0, 1, 2] rfl rfl dX12_isBookHere_55 (Nat.le_of_ble_eq_true rfl) (Nat.le_of_ble_eq_true rfl) rfl
    · skip
      have hz_35 : (r_21 : Int32).toInt = 1 := by
        have z_1 := Int32.le_iff_toInt_le.mp c_2
        have z_2 : ¬ (r_21 : Int32).toInt = (0 : Int32).toInt := fun z => c_26 (Int32.toInt_inj.mp z)
        have y_0 : (0 : Int32).toInt = 0 := by decide
        omega
      obtain pf_34 := hm_24 hz_35
      have pf_34 : NmO (rB (Mf 1) (Mv 0)) (0 : Int32).toInt (99 : Int32).toInt sv_6 (sv_18 (94 : Int32).toNatClampNeg) sv_15 sv_16 := pf_34
      have ar_pf_34 := pf_34.2.2
      refine lv_aload_n hx hb dX12_isBookHere_32 rfl (lv_at hl 0 rfl) ?_
      refine lv_iconst (v := 1) hx hb dX12_isBookHere_33 (by decide) ?_
      refine lv_iconst (v := 0) hx hb dX12_isBookHere_34 (by decide) ?_
      refine lv_bipush (v := 9) hx hb dX12_isBookHere_35 (by decide) ?_
      have ha_36 : 0 ≤ (sv_15 : Int32).toInt ∧ (sv_15 : Int32).toInt ≤ ((Mv 0) : Int32).toInt ∧ ((Mv 0) : Int32).toInt ≤ 400 := by
        have z_1 := Int32.le_iff_toInt_le.mp c_2
        have z_2 : ¬ (r_21 : Int32).toInt = (0 : Int32).toInt := fun z => c_26 (Int32.toInt_inj.mp z)
        have y_0 : (0 : Int32).toInt = 0 := by decide
        omega
      have ha_37 : 0 ≤ (1 : Int32).toInt ∧ (1 : Int32).toInt < 95 := by
        have z_1 := Int32.le_iff_toInt_le.mp c_2
        have z_2 : ¬ (r_21 : Int32).toInt = (0 : Int32).toInt := fun z => c_26 (Int32.toInt_inj.mp z)
        have y_0 : (0 : Int32).toInt = 0 := by decide
        have y_1 : (1 : Int32).toInt = 1 := by decide
        omega
      have ha_38 : (sv_16 : Int32).toInt = 0 := by
        have z_1 := Int32.le_iff_toInt_le.mp c_2
        have z_2 : ¬ (r_21 : Int32).toInt = (0 : Int32).toInt := fun z => c_26 (Int32.toInt_inj.mp z)
        have y_0 : (0 : Int32).toInt = 0 := by decide
        omega
      refine cV (a := (Ma 0)) (As := [.int 1, .int 0, .int 9]) (rest := []) (wr := []) ⟨hx, hb, hml, hown, hts⟩ hK hX hA (cu_fX12_cellHere l D tc sk (Ma 0) (Ma 1) (Ma 2) (Ma 3) (Ma 4) (Ma 5) (Ma 6) (Ma 7) (Ma 8) (Ma 9) (Ma 10) (Ma 11) (Ma 12) (Ma 13) (Ma 14) (Ma 15) (Ma 16) (Ma 17) (Ma 18) (Ma 19) (Ma 20) (Mv 0) (Mv 1) sv_15 sv_16 sv_17 (Mv 5) (Mv 6) (Mv 7) (Mv 8) (Mv 9) (Mv 10) (Mv 11) (Mv 12) (Mv 13) (Mv 14) (Mf 1) sv_18 (Mj 0) 1 0 9 ha_36 ha_37 h_bs ha_38) k_1248 k_1245 k_1247 k_35 k_106 pl_X12_cellHere ⟨Nat.le_of_ble_eq_true rfl, Nat.le_of_ble_eq_true rfl⟩ rfl rfl (va_recv hK hP (ci := 12) (q0 := 0) rfl rfl) hP hD hS [0, 1, 2] [] rfl rfl rfl rfl rfl (by decide) rfl hl.1 rfl (Nat.le_of_ble_eq_true rfl) dX12_isBookHere_37 ⟨Nat.le_of_ble_eq_true rfl, Nat.le_of_ble_eq_true rfl⟩ (fun v_39 u_40 H locs hv_41 hP₀ hD₀ hS₀ => ?_)
      obtain ⟨sv_42, sv_43, sv_44, sv_45⟩ := u_40
      obtain ⟨r_48, rfl, he_49, pf_46, pf_47, hm_51, hm_52⟩ := hv_41
      have he_49 : ((r_48.toInt = 0 ∧ ¬ (sv_43 : Int32).toInt = 0) ∨ (r_48.toInt = 1 ∧ (0 : Int32).toInt ≤ (sv_45 (1 : Int32).toNatClampNeg).toInt ∧ (sv_45 (1 : Int32).toNatClampNeg).toInt ≤ (9 : Int32).toInt ∧ (sv_43 : Int32).toInt = 0)) := he_49
      have yl_he_49_0 : (0 : Int32).toInt = 0 := by decide
      have yl_he_49_1 : (1 : Int32).toInt = 1 := by decide
      have yl_he_49_9 : (9 : Int32).toInt = 9 := by decide
      have pf_46 : (sv_15 : Int32).toInt ≤ (sv_42 : Int32).toInt ∧ (sv_42 : Int32).toInt ≤ ((Mv 0) : Int32).toInt := pf_46
      have pf_47 : RdC sv_18 sv_45 (1 : Int32) := pf_47
      have kq_pf_47_0 := RdC.at pf_47 0 (by decide) (by decide)
      have kq_pf_47_2 := RdC.at pf_47 2 (by decide) (by decide)
      have kq_pf_47_3 := RdC.at pf_47 3 (by decide) (by decide)
      refine W.eq (g2 := F0 m 40 ls [.int r_48]) rfl ?_
      replace hP : va_P D classes [((Ma 0), .inr (12, [.ref (Ma 1), .int (Mv 0), .int (Mv 1), .ref (Ma 2), .ref (Ma 3), .ref (Ma 4), .ref (Ma 5), .ref (Ma 6), .int sv_42, .int sv_43, .int sv_44, .int (Mv 5), .int (Mv 6), .int (Mv 7), .int (Mv 8), .ref (Ma 7), .int (Mv 9), .ref (Ma 8), .int (Mv 10), .ref (Ma 9), .ref (Ma 10), .int (Mv 11), .int (Mv 12), .int (Mv 13), .ref (Ma 11), .int (Mv 14), .ref (Ma 12), .ref (Ma 13), .ref (Ma 14), .ref (Ma 15), .ref (Ma 16), .long (Mj 0), .ref (Ma 17), .ref (Ma 18), .ref (Ma 19), .ref (Ma 20)])), ((Ma 1), .inl (tc 2, 400, .inl (Mf 1))), ((Ma 6), .inl (tc 0, 95, .inl sv_45))] H := hP₀
      replace hD : va_D A [((Ma 0), .inr (12, [.ref (Ma 1), .int (Mv 0), .int (Mv 1), .ref (Ma 2), .ref (Ma 3), .ref (Ma 4), .ref (Ma 5), .ref (Ma 6), .int sv_42, .int sv_43, .int sv_44, .int (Mv 5), .int (Mv 6), .int (Mv 7), .int (Mv 8), .ref (Ma 7), .int (Mv 9), .ref (Ma 8), .int (Mv 10), .ref (Ma 9), .ref (Ma 10), .int (Mv 11), .int (Mv 12), .int (Mv 13), .ref (Ma 11), .int (Mv 14), .ref (Ma 12), .ref (Ma 13), .ref (Ma 14), .ref (Ma 15), .ref (Ma 16), .long (Mj 0), .ref (Ma 17), .ref (Ma 18), .ref (Ma 19), .ref (Ma 20)])), ((Ma 1), .inl (tc 2, 400, .inl (Mf 1))), ((Ma 6), .inl (tc 0, 95, .inl sv_45))] := hD₀
      replace hS := hS₀
      clear hP₀ hD₀ hS₀
      refine lv_if_eq (tgt := 54) hx hb dX12_isBookHere_40 (by decide) (fun c_53 => ?_) (fun c_53 => ?_)
      · skip
        have hz_55 : (r_48 : Int32).toInt = 0 := by
          have z_1 := Int32.le_iff_toInt_le.mp c_2
          have z_2 : ¬ (r_21 : Int32).toInt = (0 : Int32).toInt := fun z => c_26 (Int32.toInt_inj.mp z)
          have z_3 := congrArg Int32.toInt c_53
          have y_0 : (0 : Int32).toInt = 0 := by decide
          omega
        obtain pf_54 := hm_52 hz_55
        have pf_54 : NmE (rB (Mf 1) (Mv 0)) (0 : Int32).toInt (9 : Int32).toInt sv_15 sv_43 := pf_54
        refine lv_iconst (v := 0) hx hb dX12_isBookHere_54 (by decide) ?_
        have ha_56 : ((Mv 2) : Int32).toInt ≤ (sv_42 : Int32).toInt ∧ (sv_42 : Int32).toInt ≤ ((Mv 0) : Int32).toInt := by
          have z_1 := Int32.le_iff_toInt_le.mp c_2
          have z_2 : ¬ (r_21 : Int32).toInt = (0 : Int32).toInt := fun z => c_26 (Int32.toInt_inj.mp z)
          have z_3 := congrArg Int32.toInt c_53
          have y_0 : (0 : Int32).toInt = 0 := by decide
          omega
        have hp_57 : (((0 : Int32).toInt = 0 ∧ ¬ (sv_43 : Int32).toInt = 0) ∨ ((0 : Int32).toInt = 1 ∧ (sv_45 0).toInt = 1 ∧ (sv_43 : Int32).toInt = 0 ∧ ((Mf 6) 0).toInt ≤ 0)) := by
          have z_1 := Int32.le_iff_toInt_le.mp c_2
          have z_2 : ¬ (r_21 : Int32).toInt = (0 : Int32).toInt := fun z => c_26 (Int32.toInt_inj.mp z)
          have z_3 := congrArg Int32.toInt c_53
          have y_0 : (0 : Int32).toInt = 0 := by decide
          omega
        have hm_58 : (0 : Int32).toInt = 0 → (QoE (rB (Mf 1) (Mv 0)) C (Mv 2) ((Mf 6) 0) x1 sv_43) := by
          intro h1r
          have hn_59 : NmO (rB (Mf 1) (Mv 0)) 0 99 sv_6 (sv_18 (94 : Int32).toNatClampNeg) sv_15 sv_16 := by
            have hq := pf_34
            rw [show (0 : Int32).toInt = 0 by decide, show (99 : Int32).toInt = 99 by decide] at hq
            exact hq
          have hn_60 : NmE (rB (Mf 1) (Mv 0)) 0 9 sv_15 sv_43 := by
            have hq := pf_54
            rw [show (0 : Int32).toInt = 0 by decide, show (9 : Int32).toInt = 9 by decide] at hq
            exact hq
          have hr_61 : ((Mf 6) 0).toInt ≤ 0 := by
            have z_1 := Int32.le_iff_toInt_le.mp c_2
            have z_2 : ¬ (r_21 : Int32).toInt = (0 : Int32).toInt := fun z => c_26 (Int32.toInt_inj.mp z)
            have z_3 := congrArg Int32.toInt c_53
            have y_0 : (0 : Int32).toInt = 0 := by decide
            omega
          exact (Or.inr ⟨hr_61, bk0_2 (RgO.ps h_lt pf_9 h_w) hn_59 hn_60⟩)
        exact retI (v := 0) hx hb hr hlk (rfl) hP hD hS (sv_42, sv_43, sv_44, sv_45) ⟨_, rfl, hp_57, ha_56, (fun h => absurd h (by decide)), hm_58⟩ [0, 1, 2] rfl rfl dX12_isBookHere_55 (Nat.le_of_ble_eq_true rfl) (Nat.le_of_ble_eq_true rfl) rfl
      · skip
        have hz_63 : (r_48 : Int32).toInt = 1 := by
          have z_1 := Int32.le_iff_toInt_le.mp c_2
          have z_2 : ¬ (r_21 : Int32).toInt = (0 : Int32).toInt := fun z => c_26 (Int32.toInt_inj.mp z)
          have z_3 : ¬ (r_48 : Int32).toInt = (0 : Int32).toInt := fun z => c_53 (Int32.toInt_inj.mp z)
          have y_0 : (0 : Int32).toInt = 0 := by decide
          omega
        obtain pf_62 := hm_51 hz_63
        have pf_62 : NmO (rB (Mf 1) (Mv 0)) (0 : Int32).toInt (9 : Int32).toInt sv_15 (sv_45 (1 : Int32).toNatClampNeg) sv_42 sv_43 := pf_62
        have ar_pf_62 := pf_62.2.2
        refine lv_aload_n hx hb dX12_isBookHere_43 rfl (lv_at hl 0 rfl) ?_
        refine lv_iconst (v := 2) hx hb dX12_isBookHere_44 (by decide) ?_
        refine lv_iconst (v := 1) hx hb dX12_isBookHere_45 (by decide) ?_
        refine lv_bipush (v := 10) hx hb dX12_isBookHere_46 (by decide) ?_
        have ha_64 : 0 ≤ (sv_42 : Int32).toInt ∧ (sv_42 : Int32).toInt ≤ ((Mv 0) : Int32).toInt ∧ ((Mv 0) : Int32).toInt ≤ 400 := by
          have z_1 := Int32.le_iff_toInt_le.mp c_2
          have z_2 : ¬ (r_21 : Int32).toInt = (0 : Int32).toInt := fun z => c_26 (Int32.toInt_inj.mp z)
          have z_3 : ¬ (r_48 : Int32).toInt = (0 : Int32).toInt := fun z => c_53 (Int32.toInt_inj.mp z)
          have y_0 : (0 : Int32).toInt = 0 := by decide
          omega
        have ha_65 : 0 ≤ (2 : Int32).toInt ∧ (2 : Int32).toInt < 95 := by
          have z_1 := Int32.le_iff_toInt_le.mp c_2
          have z_2 : ¬ (r_21 : Int32).toInt = (0 : Int32).toInt := fun z => c_26 (Int32.toInt_inj.mp z)
          have z_3 : ¬ (r_48 : Int32).toInt = (0 : Int32).toInt := fun z => c_53 (Int32.toInt_inj.mp z)
          have y_0 : (0 : Int32).toInt = 0 := by decide
          have y_2 : (2 : Int32).toInt = 2 := by decide
          omega
        have ha_66 : (sv_43 : Int32).toInt = 0 := by
          have z_1 := Int32.le_iff_toInt_le.mp c_2
          have z_2 : ¬ (r_21 : Int32).toInt = (0 : Int32).toInt := fun z => c_26 (Int32.toInt_inj.mp z)
          have z_3 : ¬ (r_48 : Int32).toInt = (0 : Int32).toInt := fun z => c_53 (Int32.toInt_inj.mp z)
          have y_0 : (0 : Int32).toInt = 0 := by decide
          omega
        refine cV (a := (Ma 0)) (As := [.int 2, .int 1, .int 10]) (rest := []) (wr := []) ⟨hx, hb, hml, hown, hts⟩ hK hX hA (cu_fX12_cellHere l D tc sk (Ma 0) (Ma 1) (Ma 2) (Ma 3) (Ma 4) (Ma 5) (Ma 6) (Ma 7) (Ma 8) (Ma 9) (Ma 10) (Ma 11) (Ma 12) (Ma 13) (Ma 14) (Ma 15) (Ma 16) (Ma 17) (Ma 18) (Ma 19) (Ma 20) (Mv 0) (Mv 1) sv_42 sv_43 sv_44 (Mv 5) (Mv 6) (Mv 7) (Mv 8) (Mv 9) (Mv 10) (Mv 11) (Mv 12) (Mv 13) (Mv 14) (Mf 1) sv_45 (Mj 0) 2 1 10 ha_64 ha_65 h_bs ha_66) k_1248 k_1245 k_1247 k_35 k_106 pl_X12_cellHere ⟨Nat.le_of_ble_eq_true rfl, Nat.le_of_ble_eq_true rfl⟩ rfl rfl (va_recv hK hP (ci := 12) (q0 := 0) rfl rfl) hP hD hS [0, 1, 2] [] rfl rfl rfl rfl rfl (by decide) rfl hl.1 rfl (Nat.le_of_ble_eq_true rfl) dX12_isBookHere_48 ⟨Nat.le_of_ble_eq_true rfl, Nat.le_of_ble_eq_true rfl⟩ (fun v_67 u_68 H locs hv_69 hP₀ hD₀ hS₀ => ?_)
        obtain ⟨sv_70, sv_71, sv_72, sv_73⟩ := u_68
        obtain ⟨r_76, rfl, he_77, pf_74, pf_75, hm_79, hm_80⟩ := hv_69
        have he_77 : ((r_76.toInt = 0 ∧ ¬ (sv_71 : Int32).toInt = 0) ∨ (r_76.toInt = 1 ∧ (1 : Int32).toInt ≤ (sv_73 (2 : Int32).toNatClampNeg).toInt ∧ (sv_73 (2 : Int32).toNatClampNeg).toInt ≤ (10 : Int32).toInt ∧ (sv_71 : Int32).toInt = 0)) := he_77
        have yl_he_77_1 : (1 : Int32).toInt = 1 := by decide
        have yl_he_77_2 : (2 : Int32).toInt = 2 := by decide
        have yl_he_77_10 : (10 : Int32).toInt = 10 := by decide
        have pf_74 : (sv_42 : Int32).toInt ≤ (sv_70 : Int32).toInt ∧ (sv_70 : Int32).toInt ≤ ((Mv 0) : Int32).toInt := pf_74
        have pf_75 : RdC sv_45 sv_73 (2 : Int32) := pf_75
        have kq_pf_75_0 := RdC.at pf_75 0 (by decide) (by decide)
        have kq_pf_75_2 : (sv_73 2).toInt = (sv_73 (2 : Int32).toNatClampNeg).toInt := rfl
        have kq_pf_75_3 := RdC.at pf_75 3 (by decide) (by decide)
        refine W.eq (g2 := F0 m 51 ls [.int r_76]) rfl ?_
        replace hP : va_P D classes [((Ma 0), .inr (12, [.ref (Ma 1), .int (Mv 0), .int (Mv 1), .ref (Ma 2), .ref (Ma 3), .ref (Ma 4), .ref (Ma 5), .ref (Ma 6), .int sv_70, .int sv_71, .int sv_72, .int (Mv 5), .int (Mv 6), .int (Mv 7), .int (Mv 8), .ref (Ma 7), .int (Mv 9), .ref (Ma 8), .int (Mv 10), .ref (Ma 9), .ref (Ma 10), .int (Mv 11), .int (Mv 12), .int (Mv 13), .ref (Ma 11), .int (Mv 14), .ref (Ma 12), .ref (Ma 13), .ref (Ma 14), .ref (Ma 15), .ref (Ma 16), .long (Mj 0), .ref (Ma 17), .ref (Ma 18), .ref (Ma 19), .ref (Ma 20)])), ((Ma 1), .inl (tc 2, 400, .inl (Mf 1))), ((Ma 6), .inl (tc 0, 95, .inl sv_73))] H := hP₀
        replace hD : va_D A [((Ma 0), .inr (12, [.ref (Ma 1), .int (Mv 0), .int (Mv 1), .ref (Ma 2), .ref (Ma 3), .ref (Ma 4), .ref (Ma 5), .ref (Ma 6), .int sv_70, .int sv_71, .int sv_72, .int (Mv 5), .int (Mv 6), .int (Mv 7), .int (Mv 8), .ref (Ma 7), .int (Mv 9), .ref (Ma 8), .int (Mv 10), .ref (Ma 9), .ref (Ma 10), .int (Mv 11), .int (Mv 12), .int (Mv 13), .ref (Ma 11), .int (Mv 14), .ref (Ma 12), .ref (Ma 13), .ref (Ma 14), .ref (Ma 15), .ref (Ma 16), .long (Mj 0), .ref (Ma 17), .ref (Ma 18), .ref (Ma 19), .ref (Ma 20)])), ((Ma 1), .inl (tc 2, 400, .inl (Mf 1))), ((Ma 6), .inl (tc 0, 95, .inl sv_73))] := hD₀
        replace hS := hS₀
        clear hP₀ hD₀ hS₀
        refine lv_if_ne (tgt := 56) hx hb dX12_isBookHere_51 (by decide) (fun c_81 => ?_) (fun c_81 => ?_)
        · skip
          have hz_83 : (r_76 : Int32).toInt = 1 := by
            have z_1 := Int32.le_iff_toInt_le.mp c_2
            have z_2 : ¬ (r_21 : Int32).toInt = (0 : Int32).toInt := fun z => c_26 (Int32.toInt_inj.mp z)
            have z_3 : ¬ (r_48 : Int32).toInt = (0 : Int32).toInt := fun z => c_53 (Int32.toInt_inj.mp z)
            have z_4 : ¬ (r_76 : Int32).toInt = (0 : Int32).toInt := fun z => c_81 (Int32.toInt_inj.mp z)
            have y_0 : (0 : Int32).toInt = 0 := by decide
            omega
          obtain pf_82 := hm_79 hz_83
          have pf_82 : NmO (rB (Mf 1) (Mv 0)) (1 : Int32).toInt (10 : Int32).toInt sv_42 (sv_73 (2 : Int32).toNatClampNeg) sv_70 sv_71 := pf_82
          have ar_pf_82 := pf_82.2.2
          refine lv_aload_n hx hb dX12_isBookHere_56 rfl (lv_at hl 0 rfl) ?_
          refine gf_X12_26 hx hb hts hown hK hP 0 rfl rfl dX12_isBookHere_57 ?_
          refine lv_iconst (v := 0) hx hb dX12_isBookHere_60 (by decide) ?_
          refine lv_iconst (v := 1) hx hb dX12_isBookHere_61 (by decide) ?_
          refine st_int hx hb hK hP hD hS 2 0 rfl rfl (vin_dec (by decide +kernel)) dX12_isBookHere_62 (fun g_84 H locs eg_84 hP₀ hD₀ hS₀ => ?_)
          replace hP : va_P D classes [((Ma 0), .inr (12, [.ref (Ma 1), .int (Mv 0), .int (Mv 1), .ref (Ma 2), .ref (Ma 3), .ref (Ma 4), .ref (Ma 5), .ref (Ma 6), .int sv_70, .int sv_71, .int sv_72, .int (Mv 5), .int (Mv 6), .int (Mv 7), .int (Mv 8), .ref (Ma 7), .int (Mv 9), .ref (Ma 8), .int (Mv 10), .ref (Ma 9), .ref (Ma 10), .int (Mv 11), .int (Mv 12), .int (Mv 13), .ref (Ma 11), .int (Mv 14), .ref (Ma 12), .ref (Ma 13), .ref (Ma 14), .ref (Ma 15), .ref (Ma 16), .long (Mj 0), .ref (Ma 17), .ref (Ma 18), .ref (Ma 19), .ref (Ma 20)])), ((Ma 1), .inl (tc 2, 400, .inl (Mf 1))), ((Ma 6), .inl (tc 0, 95, .inl g_84))] H := hP₀
          replace hD : va_D A [((Ma 0), .inr (12, [.ref (Ma 1), .int (Mv 0), .int (Mv 1), .ref (Ma 2), .ref (Ma 3), .ref (Ma 4), .ref (Ma 5), .ref (Ma 6), .int sv_70, .int sv_71, .int sv_72, .int (Mv 5), .int (Mv 6), .int (Mv 7), .int (Mv 8), .ref (Ma 7), .int (Mv 9), .ref (Ma 8), .int (Mv 10), .ref (Ma 9), .ref (Ma 10), .int (Mv 11), .int (Mv 12), .int (Mv 13), .ref (Ma 11), .int (Mv 14), .ref (Ma 12), .ref (Ma 13), .ref (Ma 14), .ref (Ma 15), .ref (Ma 16), .long (Mj 0), .ref (Ma 17), .ref (Ma 18), .ref (Ma 19), .ref (Ma 20)])), ((Ma 1), .inl (tc 2, 400, .inl (Mf 1))), ((Ma 6), .inl (tc 0, 95, .inl g_84))] := hD₀
          replace hS := hS₀
          clear hP₀ hD₀ hS₀
          have ku_g_84_0 : (g_84 0).toInt = (1 : Int32).toInt := upd_toInt_at (i := 0) eg_84
          have ku_g_84_2 : (g_84 2).toInt = (sv_73 2).toInt := upd_toInt_ne (i := 0) eg_84 (by decide)
          have ku_g_84_3 : (g_84 3).toInt = (sv_73 3).toInt := upd_toInt_ne (i := 0) eg_84 (by decide)
          have kv_g_84 : (1 : Int32).toInt = 1 := by decide
          refine lv_iconst (v := 1) hx hb dX12_isBookHere_63 (by decide) ?_
          have ha_85 : ((Mv 2) : Int32).toInt ≤ (sv_70 : Int32).toInt ∧ (sv_70 : Int32).toInt ≤ ((Mv 0) : Int32).toInt := by
            have z_1 := Int32.le_iff_toInt_le.mp c_2
            have z_2 : ¬ (r_21 : Int32).toInt = (0 : Int32).toInt := fun z => c_26 (Int32.toInt_inj.mp z)
            have z_3 : ¬ (r_48 : Int32).toInt = (0 : Int32).toInt := fun z => c_53 (Int32.toInt_inj.mp z)
            have z_4 : ¬ (r_76 : Int32).toInt = (0 : Int32).toInt := fun z => c_81 (Int32.toInt_inj.mp z)
            have y_0 : (0 : Int32).toInt = 0 := by decide
            omega
          have hp_86 : (((1 : Int32).toInt = 0 ∧ ¬ (sv_71 : Int32).toInt = 0) ∨ ((1 : Int32).toInt = 1 ∧ (g_84 0).toInt = 1 ∧ (sv_71 : Int32).toInt = 0 ∧ ((Mf 6) 0).toInt ≤ 0)) := by
            have z_1 := Int32.le_iff_toInt_le.mp c_2
            have z_2 : ¬ (r_21 : Int32).toInt = (0 : Int32).toInt := fun z => c_26 (Int32.toInt_inj.mp z)
            have z_3 : ¬ (r_48 : Int32).toInt = (0 : Int32).toInt := fun z => c_53 (Int32.toInt_inj.mp z)
            have z_4 : ¬ (r_76 : Int32).toInt = (0 : Int32).toInt := fun z => c_81 (Int32.toInt_inj.mp z)
            have y_0 : (0 : Int32).toInt = 0 := by decide
            have y_1 : (1 : Int32).toInt = 1 := by decide
            have yr : (1 : Int32).toInt = 1 := by decide
            omega
          have hm_87 : (1 : Int32).toInt = 1 → (RdO g_84) ∧ (QfO (qz_k0 (rB (Mf 1) (Mv 0)) C (pNX (rB (Mf 1) (Mv 0)) (Mv 2))) (rB (Mf 1) (Mv 0)) sv_71 sv_70 g_84) := by
            intro h1r
            have ha_88 : RdO g_84 := RdO.of (by
              have z_1 := Int32.le_iff_toInt_le.mp c_2
              have z_2 : ¬ (r_21 : Int32).toInt = (0 : Int32).toInt := fun z => c_26 (Int32.toInt_inj.mp z)
              have z_3 : ¬ (r_48 : Int32).toInt = (0 : Int32).toInt := fun z => c_53 (Int32.toInt_inj.mp z)
              have z_4 : ¬ (r_76 : Int32).toInt = (0 : Int32).toInt := fun z => c_81 (Int32.toInt_inj.mp z)
              have y_0 : (0 : Int32).toInt = 0 := by decide
              omega)
            have hn_89 : NmO (rB (Mf 1) (Mv 0)) 0 99 sv_6 (sv_18 (94 : Int32).toNatClampNeg) sv_15 sv_16 := by
              have hq := pf_34
              rw [show (0 : Int32).toInt = 0 by decide, show (99 : Int32).toInt = 99 by decide] at hq
              exact hq
            have hn_90 : NmO (rB (Mf 1) (Mv 0)) 0 9 sv_15 (sv_45 (1 : Int32).toNatClampNeg) sv_42 sv_43 := by
              have hq := pf_62
              rw [show (0 : Int32).toInt = 0 by decide, show (9 : Int32).toInt = 9 by decide] at hq
              exact hq
            have hn_91 : NmO (rB (Mf 1) (Mv 0)) 1 10 sv_42 (sv_73 (2 : Int32).toNatClampNeg) sv_70 sv_71 := by
              have hq := pf_82
              rw [show (1 : Int32).toInt = 1 by decide, show (10 : Int32).toInt = 10 by decide] at hq
              exact hq
            have hi_92 : ((94 : Int32) : Int32).toInt = 94 := by
              have z_1 := Int32.le_iff_toInt_le.mp c_2
              have z_2 : ¬ (r_21 : Int32).toInt = (0 : Int32).toInt := fun z => c_26 (Int32.toInt_inj.mp z)
              have z_3 : ¬ (r_48 : Int32).toInt = (0 : Int32).toInt := fun z => c_53 (Int32.toInt_inj.mp z)
              have z_4 : ¬ (r_76 : Int32).toInt = (0 : Int32).toInt := fun z => c_81 (Int32.toInt_inj.mp z)
              have y_0 : (0 : Int32).toInt = 0 := by decide
              have y_94 : (94 : Int32).toInt = 94 := by decide
              decide
            have hi_93 : ((1 : Int32) : Int32).toInt = 1 := by
              have z_1 := Int32.le_iff_toInt_le.mp c_2
              have z_2 : ¬ (r_21 : Int32).toInt = (0 : Int32).toInt := fun z => c_26 (Int32.toInt_inj.mp z)
              have z_3 : ¬ (r_48 : Int32).toInt = (0 : Int32).toInt := fun z => c_53 (Int32.toInt_inj.mp z)
              have z_4 : ¬ (r_76 : Int32).toInt = (0 : Int32).toInt := fun z => c_81 (Int32.toInt_inj.mp z)
              have y_0 : (0 : Int32).toInt = 0 := by decide
              have y_1 : (1 : Int32).toInt = 1 := by decide
              decide
            have hi_94 : ((2 : Int32) : Int32).toInt = 2 := by
              have z_1 := Int32.le_iff_toInt_le.mp c_2
              have z_2 : ¬ (r_21 : Int32).toInt = (0 : Int32).toInt := fun z => c_26 (Int32.toInt_inj.mp z)
              have z_3 : ¬ (r_48 : Int32).toInt = (0 : Int32).toInt := fun z => c_53 (Int32.toInt_inj.mp z)
              have z_4 : ¬ (r_76 : Int32).toInt = (0 : Int32).toInt := fun z => c_81 (Int32.toInt_inj.mp z)
              have y_0 : (0 : Int32).toInt = 0 := by decide
              have y_2 : (2 : Int32).toInt = 2 := by decide
              decide
            have hf_95 : QfO (qz_k0 (rB (Mf 1) (Mv 0)) C (pNX (rB (Mf 1) (Mv 0)) (Mv 2))) (rB (Mf 1) (Mv 0)) sv_71 sv_70 g_84 := bk0_ok (RgO.ps h_lt pf_9 h_w) hn_89 hn_90 hn_91 h_e pf_20 pf_47 pf_75 hi_92 hi_93 hi_94 (j := 0) eg_84 (by decide) (by decide)
            exact ⟨ha_88, hf_95⟩
          exact retI (v := 1) hx hb hr hlk (rfl) hP hD hS (sv_70, sv_71, sv_72, g_84) ⟨_, rfl, hp_86, ha_85, hm_87, (fun h => absurd h (by decide))⟩ [0, 1, 2] rfl rfl dX12_isBookHere_64 (Nat.le_of_ble_eq_true rfl) (Nat.le_of_ble_eq_true rfl) rfl
        · skip
          have hz_97 : (r_76 : Int32).toInt = 0 := by
            have z_1 := Int32.le_iff_toInt_le.mp c_2
            have z_2 : ¬ (r_21 : Int32).toInt = (0 : Int32).toInt := fun z => c_26 (Int32.toInt_inj.mp z)
            have z_3 : ¬ (r_48 : Int32).toInt = (0 : Int32).toInt := fun z => c_53 (Int32.toInt_inj.mp z)
            have z_4 := congrArg Int32.toInt c_81
            have y_0 : (0 : Int32).toInt = 0 := by decide
            omega
          obtain pf_96 := hm_80 hz_97
          have pf_96 : NmE (rB (Mf 1) (Mv 0)) (1 : Int32).toInt (10 : Int32).toInt sv_42 sv_71 := pf_96
          refine lv_iconst (v := 0) hx hb dX12_isBookHere_54 (by decide) ?_
          have ha_98 : ((Mv 2) : Int32).toInt ≤ (sv_70 : Int32).toInt ∧ (sv_70 : Int32).toInt ≤ ((Mv 0) : Int32).toInt := by
            have z_1 := Int32.le_iff_toInt_le.mp c_2
            have z_2 : ¬ (r_21 : Int32).toInt = (0 : Int32).toInt := fun z => c_26 (Int32.toInt_inj.mp z)
            have z_3 : ¬ (r_48 : Int32).toInt = (0 : Int32).toInt := fun z => c_53 (Int32.toInt_inj.mp z)
            have z_4 := congrArg Int32.toInt c_81
            have y_0 : (0 : Int32).toInt = 0 := by decide
            omega
          have hp_99 : (((0 : Int32).toInt = 0 ∧ ¬ (sv_71 : Int32).toInt = 0) ∨ ((0 : Int32).toInt = 1 ∧ (sv_73 0).toInt = 1 ∧ (sv_71 : Int32).toInt = 0 ∧ ((Mf 6) 0).toInt ≤ 0)) := by
            have z_1 := Int32.le_iff_toInt_le.mp c_2
            have z_2 : ¬ (r_21 : Int32).toInt = (0 : Int32).toInt := fun z => c_26 (Int32.toInt_inj.mp z)
            have z_3 : ¬ (r_48 : Int32).toInt = (0 : Int32).toInt := fun z => c_53 (Int32.toInt_inj.mp z)
            have z_4 := congrArg Int32.toInt c_81
            have y_0 : (0 : Int32).toInt = 0 := by decide
            omega
          have hm_100 : (0 : Int32).toInt = 0 → (QoE (rB (Mf 1) (Mv 0)) C (Mv 2) ((Mf 6) 0) x1 sv_71) := by
            intro h1r
            have hn_101 : NmO (rB (Mf 1) (Mv 0)) 0 99 sv_6 (sv_18 (94 : Int32).toNatClampNeg) sv_15 sv_16 := by
              have hq := pf_34
              rw [show (0 : Int32).toInt = 0 by decide, show (99 : Int32).toInt = 99 by decide] at hq
              exact hq
            have hn_102 : NmO (rB (Mf 1) (Mv 0)) 0 9 sv_15 (sv_45 (1 : Int32).toNatClampNeg) sv_42 sv_43 := by
              have hq := pf_62
              rw [show (0 : Int32).toInt = 0 by decide, show (9 : Int32).toInt = 9 by decide] at hq
              exact hq
            have hn_103 : NmE (rB (Mf 1) (Mv 0)) 1 10 sv_42 sv_71 := by
              have hq := pf_96
              rw [show (1 : Int32).toInt = 1 by decide, show (10 : Int32).toInt = 10 by decide] at hq
              exact hq
            have hr_104 : ((Mf 6) 0).toInt ≤ 0 := by
              have z_1 := Int32.le_iff_toInt_le.mp c_2
              have z_2 : ¬ (r_21 : Int32).toInt = (0 : Int32).toInt := fun z => c_26 (Int32.toInt_inj.mp z)
              have z_3 : ¬ (r_48 : Int32).toInt = (0 : Int32).toInt := fun z => c_53 (Int32.toInt_inj.mp z)
              have z_4 := congrArg Int32.toInt c_81
              have y_0 : (0 : Int32).toInt = 0 := by decide
              omega
            exact (Or.inr ⟨hr_104, bk0_3 (RgO.ps h_lt pf_9 h_w) hn_101 hn_102 hn_103⟩)
          exact retI (v := 0) hx hb hr hlk (rfl) hP hD hS (sv_70, sv_71, sv_72, sv_73) ⟨_, rfl, hp_99, ha_98, (fun h => absurd h (by decide)), hm_100⟩ [0, 1, 2] rfl rfl dX12_isBookHere_55 (Nat.le_of_ble_eq_true rfl) (Nat.le_of_ble_eq_true rfl) rfl
  · skip
    refine lv_aload_n hx hb dX12_isBookHere_9 rfl (lv_at hl 0 rfl) ?_
    refine lv_iconst (v := 4) hx hb dX12_isBookHere_10 (by decide) ?_
    refine lv_iload_n hx hb dX12_isBookHere_11 rfl (lv_at hl 1 rfl) ?_
    have ha_105 : 0 ≤ (4 : Int32).toInt ∧ (4 : Int32).toInt ≤ 4 := by
      have z_1 := Int32.lt_iff_toInt_lt.mp (Int32.not_le.mp c_2)
      have y_0 : (0 : Int32).toInt = 0 := by decide
      have y_4 : (4 : Int32).toInt = 4 := by decide
      omega
    refine cV (a := (Ma 0)) (As := [.int 4, .int x1]) (rest := []) (wr := [((Ma 1), .inl (tc 2, 400, .inl (Mf 1))), ((Ma 6), .inl (tc 0, 95, .inl (Mf 6)))]) ⟨hx, hb, hml, hown, hts⟩ hK hX hA (cu_fX12_fails l D tc sk (Ma 0) (Ma 1) (Ma 2) (Ma 3) (Ma 4) (Ma 5) (Ma 6) (Ma 7) (Ma 8) (Ma 9) (Ma 10) (Ma 11) (Ma 12) (Ma 13) (Ma 14) (Ma 15) (Ma 16) (Ma 17) (Ma 18) (Ma 19) (Ma 20) (Mv 0) (Mv 1) (Mv 2) (Mv 3) (Mv 4) (Mv 5) (Mv 6) (Mv 7) (Mv 8) (Mv 9) (Mv 10) (Mv 11) (Mv 12) (Mv 13) (Mv 14) (Mj 0) 4 x1 ha_105 h_at h_w) k_1232 k_1229 k_1231 k_31 k_106 pl_X12_fails ⟨Nat.le_of_ble_eq_true rfl, Nat.le_of_ble_eq_true rfl⟩ rfl rfl (va_recv hK hP (ci := 12) (q0 := 0) rfl rfl) hP hD hS [0] [1, 2] rfl rfl rfl rfl rfl (by decide) rfl hl.1 rfl (Nat.le_of_ble_eq_true rfl) dX12_isBookHere_12 ⟨Nat.le_of_ble_eq_true rfl, Nat.le_of_ble_eq_true rfl⟩ (fun v_106 u_107 H locs hv_108 hP₀ hD₀ hS₀ => ?_)
    obtain ⟨sv_109, rfl⟩ : ∃ z, z = u_107 := ⟨_, rfl⟩
    obtain ⟨r_112, rfl, he_113, pf_110, pf_111⟩ := hv_108
    have he_113 : r_112.toInt = 0 := he_113
    have pf_110 : ¬ (sv_109 : Int32).toInt = 0 := pf_110
    have pf_111 : (sv_109 : Int32).toInt = 1 + 8 * x1.toInt + (4 : Int32).toInt := pf_111
    refine W.eq (g2 := F0 m 15 ls [.int r_112]) rfl ?_
    replace hP : va_P D classes [((Ma 1), .inl (tc 2, 400, .inl (Mf 1))), ((Ma 6), .inl (tc 0, 95, .inl (Mf 6))), ((Ma 0), .inr (12, [.ref (Ma 1), .int (Mv 0), .int (Mv 1), .ref (Ma 2), .ref (Ma 3), .ref (Ma 4), .ref (Ma 5), .ref (Ma 6), .int (Mv 2), .int sv_109, .int (Mv 4), .int (Mv 5), .int (Mv 6), .int (Mv 7), .int (Mv 8), .ref (Ma 7), .int (Mv 9), .ref (Ma 8), .int (Mv 10), .ref (Ma 9), .ref (Ma 10), .int (Mv 11), .int (Mv 12), .int (Mv 13), .ref (Ma 11), .int (Mv 14), .ref (Ma 12), .ref (Ma 13), .ref (Ma 14), .ref (Ma 15), .ref (Ma 16), .long (Mj 0), .ref (Ma 17), .ref (Ma 18), .ref (Ma 19), .ref (Ma 20)]))] H := hP₀
    replace hD : va_D A [((Ma 1), .inl (tc 2, 400, .inl (Mf 1))), ((Ma 6), .inl (tc 0, 95, .inl (Mf 6))), ((Ma 0), .inr (12, [.ref (Ma 1), .int (Mv 0), .int (Mv 1), .ref (Ma 2), .ref (Ma 3), .ref (Ma 4), .ref (Ma 5), .ref (Ma 6), .int (Mv 2), .int sv_109, .int (Mv 4), .int (Mv 5), .int (Mv 6), .int (Mv 7), .int (Mv 8), .ref (Ma 7), .int (Mv 9), .ref (Ma 8), .int (Mv 10), .ref (Ma 9), .ref (Ma 10), .int (Mv 11), .int (Mv 12), .int (Mv 13), .ref (Ma 11), .int (Mv 14), .ref (Ma 12), .ref (Ma 13), .ref (Ma 14), .ref (Ma 15), .ref (Ma 16), .long (Mj 0), .ref (Ma 17), .ref (Ma 18), .ref (Ma 19), .ref (Ma 20)]))] := hD₀
    replace hS := hS₀
    clear hP₀ hD₀ hS₀
    have yf_115 : (4 : Int32).toInt = 4 := by decide
    have ha_116 : ((Mv 2) : Int32).toInt ≤ ((Mv 2) : Int32).toInt ∧ ((Mv 2) : Int32).toInt ≤ ((Mv 0) : Int32).toInt := by
      have z_1 := Int32.lt_iff_toInt_lt.mp (Int32.not_le.mp c_2)
      have y_0 : (0 : Int32).toInt = 0 := by decide
      omega
    have hb_117 : (r_112 : Int32).toInt = 0 ∨ (r_112 : Int32).toInt = 1 := by
      have z_1 := Int32.lt_iff_toInt_lt.mp (Int32.not_le.mp c_2)
      have y_0 : (0 : Int32).toInt = 0 := by decide
      omega
    have hp_118 : (((r_112 : Int32).toInt = 0 ∧ ¬ (sv_109 : Int32).toInt = 0) ∨ ((r_112 : Int32).toInt = 1 ∧ ((Mf 6) 0).toInt = 1 ∧ (sv_109 : Int32).toInt = 0 ∧ ((Mf 6) 0).toInt ≤ 0)) := by
      have z_1 := Int32.lt_iff_toInt_lt.mp (Int32.not_le.mp c_2)
      have y_0 : (0 : Int32).toInt = 0 := by decide
      omega
    have hm_119 : (r_112 : Int32).toInt = 1 → (RdO (Mf 6)) ∧ (QfO (qz_k0 (rB (Mf 1) (Mv 0)) C (pNX (rB (Mf 1) (Mv 0)) (Mv 2))) (rB (Mf 1) (Mv 0)) sv_109 (Mv 2) (Mf 6)) := by
      intro h1r
      exfalso
      have z_1 := Int32.lt_iff_toInt_lt.mp (Int32.not_le.mp c_2)
      have y_0 : (0 : Int32).toInt = 0 := by decide
      omega
    have hm_120 : (r_112 : Int32).toInt = 0 → (QoE (rB (Mf 1) (Mv 0)) C (Mv 2) ((Mf 6) 0) x1 sv_109) := by
      intro h1r
      have hr_121 : 0 < ((Mf 6) 0).toInt := by
        have z_1 := Int32.lt_iff_toInt_lt.mp (Int32.not_le.mp c_2)
        have y_0 : (0 : Int32).toInt = 0 := by decide
        omega
      have hi_122 : (sv_109 : Int32).toInt = 1 + 8 * x1.toInt + 4 := by
        have z_1 := Int32.lt_iff_toInt_lt.mp (Int32.not_le.mp c_2)
        have y_0 : (0 : Int32).toInt = 0 := by decide
        omega
      exact (Or.inl ⟨hr_121, hi_122⟩)
    exact retI (v := r_112) hx hb hr hlk (nar01 hb_117) hP hD hS ((Mv 2), sv_109, (Mv 4), (Mf 6)) ⟨_, rfl, hp_118, ha_116, hm_119, hm_120⟩ [2, 0, 1] rfl rfl dX12_isBookHere_15 (Nat.le_of_ble_eq_true rfl) (Nat.le_of_ble_eq_true rfl) rfl
set_option maxRecDepth 100000 in
theorem cu_zX12_isBookHere (l : Launch) (D : va_G) (tc : Nat → ClassId) (sk : (Nat → Nat) × (Nat → Nat)) (Ma_0 : Nat) (Ma_1 : Nat) (Ma_2 : Nat) (Ma_3 : Nat) (Ma_4 : Nat) (Ma_5 : Nat) (Ma_6 : Nat) (Ma_7 : Nat) (Ma_8 : Nat) (Ma_9 : Nat) (Ma_10 : Nat) (Ma_11 : Nat) (Ma_12 : Nat) (Ma_13 : Nat) (Ma_14 : Nat) (Ma_15 : Nat) (Ma_16 : Nat) (Ma_17 : Nat) (Ma_18 : Nat) (Ma_19 : Nat) (Ma_20 : Nat) (Mv_0 : Int32) (Mv_1 : Int32) (Mv_2 : Int32) (Mv_3 : Int32) (Mv_4 : Int32) (Mv_5 : Int32) (Mv_6 : Int32) (Mv_7 : Int32) (Mv_8 : Int32) (Mv_9 : Int32) (Mv_10 : Int32) (Mv_11 : Int32) (Mv_12 : Int32) (Mv_13 : Int32) (Mv_14 : Int32) (Mf_1 : Nat → Int32) (Mf_6 : Nat → Int32) (Mj_0 : Int64) (x1 : Int32) (C : Nat → Int) (h_nx : 0 ≤ (Mv_2 : Int32).toInt ∧ (Mv_2 : Int32).toInt ≤ (Mv_0 : Int32).toInt ∧ (Mv_0 : Int32).toInt ≤ 400) (h_at : 0 ≤ x1.toInt ∧ x1.toInt ≤ 400) (h_ro : RdO Mf_6) (h_bs : ByS Mf_1) (h_w : (Mv_3 : Int32).toInt = 0) (h_lt : LtH (rB Mf_1 Mv_0) Mv_2) (h_e : RdE Mf_6 C) : Ct l yX12_isBookHere cX12_isBookHere 2 (some .boolean) { frames := 3, cells := 0, slots := 0, locals := 72 } D tc sk [.ref Ma_0, .int x1] [(Ma_0, .inr (12, [.ref Ma_1, .int Mv_0, .int Mv_1, .ref Ma_2, .ref Ma_3, .ref Ma_4, .ref Ma_5, .ref Ma_6, .int Mv_2, .int Mv_3, .int Mv_4, .int Mv_5, .int Mv_6, .int Mv_7, .int Mv_8, .ref Ma_7, .int Mv_9, .ref Ma_8, .int Mv_10, .ref Ma_9, .ref Ma_10, .int Mv_11, .int Mv_12, .int Mv_13, .ref Ma_11, .int Mv_14, .ref Ma_12, .ref Ma_13, .ref Ma_14, .ref Ma_15, .ref Ma_16, .long Mj_0, .ref Ma_17, .ref Ma_18, .ref Ma_19, .ref Ma_20])), (Ma_1, .inl (tc 2, 400, .inl Mf_1)), (Ma_6, .inl (tc 0, 95, .inl Mf_6))] (fun (v : Option Value) (u : (Int32) × (Int32) × (Int32) × (Nat → Int32)) => match u with | (oo0x1, oo0x2, oo0x3, oo0x4) => ∃ r : Int32, v = some (.int r) ∧ (((r.toInt = 0 ∧ ¬ (oo0x2 : Int32).toInt = 0) ∨ (r.toInt = 1 ∧ (oo0x4 0).toInt = 1 ∧ (oo0x2 : Int32).toInt = 0 ∧ (Mf_6 0).toInt ≤ 0))) ∧ ((Mv_2 : Int32).toInt ≤ (oo0x1 : Int32).toInt ∧ (oo0x1 : Int32).toInt ≤ (Mv_0 : Int32).toInt) ∧ (r.toInt = 1 → (RdO oo0x4) ∧ (QfO (qz_k0 (rB Mf_1 Mv_0) C (pNX (rB Mf_1 Mv_0) Mv_2)) (rB Mf_1 Mv_0) oo0x2 oo0x1 oo0x4)) ∧ (r.toInt = 0 → (QoE (rB Mf_1 Mv_0) C Mv_2 (Mf_6 0) x1 oo0x2))) (fun (u : (Int32) × (Int32) × (Int32) × (Nat → Int32)) => match u with | (oo0x1, oo0x2, oo0x3, oo0x4) => [(Ma_0, .inr (12, [.ref Ma_1, .int Mv_0, .int Mv_1, .ref Ma_2, .ref Ma_3, .ref Ma_4, .ref Ma_5, .ref Ma_6, .int oo0x1, .int oo0x2, .int oo0x3, .int Mv_5, .int Mv_6, .int Mv_7, .int Mv_8, .ref Ma_7, .int Mv_9, .ref Ma_8, .int Mv_10, .ref Ma_9, .ref Ma_10, .int Mv_11, .int Mv_12, .int Mv_13, .ref Ma_11, .int Mv_14, .ref Ma_12, .ref Ma_13, .ref Ma_14, .ref Ma_15, .ref Ma_16, .long Mj_0, .ref Ma_17, .ref Ma_18, .ref Ma_19, .ref Ma_20])), (Ma_1, .inl (tc 2, 400, .inl Mf_1)), (Ma_6, .inl (tc 0, 95, .inl oo0x4))]) 0 0 :=
  ct_zX12_isBookHere l D tc sk (fun k => ([Ma_0, Ma_1, Ma_2, Ma_3, Ma_4, Ma_5, Ma_6, Ma_7, Ma_8, Ma_9, Ma_10, Ma_11, Ma_12, Ma_13, Ma_14, Ma_15, Ma_16, Ma_17, Ma_18, Ma_19, Ma_20] : List (Nat)).getD k 0) (fun k => ([Mv_0, Mv_1, Mv_2, Mv_3, Mv_4, Mv_5, Mv_6, Mv_7, Mv_8, Mv_9, Mv_10, Mv_11, Mv_12, Mv_13, Mv_14] : List (Int32)).getD k 0) (fun k => ([(fun _ => 0), Mf_1, (fun _ => 0), (fun _ => 0), (fun _ => 0), (fun _ => 0), Mf_6] : List (Nat → Int32)).getD k (fun _ => 0)) (fun k => ([Mj_0] : List (Int64)).getD k 0) x1 C h_nx h_at h_ro h_bs h_w h_lt h_e
set_option maxHeartbeats 4000000 in
set_option maxRecDepth 100000 in
theorem ct_zX12_isSkyHere (l : Launch) (D : va_G) (tc : Nat → ClassId) (sk : (Nat → Nat) × (Nat → Nat)) (Ma : Nat → Nat) (Mv : Nat → Int32) (Mf : Nat → Nat → Int32) (Mj : Nat → Int64) (C : Nat → Int) (h_nx : 0 ≤ ((Mv 2) : Int32).toInt ∧ ((Mv 2) : Int32).toInt ≤ ((Mv 0) : Int32).toInt ∧ ((Mv 0) : Int32).toInt ≤ 400) (h_ro : RdO (Mf 6)) (h_f1 : ((Mf 6) 0).toInt = 1) (h_bs : ByS (Mf 1)) (h_w : ((Mv 3) : Int32).toInt = 0) (h_lt : LtH (rB (Mf 1) (Mv 0)) (Mv 2)) (h_e : RdE (Mf 6) C) : Ct l yX12_isSkyHere cX12_isSkyHere 1 (some .boolean) { frames := 3, cells := 0, slots := 0, locals := 72 } D tc sk [.ref (Ma 0)] [((Ma 0), .inr (12, [.ref (Ma 1), .int (Mv 0), .int (Mv 1), .ref (Ma 2), .ref (Ma 3), .ref (Ma 4), .ref (Ma 5), .ref (Ma 6), .int (Mv 2), .int (Mv 3), .int (Mv 4), .int (Mv 5), .int (Mv 6), .int (Mv 7), .int (Mv 8), .ref (Ma 7), .int (Mv 9), .ref (Ma 8), .int (Mv 10), .ref (Ma 9), .ref (Ma 10), .int (Mv 11), .int (Mv 12), .int (Mv 13), .ref (Ma 11), .int (Mv 14), .ref (Ma 12), .ref (Ma 13), .ref (Ma 14), .ref (Ma 15), .ref (Ma 16), .long (Mj 0), .ref (Ma 17), .ref (Ma 18), .ref (Ma 19), .ref (Ma 20)])), ((Ma 1), .inl (tc 2, 400, .inl (Mf 1))), ((Ma 6), .inl (tc 0, 95, .inl (Mf 6)))] (fun (v : Option Value) (u : (Int32) × (Int32) × (Int32) × (Nat → Int32)) => match u with | (oo0x1, oo0x2, oo0x3, oo0x4) => ∃ r : Int32, v = some (.int r) ∧ (((r.toInt = 0 ∧ ¬ (oo0x2 : Int32).toInt = 0) ∨ (r.toInt = 1 ∧ ((oo0x4 2).toInt = ((Mf 6) 2).toInt ∧ (oo0x4 3).toInt = ((Mf 6) 3).toInt ∧ (oo0x4 0).toInt = ((Mf 6) 0).toInt) ∧ (oo0x2 : Int32).toInt = 0))) ∧ (((Mv 2) : Int32).toInt ≤ (oo0x1 : Int32).toInt ∧ (oo0x1 : Int32).toInt ≤ ((Mv 0) : Int32).toInt) ∧ (r.toInt = 1 → (RdO oo0x4) ∧ (QfO (qz_k1 (rB (Mf 1) (Mv 0)) C (pNX (rB (Mf 1) (Mv 0)) (Mv 2))) (rB (Mf 1) (Mv 0)) oo0x2 oo0x1 oo0x4)) ∧ (r.toInt = 0 → (QfE (qz_k1 (rB (Mf 1) (Mv 0)) C (pNX (rB (Mf 1) (Mv 0)) (Mv 2))) oo0x2))) (fun (u : (Int32) × (Int32) × (Int32) × (Nat → Int32)) => match u with | (oo0x1, oo0x2, oo0x3, oo0x4) => [((Ma 0), .inr (12, [.ref (Ma 1), .int (Mv 0), .int (Mv 1), .ref (Ma 2), .ref (Ma 3), .ref (Ma 4), .ref (Ma 5), .ref (Ma 6), .int oo0x1, .int oo0x2, .int oo0x3, .int (Mv 5), .int (Mv 6), .int (Mv 7), .int (Mv 8), .ref (Ma 7), .int (Mv 9), .ref (Ma 8), .int (Mv 10), .ref (Ma 9), .ref (Ma 10), .int (Mv 11), .int (Mv 12), .int (Mv 13), .ref (Ma 11), .int (Mv 14), .ref (Ma 12), .ref (Ma 13), .ref (Ma 14), .ref (Ma 15), .ref (Ma 16), .long (Mj 0), .ref (Ma 17), .ref (Ma 18), .ref (Ma 19), .ref (Ma 20)])), ((Ma 1), .inl (tc 2, 400, .inl (Mf 1))), ((Ma 6), .inl (tc 0, 95, .inl oo0x4))]) 0 0 := by
  refine Ct.start (by decide) (Nat.le_of_ble_eq_true rfl) (fun p e s m below meth c A ls hx hb hr hlk hin hml hown hts hK hX hP hD hA hl hS => ?_)
  have hl : lv_has ls 1 [(0, .ref (Ma 0))] := hl
  have ar_h_ro := RdO.ar h_ro
  have ar_h_lt := h_lt.1
  refine lv_aload_n hx hb dX12_isSkyHere_0 rfl (lv_at hl 0 rfl) ?_
  refine cV (a := (Ma 0)) (As := []) (rest := []) (wr := [((Ma 6), .inl (tc 0, 95, .inl (Mf 6)))]) ⟨hx, hb, hml, hown, hts⟩ hK hX hA (cu_fX12_passWord l D tc sk (Ma 0) (Ma 1) (Ma 2) (Ma 3) (Ma 4) (Ma 5) (Ma 6) (Ma 7) (Ma 8) (Ma 9) (Ma 10) (Ma 11) (Ma 12) (Ma 13) (Ma 14) (Ma 15) (Ma 16) (Ma 17) (Ma 18) (Ma 19) (Ma 20) (Mv 0) (Mv 1) (Mv 2) (Mv 3) (Mv 4) (Mv 5) (Mv 6) (Mv 7) (Mv 8) (Mv 9) (Mv 10) (Mv 11) (Mv 12) (Mv 13) (Mv 14) (Mf 1) (Mj 0) h_nx h_bs) k_1244 k_1241 k_1243 k_34 k_106 pl_X12_passWord ⟨Nat.le_of_ble_eq_true rfl, Nat.le_of_ble_eq_true rfl⟩ rfl rfl (va_recv hK hP (ci := 12) (q0 := 0) rfl rfl) hP hD hS [0, 1] [2] rfl rfl rfl rfl rfl (by decide) rfl hl.1 rfl (Nat.le_of_ble_eq_true rfl) dX12_isSkyHere_1 ⟨Nat.le_of_ble_eq_true rfl, Nat.le_of_ble_eq_true rfl⟩ (fun v_1 u_2 H locs hv_3 hP₀ hD₀ hS₀ => ?_)
  obtain ⟨sv_4, rfl⟩ : ∃ z, z = u_2 := ⟨_, rfl⟩
  obtain ⟨rfl, pf_5, pf_6, pf_7⟩ := hv_3
  have pf_5 : ((Mv 2) : Int32).toInt ≤ (sv_4 : Int32).toInt ∧ (sv_4 : Int32).toInt ≤ ((Mv 0) : Int32).toInt := pf_5
  have pf_6 : Pw (Mf 1) (Mv 0) (Mv 2) sv_4 := pf_6
  have pf_7 : PsR (rB (Mf 1) (Mv 0)) (Mv 2) sv_4 := pf_7
  refine W.eq (g2 := F0 m 4 ls []) rfl ?_
  replace hP : va_P D classes [((Ma 6), .inl (tc 0, 95, .inl (Mf 6))), ((Ma 0), .inr (12, [.ref (Ma 1), .int (Mv 0), .int (Mv 1), .ref (Ma 2), .ref (Ma 3), .ref (Ma 4), .ref (Ma 5), .ref (Ma 6), .int sv_4, .int (Mv 3), .int (Mv 4), .int (Mv 5), .int (Mv 6), .int (Mv 7), .int (Mv 8), .ref (Ma 7), .int (Mv 9), .ref (Ma 8), .int (Mv 10), .ref (Ma 9), .ref (Ma 10), .int (Mv 11), .int (Mv 12), .int (Mv 13), .ref (Ma 11), .int (Mv 14), .ref (Ma 12), .ref (Ma 13), .ref (Ma 14), .ref (Ma 15), .ref (Ma 16), .long (Mj 0), .ref (Ma 17), .ref (Ma 18), .ref (Ma 19), .ref (Ma 20)])), ((Ma 1), .inl (tc 2, 400, .inl (Mf 1)))] H := hP₀
  replace hD : va_D A [((Ma 6), .inl (tc 0, 95, .inl (Mf 6))), ((Ma 0), .inr (12, [.ref (Ma 1), .int (Mv 0), .int (Mv 1), .ref (Ma 2), .ref (Ma 3), .ref (Ma 4), .ref (Ma 5), .ref (Ma 6), .int sv_4, .int (Mv 3), .int (Mv 4), .int (Mv 5), .int (Mv 6), .int (Mv 7), .int (Mv 8), .ref (Ma 7), .int (Mv 9), .ref (Ma 8), .int (Mv 10), .ref (Ma 9), .ref (Ma 10), .int (Mv 11), .int (Mv 12), .int (Mv 13), .ref (Ma 11), .int (Mv 14), .ref (Ma 12), .ref (Ma 13), .ref (Ma 14), .ref (Ma 15), .ref (Ma 16), .long (Mj 0), .ref (Ma 17), .ref (Ma 18), .ref (Ma 19), .ref (Ma 20)])), ((Ma 1), .inl (tc 2, 400, .inl (Mf 1)))] := hD₀
  replace hS := hS₀
  clear hP₀ hD₀ hS₀
  refine lv_aload_n hx hb dX12_isSkyHere_4 rfl (lv_at hl 0 rfl) ?_
  refine lv_iconst (v := 0) hx hb dX12_isSkyHere_5 (by decide) ?_
  refine lv_aload_n hx hb dX12_isSkyHere_6 rfl (lv_at hl 0 rfl) ?_
  refine gf_X12_26 hx hb hts hown hK hP 1 rfl rfl dX12_isSkyHere_7 ?_
  refine lv_iconst (v := 2) hx hb dX12_isSkyHere_10 (by decide) ?_
  refine va_iald hx hb hK hP 0 0 rfl rfl (vin_dec (by decide +kernel)) dX12_isSkyHere_11 ?_
  refine lv_topi (fun x_8 ex_8 => ?_)
  have lx_8 : x_8.toInt = ((Mf 6) 2).toInt := congrArg Int32.toInt ex_8
  refine lv_iconst (v := 1) hx hb dX12_isSkyHere_12 (by decide) ?_
  refine lv_isub hx hb dX12_isSkyHere_13 ?_
  refine lv_topi (fun x_9 ex_9 => ?_)
  have ha_10 : 0 ≤ (sv_4 : Int32).toInt ∧ (sv_4 : Int32).toInt ≤ ((Mv 0) : Int32).toInt ∧ ((Mv 0) : Int32).toInt ≤ 400 := by
    have y_1 : (1 : Int32).toInt = 1 := by decide
    have t_x_9 : x_9.toInt = (x_8 : Int32).toInt - (1 : Int32).toInt := by rw [ex_9]; exact sub_toInt (by omega) (by omega)
    omega
  refine cV (a := (Ma 0)) (As := [.int 0, .int x_9]) (rest := []) (wr := [((Ma 6), .inl (tc 0, 95, .inl (Mf 6)))]) ⟨hx, hb, hml, hown, hts⟩ hK hX hA (cu_fX12_numberHere l D tc sk (Ma 0) (Ma 1) (Ma 2) (Ma 3) (Ma 4) (Ma 5) (Ma 6) (Ma 7) (Ma 8) (Ma 9) (Ma 10) (Ma 11) (Ma 12) (Ma 13) (Ma 14) (Ma 15) (Ma 16) (Ma 17) (Ma 18) (Ma 19) (Ma 20) (Mv 0) (Mv 1) sv_4 (Mv 3) (Mv 4) (Mv 5) (Mv 6) (Mv 7) (Mv 8) (Mv 9) (Mv 10) (Mv 11) (Mv 12) (Mv 13) (Mv 14) (Mf 1) (Mj 0) 0 x_9 ha_10 h_bs h_w) k_1252 k_1249 k_1251 k_36 k_106 pl_X12_numberHere ⟨Nat.le_of_ble_eq_true rfl, Nat.le_of_ble_eq_true rfl⟩ rfl rfl (va_recv hK hP (ci := 12) (q0 := 1) rfl rfl) hP hD hS [1, 2] [0] rfl rfl rfl rfl rfl (by decide) rfl hl.1 rfl (Nat.le_of_ble_eq_true rfl) dX12_isSkyHere_14 ⟨Nat.le_of_ble_eq_true rfl, Nat.le_of_ble_eq_true rfl⟩ (fun v_11 u_12 H locs hv_13 hP₀ hD₀ hS₀ => ?_)
  obtain ⟨sv_14, sv_15, sv_16⟩ := u_12
  obtain ⟨r_18, rfl, he_19, pf_17, hm_21, hm_22⟩ := hv_13
  have he_19 : ((r_18.toInt = 0 ∧ ¬ (sv_15 : Int32).toInt = 0) ∨ (r_18.toInt = 1 ∧ (0 : Int32).toInt ≤ (sv_16 : Int32).toInt ∧ (sv_16 : Int32).toInt ≤ x_9.toInt ∧ sv_4.toInt + 1 ≤ (sv_14 : Int32).toInt)) := he_19
  have yl_he_19_0 : (0 : Int32).toInt = 0 := by decide
  have pf_17 : (sv_4 : Int32).toInt ≤ (sv_14 : Int32).toInt ∧ (sv_14 : Int32).toInt ≤ ((Mv 0) : Int32).toInt := pf_17
  refine W.eq (g2 := F0 m 17 ls [.int r_18]) rfl ?_
  replace hP : va_P D classes [((Ma 6), .inl (tc 0, 95, .inl (Mf 6))), ((Ma 0), .inr (12, [.ref (Ma 1), .int (Mv 0), .int (Mv 1), .ref (Ma 2), .ref (Ma 3), .ref (Ma 4), .ref (Ma 5), .ref (Ma 6), .int sv_14, .int sv_15, .int sv_16, .int (Mv 5), .int (Mv 6), .int (Mv 7), .int (Mv 8), .ref (Ma 7), .int (Mv 9), .ref (Ma 8), .int (Mv 10), .ref (Ma 9), .ref (Ma 10), .int (Mv 11), .int (Mv 12), .int (Mv 13), .ref (Ma 11), .int (Mv 14), .ref (Ma 12), .ref (Ma 13), .ref (Ma 14), .ref (Ma 15), .ref (Ma 16), .long (Mj 0), .ref (Ma 17), .ref (Ma 18), .ref (Ma 19), .ref (Ma 20)])), ((Ma 1), .inl (tc 2, 400, .inl (Mf 1)))] H := hP₀
  replace hD : va_D A [((Ma 6), .inl (tc 0, 95, .inl (Mf 6))), ((Ma 0), .inr (12, [.ref (Ma 1), .int (Mv 0), .int (Mv 1), .ref (Ma 2), .ref (Ma 3), .ref (Ma 4), .ref (Ma 5), .ref (Ma 6), .int sv_14, .int sv_15, .int sv_16, .int (Mv 5), .int (Mv 6), .int (Mv 7), .int (Mv 8), .ref (Ma 7), .int (Mv 9), .ref (Ma 8), .int (Mv 10), .ref (Ma 9), .ref (Ma 10), .int (Mv 11), .int (Mv 12), .int (Mv 13), .ref (Ma 11), .int (Mv 14), .ref (Ma 12), .ref (Ma 13), .ref (Ma 14), .ref (Ma 15), .ref (Ma 16), .long (Mj 0), .ref (Ma 17), .ref (Ma 18), .ref (Ma 19), .ref (Ma 20)])), ((Ma 1), .inl (tc 2, 400, .inl (Mf 1)))] := hD₀
  replace hS := hS₀
  clear hP₀ hD₀ hS₀
  refine lv_if_ne (tgt := 22) hx hb dX12_isSkyHere_17 (by decide) (fun c_23 => ?_) (fun c_23 => ?_)
  · skip
    have hz_25 : (r_18 : Int32).toInt = 1 := by
      have z_1 : ¬ (r_18 : Int32).toInt = (0 : Int32).toInt := fun z => c_23 (Int32.toInt_inj.mp z)
      have y_0 : (0 : Int32).toInt = 0 := by decide
      have y_1 : (1 : Int32).toInt = 1 := by decide
      have t_x_9 : x_9.toInt = (x_8 : Int32).toInt - (1 : Int32).toInt := by rw [ex_9]; exact sub_toInt (by omega) (by omega)
      omega
    obtain pf_24 := hm_21 hz_25
    have pf_24 : NmO (rB (Mf 1) (Mv 0)) (0 : Int32).toInt x_9.toInt sv_4 sv_16 sv_14 sv_15 := pf_24
    have ar_pf_24 := pf_24.2.2
    refine lv_aload_n hx hb dX12_isSkyHere_22 rfl (lv_at hl 0 rfl) ?_
    refine lv_bipush (v := 74) hx hb dX12_isSkyHere_23 (by decide) ?_
    refine lv_aload_n hx hb dX12_isSkyHere_25 rfl (lv_at hl 0 rfl) ?_
    refine gf_X12_112 hx hb hts hown hK hP 1 rfl rfl dX12_isSkyHere_26 ?_
    refine lv_iadd hx hb dX12_isSkyHere_29 ?_
    refine lv_topi (fun x_26 ex_26 => ?_)
    refine lv_iconst (v := 0) hx hb dX12_isSkyHere_30 (by decide) ?_
    refine lv_bipush (v := 9) hx hb dX12_isSkyHere_31 (by decide) ?_
    have ha_27 : 0 ≤ (sv_14 : Int32).toInt ∧ (sv_14 : Int32).toInt ≤ ((Mv 0) : Int32).toInt ∧ ((Mv 0) : Int32).toInt ≤ 400 := by
      have z_1 : ¬ (r_18 : Int32).toInt = (0 : Int32).toInt := fun z => c_23 (Int32.toInt_inj.mp z)
      have y_0 : (0 : Int32).toInt = 0 := by decide
      have y_1 : (1 : Int32).toInt = 1 := by decide
      have y_74 : (74 : Int32).toInt = 74 := by decide
      have t_x_9 : x_9.toInt = (x_8 : Int32).toInt - (1 : Int32).toInt := by rw [ex_9]; exact sub_toInt (by omega) (by omega)
      have t_x_26 : x_26.toInt = (74 : Int32).toInt + (sv_16 : Int32).toInt := by rw [ex_26]; exact add_toInt (by omega) (by omega)
      omega
    have ha_28 : 0 ≤ x_26.toInt ∧ x_26.toInt < 95 := by
      have z_1 : ¬ (r_18 : Int32).toInt = (0 : Int32).toInt := fun z => c_23 (Int32.toInt_inj.mp z)
      have y_0 : (0 : Int32).toInt = 0 := by decide
      have y_1 : (1 : Int32).toInt = 1 := by decide
      have y_74 : (74 : Int32).toInt = 74 := by decide
      have t_x_9 : x_9.toInt = (x_8 : Int32).toInt - (1 : Int32).toInt := by rw [ex_9]; exact sub_toInt (by omega) (by omega)
      have t_x_26 : x_26.toInt = (74 : Int32).toInt + (sv_16 : Int32).toInt := by rw [ex_26]; exact add_toInt (by omega) (by omega)
      omega
    have ha_29 : (sv_15 : Int32).toInt = 0 := by
      have z_1 : ¬ (r_18 : Int32).toInt = (0 : Int32).toInt := fun z => c_23 (Int32.toInt_inj.mp z)
      have y_0 : (0 : Int32).toInt = 0 := by decide
      have y_1 : (1 : Int32).toInt = 1 := by decide
      have y_74 : (74 : Int32).toInt = 74 := by decide
      have t_x_9 : x_9.toInt = (x_8 : Int32).toInt - (1 : Int32).toInt := by rw [ex_9]; exact sub_toInt (by omega) (by omega)
      have t_x_26 : x_26.toInt = (74 : Int32).toInt + (sv_16 : Int32).toInt := by rw [ex_26]; exact add_toInt (by omega) (by omega)
      omega
    refine cV (a := (Ma 0)) (As := [.int x_26, .int 0, .int 9]) (rest := []) (wr := []) ⟨hx, hb, hml, hown, hts⟩ hK hX hA (cu_fX12_cellHere l D tc sk (Ma 0) (Ma 1) (Ma 2) (Ma 3) (Ma 4) (Ma 5) (Ma 6) (Ma 7) (Ma 8) (Ma 9) (Ma 10) (Ma 11) (Ma 12) (Ma 13) (Ma 14) (Ma 15) (Ma 16) (Ma 17) (Ma 18) (Ma 19) (Ma 20) (Mv 0) (Mv 1) sv_14 sv_15 sv_16 (Mv 5) (Mv 6) (Mv 7) (Mv 8) (Mv 9) (Mv 10) (Mv 11) (Mv 12) (Mv 13) (Mv 14) (Mf 1) (Mf 6) (Mj 0) x_26 0 9 ha_27 ha_28 h_bs ha_29) k_1248 k_1245 k_1247 k_35 k_106 pl_X12_cellHere ⟨Nat.le_of_ble_eq_true rfl, Nat.le_of_ble_eq_true rfl⟩ rfl rfl (va_recv hK hP (ci := 12) (q0 := 1) rfl rfl) hP hD hS [1, 2, 0] [] rfl rfl rfl rfl rfl (by decide) rfl hl.1 rfl (Nat.le_of_ble_eq_true rfl) dX12_isSkyHere_33 ⟨Nat.le_of_ble_eq_true rfl, Nat.le_of_ble_eq_true rfl⟩ (fun v_30 u_31 H locs hv_32 hP₀ hD₀ hS₀ => ?_)
    obtain ⟨sv_33, sv_34, sv_35, sv_36⟩ := u_31
    obtain ⟨r_39, rfl, he_40, pf_37, pf_38, hm_42, hm_43⟩ := hv_32
    have he_40 : ((r_39.toInt = 0 ∧ ¬ (sv_34 : Int32).toInt = 0) ∨ (r_39.toInt = 1 ∧ (0 : Int32).toInt ≤ (sv_36 x_26.toNatClampNeg).toInt ∧ (sv_36 x_26.toNatClampNeg).toInt ≤ (9 : Int32).toInt ∧ (sv_34 : Int32).toInt = 0)) := he_40
    have yl_he_40_0 : (0 : Int32).toInt = 0 := by decide
    have yl_he_40_9 : (9 : Int32).toInt = 9 := by decide
    have pf_37 : (sv_14 : Int32).toInt ≤ (sv_33 : Int32).toInt ∧ (sv_33 : Int32).toInt ≤ ((Mv 0) : Int32).toInt := pf_37
    have pf_38 : RdC (Mf 6) sv_36 x_26 := pf_38
    have hr_44 : 4 ≤ (x_26 : Int32).toInt := by
      have z_1 : ¬ (r_18 : Int32).toInt = (0 : Int32).toInt := fun z => c_23 (Int32.toInt_inj.mp z)
      have y_0 : (0 : Int32).toInt = 0 := by decide
      have y_1 : (1 : Int32).toInt = 1 := by decide
      have y_74 : (74 : Int32).toInt = 74 := by decide
      have t_x_9 : x_9.toInt = (x_8 : Int32).toInt - (1 : Int32).toInt := by rw [ex_9]; exact sub_toInt (by omega) (by omega)
      have t_x_26 : x_26.toInt = (74 : Int32).toInt + (sv_16 : Int32).toInt := by rw [ex_26]; exact add_toInt (by omega) (by omega)
      omega
    have kq_pf_38_0 := RdC.at pf_38 0 (by omega) (by omega)
    have hr_45 : 4 ≤ (x_26 : Int32).toInt := by
      have z_1 : ¬ (r_18 : Int32).toInt = (0 : Int32).toInt := fun z => c_23 (Int32.toInt_inj.mp z)
      have y_0 : (0 : Int32).toInt = 0 := by decide
      have y_1 : (1 : Int32).toInt = 1 := by decide
      have y_74 : (74 : Int32).toInt = 74 := by decide
      have t_x_9 : x_9.toInt = (x_8 : Int32).toInt - (1 : Int32).toInt := by rw [ex_9]; exact sub_toInt (by omega) (by omega)
      have t_x_26 : x_26.toInt = (74 : Int32).toInt + (sv_16 : Int32).toInt := by rw [ex_26]; exact add_toInt (by omega) (by omega)
      omega
    have kq_pf_38_2 := RdC.at pf_38 2 (by omega) (by omega)
    have hr_46 : 4 ≤ (x_26 : Int32).toInt := by
      have z_1 : ¬ (r_18 : Int32).toInt = (0 : Int32).toInt := fun z => c_23 (Int32.toInt_inj.mp z)
      have y_0 : (0 : Int32).toInt = 0 := by decide
      have y_1 : (1 : Int32).toInt = 1 := by decide
      have y_74 : (74 : Int32).toInt = 74 := by decide
      have t_x_9 : x_9.toInt = (x_8 : Int32).toInt - (1 : Int32).toInt := by rw [ex_9]; exact sub_toInt (by omega) (by omega)
      have t_x_26 : x_26.toInt = (74 : Int32).toInt + (sv_16 : Int32).toInt := by rw [ex_26]; exact add_toInt (by omega) (by omega)
      omega
    have kq_pf_38_3 := RdC.at pf_38 3 (by omega) (by omega)
    refine W.eq (g2 := F0 m 36 ls [.int r_39]) rfl ?_
    replace hP : va_P D classes [((Ma 0), .inr (12, [.ref (Ma 1), .int (Mv 0), .int (Mv 1), .ref (Ma 2), .ref (Ma 3), .ref (Ma 4), .ref (Ma 5), .ref (Ma 6), .int sv_33, .int sv_34, .int sv_35, .int (Mv 5), .int (Mv 6), .int (Mv 7), .int (Mv 8), .ref (Ma 7), .int (Mv 9), .ref (Ma 8), .int (Mv 10), .ref (Ma 9), .ref (Ma 10), .int (Mv 11), .int (Mv 12), .int (Mv 13), .ref (Ma 11), .int (Mv 14), .ref (Ma 12), .ref (Ma 13), .ref (Ma 14), .ref (Ma 15), .ref (Ma 16), .long (Mj 0), .ref (Ma 17), .ref (Ma 18), .ref (Ma 19), .ref (Ma 20)])), ((Ma 1), .inl (tc 2, 400, .inl (Mf 1))), ((Ma 6), .inl (tc 0, 95, .inl sv_36))] H := hP₀
    replace hD : va_D A [((Ma 0), .inr (12, [.ref (Ma 1), .int (Mv 0), .int (Mv 1), .ref (Ma 2), .ref (Ma 3), .ref (Ma 4), .ref (Ma 5), .ref (Ma 6), .int sv_33, .int sv_34, .int sv_35, .int (Mv 5), .int (Mv 6), .int (Mv 7), .int (Mv 8), .ref (Ma 7), .int (Mv 9), .ref (Ma 8), .int (Mv 10), .ref (Ma 9), .ref (Ma 10), .int (Mv 11), .int (Mv 12), .int (Mv 13), .ref (Ma 11), .int (Mv 14), .ref (Ma 12), .ref (Ma 13), .ref (Ma 14), .ref (Ma 15), .ref (Ma 16), .long (Mj 0), .ref (Ma 17), .ref (Ma 18), .ref (Ma 19), .ref (Ma 20)])), ((Ma 1), .inl (tc 2, 400, .inl (Mf 1))), ((Ma 6), .inl (tc 0, 95, .inl sv_36))] := hD₀
    replace hS := hS₀
    clear hP₀ hD₀ hS₀
    have ha_47 : ((Mv 2) : Int32).toInt ≤ (sv_33 : Int32).toInt ∧ (sv_33 : Int32).toInt ≤ ((Mv 0) : Int32).toInt := by
      have z_1 : ¬ (r_18 : Int32).toInt = (0 : Int32).toInt := fun z => c_23 (Int32.toInt_inj.mp z)
      have y_0 : (0 : Int32).toInt = 0 := by decide
      have y_1 : (1 : Int32).toInt = 1 := by decide
      have y_74 : (74 : Int32).toInt = 74 := by decide
      have t_x_9 : x_9.toInt = (x_8 : Int32).toInt - (1 : Int32).toInt := by rw [ex_9]; exact sub_toInt (by omega) (by omega)
      have t_x_26 : x_26.toInt = (74 : Int32).toInt + (sv_16 : Int32).toInt := by rw [ex_26]; exact add_toInt (by omega) (by omega)
      omega
    have hb_48 : (r_39 : Int32).toInt = 0 ∨ (r_39 : Int32).toInt = 1 := by
      have z_1 : ¬ (r_18 : Int32).toInt = (0 : Int32).toInt := fun z => c_23 (Int32.toInt_inj.mp z)
      have y_0 : (0 : Int32).toInt = 0 := by decide
      have y_1 : (1 : Int32).toInt = 1 := by decide
      have y_74 : (74 : Int32).toInt = 74 := by decide
      have t_x_9 : x_9.toInt = (x_8 : Int32).toInt - (1 : Int32).toInt := by rw [ex_9]; exact sub_toInt (by omega) (by omega)
      have t_x_26 : x_26.toInt = (74 : Int32).toInt + (sv_16 : Int32).toInt := by rw [ex_26]; exact add_toInt (by omega) (by omega)
      omega
    have hp_49 : (((r_39 : Int32).toInt = 0 ∧ ¬ (sv_34 : Int32).toInt = 0) ∨ ((r_39 : Int32).toInt = 1 ∧ ((sv_36 2).toInt = ((Mf 6) 2).toInt ∧ (sv_36 3).toInt = ((Mf 6) 3).toInt ∧ (sv_36 0).toInt = ((Mf 6) 0).toInt) ∧ (sv_34 : Int32).toInt = 0)) := by
      have z_1 : ¬ (r_18 : Int32).toInt = (0 : Int32).toInt := fun z => c_23 (Int32.toInt_inj.mp z)
      have y_0 : (0 : Int32).toInt = 0 := by decide
      have y_1 : (1 : Int32).toInt = 1 := by decide
      have y_74 : (74 : Int32).toInt = 74 := by decide
      have t_x_9 : x_9.toInt = (x_8 : Int32).toInt - (1 : Int32).toInt := by rw [ex_9]; exact sub_toInt (by omega) (by omega)
      have t_x_26 : x_26.toInt = (74 : Int32).toInt + (sv_16 : Int32).toInt := by rw [ex_26]; exact add_toInt (by omega) (by omega)
      omega
    have hm_50 : (r_39 : Int32).toInt = 1 → (RdO sv_36) ∧ (QfO (qz_k1 (rB (Mf 1) (Mv 0)) C (pNX (rB (Mf 1) (Mv 0)) (Mv 2))) (rB (Mf 1) (Mv 0)) sv_34 sv_33 sv_36) := by
      intro h1r
      obtain pf_51 := hm_42 h1r
      have pf_51 : NmO (rB (Mf 1) (Mv 0)) (0 : Int32).toInt (9 : Int32).toInt sv_14 (sv_36 x_26.toNatClampNeg) sv_33 sv_34 := pf_51
      have ar_pf_51 := pf_51.2.2
      have ha_52 : RdO sv_36 := RdO.of (by
        have z_1 : ¬ (r_18 : Int32).toInt = (0 : Int32).toInt := fun z => c_23 (Int32.toInt_inj.mp z)
        have y_0 : (0 : Int32).toInt = 0 := by decide
        have y_1 : (1 : Int32).toInt = 1 := by decide
        have y_74 : (74 : Int32).toInt = 74 := by decide
        have t_x_9 : x_9.toInt = (x_8 : Int32).toInt - (1 : Int32).toInt := by rw [ex_9]; exact sub_toInt (by omega) (by omega)
        have t_x_26 : x_26.toInt = (74 : Int32).toInt + (sv_16 : Int32).toInt := by rw [ex_26]; exact add_toInt (by omega) (by omega)
        omega)
      have hn_53 : NmO (rB (Mf 1) (Mv 0)) 0 x_9.toInt sv_4 sv_16 sv_14 sv_15 := by
        have hq := pf_24
        rw [show (0 : Int32).toInt = 0 by decide] at hq
        exact hq
      have hi_54 : x_9.toInt = C 2 - 1 := by
        have hc := h_e 2 (by decide)
        have z_1 : ¬ (r_18 : Int32).toInt = (0 : Int32).toInt := fun z => c_23 (Int32.toInt_inj.mp z)
        have y_0 : (0 : Int32).toInt = 0 := by decide
        have y_1 : (1 : Int32).toInt = 1 := by decide
        have y_74 : (74 : Int32).toInt = 74 := by decide
        have t_x_9 : x_9.toInt = (x_8 : Int32).toInt - (1 : Int32).toInt := by rw [ex_9]; exact sub_toInt (by omega) (by omega)
        have t_x_26 : x_26.toInt = (74 : Int32).toInt + (sv_16 : Int32).toInt := by rw [ex_26]; exact add_toInt (by omega) (by omega)
        omega
      have hn_55 : NmO (rB (Mf 1) (Mv 0)) 0 (C 2 - 1) sv_4 sv_16 sv_14 sv_15 := by
        rw [← hi_54]
        exact hn_53
      have hn_56 : NmO (rB (Mf 1) (Mv 0)) 0 9 sv_14 (sv_36 x_26.toNatClampNeg) sv_33 sv_34 := by
        have hq := pf_51
        rw [show (0 : Int32).toInt = 0 by decide, show (9 : Int32).toInt = 9 by decide] at hq
        exact hq
      have hi_58 : (x_26 : Int32).toInt = 74 + (sv_16 : Int32).toInt := by
        have z_1 : ¬ (r_18 : Int32).toInt = (0 : Int32).toInt := fun z => c_23 (Int32.toInt_inj.mp z)
        have y_0 : (0 : Int32).toInt = 0 := by decide
        have y_1 : (1 : Int32).toInt = 1 := by decide
        have y_74 : (74 : Int32).toInt = 74 := by decide
        have t_x_9 : x_9.toInt = (x_8 : Int32).toInt - (1 : Int32).toInt := by rw [ex_9]; exact sub_toInt (by omega) (by omega)
        have t_x_26 : x_26.toInt = (74 : Int32).toInt + (sv_16 : Int32).toInt := by rw [ex_26]; exact add_toInt (by omega) (by omega)
        omega
      have hf_57 : QfO (qz_k1 (rB (Mf 1) (Mv 0)) C (pNX (rB (Mf 1) (Mv 0)) (Mv 2))) (rB (Mf 1) (Mv 0)) sv_34 sv_33 sv_36 := bk1_ok (RgO.ps h_lt pf_7 h_w) hn_55 hn_56 h_e pf_38 hi_58
      exact ⟨ha_52, hf_57⟩
    have hm_59 : (r_39 : Int32).toInt = 0 → (QfE (qz_k1 (rB (Mf 1) (Mv 0)) C (pNX (rB (Mf 1) (Mv 0)) (Mv 2))) sv_34) := by
      intro h1r
      obtain pf_60 := hm_43 h1r
      have pf_60 : NmE (rB (Mf 1) (Mv 0)) (0 : Int32).toInt (9 : Int32).toInt sv_14 sv_34 := pf_60
      have hn_61 : NmO (rB (Mf 1) (Mv 0)) 0 x_9.toInt sv_4 sv_16 sv_14 sv_15 := by
        have hq := pf_24
        rw [show (0 : Int32).toInt = 0 by decide] at hq
        exact hq
      have hi_62 : x_9.toInt = C 2 - 1 := by
        have hc := h_e 2 (by decide)
        have z_1 : ¬ (r_18 : Int32).toInt = (0 : Int32).toInt := fun z => c_23 (Int32.toInt_inj.mp z)
        have y_0 : (0 : Int32).toInt = 0 := by decide
        have y_1 : (1 : Int32).toInt = 1 := by decide
        have y_74 : (74 : Int32).toInt = 74 := by decide
        have t_x_9 : x_9.toInt = (x_8 : Int32).toInt - (1 : Int32).toInt := by rw [ex_9]; exact sub_toInt (by omega) (by omega)
        have t_x_26 : x_26.toInt = (74 : Int32).toInt + (sv_16 : Int32).toInt := by rw [ex_26]; exact add_toInt (by omega) (by omega)
        omega
      have hn_63 : NmO (rB (Mf 1) (Mv 0)) 0 (C 2 - 1) sv_4 sv_16 sv_14 sv_15 := by
        rw [← hi_62]
        exact hn_61
      have hn_64 : NmE (rB (Mf 1) (Mv 0)) 0 9 sv_14 sv_34 := by
        have hq := pf_60
        rw [show (0 : Int32).toInt = 0 by decide, show (9 : Int32).toInt = 9 by decide] at hq
        exact hq
      have hf_65 : QfE (qz_k1 (rB (Mf 1) (Mv 0)) C (pNX (rB (Mf 1) (Mv 0)) (Mv 2))) sv_34 := bk1_2 (RgO.ps h_lt pf_7 h_w) hn_63 hn_64
      exact hf_65
    exact retI (v := r_39) hx hb hr hlk (nar01 hb_48) hP hD hS (sv_33, sv_34, sv_35, sv_36) ⟨_, rfl, hp_49, ha_47, hm_50, hm_59⟩ [0, 1, 2] rfl rfl dX12_isSkyHere_36 (Nat.le_of_ble_eq_true rfl) (Nat.le_of_ble_eq_true rfl) rfl
  · skip
    have hz_67 : (r_18 : Int32).toInt = 0 := by
      have z_1 := congrArg Int32.toInt c_23
      have y_0 : (0 : Int32).toInt = 0 := by decide
      have y_1 : (1 : Int32).toInt = 1 := by decide
      have t_x_9 : x_9.toInt = (x_8 : Int32).toInt - (1 : Int32).toInt := by rw [ex_9]; exact sub_toInt (by omega) (by omega)
      omega
    obtain pf_66 := hm_22 hz_67
    have pf_66 : NmE (rB (Mf 1) (Mv 0)) (0 : Int32).toInt x_9.toInt sv_4 sv_15 := pf_66
    refine lv_iconst (v := 0) hx hb dX12_isSkyHere_20 (by decide) ?_
    have ha_68 : ((Mv 2) : Int32).toInt ≤ (sv_14 : Int32).toInt ∧ (sv_14 : Int32).toInt ≤ ((Mv 0) : Int32).toInt := by
      have z_1 := congrArg Int32.toInt c_23
      have y_0 : (0 : Int32).toInt = 0 := by decide
      have y_1 : (1 : Int32).toInt = 1 := by decide
      have t_x_9 : x_9.toInt = (x_8 : Int32).toInt - (1 : Int32).toInt := by rw [ex_9]; exact sub_toInt (by omega) (by omega)
      omega
    have hp_69 : (((0 : Int32).toInt = 0 ∧ ¬ (sv_15 : Int32).toInt = 0) ∨ ((0 : Int32).toInt = 1 ∧ (((Mf 6) 2).toInt = ((Mf 6) 2).toInt ∧ ((Mf 6) 3).toInt = ((Mf 6) 3).toInt ∧ ((Mf 6) 0).toInt = ((Mf 6) 0).toInt) ∧ (sv_15 : Int32).toInt = 0)) := by
      have z_1 := congrArg Int32.toInt c_23
      have y_0 : (0 : Int32).toInt = 0 := by decide
      have y_1 : (1 : Int32).toInt = 1 := by decide
      have t_x_9 : x_9.toInt = (x_8 : Int32).toInt - (1 : Int32).toInt := by rw [ex_9]; exact sub_toInt (by omega) (by omega)
      omega
    have hm_70 : (0 : Int32).toInt = 0 → (QfE (qz_k1 (rB (Mf 1) (Mv 0)) C (pNX (rB (Mf 1) (Mv 0)) (Mv 2))) sv_15) := by
      intro h1r
      have hn_71 : NmE (rB (Mf 1) (Mv 0)) 0 x_9.toInt sv_4 sv_15 := by
        have hq := pf_66
        rw [show (0 : Int32).toInt = 0 by decide] at hq
        exact hq
      have hi_72 : x_9.toInt = C 2 - 1 := by
        have hc := h_e 2 (by decide)
        have z_1 := congrArg Int32.toInt c_23
        have y_0 : (0 : Int32).toInt = 0 := by decide
        have y_1 : (1 : Int32).toInt = 1 := by decide
        have t_x_9 : x_9.toInt = (x_8 : Int32).toInt - (1 : Int32).toInt := by rw [ex_9]; exact sub_toInt (by omega) (by omega)
        omega
      have hn_73 : NmE (rB (Mf 1) (Mv 0)) 0 (C 2 - 1) sv_4 sv_15 := by
        rw [← hi_72]
        exact hn_71
      have hf_74 : QfE (qz_k1 (rB (Mf 1) (Mv 0)) C (pNX (rB (Mf 1) (Mv 0)) (Mv 2))) sv_15 := bk1_1 (RgO.ps h_lt pf_7 h_w) hn_73
      exact hf_74
    exact retI (v := 0) hx hb hr hlk (rfl) hP hD hS (sv_14, sv_15, sv_16, (Mf 6)) ⟨_, rfl, hp_69, ha_68, (fun h => absurd h (by decide)), hm_70⟩ [1, 2, 0] rfl rfl dX12_isSkyHere_21 (Nat.le_of_ble_eq_true rfl) (Nat.le_of_ble_eq_true rfl) rfl
set_option maxRecDepth 100000 in
theorem cu_zX12_isSkyHere (l : Launch) (D : va_G) (tc : Nat → ClassId) (sk : (Nat → Nat) × (Nat → Nat)) (Ma_0 : Nat) (Ma_1 : Nat) (Ma_2 : Nat) (Ma_3 : Nat) (Ma_4 : Nat) (Ma_5 : Nat) (Ma_6 : Nat) (Ma_7 : Nat) (Ma_8 : Nat) (Ma_9 : Nat) (Ma_10 : Nat) (Ma_11 : Nat) (Ma_12 : Nat) (Ma_13 : Nat) (Ma_14 : Nat) (Ma_15 : Nat) (Ma_16 : Nat) (Ma_17 : Nat) (Ma_18 : Nat) (Ma_19 : Nat) (Ma_20 : Nat) (Mv_0 : Int32) (Mv_1 : Int32) (Mv_2 : Int32) (Mv_3 : Int32) (Mv_4 : Int32) (Mv_5 : Int32) (Mv_6 : Int32) (Mv_7 : Int32) (Mv_8 : Int32) (Mv_9 : Int32) (Mv_10 : Int32) (Mv_11 : Int32) (Mv_12 : Int32) (Mv_13 : Int32) (Mv_14 : Int32) (Mf_1 : Nat → Int32) (Mf_6 : Nat → Int32) (Mj_0 : Int64) (C : Nat → Int) (h_nx : 0 ≤ (Mv_2 : Int32).toInt ∧ (Mv_2 : Int32).toInt ≤ (Mv_0 : Int32).toInt ∧ (Mv_0 : Int32).toInt ≤ 400) (h_ro : RdO Mf_6) (h_f1 : (Mf_6 0).toInt = 1) (h_bs : ByS Mf_1) (h_w : (Mv_3 : Int32).toInt = 0) (h_lt : LtH (rB Mf_1 Mv_0) Mv_2) (h_e : RdE Mf_6 C) : Ct l yX12_isSkyHere cX12_isSkyHere 1 (some .boolean) { frames := 3, cells := 0, slots := 0, locals := 72 } D tc sk [.ref Ma_0] [(Ma_0, .inr (12, [.ref Ma_1, .int Mv_0, .int Mv_1, .ref Ma_2, .ref Ma_3, .ref Ma_4, .ref Ma_5, .ref Ma_6, .int Mv_2, .int Mv_3, .int Mv_4, .int Mv_5, .int Mv_6, .int Mv_7, .int Mv_8, .ref Ma_7, .int Mv_9, .ref Ma_8, .int Mv_10, .ref Ma_9, .ref Ma_10, .int Mv_11, .int Mv_12, .int Mv_13, .ref Ma_11, .int Mv_14, .ref Ma_12, .ref Ma_13, .ref Ma_14, .ref Ma_15, .ref Ma_16, .long Mj_0, .ref Ma_17, .ref Ma_18, .ref Ma_19, .ref Ma_20])), (Ma_1, .inl (tc 2, 400, .inl Mf_1)), (Ma_6, .inl (tc 0, 95, .inl Mf_6))] (fun (v : Option Value) (u : (Int32) × (Int32) × (Int32) × (Nat → Int32)) => match u with | (oo0x1, oo0x2, oo0x3, oo0x4) => ∃ r : Int32, v = some (.int r) ∧ (((r.toInt = 0 ∧ ¬ (oo0x2 : Int32).toInt = 0) ∨ (r.toInt = 1 ∧ ((oo0x4 2).toInt = (Mf_6 2).toInt ∧ (oo0x4 3).toInt = (Mf_6 3).toInt ∧ (oo0x4 0).toInt = (Mf_6 0).toInt) ∧ (oo0x2 : Int32).toInt = 0))) ∧ ((Mv_2 : Int32).toInt ≤ (oo0x1 : Int32).toInt ∧ (oo0x1 : Int32).toInt ≤ (Mv_0 : Int32).toInt) ∧ (r.toInt = 1 → (RdO oo0x4) ∧ (QfO (qz_k1 (rB Mf_1 Mv_0) C (pNX (rB Mf_1 Mv_0) Mv_2)) (rB Mf_1 Mv_0) oo0x2 oo0x1 oo0x4)) ∧ (r.toInt = 0 → (QfE (qz_k1 (rB Mf_1 Mv_0) C (pNX (rB Mf_1 Mv_0) Mv_2)) oo0x2))) (fun (u : (Int32) × (Int32) × (Int32) × (Nat → Int32)) => match u with | (oo0x1, oo0x2, oo0x3, oo0x4) => [(Ma_0, .inr (12, [.ref Ma_1, .int Mv_0, .int Mv_1, .ref Ma_2, .ref Ma_3, .ref Ma_4, .ref Ma_5, .ref Ma_6, .int oo0x1, .int oo0x2, .int oo0x3, .int Mv_5, .int Mv_6, .int Mv_7, .int Mv_8, .ref Ma_7, .int Mv_9, .ref Ma_8, .int Mv_10, .ref Ma_9, .ref Ma_10, .int Mv_11, .int Mv_12, .int Mv_13, .ref Ma_11, .int Mv_14, .ref Ma_12, .ref Ma_13, .ref Ma_14, .ref Ma_15, .ref Ma_16, .long Mj_0, .ref Ma_17, .ref Ma_18, .ref Ma_19, .ref Ma_20])), (Ma_1, .inl (tc 2, 400, .inl Mf_1)), (Ma_6, .inl (tc 0, 95, .inl oo0x4))]) 0 0 :=
  ct_zX12_isSkyHere l D tc sk (fun k => ([Ma_0, Ma_1, Ma_2, Ma_3, Ma_4, Ma_5, Ma_6, Ma_7, Ma_8, Ma_9, Ma_10, Ma_11, Ma_12, Ma_13, Ma_14, Ma_15, Ma_16, Ma_17, Ma_18, Ma_19, Ma_20] : List (Nat)).getD k 0) (fun k => ([Mv_0, Mv_1, Mv_2, Mv_3, Mv_4, Mv_5, Mv_6, Mv_7, Mv_8, Mv_9, Mv_10, Mv_11, Mv_12, Mv_13, Mv_14] : List (Int32)).getD k 0) (fun k => ([(fun _ => 0), Mf_1, (fun _ => 0), (fun _ => 0), (fun _ => 0), (fun _ => 0), Mf_6] : List (Nat → Int32)).getD k (fun _ => 0)) (fun k => ([Mj_0] : List (Int64)).getD k 0) C h_nx h_ro h_f1 h_bs h_w h_lt h_e
set_option maxHeartbeats 4000000 in
set_option maxRecDepth 100000 in
theorem ct_zX12_isBuyerHere (l : Launch) (D : va_G) (tc : Nat → ClassId) (sk : (Nat → Nat) × (Nat → Nat)) (Ma : Nat → Nat) (Mv : Nat → Int32) (Mf : Nat → Nat → Int32) (Mj : Nat → Int64) (x1 : Int32) (C : Nat → Int) (h_nx : 0 ≤ ((Mv 2) : Int32).toInt ∧ ((Mv 2) : Int32).toInt ≤ ((Mv 0) : Int32).toInt ∧ ((Mv 0) : Int32).toInt ≤ 400) (h_at : 0 ≤ x1.toInt ∧ x1.toInt ≤ 400) (h_ro : RdO (Mf 6)) (h_f1 : ((Mf 6) 0).toInt = 1) (h_bs : ByS (Mf 1)) (h_w : ((Mv 3) : Int32).toInt = 0) (h_lt : LtH (rB (Mf 1) (Mv 0)) (Mv 2)) (h_e : RdE (Mf 6) C) : Ct l yX12_isBuyerHere cX12_isBuyerHere 3 (some .boolean) { frames := 3, cells := 0, slots := 0, locals := 72 } D tc sk [.ref (Ma 0), .int x1] [((Ma 0), .inr (12, [.ref (Ma 1), .int (Mv 0), .int (Mv 1), .ref (Ma 2), .ref (Ma 3), .ref (Ma 4), .ref (Ma 5), .ref (Ma 6), .int (Mv 2), .int (Mv 3), .int (Mv 4), .int (Mv 5), .int (Mv 6), .int (Mv 7), .int (Mv 8), .ref (Ma 7), .int (Mv 9), .ref (Ma 8), .int (Mv 10), .ref (Ma 9), .ref (Ma 10), .int (Mv 11), .int (Mv 12), .int (Mv 13), .ref (Ma 11), .int (Mv 14), .ref (Ma 12), .ref (Ma 13), .ref (Ma 14), .ref (Ma 15), .ref (Ma 16), .long (Mj 0), .ref (Ma 17), .ref (Ma 18), .ref (Ma 19), .ref (Ma 20)])), ((Ma 1), .inl (tc 2, 400, .inl (Mf 1))), ((Ma 6), .inl (tc 0, 95, .inl (Mf 6)))] (fun (v : Option Value) (u : (Int32) × (Int32) × (Int32) × (Nat → Int32)) => match u with | (oo0x1, oo0x2, oo0x3, oo0x4) => ∃ r : Int32, v = some (.int r) ∧ (((r.toInt = 0 ∧ ¬ (oo0x2 : Int32).toInt = 0) ∨ (r.toInt = 1 ∧ (oo0x4 2).toInt = ((Mf 6) 2).toInt ∧ (oo0x4 3).toInt = ((Mf 6) 3).toInt + 1 ∧ (oo0x4 0).toInt = ((Mf 6) 0).toInt ∧ ((Mf 6) 3).toInt < 6 ∧ (oo0x2 : Int32).toInt = 0))) ∧ (((Mv 2) : Int32).toInt ≤ (oo0x1 : Int32).toInt ∧ (oo0x1 : Int32).toInt ≤ ((Mv 0) : Int32).toInt) ∧ (r.toInt = 1 → (RdO oo0x4) ∧ (QfO (qz_k2 (rB (Mf 1) (Mv 0)) C (pNX (rB (Mf 1) (Mv 0)) (Mv 2))) (rB (Mf 1) (Mv 0)) oo0x2 oo0x1 oo0x4)) ∧ (r.toInt = 0 → (QyE (rB (Mf 1) (Mv 0)) C (Mv 2) ((Mf 6) 3) x1 oo0x2))) (fun (u : (Int32) × (Int32) × (Int32) × (Nat → Int32)) => match u with | (oo0x1, oo0x2, oo0x3, oo0x4) => [((Ma 0), .inr (12, [.ref (Ma 1), .int (Mv 0), .int (Mv 1), .ref (Ma 2), .ref (Ma 3), .ref (Ma 4), .ref (Ma 5), .ref (Ma 6), .int oo0x1, .int oo0x2, .int oo0x3, .int (Mv 5), .int (Mv 6), .int (Mv 7), .int (Mv 8), .ref (Ma 7), .int (Mv 9), .ref (Ma 8), .int (Mv 10), .ref (Ma 9), .ref (Ma 10), .int (Mv 11), .int (Mv 12), .int (Mv 13), .ref (Ma 11), .int (Mv 14), .ref (Ma 12), .ref (Ma 13), .ref (Ma 14), .ref (Ma 15), .ref (Ma 16), .long (Mj 0), .ref (Ma 17), .ref (Ma 18), .ref (Ma 19), .ref (Ma 20)])), ((Ma 1), .inl (tc 2, 400, .inl (Mf 1))), ((Ma 6), .inl (tc 0, 95, .inl oo0x4))]) 0 0 := by
  refine Ct.start (by decide) (Nat.le_of_ble_eq_true rfl) (fun p e s m below meth c A ls hx hb hr hlk hin hml hown hts hK hX hP hD hA hl hS => ?_)
  have hl : lv_has ls 3 [(0, .ref (Ma 0)), (1, .int x1)] := hl
  have ar_h_ro := RdO.ar h_ro
  have ar_h_lt := h_lt.1
  refine lv_aload_n hx hb dX12_isBuyerHere_0 rfl (lv_at hl 0 rfl) ?_
  refine gf_X12_26 hx hb hts hown hK hP 0 rfl rfl dX12_isBuyerHere_1 ?_
  refine lv_iconst (v := 3) hx hb dX12_isBuyerHere_4 (by decide) ?_
  refine va_iald hx hb hK hP 2 0 rfl rfl (vin_dec (by decide +kernel)) dX12_isBuyerHere_5 ?_
  refine lv_topi (fun x_1 ex_1 => ?_)
  have lx_1 : x_1.toInt = ((Mf 6) 3).toInt := congrArg Int32.toInt ex_1
  refine lv_bipush (v := 6) hx hb dX12_isBuyerHere_6 (by decide) ?_
  refine lv_icmp_ne (tgt := 18) hx hb dX12_isBuyerHere_8 (by decide) (fun c_2 => ?_) (fun c_2 => ?_)
  · skip
    refine lv_aload_n hx hb dX12_isBuyerHere_18 rfl (lv_at hl 0 rfl) ?_
    refine cV (a := (Ma 0)) (As := []) (rest := []) (wr := [((Ma 6), .inl (tc 0, 95, .inl (Mf 6)))]) ⟨hx, hb, hml, hown, hts⟩ hK hX hA (cu_fX12_passWord l D tc sk (Ma 0) (Ma 1) (Ma 2) (Ma 3) (Ma 4) (Ma 5) (Ma 6) (Ma 7) (Ma 8) (Ma 9) (Ma 10) (Ma 11) (Ma 12) (Ma 13) (Ma 14) (Ma 15) (Ma 16) (Ma 17) (Ma 18) (Ma 19) (Ma 20) (Mv 0) (Mv 1) (Mv 2) (Mv 3) (Mv 4) (Mv 5) (Mv 6) (Mv 7) (Mv 8) (Mv 9) (Mv 10) (Mv 11) (Mv 12) (Mv 13) (Mv 14) (Mf 1) (Mj 0) h_nx h_bs) k_1244 k_1241 k_1243 k_34 k_106 pl_X12_passWord ⟨Nat.le_of_ble_eq_true rfl, Nat.le_of_ble_eq_true rfl⟩ rfl rfl (va_recv hK hP (ci := 12) (q0 := 0) rfl rfl) hP hD hS [0, 1] [2] rfl rfl rfl rfl rfl (by decide) rfl hl.1 rfl (Nat.le_of_ble_eq_true rfl) dX12_isBuyerHere_19 ⟨Nat.le_of_ble_eq_true rfl, Nat.le_of_ble_eq_true rfl⟩ (fun v_3 u_4 H locs hv_5 hP₀ hD₀ hS₀ => ?_)
    obtain ⟨sv_6, rfl⟩ : ∃ z, z = u_4 := ⟨_, rfl⟩
    obtain ⟨rfl, pf_7, pf_8, pf_9⟩ := hv_5
    have pf_7 : ((Mv 2) : Int32).toInt ≤ (sv_6 : Int32).toInt ∧ (sv_6 : Int32).toInt ≤ ((Mv 0) : Int32).toInt := pf_7
    have pf_8 : Pw (Mf 1) (Mv 0) (Mv 2) sv_6 := pf_8
    have pf_9 : PsR (rB (Mf 1) (Mv 0)) (Mv 2) sv_6 := pf_9
    refine W.eq (g2 := F0 m 22 ls []) rfl ?_
    replace hP : va_P D classes [((Ma 6), .inl (tc 0, 95, .inl (Mf 6))), ((Ma 0), .inr (12, [.ref (Ma 1), .int (Mv 0), .int (Mv 1), .ref (Ma 2), .ref (Ma 3), .ref (Ma 4), .ref (Ma 5), .ref (Ma 6), .int sv_6, .int (Mv 3), .int (Mv 4), .int (Mv 5), .int (Mv 6), .int (Mv 7), .int (Mv 8), .ref (Ma 7), .int (Mv 9), .ref (Ma 8), .int (Mv 10), .ref (Ma 9), .ref (Ma 10), .int (Mv 11), .int (Mv 12), .int (Mv 13), .ref (Ma 11), .int (Mv 14), .ref (Ma 12), .ref (Ma 13), .ref (Ma 14), .ref (Ma 15), .ref (Ma 16), .long (Mj 0), .ref (Ma 17), .ref (Ma 18), .ref (Ma 19), .ref (Ma 20)])), ((Ma 1), .inl (tc 2, 400, .inl (Mf 1)))] H := hP₀
    replace hD : va_D A [((Ma 6), .inl (tc 0, 95, .inl (Mf 6))), ((Ma 0), .inr (12, [.ref (Ma 1), .int (Mv 0), .int (Mv 1), .ref (Ma 2), .ref (Ma 3), .ref (Ma 4), .ref (Ma 5), .ref (Ma 6), .int sv_6, .int (Mv 3), .int (Mv 4), .int (Mv 5), .int (Mv 6), .int (Mv 7), .int (Mv 8), .ref (Ma 7), .int (Mv 9), .ref (Ma 8), .int (Mv 10), .ref (Ma 9), .ref (Ma 10), .int (Mv 11), .int (Mv 12), .int (Mv 13), .ref (Ma 11), .int (Mv 14), .ref (Ma 12), .ref (Ma 13), .ref (Ma 14), .ref (Ma 15), .ref (Ma 16), .long (Mj 0), .ref (Ma 17), .ref (Ma 18), .ref (Ma 19), .ref (Ma 20)])), ((Ma 1), .inl (tc 2, 400, .inl (Mf 1)))] := hD₀
    replace hS := hS₀
    clear hP₀ hD₀ hS₀
    refine lv_aload_n hx hb dX12_isBuyerHere_22 rfl (lv_at hl 0 rfl) ?_
    refine gf_X12_26 hx hb hts hown hK hP 1 rfl rfl dX12_isBuyerHere_23 ?_
    refine lv_iconst (v := 3) hx hb dX12_isBuyerHere_26 (by decide) ?_
    refine va_iald hx hb hK hP 0 0 rfl rfl (vin_dec (by decide +kernel)) dX12_isBuyerHere_27 ?_
    refine lv_topi (fun x_10 ex_10 => ?_)
    have lx_10 : x_10.toInt = ((Mf 6) 3).toInt := congrArg Int32.toInt ex_10
    refine lv_istore_n (lv' := [(2, .int x_10), (0, .ref (Ma 0)), (1, .int x1)]) hx hb dX12_isBuyerHere_28 rfl hl (by decide) rfl (fun ls hl₀ => ?_)
    replace hl := hl₀
    clear hl₀
    refine lv_aload_n hx hb dX12_isBuyerHere_29 rfl (lv_at hl 1 rfl) ?_
    refine lv_bipush (v := 68) hx hb dX12_isBuyerHere_30 (by decide) ?_
    refine lv_iload_n hx hb dX12_isBuyerHere_32 rfl (lv_at hl 0 rfl) ?_
    refine lv_iadd hx hb dX12_isBuyerHere_33 ?_
    refine lv_topi (fun x_11 ex_11 => ?_)
    refine lv_iconst (v := 0) hx hb dX12_isBuyerHere_34 (by decide) ?_
    refine lv_bipush (v := 20) hx hb dX12_isBuyerHere_35 (by decide) ?_
    have ha_12 : 0 ≤ (sv_6 : Int32).toInt ∧ (sv_6 : Int32).toInt ≤ ((Mv 0) : Int32).toInt ∧ ((Mv 0) : Int32).toInt ≤ 400 := by
      have z_1 : ¬ (x_1 : Int32).toInt = (6 : Int32).toInt := fun z => c_2 (Int32.toInt_inj.mp z)
      have y_6 : (6 : Int32).toInt = 6 := by decide
      have y_68 : (68 : Int32).toInt = 68 := by decide
      have t_x_11 : x_11.toInt = (68 : Int32).toInt + (x_10 : Int32).toInt := by rw [ex_11]; exact add_toInt (by omega) (by omega)
      omega
    have ha_13 : 0 ≤ x_11.toInt ∧ x_11.toInt < 95 := by
      have z_1 : ¬ (x_1 : Int32).toInt = (6 : Int32).toInt := fun z => c_2 (Int32.toInt_inj.mp z)
      have y_6 : (6 : Int32).toInt = 6 := by decide
      have y_68 : (68 : Int32).toInt = 68 := by decide
      have t_x_11 : x_11.toInt = (68 : Int32).toInt + (x_10 : Int32).toInt := by rw [ex_11]; exact add_toInt (by omega) (by omega)
      omega
    refine cV (a := (Ma 0)) (As := [.int x_11, .int 0, .int 20]) (rest := []) (wr := []) ⟨hx, hb, hml, hown, hts⟩ hK hX hA (cu_fX12_cellHere l D tc sk (Ma 0) (Ma 1) (Ma 2) (Ma 3) (Ma 4) (Ma 5) (Ma 6) (Ma 7) (Ma 8) (Ma 9) (Ma 10) (Ma 11) (Ma 12) (Ma 13) (Ma 14) (Ma 15) (Ma 16) (Ma 17) (Ma 18) (Ma 19) (Ma 20) (Mv 0) (Mv 1) sv_6 (Mv 3) (Mv 4) (Mv 5) (Mv 6) (Mv 7) (Mv 8) (Mv 9) (Mv 10) (Mv 11) (Mv 12) (Mv 13) (Mv 14) (Mf 1) (Mf 6) (Mj 0) x_11 0 20 ha_12 ha_13 h_bs h_w) k_1248 k_1245 k_1247 k_35 k_106 pl_X12_cellHere ⟨Nat.le_of_ble_eq_true rfl, Nat.le_of_ble_eq_true rfl⟩ rfl rfl (va_recv hK hP (ci := 12) (q0 := 1) rfl rfl) hP hD hS [1, 2, 0] [] rfl rfl rfl rfl rfl (by decide) rfl hl.1 rfl (Nat.le_of_ble_eq_true rfl) dX12_isBuyerHere_37 ⟨Nat.le_of_ble_eq_true rfl, Nat.le_of_ble_eq_true rfl⟩ (fun v_14 u_15 H locs hv_16 hP₀ hD₀ hS₀ => ?_)
    obtain ⟨sv_17, sv_18, sv_19, sv_20⟩ := u_15
    obtain ⟨r_23, rfl, he_24, pf_21, pf_22, hm_26, hm_27⟩ := hv_16
    have he_24 : ((r_23.toInt = 0 ∧ ¬ (sv_18 : Int32).toInt = 0) ∨ (r_23.toInt = 1 ∧ (0 : Int32).toInt ≤ (sv_20 x_11.toNatClampNeg).toInt ∧ (sv_20 x_11.toNatClampNeg).toInt ≤ (20 : Int32).toInt ∧ (sv_18 : Int32).toInt = 0)) := he_24
    have yl_he_24_0 : (0 : Int32).toInt = 0 := by decide
    have yl_he_24_20 : (20 : Int32).toInt = 20 := by decide
    have pf_21 : (sv_6 : Int32).toInt ≤ (sv_17 : Int32).toInt ∧ (sv_17 : Int32).toInt ≤ ((Mv 0) : Int32).toInt := pf_21
    have pf_22 : RdC (Mf 6) sv_20 x_11 := pf_22
    have hr_28 : 4 ≤ (x_11 : Int32).toInt := by
      have z_1 : ¬ (x_1 : Int32).toInt = (6 : Int32).toInt := fun z => c_2 (Int32.toInt_inj.mp z)
      have y_6 : (6 : Int32).toInt = 6 := by decide
      have y_68 : (68 : Int32).toInt = 68 := by decide
      have t_x_11 : x_11.toInt = (68 : Int32).toInt + (x_10 : Int32).toInt := by rw [ex_11]; exact add_toInt (by omega) (by omega)
      omega
    have kq_pf_22_0 := RdC.at pf_22 0 (by omega) (by omega)
    have hr_29 : 4 ≤ (x_11 : Int32).toInt := by
      have z_1 : ¬ (x_1 : Int32).toInt = (6 : Int32).toInt := fun z => c_2 (Int32.toInt_inj.mp z)
      have y_6 : (6 : Int32).toInt = 6 := by decide
      have y_68 : (68 : Int32).toInt = 68 := by decide
      have t_x_11 : x_11.toInt = (68 : Int32).toInt + (x_10 : Int32).toInt := by rw [ex_11]; exact add_toInt (by omega) (by omega)
      omega
    have kq_pf_22_2 := RdC.at pf_22 2 (by omega) (by omega)
    have hr_30 : 4 ≤ (x_11 : Int32).toInt := by
      have z_1 : ¬ (x_1 : Int32).toInt = (6 : Int32).toInt := fun z => c_2 (Int32.toInt_inj.mp z)
      have y_6 : (6 : Int32).toInt = 6 := by decide
      have y_68 : (68 : Int32).toInt = 68 := by decide
      have t_x_11 : x_11.toInt = (68 : Int32).toInt + (x_10 : Int32).toInt := by rw [ex_11]; exact add_toInt (by omega) (by omega)
      omega
    have kq_pf_22_3 := RdC.at pf_22 3 (by omega) (by omega)
    refine W.eq (g2 := F0 m 40 ls [.int r_23]) rfl ?_
    replace hP : va_P D classes [((Ma 0), .inr (12, [.ref (Ma 1), .int (Mv 0), .int (Mv 1), .ref (Ma 2), .ref (Ma 3), .ref (Ma 4), .ref (Ma 5), .ref (Ma 6), .int sv_17, .int sv_18, .int sv_19, .int (Mv 5), .int (Mv 6), .int (Mv 7), .int (Mv 8), .ref (Ma 7), .int (Mv 9), .ref (Ma 8), .int (Mv 10), .ref (Ma 9), .ref (Ma 10), .int (Mv 11), .int (Mv 12), .int (Mv 13), .ref (Ma 11), .int (Mv 14), .ref (Ma 12), .ref (Ma 13), .ref (Ma 14), .ref (Ma 15), .ref (Ma 16), .long (Mj 0), .ref (Ma 17), .ref (Ma 18), .ref (Ma 19), .ref (Ma 20)])), ((Ma 1), .inl (tc 2, 400, .inl (Mf 1))), ((Ma 6), .inl (tc 0, 95, .inl sv_20))] H := hP₀
    replace hD : va_D A [((Ma 0), .inr (12, [.ref (Ma 1), .int (Mv 0), .int (Mv 1), .ref (Ma 2), .ref (Ma 3), .ref (Ma 4), .ref (Ma 5), .ref (Ma 6), .int sv_17, .int sv_18, .int sv_19, .int (Mv 5), .int (Mv 6), .int (Mv 7), .int (Mv 8), .ref (Ma 7), .int (Mv 9), .ref (Ma 8), .int (Mv 10), .ref (Ma 9), .ref (Ma 10), .int (Mv 11), .int (Mv 12), .int (Mv 13), .ref (Ma 11), .int (Mv 14), .ref (Ma 12), .ref (Ma 13), .ref (Ma 14), .ref (Ma 15), .ref (Ma 16), .long (Mj 0), .ref (Ma 17), .ref (Ma 18), .ref (Ma 19), .ref (Ma 20)])), ((Ma 1), .inl (tc 2, 400, .inl (Mf 1))), ((Ma 6), .inl (tc 0, 95, .inl sv_20))] := hD₀
    replace hS := hS₀
    clear hP₀ hD₀ hS₀
    refine lv_if_eq (tgt := 71) hx hb dX12_isBuyerHere_40 (by decide) (fun c_31 => ?_) (fun c_31 => ?_)
    · skip
      have hz_33 : (r_23 : Int32).toInt = 0 := by
        have z_1 : ¬ (x_1 : Int32).toInt = (6 : Int32).toInt := fun z => c_2 (Int32.toInt_inj.mp z)
        have z_2 := congrArg Int32.toInt c_31
        have y_0 : (0 : Int32).toInt = 0 := by decide
        have y_6 : (6 : Int32).toInt = 6 := by decide
        have y_68 : (68 : Int32).toInt = 68 := by decide
        have t_x_11 : x_11.toInt = (68 : Int32).toInt + (x_10 : Int32).toInt := by rw [ex_11]; exact add_toInt (by omega) (by omega)
        omega
      obtain pf_32 := hm_27 hz_33
      have pf_32 : NmE (rB (Mf 1) (Mv 0)) (0 : Int32).toInt (20 : Int32).toInt sv_6 sv_18 := pf_32
      refine lv_iconst (v := 0) hx hb dX12_isBuyerHere_71 (by decide) ?_
      have ha_34 : ((Mv 2) : Int32).toInt ≤ (sv_17 : Int32).toInt ∧ (sv_17 : Int32).toInt ≤ ((Mv 0) : Int32).toInt := by
        have z_1 : ¬ (x_1 : Int32).toInt = (6 : Int32).toInt := fun z => c_2 (Int32.toInt_inj.mp z)
        have z_2 := congrArg Int32.toInt c_31
        have y_0 : (0 : Int32).toInt = 0 := by decide
        have y_6 : (6 : Int32).toInt = 6 := by decide
        have y_68 : (68 : Int32).toInt = 68 := by decide
        have t_x_11 : x_11.toInt = (68 : Int32).toInt + (x_10 : Int32).toInt := by rw [ex_11]; exact add_toInt (by omega) (by omega)
        omega
      have hp_35 : (((0 : Int32).toInt = 0 ∧ ¬ (sv_18 : Int32).toInt = 0) ∨ ((0 : Int32).toInt = 1 ∧ (sv_20 2).toInt = ((Mf 6) 2).toInt ∧ (sv_20 3).toInt = ((Mf 6) 3).toInt + 1 ∧ (sv_20 0).toInt = ((Mf 6) 0).toInt ∧ ((Mf 6) 3).toInt < 6 ∧ (sv_18 : Int32).toInt = 0)) := by
        have z_1 : ¬ (x_1 : Int32).toInt = (6 : Int32).toInt := fun z => c_2 (Int32.toInt_inj.mp z)
        have z_2 := congrArg Int32.toInt c_31
        have y_0 : (0 : Int32).toInt = 0 := by decide
        have y_6 : (6 : Int32).toInt = 6 := by decide
        have y_68 : (68 : Int32).toInt = 68 := by decide
        have t_x_11 : x_11.toInt = (68 : Int32).toInt + (x_10 : Int32).toInt := by rw [ex_11]; exact add_toInt (by omega) (by omega)
        omega
      have hm_36 : (0 : Int32).toInt = 0 → (QyE (rB (Mf 1) (Mv 0)) C (Mv 2) ((Mf 6) 3) x1 sv_18) := by
        intro h1r
        have hn_37 : NmE (rB (Mf 1) (Mv 0)) 0 20 sv_6 sv_18 := by
          have hq := pf_32
          rw [show (0 : Int32).toInt = 0 by decide, show (20 : Int32).toInt = 20 by decide] at hq
          exact hq
        have hr_38 : ¬ ((Mf 6) 3).toInt = 6 := by
          have z_1 : ¬ (x_1 : Int32).toInt = (6 : Int32).toInt := fun z => c_2 (Int32.toInt_inj.mp z)
          have z_2 := congrArg Int32.toInt c_31
          have y_0 : (0 : Int32).toInt = 0 := by decide
          have y_6 : (6 : Int32).toInt = 6 := by decide
          have y_68 : (68 : Int32).toInt = 68 := by decide
          have t_x_11 : x_11.toInt = (68 : Int32).toInt + (x_10 : Int32).toInt := by rw [ex_11]; exact add_toInt (by omega) (by omega)
          omega
        exact (Or.inr ⟨hr_38, bk2_1 (RgO.ps h_lt pf_9 h_w) hn_37⟩)
      exact retI (v := 0) hx hb hr hlk (rfl) hP hD hS (sv_17, sv_18, sv_19, sv_20) ⟨_, rfl, hp_35, ha_34, (fun h => absurd h (by decide)), hm_36⟩ [0, 1, 2] rfl rfl dX12_isBuyerHere_72 (Nat.le_of_ble_eq_true rfl) (Nat.le_of_ble_eq_true rfl) rfl
    · skip
      have hz_40 : (r_23 : Int32).toInt = 1 := by
        have z_1 : ¬ (x_1 : Int32).toInt = (6 : Int32).toInt := fun z => c_2 (Int32.toInt_inj.mp z)
        have z_2 : ¬ (r_23 : Int32).toInt = (0 : Int32).toInt := fun z => c_31 (Int32.toInt_inj.mp z)
        have y_0 : (0 : Int32).toInt = 0 := by decide
        have y_6 : (6 : Int32).toInt = 6 := by decide
        have y_68 : (68 : Int32).toInt = 68 := by decide
        have t_x_11 : x_11.toInt = (68 : Int32).toInt + (x_10 : Int32).toInt := by rw [ex_11]; exact add_toInt (by omega) (by omega)
        omega
      obtain pf_39 := hm_26 hz_40
      have pf_39 : NmO (rB (Mf 1) (Mv 0)) (0 : Int32).toInt (20 : Int32).toInt sv_6 (sv_20 x_11.toNatClampNeg) sv_17 sv_18 := pf_39
      have ar_pf_39 := pf_39.2.2
      refine lv_aload_n hx hb dX12_isBuyerHere_43 rfl (lv_at hl 1 rfl) ?_
      refine lv_bipush (v := 56) hx hb dX12_isBuyerHere_44 (by decide) ?_
      refine lv_iload_n hx hb dX12_isBuyerHere_46 rfl (lv_at hl 0 rfl) ?_
      refine lv_iadd hx hb dX12_isBuyerHere_47 ?_
      refine lv_topi (fun x_41 ex_41 => ?_)
      refine lv_iconst (v := 1) hx hb dX12_isBuyerHere_48 (by decide) ?_
      refine lv_bipush (v := 9) hx hb dX12_isBuyerHere_49 (by decide) ?_
      have ha_42 : 0 ≤ (sv_17 : Int32).toInt ∧ (sv_17 : Int32).toInt ≤ ((Mv 0) : Int32).toInt ∧ ((Mv 0) : Int32).toInt ≤ 400 := by
        have z_1 : ¬ (x_1 : Int32).toInt = (6 : Int32).toInt := fun z => c_2 (Int32.toInt_inj.mp z)
        have z_2 : ¬ (r_23 : Int32).toInt = (0 : Int32).toInt := fun z => c_31 (Int32.toInt_inj.mp z)
        have y_0 : (0 : Int32).toInt = 0 := by decide
        have y_6 : (6 : Int32).toInt = 6 := by decide
        have y_56 : (56 : Int32).toInt = 56 := by decide
        have y_68 : (68 : Int32).toInt = 68 := by decide
        have t_x_11 : x_11.toInt = (68 : Int32).toInt + (x_10 : Int32).toInt := by rw [ex_11]; exact add_toInt (by omega) (by omega)
        have t_x_41 : x_41.toInt = (56 : Int32).toInt + (x_10 : Int32).toInt := by rw [ex_41]; exact add_toInt (by omega) (by omega)
        omega
      have ha_43 : 0 ≤ x_41.toInt ∧ x_41.toInt < 95 := by
        have z_1 : ¬ (x_1 : Int32).toInt = (6 : Int32).toInt := fun z => c_2 (Int32.toInt_inj.mp z)
        have z_2 : ¬ (r_23 : Int32).toInt = (0 : Int32).toInt := fun z => c_31 (Int32.toInt_inj.mp z)
        have y_0 : (0 : Int32).toInt = 0 := by decide
        have y_6 : (6 : Int32).toInt = 6 := by decide
        have y_56 : (56 : Int32).toInt = 56 := by decide
        have y_68 : (68 : Int32).toInt = 68 := by decide
        have t_x_11 : x_11.toInt = (68 : Int32).toInt + (x_10 : Int32).toInt := by rw [ex_11]; exact add_toInt (by omega) (by omega)
        have t_x_41 : x_41.toInt = (56 : Int32).toInt + (x_10 : Int32).toInt := by rw [ex_41]; exact add_toInt (by omega) (by omega)
        omega
      have ha_44 : (sv_18 : Int32).toInt = 0 := by
        have z_1 : ¬ (x_1 : Int32).toInt = (6 : Int32).toInt := fun z => c_2 (Int32.toInt_inj.mp z)
        have z_2 : ¬ (r_23 : Int32).toInt = (0 : Int32).toInt := fun z => c_31 (Int32.toInt_inj.mp z)
        have y_0 : (0 : Int32).toInt = 0 := by decide
        have y_6 : (6 : Int32).toInt = 6 := by decide
        have y_56 : (56 : Int32).toInt = 56 := by decide
        have y_68 : (68 : Int32).toInt = 68 := by decide
        have t_x_11 : x_11.toInt = (68 : Int32).toInt + (x_10 : Int32).toInt := by rw [ex_11]; exact add_toInt (by omega) (by omega)
        have t_x_41 : x_41.toInt = (56 : Int32).toInt + (x_10 : Int32).toInt := by rw [ex_41]; exact add_toInt (by omega) (by omega)
        omega
      refine cV (a := (Ma 0)) (As := [.int x_41, .int 1, .int 9]) (rest := []) (wr := []) ⟨hx, hb, hml, hown, hts⟩ hK hX hA (cu_fX12_cellHere l D tc sk (Ma 0) (Ma 1) (Ma 2) (Ma 3) (Ma 4) (Ma 5) (Ma 6) (Ma 7) (Ma 8) (Ma 9) (Ma 10) (Ma 11) (Ma 12) (Ma 13) (Ma 14) (Ma 15) (Ma 16) (Ma 17) (Ma 18) (Ma 19) (Ma 20) (Mv 0) (Mv 1) sv_17 sv_18 sv_19 (Mv 5) (Mv 6) (Mv 7) (Mv 8) (Mv 9) (Mv 10) (Mv 11) (Mv 12) (Mv 13) (Mv 14) (Mf 1) sv_20 (Mj 0) x_41 1 9 ha_42 ha_43 h_bs ha_44) k_1248 k_1245 k_1247 k_35 k_106 pl_X12_cellHere ⟨Nat.le_of_ble_eq_true rfl, Nat.le_of_ble_eq_true rfl⟩ rfl rfl (va_recv hK hP (ci := 12) (q0 := 0) rfl rfl) hP hD hS [0, 1, 2] [] rfl rfl rfl rfl rfl (by decide) rfl hl.1 rfl (Nat.le_of_ble_eq_true rfl) dX12_isBuyerHere_51 ⟨Nat.le_of_ble_eq_true rfl, Nat.le_of_ble_eq_true rfl⟩ (fun v_45 u_46 H locs hv_47 hP₀ hD₀ hS₀ => ?_)
      obtain ⟨sv_48, sv_49, sv_50, sv_51⟩ := u_46
      obtain ⟨r_54, rfl, he_55, pf_52, pf_53, hm_57, hm_58⟩ := hv_47
      have he_55 : ((r_54.toInt = 0 ∧ ¬ (sv_49 : Int32).toInt = 0) ∨ (r_54.toInt = 1 ∧ (1 : Int32).toInt ≤ (sv_51 x_41.toNatClampNeg).toInt ∧ (sv_51 x_41.toNatClampNeg).toInt ≤ (9 : Int32).toInt ∧ (sv_49 : Int32).toInt = 0)) := he_55
      have yl_he_55_1 : (1 : Int32).toInt = 1 := by decide
      have yl_he_55_9 : (9 : Int32).toInt = 9 := by decide
      have pf_52 : (sv_17 : Int32).toInt ≤ (sv_48 : Int32).toInt ∧ (sv_48 : Int32).toInt ≤ ((Mv 0) : Int32).toInt := pf_52
      have pf_53 : RdC sv_20 sv_51 x_41 := pf_53
      have hr_59 : 4 ≤ (x_41 : Int32).toInt := by
        have z_1 : ¬ (x_1 : Int32).toInt = (6 : Int32).toInt := fun z => c_2 (Int32.toInt_inj.mp z)
        have z_2 : ¬ (r_23 : Int32).toInt = (0 : Int32).toInt := fun z => c_31 (Int32.toInt_inj.mp z)
        have y_0 : (0 : Int32).toInt = 0 := by decide
        have y_6 : (6 : Int32).toInt = 6 := by decide
        have y_56 : (56 : Int32).toInt = 56 := by decide
        have y_68 : (68 : Int32).toInt = 68 := by decide
        have t_x_11 : x_11.toInt = (68 : Int32).toInt + (x_10 : Int32).toInt := by rw [ex_11]; exact add_toInt (by omega) (by omega)
        have t_x_41 : x_41.toInt = (56 : Int32).toInt + (x_10 : Int32).toInt := by rw [ex_41]; exact add_toInt (by omega) (by omega)
        omega
      have kq_pf_53_0 := RdC.at pf_53 0 (by omega) (by omega)
      have hr_60 : 4 ≤ (x_41 : Int32).toInt := by
        have z_1 : ¬ (x_1 : Int32).toInt = (6 : Int32).toInt := fun z => c_2 (Int32.toInt_inj.mp z)
        have z_2 : ¬ (r_23 : Int32).toInt = (0 : Int32).toInt := fun z => c_31 (Int32.toInt_inj.mp z)
        have y_0 : (0 : Int32).toInt = 0 := by decide
        have y_6 : (6 : Int32).toInt = 6 := by decide
        have y_56 : (56 : Int32).toInt = 56 := by decide
        have y_68 : (68 : Int32).toInt = 68 := by decide
        have t_x_11 : x_11.toInt = (68 : Int32).toInt + (x_10 : Int32).toInt := by rw [ex_11]; exact add_toInt (by omega) (by omega)
        have t_x_41 : x_41.toInt = (56 : Int32).toInt + (x_10 : Int32).toInt := by rw [ex_41]; exact add_toInt (by omega) (by omega)
        omega
      have kq_pf_53_2 := RdC.at pf_53 2 (by omega) (by omega)
      have hr_61 : 4 ≤ (x_41 : Int32).toInt := by
        have z_1 : ¬ (x_1 : Int32).toInt = (6 : Int32).toInt := fun z => c_2 (Int32.toInt_inj.mp z)
        have z_2 : ¬ (r_23 : Int32).toInt = (0 : Int32).toInt := fun z => c_31 (Int32.toInt_inj.mp z)
        have y_0 : (0 : Int32).toInt = 0 := by decide
        have y_6 : (6 : Int32).toInt = 6 := by decide
        have y_56 : (56 : Int32).toInt = 56 := by decide
        have y_68 : (68 : Int32).toInt = 68 := by decide
        have t_x_11 : x_11.toInt = (68 : Int32).toInt + (x_10 : Int32).toInt := by rw [ex_11]; exact add_toInt (by omega) (by omega)
        have t_x_41 : x_41.toInt = (56 : Int32).toInt + (x_10 : Int32).toInt := by rw [ex_41]; exact add_toInt (by omega) (by omega)
        omega
      have kq_pf_53_3 := RdC.at pf_53 3 (by omega) (by omega)
      refine W.eq (g2 := F0 m 54 ls [.int r_54]) rfl ?_
      replace hP : va_P D classes [((Ma 0), .inr (12, [.ref (Ma 1), .int (Mv 0), .int (Mv 1), .ref (Ma 2), .ref (Ma 3), .ref (Ma 4), .ref (Ma 5), .ref (Ma 6), .int sv_48, .int sv_49, .int sv_50, .int (Mv 5), .int (Mv 6), .int (Mv 7), .int (Mv 8), .ref (Ma 7), .int (Mv 9), .ref (Ma 8), .int (Mv 10), .ref (Ma 9), .ref (Ma 10), .int (Mv 11), .int (Mv 12), .int (Mv 13), .ref (Ma 11), .int (Mv 14), .ref (Ma 12), .ref (Ma 13), .ref (Ma 14), .ref (Ma 15), .ref (Ma 16), .long (Mj 0), .ref (Ma 17), .ref (Ma 18), .ref (Ma 19), .ref (Ma 20)])), ((Ma 1), .inl (tc 2, 400, .inl (Mf 1))), ((Ma 6), .inl (tc 0, 95, .inl sv_51))] H := hP₀
      replace hD : va_D A [((Ma 0), .inr (12, [.ref (Ma 1), .int (Mv 0), .int (Mv 1), .ref (Ma 2), .ref (Ma 3), .ref (Ma 4), .ref (Ma 5), .ref (Ma 6), .int sv_48, .int sv_49, .int sv_50, .int (Mv 5), .int (Mv 6), .int (Mv 7), .int (Mv 8), .ref (Ma 7), .int (Mv 9), .ref (Ma 8), .int (Mv 10), .ref (Ma 9), .ref (Ma 10), .int (Mv 11), .int (Mv 12), .int (Mv 13), .ref (Ma 11), .int (Mv 14), .ref (Ma 12), .ref (Ma 13), .ref (Ma 14), .ref (Ma 15), .ref (Ma 16), .long (Mj 0), .ref (Ma 17), .ref (Ma 18), .ref (Ma 19), .ref (Ma 20)])), ((Ma 1), .inl (tc 2, 400, .inl (Mf 1))), ((Ma 6), .inl (tc 0, 95, .inl sv_51))] := hD₀
      replace hS := hS₀
      clear hP₀ hD₀ hS₀
      refine lv_if_eq (tgt := 71) hx hb dX12_isBuyerHere_54 (by decide) (fun c_62 => ?_) (fun c_62 => ?_)
      · skip
        have hz_64 : (r_54 : Int32).toInt = 0 := by
          have z_1 : ¬ (x_1 : Int32).toInt = (6 : Int32).toInt := fun z => c_2 (Int32.toInt_inj.mp z)
          have z_2 : ¬ (r_23 : Int32).toInt = (0 : Int32).toInt := fun z => c_31 (Int32.toInt_inj.mp z)
          have z_3 := congrArg Int32.toInt c_62
          have y_0 : (0 : Int32).toInt = 0 := by decide
          have y_6 : (6 : Int32).toInt = 6 := by decide
          have y_56 : (56 : Int32).toInt = 56 := by decide
          have y_68 : (68 : Int32).toInt = 68 := by decide
          have t_x_11 : x_11.toInt = (68 : Int32).toInt + (x_10 : Int32).toInt := by rw [ex_11]; exact add_toInt (by omega) (by omega)
          have t_x_41 : x_41.toInt = (56 : Int32).toInt + (x_10 : Int32).toInt := by rw [ex_41]; exact add_toInt (by omega) (by omega)
          omega
        obtain pf_63 := hm_58 hz_64
        have pf_63 : NmE (rB (Mf 1) (Mv 0)) (1 : Int32).toInt (9 : Int32).toInt sv_17 sv_49 := pf_63
        refine lv_iconst (v := 0) hx hb dX12_isBuyerHere_71 (by decide) ?_
        have ha_65 : ((Mv 2) : Int32).toInt ≤ (sv_48 : Int32).toInt ∧ (sv_48 : Int32).toInt ≤ ((Mv 0) : Int32).toInt := by
          have z_1 : ¬ (x_1 : Int32).toInt = (6 : Int32).toInt := fun z => c_2 (Int32.toInt_inj.mp z)
          have z_2 : ¬ (r_23 : Int32).toInt = (0 : Int32).toInt := fun z => c_31 (Int32.toInt_inj.mp z)
          have z_3 := congrArg Int32.toInt c_62
          have y_0 : (0 : Int32).toInt = 0 := by decide
          have y_6 : (6 : Int32).toInt = 6 := by decide
          have y_56 : (56 : Int32).toInt = 56 := by decide
          have y_68 : (68 : Int32).toInt = 68 := by decide
          have t_x_11 : x_11.toInt = (68 : Int32).toInt + (x_10 : Int32).toInt := by rw [ex_11]; exact add_toInt (by omega) (by omega)
          have t_x_41 : x_41.toInt = (56 : Int32).toInt + (x_10 : Int32).toInt := by rw [ex_41]; exact add_toInt (by omega) (by omega)
          omega
        have hp_66 : (((0 : Int32).toInt = 0 ∧ ¬ (sv_49 : Int32).toInt = 0) ∨ ((0 : Int32).toInt = 1 ∧ (sv_51 2).toInt = ((Mf 6) 2).toInt ∧ (sv_51 3).toInt = ((Mf 6) 3).toInt + 1 ∧ (sv_51 0).toInt = ((Mf 6) 0).toInt ∧ ((Mf 6) 3).toInt < 6 ∧ (sv_49 : Int32).toInt = 0)) := by
          have z_1 : ¬ (x_1 : Int32).toInt = (6 : Int32).toInt := fun z => c_2 (Int32.toInt_inj.mp z)
          have z_2 : ¬ (r_23 : Int32).toInt = (0 : Int32).toInt := fun z => c_31 (Int32.toInt_inj.mp z)
          have z_3 := congrArg Int32.toInt c_62
          have y_0 : (0 : Int32).toInt = 0 := by decide
          have y_6 : (6 : Int32).toInt = 6 := by decide
          have y_56 : (56 : Int32).toInt = 56 := by decide
          have y_68 : (68 : Int32).toInt = 68 := by decide
          have t_x_11 : x_11.toInt = (68 : Int32).toInt + (x_10 : Int32).toInt := by rw [ex_11]; exact add_toInt (by omega) (by omega)
          have t_x_41 : x_41.toInt = (56 : Int32).toInt + (x_10 : Int32).toInt := by rw [ex_41]; exact add_toInt (by omega) (by omega)
          omega
        have hm_67 : (0 : Int32).toInt = 0 → (QyE (rB (Mf 1) (Mv 0)) C (Mv 2) ((Mf 6) 3) x1 sv_49) := by
          intro h1r
          have hn_68 : NmO (rB (Mf 1) (Mv 0)) 0 20 sv_6 (sv_20 x_11.toNatClampNeg) sv_17 sv_18 := by
            have hq := pf_39
            rw [show (0 : Int32).toInt = 0 by decide, show (20 : Int32).toInt = 20 by decide] at hq
            exact hq
          have hn_69 : NmE (rB (Mf 1) (Mv 0)) 1 9 sv_17 sv_49 := by
            have hq := pf_63
            rw [show (1 : Int32).toInt = 1 by decide, show (9 : Int32).toInt = 9 by decide] at hq
            exact hq
          have hr_70 : ¬ ((Mf 6) 3).toInt = 6 := by
            have z_1 : ¬ (x_1 : Int32).toInt = (6 : Int32).toInt := fun z => c_2 (Int32.toInt_inj.mp z)
            have z_2 : ¬ (r_23 : Int32).toInt = (0 : Int32).toInt := fun z => c_31 (Int32.toInt_inj.mp z)
            have z_3 := congrArg Int32.toInt c_62
            have y_0 : (0 : Int32).toInt = 0 := by decide
            have y_6 : (6 : Int32).toInt = 6 := by decide
            have y_56 : (56 : Int32).toInt = 56 := by decide
            have y_68 : (68 : Int32).toInt = 68 := by decide
            have t_x_11 : x_11.toInt = (68 : Int32).toInt + (x_10 : Int32).toInt := by rw [ex_11]; exact add_toInt (by omega) (by omega)
            have t_x_41 : x_41.toInt = (56 : Int32).toInt + (x_10 : Int32).toInt := by rw [ex_41]; exact add_toInt (by omega) (by omega)
            omega
          exact (Or.inr ⟨hr_70, bk2_2 (RgO.ps h_lt pf_9 h_w) hn_68 hn_69⟩)
        exact retI (v := 0) hx hb hr hlk (rfl) hP hD hS (sv_48, sv_49, sv_50, sv_51) ⟨_, rfl, hp_66, ha_65, (fun h => absurd h (by decide)), hm_67⟩ [0, 1, 2] rfl rfl dX12_isBuyerHere_72 (Nat.le_of_ble_eq_true rfl) (Nat.le_of_ble_eq_true rfl) rfl
      · skip
        have hz_72 : (r_54 : Int32).toInt = 1 := by
          have z_1 : ¬ (x_1 : Int32).toInt = (6 : Int32).toInt := fun z => c_2 (Int32.toInt_inj.mp z)
          have z_2 : ¬ (r_23 : Int32).toInt = (0 : Int32).toInt := fun z => c_31 (Int32.toInt_inj.mp z)
          have z_3 : ¬ (r_54 : Int32).toInt = (0 : Int32).toInt := fun z => c_62 (Int32.toInt_inj.mp z)
          have y_0 : (0 : Int32).toInt = 0 := by decide
          have y_6 : (6 : Int32).toInt = 6 := by decide
          have y_56 : (56 : Int32).toInt = 56 := by decide
          have y_68 : (68 : Int32).toInt = 68 := by decide
          have t_x_11 : x_11.toInt = (68 : Int32).toInt + (x_10 : Int32).toInt := by rw [ex_11]; exact add_toInt (by omega) (by omega)
          have t_x_41 : x_41.toInt = (56 : Int32).toInt + (x_10 : Int32).toInt := by rw [ex_41]; exact add_toInt (by omega) (by omega)
          omega
        obtain pf_71 := hm_57 hz_72
        have pf_71 : NmO (rB (Mf 1) (Mv 0)) (1 : Int32).toInt (9 : Int32).toInt sv_17 (sv_51 x_41.toNatClampNeg) sv_48 sv_49 := pf_71
        have ar_pf_71 := pf_71.2.2
        refine lv_aload_n hx hb dX12_isBuyerHere_57 rfl (lv_at hl 1 rfl) ?_
        refine lv_bipush (v := 62) hx hb dX12_isBuyerHere_58 (by decide) ?_
        refine lv_iload_n hx hb dX12_isBuyerHere_60 rfl (lv_at hl 0 rfl) ?_
        refine lv_iadd hx hb dX12_isBuyerHere_61 ?_
        refine lv_topi (fun x_73 ex_73 => ?_)
        refine lv_iconst (v := 0) hx hb dX12_isBuyerHere_62 (by decide) ?_
        refine lv_bipush (v := 9) hx hb dX12_isBuyerHere_63 (by decide) ?_
        have ha_74 : 0 ≤ (sv_48 : Int32).toInt ∧ (sv_48 : Int32).toInt ≤ ((Mv 0) : Int32).toInt ∧ ((Mv 0) : Int32).toInt ≤ 400 := by
          have z_1 : ¬ (x_1 : Int32).toInt = (6 : Int32).toInt := fun z => c_2 (Int32.toInt_inj.mp z)
          have z_2 : ¬ (r_23 : Int32).toInt = (0 : Int32).toInt := fun z => c_31 (Int32.toInt_inj.mp z)
          have z_3 : ¬ (r_54 : Int32).toInt = (0 : Int32).toInt := fun z => c_62 (Int32.toInt_inj.mp z)
          have y_0 : (0 : Int32).toInt = 0 := by decide
          have y_6 : (6 : Int32).toInt = 6 := by decide
          have y_56 : (56 : Int32).toInt = 56 := by decide
          have y_62 : (62 : Int32).toInt = 62 := by decide
          have y_68 : (68 : Int32).toInt = 68 := by decide
          have t_x_11 : x_11.toInt = (68 : Int32).toInt + (x_10 : Int32).toInt := by rw [ex_11]; exact add_toInt (by omega) (by omega)
          have t_x_41 : x_41.toInt = (56 : Int32).toInt + (x_10 : Int32).toInt := by rw [ex_41]; exact add_toInt (by omega) (by omega)
          have t_x_73 : x_73.toInt = (62 : Int32).toInt + (x_10 : Int32).toInt := by rw [ex_73]; exact add_toInt (by omega) (by omega)
          omega
        have ha_75 : 0 ≤ x_73.toInt ∧ x_73.toInt < 95 := by
          have z_1 : ¬ (x_1 : Int32).toInt = (6 : Int32).toInt := fun z => c_2 (Int32.toInt_inj.mp z)
          have z_2 : ¬ (r_23 : Int32).toInt = (0 : Int32).toInt := fun z => c_31 (Int32.toInt_inj.mp z)
          have z_3 : ¬ (r_54 : Int32).toInt = (0 : Int32).toInt := fun z => c_62 (Int32.toInt_inj.mp z)
          have y_0 : (0 : Int32).toInt = 0 := by decide
          have y_6 : (6 : Int32).toInt = 6 := by decide
          have y_56 : (56 : Int32).toInt = 56 := by decide
          have y_62 : (62 : Int32).toInt = 62 := by decide
          have y_68 : (68 : Int32).toInt = 68 := by decide
          have t_x_11 : x_11.toInt = (68 : Int32).toInt + (x_10 : Int32).toInt := by rw [ex_11]; exact add_toInt (by omega) (by omega)
          have t_x_41 : x_41.toInt = (56 : Int32).toInt + (x_10 : Int32).toInt := by rw [ex_41]; exact add_toInt (by omega) (by omega)
          have t_x_73 : x_73.toInt = (62 : Int32).toInt + (x_10 : Int32).toInt := by rw [ex_73]; exact add_toInt (by omega) (by omega)
          omega
        have ha_76 : (sv_49 : Int32).toInt = 0 := by
          have z_1 : ¬ (x_1 : Int32).toInt = (6 : Int32).toInt := fun z => c_2 (Int32.toInt_inj.mp z)
          have z_2 : ¬ (r_23 : Int32).toInt = (0 : Int32).toInt := fun z => c_31 (Int32.toInt_inj.mp z)
          have z_3 : ¬ (r_54 : Int32).toInt = (0 : Int32).toInt := fun z => c_62 (Int32.toInt_inj.mp z)
          have y_0 : (0 : Int32).toInt = 0 := by decide
          have y_6 : (6 : Int32).toInt = 6 := by decide
          have y_56 : (56 : Int32).toInt = 56 := by decide
          have y_62 : (62 : Int32).toInt = 62 := by decide
          have y_68 : (68 : Int32).toInt = 68 := by decide
          have t_x_11 : x_11.toInt = (68 : Int32).toInt + (x_10 : Int32).toInt := by rw [ex_11]; exact add_toInt (by omega) (by omega)
          have t_x_41 : x_41.toInt = (56 : Int32).toInt + (x_10 : Int32).toInt := by rw [ex_41]; exact add_toInt (by omega) (by omega)
          have t_x_73 : x_73.toInt = (62 : Int32).toInt + (x_10 : Int32).toInt := by rw [ex_73]; exact add_toInt (by omega) (by omega)
          omega
        refine cV (a := (Ma 0)) (As := [.int x_73, .int 0, .int 9]) (rest := []) (wr := []) ⟨hx, hb, hml, hown, hts⟩ hK hX hA (cu_fX12_cellHere l D tc sk (Ma 0) (Ma 1) (Ma 2) (Ma 3) (Ma 4) (Ma 5) (Ma 6) (Ma 7) (Ma 8) (Ma 9) (Ma 10) (Ma 11) (Ma 12) (Ma 13) (Ma 14) (Ma 15) (Ma 16) (Ma 17) (Ma 18) (Ma 19) (Ma 20) (Mv 0) (Mv 1) sv_48 sv_49 sv_50 (Mv 5) (Mv 6) (Mv 7) (Mv 8) (Mv 9) (Mv 10) (Mv 11) (Mv 12) (Mv 13) (Mv 14) (Mf 1) sv_51 (Mj 0) x_73 0 9 ha_74 ha_75 h_bs ha_76) k_1248 k_1245 k_1247 k_35 k_106 pl_X12_cellHere ⟨Nat.le_of_ble_eq_true rfl, Nat.le_of_ble_eq_true rfl⟩ rfl rfl (va_recv hK hP (ci := 12) (q0 := 0) rfl rfl) hP hD hS [0, 1, 2] [] rfl rfl rfl rfl rfl (by decide) rfl hl.1 rfl (Nat.le_of_ble_eq_true rfl) dX12_isBuyerHere_65 ⟨Nat.le_of_ble_eq_true rfl, Nat.le_of_ble_eq_true rfl⟩ (fun v_77 u_78 H locs hv_79 hP₀ hD₀ hS₀ => ?_)
        obtain ⟨sv_80, sv_81, sv_82, sv_83⟩ := u_78
        obtain ⟨r_86, rfl, he_87, pf_84, pf_85, hm_89, hm_90⟩ := hv_79
        have he_87 : ((r_86.toInt = 0 ∧ ¬ (sv_81 : Int32).toInt = 0) ∨ (r_86.toInt = 1 ∧ (0 : Int32).toInt ≤ (sv_83 x_73.toNatClampNeg).toInt ∧ (sv_83 x_73.toNatClampNeg).toInt ≤ (9 : Int32).toInt ∧ (sv_81 : Int32).toInt = 0)) := he_87
        have yl_he_87_0 : (0 : Int32).toInt = 0 := by decide
        have yl_he_87_9 : (9 : Int32).toInt = 9 := by decide
        have pf_84 : (sv_48 : Int32).toInt ≤ (sv_80 : Int32).toInt ∧ (sv_80 : Int32).toInt ≤ ((Mv 0) : Int32).toInt := pf_84
        have pf_85 : RdC sv_51 sv_83 x_73 := pf_85
        have hr_91 : 4 ≤ (x_73 : Int32).toInt := by
          have z_1 : ¬ (x_1 : Int32).toInt = (6 : Int32).toInt := fun z => c_2 (Int32.toInt_inj.mp z)
          have z_2 : ¬ (r_23 : Int32).toInt = (0 : Int32).toInt := fun z => c_31 (Int32.toInt_inj.mp z)
          have z_3 : ¬ (r_54 : Int32).toInt = (0 : Int32).toInt := fun z => c_62 (Int32.toInt_inj.mp z)
          have y_0 : (0 : Int32).toInt = 0 := by decide
          have y_6 : (6 : Int32).toInt = 6 := by decide
          have y_56 : (56 : Int32).toInt = 56 := by decide
          have y_62 : (62 : Int32).toInt = 62 := by decide
          have y_68 : (68 : Int32).toInt = 68 := by decide
          have t_x_11 : x_11.toInt = (68 : Int32).toInt + (x_10 : Int32).toInt := by rw [ex_11]; exact add_toInt (by omega) (by omega)
          have t_x_41 : x_41.toInt = (56 : Int32).toInt + (x_10 : Int32).toInt := by rw [ex_41]; exact add_toInt (by omega) (by omega)
          have t_x_73 : x_73.toInt = (62 : Int32).toInt + (x_10 : Int32).toInt := by rw [ex_73]; exact add_toInt (by omega) (by omega)
          omega
        have kq_pf_85_0 := RdC.at pf_85 0 (by omega) (by omega)
        have hr_92 : 4 ≤ (x_73 : Int32).toInt := by
          have z_1 : ¬ (x_1 : Int32).toInt = (6 : Int32).toInt := fun z => c_2 (Int32.toInt_inj.mp z)
          have z_2 : ¬ (r_23 : Int32).toInt = (0 : Int32).toInt := fun z => c_31 (Int32.toInt_inj.mp z)
          have z_3 : ¬ (r_54 : Int32).toInt = (0 : Int32).toInt := fun z => c_62 (Int32.toInt_inj.mp z)
          have y_0 : (0 : Int32).toInt = 0 := by decide
          have y_6 : (6 : Int32).toInt = 6 := by decide
          have y_56 : (56 : Int32).toInt = 56 := by decide
          have y_62 : (62 : Int32).toInt = 62 := by decide
          have y_68 : (68 : Int32).toInt = 68 := by decide
          have t_x_11 : x_11.toInt = (68 : Int32).toInt + (x_10 : Int32).toInt := by rw [ex_11]; exact add_toInt (by omega) (by omega)
          have t_x_41 : x_41.toInt = (56 : Int32).toInt + (x_10 : Int32).toInt := by rw [ex_41]; exact add_toInt (by omega) (by omega)
          have t_x_73 : x_73.toInt = (62 : Int32).toInt + (x_10 : Int32).toInt := by rw [ex_73]; exact add_toInt (by omega) (by omega)
          omega
        have kq_pf_85_2 := RdC.at pf_85 2 (by omega) (by omega)
        have hr_93 : 4 ≤ (x_73 : Int32).toInt := by
          have z_1 : ¬ (x_1 : Int32).toInt = (6 : Int32).toInt := fun z => c_2 (Int32.toInt_inj.mp z)
          have z_2 : ¬ (r_23 : Int32).toInt = (0 : Int32).toInt := fun z => c_31 (Int32.toInt_inj.mp z)
          have z_3 : ¬ (r_54 : Int32).toInt = (0 : Int32).toInt := fun z => c_62 (Int32.toInt_inj.mp z)
          have y_0 : (0 : Int32).toInt = 0 := by decide
          have y_6 : (6 : Int32).toInt = 6 := by decide
          have y_56 : (56 : Int32).toInt = 56 := by decide
          have y_62 : (62 : Int32).toInt = 62 := by decide
          have y_68 : (68 : Int32).toInt = 68 := by decide
          have t_x_11 : x_11.toInt = (68 : Int32).toInt + (x_10 : Int32).toInt := by rw [ex_11]; exact add_toInt (by omega) (by omega)
          have t_x_41 : x_41.toInt = (56 : Int32).toInt + (x_10 : Int32).toInt := by rw [ex_41]; exact add_toInt (by omega) (by omega)
          have t_x_73 : x_73.toInt = (62 : Int32).toInt + (x_10 : Int32).toInt := by rw [ex_73]; exact add_toInt (by omega) (by omega)
          omega
        have kq_pf_85_3 := RdC.at pf_85 3 (by omega) (by omega)
        refine W.eq (g2 := F0 m 68 ls [.int r_86]) rfl ?_
        replace hP : va_P D classes [((Ma 0), .inr (12, [.ref (Ma 1), .int (Mv 0), .int (Mv 1), .ref (Ma 2), .ref (Ma 3), .ref (Ma 4), .ref (Ma 5), .ref (Ma 6), .int sv_80, .int sv_81, .int sv_82, .int (Mv 5), .int (Mv 6), .int (Mv 7), .int (Mv 8), .ref (Ma 7), .int (Mv 9), .ref (Ma 8), .int (Mv 10), .ref (Ma 9), .ref (Ma 10), .int (Mv 11), .int (Mv 12), .int (Mv 13), .ref (Ma 11), .int (Mv 14), .ref (Ma 12), .ref (Ma 13), .ref (Ma 14), .ref (Ma 15), .ref (Ma 16), .long (Mj 0), .ref (Ma 17), .ref (Ma 18), .ref (Ma 19), .ref (Ma 20)])), ((Ma 1), .inl (tc 2, 400, .inl (Mf 1))), ((Ma 6), .inl (tc 0, 95, .inl sv_83))] H := hP₀
        replace hD : va_D A [((Ma 0), .inr (12, [.ref (Ma 1), .int (Mv 0), .int (Mv 1), .ref (Ma 2), .ref (Ma 3), .ref (Ma 4), .ref (Ma 5), .ref (Ma 6), .int sv_80, .int sv_81, .int sv_82, .int (Mv 5), .int (Mv 6), .int (Mv 7), .int (Mv 8), .ref (Ma 7), .int (Mv 9), .ref (Ma 8), .int (Mv 10), .ref (Ma 9), .ref (Ma 10), .int (Mv 11), .int (Mv 12), .int (Mv 13), .ref (Ma 11), .int (Mv 14), .ref (Ma 12), .ref (Ma 13), .ref (Ma 14), .ref (Ma 15), .ref (Ma 16), .long (Mj 0), .ref (Ma 17), .ref (Ma 18), .ref (Ma 19), .ref (Ma 20)])), ((Ma 1), .inl (tc 2, 400, .inl (Mf 1))), ((Ma 6), .inl (tc 0, 95, .inl sv_83))] := hD₀
        replace hS := hS₀
        clear hP₀ hD₀ hS₀
        refine lv_if_ne (tgt := 73) hx hb dX12_isBuyerHere_68 (by decide) (fun c_94 => ?_) (fun c_94 => ?_)
        · skip
          have hz_96 : (r_86 : Int32).toInt = 1 := by
            have z_1 : ¬ (x_1 : Int32).toInt = (6 : Int32).toInt := fun z => c_2 (Int32.toInt_inj.mp z)
            have z_2 : ¬ (r_23 : Int32).toInt = (0 : Int32).toInt := fun z => c_31 (Int32.toInt_inj.mp z)
            have z_3 : ¬ (r_54 : Int32).toInt = (0 : Int32).toInt := fun z => c_62 (Int32.toInt_inj.mp z)
            have z_4 : ¬ (r_86 : Int32).toInt = (0 : Int32).toInt := fun z => c_94 (Int32.toInt_inj.mp z)
            have y_0 : (0 : Int32).toInt = 0 := by decide
            have y_6 : (6 : Int32).toInt = 6 := by decide
            have y_56 : (56 : Int32).toInt = 56 := by decide
            have y_62 : (62 : Int32).toInt = 62 := by decide
            have y_68 : (68 : Int32).toInt = 68 := by decide
            have t_x_11 : x_11.toInt = (68 : Int32).toInt + (x_10 : Int32).toInt := by rw [ex_11]; exact add_toInt (by omega) (by omega)
            have t_x_41 : x_41.toInt = (56 : Int32).toInt + (x_10 : Int32).toInt := by rw [ex_41]; exact add_toInt (by omega) (by omega)
            have t_x_73 : x_73.toInt = (62 : Int32).toInt + (x_10 : Int32).toInt := by rw [ex_73]; exact add_toInt (by omega) (by omega)
            omega
          obtain pf_95 := hm_89 hz_96
          have pf_95 : NmO (rB (Mf 1) (Mv 0)) (0 : Int32).toInt (9 : Int32).toInt sv_48 (sv_83 x_73.toNatClampNeg) sv_80 sv_81 := pf_95
          have ar_pf_95 := pf_95.2.2
          refine lv_aload_n hx hb dX12_isBuyerHere_73 rfl (lv_at hl 1 rfl) ?_
          refine gf_X12_26 hx hb hts hown hK hP 0 rfl rfl dX12_isBuyerHere_74 ?_
          refine lv_iconst (v := 3) hx hb dX12_isBuyerHere_77 (by decide) ?_
          refine lv_dup2_11 hx hb dX12_isBuyerHere_78 rfl rfl ?_
          refine va_iald hx hb hK hP 2 0 rfl rfl (vin_dec (by decide +kernel)) dX12_isBuyerHere_79 ?_
          refine lv_topi (fun x_97 ex_97 => ?_)
          have lx_97 : x_97.toInt = (sv_83 3).toInt := congrArg Int32.toInt ex_97
          refine lv_iconst (v := 1) hx hb dX12_isBuyerHere_80 (by decide) ?_
          refine lv_iadd hx hb dX12_isBuyerHere_81 ?_
          refine lv_topi (fun x_98 ex_98 => ?_)
          refine st_int hx hb hK hP hD hS 2 0 rfl rfl (vin_dec (by decide +kernel)) dX12_isBuyerHere_82 (fun g_99 H locs eg_99 hP₀ hD₀ hS₀ => ?_)
          replace hP : va_P D classes [((Ma 0), .inr (12, [.ref (Ma 1), .int (Mv 0), .int (Mv 1), .ref (Ma 2), .ref (Ma 3), .ref (Ma 4), .ref (Ma 5), .ref (Ma 6), .int sv_80, .int sv_81, .int sv_82, .int (Mv 5), .int (Mv 6), .int (Mv 7), .int (Mv 8), .ref (Ma 7), .int (Mv 9), .ref (Ma 8), .int (Mv 10), .ref (Ma 9), .ref (Ma 10), .int (Mv 11), .int (Mv 12), .int (Mv 13), .ref (Ma 11), .int (Mv 14), .ref (Ma 12), .ref (Ma 13), .ref (Ma 14), .ref (Ma 15), .ref (Ma 16), .long (Mj 0), .ref (Ma 17), .ref (Ma 18), .ref (Ma 19), .ref (Ma 20)])), ((Ma 1), .inl (tc 2, 400, .inl (Mf 1))), ((Ma 6), .inl (tc 0, 95, .inl g_99))] H := hP₀
          replace hD : va_D A [((Ma 0), .inr (12, [.ref (Ma 1), .int (Mv 0), .int (Mv 1), .ref (Ma 2), .ref (Ma 3), .ref (Ma 4), .ref (Ma 5), .ref (Ma 6), .int sv_80, .int sv_81, .int sv_82, .int (Mv 5), .int (Mv 6), .int (Mv 7), .int (Mv 8), .ref (Ma 7), .int (Mv 9), .ref (Ma 8), .int (Mv 10), .ref (Ma 9), .ref (Ma 10), .int (Mv 11), .int (Mv 12), .int (Mv 13), .ref (Ma 11), .int (Mv 14), .ref (Ma 12), .ref (Ma 13), .ref (Ma 14), .ref (Ma 15), .ref (Ma 16), .long (Mj 0), .ref (Ma 17), .ref (Ma 18), .ref (Ma 19), .ref (Ma 20)])), ((Ma 1), .inl (tc 2, 400, .inl (Mf 1))), ((Ma 6), .inl (tc 0, 95, .inl g_99))] := hD₀
          replace hS := hS₀
          clear hP₀ hD₀ hS₀
          have ku_g_99_0 : (g_99 0).toInt = (sv_83 0).toInt := upd_toInt_ne (i := 3) eg_99 (by decide)
          have ku_g_99_2 : (g_99 2).toInt = (sv_83 2).toInt := upd_toInt_ne (i := 3) eg_99 (by decide)
          have ku_g_99_3 : (g_99 3).toInt = (x_98 : Int32).toInt := upd_toInt_at (i := 3) eg_99
          have z_1 : ¬ (x_1 : Int32).toInt = (6 : Int32).toInt := fun z => c_2 (Int32.toInt_inj.mp z)
          have z_2 : ¬ (r_23 : Int32).toInt = (0 : Int32).toInt := fun z => c_31 (Int32.toInt_inj.mp z)
          have z_3 : ¬ (r_54 : Int32).toInt = (0 : Int32).toInt := fun z => c_62 (Int32.toInt_inj.mp z)
          have z_4 : ¬ (r_86 : Int32).toInt = (0 : Int32).toInt := fun z => c_94 (Int32.toInt_inj.mp z)
          have y_0 : (0 : Int32).toInt = 0 := by decide
          have y_6 : (6 : Int32).toInt = 6 := by decide
          have y_1 : (1 : Int32).toInt = 1 := by decide
          have y_56 : (56 : Int32).toInt = 56 := by decide
          have y_62 : (62 : Int32).toInt = 62 := by decide
          have y_68 : (68 : Int32).toInt = 68 := by decide
          have t_x_11 : x_11.toInt = (68 : Int32).toInt + (x_10 : Int32).toInt := by rw [ex_11]; exact add_toInt (by omega) (by omega)
          have t_x_41 : x_41.toInt = (56 : Int32).toInt + (x_10 : Int32).toInt := by rw [ex_41]; exact add_toInt (by omega) (by omega)
          have t_x_73 : x_73.toInt = (62 : Int32).toInt + (x_10 : Int32).toInt := by rw [ex_73]; exact add_toInt (by omega) (by omega)
          have t_x_98 : x_98.toInt = (x_97 : Int32).toInt + (1 : Int32).toInt := by rw [ex_98]; exact add_toInt (by omega) (by omega)
          refine lv_iconst (v := 1) hx hb dX12_isBuyerHere_83 (by decide) ?_
          have ha_100 : ((Mv 2) : Int32).toInt ≤ (sv_80 : Int32).toInt ∧ (sv_80 : Int32).toInt ≤ ((Mv 0) : Int32).toInt := by
            have z_1 : ¬ (x_1 : Int32).toInt = (6 : Int32).toInt := fun z => c_2 (Int32.toInt_inj.mp z)
            have z_2 : ¬ (r_23 : Int32).toInt = (0 : Int32).toInt := fun z => c_31 (Int32.toInt_inj.mp z)
            have z_3 : ¬ (r_54 : Int32).toInt = (0 : Int32).toInt := fun z => c_62 (Int32.toInt_inj.mp z)
            have z_4 : ¬ (r_86 : Int32).toInt = (0 : Int32).toInt := fun z => c_94 (Int32.toInt_inj.mp z)
            have y_0 : (0 : Int32).toInt = 0 := by decide
            have y_6 : (6 : Int32).toInt = 6 := by decide
            have y_56 : (56 : Int32).toInt = 56 := by decide
            have y_62 : (62 : Int32).toInt = 62 := by decide
            have y_68 : (68 : Int32).toInt = 68 := by decide
            have t_x_11 : x_11.toInt = (68 : Int32).toInt + (x_10 : Int32).toInt := by rw [ex_11]; exact add_toInt (by omega) (by omega)
            have t_x_41 : x_41.toInt = (56 : Int32).toInt + (x_10 : Int32).toInt := by rw [ex_41]; exact add_toInt (by omega) (by omega)
            have t_x_73 : x_73.toInt = (62 : Int32).toInt + (x_10 : Int32).toInt := by rw [ex_73]; exact add_toInt (by omega) (by omega)
            omega
          have hp_101 : (((1 : Int32).toInt = 0 ∧ ¬ (sv_81 : Int32).toInt = 0) ∨ ((1 : Int32).toInt = 1 ∧ (g_99 2).toInt = ((Mf 6) 2).toInt ∧ (g_99 3).toInt = ((Mf 6) 3).toInt + 1 ∧ (g_99 0).toInt = ((Mf 6) 0).toInt ∧ ((Mf 6) 3).toInt < 6 ∧ (sv_81 : Int32).toInt = 0)) := by
            have z_1 : ¬ (x_1 : Int32).toInt = (6 : Int32).toInt := fun z => c_2 (Int32.toInt_inj.mp z)
            have z_2 : ¬ (r_23 : Int32).toInt = (0 : Int32).toInt := fun z => c_31 (Int32.toInt_inj.mp z)
            have z_3 : ¬ (r_54 : Int32).toInt = (0 : Int32).toInt := fun z => c_62 (Int32.toInt_inj.mp z)
            have z_4 : ¬ (r_86 : Int32).toInt = (0 : Int32).toInt := fun z => c_94 (Int32.toInt_inj.mp z)
            have y_0 : (0 : Int32).toInt = 0 := by decide
            have y_6 : (6 : Int32).toInt = 6 := by decide
            have y_1 : (1 : Int32).toInt = 1 := by decide
            have y_56 : (56 : Int32).toInt = 56 := by decide
            have y_62 : (62 : Int32).toInt = 62 := by decide
            have y_68 : (68 : Int32).toInt = 68 := by decide
            have t_x_11 : x_11.toInt = (68 : Int32).toInt + (x_10 : Int32).toInt := by rw [ex_11]; exact add_toInt (by omega) (by omega)
            have t_x_41 : x_41.toInt = (56 : Int32).toInt + (x_10 : Int32).toInt := by rw [ex_41]; exact add_toInt (by omega) (by omega)
            have t_x_73 : x_73.toInt = (62 : Int32).toInt + (x_10 : Int32).toInt := by rw [ex_73]; exact add_toInt (by omega) (by omega)
            have yr : (1 : Int32).toInt = 1 := by decide
            omega
          have hm_102 : (1 : Int32).toInt = 1 → (RdO g_99) ∧ (QfO (qz_k2 (rB (Mf 1) (Mv 0)) C (pNX (rB (Mf 1) (Mv 0)) (Mv 2))) (rB (Mf 1) (Mv 0)) sv_81 sv_80 g_99) := by
            intro h1r
            have ha_103 : RdO g_99 := RdO.of (by
              have z_1 : ¬ (x_1 : Int32).toInt = (6 : Int32).toInt := fun z => c_2 (Int32.toInt_inj.mp z)
              have z_2 : ¬ (r_23 : Int32).toInt = (0 : Int32).toInt := fun z => c_31 (Int32.toInt_inj.mp z)
              have z_3 : ¬ (r_54 : Int32).toInt = (0 : Int32).toInt := fun z => c_62 (Int32.toInt_inj.mp z)
              have z_4 : ¬ (r_86 : Int32).toInt = (0 : Int32).toInt := fun z => c_94 (Int32.toInt_inj.mp z)
              have y_0 : (0 : Int32).toInt = 0 := by decide
              have y_6 : (6 : Int32).toInt = 6 := by decide
              have y_56 : (56 : Int32).toInt = 56 := by decide
              have y_62 : (62 : Int32).toInt = 62 := by decide
              have y_68 : (68 : Int32).toInt = 68 := by decide
              have t_x_11 : x_11.toInt = (68 : Int32).toInt + (x_10 : Int32).toInt := by rw [ex_11]; exact add_toInt (by omega) (by omega)
              have t_x_41 : x_41.toInt = (56 : Int32).toInt + (x_10 : Int32).toInt := by rw [ex_41]; exact add_toInt (by omega) (by omega)
              have t_x_73 : x_73.toInt = (62 : Int32).toInt + (x_10 : Int32).toInt := by rw [ex_73]; exact add_toInt (by omega) (by omega)
              omega)
            have hn_104 : NmO (rB (Mf 1) (Mv 0)) 0 20 sv_6 (sv_20 x_11.toNatClampNeg) sv_17 sv_18 := by
              have hq := pf_39
              rw [show (0 : Int32).toInt = 0 by decide, show (20 : Int32).toInt = 20 by decide] at hq
              exact hq
            have hn_105 : NmO (rB (Mf 1) (Mv 0)) 1 9 sv_17 (sv_51 x_41.toNatClampNeg) sv_48 sv_49 := by
              have hq := pf_71
              rw [show (1 : Int32).toInt = 1 by decide, show (9 : Int32).toInt = 9 by decide] at hq
              exact hq
            have hn_106 : NmO (rB (Mf 1) (Mv 0)) 0 9 sv_48 (sv_83 x_73.toNatClampNeg) sv_80 sv_81 := by
              have hq := pf_95
              rw [show (0 : Int32).toInt = 0 by decide, show (9 : Int32).toInt = 9 by decide] at hq
              exact hq
            have hi_107 : (x_11 : Int32).toInt = 68 + ((Mf 6) 3).toInt := by
              have z_1 : ¬ (x_1 : Int32).toInt = (6 : Int32).toInt := fun z => c_2 (Int32.toInt_inj.mp z)
              have z_2 : ¬ (r_23 : Int32).toInt = (0 : Int32).toInt := fun z => c_31 (Int32.toInt_inj.mp z)
              have z_3 : ¬ (r_54 : Int32).toInt = (0 : Int32).toInt := fun z => c_62 (Int32.toInt_inj.mp z)
              have z_4 : ¬ (r_86 : Int32).toInt = (0 : Int32).toInt := fun z => c_94 (Int32.toInt_inj.mp z)
              have y_0 : (0 : Int32).toInt = 0 := by decide
              have y_6 : (6 : Int32).toInt = 6 := by decide
              have y_56 : (56 : Int32).toInt = 56 := by decide
              have y_62 : (62 : Int32).toInt = 62 := by decide
              have y_68 : (68 : Int32).toInt = 68 := by decide
              have t_x_11 : x_11.toInt = (68 : Int32).toInt + (x_10 : Int32).toInt := by rw [ex_11]; exact add_toInt (by omega) (by omega)
              have t_x_41 : x_41.toInt = (56 : Int32).toInt + (x_10 : Int32).toInt := by rw [ex_41]; exact add_toInt (by omega) (by omega)
              have t_x_73 : x_73.toInt = (62 : Int32).toInt + (x_10 : Int32).toInt := by rw [ex_73]; exact add_toInt (by omega) (by omega)
              omega
            have hi_108 : (x_41 : Int32).toInt = 56 + ((Mf 6) 3).toInt := by
              have z_1 : ¬ (x_1 : Int32).toInt = (6 : Int32).toInt := fun z => c_2 (Int32.toInt_inj.mp z)
              have z_2 : ¬ (r_23 : Int32).toInt = (0 : Int32).toInt := fun z => c_31 (Int32.toInt_inj.mp z)
              have z_3 : ¬ (r_54 : Int32).toInt = (0 : Int32).toInt := fun z => c_62 (Int32.toInt_inj.mp z)
              have z_4 : ¬ (r_86 : Int32).toInt = (0 : Int32).toInt := fun z => c_94 (Int32.toInt_inj.mp z)
              have y_0 : (0 : Int32).toInt = 0 := by decide
              have y_6 : (6 : Int32).toInt = 6 := by decide
              have y_56 : (56 : Int32).toInt = 56 := by decide
              have y_62 : (62 : Int32).toInt = 62 := by decide
              have y_68 : (68 : Int32).toInt = 68 := by decide
              have t_x_11 : x_11.toInt = (68 : Int32).toInt + (x_10 : Int32).toInt := by rw [ex_11]; exact add_toInt (by omega) (by omega)
              have t_x_41 : x_41.toInt = (56 : Int32).toInt + (x_10 : Int32).toInt := by rw [ex_41]; exact add_toInt (by omega) (by omega)
              have t_x_73 : x_73.toInt = (62 : Int32).toInt + (x_10 : Int32).toInt := by rw [ex_73]; exact add_toInt (by omega) (by omega)
              omega
            have hi_109 : (x_73 : Int32).toInt = 62 + ((Mf 6) 3).toInt := by
              have z_1 : ¬ (x_1 : Int32).toInt = (6 : Int32).toInt := fun z => c_2 (Int32.toInt_inj.mp z)
              have z_2 : ¬ (r_23 : Int32).toInt = (0 : Int32).toInt := fun z => c_31 (Int32.toInt_inj.mp z)
              have z_3 : ¬ (r_54 : Int32).toInt = (0 : Int32).toInt := fun z => c_62 (Int32.toInt_inj.mp z)
              have z_4 : ¬ (r_86 : Int32).toInt = (0 : Int32).toInt := fun z => c_94 (Int32.toInt_inj.mp z)
              have y_0 : (0 : Int32).toInt = 0 := by decide
              have y_6 : (6 : Int32).toInt = 6 := by decide
              have y_56 : (56 : Int32).toInt = 56 := by decide
              have y_62 : (62 : Int32).toInt = 62 := by decide
              have y_68 : (68 : Int32).toInt = 68 := by decide
              have t_x_11 : x_11.toInt = (68 : Int32).toInt + (x_10 : Int32).toInt := by rw [ex_11]; exact add_toInt (by omega) (by omega)
              have t_x_41 : x_41.toInt = (56 : Int32).toInt + (x_10 : Int32).toInt := by rw [ex_41]; exact add_toInt (by omega) (by omega)
              have t_x_73 : x_73.toInt = (62 : Int32).toInt + (x_10 : Int32).toInt := by rw [ex_73]; exact add_toInt (by omega) (by omega)
              omega
            have hr_111 : 0 ≤ ((Mf 6) 3).toInt := by
              have z_1 : ¬ (x_1 : Int32).toInt = (6 : Int32).toInt := fun z => c_2 (Int32.toInt_inj.mp z)
              have z_2 : ¬ (r_23 : Int32).toInt = (0 : Int32).toInt := fun z => c_31 (Int32.toInt_inj.mp z)
              have z_3 : ¬ (r_54 : Int32).toInt = (0 : Int32).toInt := fun z => c_62 (Int32.toInt_inj.mp z)
              have z_4 : ¬ (r_86 : Int32).toInt = (0 : Int32).toInt := fun z => c_94 (Int32.toInt_inj.mp z)
              have y_0 : (0 : Int32).toInt = 0 := by decide
              have y_6 : (6 : Int32).toInt = 6 := by decide
              have y_56 : (56 : Int32).toInt = 56 := by decide
              have y_62 : (62 : Int32).toInt = 62 := by decide
              have y_68 : (68 : Int32).toInt = 68 := by decide
              have t_x_11 : x_11.toInt = (68 : Int32).toInt + (x_10 : Int32).toInt := by rw [ex_11]; exact add_toInt (by omega) (by omega)
              have t_x_41 : x_41.toInt = (56 : Int32).toInt + (x_10 : Int32).toInt := by rw [ex_41]; exact add_toInt (by omega) (by omega)
              have t_x_73 : x_73.toInt = (62 : Int32).toInt + (x_10 : Int32).toInt := by rw [ex_73]; exact add_toInt (by omega) (by omega)
              omega
            have hi_112 : (x_98 : Int32).toInt = ((Mf 6) 3).toInt + 1 := by
              have z_1 : ¬ (x_1 : Int32).toInt = (6 : Int32).toInt := fun z => c_2 (Int32.toInt_inj.mp z)
              have z_2 : ¬ (r_23 : Int32).toInt = (0 : Int32).toInt := fun z => c_31 (Int32.toInt_inj.mp z)
              have z_3 : ¬ (r_54 : Int32).toInt = (0 : Int32).toInt := fun z => c_62 (Int32.toInt_inj.mp z)
              have z_4 : ¬ (r_86 : Int32).toInt = (0 : Int32).toInt := fun z => c_94 (Int32.toInt_inj.mp z)
              have y_0 : (0 : Int32).toInt = 0 := by decide
              have y_6 : (6 : Int32).toInt = 6 := by decide
              have y_1 : (1 : Int32).toInt = 1 := by decide
              have y_56 : (56 : Int32).toInt = 56 := by decide
              have y_62 : (62 : Int32).toInt = 62 := by decide
              have y_68 : (68 : Int32).toInt = 68 := by decide
              have t_x_11 : x_11.toInt = (68 : Int32).toInt + (x_10 : Int32).toInt := by rw [ex_11]; exact add_toInt (by omega) (by omega)
              have t_x_41 : x_41.toInt = (56 : Int32).toInt + (x_10 : Int32).toInt := by rw [ex_41]; exact add_toInt (by omega) (by omega)
              have t_x_73 : x_73.toInt = (62 : Int32).toInt + (x_10 : Int32).toInt := by rw [ex_73]; exact add_toInt (by omega) (by omega)
              have t_x_98 : x_98.toInt = (x_97 : Int32).toInt + (1 : Int32).toInt := by rw [ex_98]; exact add_toInt (by omega) (by omega)
              omega
            have hf_110 : QfO (qz_k2 (rB (Mf 1) (Mv 0)) C (pNX (rB (Mf 1) (Mv 0)) (Mv 2))) (rB (Mf 1) (Mv 0)) sv_81 sv_80 g_99 := bk2_ok (RgO.ps h_lt pf_9 h_w) hn_104 hn_105 hn_106 h_e pf_22 pf_53 pf_85 hr_111 hi_107 hi_108 hi_109 (j := 3) eg_99 (by decide) hi_112
            exact ⟨ha_103, hf_110⟩
          exact retI (v := 1) hx hb hr hlk (rfl) hP hD hS (sv_80, sv_81, sv_82, g_99) ⟨_, rfl, hp_101, ha_100, hm_102, (fun h => absurd h (by decide))⟩ [0, 1, 2] rfl rfl dX12_isBuyerHere_84 (Nat.le_of_ble_eq_true rfl) (Nat.le_of_ble_eq_true rfl) rfl
        · skip
          have hz_114 : (r_86 : Int32).toInt = 0 := by
            have z_1 : ¬ (x_1 : Int32).toInt = (6 : Int32).toInt := fun z => c_2 (Int32.toInt_inj.mp z)
            have z_2 : ¬ (r_23 : Int32).toInt = (0 : Int32).toInt := fun z => c_31 (Int32.toInt_inj.mp z)
            have z_3 : ¬ (r_54 : Int32).toInt = (0 : Int32).toInt := fun z => c_62 (Int32.toInt_inj.mp z)
            have z_4 := congrArg Int32.toInt c_94
            have y_0 : (0 : Int32).toInt = 0 := by decide
            have y_6 : (6 : Int32).toInt = 6 := by decide
            have y_56 : (56 : Int32).toInt = 56 := by decide
            have y_62 : (62 : Int32).toInt = 62 := by decide
            have y_68 : (68 : Int32).toInt = 68 := by decide
            have t_x_11 : x_11.toInt = (68 : Int32).toInt + (x_10 : Int32).toInt := by rw [ex_11]; exact add_toInt (by omega) (by omega)
            have t_x_41 : x_41.toInt = (56 : Int32).toInt + (x_10 : Int32).toInt := by rw [ex_41]; exact add_toInt (by omega) (by omega)
            have t_x_73 : x_73.toInt = (62 : Int32).toInt + (x_10 : Int32).toInt := by rw [ex_73]; exact add_toInt (by omega) (by omega)
            omega
          obtain pf_113 := hm_90 hz_114
          have pf_113 : NmE (rB (Mf 1) (Mv 0)) (0 : Int32).toInt (9 : Int32).toInt sv_48 sv_81 := pf_113
          refine lv_iconst (v := 0) hx hb dX12_isBuyerHere_71 (by decide) ?_
          have ha_115 : ((Mv 2) : Int32).toInt ≤ (sv_80 : Int32).toInt ∧ (sv_80 : Int32).toInt ≤ ((Mv 0) : Int32).toInt := by
            have z_1 : ¬ (x_1 : Int32).toInt = (6 : Int32).toInt := fun z => c_2 (Int32.toInt_inj.mp z)
            have z_2 : ¬ (r_23 : Int32).toInt = (0 : Int32).toInt := fun z => c_31 (Int32.toInt_inj.mp z)
            have z_3 : ¬ (r_54 : Int32).toInt = (0 : Int32).toInt := fun z => c_62 (Int32.toInt_inj.mp z)
            have z_4 := congrArg Int32.toInt c_94
            have y_0 : (0 : Int32).toInt = 0 := by decide
            have y_6 : (6 : Int32).toInt = 6 := by decide
            have y_56 : (56 : Int32).toInt = 56 := by decide
            have y_62 : (62 : Int32).toInt = 62 := by decide
            have y_68 : (68 : Int32).toInt = 68 := by decide
            have t_x_11 : x_11.toInt = (68 : Int32).toInt + (x_10 : Int32).toInt := by rw [ex_11]; exact add_toInt (by omega) (by omega)
            have t_x_41 : x_41.toInt = (56 : Int32).toInt + (x_10 : Int32).toInt := by rw [ex_41]; exact add_toInt (by omega) (by omega)
            have t_x_73 : x_73.toInt = (62 : Int32).toInt + (x_10 : Int32).toInt := by rw [ex_73]; exact add_toInt (by omega) (by omega)
            omega
          have hp_116 : (((0 : Int32).toInt = 0 ∧ ¬ (sv_81 : Int32).toInt = 0) ∨ ((0 : Int32).toInt = 1 ∧ (sv_83 2).toInt = ((Mf 6) 2).toInt ∧ (sv_83 3).toInt = ((Mf 6) 3).toInt + 1 ∧ (sv_83 0).toInt = ((Mf 6) 0).toInt ∧ ((Mf 6) 3).toInt < 6 ∧ (sv_81 : Int32).toInt = 0)) := by
            have z_1 : ¬ (x_1 : Int32).toInt = (6 : Int32).toInt := fun z => c_2 (Int32.toInt_inj.mp z)
            have z_2 : ¬ (r_23 : Int32).toInt = (0 : Int32).toInt := fun z => c_31 (Int32.toInt_inj.mp z)
            have z_3 : ¬ (r_54 : Int32).toInt = (0 : Int32).toInt := fun z => c_62 (Int32.toInt_inj.mp z)
            have z_4 := congrArg Int32.toInt c_94
            have y_0 : (0 : Int32).toInt = 0 := by decide
            have y_6 : (6 : Int32).toInt = 6 := by decide
            have y_56 : (56 : Int32).toInt = 56 := by decide
            have y_62 : (62 : Int32).toInt = 62 := by decide
            have y_68 : (68 : Int32).toInt = 68 := by decide
            have t_x_11 : x_11.toInt = (68 : Int32).toInt + (x_10 : Int32).toInt := by rw [ex_11]; exact add_toInt (by omega) (by omega)
            have t_x_41 : x_41.toInt = (56 : Int32).toInt + (x_10 : Int32).toInt := by rw [ex_41]; exact add_toInt (by omega) (by omega)
            have t_x_73 : x_73.toInt = (62 : Int32).toInt + (x_10 : Int32).toInt := by rw [ex_73]; exact add_toInt (by omega) (by omega)
            omega
          have hm_117 : (0 : Int32).toInt = 0 → (QyE (rB (Mf 1) (Mv 0)) C (Mv 2) ((Mf 6) 3) x1 sv_81) := by
            intro h1r
            have hn_118 : NmO (rB (Mf 1) (Mv 0)) 0 20 sv_6 (sv_20 x_11.toNatClampNeg) sv_17 sv_18 := by
              have hq := pf_39
              rw [show (0 : Int32).toInt = 0 by decide, show (20 : Int32).toInt = 20 by decide] at hq
              exact hq
            have hn_119 : NmO (rB (Mf 1) (Mv 0)) 1 9 sv_17 (sv_51 x_41.toNatClampNeg) sv_48 sv_49 := by
              have hq := pf_71
              rw [show (1 : Int32).toInt = 1 by decide, show (9 : Int32).toInt = 9 by decide] at hq
              exact hq
            have hn_120 : NmE (rB (Mf 1) (Mv 0)) 0 9 sv_48 sv_81 := by
              have hq := pf_113
              rw [show (0 : Int32).toInt = 0 by decide, show (9 : Int32).toInt = 9 by decide] at hq
              exact hq
            have hr_121 : ¬ ((Mf 6) 3).toInt = 6 := by
              have z_1 : ¬ (x_1 : Int32).toInt = (6 : Int32).toInt := fun z => c_2 (Int32.toInt_inj.mp z)
              have z_2 : ¬ (r_23 : Int32).toInt = (0 : Int32).toInt := fun z => c_31 (Int32.toInt_inj.mp z)
              have z_3 : ¬ (r_54 : Int32).toInt = (0 : Int32).toInt := fun z => c_62 (Int32.toInt_inj.mp z)
              have z_4 := congrArg Int32.toInt c_94
              have y_0 : (0 : Int32).toInt = 0 := by decide
              have y_6 : (6 : Int32).toInt = 6 := by decide
              have y_56 : (56 : Int32).toInt = 56 := by decide
              have y_62 : (62 : Int32).toInt = 62 := by decide
              have y_68 : (68 : Int32).toInt = 68 := by decide
              have t_x_11 : x_11.toInt = (68 : Int32).toInt + (x_10 : Int32).toInt := by rw [ex_11]; exact add_toInt (by omega) (by omega)
              have t_x_41 : x_41.toInt = (56 : Int32).toInt + (x_10 : Int32).toInt := by rw [ex_41]; exact add_toInt (by omega) (by omega)
              have t_x_73 : x_73.toInt = (62 : Int32).toInt + (x_10 : Int32).toInt := by rw [ex_73]; exact add_toInt (by omega) (by omega)
              omega
            exact (Or.inr ⟨hr_121, bk2_3 (RgO.ps h_lt pf_9 h_w) hn_118 hn_119 hn_120⟩)
          exact retI (v := 0) hx hb hr hlk (rfl) hP hD hS (sv_80, sv_81, sv_82, sv_83) ⟨_, rfl, hp_116, ha_115, (fun h => absurd h (by decide)), hm_117⟩ [0, 1, 2] rfl rfl dX12_isBuyerHere_72 (Nat.le_of_ble_eq_true rfl) (Nat.le_of_ble_eq_true rfl) rfl
  · skip
    refine lv_aload_n hx hb dX12_isBuyerHere_11 rfl (lv_at hl 0 rfl) ?_
    refine lv_iconst (v := 4) hx hb dX12_isBuyerHere_12 (by decide) ?_
    refine lv_iload_n hx hb dX12_isBuyerHere_13 rfl (lv_at hl 1 rfl) ?_
    have ha_122 : 0 ≤ (4 : Int32).toInt ∧ (4 : Int32).toInt ≤ 4 := by
      have z_1 := congrArg Int32.toInt c_2
      have y_6 : (6 : Int32).toInt = 6 := by decide
      have y_4 : (4 : Int32).toInt = 4 := by decide
      omega
    refine cV (a := (Ma 0)) (As := [.int 4, .int x1]) (rest := []) (wr := [((Ma 1), .inl (tc 2, 400, .inl (Mf 1))), ((Ma 6), .inl (tc 0, 95, .inl (Mf 6)))]) ⟨hx, hb, hml, hown, hts⟩ hK hX hA (cu_fX12_fails l D tc sk (Ma 0) (Ma 1) (Ma 2) (Ma 3) (Ma 4) (Ma 5) (Ma 6) (Ma 7) (Ma 8) (Ma 9) (Ma 10) (Ma 11) (Ma 12) (Ma 13) (Ma 14) (Ma 15) (Ma 16) (Ma 17) (Ma 18) (Ma 19) (Ma 20) (Mv 0) (Mv 1) (Mv 2) (Mv 3) (Mv 4) (Mv 5) (Mv 6) (Mv 7) (Mv 8) (Mv 9) (Mv 10) (Mv 11) (Mv 12) (Mv 13) (Mv 14) (Mj 0) 4 x1 ha_122 h_at h_w) k_1232 k_1229 k_1231 k_31 k_106 pl_X12_fails ⟨Nat.le_of_ble_eq_true rfl, Nat.le_of_ble_eq_true rfl⟩ rfl rfl (va_recv hK hP (ci := 12) (q0 := 0) rfl rfl) hP hD hS [0] [1, 2] rfl rfl rfl rfl rfl (by decide) rfl hl.1 rfl (Nat.le_of_ble_eq_true rfl) dX12_isBuyerHere_14 ⟨Nat.le_of_ble_eq_true rfl, Nat.le_of_ble_eq_true rfl⟩ (fun v_123 u_124 H locs hv_125 hP₀ hD₀ hS₀ => ?_)
    obtain ⟨sv_126, rfl⟩ : ∃ z, z = u_124 := ⟨_, rfl⟩
    obtain ⟨r_129, rfl, he_130, pf_127, pf_128⟩ := hv_125
    have he_130 : r_129.toInt = 0 := he_130
    have pf_127 : ¬ (sv_126 : Int32).toInt = 0 := pf_127
    have pf_128 : (sv_126 : Int32).toInt = 1 + 8 * x1.toInt + (4 : Int32).toInt := pf_128
    refine W.eq (g2 := F0 m 17 ls [.int r_129]) rfl ?_
    replace hP : va_P D classes [((Ma 1), .inl (tc 2, 400, .inl (Mf 1))), ((Ma 6), .inl (tc 0, 95, .inl (Mf 6))), ((Ma 0), .inr (12, [.ref (Ma 1), .int (Mv 0), .int (Mv 1), .ref (Ma 2), .ref (Ma 3), .ref (Ma 4), .ref (Ma 5), .ref (Ma 6), .int (Mv 2), .int sv_126, .int (Mv 4), .int (Mv 5), .int (Mv 6), .int (Mv 7), .int (Mv 8), .ref (Ma 7), .int (Mv 9), .ref (Ma 8), .int (Mv 10), .ref (Ma 9), .ref (Ma 10), .int (Mv 11), .int (Mv 12), .int (Mv 13), .ref (Ma 11), .int (Mv 14), .ref (Ma 12), .ref (Ma 13), .ref (Ma 14), .ref (Ma 15), .ref (Ma 16), .long (Mj 0), .ref (Ma 17), .ref (Ma 18), .ref (Ma 19), .ref (Ma 20)]))] H := hP₀
    replace hD : va_D A [((Ma 1), .inl (tc 2, 400, .inl (Mf 1))), ((Ma 6), .inl (tc 0, 95, .inl (Mf 6))), ((Ma 0), .inr (12, [.ref (Ma 1), .int (Mv 0), .int (Mv 1), .ref (Ma 2), .ref (Ma 3), .ref (Ma 4), .ref (Ma 5), .ref (Ma 6), .int (Mv 2), .int sv_126, .int (Mv 4), .int (Mv 5), .int (Mv 6), .int (Mv 7), .int (Mv 8), .ref (Ma 7), .int (Mv 9), .ref (Ma 8), .int (Mv 10), .ref (Ma 9), .ref (Ma 10), .int (Mv 11), .int (Mv 12), .int (Mv 13), .ref (Ma 11), .int (Mv 14), .ref (Ma 12), .ref (Ma 13), .ref (Ma 14), .ref (Ma 15), .ref (Ma 16), .long (Mj 0), .ref (Ma 17), .ref (Ma 18), .ref (Ma 19), .ref (Ma 20)]))] := hD₀
    replace hS := hS₀
    clear hP₀ hD₀ hS₀
    have yf_132 : (4 : Int32).toInt = 4 := by decide
    have ha_133 : ((Mv 2) : Int32).toInt ≤ ((Mv 2) : Int32).toInt ∧ ((Mv 2) : Int32).toInt ≤ ((Mv 0) : Int32).toInt := by
      have z_1 := congrArg Int32.toInt c_2
      have y_6 : (6 : Int32).toInt = 6 := by decide
      omega
    have hb_134 : (r_129 : Int32).toInt = 0 ∨ (r_129 : Int32).toInt = 1 := by
      have z_1 := congrArg Int32.toInt c_2
      have y_6 : (6 : Int32).toInt = 6 := by decide
      omega
    have hp_135 : (((r_129 : Int32).toInt = 0 ∧ ¬ (sv_126 : Int32).toInt = 0) ∨ ((r_129 : Int32).toInt = 1 ∧ ((Mf 6) 2).toInt = ((Mf 6) 2).toInt ∧ ((Mf 6) 3).toInt = ((Mf 6) 3).toInt + 1 ∧ ((Mf 6) 0).toInt = ((Mf 6) 0).toInt ∧ ((Mf 6) 3).toInt < 6 ∧ (sv_126 : Int32).toInt = 0)) := by
      have z_1 := congrArg Int32.toInt c_2
      have y_6 : (6 : Int32).toInt = 6 := by decide
      omega
    have hm_136 : (r_129 : Int32).toInt = 1 → (RdO (Mf 6)) ∧ (QfO (qz_k2 (rB (Mf 1) (Mv 0)) C (pNX (rB (Mf 1) (Mv 0)) (Mv 2))) (rB (Mf 1) (Mv 0)) sv_126 (Mv 2) (Mf 6)) := by
      intro h1r
      exfalso
      have z_1 := congrArg Int32.toInt c_2
      have y_6 : (6 : Int32).toInt = 6 := by decide
      omega
    have hm_137 : (r_129 : Int32).toInt = 0 → (QyE (rB (Mf 1) (Mv 0)) C (Mv 2) ((Mf 6) 3) x1 sv_126) := by
      intro h1r
      have hr_138 : ((Mf 6) 3).toInt = 6 := by
        have z_1 := congrArg Int32.toInt c_2
        have y_6 : (6 : Int32).toInt = 6 := by decide
        omega
      have hi_139 : (sv_126 : Int32).toInt = 1 + 8 * x1.toInt + 4 := by
        have z_1 := congrArg Int32.toInt c_2
        have y_6 : (6 : Int32).toInt = 6 := by decide
        omega
      exact (Or.inl ⟨hr_138, hi_139⟩)
    exact retI (v := r_129) hx hb hr hlk (nar01 hb_134) hP hD hS ((Mv 2), sv_126, (Mv 4), (Mf 6)) ⟨_, rfl, hp_135, ha_133, hm_136, hm_137⟩ [2, 0, 1] rfl rfl dX12_isBuyerHere_17 (Nat.le_of_ble_eq_true rfl) (Nat.le_of_ble_eq_true rfl) rfl
set_option maxRecDepth 100000 in
theorem cu_zX12_isBuyerHere (l : Launch) (D : va_G) (tc : Nat → ClassId) (sk : (Nat → Nat) × (Nat → Nat)) (Ma_0 : Nat) (Ma_1 : Nat) (Ma_2 : Nat) (Ma_3 : Nat) (Ma_4 : Nat) (Ma_5 : Nat) (Ma_6 : Nat) (Ma_7 : Nat) (Ma_8 : Nat) (Ma_9 : Nat) (Ma_10 : Nat) (Ma_11 : Nat) (Ma_12 : Nat) (Ma_13 : Nat) (Ma_14 : Nat) (Ma_15 : Nat) (Ma_16 : Nat) (Ma_17 : Nat) (Ma_18 : Nat) (Ma_19 : Nat) (Ma_20 : Nat) (Mv_0 : Int32) (Mv_1 : Int32) (Mv_2 : Int32) (Mv_3 : Int32) (Mv_4 : Int32) (Mv_5 : Int32) (Mv_6 : Int32) (Mv_7 : Int32) (Mv_8 : Int32) (Mv_9 : Int32) (Mv_10 : Int32) (Mv_11 : Int32) (Mv_12 : Int32) (Mv_13 : Int32) (Mv_14 : Int32) (Mf_1 : Nat → Int32) (Mf_6 : Nat → Int32) (Mj_0 : Int64) (x1 : Int32) (C : Nat → Int) (h_nx : 0 ≤ (Mv_2 : Int32).toInt ∧ (Mv_2 : Int32).toInt ≤ (Mv_0 : Int32).toInt ∧ (Mv_0 : Int32).toInt ≤ 400) (h_at : 0 ≤ x1.toInt ∧ x1.toInt ≤ 400) (h_ro : RdO Mf_6) (h_f1 : (Mf_6 0).toInt = 1) (h_bs : ByS Mf_1) (h_w : (Mv_3 : Int32).toInt = 0) (h_lt : LtH (rB Mf_1 Mv_0) Mv_2) (h_e : RdE Mf_6 C) : Ct l yX12_isBuyerHere cX12_isBuyerHere 3 (some .boolean) { frames := 3, cells := 0, slots := 0, locals := 72 } D tc sk [.ref Ma_0, .int x1] [(Ma_0, .inr (12, [.ref Ma_1, .int Mv_0, .int Mv_1, .ref Ma_2, .ref Ma_3, .ref Ma_4, .ref Ma_5, .ref Ma_6, .int Mv_2, .int Mv_3, .int Mv_4, .int Mv_5, .int Mv_6, .int Mv_7, .int Mv_8, .ref Ma_7, .int Mv_9, .ref Ma_8, .int Mv_10, .ref Ma_9, .ref Ma_10, .int Mv_11, .int Mv_12, .int Mv_13, .ref Ma_11, .int Mv_14, .ref Ma_12, .ref Ma_13, .ref Ma_14, .ref Ma_15, .ref Ma_16, .long Mj_0, .ref Ma_17, .ref Ma_18, .ref Ma_19, .ref Ma_20])), (Ma_1, .inl (tc 2, 400, .inl Mf_1)), (Ma_6, .inl (tc 0, 95, .inl Mf_6))] (fun (v : Option Value) (u : (Int32) × (Int32) × (Int32) × (Nat → Int32)) => match u with | (oo0x1, oo0x2, oo0x3, oo0x4) => ∃ r : Int32, v = some (.int r) ∧ (((r.toInt = 0 ∧ ¬ (oo0x2 : Int32).toInt = 0) ∨ (r.toInt = 1 ∧ (oo0x4 2).toInt = (Mf_6 2).toInt ∧ (oo0x4 3).toInt = (Mf_6 3).toInt + 1 ∧ (oo0x4 0).toInt = (Mf_6 0).toInt ∧ (Mf_6 3).toInt < 6 ∧ (oo0x2 : Int32).toInt = 0))) ∧ ((Mv_2 : Int32).toInt ≤ (oo0x1 : Int32).toInt ∧ (oo0x1 : Int32).toInt ≤ (Mv_0 : Int32).toInt) ∧ (r.toInt = 1 → (RdO oo0x4) ∧ (QfO (qz_k2 (rB Mf_1 Mv_0) C (pNX (rB Mf_1 Mv_0) Mv_2)) (rB Mf_1 Mv_0) oo0x2 oo0x1 oo0x4)) ∧ (r.toInt = 0 → (QyE (rB Mf_1 Mv_0) C Mv_2 (Mf_6 3) x1 oo0x2))) (fun (u : (Int32) × (Int32) × (Int32) × (Nat → Int32)) => match u with | (oo0x1, oo0x2, oo0x3, oo0x4) => [(Ma_0, .inr (12, [.ref Ma_1, .int Mv_0, .int Mv_1, .ref Ma_2, .ref Ma_3, .ref Ma_4, .ref Ma_5, .ref Ma_6, .int oo0x1, .int oo0x2, .int oo0x3, .int Mv_5, .int Mv_6, .int Mv_7, .int Mv_8, .ref Ma_7, .int Mv_9, .ref Ma_8, .int Mv_10, .ref Ma_9, .ref Ma_10, .int Mv_11, .int Mv_12, .int Mv_13, .ref Ma_11, .int Mv_14, .ref Ma_12, .ref Ma_13, .ref Ma_14, .ref Ma_15, .ref Ma_16, .long Mj_0, .ref Ma_17, .ref Ma_18, .ref Ma_19, .ref Ma_20])), (Ma_1, .inl (tc 2, 400, .inl Mf_1)), (Ma_6, .inl (tc 0, 95, .inl oo0x4))]) 0 0 :=
  ct_zX12_isBuyerHere l D tc sk (fun k => ([Ma_0, Ma_1, Ma_2, Ma_3, Ma_4, Ma_5, Ma_6, Ma_7, Ma_8, Ma_9, Ma_10, Ma_11, Ma_12, Ma_13, Ma_14, Ma_15, Ma_16, Ma_17, Ma_18, Ma_19, Ma_20] : List (Nat)).getD k 0) (fun k => ([Mv_0, Mv_1, Mv_2, Mv_3, Mv_4, Mv_5, Mv_6, Mv_7, Mv_8, Mv_9, Mv_10, Mv_11, Mv_12, Mv_13, Mv_14] : List (Int32)).getD k 0) (fun k => ([(fun _ => 0), Mf_1, (fun _ => 0), (fun _ => 0), (fun _ => 0), (fun _ => 0), Mf_6] : List (Nat → Int32)).getD k (fun _ => 0)) (fun k => ([Mj_0] : List (Int64)).getD k 0) x1 C h_nx h_at h_ro h_f1 h_bs h_w h_lt h_e
set_option maxHeartbeats 4000000 in
set_option maxRecDepth 100000 in
theorem ct_zX12_isWatchHere (l : Launch) (D : va_G) (tc : Nat → ClassId) (sk : (Nat → Nat) × (Nat → Nat)) (Ma : Nat → Nat) (Mv : Nat → Int32) (Mf : Nat → Nat → Int32) (Mj : Nat → Int64) (C : Nat → Int) (h_nx : 0 ≤ ((Mv 2) : Int32).toInt ∧ ((Mv 2) : Int32).toInt ≤ ((Mv 0) : Int32).toInt ∧ ((Mv 0) : Int32).toInt ≤ 400) (h_ro : RdO (Mf 6)) (h_f1 : ((Mf 6) 0).toInt = 1) (h_bs : ByS (Mf 1)) (h_w : ((Mv 3) : Int32).toInt = 0) (h_lt : LtH (rB (Mf 1) (Mv 0)) (Mv 2)) (h_e : RdE (Mf 6) C) : Ct l yX12_isWatchHere cX12_isWatchHere 2 (some .boolean) { frames := 2, cells := 0, slots := 0, locals := 49 } D tc sk [.ref (Ma 0)] [((Ma 0), .inr (12, [.ref (Ma 1), .int (Mv 0), .int (Mv 1), .ref (Ma 2), .ref (Ma 3), .ref (Ma 4), .ref (Ma 5), .ref (Ma 6), .int (Mv 2), .int (Mv 3), .int (Mv 4), .int (Mv 5), .int (Mv 6), .int (Mv 7), .int (Mv 8), .ref (Ma 7), .int (Mv 9), .ref (Ma 8), .int (Mv 10), .ref (Ma 9), .ref (Ma 10), .int (Mv 11), .int (Mv 12), .int (Mv 13), .ref (Ma 11), .int (Mv 14), .ref (Ma 12), .ref (Ma 13), .ref (Ma 14), .ref (Ma 15), .ref (Ma 16), .long (Mj 0), .ref (Ma 17), .ref (Ma 18), .ref (Ma 19), .ref (Ma 20)])), ((Ma 1), .inl (tc 2, 400, .inl (Mf 1))), ((Ma 6), .inl (tc 0, 95, .inl (Mf 6)))] (fun (v : Option Value) (u : (Int32) × (Int32) × (Int32) × (Nat → Int32)) => match u with | (oo0x1, oo0x2, oo0x3, oo0x4) => ∃ r : Int32, v = some (.int r) ∧ (((r.toInt = 0 ∧ ¬ (oo0x2 : Int32).toInt = 0) ∨ (r.toInt = 1 ∧ ((oo0x4 2).toInt = ((Mf 6) 2).toInt ∧ (oo0x4 3).toInt = ((Mf 6) 3).toInt ∧ (oo0x4 0).toInt = ((Mf 6) 0).toInt) ∧ (oo0x2 : Int32).toInt = 0))) ∧ (((Mv 2) : Int32).toInt ≤ (oo0x1 : Int32).toInt ∧ (oo0x1 : Int32).toInt ≤ ((Mv 0) : Int32).toInt) ∧ (r.toInt = 1 → (RdO oo0x4) ∧ (QfO (qz_k3 (rB (Mf 1) (Mv 0)) C (pNX (rB (Mf 1) (Mv 0)) (Mv 2))) (rB (Mf 1) (Mv 0)) oo0x2 oo0x1 oo0x4)) ∧ (r.toInt = 0 → (QfE (qz_k3 (rB (Mf 1) (Mv 0)) C (pNX (rB (Mf 1) (Mv 0)) (Mv 2))) oo0x2))) (fun (u : (Int32) × (Int32) × (Int32) × (Nat → Int32)) => match u with | (oo0x1, oo0x2, oo0x3, oo0x4) => [((Ma 0), .inr (12, [.ref (Ma 1), .int (Mv 0), .int (Mv 1), .ref (Ma 2), .ref (Ma 3), .ref (Ma 4), .ref (Ma 5), .ref (Ma 6), .int oo0x1, .int oo0x2, .int oo0x3, .int (Mv 5), .int (Mv 6), .int (Mv 7), .int (Mv 8), .ref (Ma 7), .int (Mv 9), .ref (Ma 8), .int (Mv 10), .ref (Ma 9), .ref (Ma 10), .int (Mv 11), .int (Mv 12), .int (Mv 13), .ref (Ma 11), .int (Mv 14), .ref (Ma 12), .ref (Ma 13), .ref (Ma 14), .ref (Ma 15), .ref (Ma 16), .long (Mj 0), .ref (Ma 17), .ref (Ma 18), .ref (Ma 19), .ref (Ma 20)])), ((Ma 1), .inl (tc 2, 400, .inl (Mf 1))), ((Ma 6), .inl (tc 0, 95, .inl oo0x4))]) 0 0 := by
  refine Ct.start (by decide) (Nat.le_of_ble_eq_true rfl) (fun p e s m below meth c A ls hx hb hr hlk hin hml hown hts hK hX hP hD hA hl hS => ?_)
  have hl : lv_has ls 2 [(0, .ref (Ma 0))] := hl
  have ar_h_ro := RdO.ar h_ro
  have ar_h_lt := h_lt.1
  refine lv_aload_n hx hb dX12_isWatchHere_0 rfl (lv_at hl 0 rfl) ?_
  refine cV (a := (Ma 0)) (As := []) (rest := []) (wr := [((Ma 6), .inl (tc 0, 95, .inl (Mf 6)))]) ⟨hx, hb, hml, hown, hts⟩ hK hX hA (cu_fX12_passWord l D tc sk (Ma 0) (Ma 1) (Ma 2) (Ma 3) (Ma 4) (Ma 5) (Ma 6) (Ma 7) (Ma 8) (Ma 9) (Ma 10) (Ma 11) (Ma 12) (Ma 13) (Ma 14) (Ma 15) (Ma 16) (Ma 17) (Ma 18) (Ma 19) (Ma 20) (Mv 0) (Mv 1) (Mv 2) (Mv 3) (Mv 4) (Mv 5) (Mv 6) (Mv 7) (Mv 8) (Mv 9) (Mv 10) (Mv 11) (Mv 12) (Mv 13) (Mv 14) (Mf 1) (Mj 0) h_nx h_bs) k_1244 k_1241 k_1243 k_34 k_106 pl_X12_passWord ⟨Nat.le_of_ble_eq_true rfl, Nat.le_of_ble_eq_true rfl⟩ rfl rfl (va_recv hK hP (ci := 12) (q0 := 0) rfl rfl) hP hD hS [0, 1] [2] rfl rfl rfl rfl rfl (by decide) rfl hl.1 rfl (Nat.le_of_ble_eq_true rfl) dX12_isWatchHere_1 ⟨Nat.le_of_ble_eq_true rfl, Nat.le_of_ble_eq_true rfl⟩ (fun v_1 u_2 H locs hv_3 hP₀ hD₀ hS₀ => ?_)
  obtain ⟨sv_4, rfl⟩ : ∃ z, z = u_2 := ⟨_, rfl⟩
  obtain ⟨rfl, pf_5, pf_6, pf_7⟩ := hv_3
  have pf_5 : ((Mv 2) : Int32).toInt ≤ (sv_4 : Int32).toInt ∧ (sv_4 : Int32).toInt ≤ ((Mv 0) : Int32).toInt := pf_5
  have pf_6 : Pw (Mf 1) (Mv 0) (Mv 2) sv_4 := pf_6
  have pf_7 : PsR (rB (Mf 1) (Mv 0)) (Mv 2) sv_4 := pf_7
  refine W.eq (g2 := F0 m 4 ls []) rfl ?_
  replace hP : va_P D classes [((Ma 6), .inl (tc 0, 95, .inl (Mf 6))), ((Ma 0), .inr (12, [.ref (Ma 1), .int (Mv 0), .int (Mv 1), .ref (Ma 2), .ref (Ma 3), .ref (Ma 4), .ref (Ma 5), .ref (Ma 6), .int sv_4, .int (Mv 3), .int (Mv 4), .int (Mv 5), .int (Mv 6), .int (Mv 7), .int (Mv 8), .ref (Ma 7), .int (Mv 9), .ref (Ma 8), .int (Mv 10), .ref (Ma 9), .ref (Ma 10), .int (Mv 11), .int (Mv 12), .int (Mv 13), .ref (Ma 11), .int (Mv 14), .ref (Ma 12), .ref (Ma 13), .ref (Ma 14), .ref (Ma 15), .ref (Ma 16), .long (Mj 0), .ref (Ma 17), .ref (Ma 18), .ref (Ma 19), .ref (Ma 20)])), ((Ma 1), .inl (tc 2, 400, .inl (Mf 1)))] H := hP₀
  replace hD : va_D A [((Ma 6), .inl (tc 0, 95, .inl (Mf 6))), ((Ma 0), .inr (12, [.ref (Ma 1), .int (Mv 0), .int (Mv 1), .ref (Ma 2), .ref (Ma 3), .ref (Ma 4), .ref (Ma 5), .ref (Ma 6), .int sv_4, .int (Mv 3), .int (Mv 4), .int (Mv 5), .int (Mv 6), .int (Mv 7), .int (Mv 8), .ref (Ma 7), .int (Mv 9), .ref (Ma 8), .int (Mv 10), .ref (Ma 9), .ref (Ma 10), .int (Mv 11), .int (Mv 12), .int (Mv 13), .ref (Ma 11), .int (Mv 14), .ref (Ma 12), .ref (Ma 13), .ref (Ma 14), .ref (Ma 15), .ref (Ma 16), .long (Mj 0), .ref (Ma 17), .ref (Ma 18), .ref (Ma 19), .ref (Ma 20)])), ((Ma 1), .inl (tc 2, 400, .inl (Mf 1)))] := hD₀
  replace hS := hS₀
  clear hP₀ hD₀ hS₀
  refine lv_aload_n hx hb dX12_isWatchHere_4 rfl (lv_at hl 0 rfl) ?_
  refine lv_iconst (v := 0) hx hb dX12_isWatchHere_5 (by decide) ?_
  refine lv_aload_n hx hb dX12_isWatchHere_6 rfl (lv_at hl 0 rfl) ?_
  refine gf_X12_26 hx hb hts hown hK hP 1 rfl rfl dX12_isWatchHere_7 ?_
  refine lv_iconst (v := 2) hx hb dX12_isWatchHere_10 (by decide) ?_
  refine va_iald hx hb hK hP 0 0 rfl rfl (vin_dec (by decide +kernel)) dX12_isWatchHere_11 ?_
  refine lv_topi (fun x_8 ex_8 => ?_)
  have lx_8 : x_8.toInt = ((Mf 6) 2).toInt := congrArg Int32.toInt ex_8
  refine lv_iconst (v := 1) hx hb dX12_isWatchHere_12 (by decide) ?_
  refine lv_isub hx hb dX12_isWatchHere_13 ?_
  refine lv_topi (fun x_9 ex_9 => ?_)
  have ha_10 : 0 ≤ (sv_4 : Int32).toInt ∧ (sv_4 : Int32).toInt ≤ ((Mv 0) : Int32).toInt ∧ ((Mv 0) : Int32).toInt ≤ 400 := by
    have y_1 : (1 : Int32).toInt = 1 := by decide
    have t_x_9 : x_9.toInt = (x_8 : Int32).toInt - (1 : Int32).toInt := by rw [ex_9]; exact sub_toInt (by omega) (by omega)
    omega
  refine cV (a := (Ma 0)) (As := [.int 0, .int x_9]) (rest := []) (wr := [((Ma 6), .inl (tc 0, 95, .inl (Mf 6)))]) ⟨hx, hb, hml, hown, hts⟩ hK hX hA (cu_fX12_numberHere l D tc sk (Ma 0) (Ma 1) (Ma 2) (Ma 3) (Ma 4) (Ma 5) (Ma 6) (Ma 7) (Ma 8) (Ma 9) (Ma 10) (Ma 11) (Ma 12) (Ma 13) (Ma 14) (Ma 15) (Ma 16) (Ma 17) (Ma 18) (Ma 19) (Ma 20) (Mv 0) (Mv 1) sv_4 (Mv 3) (Mv 4) (Mv 5) (Mv 6) (Mv 7) (Mv 8) (Mv 9) (Mv 10) (Mv 11) (Mv 12) (Mv 13) (Mv 14) (Mf 1) (Mj 0) 0 x_9 ha_10 h_bs h_w) k_1252 k_1249 k_1251 k_36 k_106 pl_X12_numberHere ⟨Nat.le_of_ble_eq_true rfl, Nat.le_of_ble_eq_true rfl⟩ rfl rfl (va_recv hK hP (ci := 12) (q0 := 1) rfl rfl) hP hD hS [1, 2] [0] rfl rfl rfl rfl rfl (by decide) rfl hl.1 rfl (Nat.le_of_ble_eq_true rfl) dX12_isWatchHere_14 ⟨Nat.le_of_ble_eq_true rfl, Nat.le_of_ble_eq_true rfl⟩ (fun v_11 u_12 H locs hv_13 hP₀ hD₀ hS₀ => ?_)
  obtain ⟨sv_14, sv_15, sv_16⟩ := u_12
  obtain ⟨r_18, rfl, he_19, pf_17, hm_21, hm_22⟩ := hv_13
  have he_19 : ((r_18.toInt = 0 ∧ ¬ (sv_15 : Int32).toInt = 0) ∨ (r_18.toInt = 1 ∧ (0 : Int32).toInt ≤ (sv_16 : Int32).toInt ∧ (sv_16 : Int32).toInt ≤ x_9.toInt ∧ sv_4.toInt + 1 ≤ (sv_14 : Int32).toInt)) := he_19
  have yl_he_19_0 : (0 : Int32).toInt = 0 := by decide
  have pf_17 : (sv_4 : Int32).toInt ≤ (sv_14 : Int32).toInt ∧ (sv_14 : Int32).toInt ≤ ((Mv 0) : Int32).toInt := pf_17
  refine W.eq (g2 := F0 m 17 ls [.int r_18]) rfl ?_
  replace hP : va_P D classes [((Ma 6), .inl (tc 0, 95, .inl (Mf 6))), ((Ma 0), .inr (12, [.ref (Ma 1), .int (Mv 0), .int (Mv 1), .ref (Ma 2), .ref (Ma 3), .ref (Ma 4), .ref (Ma 5), .ref (Ma 6), .int sv_14, .int sv_15, .int sv_16, .int (Mv 5), .int (Mv 6), .int (Mv 7), .int (Mv 8), .ref (Ma 7), .int (Mv 9), .ref (Ma 8), .int (Mv 10), .ref (Ma 9), .ref (Ma 10), .int (Mv 11), .int (Mv 12), .int (Mv 13), .ref (Ma 11), .int (Mv 14), .ref (Ma 12), .ref (Ma 13), .ref (Ma 14), .ref (Ma 15), .ref (Ma 16), .long (Mj 0), .ref (Ma 17), .ref (Ma 18), .ref (Ma 19), .ref (Ma 20)])), ((Ma 1), .inl (tc 2, 400, .inl (Mf 1)))] H := hP₀
  replace hD : va_D A [((Ma 6), .inl (tc 0, 95, .inl (Mf 6))), ((Ma 0), .inr (12, [.ref (Ma 1), .int (Mv 0), .int (Mv 1), .ref (Ma 2), .ref (Ma 3), .ref (Ma 4), .ref (Ma 5), .ref (Ma 6), .int sv_14, .int sv_15, .int sv_16, .int (Mv 5), .int (Mv 6), .int (Mv 7), .int (Mv 8), .ref (Ma 7), .int (Mv 9), .ref (Ma 8), .int (Mv 10), .ref (Ma 9), .ref (Ma 10), .int (Mv 11), .int (Mv 12), .int (Mv 13), .ref (Ma 11), .int (Mv 14), .ref (Ma 12), .ref (Ma 13), .ref (Ma 14), .ref (Ma 15), .ref (Ma 16), .long (Mj 0), .ref (Ma 17), .ref (Ma 18), .ref (Ma 19), .ref (Ma 20)])), ((Ma 1), .inl (tc 2, 400, .inl (Mf 1)))] := hD₀
  replace hS := hS₀
  clear hP₀ hD₀ hS₀
  refine lv_if_ne (tgt := 22) hx hb dX12_isWatchHere_17 (by decide) (fun c_23 => ?_) (fun c_23 => ?_)
  · skip
    have hz_25 : (r_18 : Int32).toInt = 1 := by
      have z_1 : ¬ (r_18 : Int32).toInt = (0 : Int32).toInt := fun z => c_23 (Int32.toInt_inj.mp z)
      have y_0 : (0 : Int32).toInt = 0 := by decide
      have y_1 : (1 : Int32).toInt = 1 := by decide
      have t_x_9 : x_9.toInt = (x_8 : Int32).toInt - (1 : Int32).toInt := by rw [ex_9]; exact sub_toInt (by omega) (by omega)
      omega
    obtain pf_24 := hm_21 hz_25
    have pf_24 : NmO (rB (Mf 1) (Mv 0)) (0 : Int32).toInt x_9.toInt sv_4 sv_16 sv_14 sv_15 := pf_24
    have ar_pf_24 := pf_24.2.2
    refine lv_aload_n hx hb dX12_isWatchHere_22 rfl (lv_at hl 0 rfl) ?_
    refine gf_X12_112 hx hb hts hown hK hP 1 rfl rfl dX12_isWatchHere_23 ?_
    refine lv_istore_n (lv' := [(1, .int sv_16), (0, .ref (Ma 0))]) hx hb dX12_isWatchHere_26 rfl hl (by decide) rfl (fun ls hl₀ => ?_)
    replace hl := hl₀
    clear hl₀
    refine lv_aload_n hx hb dX12_isWatchHere_27 rfl (lv_at hl 1 rfl) ?_
    refine lv_iconst (v := 0) hx hb dX12_isWatchHere_28 (by decide) ?_
    refine lv_aload_n hx hb dX12_isWatchHere_29 rfl (lv_at hl 1 rfl) ?_
    refine gf_X12_26 hx hb hts hown hK hP 1 rfl rfl dX12_isWatchHere_30 ?_
    refine lv_iconst (v := 3) hx hb dX12_isWatchHere_33 (by decide) ?_
    refine va_iald hx hb hK hP 0 0 rfl rfl (vin_dec (by decide +kernel)) dX12_isWatchHere_34 ?_
    refine lv_topi (fun x_26 ex_26 => ?_)
    have lx_26 : x_26.toInt = ((Mf 6) 3).toInt := congrArg Int32.toInt ex_26
    refine lv_iconst (v := 1) hx hb dX12_isWatchHere_35 (by decide) ?_
    refine lv_isub hx hb dX12_isWatchHere_36 ?_
    refine lv_topi (fun x_27 ex_27 => ?_)
    have ha_28 : 0 ≤ (sv_14 : Int32).toInt ∧ (sv_14 : Int32).toInt ≤ ((Mv 0) : Int32).toInt ∧ ((Mv 0) : Int32).toInt ≤ 400 := by
      have z_1 : ¬ (r_18 : Int32).toInt = (0 : Int32).toInt := fun z => c_23 (Int32.toInt_inj.mp z)
      have y_0 : (0 : Int32).toInt = 0 := by decide
      have y_1 : (1 : Int32).toInt = 1 := by decide
      have t_x_9 : x_9.toInt = (x_8 : Int32).toInt - (1 : Int32).toInt := by rw [ex_9]; exact sub_toInt (by omega) (by omega)
      have t_x_27 : x_27.toInt = (x_26 : Int32).toInt - (1 : Int32).toInt := by rw [ex_27]; exact sub_toInt (by omega) (by omega)
      omega
    have ha_29 : (sv_15 : Int32).toInt = 0 := by
      have z_1 : ¬ (r_18 : Int32).toInt = (0 : Int32).toInt := fun z => c_23 (Int32.toInt_inj.mp z)
      have y_0 : (0 : Int32).toInt = 0 := by decide
      have y_1 : (1 : Int32).toInt = 1 := by decide
      have t_x_9 : x_9.toInt = (x_8 : Int32).toInt - (1 : Int32).toInt := by rw [ex_9]; exact sub_toInt (by omega) (by omega)
      have t_x_27 : x_27.toInt = (x_26 : Int32).toInt - (1 : Int32).toInt := by rw [ex_27]; exact sub_toInt (by omega) (by omega)
      omega
    refine cV (a := (Ma 0)) (As := [.int 0, .int x_27]) (rest := []) (wr := [((Ma 6), .inl (tc 0, 95, .inl (Mf 6)))]) ⟨hx, hb, hml, hown, hts⟩ hK hX hA (cu_fX12_numberHere l D tc sk (Ma 0) (Ma 1) (Ma 2) (Ma 3) (Ma 4) (Ma 5) (Ma 6) (Ma 7) (Ma 8) (Ma 9) (Ma 10) (Ma 11) (Ma 12) (Ma 13) (Ma 14) (Ma 15) (Ma 16) (Ma 17) (Ma 18) (Ma 19) (Ma 20) (Mv 0) (Mv 1) sv_14 sv_15 sv_16 (Mv 5) (Mv 6) (Mv 7) (Mv 8) (Mv 9) (Mv 10) (Mv 11) (Mv 12) (Mv 13) (Mv 14) (Mf 1) (Mj 0) 0 x_27 ha_28 h_bs ha_29) k_1252 k_1249 k_1251 k_36 k_106 pl_X12_numberHere ⟨Nat.le_of_ble_eq_true rfl, Nat.le_of_ble_eq_true rfl⟩ rfl rfl (va_recv hK hP (ci := 12) (q0 := 1) rfl rfl) hP hD hS [1, 2] [0] rfl rfl rfl rfl rfl (by decide) rfl hl.1 rfl (Nat.le_of_ble_eq_true rfl) dX12_isWatchHere_37 ⟨Nat.le_of_ble_eq_true rfl, Nat.le_of_ble_eq_true rfl⟩ (fun v_30 u_31 H locs hv_32 hP₀ hD₀ hS₀ => ?_)
    obtain ⟨sv_33, sv_34, sv_35⟩ := u_31
    obtain ⟨r_37, rfl, he_38, pf_36, hm_40, hm_41⟩ := hv_32
    have he_38 : ((r_37.toInt = 0 ∧ ¬ (sv_34 : Int32).toInt = 0) ∨ (r_37.toInt = 1 ∧ (0 : Int32).toInt ≤ (sv_35 : Int32).toInt ∧ (sv_35 : Int32).toInt ≤ x_27.toInt ∧ sv_14.toInt + 1 ≤ (sv_33 : Int32).toInt)) := he_38
    have yl_he_38_0 : (0 : Int32).toInt = 0 := by decide
    have pf_36 : (sv_14 : Int32).toInt ≤ (sv_33 : Int32).toInt ∧ (sv_33 : Int32).toInt ≤ ((Mv 0) : Int32).toInt := pf_36
    refine W.eq (g2 := F0 m 40 ls [.int r_37]) rfl ?_
    replace hP : va_P D classes [((Ma 6), .inl (tc 0, 95, .inl (Mf 6))), ((Ma 0), .inr (12, [.ref (Ma 1), .int (Mv 0), .int (Mv 1), .ref (Ma 2), .ref (Ma 3), .ref (Ma 4), .ref (Ma 5), .ref (Ma 6), .int sv_33, .int sv_34, .int sv_35, .int (Mv 5), .int (Mv 6), .int (Mv 7), .int (Mv 8), .ref (Ma 7), .int (Mv 9), .ref (Ma 8), .int (Mv 10), .ref (Ma 9), .ref (Ma 10), .int (Mv 11), .int (Mv 12), .int (Mv 13), .ref (Ma 11), .int (Mv 14), .ref (Ma 12), .ref (Ma 13), .ref (Ma 14), .ref (Ma 15), .ref (Ma 16), .long (Mj 0), .ref (Ma 17), .ref (Ma 18), .ref (Ma 19), .ref (Ma 20)])), ((Ma 1), .inl (tc 2, 400, .inl (Mf 1)))] H := hP₀
    replace hD : va_D A [((Ma 6), .inl (tc 0, 95, .inl (Mf 6))), ((Ma 0), .inr (12, [.ref (Ma 1), .int (Mv 0), .int (Mv 1), .ref (Ma 2), .ref (Ma 3), .ref (Ma 4), .ref (Ma 5), .ref (Ma 6), .int sv_33, .int sv_34, .int sv_35, .int (Mv 5), .int (Mv 6), .int (Mv 7), .int (Mv 8), .ref (Ma 7), .int (Mv 9), .ref (Ma 8), .int (Mv 10), .ref (Ma 9), .ref (Ma 10), .int (Mv 11), .int (Mv 12), .int (Mv 13), .ref (Ma 11), .int (Mv 14), .ref (Ma 12), .ref (Ma 13), .ref (Ma 14), .ref (Ma 15), .ref (Ma 16), .long (Mj 0), .ref (Ma 17), .ref (Ma 18), .ref (Ma 19), .ref (Ma 20)])), ((Ma 1), .inl (tc 2, 400, .inl (Mf 1)))] := hD₀
    replace hS := hS₀
    clear hP₀ hD₀ hS₀
    refine lv_if_ne (tgt := 45) hx hb dX12_isWatchHere_40 (by decide) (fun c_42 => ?_) (fun c_42 => ?_)
    · skip
      have hz_44 : (r_37 : Int32).toInt = 1 := by
        have z_1 : ¬ (r_18 : Int32).toInt = (0 : Int32).toInt := fun z => c_23 (Int32.toInt_inj.mp z)
        have z_2 : ¬ (r_37 : Int32).toInt = (0 : Int32).toInt := fun z => c_42 (Int32.toInt_inj.mp z)
        have y_0 : (0 : Int32).toInt = 0 := by decide
        have y_1 : (1 : Int32).toInt = 1 := by decide
        have t_x_9 : x_9.toInt = (x_8 : Int32).toInt - (1 : Int32).toInt := by rw [ex_9]; exact sub_toInt (by omega) (by omega)
        have t_x_27 : x_27.toInt = (x_26 : Int32).toInt - (1 : Int32).toInt := by rw [ex_27]; exact sub_toInt (by omega) (by omega)
        omega
      obtain pf_43 := hm_40 hz_44
      have pf_43 : NmO (rB (Mf 1) (Mv 0)) (0 : Int32).toInt x_27.toInt sv_14 sv_35 sv_33 sv_34 := pf_43
      have ar_pf_43 := pf_43.2.2
      refine lv_aload_n hx hb dX12_isWatchHere_45 rfl (lv_at hl 1 rfl) ?_
      refine gf_X12_26 hx hb hts hown hK hP 1 rfl rfl dX12_isWatchHere_46 ?_
      refine lv_bipush (v := 84) hx hb dX12_isWatchHere_49 (by decide) ?_
      refine lv_iload_n hx hb dX12_isWatchHere_51 rfl (lv_at hl 0 rfl) ?_
      refine lv_iadd hx hb dX12_isWatchHere_52 ?_
      refine lv_topi (fun x_45 ex_45 => ?_)
      refine lv_dup2_11 hx hb dX12_isWatchHere_53 rfl rfl ?_
      have hi_46 : vp_in x_45 95 := by
        have z_1 : ¬ (r_18 : Int32).toInt = (0 : Int32).toInt := fun z => c_23 (Int32.toInt_inj.mp z)
        have z_2 : ¬ (r_37 : Int32).toInt = (0 : Int32).toInt := fun z => c_42 (Int32.toInt_inj.mp z)
        have y_0 : (0 : Int32).toInt = 0 := by decide
        have y_1 : (1 : Int32).toInt = 1 := by decide
        have y_84 : (84 : Int32).toInt = 84 := by decide
        have t_x_9 : x_9.toInt = (x_8 : Int32).toInt - (1 : Int32).toInt := by rw [ex_9]; exact sub_toInt (by omega) (by omega)
        have t_x_27 : x_27.toInt = (x_26 : Int32).toInt - (1 : Int32).toInt := by rw [ex_27]; exact sub_toInt (by omega) (by omega)
        have t_x_45 : x_45.toInt = (84 : Int32).toInt + (sv_16 : Int32).toInt := by rw [ex_45]; exact add_toInt (by omega) (by omega)
        refine vp_in_iff.mpr ⟨?_, ?_⟩ <;> omega
      refine va_iald hx hb hK hP 0 0 rfl rfl hi_46 dX12_isWatchHere_54 ?_
      refine lv_topi (fun x_47 ex_47 => ?_)
      refine lv_iconst (v := 1) hx hb dX12_isWatchHere_55 (by decide) ?_
      refine lv_aload_n hx hb dX12_isWatchHere_56 rfl (lv_at hl 1 rfl) ?_
      refine gf_X12_112 hx hb hts hown hK hP 1 rfl rfl dX12_isWatchHere_57 ?_
      refine lv_ishl hx hb dX12_isWatchHere_60 ?_
      refine lv_topi (fun x_48 ex_48 => ?_)
      refine lv_ior hx hb dX12_isWatchHere_61 ?_
      refine lv_topi (fun x_49 ex_49 => ?_)
      have hi_50 : vp_in x_45 95 := by
        have z_1 : ¬ (r_18 : Int32).toInt = (0 : Int32).toInt := fun z => c_23 (Int32.toInt_inj.mp z)
        have z_2 : ¬ (r_37 : Int32).toInt = (0 : Int32).toInt := fun z => c_42 (Int32.toInt_inj.mp z)
        have y_0 : (0 : Int32).toInt = 0 := by decide
        have y_1 : (1 : Int32).toInt = 1 := by decide
        have y_84 : (84 : Int32).toInt = 84 := by decide
        have t_x_9 : x_9.toInt = (x_8 : Int32).toInt - (1 : Int32).toInt := by rw [ex_9]; exact sub_toInt (by omega) (by omega)
        have t_x_27 : x_27.toInt = (x_26 : Int32).toInt - (1 : Int32).toInt := by rw [ex_27]; exact sub_toInt (by omega) (by omega)
        have t_x_45 : x_45.toInt = (84 : Int32).toInt + (sv_16 : Int32).toInt := by rw [ex_45]; exact add_toInt (by omega) (by omega)
        refine vp_in_iff.mpr ⟨?_, ?_⟩ <;> omega
      refine st_int hx hb hK hP hD hS 0 0 rfl rfl hi_50 dX12_isWatchHere_62 (fun g_51 H locs eg_51 hP₀ hD₀ hS₀ => ?_)
      replace hP : va_P D classes [((Ma 6), .inl (tc 0, 95, .inl g_51)), ((Ma 0), .inr (12, [.ref (Ma 1), .int (Mv 0), .int (Mv 1), .ref (Ma 2), .ref (Ma 3), .ref (Ma 4), .ref (Ma 5), .ref (Ma 6), .int sv_33, .int sv_34, .int sv_35, .int (Mv 5), .int (Mv 6), .int (Mv 7), .int (Mv 8), .ref (Ma 7), .int (Mv 9), .ref (Ma 8), .int (Mv 10), .ref (Ma 9), .ref (Ma 10), .int (Mv 11), .int (Mv 12), .int (Mv 13), .ref (Ma 11), .int (Mv 14), .ref (Ma 12), .ref (Ma 13), .ref (Ma 14), .ref (Ma 15), .ref (Ma 16), .long (Mj 0), .ref (Ma 17), .ref (Ma 18), .ref (Ma 19), .ref (Ma 20)])), ((Ma 1), .inl (tc 2, 400, .inl (Mf 1)))] H := hP₀
      replace hD : va_D A [((Ma 6), .inl (tc 0, 95, .inl g_51)), ((Ma 0), .inr (12, [.ref (Ma 1), .int (Mv 0), .int (Mv 1), .ref (Ma 2), .ref (Ma 3), .ref (Ma 4), .ref (Ma 5), .ref (Ma 6), .int sv_33, .int sv_34, .int sv_35, .int (Mv 5), .int (Mv 6), .int (Mv 7), .int (Mv 8), .ref (Ma 7), .int (Mv 9), .ref (Ma 8), .int (Mv 10), .ref (Ma 9), .ref (Ma 10), .int (Mv 11), .int (Mv 12), .int (Mv 13), .ref (Ma 11), .int (Mv 14), .ref (Ma 12), .ref (Ma 13), .ref (Ma 14), .ref (Ma 15), .ref (Ma 16), .long (Mj 0), .ref (Ma 17), .ref (Ma 18), .ref (Ma 19), .ref (Ma 20)])), ((Ma 1), .inl (tc 2, 400, .inl (Mf 1)))] := hD₀
      replace hS := hS₀
      clear hP₀ hD₀ hS₀
      have hr_52 : 0 ≠ (x_45 : Int32).toNatClampNeg := by
        have z_1 : ¬ (r_18 : Int32).toInt = (0 : Int32).toInt := fun z => c_23 (Int32.toInt_inj.mp z)
        have z_2 : ¬ (r_37 : Int32).toInt = (0 : Int32).toInt := fun z => c_42 (Int32.toInt_inj.mp z)
        have y_0 : (0 : Int32).toInt = 0 := by decide
        have y_1 : (1 : Int32).toInt = 1 := by decide
        have y_84 : (84 : Int32).toInt = 84 := by decide
        have t_x_9 : x_9.toInt = (x_8 : Int32).toInt - (1 : Int32).toInt := by rw [ex_9]; exact sub_toInt (by omega) (by omega)
        have t_x_27 : x_27.toInt = (x_26 : Int32).toInt - (1 : Int32).toInt := by rw [ex_27]; exact sub_toInt (by omega) (by omega)
        have t_x_45 : x_45.toInt = (84 : Int32).toInt + (sv_16 : Int32).toInt := by rw [ex_45]; exact add_toInt (by omega) (by omega)
        have hcl : (x_45 : Int32).toNatClampNeg = (x_45 : Int32).toInt.toNat := rfl
        omega
      have ku_g_51_0 : (g_51 0).toInt = ((Mf 6) 0).toInt := upd_toInt_ne eg_51 hr_52
      have hr_53 : 2 ≠ (x_45 : Int32).toNatClampNeg := by
        have z_1 : ¬ (r_18 : Int32).toInt = (0 : Int32).toInt := fun z => c_23 (Int32.toInt_inj.mp z)
        have z_2 : ¬ (r_37 : Int32).toInt = (0 : Int32).toInt := fun z => c_42 (Int32.toInt_inj.mp z)
        have y_0 : (0 : Int32).toInt = 0 := by decide
        have y_1 : (1 : Int32).toInt = 1 := by decide
        have y_84 : (84 : Int32).toInt = 84 := by decide
        have t_x_9 : x_9.toInt = (x_8 : Int32).toInt - (1 : Int32).toInt := by rw [ex_9]; exact sub_toInt (by omega) (by omega)
        have t_x_27 : x_27.toInt = (x_26 : Int32).toInt - (1 : Int32).toInt := by rw [ex_27]; exact sub_toInt (by omega) (by omega)
        have t_x_45 : x_45.toInt = (84 : Int32).toInt + (sv_16 : Int32).toInt := by rw [ex_45]; exact add_toInt (by omega) (by omega)
        have hcl : (x_45 : Int32).toNatClampNeg = (x_45 : Int32).toInt.toNat := rfl
        omega
      have ku_g_51_2 : (g_51 2).toInt = ((Mf 6) 2).toInt := upd_toInt_ne eg_51 hr_53
      have hr_54 : 3 ≠ (x_45 : Int32).toNatClampNeg := by
        have z_1 : ¬ (r_18 : Int32).toInt = (0 : Int32).toInt := fun z => c_23 (Int32.toInt_inj.mp z)
        have z_2 : ¬ (r_37 : Int32).toInt = (0 : Int32).toInt := fun z => c_42 (Int32.toInt_inj.mp z)
        have y_0 : (0 : Int32).toInt = 0 := by decide
        have y_1 : (1 : Int32).toInt = 1 := by decide
        have y_84 : (84 : Int32).toInt = 84 := by decide
        have t_x_9 : x_9.toInt = (x_8 : Int32).toInt - (1 : Int32).toInt := by rw [ex_9]; exact sub_toInt (by omega) (by omega)
        have t_x_27 : x_27.toInt = (x_26 : Int32).toInt - (1 : Int32).toInt := by rw [ex_27]; exact sub_toInt (by omega) (by omega)
        have t_x_45 : x_45.toInt = (84 : Int32).toInt + (sv_16 : Int32).toInt := by rw [ex_45]; exact add_toInt (by omega) (by omega)
        have hcl : (x_45 : Int32).toNatClampNeg = (x_45 : Int32).toInt.toNat := rfl
        omega
      have ku_g_51_3 : (g_51 3).toInt = ((Mf 6) 3).toInt := upd_toInt_ne eg_51 hr_54
      refine lv_iconst (v := 1) hx hb dX12_isWatchHere_63 (by decide) ?_
      have ha_55 : ((Mv 2) : Int32).toInt ≤ (sv_33 : Int32).toInt ∧ (sv_33 : Int32).toInt ≤ ((Mv 0) : Int32).toInt := by
        have z_1 : ¬ (r_18 : Int32).toInt = (0 : Int32).toInt := fun z => c_23 (Int32.toInt_inj.mp z)
        have z_2 : ¬ (r_37 : Int32).toInt = (0 : Int32).toInt := fun z => c_42 (Int32.toInt_inj.mp z)
        have y_0 : (0 : Int32).toInt = 0 := by decide
        have y_1 : (1 : Int32).toInt = 1 := by decide
        have t_x_9 : x_9.toInt = (x_8 : Int32).toInt - (1 : Int32).toInt := by rw [ex_9]; exact sub_toInt (by omega) (by omega)
        have t_x_27 : x_27.toInt = (x_26 : Int32).toInt - (1 : Int32).toInt := by rw [ex_27]; exact sub_toInt (by omega) (by omega)
        omega
      have hp_56 : (((1 : Int32).toInt = 0 ∧ ¬ (sv_34 : Int32).toInt = 0) ∨ ((1 : Int32).toInt = 1 ∧ ((g_51 2).toInt = ((Mf 6) 2).toInt ∧ (g_51 3).toInt = ((Mf 6) 3).toInt ∧ (g_51 0).toInt = ((Mf 6) 0).toInt) ∧ (sv_34 : Int32).toInt = 0)) := by
        have z_1 : ¬ (r_18 : Int32).toInt = (0 : Int32).toInt := fun z => c_23 (Int32.toInt_inj.mp z)
        have z_2 : ¬ (r_37 : Int32).toInt = (0 : Int32).toInt := fun z => c_42 (Int32.toInt_inj.mp z)
        have y_0 : (0 : Int32).toInt = 0 := by decide
        have y_1 : (1 : Int32).toInt = 1 := by decide
        have t_x_9 : x_9.toInt = (x_8 : Int32).toInt - (1 : Int32).toInt := by rw [ex_9]; exact sub_toInt (by omega) (by omega)
        have t_x_27 : x_27.toInt = (x_26 : Int32).toInt - (1 : Int32).toInt := by rw [ex_27]; exact sub_toInt (by omega) (by omega)
        have yr : (1 : Int32).toInt = 1 := by decide
        omega
      have hm_57 : (1 : Int32).toInt = 1 → (RdO g_51) ∧ (QfO (qz_k3 (rB (Mf 1) (Mv 0)) C (pNX (rB (Mf 1) (Mv 0)) (Mv 2))) (rB (Mf 1) (Mv 0)) sv_34 sv_33 g_51) := by
        intro h1r
        have ha_58 : RdO g_51 := RdO.of (by
          have z_1 : ¬ (r_18 : Int32).toInt = (0 : Int32).toInt := fun z => c_23 (Int32.toInt_inj.mp z)
          have z_2 : ¬ (r_37 : Int32).toInt = (0 : Int32).toInt := fun z => c_42 (Int32.toInt_inj.mp z)
          have y_0 : (0 : Int32).toInt = 0 := by decide
          have y_1 : (1 : Int32).toInt = 1 := by decide
          have t_x_9 : x_9.toInt = (x_8 : Int32).toInt - (1 : Int32).toInt := by rw [ex_9]; exact sub_toInt (by omega) (by omega)
          have t_x_27 : x_27.toInt = (x_26 : Int32).toInt - (1 : Int32).toInt := by rw [ex_27]; exact sub_toInt (by omega) (by omega)
          omega)
        have hn_59 : NmO (rB (Mf 1) (Mv 0)) 0 x_9.toInt sv_4 sv_16 sv_14 sv_15 := by
          have hq := pf_24
          rw [show (0 : Int32).toInt = 0 by decide] at hq
          exact hq
        have hi_60 : x_9.toInt = C 2 - 1 := by
          have hc := h_e 2 (by decide)
          have z_1 : ¬ (r_18 : Int32).toInt = (0 : Int32).toInt := fun z => c_23 (Int32.toInt_inj.mp z)
          have z_2 : ¬ (r_37 : Int32).toInt = (0 : Int32).toInt := fun z => c_42 (Int32.toInt_inj.mp z)
          have y_0 : (0 : Int32).toInt = 0 := by decide
          have y_1 : (1 : Int32).toInt = 1 := by decide
          have t_x_9 : x_9.toInt = (x_8 : Int32).toInt - (1 : Int32).toInt := by rw [ex_9]; exact sub_toInt (by omega) (by omega)
          have t_x_27 : x_27.toInt = (x_26 : Int32).toInt - (1 : Int32).toInt := by rw [ex_27]; exact sub_toInt (by omega) (by omega)
          omega
        have hn_61 : NmO (rB (Mf 1) (Mv 0)) 0 (C 2 - 1) sv_4 sv_16 sv_14 sv_15 := by
          rw [← hi_60]
          exact hn_59
        have hn_62 : NmO (rB (Mf 1) (Mv 0)) 0 x_27.toInt sv_14 sv_35 sv_33 sv_34 := by
          have hq := pf_43
          rw [show (0 : Int32).toInt = 0 by decide] at hq
          exact hq
        have hi_63 : x_27.toInt = C 3 - 1 := by
          have hc := h_e 3 (by decide)
          have z_1 : ¬ (r_18 : Int32).toInt = (0 : Int32).toInt := fun z => c_23 (Int32.toInt_inj.mp z)
          have z_2 : ¬ (r_37 : Int32).toInt = (0 : Int32).toInt := fun z => c_42 (Int32.toInt_inj.mp z)
          have y_0 : (0 : Int32).toInt = 0 := by decide
          have y_1 : (1 : Int32).toInt = 1 := by decide
          have t_x_9 : x_9.toInt = (x_8 : Int32).toInt - (1 : Int32).toInt := by rw [ex_9]; exact sub_toInt (by omega) (by omega)
          have t_x_27 : x_27.toInt = (x_26 : Int32).toInt - (1 : Int32).toInt := by rw [ex_27]; exact sub_toInt (by omega) (by omega)
          omega
        have hn_64 : NmO (rB (Mf 1) (Mv 0)) 0 (C 3 - 1) sv_14 sv_35 sv_33 sv_34 := by
          rw [← hi_63]
          exact hn_62
        have he_66 : g_51 = upd (Mf 6) (x_45 : Int32).toNatClampNeg ((Mf 6) (x_45 : Int32).toNatClampNeg ||| ((1 : Int32) <<< ((sv_35 : Int32) &&& 31))) := by rw [eg_51, ex_49, ex_47, ex_48]
        have hi_67 : C 2 ≤ 10 := by
          have hc := h_e 2 (by decide)
          have z_1 : ¬ (r_18 : Int32).toInt = (0 : Int32).toInt := fun z => c_23 (Int32.toInt_inj.mp z)
          have z_2 : ¬ (r_37 : Int32).toInt = (0 : Int32).toInt := fun z => c_42 (Int32.toInt_inj.mp z)
          have y_0 : (0 : Int32).toInt = 0 := by decide
          have y_1 : (1 : Int32).toInt = 1 := by decide
          have t_x_9 : x_9.toInt = (x_8 : Int32).toInt - (1 : Int32).toInt := by rw [ex_9]; exact sub_toInt (by omega) (by omega)
          have t_x_27 : x_27.toInt = (x_26 : Int32).toInt - (1 : Int32).toInt := by rw [ex_27]; exact sub_toInt (by omega) (by omega)
          omega
        have hi_68 : (x_45 : Int32).toInt = 84 + (sv_16 : Int32).toInt := by
          have z_1 : ¬ (r_18 : Int32).toInt = (0 : Int32).toInt := fun z => c_23 (Int32.toInt_inj.mp z)
          have z_2 : ¬ (r_37 : Int32).toInt = (0 : Int32).toInt := fun z => c_42 (Int32.toInt_inj.mp z)
          have y_0 : (0 : Int32).toInt = 0 := by decide
          have y_1 : (1 : Int32).toInt = 1 := by decide
          have y_84 : (84 : Int32).toInt = 84 := by decide
          have t_x_9 : x_9.toInt = (x_8 : Int32).toInt - (1 : Int32).toInt := by rw [ex_9]; exact sub_toInt (by omega) (by omega)
          have t_x_27 : x_27.toInt = (x_26 : Int32).toInt - (1 : Int32).toInt := by rw [ex_27]; exact sub_toInt (by omega) (by omega)
          have t_x_45 : x_45.toInt = (84 : Int32).toInt + (sv_16 : Int32).toInt := by rw [ex_45]; exact add_toInt (by omega) (by omega)
          omega
        have hf_65 : QfO (qz_k3 (rB (Mf 1) (Mv 0)) C (pNX (rB (Mf 1) (Mv 0)) (Mv 2))) (rB (Mf 1) (Mv 0)) sv_34 sv_33 g_51 := bk3_ok (RgO.ps h_lt pf_7 h_w) hn_61 hn_64 h_e hi_67 he_66 hi_68
        exact ⟨ha_58, hf_65⟩
      exact retI (v := 1) hx hb hr hlk (rfl) hP hD hS (sv_33, sv_34, sv_35, g_51) ⟨_, rfl, hp_56, ha_55, hm_57, (fun h => absurd h (by decide))⟩ [1, 2, 0] rfl rfl dX12_isWatchHere_64 (Nat.le_of_ble_eq_true rfl) (Nat.le_of_ble_eq_true rfl) rfl
    · skip
      have hz_70 : (r_37 : Int32).toInt = 0 := by
        have z_1 : ¬ (r_18 : Int32).toInt = (0 : Int32).toInt := fun z => c_23 (Int32.toInt_inj.mp z)
        have z_2 := congrArg Int32.toInt c_42
        have y_0 : (0 : Int32).toInt = 0 := by decide
        have y_1 : (1 : Int32).toInt = 1 := by decide
        have t_x_9 : x_9.toInt = (x_8 : Int32).toInt - (1 : Int32).toInt := by rw [ex_9]; exact sub_toInt (by omega) (by omega)
        have t_x_27 : x_27.toInt = (x_26 : Int32).toInt - (1 : Int32).toInt := by rw [ex_27]; exact sub_toInt (by omega) (by omega)
        omega
      obtain pf_69 := hm_41 hz_70
      have pf_69 : NmE (rB (Mf 1) (Mv 0)) (0 : Int32).toInt x_27.toInt sv_14 sv_34 := pf_69
      refine lv_iconst (v := 0) hx hb dX12_isWatchHere_43 (by decide) ?_
      have ha_71 : ((Mv 2) : Int32).toInt ≤ (sv_33 : Int32).toInt ∧ (sv_33 : Int32).toInt ≤ ((Mv 0) : Int32).toInt := by
        have z_1 : ¬ (r_18 : Int32).toInt = (0 : Int32).toInt := fun z => c_23 (Int32.toInt_inj.mp z)
        have z_2 := congrArg Int32.toInt c_42
        have y_0 : (0 : Int32).toInt = 0 := by decide
        have y_1 : (1 : Int32).toInt = 1 := by decide
        have t_x_9 : x_9.toInt = (x_8 : Int32).toInt - (1 : Int32).toInt := by rw [ex_9]; exact sub_toInt (by omega) (by omega)
        have t_x_27 : x_27.toInt = (x_26 : Int32).toInt - (1 : Int32).toInt := by rw [ex_27]; exact sub_toInt (by omega) (by omega)
        omega
      have hp_72 : (((0 : Int32).toInt = 0 ∧ ¬ (sv_34 : Int32).toInt = 0) ∨ ((0 : Int32).toInt = 1 ∧ (((Mf 6) 2).toInt = ((Mf 6) 2).toInt ∧ ((Mf 6) 3).toInt = ((Mf 6) 3).toInt ∧ ((Mf 6) 0).toInt = ((Mf 6) 0).toInt) ∧ (sv_34 : Int32).toInt = 0)) := by
        have z_1 : ¬ (r_18 : Int32).toInt = (0 : Int32).toInt := fun z => c_23 (Int32.toInt_inj.mp z)
        have z_2 := congrArg Int32.toInt c_42
        have y_0 : (0 : Int32).toInt = 0 := by decide
        have y_1 : (1 : Int32).toInt = 1 := by decide
        have t_x_9 : x_9.toInt = (x_8 : Int32).toInt - (1 : Int32).toInt := by rw [ex_9]; exact sub_toInt (by omega) (by omega)
        have t_x_27 : x_27.toInt = (x_26 : Int32).toInt - (1 : Int32).toInt := by rw [ex_27]; exact sub_toInt (by omega) (by omega)
        omega
      have hm_73 : (0 : Int32).toInt = 0 → (QfE (qz_k3 (rB (Mf 1) (Mv 0)) C (pNX (rB (Mf 1) (Mv 0)) (Mv 2))) sv_34) := by
        intro h1r
        have hn_74 : NmO (rB (Mf 1) (Mv 0)) 0 x_9.toInt sv_4 sv_16 sv_14 sv_15 := by
          have hq := pf_24
          rw [show (0 : Int32).toInt = 0 by decide] at hq
          exact hq
        have hi_75 : x_9.toInt = C 2 - 1 := by
          have hc := h_e 2 (by decide)
          have z_1 : ¬ (r_18 : Int32).toInt = (0 : Int32).toInt := fun z => c_23 (Int32.toInt_inj.mp z)
          have z_2 := congrArg Int32.toInt c_42
          have y_0 : (0 : Int32).toInt = 0 := by decide
          have y_1 : (1 : Int32).toInt = 1 := by decide
          have t_x_9 : x_9.toInt = (x_8 : Int32).toInt - (1 : Int32).toInt := by rw [ex_9]; exact sub_toInt (by omega) (by omega)
          have t_x_27 : x_27.toInt = (x_26 : Int32).toInt - (1 : Int32).toInt := by rw [ex_27]; exact sub_toInt (by omega) (by omega)
          omega
        have hn_76 : NmO (rB (Mf 1) (Mv 0)) 0 (C 2 - 1) sv_4 sv_16 sv_14 sv_15 := by
          rw [← hi_75]
          exact hn_74
        have hn_77 : NmE (rB (Mf 1) (Mv 0)) 0 x_27.toInt sv_14 sv_34 := by
          have hq := pf_69
          rw [show (0 : Int32).toInt = 0 by decide] at hq
          exact hq
        have hi_78 : x_27.toInt = C 3 - 1 := by
          have hc := h_e 3 (by decide)
          have z_1 : ¬ (r_18 : Int32).toInt = (0 : Int32).toInt := fun z => c_23 (Int32.toInt_inj.mp z)
          have z_2 := congrArg Int32.toInt c_42
          have y_0 : (0 : Int32).toInt = 0 := by decide
          have y_1 : (1 : Int32).toInt = 1 := by decide
          have t_x_9 : x_9.toInt = (x_8 : Int32).toInt - (1 : Int32).toInt := by rw [ex_9]; exact sub_toInt (by omega) (by omega)
          have t_x_27 : x_27.toInt = (x_26 : Int32).toInt - (1 : Int32).toInt := by rw [ex_27]; exact sub_toInt (by omega) (by omega)
          omega
        have hn_79 : NmE (rB (Mf 1) (Mv 0)) 0 (C 3 - 1) sv_14 sv_34 := by
          rw [← hi_78]
          exact hn_77
        have hf_80 : QfE (qz_k3 (rB (Mf 1) (Mv 0)) C (pNX (rB (Mf 1) (Mv 0)) (Mv 2))) sv_34 := bk3_2 (RgO.ps h_lt pf_7 h_w) hn_76 hn_79
        exact hf_80
      exact retI (v := 0) hx hb hr hlk (rfl) hP hD hS (sv_33, sv_34, sv_35, (Mf 6)) ⟨_, rfl, hp_72, ha_71, (fun h => absurd h (by decide)), hm_73⟩ [1, 2, 0] rfl rfl dX12_isWatchHere_44 (Nat.le_of_ble_eq_true rfl) (Nat.le_of_ble_eq_true rfl) rfl
  · skip
    have hz_82 : (r_18 : Int32).toInt = 0 := by
      have z_1 := congrArg Int32.toInt c_23
      have y_0 : (0 : Int32).toInt = 0 := by decide
      have y_1 : (1 : Int32).toInt = 1 := by decide
      have t_x_9 : x_9.toInt = (x_8 : Int32).toInt - (1 : Int32).toInt := by rw [ex_9]; exact sub_toInt (by omega) (by omega)
      omega
    obtain pf_81 := hm_22 hz_82
    have pf_81 : NmE (rB (Mf 1) (Mv 0)) (0 : Int32).toInt x_9.toInt sv_4 sv_15 := pf_81
    refine lv_iconst (v := 0) hx hb dX12_isWatchHere_20 (by decide) ?_
    have ha_83 : ((Mv 2) : Int32).toInt ≤ (sv_14 : Int32).toInt ∧ (sv_14 : Int32).toInt ≤ ((Mv 0) : Int32).toInt := by
      have z_1 := congrArg Int32.toInt c_23
      have y_0 : (0 : Int32).toInt = 0 := by decide
      have y_1 : (1 : Int32).toInt = 1 := by decide
      have t_x_9 : x_9.toInt = (x_8 : Int32).toInt - (1 : Int32).toInt := by rw [ex_9]; exact sub_toInt (by omega) (by omega)
      omega
    have hp_84 : (((0 : Int32).toInt = 0 ∧ ¬ (sv_15 : Int32).toInt = 0) ∨ ((0 : Int32).toInt = 1 ∧ (((Mf 6) 2).toInt = ((Mf 6) 2).toInt ∧ ((Mf 6) 3).toInt = ((Mf 6) 3).toInt ∧ ((Mf 6) 0).toInt = ((Mf 6) 0).toInt) ∧ (sv_15 : Int32).toInt = 0)) := by
      have z_1 := congrArg Int32.toInt c_23
      have y_0 : (0 : Int32).toInt = 0 := by decide
      have y_1 : (1 : Int32).toInt = 1 := by decide
      have t_x_9 : x_9.toInt = (x_8 : Int32).toInt - (1 : Int32).toInt := by rw [ex_9]; exact sub_toInt (by omega) (by omega)
      omega
    have hm_85 : (0 : Int32).toInt = 0 → (QfE (qz_k3 (rB (Mf 1) (Mv 0)) C (pNX (rB (Mf 1) (Mv 0)) (Mv 2))) sv_15) := by
      intro h1r
      have hn_86 : NmE (rB (Mf 1) (Mv 0)) 0 x_9.toInt sv_4 sv_15 := by
        have hq := pf_81
        rw [show (0 : Int32).toInt = 0 by decide] at hq
        exact hq
      have hi_87 : x_9.toInt = C 2 - 1 := by
        have hc := h_e 2 (by decide)
        have z_1 := congrArg Int32.toInt c_23
        have y_0 : (0 : Int32).toInt = 0 := by decide
        have y_1 : (1 : Int32).toInt = 1 := by decide
        have t_x_9 : x_9.toInt = (x_8 : Int32).toInt - (1 : Int32).toInt := by rw [ex_9]; exact sub_toInt (by omega) (by omega)
        omega
      have hn_88 : NmE (rB (Mf 1) (Mv 0)) 0 (C 2 - 1) sv_4 sv_15 := by
        rw [← hi_87]
        exact hn_86
      have hf_89 : QfE (qz_k3 (rB (Mf 1) (Mv 0)) C (pNX (rB (Mf 1) (Mv 0)) (Mv 2))) sv_15 := bk3_1 (RgO.ps h_lt pf_7 h_w) hn_88
      exact hf_89
    exact retI (v := 0) hx hb hr hlk (rfl) hP hD hS (sv_14, sv_15, sv_16, (Mf 6)) ⟨_, rfl, hp_84, ha_83, (fun h => absurd h (by decide)), hm_85⟩ [1, 2, 0] rfl rfl dX12_isWatchHere_21 (Nat.le_of_ble_eq_true rfl) (Nat.le_of_ble_eq_true rfl) rfl
set_option maxRecDepth 100000 in
theorem cu_zX12_isWatchHere (l : Launch) (D : va_G) (tc : Nat → ClassId) (sk : (Nat → Nat) × (Nat → Nat)) (Ma_0 : Nat) (Ma_1 : Nat) (Ma_2 : Nat) (Ma_3 : Nat) (Ma_4 : Nat) (Ma_5 : Nat) (Ma_6 : Nat) (Ma_7 : Nat) (Ma_8 : Nat) (Ma_9 : Nat) (Ma_10 : Nat) (Ma_11 : Nat) (Ma_12 : Nat) (Ma_13 : Nat) (Ma_14 : Nat) (Ma_15 : Nat) (Ma_16 : Nat) (Ma_17 : Nat) (Ma_18 : Nat) (Ma_19 : Nat) (Ma_20 : Nat) (Mv_0 : Int32) (Mv_1 : Int32) (Mv_2 : Int32) (Mv_3 : Int32) (Mv_4 : Int32) (Mv_5 : Int32) (Mv_6 : Int32) (Mv_7 : Int32) (Mv_8 : Int32) (Mv_9 : Int32) (Mv_10 : Int32) (Mv_11 : Int32) (Mv_12 : Int32) (Mv_13 : Int32) (Mv_14 : Int32) (Mf_1 : Nat → Int32) (Mf_6 : Nat → Int32) (Mj_0 : Int64) (C : Nat → Int) (h_nx : 0 ≤ (Mv_2 : Int32).toInt ∧ (Mv_2 : Int32).toInt ≤ (Mv_0 : Int32).toInt ∧ (Mv_0 : Int32).toInt ≤ 400) (h_ro : RdO Mf_6) (h_f1 : (Mf_6 0).toInt = 1) (h_bs : ByS Mf_1) (h_w : (Mv_3 : Int32).toInt = 0) (h_lt : LtH (rB Mf_1 Mv_0) Mv_2) (h_e : RdE Mf_6 C) : Ct l yX12_isWatchHere cX12_isWatchHere 2 (some .boolean) { frames := 2, cells := 0, slots := 0, locals := 49 } D tc sk [.ref Ma_0] [(Ma_0, .inr (12, [.ref Ma_1, .int Mv_0, .int Mv_1, .ref Ma_2, .ref Ma_3, .ref Ma_4, .ref Ma_5, .ref Ma_6, .int Mv_2, .int Mv_3, .int Mv_4, .int Mv_5, .int Mv_6, .int Mv_7, .int Mv_8, .ref Ma_7, .int Mv_9, .ref Ma_8, .int Mv_10, .ref Ma_9, .ref Ma_10, .int Mv_11, .int Mv_12, .int Mv_13, .ref Ma_11, .int Mv_14, .ref Ma_12, .ref Ma_13, .ref Ma_14, .ref Ma_15, .ref Ma_16, .long Mj_0, .ref Ma_17, .ref Ma_18, .ref Ma_19, .ref Ma_20])), (Ma_1, .inl (tc 2, 400, .inl Mf_1)), (Ma_6, .inl (tc 0, 95, .inl Mf_6))] (fun (v : Option Value) (u : (Int32) × (Int32) × (Int32) × (Nat → Int32)) => match u with | (oo0x1, oo0x2, oo0x3, oo0x4) => ∃ r : Int32, v = some (.int r) ∧ (((r.toInt = 0 ∧ ¬ (oo0x2 : Int32).toInt = 0) ∨ (r.toInt = 1 ∧ ((oo0x4 2).toInt = (Mf_6 2).toInt ∧ (oo0x4 3).toInt = (Mf_6 3).toInt ∧ (oo0x4 0).toInt = (Mf_6 0).toInt) ∧ (oo0x2 : Int32).toInt = 0))) ∧ ((Mv_2 : Int32).toInt ≤ (oo0x1 : Int32).toInt ∧ (oo0x1 : Int32).toInt ≤ (Mv_0 : Int32).toInt) ∧ (r.toInt = 1 → (RdO oo0x4) ∧ (QfO (qz_k3 (rB Mf_1 Mv_0) C (pNX (rB Mf_1 Mv_0) Mv_2)) (rB Mf_1 Mv_0) oo0x2 oo0x1 oo0x4)) ∧ (r.toInt = 0 → (QfE (qz_k3 (rB Mf_1 Mv_0) C (pNX (rB Mf_1 Mv_0) Mv_2)) oo0x2))) (fun (u : (Int32) × (Int32) × (Int32) × (Nat → Int32)) => match u with | (oo0x1, oo0x2, oo0x3, oo0x4) => [(Ma_0, .inr (12, [.ref Ma_1, .int Mv_0, .int Mv_1, .ref Ma_2, .ref Ma_3, .ref Ma_4, .ref Ma_5, .ref Ma_6, .int oo0x1, .int oo0x2, .int oo0x3, .int Mv_5, .int Mv_6, .int Mv_7, .int Mv_8, .ref Ma_7, .int Mv_9, .ref Ma_8, .int Mv_10, .ref Ma_9, .ref Ma_10, .int Mv_11, .int Mv_12, .int Mv_13, .ref Ma_11, .int Mv_14, .ref Ma_12, .ref Ma_13, .ref Ma_14, .ref Ma_15, .ref Ma_16, .long Mj_0, .ref Ma_17, .ref Ma_18, .ref Ma_19, .ref Ma_20])), (Ma_1, .inl (tc 2, 400, .inl Mf_1)), (Ma_6, .inl (tc 0, 95, .inl oo0x4))]) 0 0 :=
  ct_zX12_isWatchHere l D tc sk (fun k => ([Ma_0, Ma_1, Ma_2, Ma_3, Ma_4, Ma_5, Ma_6, Ma_7, Ma_8, Ma_9, Ma_10, Ma_11, Ma_12, Ma_13, Ma_14, Ma_15, Ma_16, Ma_17, Ma_18, Ma_19, Ma_20] : List (Nat)).getD k 0) (fun k => ([Mv_0, Mv_1, Mv_2, Mv_3, Mv_4, Mv_5, Mv_6, Mv_7, Mv_8, Mv_9, Mv_10, Mv_11, Mv_12, Mv_13, Mv_14] : List (Int32)).getD k 0) (fun k => ([(fun _ => 0), Mf_1, (fun _ => 0), (fun _ => 0), (fun _ => 0), (fun _ => 0), Mf_6] : List (Nat → Int32)).getD k (fun _ => 0)) (fun k => ([Mj_0] : List (Int64)).getD k 0) C h_nx h_ro h_f1 h_bs h_w h_lt h_e
