set_option maxRecDepth 16384
set_option maxHeartbeats 4000000 in
set_option maxRecDepth 100000 in
theorem ct_kX12_closes (l : Launch) (D : va_G) (tc : Nat → ClassId) (sk : (Nat → Nat) × (Nat → Nat)) (Ma : Nat → Nat) (Mv : Nat → Int32) (Mf : Nat → Nat → Int32) (Mj : Nat → Int64) (b : Int32) (R : Except Int (Nat × Nat)) (TC : List Int) (h_nx : 0 ≤ ((Mv 2) : Int32).toInt ∧ ((Mv 2) : Int32).toInt ≤ ((Mv 0) : Int32).toInt ∧ ((Mv 0) : Int32).toInt ≤ 400) (h_ls : LSR (Mf 7) (Mv 9) (Mf 2) (Mf 3) (Mv 5) b (Mv 6)) (h_s : ((Mf 3) (Mv 5).toNatClampNeg).toInt + ((Mv 9) : Int32).toInt ≤ ((Mv 2) : Int32).toInt) (h_bs : ByS (Mf 1)) (h_fo : FcO R (rB (Mf 1) (Mv 0)) (Mf 7) (Mv 9) (Mv 7) (Mv 2) (Mv 6) (Mv 3)) (h_fb : FcB TC R (rB (Mf 1) (Mv 0)) (Mf 7) (Mv 9) (Mv 2) (Mv 6) (Mf 2) (Mf 3) (Mv 5)) (h_tx : 0 ≤ (Mv 5).toInt) : Ct l yX12_closes cX12_closes 1 none { frames := 2, cells := 0, slots := 0, locals := 43 } D tc sk [.ref (Ma 0)] [((Ma 0), .inr (12, [.ref (Ma 1), .int (Mv 0), .int (Mv 1), .ref (Ma 2), .ref (Ma 3), .ref (Ma 4), .ref (Ma 5), .ref (Ma 6), .int (Mv 2), .int (Mv 3), .int (Mv 4), .int (Mv 5), .int (Mv 6), .int (Mv 7), .int (Mv 8), .ref (Ma 7), .int (Mv 9), .ref (Ma 8), .int (Mv 10), .ref (Ma 9), .ref (Ma 10), .int (Mv 11), .int (Mv 12), .int (Mv 13), .ref (Ma 11), .int (Mv 14), .ref (Ma 12), .ref (Ma 13), .ref (Ma 14), .ref (Ma 15), .ref (Ma 16), .long (Mj 0), .ref (Ma 17), .ref (Ma 18), .ref (Ma 19), .ref (Ma 20)])), ((Ma 1), .inl (tc 2, 400, .inl (Mf 1))), ((Ma 2), .inl (tc 0, 2400, .inl (Mf 2))), ((Ma 3), .inl (tc 0, 7, .inl (Mf 3))), ((Ma 7), .inl (tc 0, 400, .inl (Mf 7)))] (fun (v : Option Value) (u : (Int32) × (Int32) × (Int32) × (Nat → Int32) × (Nat → Int32)) => match u with | (oo0x1, oo0x2, oo0x3, oo0x4, oo0x5) => v = none ∧ (((Mv 2) : Int32).toInt ≤ (oo0x1 : Int32).toInt ∧ (oo0x1 : Int32).toInt ≤ ((Mv 0) : Int32).toInt) ∧ (Agr (Mf 2) oo0x4 (400 * ((Mv 5) : Int32).toInt + ((Mf 3) (Mv 5).toNatClampNeg).toInt)) ∧ (LSR (Mf 7) oo0x3 oo0x4 oo0x5 (Mv 5) b (Mv 6)) ∧ ((oo0x5 (Mv 5).toNatClampNeg).toInt + (oo0x3 : Int32).toInt + ((Mv 2) : Int32).toInt ≤ ((Mf 3) (Mv 5).toNatClampNeg).toInt + ((Mv 9) : Int32).toInt + (oo0x1 : Int32).toInt ∧ ((Mf 3) (Mv 5).toNatClampNeg).toInt ≤ (oo0x5 (Mv 5).toNatClampNeg).toInt) ∧ (FcO R (rB (Mf 1) (Mv 0)) (Mf 7) oo0x3 oo0x2 oo0x1 (Mv 6) (Mv 3)) ∧ (T11 (Mf 7) oo0x3) ∧ (NBr (rB (Mf 1) (Mv 0)) (Mf 7) oo0x3 oo0x1) ∧ (FcB TC R (rB (Mf 1) (Mv 0)) (Mf 7) oo0x3 oo0x1 (Mv 6) oo0x4 oo0x5 (Mv 5))) (fun (u : (Int32) × (Int32) × (Int32) × (Nat → Int32) × (Nat → Int32)) => match u with | (oo0x1, oo0x2, oo0x3, oo0x4, oo0x5) => [((Ma 0), .inr (12, [.ref (Ma 1), .int (Mv 0), .int (Mv 1), .ref (Ma 2), .ref (Ma 3), .ref (Ma 4), .ref (Ma 5), .ref (Ma 6), .int oo0x1, .int (Mv 3), .int (Mv 4), .int (Mv 5), .int (Mv 6), .int oo0x2, .int (Mv 8), .ref (Ma 7), .int oo0x3, .ref (Ma 8), .int (Mv 10), .ref (Ma 9), .ref (Ma 10), .int (Mv 11), .int (Mv 12), .int (Mv 13), .ref (Ma 11), .int (Mv 14), .ref (Ma 12), .ref (Ma 13), .ref (Ma 14), .ref (Ma 15), .ref (Ma 16), .long (Mj 0), .ref (Ma 17), .ref (Ma 18), .ref (Ma 19), .ref (Ma 20)])), ((Ma 1), .inl (tc 2, 400, .inl (Mf 1))), ((Ma 2), .inl (tc 0, 2400, .inl oo0x4)), ((Ma 3), .inl (tc 0, 7, .inl oo0x5)), ((Ma 7), .inl (tc 0, 400, .inl (Mf 7)))]) 0 0 := by
  refine Ct.start (by decide) (Nat.le_of_ble_eq_true rfl) (fun p e s m below meth c A ls hx hb hr hlk hin hml hown hts hK hX hP hD hA hl hS => ?_)
  have hl : lv_has ls 1 [(0, .ref (Ma 0))] := hl
  obtain ⟨pn_1, pf_2, pf_3⟩ := id h_ls
  have ar_h_ls := LSR.ar h_ls
  have ar_pf_3 := Cd.ar pf_3
  have ar_h_fo := OsP.ar h_fo.1
  have aw_h_fo := h_fo.2.1
  obtain ⟨lq_4, pf_5, pf_6, pf_7⟩ := id h_fb
  refine lv_aload_n hx hb dX12_closes_0 rfl (lv_at hl 0 rfl) ?_
  refine lv_iconst (v := 3) hx hb dX12_closes_1 (by decide) ?_
  have ha_8 : 1 ≤ (3 : Int32).toInt ∧ (3 : Int32).toInt ≤ 3 := by
    have y_3 : (3 : Int32).toInt = 3 := by decide
    omega
  have ha_9 : ((Mf 3) (Mv 5).toNatClampNeg).toInt + ((Mv 9) : Int32).toInt ≤ 400 := by
    omega
  refine cV (a := (Ma 0)) (As := [.int 3]) (rest := []) (wr := [((Ma 1), .inl (tc 2, 400, .inl (Mf 1)))]) ⟨hx, hb, hml, hown, hts⟩ hK hX hA (cu_kX12_layDown l D tc sk (Ma 0) (Ma 1) (Ma 2) (Ma 3) (Ma 4) (Ma 5) (Ma 6) (Ma 7) (Ma 8) (Ma 9) (Ma 10) (Ma 11) (Ma 12) (Ma 13) (Ma 14) (Ma 15) (Ma 16) (Ma 17) (Ma 18) (Ma 19) (Ma 20) (Mv 0) (Mv 1) (Mv 2) (Mv 3) (Mv 4) (Mv 5) (Mv 6) (Mv 7) (Mv 8) (Mv 9) (Mv 10) (Mv 11) (Mv 12) (Mv 13) (Mv 14) (Mf 2) (Mf 3) (Mf 7) (Mj 0) 3 b lq_4 h_ls ha_8 ha_9 h_fo.1 pf_5 h_tx) k_1342 k_1339 k_1341 k_54 k_106 pl_X12_layDown ⟨Nat.le_of_ble_eq_true rfl, Nat.le_of_ble_eq_true rfl⟩ rfl rfl (va_recv hK hP (ci := 12) (q0 := 0) rfl rfl) hP hD hS [0, 2, 3, 4] [1] rfl rfl rfl rfl rfl (by decide) rfl hl.1 rfl (Nat.le_of_ble_eq_true rfl) dX12_closes_2 ⟨Nat.le_of_ble_eq_true rfl, Nat.le_of_ble_eq_true rfl⟩ (fun v_10 u_11 H locs hv_12 hP₀ hD₀ hS₀ => ?_)
  obtain ⟨sv_13, sv_14, sv_15, sv_16⟩ := u_11
  obtain ⟨rfl, pf_17, pf_18, pf_19, pf_20, pf_21, pf_22, pf_23, pf_24, pf_25⟩ := hv_12
  have pf_17 : LSR (Mf 7) sv_14 sv_15 sv_16 (Mv 5) b (Mv 6) := pf_17
  obtain ⟨pn_26, pf_27, pf_28⟩ := id pf_17
  have ar_pf_17 := LSR.ar pf_17
  have ar_pf_28 := Cd.ar pf_28
  have pf_18 : (sv_16 (Mv 5).toNatClampNeg).toInt + (sv_14 : Int32).toInt = ((Mf 3) (Mv 5).toNatClampNeg).toInt + ((Mv 9) : Int32).toInt ∧ 0 ≤ (sv_14 : Int32).toInt ∧ (sv_14 : Int32).toInt ≤ ((Mv 9) : Int32).toInt := pf_18
  have pf_19 : Agr (Mf 2) sv_15 (400 * ((Mv 5) : Int32).toInt + ((Mf 3) (Mv 5).toNatClampNeg).toInt) := pf_19
  have pf_20 : LdE (Mf 7) sv_14 (3 : Int32) := pf_20
  have pf_21 : InK (Mf 7) (Mv 9) sv_14 := pf_21
  have pf_22 : LdP (Mf 7) (Mv 9) sv_14 sv_13 := pf_22
  have ar_pf_22 := OsP.ar pf_22.1
  have pf_23 : T11 (Mf 7) sv_14 := pf_23
  have pf_24 : LdC (Mf 7) (Mv 9) sv_14 sv_15 sv_16 (Mv 5) lq_4 (3 : Int32) := pf_24
  have pf_25 : LdS (Mf 7) sv_14 (3 : Int32) := pf_25
  refine W.eq (g2 := F0 m 5 ls []) rfl ?_
  replace hP : va_P D classes [((Ma 1), .inl (tc 2, 400, .inl (Mf 1))), ((Ma 0), .inr (12, [.ref (Ma 1), .int (Mv 0), .int (Mv 1), .ref (Ma 2), .ref (Ma 3), .ref (Ma 4), .ref (Ma 5), .ref (Ma 6), .int (Mv 2), .int (Mv 3), .int (Mv 4), .int (Mv 5), .int (Mv 6), .int sv_13, .int (Mv 8), .ref (Ma 7), .int sv_14, .ref (Ma 8), .int (Mv 10), .ref (Ma 9), .ref (Ma 10), .int (Mv 11), .int (Mv 12), .int (Mv 13), .ref (Ma 11), .int (Mv 14), .ref (Ma 12), .ref (Ma 13), .ref (Ma 14), .ref (Ma 15), .ref (Ma 16), .long (Mj 0), .ref (Ma 17), .ref (Ma 18), .ref (Ma 19), .ref (Ma 20)])), ((Ma 2), .inl (tc 0, 2400, .inl sv_15)), ((Ma 3), .inl (tc 0, 7, .inl sv_16)), ((Ma 7), .inl (tc 0, 400, .inl (Mf 7)))] H := hP₀
  replace hD : va_D A [((Ma 1), .inl (tc 2, 400, .inl (Mf 1))), ((Ma 0), .inr (12, [.ref (Ma 1), .int (Mv 0), .int (Mv 1), .ref (Ma 2), .ref (Ma 3), .ref (Ma 4), .ref (Ma 5), .ref (Ma 6), .int (Mv 2), .int (Mv 3), .int (Mv 4), .int (Mv 5), .int (Mv 6), .int sv_13, .int (Mv 8), .ref (Ma 7), .int sv_14, .ref (Ma 8), .int (Mv 10), .ref (Ma 9), .ref (Ma 10), .int (Mv 11), .int (Mv 12), .int (Mv 13), .ref (Ma 11), .int (Mv 14), .ref (Ma 12), .ref (Ma 13), .ref (Ma 14), .ref (Ma 15), .ref (Ma 16), .long (Mj 0), .ref (Ma 17), .ref (Ma 18), .ref (Ma 19), .ref (Ma 20)])), ((Ma 2), .inl (tc 0, 2400, .inl sv_15)), ((Ma 3), .inl (tc 0, 7, .inl sv_16)), ((Ma 7), .inl (tc 0, 400, .inl (Mf 7)))] := hD₀
  replace hS := hS₀
  clear hP₀ hD₀ hS₀
  have loop_41 : ∀ (n_39 : Nat) (vy_34 : Int32) (vy_35 : Int32) (vy_36 : Int32) (vy_37 : Nat → Int32) (vy_38 : Nat → Int32) (H : Heap) (locs : List Loc) (ls : Array Slot), (401 - (vy_34 : Int32).toInt).toNat < n_39 → (0 ≤ (vy_34 : Int32).toInt ∧ (vy_34 : Int32).toInt ≤ ((Mv 0) : Int32).toInt ∧ ((Mv 0) : Int32).toInt ≤ 400) → ((Mv 2).toInt ≤ (vy_34 : Int32).toInt) → (LSR (Mf 7) vy_36 vy_37 vy_38 (Mv 5) b (Mv 6)) → ((vy_38 (Mv 5).toNatClampNeg).toInt + (vy_36 : Int32).toInt + ((Mv 2) : Int32).toInt ≤ ((Mf 3) (Mv 5).toNatClampNeg).toInt + ((Mv 9) : Int32).toInt + (vy_34 : Int32).toInt ∧ ((Mf 3) (Mv 5).toNatClampNeg).toInt ≤ (vy_38 (Mv 5).toNatClampNeg).toInt) → (Agr (Mf 2) vy_37 (400 * ((Mv 5) : Int32).toInt + ((Mf 3) (Mv 5).toNatClampNeg).toInt)) → (FcO R (rB (Mf 1) (Mv 0)) (Mf 7) vy_36 vy_35 vy_34 (Mv 6) (Mv 3)) → (T11 (Mf 7) vy_36) → (FcB TC R (rB (Mf 1) (Mv 0)) (Mf 7) vy_36 vy_34 (Mv 6) vy_37 vy_38 (Mv 5)) → va_P D classes [((Ma 1), .inl (tc 2, 400, .inl (Mf 1))), ((Ma 0), .inr (12, [.ref (Ma 1), .int (Mv 0), .int (Mv 1), .ref (Ma 2), .ref (Ma 3), .ref (Ma 4), .ref (Ma 5), .ref (Ma 6), .int vy_34, .int (Mv 3), .int (Mv 4), .int (Mv 5), .int (Mv 6), .int vy_35, .int (Mv 8), .ref (Ma 7), .int vy_36, .ref (Ma 8), .int (Mv 10), .ref (Ma 9), .ref (Ma 10), .int (Mv 11), .int (Mv 12), .int (Mv 13), .ref (Ma 11), .int (Mv 14), .ref (Ma 12), .ref (Ma 13), .ref (Ma 14), .ref (Ma 15), .ref (Ma 16), .long (Mj 0), .ref (Ma 17), .ref (Ma 18), .ref (Ma 19), .ref (Ma 20)])), ((Ma 2), .inl (tc 0, 2400, .inl vy_37)), ((Ma 3), .inl (tc 0, 7, .inl vy_38)), ((Ma 7), .inl (tc 0, 400, .inl (Mf 7)))] H → va_D A [((Ma 1), .inl (tc 2, 400, .inl (Mf 1))), ((Ma 0), .inr (12, [.ref (Ma 1), .int (Mv 0), .int (Mv 1), .ref (Ma 2), .ref (Ma 3), .ref (Ma 4), .ref (Ma 5), .ref (Ma 6), .int vy_34, .int (Mv 3), .int (Mv 4), .int (Mv 5), .int (Mv 6), .int vy_35, .int (Mv 8), .ref (Ma 7), .int vy_36, .ref (Ma 8), .int (Mv 10), .ref (Ma 9), .ref (Ma 10), .int (Mv 11), .int (Mv 12), .int (Mv 13), .ref (Ma 11), .int (Mv 14), .ref (Ma 12), .ref (Ma 13), .ref (Ma 14), .ref (Ma 15), .ref (Ma 16), .long (Mj 0), .ref (Ma 17), .ref (Ma 18), .ref (Ma 19), .ref (Ma 20)])), ((Ma 2), .inl (tc 0, 2400, .inl vy_37)), ((Ma 3), .inl (tc 0, 7, .inl vy_38)), ((Ma 7), .inl (tc 0, 400, .inl (Mf 7)))] → va_S A s.heap H locs → lv_has ls 1 [(0, .ref (Ma 0))] → W p l e ({ frames := 2, cells := 0, slots := 0, locals := 43 }) s m ([.ref (Ma 0)].toArray) below meth c H locs 0 0 (MQ below (QW (fun (v : Option Value) (u : (Int32) × (Int32) × (Int32) × (Nat → Int32) × (Nat → Int32)) => match u with | (oo0x1, oo0x2, oo0x3, oo0x4, oo0x5) => v = none ∧ (((Mv 2) : Int32).toInt ≤ (oo0x1 : Int32).toInt ∧ (oo0x1 : Int32).toInt ≤ ((Mv 0) : Int32).toInt) ∧ (Agr (Mf 2) oo0x4 (400 * ((Mv 5) : Int32).toInt + ((Mf 3) (Mv 5).toNatClampNeg).toInt)) ∧ (LSR (Mf 7) oo0x3 oo0x4 oo0x5 (Mv 5) b (Mv 6)) ∧ ((oo0x5 (Mv 5).toNatClampNeg).toInt + (oo0x3 : Int32).toInt + ((Mv 2) : Int32).toInt ≤ ((Mf 3) (Mv 5).toNatClampNeg).toInt + ((Mv 9) : Int32).toInt + (oo0x1 : Int32).toInt ∧ ((Mf 3) (Mv 5).toNatClampNeg).toInt ≤ (oo0x5 (Mv 5).toNatClampNeg).toInt) ∧ (FcO R (rB (Mf 1) (Mv 0)) (Mf 7) oo0x3 oo0x2 oo0x1 (Mv 6) (Mv 3)) ∧ (T11 (Mf 7) oo0x3) ∧ (NBr (rB (Mf 1) (Mv 0)) (Mf 7) oo0x3 oo0x1) ∧ (FcB TC R (rB (Mf 1) (Mv 0)) (Mf 7) oo0x3 oo0x1 (Mv 6) oo0x4 oo0x5 (Mv 5))) (BW D (fun (u : (Int32) × (Int32) × (Int32) × (Nat → Int32) × (Nat → Int32)) => match u with | (oo0x1, oo0x2, oo0x3, oo0x4, oo0x5) => [((Ma 0), .inr (12, [.ref (Ma 1), .int (Mv 0), .int (Mv 1), .ref (Ma 2), .ref (Ma 3), .ref (Ma 4), .ref (Ma 5), .ref (Ma 6), .int oo0x1, .int (Mv 3), .int (Mv 4), .int (Mv 5), .int (Mv 6), .int oo0x2, .int (Mv 8), .ref (Ma 7), .int oo0x3, .ref (Ma 8), .int (Mv 10), .ref (Ma 9), .ref (Ma 10), .int (Mv 11), .int (Mv 12), .int (Mv 13), .ref (Ma 11), .int (Mv 14), .ref (Ma 12), .ref (Ma 13), .ref (Ma 14), .ref (Ma 15), .ref (Ma 16), .long (Mj 0), .ref (Ma 17), .ref (Ma 18), .ref (Ma 19), .ref (Ma 20)])), ((Ma 1), .inl (tc 2, 400, .inl (Mf 1))), ((Ma 2), .inl (tc 0, 2400, .inl oo0x4)), ((Ma 3), .inl (tc 0, 7, .inl oo0x5)), ((Ma 7), .inl (tc 0, 400, .inl (Mf 7)))]) A) A) ([.ref (Ma 0)].toArray) s 0 0 A) (F0 m 5 ls []) := by
    clear hP hD hS hl
    intro n_39
    induction n_39 with
    | zero =>
      intro vy_34 vy_35 vy_36 vy_37 vy_38 H locs ls h1
      exact absurd h1 (Nat.not_lt_zero _)
    | succ n_39 ih_40 =>
      intro vy_34 vy_35 vy_36 vy_37 vy_38 H locs ls hn_50 pf_42 pf_43 pf_44 pf_45 pf_46 pf_47 pf_48 pf_49 hP hD hS hl
      obtain ⟨pn_51, pf_52, pf_53⟩ := id pf_44
      have ar_pf_44 := LSR.ar pf_44
      have ar_pf_53 := Cd.ar pf_53
      have ar_pf_47 := OsP.ar pf_47.1
      have aw_pf_47 := pf_47.2.1
      obtain ⟨lq_54, pf_55, pf_56, pf_57⟩ := id pf_49
      refine lv_aload_n hx hb dX12_closes_5 rfl (lv_at hl 0 rfl) ?_
      refine cV (a := (Ma 0)) (As := []) (rest := []) (wr := [((Ma 2), .inl (tc 0, 2400, .inl vy_37)), ((Ma 3), .inl (tc 0, 7, .inl vy_38)), ((Ma 7), .inl (tc 0, 400, .inl (Mf 7)))]) ⟨hx, hb, hml, hown, hts⟩ hK hX hA (cu_fX12_see l D tc sk (Ma 0) (Ma 1) (Ma 2) (Ma 3) (Ma 4) (Ma 5) (Ma 6) (Ma 7) (Ma 8) (Ma 9) (Ma 10) (Ma 11) (Ma 12) (Ma 13) (Ma 14) (Ma 15) (Ma 16) (Ma 17) (Ma 18) (Ma 19) (Ma 20) (Mv 0) (Mv 1) vy_34 (Mv 3) (Mv 4) (Mv 5) (Mv 6) vy_35 (Mv 8) vy_36 (Mv 10) (Mv 11) (Mv 12) (Mv 13) (Mv 14) (Mf 1) (Mj 0) pf_42 h_bs) k_1211 k_1208 k_1210 k_27 k_106 pl_X12_see ⟨Nat.le_of_ble_eq_true rfl, Nat.le_of_ble_eq_true rfl⟩ rfl rfl (va_recv hK hP (ci := 12) (q0 := 1) rfl rfl) hP hD hS [1, 0] [2, 3, 4] rfl rfl rfl rfl rfl (by decide) rfl hl.1 rfl (Nat.le_of_ble_eq_true rfl) dX12_closes_6 ⟨Nat.le_of_ble_eq_true rfl, Nat.le_of_ble_eq_true rfl⟩ (fun v_58 u_59 H locs hv_60 hP₀ hD₀ hS₀ => ?_)
      obtain ⟨sv_61, rfl⟩ : ∃ z, z = u_59 := ⟨_, rfl⟩
      obtain ⟨r_66, rfl, he_67, pf_62, pf_63, pf_64, pf_65⟩ := hv_60
      have he_67 : (r_66.toInt = rB (Mf 1) (Mv 0) (sv_61 : Int32).toInt.toNat ∧ (r_66.toInt = -1 ∨ (sv_61 : Int32).toInt < (Mv 0).toInt)) := he_67
      have pf_62 : (vy_34 : Int32).toInt ≤ (sv_61 : Int32).toInt ∧ (sv_61 : Int32).toInt ≤ ((Mv 0) : Int32).toInt := pf_62
      have pf_63 : NSq (Mf 1) (Mv 0) sv_61 := pf_63
      have pf_64 : Stl (Mf 1) (Mv 0) vy_34 sv_61 := pf_64
      have pf_65 : SkR (rB (Mf 1) (Mv 0)) vy_34 sv_61 := pf_65
      refine W.eq (g2 := F0 m 9 ls [.int r_66]) rfl ?_
      replace hP : va_P D classes [((Ma 2), .inl (tc 0, 2400, .inl vy_37)), ((Ma 3), .inl (tc 0, 7, .inl vy_38)), ((Ma 7), .inl (tc 0, 400, .inl (Mf 7))), ((Ma 0), .inr (12, [.ref (Ma 1), .int (Mv 0), .int (Mv 1), .ref (Ma 2), .ref (Ma 3), .ref (Ma 4), .ref (Ma 5), .ref (Ma 6), .int sv_61, .int (Mv 3), .int (Mv 4), .int (Mv 5), .int (Mv 6), .int vy_35, .int (Mv 8), .ref (Ma 7), .int vy_36, .ref (Ma 8), .int (Mv 10), .ref (Ma 9), .ref (Ma 10), .int (Mv 11), .int (Mv 12), .int (Mv 13), .ref (Ma 11), .int (Mv 14), .ref (Ma 12), .ref (Ma 13), .ref (Ma 14), .ref (Ma 15), .ref (Ma 16), .long (Mj 0), .ref (Ma 17), .ref (Ma 18), .ref (Ma 19), .ref (Ma 20)])), ((Ma 1), .inl (tc 2, 400, .inl (Mf 1)))] H := hP₀
      replace hD : va_D A [((Ma 2), .inl (tc 0, 2400, .inl vy_37)), ((Ma 3), .inl (tc 0, 7, .inl vy_38)), ((Ma 7), .inl (tc 0, 400, .inl (Mf 7))), ((Ma 0), .inr (12, [.ref (Ma 1), .int (Mv 0), .int (Mv 1), .ref (Ma 2), .ref (Ma 3), .ref (Ma 4), .ref (Ma 5), .ref (Ma 6), .int sv_61, .int (Mv 3), .int (Mv 4), .int (Mv 5), .int (Mv 6), .int vy_35, .int (Mv 8), .ref (Ma 7), .int vy_36, .ref (Ma 8), .int (Mv 10), .ref (Ma 9), .ref (Ma 10), .int (Mv 11), .int (Mv 12), .int (Mv 13), .ref (Ma 11), .int (Mv 14), .ref (Ma 12), .ref (Ma 13), .ref (Ma 14), .ref (Ma 15), .ref (Ma 16), .long (Mj 0), .ref (Ma 17), .ref (Ma 18), .ref (Ma 19), .ref (Ma 20)])), ((Ma 1), .inl (tc 2, 400, .inl (Mf 1)))] := hD₀
      replace hS := hS₀
      clear hP₀ hD₀ hS₀
      refine lv_bipush (v := 93) hx hb dX12_closes_9 (by decide) ?_
      refine lv_icmp_ne (tgt := 64) hx hb dX12_closes_11 (by decide) (fun c_69 => ?_) (fun c_69 => ?_)
      · skip
        have ha_70 : ((Mv 2) : Int32).toInt ≤ (sv_61 : Int32).toInt ∧ (sv_61 : Int32).toInt ≤ ((Mv 0) : Int32).toInt := by
          have z_1 : ¬ (r_66 : Int32).toInt = (93 : Int32).toInt := fun z => c_69 (Int32.toInt_inj.mp z)
          have y_93 : (93 : Int32).toInt = 93 := by decide
          omega
        have ha_71 : (vy_38 (Mv 5).toNatClampNeg).toInt + (vy_36 : Int32).toInt + ((Mv 2) : Int32).toInt ≤ ((Mf 3) (Mv 5).toNatClampNeg).toInt + ((Mv 9) : Int32).toInt + (sv_61 : Int32).toInt ∧ ((Mf 3) (Mv 5).toNatClampNeg).toInt ≤ (vy_38 (Mv 5).toNatClampNeg).toInt := by
          have z_1 : ¬ (r_66 : Int32).toInt = (93 : Int32).toInt := fun z => c_69 (Int32.toInt_inj.mp z)
          have y_93 : (93 : Int32).toInt = 93 := by decide
          omega
        have pf_72 : FcO R (rB (Mf 1) (Mv 0)) (Mf 7) vy_36 vy_35 sv_61 (Mv 6) (Mv 3) := (FcO.sk pf_47 pf_65)
        have hr_73 : ¬ (rB (Mf 1) (Mv 0) (sv_61 : Int32).toInt.toNat = 93) := by
          have z_1 : ¬ (r_66 : Int32).toInt = (93 : Int32).toInt := fun z => c_69 (Int32.toInt_inj.mp z)
          have y_93 : (93 : Int32).toInt = 93 := by decide
          omega
        have pf_74 : FcB TC R (rB (Mf 1) (Mv 0)) (Mf 7) vy_36 sv_61 (Mv 6) vy_37 vy_38 (Mv 5) := (FcB.sk pf_49 pf_65)
        obtain ⟨lq_75, pf_76, pf_77, pf_78⟩ := id pf_74
        exact retV hx hb hr hlk hP hD hS (sv_61, vy_35, vy_36, vy_37, vy_38) ⟨rfl, ha_70, pf_46, pf_44, ha_71, pf_72, pf_48, (NBr.no pf_65 hr_73), pf_74⟩ [3, 4, 0, 1, 2] rfl rfl dX12_closes_64 (Nat.le_of_ble_eq_true rfl) (Nat.le_of_ble_eq_true rfl) rfl
      · skip
        refine lv_aload_n hx hb dX12_closes_14 rfl (lv_at hl 0 rfl) ?_
        have ha_79 : 0 ≤ (vy_36 : Int32).toInt ∧ (vy_36 : Int32).toInt ≤ 400 := by
          have z_1 := congrArg Int32.toInt c_69
          have y_93 : (93 : Int32).toInt = 93 := by decide
          omega
        refine cV (a := (Ma 0)) (As := []) (rest := []) (wr := [((Ma 2), .inl (tc 0, 2400, .inl vy_37)), ((Ma 3), .inl (tc 0, 7, .inl vy_38)), ((Ma 1), .inl (tc 2, 400, .inl (Mf 1)))]) ⟨hx, hb, hml, hown, hts⟩ hK hX hA (cu_X12_isInside l D tc sk (Ma 0) (Ma 1) (Ma 2) (Ma 3) (Ma 4) (Ma 5) (Ma 6) (Ma 7) (Ma 8) (Ma 9) (Ma 10) (Ma 11) (Ma 12) (Ma 13) (Ma 14) (Ma 15) (Ma 16) (Ma 17) (Ma 18) (Ma 19) (Ma 20) (Mv 0) (Mv 1) sv_61 (Mv 3) (Mv 4) (Mv 5) (Mv 6) vy_35 (Mv 8) vy_36 (Mv 10) (Mv 11) (Mv 12) (Mv 13) (Mv 14) (Mf 7) (Mj 0) ha_79) k_1349 k_1346 k_1348 k_55 k_106 pl_X12_isInside ⟨Nat.le_of_ble_eq_true rfl, Nat.le_of_ble_eq_true rfl⟩ rfl rfl (va_recv hK hP (ci := 12) (q0 := 3) rfl rfl) hP hD hS [3, 2] [0, 1, 4] rfl rfl rfl rfl rfl (by decide) rfl hl.1 rfl (Nat.le_of_ble_eq_true rfl) dX12_closes_15 ⟨Nat.le_of_ble_eq_true rfl, Nat.le_of_ble_eq_true rfl⟩ (fun v_80 u_81 H locs hv_82 hP₀ hD₀ hS₀ => ?_)
        obtain ⟨r_83, rfl, he_84, hm_86, hm_87⟩ := hv_82
        have he_84 : (r_83.toInt = 0 ∨ r_83.toInt = 1) := he_84
        refine W.eq (g2 := F0 m 18 ls [.int r_83]) rfl ?_
        replace hP : va_P D classes [((Ma 2), .inl (tc 0, 2400, .inl vy_37)), ((Ma 3), .inl (tc 0, 7, .inl vy_38)), ((Ma 1), .inl (tc 2, 400, .inl (Mf 1))), ((Ma 0), .inr (12, [.ref (Ma 1), .int (Mv 0), .int (Mv 1), .ref (Ma 2), .ref (Ma 3), .ref (Ma 4), .ref (Ma 5), .ref (Ma 6), .int sv_61, .int (Mv 3), .int (Mv 4), .int (Mv 5), .int (Mv 6), .int vy_35, .int (Mv 8), .ref (Ma 7), .int vy_36, .ref (Ma 8), .int (Mv 10), .ref (Ma 9), .ref (Ma 10), .int (Mv 11), .int (Mv 12), .int (Mv 13), .ref (Ma 11), .int (Mv 14), .ref (Ma 12), .ref (Ma 13), .ref (Ma 14), .ref (Ma 15), .ref (Ma 16), .long (Mj 0), .ref (Ma 17), .ref (Ma 18), .ref (Ma 19), .ref (Ma 20)])), ((Ma 7), .inl (tc 0, 400, .inl (Mf 7)))] H := hP₀
        replace hD : va_D A [((Ma 2), .inl (tc 0, 2400, .inl vy_37)), ((Ma 3), .inl (tc 0, 7, .inl vy_38)), ((Ma 1), .inl (tc 2, 400, .inl (Mf 1))), ((Ma 0), .inr (12, [.ref (Ma 1), .int (Mv 0), .int (Mv 1), .ref (Ma 2), .ref (Ma 3), .ref (Ma 4), .ref (Ma 5), .ref (Ma 6), .int sv_61, .int (Mv 3), .int (Mv 4), .int (Mv 5), .int (Mv 6), .int vy_35, .int (Mv 8), .ref (Ma 7), .int vy_36, .ref (Ma 8), .int (Mv 10), .ref (Ma 9), .ref (Ma 10), .int (Mv 11), .int (Mv 12), .int (Mv 13), .ref (Ma 11), .int (Mv 14), .ref (Ma 12), .ref (Ma 13), .ref (Ma 14), .ref (Ma 15), .ref (Ma 16), .long (Mj 0), .ref (Ma 17), .ref (Ma 18), .ref (Ma 19), .ref (Ma 20)])), ((Ma 7), .inl (tc 0, 400, .inl (Mf 7)))] := hD₀
        replace hS := hS₀
        clear hP₀ hD₀ hS₀
        refine lv_if_eq (tgt := 64) hx hb dX12_closes_18 (by decide) (fun c_88 => ?_) (fun c_88 => ?_)
        · skip
          have hz_90 : (r_83 : Int32).toInt = 0 := by
            have z_1 := congrArg Int32.toInt c_69
            have z_2 := congrArg Int32.toInt c_88
            have y_0 : (0 : Int32).toInt = 0 := by decide
            have y_93 : (93 : Int32).toInt = 93 := by decide
            omega
          obtain pf_89 := hm_87 hz_90
          have pf_89 : NIns (Mf 7) vy_36 := pf_89
          have ha_91 : ((Mv 2) : Int32).toInt ≤ (sv_61 : Int32).toInt ∧ (sv_61 : Int32).toInt ≤ ((Mv 0) : Int32).toInt := by
            have z_1 := congrArg Int32.toInt c_69
            have z_2 := congrArg Int32.toInt c_88
            have y_0 : (0 : Int32).toInt = 0 := by decide
            have y_93 : (93 : Int32).toInt = 93 := by decide
            omega
          have ha_92 : (vy_38 (Mv 5).toNatClampNeg).toInt + (vy_36 : Int32).toInt + ((Mv 2) : Int32).toInt ≤ ((Mf 3) (Mv 5).toNatClampNeg).toInt + ((Mv 9) : Int32).toInt + (sv_61 : Int32).toInt ∧ ((Mf 3) (Mv 5).toNatClampNeg).toInt ≤ (vy_38 (Mv 5).toNatClampNeg).toInt := by
            have z_1 := congrArg Int32.toInt c_69
            have z_2 := congrArg Int32.toInt c_88
            have y_0 : (0 : Int32).toInt = 0 := by decide
            have y_93 : (93 : Int32).toInt = 93 := by decide
            omega
          have pf_93 : FcO R (rB (Mf 1) (Mv 0)) (Mf 7) vy_36 vy_35 sv_61 (Mv 6) (Mv 3) := (FcO.sk pf_47 pf_65)
          have pf_94 : FcB TC R (rB (Mf 1) (Mv 0)) (Mf 7) vy_36 sv_61 (Mv 6) vy_37 vy_38 (Mv 5) := (FcB.sk pf_49 pf_65)
          obtain ⟨lq_95, pf_96, pf_97, pf_98⟩ := id pf_94
          exact retV hx hb hr hlk hP hD hS (sv_61, vy_35, vy_36, vy_37, vy_38) ⟨rfl, ha_91, pf_46, pf_44, ha_92, pf_93, pf_48, (Or.inl pf_89), pf_94⟩ [3, 2, 0, 1, 4] rfl rfl dX12_closes_64 (Nat.le_of_ble_eq_true rfl) (Nat.le_of_ble_eq_true rfl) rfl
        · skip
          have hz_100 : (r_83 : Int32).toInt = 1 := by
            have z_1 := congrArg Int32.toInt c_69
            have z_2 : ¬ (r_83 : Int32).toInt = (0 : Int32).toInt := fun z => c_88 (Int32.toInt_inj.mp z)
            have y_0 : (0 : Int32).toInt = 0 := by decide
            have y_93 : (93 : Int32).toInt = 93 := by decide
            omega
          obtain pf_99 := hm_86 hz_100
          have pf_99 : Ins (Mf 7) vy_36 := pf_99
          have ar_pf_99 := Ins.ar pf_99
          refine lv_aload_n hx hb dX12_closes_21 rfl (lv_at hl 0 rfl) ?_
          refine lv_iconst (v := 1) hx hb dX12_closes_22 (by decide) ?_
          have ha_101 : 1 ≤ (1 : Int32).toInt ∧ (1 : Int32).toInt ≤ 3 := by
            have z_1 := congrArg Int32.toInt c_69
            have z_2 : ¬ (r_83 : Int32).toInt = (0 : Int32).toInt := fun z => c_88 (Int32.toInt_inj.mp z)
            have y_0 : (0 : Int32).toInt = 0 := by decide
            have y_93 : (93 : Int32).toInt = 93 := by decide
            have y_1 : (1 : Int32).toInt = 1 := by decide
            omega
          have ha_102 : (vy_38 (Mv 5).toNatClampNeg).toInt + (vy_36 : Int32).toInt ≤ 400 := by
            have z_1 := congrArg Int32.toInt c_69
            have z_2 : ¬ (r_83 : Int32).toInt = (0 : Int32).toInt := fun z => c_88 (Int32.toInt_inj.mp z)
            have y_0 : (0 : Int32).toInt = 0 := by decide
            have y_93 : (93 : Int32).toInt = 93 := by decide
            omega
          refine cV (a := (Ma 0)) (As := [.int 1]) (rest := []) (wr := [((Ma 1), .inl (tc 2, 400, .inl (Mf 1)))]) ⟨hx, hb, hml, hown, hts⟩ hK hX hA (cu_kX12_layDown l D tc sk (Ma 0) (Ma 1) (Ma 2) (Ma 3) (Ma 4) (Ma 5) (Ma 6) (Ma 7) (Ma 8) (Ma 9) (Ma 10) (Ma 11) (Ma 12) (Ma 13) (Ma 14) (Ma 15) (Ma 16) (Ma 17) (Ma 18) (Ma 19) (Ma 20) (Mv 0) (Mv 1) sv_61 (Mv 3) (Mv 4) (Mv 5) (Mv 6) vy_35 (Mv 8) vy_36 (Mv 10) (Mv 11) (Mv 12) (Mv 13) (Mv 14) vy_37 vy_38 (Mf 7) (Mj 0) 1 b lq_54 pf_44 ha_101 ha_102 pf_47.1 pf_55 h_tx) k_1342 k_1339 k_1341 k_54 k_106 pl_X12_layDown ⟨Nat.le_of_ble_eq_true rfl, Nat.le_of_ble_eq_true rfl⟩ rfl rfl (va_recv hK hP (ci := 12) (q0 := 3) rfl rfl) hP hD hS [3, 0, 1, 4] [2] rfl rfl rfl rfl rfl (by decide) rfl hl.1 rfl (Nat.le_of_ble_eq_true rfl) dX12_closes_23 ⟨Nat.le_of_ble_eq_true rfl, Nat.le_of_ble_eq_true rfl⟩ (fun v_103 u_104 H locs hv_105 hP₀ hD₀ hS₀ => ?_)
          obtain ⟨sv_106, sv_107, sv_108, sv_109⟩ := u_104
          obtain ⟨rfl, pf_110, pf_111, pf_112, pf_113, pf_114, pf_115, pf_116, pf_117, pf_118⟩ := hv_105
          have pf_110 : LSR (Mf 7) sv_107 sv_108 sv_109 (Mv 5) b (Mv 6) := pf_110
          obtain ⟨pn_119, pf_120, pf_121⟩ := id pf_110
          have ar_pf_110 := LSR.ar pf_110
          have ar_pf_121 := Cd.ar pf_121
          have pf_111 : (sv_109 (Mv 5).toNatClampNeg).toInt + (sv_107 : Int32).toInt = (vy_38 (Mv 5).toNatClampNeg).toInt + (vy_36 : Int32).toInt ∧ 0 ≤ (sv_107 : Int32).toInt ∧ (sv_107 : Int32).toInt ≤ (vy_36 : Int32).toInt := pf_111
          have pf_112 : Agr vy_37 sv_108 (400 * ((Mv 5) : Int32).toInt + (vy_38 (Mv 5).toNatClampNeg).toInt) := pf_112
          have pf_113 : LdE (Mf 7) sv_107 (1 : Int32) := pf_113
          have pf_114 : InK (Mf 7) vy_36 sv_107 := pf_114
          have pf_115 : LdP (Mf 7) vy_36 sv_107 sv_106 := pf_115
          have ar_pf_115 := OsP.ar pf_115.1
          have pf_116 : T11 (Mf 7) sv_107 := pf_116
          have pf_117 : LdC (Mf 7) vy_36 sv_107 sv_108 sv_109 (Mv 5) lq_54 (1 : Int32) := pf_117
          have pf_118 : LdS (Mf 7) sv_107 (1 : Int32) := pf_118
          refine W.eq (g2 := F0 m 26 ls []) rfl ?_
          replace hP : va_P D classes [((Ma 1), .inl (tc 2, 400, .inl (Mf 1))), ((Ma 0), .inr (12, [.ref (Ma 1), .int (Mv 0), .int (Mv 1), .ref (Ma 2), .ref (Ma 3), .ref (Ma 4), .ref (Ma 5), .ref (Ma 6), .int sv_61, .int (Mv 3), .int (Mv 4), .int (Mv 5), .int (Mv 6), .int sv_106, .int (Mv 8), .ref (Ma 7), .int sv_107, .ref (Ma 8), .int (Mv 10), .ref (Ma 9), .ref (Ma 10), .int (Mv 11), .int (Mv 12), .int (Mv 13), .ref (Ma 11), .int (Mv 14), .ref (Ma 12), .ref (Ma 13), .ref (Ma 14), .ref (Ma 15), .ref (Ma 16), .long (Mj 0), .ref (Ma 17), .ref (Ma 18), .ref (Ma 19), .ref (Ma 20)])), ((Ma 2), .inl (tc 0, 2400, .inl sv_108)), ((Ma 3), .inl (tc 0, 7, .inl sv_109)), ((Ma 7), .inl (tc 0, 400, .inl (Mf 7)))] H := hP₀
          replace hD : va_D A [((Ma 1), .inl (tc 2, 400, .inl (Mf 1))), ((Ma 0), .inr (12, [.ref (Ma 1), .int (Mv 0), .int (Mv 1), .ref (Ma 2), .ref (Ma 3), .ref (Ma 4), .ref (Ma 5), .ref (Ma 6), .int sv_61, .int (Mv 3), .int (Mv 4), .int (Mv 5), .int (Mv 6), .int sv_106, .int (Mv 8), .ref (Ma 7), .int sv_107, .ref (Ma 8), .int (Mv 10), .ref (Ma 9), .ref (Ma 10), .int (Mv 11), .int (Mv 12), .int (Mv 13), .ref (Ma 11), .int (Mv 14), .ref (Ma 12), .ref (Ma 13), .ref (Ma 14), .ref (Ma 15), .ref (Ma 16), .long (Mj 0), .ref (Ma 17), .ref (Ma 18), .ref (Ma 19), .ref (Ma 20)])), ((Ma 2), .inl (tc 0, 2400, .inl sv_108)), ((Ma 3), .inl (tc 0, 7, .inl sv_109)), ((Ma 7), .inl (tc 0, 400, .inl (Mf 7)))] := hD₀
          replace hS := hS₀
          clear hP₀ hD₀ hS₀
          refine lv_aload_n hx hb dX12_closes_26 rfl (lv_at hl 0 rfl) ?_
          refine lv_dup hx hb dX12_closes_27 rfl ?_
          refine gf_X12_154 hx hb hts hown hK hP 1 rfl rfl dX12_closes_28 ?_
          refine lv_iconst (v := 1) hx hb dX12_closes_31 (by decide) ?_
          refine lv_isub hx hb dX12_closes_32 ?_
          refine lv_topi (fun x_122 ex_122 => ?_)
          refine pf_X12_154 hx hb hts hown hK hP hD hS 1 rfl (Nat.le_of_ble_eq_true rfl) rfl rfl dX12_closes_33 (fun H locs hP₀ hD₀ hS₀ => ?_)
          replace hP : va_P D classes [((Ma 1), .inl (tc 2, 400, .inl (Mf 1))), ((Ma 0), .inr (12, [.ref (Ma 1), .int (Mv 0), .int (Mv 1), .ref (Ma 2), .ref (Ma 3), .ref (Ma 4), .ref (Ma 5), .ref (Ma 6), .int sv_61, .int (Mv 3), .int (Mv 4), .int (Mv 5), .int (Mv 6), .int sv_106, .int (Mv 8), .ref (Ma 7), .int x_122, .ref (Ma 8), .int (Mv 10), .ref (Ma 9), .ref (Ma 10), .int (Mv 11), .int (Mv 12), .int (Mv 13), .ref (Ma 11), .int (Mv 14), .ref (Ma 12), .ref (Ma 13), .ref (Ma 14), .ref (Ma 15), .ref (Ma 16), .long (Mj 0), .ref (Ma 17), .ref (Ma 18), .ref (Ma 19), .ref (Ma 20)])), ((Ma 2), .inl (tc 0, 2400, .inl sv_108)), ((Ma 3), .inl (tc 0, 7, .inl sv_109)), ((Ma 7), .inl (tc 0, 400, .inl (Mf 7)))] H := hP₀
          replace hD : va_D A [((Ma 1), .inl (tc 2, 400, .inl (Mf 1))), ((Ma 0), .inr (12, [.ref (Ma 1), .int (Mv 0), .int (Mv 1), .ref (Ma 2), .ref (Ma 3), .ref (Ma 4), .ref (Ma 5), .ref (Ma 6), .int sv_61, .int (Mv 3), .int (Mv 4), .int (Mv 5), .int (Mv 6), .int sv_106, .int (Mv 8), .ref (Ma 7), .int x_122, .ref (Ma 8), .int (Mv 10), .ref (Ma 9), .ref (Ma 10), .int (Mv 11), .int (Mv 12), .int (Mv 13), .ref (Ma 11), .int (Mv 14), .ref (Ma 12), .ref (Ma 13), .ref (Ma 14), .ref (Ma 15), .ref (Ma 16), .long (Mj 0), .ref (Ma 17), .ref (Ma 18), .ref (Ma 19), .ref (Ma 20)])), ((Ma 2), .inl (tc 0, 2400, .inl sv_108)), ((Ma 3), .inl (tc 0, 7, .inl sv_109)), ((Ma 7), .inl (tc 0, 400, .inl (Mf 7)))] := hD₀
          replace hS := hS₀
          clear hP₀ hD₀ hS₀
          have tp_x_122 : (x_122 : Int32).toInt = (sv_107 : Int32).toInt - 1 := by
            have z_1 := congrArg Int32.toInt c_69
            have z_2 : ¬ (r_83 : Int32).toInt = (0 : Int32).toInt := fun z => c_88 (Int32.toInt_inj.mp z)
            have y_0 : (0 : Int32).toInt = 0 := by decide
            have y_93 : (93 : Int32).toInt = 93 := by decide
            have y_1 : (1 : Int32).toInt = 1 := by decide
            have t_x_122 : x_122.toInt = (sv_107 : Int32).toInt - (1 : Int32).toInt := by rw [ex_122]; exact sub_toInt (by omega) (by omega)
            omega
          have hk_123 := Ins.ar (Ins.keep pf_99 pf_114)
          have hi_125 : (x_122 : Int32).toInt = (sv_107 : Int32).toInt - 1 := by
            have z_1 := congrArg Int32.toInt c_69
            have z_2 : ¬ (r_83 : Int32).toInt = (0 : Int32).toInt := fun z => c_88 (Int32.toInt_inj.mp z)
            have y_0 : (0 : Int32).toInt = 0 := by decide
            have y_93 : (93 : Int32).toInt = 93 := by decide
            have y_1 : (1 : Int32).toInt = 1 := by decide
            have t_x_122 : x_122.toInt = (sv_107 : Int32).toInt - (1 : Int32).toInt := by rw [ex_122]; exact sub_toInt (by omega) (by omega)
            omega
          have pf_124 : LSR (Mf 7) x_122 sv_108 sv_109 (Mv 5) b (Mv 6) := LSR.drop pf_110 pf_113 (by decide) hk_123 hi_125
          obtain ⟨pn_126, pf_127, pf_128⟩ := id pf_124
          have ar_pf_124 := LSR.ar pf_124
          have ar_pf_128 := Cd.ar pf_128
          refine lv_aload_n hx hb dX12_closes_36 rfl (lv_at hl 0 rfl) ?_
          refine lv_dup hx hb dX12_closes_37 rfl ?_
          refine gf_X12_151 hx hb hts hown hK hP 1 rfl rfl dX12_closes_38 ?_
          refine lv_iconst (v := 1) hx hb dX12_closes_41 (by decide) ?_
          refine lv_isub hx hb dX12_closes_42 ?_
          refine lv_topi (fun x_129 ex_129 => ?_)
          refine pf_X12_151 hx hb hts hown hK hP hD hS 1 rfl (Nat.le_of_ble_eq_true rfl) rfl rfl dX12_closes_43 (fun H locs hP₀ hD₀ hS₀ => ?_)
          replace hP : va_P D classes [((Ma 1), .inl (tc 2, 400, .inl (Mf 1))), ((Ma 0), .inr (12, [.ref (Ma 1), .int (Mv 0), .int (Mv 1), .ref (Ma 2), .ref (Ma 3), .ref (Ma 4), .ref (Ma 5), .ref (Ma 6), .int sv_61, .int (Mv 3), .int (Mv 4), .int (Mv 5), .int (Mv 6), .int x_129, .int (Mv 8), .ref (Ma 7), .int x_122, .ref (Ma 8), .int (Mv 10), .ref (Ma 9), .ref (Ma 10), .int (Mv 11), .int (Mv 12), .int (Mv 13), .ref (Ma 11), .int (Mv 14), .ref (Ma 12), .ref (Ma 13), .ref (Ma 14), .ref (Ma 15), .ref (Ma 16), .long (Mj 0), .ref (Ma 17), .ref (Ma 18), .ref (Ma 19), .ref (Ma 20)])), ((Ma 2), .inl (tc 0, 2400, .inl sv_108)), ((Ma 3), .inl (tc 0, 7, .inl sv_109)), ((Ma 7), .inl (tc 0, 400, .inl (Mf 7)))] H := hP₀
          replace hD : va_D A [((Ma 1), .inl (tc 2, 400, .inl (Mf 1))), ((Ma 0), .inr (12, [.ref (Ma 1), .int (Mv 0), .int (Mv 1), .ref (Ma 2), .ref (Ma 3), .ref (Ma 4), .ref (Ma 5), .ref (Ma 6), .int sv_61, .int (Mv 3), .int (Mv 4), .int (Mv 5), .int (Mv 6), .int x_129, .int (Mv 8), .ref (Ma 7), .int x_122, .ref (Ma 8), .int (Mv 10), .ref (Ma 9), .ref (Ma 10), .int (Mv 11), .int (Mv 12), .int (Mv 13), .ref (Ma 11), .int (Mv 14), .ref (Ma 12), .ref (Ma 13), .ref (Ma 14), .ref (Ma 15), .ref (Ma 16), .long (Mj 0), .ref (Ma 17), .ref (Ma 18), .ref (Ma 19), .ref (Ma 20)])), ((Ma 2), .inl (tc 0, 2400, .inl sv_108)), ((Ma 3), .inl (tc 0, 7, .inl sv_109)), ((Ma 7), .inl (tc 0, 400, .inl (Mf 7)))] := hD₀
          replace hS := hS₀
          clear hP₀ hD₀ hS₀
          refine lv_aload_n hx hb dX12_closes_46 rfl (lv_at hl 0 rfl) ?_
          refine lv_dup hx hb dX12_closes_47 rfl ?_
          refine gf_X12_87 hx hb hts hown hK hP 1 rfl rfl dX12_closes_48 ?_
          refine lv_iconst (v := 1) hx hb dX12_closes_51 (by decide) ?_
          refine lv_iadd hx hb dX12_closes_52 ?_
          refine lv_topi (fun x_130 ex_130 => ?_)
          refine pf_X12_87 hx hb hts hown hK hP hD hS 1 rfl (Nat.le_of_ble_eq_true rfl) rfl rfl dX12_closes_53 (fun H locs hP₀ hD₀ hS₀ => ?_)
          replace hP : va_P D classes [((Ma 1), .inl (tc 2, 400, .inl (Mf 1))), ((Ma 0), .inr (12, [.ref (Ma 1), .int (Mv 0), .int (Mv 1), .ref (Ma 2), .ref (Ma 3), .ref (Ma 4), .ref (Ma 5), .ref (Ma 6), .int x_130, .int (Mv 3), .int (Mv 4), .int (Mv 5), .int (Mv 6), .int x_129, .int (Mv 8), .ref (Ma 7), .int x_122, .ref (Ma 8), .int (Mv 10), .ref (Ma 9), .ref (Ma 10), .int (Mv 11), .int (Mv 12), .int (Mv 13), .ref (Ma 11), .int (Mv 14), .ref (Ma 12), .ref (Ma 13), .ref (Ma 14), .ref (Ma 15), .ref (Ma 16), .long (Mj 0), .ref (Ma 17), .ref (Ma 18), .ref (Ma 19), .ref (Ma 20)])), ((Ma 2), .inl (tc 0, 2400, .inl sv_108)), ((Ma 3), .inl (tc 0, 7, .inl sv_109)), ((Ma 7), .inl (tc 0, 400, .inl (Mf 7)))] H := hP₀
          replace hD : va_D A [((Ma 1), .inl (tc 2, 400, .inl (Mf 1))), ((Ma 0), .inr (12, [.ref (Ma 1), .int (Mv 0), .int (Mv 1), .ref (Ma 2), .ref (Ma 3), .ref (Ma 4), .ref (Ma 5), .ref (Ma 6), .int x_130, .int (Mv 3), .int (Mv 4), .int (Mv 5), .int (Mv 6), .int x_129, .int (Mv 8), .ref (Ma 7), .int x_122, .ref (Ma 8), .int (Mv 10), .ref (Ma 9), .ref (Ma 10), .int (Mv 11), .int (Mv 12), .int (Mv 13), .ref (Ma 11), .int (Mv 14), .ref (Ma 12), .ref (Ma 13), .ref (Ma 14), .ref (Ma 15), .ref (Ma 16), .long (Mj 0), .ref (Ma 17), .ref (Ma 18), .ref (Ma 19), .ref (Ma 20)])), ((Ma 2), .inl (tc 0, 2400, .inl sv_108)), ((Ma 3), .inl (tc 0, 7, .inl sv_109)), ((Ma 7), .inl (tc 0, 400, .inl (Mf 7)))] := hD₀
          replace hS := hS₀
          clear hP₀ hD₀ hS₀
          have tp_x_130 : (x_130 : Int32).toInt = (sv_61 : Int32).toInt + 1 := by
            have z_1 := congrArg Int32.toInt c_69
            have z_2 : ¬ (r_83 : Int32).toInt = (0 : Int32).toInt := fun z => c_88 (Int32.toInt_inj.mp z)
            have y_0 : (0 : Int32).toInt = 0 := by decide
            have y_93 : (93 : Int32).toInt = 93 := by decide
            have y_1 : (1 : Int32).toInt = 1 := by decide
            have t_x_130 : x_130.toInt = (sv_61 : Int32).toInt + (1 : Int32).toInt := by rw [ex_130]; exact add_toInt (by omega) (by omega)
            omega
          refine lv_aload_n hx hb dX12_closes_56 rfl (lv_at hl 0 rfl) ?_
          refine lv_iconst (v := 3) hx hb dX12_closes_57 (by decide) ?_
          have hi_132 : (x_122 : Int32).toInt = (sv_107 : Int32).toInt - 1 := by
            have z_1 := congrArg Int32.toInt c_69
            have z_2 : ¬ (r_83 : Int32).toInt = (0 : Int32).toInt := fun z => c_88 (Int32.toInt_inj.mp z)
            have y_0 : (0 : Int32).toInt = 0 := by decide
            have y_93 : (93 : Int32).toInt = 93 := by decide
            have y_1 : (1 : Int32).toInt = 1 := by decide
            have t_x_122 : x_122.toInt = (sv_107 : Int32).toInt - (1 : Int32).toInt := by rw [ex_122]; exact sub_toInt (by omega) (by omega)
            omega
          have hi_133 : (x_129 : Int32).toInt = (sv_106 : Int32).toInt - 1 := by
            have z_1 := congrArg Int32.toInt c_69
            have z_2 : ¬ (r_83 : Int32).toInt = (0 : Int32).toInt := fun z => c_88 (Int32.toInt_inj.mp z)
            have y_0 : (0 : Int32).toInt = 0 := by decide
            have y_93 : (93 : Int32).toInt = 93 := by decide
            have y_1 : (1 : Int32).toInt = 1 := by decide
            have t_x_129 : x_129.toInt = (sv_106 : Int32).toInt - (1 : Int32).toInt := by rw [ex_129]; exact sub_toInt (by omega) (by omega)
            omega
          have hr_134 : (rB (Mf 1) (Mv 0) (sv_61 : Int32).toInt.toNat = 93) := by
            have z_1 := congrArg Int32.toInt c_69
            have z_2 : ¬ (r_83 : Int32).toInt = (0 : Int32).toInt := fun z => c_88 (Int32.toInt_inj.mp z)
            have y_0 : (0 : Int32).toInt = 0 := by decide
            have y_93 : (93 : Int32).toInt = 93 := by decide
            omega
          have hi_135 : (x_130 : Int32).toInt = (sv_61 : Int32).toInt + 1 := by
            have z_1 := congrArg Int32.toInt c_69
            have z_2 : ¬ (r_83 : Int32).toInt = (0 : Int32).toInt := fun z => c_88 (Int32.toInt_inj.mp z)
            have y_0 : (0 : Int32).toInt = 0 := by decide
            have y_93 : (93 : Int32).toInt = 93 := by decide
            have y_1 : (1 : Int32).toInt = 1 := by decide
            have t_x_130 : x_130.toInt = (sv_61 : Int32).toInt + (1 : Int32).toInt := by rw [ex_130]; exact add_toInt (by omega) (by omega)
            omega
          have pf_131 : FcO R (rB (Mf 1) (Mv 0)) (Mf 7) x_122 x_129 x_130 (Mv 6) (Mv 3) := FcO.close pf_47 pf_99 pf_115 pf_113 (by decide) hi_132 hi_133 pf_65 hr_134 hi_135
          have hi_136 : (x_122 : Int32).toInt = (sv_107 : Int32).toInt - 1 := by
            have z_1 := congrArg Int32.toInt c_69
            have z_2 : ¬ (r_83 : Int32).toInt = (0 : Int32).toInt := fun z => c_88 (Int32.toInt_inj.mp z)
            have y_0 : (0 : Int32).toInt = 0 := by decide
            have y_93 : (93 : Int32).toInt = 93 := by decide
            have y_1 : (1 : Int32).toInt = 1 := by decide
            have t_x_122 : x_122.toInt = (sv_107 : Int32).toInt - (1 : Int32).toInt := by rw [ex_122]; exact sub_toInt (by omega) (by omega)
            omega
          have hr_137 : (rB (Mf 1) (Mv 0) (sv_61 : Int32).toInt.toNat = 93) := by
            have z_1 := congrArg Int32.toInt c_69
            have z_2 : ¬ (r_83 : Int32).toInt = (0 : Int32).toInt := fun z => c_88 (Int32.toInt_inj.mp z)
            have y_0 : (0 : Int32).toInt = 0 := by decide
            have y_93 : (93 : Int32).toInt = 93 := by decide
            omega
          have hi_138 : (x_130 : Int32).toInt = (sv_61 : Int32).toInt + 1 := by
            have z_1 := congrArg Int32.toInt c_69
            have z_2 : ¬ (r_83 : Int32).toInt = (0 : Int32).toInt := fun z => c_88 (Int32.toInt_inj.mp z)
            have y_0 : (0 : Int32).toInt = 0 := by decide
            have y_93 : (93 : Int32).toInt = 93 := by decide
            have y_1 : (1 : Int32).toInt = 1 := by decide
            have t_x_130 : x_130.toInt = (sv_61 : Int32).toInt + (1 : Int32).toInt := by rw [ex_130]; exact add_toInt (by omega) (by omega)
            omega
          have pf_139 : FcB TC R (rB (Mf 1) (Mv 0)) (Mf 7) x_122 x_130 (Mv 6) sv_108 sv_109 (Mv 5) := (FcB.close pf_56 pf_57 pf_99 pf_115.1 pf_115 pf_117 pf_118 (by decide) hi_136 pf_65 hr_137 hi_138)
          obtain ⟨lq_140, pf_141, pf_142, pf_143⟩ := id pf_139
          have ha_144 : 1 ≤ (3 : Int32).toInt ∧ (3 : Int32).toInt ≤ 3 := by
            have z_1 := congrArg Int32.toInt c_69
            have z_2 : ¬ (r_83 : Int32).toInt = (0 : Int32).toInt := fun z => c_88 (Int32.toInt_inj.mp z)
            have y_0 : (0 : Int32).toInt = 0 := by decide
            have y_93 : (93 : Int32).toInt = 93 := by decide
            have y_3 : (3 : Int32).toInt = 3 := by decide
            omega
          have ha_145 : (sv_109 (Mv 5).toNatClampNeg).toInt + (x_122 : Int32).toInt ≤ 400 := by
            have z_1 := congrArg Int32.toInt c_69
            have z_2 : ¬ (r_83 : Int32).toInt = (0 : Int32).toInt := fun z => c_88 (Int32.toInt_inj.mp z)
            have y_0 : (0 : Int32).toInt = 0 := by decide
            have y_93 : (93 : Int32).toInt = 93 := by decide
            have y_1 : (1 : Int32).toInt = 1 := by decide
            have t_x_122 : x_122.toInt = (sv_107 : Int32).toInt - (1 : Int32).toInt := by rw [ex_122]; exact sub_toInt (by omega) (by omega)
            omega
          refine cV (a := (Ma 0)) (As := [.int 3]) (rest := []) (wr := [((Ma 1), .inl (tc 2, 400, .inl (Mf 1)))]) ⟨hx, hb, hml, hown, hts⟩ hK hX hA (cu_kX12_layDown l D tc sk (Ma 0) (Ma 1) (Ma 2) (Ma 3) (Ma 4) (Ma 5) (Ma 6) (Ma 7) (Ma 8) (Ma 9) (Ma 10) (Ma 11) (Ma 12) (Ma 13) (Ma 14) (Ma 15) (Ma 16) (Ma 17) (Ma 18) (Ma 19) (Ma 20) (Mv 0) (Mv 1) x_130 (Mv 3) (Mv 4) (Mv 5) (Mv 6) x_129 (Mv 8) x_122 (Mv 10) (Mv 11) (Mv 12) (Mv 13) (Mv 14) sv_108 sv_109 (Mf 7) (Mj 0) 3 b lq_140 pf_124 ha_144 ha_145 pf_131.1 pf_141 h_tx) k_1342 k_1339 k_1341 k_54 k_106 pl_X12_layDown ⟨Nat.le_of_ble_eq_true rfl, Nat.le_of_ble_eq_true rfl⟩ rfl rfl (va_recv hK hP (ci := 12) (q0 := 1) rfl rfl) hP hD hS [1, 2, 3, 4] [0] rfl rfl rfl rfl rfl (by decide) rfl hl.1 rfl (Nat.le_of_ble_eq_true rfl) dX12_closes_58 ⟨Nat.le_of_ble_eq_true rfl, Nat.le_of_ble_eq_true rfl⟩ (fun v_146 u_147 H locs hv_148 hP₀ hD₀ hS₀ => ?_)
          obtain ⟨sv_149, sv_150, sv_151, sv_152⟩ := u_147
          obtain ⟨rfl, pf_153, pf_154, pf_155, pf_156, pf_157, pf_158, pf_159, pf_160, pf_161⟩ := hv_148
          have pf_153 : LSR (Mf 7) sv_150 sv_151 sv_152 (Mv 5) b (Mv 6) := pf_153
          obtain ⟨pn_162, pf_163, pf_164⟩ := id pf_153
          have ar_pf_153 := LSR.ar pf_153
          have ar_pf_164 := Cd.ar pf_164
          have pf_154 : (sv_152 (Mv 5).toNatClampNeg).toInt + (sv_150 : Int32).toInt = (sv_109 (Mv 5).toNatClampNeg).toInt + (x_122 : Int32).toInt ∧ 0 ≤ (sv_150 : Int32).toInt ∧ (sv_150 : Int32).toInt ≤ (x_122 : Int32).toInt := pf_154
          have pf_155 : Agr sv_108 sv_151 (400 * ((Mv 5) : Int32).toInt + (sv_109 (Mv 5).toNatClampNeg).toInt) := pf_155
          have pf_156 : LdE (Mf 7) sv_150 (3 : Int32) := pf_156
          have pf_157 : InK (Mf 7) x_122 sv_150 := pf_157
          have pf_158 : LdP (Mf 7) x_122 sv_150 sv_149 := pf_158
          have ar_pf_158 := OsP.ar pf_158.1
          have pf_159 : T11 (Mf 7) sv_150 := pf_159
          have pf_160 : LdC (Mf 7) x_122 sv_150 sv_151 sv_152 (Mv 5) lq_140 (3 : Int32) := pf_160
          have pf_161 : LdS (Mf 7) sv_150 (3 : Int32) := pf_161
          refine W.eq (g2 := F0 m 61 ls []) rfl ?_
          replace hP : va_P D classes [((Ma 1), .inl (tc 2, 400, .inl (Mf 1))), ((Ma 0), .inr (12, [.ref (Ma 1), .int (Mv 0), .int (Mv 1), .ref (Ma 2), .ref (Ma 3), .ref (Ma 4), .ref (Ma 5), .ref (Ma 6), .int x_130, .int (Mv 3), .int (Mv 4), .int (Mv 5), .int (Mv 6), .int sv_149, .int (Mv 8), .ref (Ma 7), .int sv_150, .ref (Ma 8), .int (Mv 10), .ref (Ma 9), .ref (Ma 10), .int (Mv 11), .int (Mv 12), .int (Mv 13), .ref (Ma 11), .int (Mv 14), .ref (Ma 12), .ref (Ma 13), .ref (Ma 14), .ref (Ma 15), .ref (Ma 16), .long (Mj 0), .ref (Ma 17), .ref (Ma 18), .ref (Ma 19), .ref (Ma 20)])), ((Ma 2), .inl (tc 0, 2400, .inl sv_151)), ((Ma 3), .inl (tc 0, 7, .inl sv_152)), ((Ma 7), .inl (tc 0, 400, .inl (Mf 7)))] H := hP₀
          replace hD : va_D A [((Ma 1), .inl (tc 2, 400, .inl (Mf 1))), ((Ma 0), .inr (12, [.ref (Ma 1), .int (Mv 0), .int (Mv 1), .ref (Ma 2), .ref (Ma 3), .ref (Ma 4), .ref (Ma 5), .ref (Ma 6), .int x_130, .int (Mv 3), .int (Mv 4), .int (Mv 5), .int (Mv 6), .int sv_149, .int (Mv 8), .ref (Ma 7), .int sv_150, .ref (Ma 8), .int (Mv 10), .ref (Ma 9), .ref (Ma 10), .int (Mv 11), .int (Mv 12), .int (Mv 13), .ref (Ma 11), .int (Mv 14), .ref (Ma 12), .ref (Ma 13), .ref (Ma 14), .ref (Ma 15), .ref (Ma 16), .long (Mj 0), .ref (Ma 17), .ref (Ma 18), .ref (Ma 19), .ref (Ma 20)])), ((Ma 2), .inl (tc 0, 2400, .inl sv_151)), ((Ma 3), .inl (tc 0, 7, .inl sv_152)), ((Ma 7), .inl (tc 0, 400, .inl (Mf 7)))] := hD₀
          replace hS := hS₀
          clear hP₀ hD₀ hS₀
          refine lv_goto (tgt := 5) hx hb dX12_closes_61 (by decide) ?_
          have hb_165 : 401 - (x_130 : Int32).toInt < 401 - (vy_34 : Int32).toInt ∧ 1 ≤ 401 - (vy_34 : Int32).toInt := by
            have z_1 := congrArg Int32.toInt c_69
            have z_2 : ¬ (r_83 : Int32).toInt = (0 : Int32).toInt := fun z => c_88 (Int32.toInt_inj.mp z)
            have y_0 : (0 : Int32).toInt = 0 := by decide
            have y_93 : (93 : Int32).toInt = 93 := by decide
            have y_1 : (1 : Int32).toInt = 1 := by decide
            have t_x_130 : x_130.toInt = (sv_61 : Int32).toInt + (1 : Int32).toInt := by rw [ex_130]; exact add_toInt (by omega) (by omega)
            omega
          have ha_166 : 0 ≤ (x_130 : Int32).toInt ∧ (x_130 : Int32).toInt ≤ ((Mv 0) : Int32).toInt ∧ ((Mv 0) : Int32).toInt ≤ 400 := by
            have z_1 := congrArg Int32.toInt c_69
            have z_2 : ¬ (r_83 : Int32).toInt = (0 : Int32).toInt := fun z => c_88 (Int32.toInt_inj.mp z)
            have y_0 : (0 : Int32).toInt = 0 := by decide
            have y_93 : (93 : Int32).toInt = 93 := by decide
            have y_1 : (1 : Int32).toInt = 1 := by decide
            have t_x_130 : x_130.toInt = (sv_61 : Int32).toInt + (1 : Int32).toInt := by rw [ex_130]; exact add_toInt (by omega) (by omega)
            omega
          have ha_167 : (Mv 2).toInt ≤ (x_130 : Int32).toInt := by
            have z_1 := congrArg Int32.toInt c_69
            have z_2 : ¬ (r_83 : Int32).toInt = (0 : Int32).toInt := fun z => c_88 (Int32.toInt_inj.mp z)
            have y_0 : (0 : Int32).toInt = 0 := by decide
            have y_93 : (93 : Int32).toInt = 93 := by decide
            have y_1 : (1 : Int32).toInt = 1 := by decide
            have t_x_130 : x_130.toInt = (sv_61 : Int32).toInt + (1 : Int32).toInt := by rw [ex_130]; exact add_toInt (by omega) (by omega)
            omega
          have ha_168 : (sv_152 (Mv 5).toNatClampNeg).toInt + (sv_150 : Int32).toInt + ((Mv 2) : Int32).toInt ≤ ((Mf 3) (Mv 5).toNatClampNeg).toInt + ((Mv 9) : Int32).toInt + (x_130 : Int32).toInt ∧ ((Mf 3) (Mv 5).toNatClampNeg).toInt ≤ (sv_152 (Mv 5).toNatClampNeg).toInt := by
            have z_1 := congrArg Int32.toInt c_69
            have z_2 : ¬ (r_83 : Int32).toInt = (0 : Int32).toInt := fun z => c_88 (Int32.toInt_inj.mp z)
            have y_0 : (0 : Int32).toInt = 0 := by decide
            have y_93 : (93 : Int32).toInt = 93 := by decide
            have y_1 : (1 : Int32).toInt = 1 := by decide
            have t_x_130 : x_130.toInt = (sv_61 : Int32).toInt + (1 : Int32).toInt := by rw [ex_130]; exact add_toInt (by omega) (by omega)
            omega
          have hr_169 : (400 * ((Mv 5) : Int32).toInt + ((Mf 3) (Mv 5).toNatClampNeg).toInt) ≤ (400 * ((Mv 5) : Int32).toInt + ((Mf 3) (Mv 5).toNatClampNeg).toInt) := by
            have z_1 := congrArg Int32.toInt c_69
            have z_2 : ¬ (r_83 : Int32).toInt = (0 : Int32).toInt := fun z => c_88 (Int32.toInt_inj.mp z)
            have y_0 : (0 : Int32).toInt = 0 := by decide
            have y_93 : (93 : Int32).toInt = 93 := by decide
            omega
          have hr_170 : (400 * ((Mv 5) : Int32).toInt + ((Mf 3) (Mv 5).toNatClampNeg).toInt) ≤ (400 * ((Mv 5) : Int32).toInt + (vy_38 (Mv 5).toNatClampNeg).toInt) := by
            have z_1 := congrArg Int32.toInt c_69
            have z_2 : ¬ (r_83 : Int32).toInt = (0 : Int32).toInt := fun z => c_88 (Int32.toInt_inj.mp z)
            have y_0 : (0 : Int32).toInt = 0 := by decide
            have y_93 : (93 : Int32).toInt = 93 := by decide
            omega
          have hr_171 : (400 * ((Mv 5) : Int32).toInt + ((Mf 3) (Mv 5).toNatClampNeg).toInt) ≤ (400 * ((Mv 5) : Int32).toInt + (sv_109 (Mv 5).toNatClampNeg).toInt) := by
            have z_1 := congrArg Int32.toInt c_69
            have z_2 : ¬ (r_83 : Int32).toInt = (0 : Int32).toInt := fun z => c_88 (Int32.toInt_inj.mp z)
            have y_0 : (0 : Int32).toInt = 0 := by decide
            have y_93 : (93 : Int32).toInt = 93 := by decide
            omega
          have pf_172 : FcO R (rB (Mf 1) (Mv 0)) (Mf 7) sv_150 sv_149 x_130 (Mv 6) (Mv 3) := (FcO.ld pf_131 pf_158)
          have hr_173 : 2 ≤ ((3 : Int32) : Int32).toInt := by
            have z_1 := congrArg Int32.toInt c_69
            have z_2 : ¬ (r_83 : Int32).toInt = (0 : Int32).toInt := fun z => c_88 (Int32.toInt_inj.mp z)
            have y_0 : (0 : Int32).toInt = 0 := by decide
            have y_93 : (93 : Int32).toInt = 93 := by decide
            have y_3 : (3 : Int32).toInt = 3 := by decide
            omega
          have pf_174 : FcB TC R (rB (Mf 1) (Mv 0)) (Mf 7) sv_150 x_130 (Mv 6) sv_151 sv_152 (Mv 5) := (FcB.ld pf_142 pf_143 pf_160 hr_173)
          obtain ⟨lq_175, pf_176, pf_177, pf_178⟩ := id pf_174
          exact ih_40 x_130 sv_149 sv_150 sv_151 sv_152 _ _ _ (by omega) ha_166 ha_167 pf_153 ha_168 (Agr.trans (k' := (400 * ((Mv 5) : Int32).toInt + ((Mf 3) (Mv 5).toNatClampNeg).toInt)) (Agr.trans (k' := (400 * ((Mv 5) : Int32).toInt + ((Mf 3) (Mv 5).toNatClampNeg).toInt)) (Agr.mono pf_46 hr_169) pf_112 ⟨Int.le_refl _, hr_170⟩) pf_155 ⟨Int.le_refl _, hr_171⟩) pf_172 pf_159 pf_174 (hP.sub [0, 1, 2, 3, 4] rfl) (hD.sub [0, 1, 2, 3, 4] rfl rfl) hS (lv_sub hl [0] rfl)
  have ha_179 : (Mv 2).toInt ≤ ((Mv 2) : Int32).toInt := by
    omega
  have ha_180 : (sv_16 (Mv 5).toNatClampNeg).toInt + (sv_14 : Int32).toInt + ((Mv 2) : Int32).toInt ≤ ((Mf 3) (Mv 5).toNatClampNeg).toInt + ((Mv 9) : Int32).toInt + ((Mv 2) : Int32).toInt ∧ ((Mf 3) (Mv 5).toNatClampNeg).toInt ≤ (sv_16 (Mv 5).toNatClampNeg).toInt := by
    omega
  have pf_181 : FcO R (rB (Mf 1) (Mv 0)) (Mf 7) sv_14 sv_13 (Mv 2) (Mv 6) (Mv 3) := (FcO.ld h_fo pf_22)
  have hr_182 : 2 ≤ ((3 : Int32) : Int32).toInt := by
    have y_3 : (3 : Int32).toInt = 3 := by decide
    omega
  have pf_183 : FcB TC R (rB (Mf 1) (Mv 0)) (Mf 7) sv_14 (Mv 2) (Mv 6) sv_15 sv_16 (Mv 5) := (FcB.ld pf_6 pf_7 pf_24 hr_182)
  obtain ⟨lq_184, pf_185, pf_186, pf_187⟩ := id pf_183
  exact loop_41 _ (Mv 2) sv_13 sv_14 sv_15 sv_16 _ _ _ (Nat.lt_succ_self _) h_nx ha_179 pf_17 ha_180 pf_19 pf_181 pf_23 pf_183 hP hD hS hl
set_option maxRecDepth 100000 in
theorem cu_kX12_closes (l : Launch) (D : va_G) (tc : Nat → ClassId) (sk : (Nat → Nat) × (Nat → Nat)) (Ma_0 : Nat) (Ma_1 : Nat) (Ma_2 : Nat) (Ma_3 : Nat) (Ma_4 : Nat) (Ma_5 : Nat) (Ma_6 : Nat) (Ma_7 : Nat) (Ma_8 : Nat) (Ma_9 : Nat) (Ma_10 : Nat) (Ma_11 : Nat) (Ma_12 : Nat) (Ma_13 : Nat) (Ma_14 : Nat) (Ma_15 : Nat) (Ma_16 : Nat) (Ma_17 : Nat) (Ma_18 : Nat) (Ma_19 : Nat) (Ma_20 : Nat) (Mv_0 : Int32) (Mv_1 : Int32) (Mv_2 : Int32) (Mv_3 : Int32) (Mv_4 : Int32) (Mv_5 : Int32) (Mv_6 : Int32) (Mv_7 : Int32) (Mv_8 : Int32) (Mv_9 : Int32) (Mv_10 : Int32) (Mv_11 : Int32) (Mv_12 : Int32) (Mv_13 : Int32) (Mv_14 : Int32) (Mf_1 : Nat → Int32) (Mf_2 : Nat → Int32) (Mf_3 : Nat → Int32) (Mf_7 : Nat → Int32) (Mj_0 : Int64) (b : Int32) (R : Except Int (Nat × Nat)) (TC : List Int) (h_nx : 0 ≤ (Mv_2 : Int32).toInt ∧ (Mv_2 : Int32).toInt ≤ (Mv_0 : Int32).toInt ∧ (Mv_0 : Int32).toInt ≤ 400) (h_ls : LSR Mf_7 Mv_9 Mf_2 Mf_3 Mv_5 b Mv_6) (h_s : (Mf_3 Mv_5.toNatClampNeg).toInt + (Mv_9 : Int32).toInt ≤ (Mv_2 : Int32).toInt) (h_bs : ByS Mf_1) (h_fo : FcO R (rB Mf_1 Mv_0) Mf_7 Mv_9 Mv_7 Mv_2 Mv_6 Mv_3) (h_fb : FcB TC R (rB Mf_1 Mv_0) Mf_7 Mv_9 Mv_2 Mv_6 Mf_2 Mf_3 Mv_5) (h_tx : 0 ≤ Mv_5.toInt) : Ct l yX12_closes cX12_closes 1 none { frames := 2, cells := 0, slots := 0, locals := 43 } D tc sk [.ref Ma_0] [(Ma_0, .inr (12, [.ref Ma_1, .int Mv_0, .int Mv_1, .ref Ma_2, .ref Ma_3, .ref Ma_4, .ref Ma_5, .ref Ma_6, .int Mv_2, .int Mv_3, .int Mv_4, .int Mv_5, .int Mv_6, .int Mv_7, .int Mv_8, .ref Ma_7, .int Mv_9, .ref Ma_8, .int Mv_10, .ref Ma_9, .ref Ma_10, .int Mv_11, .int Mv_12, .int Mv_13, .ref Ma_11, .int Mv_14, .ref Ma_12, .ref Ma_13, .ref Ma_14, .ref Ma_15, .ref Ma_16, .long Mj_0, .ref Ma_17, .ref Ma_18, .ref Ma_19, .ref Ma_20])), (Ma_1, .inl (tc 2, 400, .inl Mf_1)), (Ma_2, .inl (tc 0, 2400, .inl Mf_2)), (Ma_3, .inl (tc 0, 7, .inl Mf_3)), (Ma_7, .inl (tc 0, 400, .inl Mf_7))] (fun (v : Option Value) (u : (Int32) × (Int32) × (Int32) × (Nat → Int32) × (Nat → Int32)) => match u with | (oo0x1, oo0x2, oo0x3, oo0x4, oo0x5) => v = none ∧ ((Mv_2 : Int32).toInt ≤ (oo0x1 : Int32).toInt ∧ (oo0x1 : Int32).toInt ≤ (Mv_0 : Int32).toInt) ∧ (Agr Mf_2 oo0x4 (400 * (Mv_5 : Int32).toInt + (Mf_3 Mv_5.toNatClampNeg).toInt)) ∧ (LSR Mf_7 oo0x3 oo0x4 oo0x5 Mv_5 b Mv_6) ∧ ((oo0x5 Mv_5.toNatClampNeg).toInt + (oo0x3 : Int32).toInt + (Mv_2 : Int32).toInt ≤ (Mf_3 Mv_5.toNatClampNeg).toInt + (Mv_9 : Int32).toInt + (oo0x1 : Int32).toInt ∧ (Mf_3 Mv_5.toNatClampNeg).toInt ≤ (oo0x5 Mv_5.toNatClampNeg).toInt) ∧ (FcO R (rB Mf_1 Mv_0) Mf_7 oo0x3 oo0x2 oo0x1 Mv_6 Mv_3) ∧ (T11 Mf_7 oo0x3) ∧ (NBr (rB Mf_1 Mv_0) Mf_7 oo0x3 oo0x1) ∧ (FcB TC R (rB Mf_1 Mv_0) Mf_7 oo0x3 oo0x1 Mv_6 oo0x4 oo0x5 Mv_5)) (fun (u : (Int32) × (Int32) × (Int32) × (Nat → Int32) × (Nat → Int32)) => match u with | (oo0x1, oo0x2, oo0x3, oo0x4, oo0x5) => [(Ma_0, .inr (12, [.ref Ma_1, .int Mv_0, .int Mv_1, .ref Ma_2, .ref Ma_3, .ref Ma_4, .ref Ma_5, .ref Ma_6, .int oo0x1, .int Mv_3, .int Mv_4, .int Mv_5, .int Mv_6, .int oo0x2, .int Mv_8, .ref Ma_7, .int oo0x3, .ref Ma_8, .int Mv_10, .ref Ma_9, .ref Ma_10, .int Mv_11, .int Mv_12, .int Mv_13, .ref Ma_11, .int Mv_14, .ref Ma_12, .ref Ma_13, .ref Ma_14, .ref Ma_15, .ref Ma_16, .long Mj_0, .ref Ma_17, .ref Ma_18, .ref Ma_19, .ref Ma_20])), (Ma_1, .inl (tc 2, 400, .inl Mf_1)), (Ma_2, .inl (tc 0, 2400, .inl oo0x4)), (Ma_3, .inl (tc 0, 7, .inl oo0x5)), (Ma_7, .inl (tc 0, 400, .inl Mf_7))]) 0 0 :=
  ct_kX12_closes l D tc sk (fun k => ([Ma_0, Ma_1, Ma_2, Ma_3, Ma_4, Ma_5, Ma_6, Ma_7, Ma_8, Ma_9, Ma_10, Ma_11, Ma_12, Ma_13, Ma_14, Ma_15, Ma_16, Ma_17, Ma_18, Ma_19, Ma_20] : List (Nat)).getD k 0) (fun k => ([Mv_0, Mv_1, Mv_2, Mv_3, Mv_4, Mv_5, Mv_6, Mv_7, Mv_8, Mv_9, Mv_10, Mv_11, Mv_12, Mv_13, Mv_14] : List (Int32)).getD k 0) (fun k => ([(fun _ => 0), Mf_1, Mf_2, Mf_3, (fun _ => 0), (fun _ => 0), (fun _ => 0), Mf_7] : List (Nat → Int32)).getD k (fun _ => 0)) (fun k => ([Mj_0] : List (Int64)).getD k 0) b R TC h_nx h_ls h_s h_bs h_fo h_fb h_tx
set_option maxHeartbeats 4000000 in
set_option maxRecDepth 100000 in
theorem ct_kX12_tested (l : Launch) (D : va_G) (tc : Nat → ClassId) (sk : (Nat → Nat) × (Nat → Nat)) (Ma : Nat → Nat) (Mv : Nat → Int32) (Mf : Nat → Nat → Int32) (Mj : Nat → Int64) (b : Int32) (ll : List Int) (h_nx : 0 ≤ ((Mv 2) : Int32).toInt ∧ ((Mv 2) : Int32).toInt ≤ ((Mv 0) : Int32).toInt ∧ ((Mv 0) : Int32).toInt ≤ 400) (h_cd : Cd (Mf 2) (Mf 3) (Mv 5) b (Mv 6) 0) (h_L : ((Mf 3) (Mv 5).toNatClampNeg).toInt ≤ ((Mv 2) : Int32).toInt) (h_md : 0 ≤ ((Mv 6) : Int32).toInt ∧ ((Mv 6) : Int32).toInt ≤ 60) (h_bs : ByS (Mf 1)) (h_w : ((Mv 3) : Int32).toInt = 0) (h_sg : SgC (Mf 2) (Mf 3) (Mv 5) ll) (h_tx : 0 ≤ (Mv 5).toInt) : Ct l yX12_tested cX12_tested 3 (some .boolean) { frames := 8, cells := 0, slots := 0, locals := 176 } D tc sk [.ref (Ma 0)] [((Ma 0), .inr (12, [.ref (Ma 1), .int (Mv 0), .int (Mv 1), .ref (Ma 2), .ref (Ma 3), .ref (Ma 4), .ref (Ma 5), .ref (Ma 6), .int (Mv 2), .int (Mv 3), .int (Mv 4), .int (Mv 5), .int (Mv 6), .int (Mv 7), .int (Mv 8), .ref (Ma 7), .int (Mv 9), .ref (Ma 8), .int (Mv 10), .ref (Ma 9), .ref (Ma 10), .int (Mv 11), .int (Mv 12), .int (Mv 13), .ref (Ma 11), .int (Mv 14), .ref (Ma 12), .ref (Ma 13), .ref (Ma 14), .ref (Ma 15), .ref (Ma 16), .long (Mj 0), .ref (Ma 17), .ref (Ma 18), .ref (Ma 19), .ref (Ma 20)])), ((Ma 1), .inl (tc 2, 400, .inl (Mf 1))), ((Ma 2), .inl (tc 0, 2400, .inl (Mf 2))), ((Ma 3), .inl (tc 0, 7, .inl (Mf 3))), ((Ma 7), .inl (tc 0, 400, .inl (Mf 7)))] (fun (v : Option Value) (u : (Int32) × (Int32) × (Int32) × (Int32) × (Int32) × (Int32) × (Nat → Int32) × (Nat → Int32) × (Nat → Int32)) => match u with | (oo0x1, oo0x2, oo0x3, oo0x4, oo0x5, oo0x6, oo0x7, oo0x8, oo0x9) => ∃ r : Int32, v = some (.int r) ∧ (((r.toInt = 0 ∧ ¬ (oo0x2 : Int32).toInt = 0) ∨ (r.toInt = 1 ∧ ((Mf 3) (Mv 5).toNatClampNeg).toInt ≤ (oo0x8 (Mv 5).toNatClampNeg).toInt ∧ (oo0x8 (Mv 5).toNatClampNeg).toInt ≤ (oo0x1 : Int32).toInt))) ∧ (((Mv 2) : Int32).toInt ≤ (oo0x1 : Int32).toInt ∧ (oo0x1 : Int32).toInt ≤ ((Mv 0) : Int32).toInt) ∧ (((Mv 6) : Int32).toInt ≤ (oo0x4 : Int32).toInt ∧ (oo0x4 : Int32).toInt ≤ 60) ∧ (Agr (Mf 2) oo0x7 (400 * ((Mv 5) : Int32).toInt + ((Mf 3) (Mv 5).toNatClampNeg).toInt)) ∧ (r.toInt = 1 → (Cd oo0x7 oo0x8 (Mv 5) b oo0x4 1) ∧ (RfO (pz_tst (rB (Mf 1) (Mv 0)) (pz_fact (rB (Mf 1) (Mv 0)) 10) (St0 (rB (Mf 1) (Mv 0)) (Mv 2) (Mv 6))) (rB (Mf 1) (Mv 0)) oo0x2 oo0x1 oo0x4) ∧ (SgC oo0x7 oo0x8 (Mv 5) (ll ++ ltst (rB (Mf 1) (Mv 0)) 10 (St0 (rB (Mf 1) (Mv 0)) (Mv 2) (Mv 6))))) ∧ (r.toInt = 0 → (RfE (pz_tst (rB (Mf 1) (Mv 0)) (pz_fact (rB (Mf 1) (Mv 0)) 10) (St0 (rB (Mf 1) (Mv 0)) (Mv 2) (Mv 6))) oo0x2))) (fun (u : (Int32) × (Int32) × (Int32) × (Int32) × (Int32) × (Int32) × (Nat → Int32) × (Nat → Int32) × (Nat → Int32)) => match u with | (oo0x1, oo0x2, oo0x3, oo0x4, oo0x5, oo0x6, oo0x7, oo0x8, oo0x9) => [((Ma 0), .inr (12, [.ref (Ma 1), .int (Mv 0), .int (Mv 1), .ref (Ma 2), .ref (Ma 3), .ref (Ma 4), .ref (Ma 5), .ref (Ma 6), .int oo0x1, .int oo0x2, .int oo0x3, .int (Mv 5), .int oo0x4, .int oo0x5, .int (Mv 8), .ref (Ma 7), .int oo0x6, .ref (Ma 8), .int (Mv 10), .ref (Ma 9), .ref (Ma 10), .int (Mv 11), .int (Mv 12), .int (Mv 13), .ref (Ma 11), .int (Mv 14), .ref (Ma 12), .ref (Ma 13), .ref (Ma 14), .ref (Ma 15), .ref (Ma 16), .long (Mj 0), .ref (Ma 17), .ref (Ma 18), .ref (Ma 19), .ref (Ma 20)])), ((Ma 1), .inl (tc 2, 400, .inl (Mf 1))), ((Ma 2), .inl (tc 0, 2400, .inl oo0x7)), ((Ma 3), .inl (tc 0, 7, .inl oo0x8)), ((Ma 7), .inl (tc 0, 400, .inl oo0x9))]) 0 0 := by
  refine Ct.start (by decide) (Nat.le_of_ble_eq_true rfl) (fun p e s m below meth c A ls hx hb hr hlk hin hml hown hts hK hX hP hD hA hl hS => ?_)
  have hl : lv_has ls 3 [(0, .ref (Ma 0))] := hl
  have ar_h_cd := Cd.ar h_cd
  refine lv_aload_n hx hb dX12_tested_0 rfl (lv_at hl 0 rfl) ?_
  refine lv_iconst (v := 0) hx hb dX12_tested_1 (by decide) ?_
  refine pf_X12_154 hx hb hts hown hK hP hD hS 0 rfl (Nat.le_of_ble_eq_true rfl) rfl rfl dX12_tested_2 (fun H locs hP₀ hD₀ hS₀ => ?_)
  replace hP : va_P D classes [((Ma 0), .inr (12, [.ref (Ma 1), .int (Mv 0), .int (Mv 1), .ref (Ma 2), .ref (Ma 3), .ref (Ma 4), .ref (Ma 5), .ref (Ma 6), .int (Mv 2), .int (Mv 3), .int (Mv 4), .int (Mv 5), .int (Mv 6), .int (Mv 7), .int (Mv 8), .ref (Ma 7), .int 0, .ref (Ma 8), .int (Mv 10), .ref (Ma 9), .ref (Ma 10), .int (Mv 11), .int (Mv 12), .int (Mv 13), .ref (Ma 11), .int (Mv 14), .ref (Ma 12), .ref (Ma 13), .ref (Ma 14), .ref (Ma 15), .ref (Ma 16), .long (Mj 0), .ref (Ma 17), .ref (Ma 18), .ref (Ma 19), .ref (Ma 20)])), ((Ma 1), .inl (tc 2, 400, .inl (Mf 1))), ((Ma 2), .inl (tc 0, 2400, .inl (Mf 2))), ((Ma 3), .inl (tc 0, 7, .inl (Mf 3))), ((Ma 7), .inl (tc 0, 400, .inl (Mf 7)))] H := hP₀
  replace hD : va_D A [((Ma 0), .inr (12, [.ref (Ma 1), .int (Mv 0), .int (Mv 1), .ref (Ma 2), .ref (Ma 3), .ref (Ma 4), .ref (Ma 5), .ref (Ma 6), .int (Mv 2), .int (Mv 3), .int (Mv 4), .int (Mv 5), .int (Mv 6), .int (Mv 7), .int (Mv 8), .ref (Ma 7), .int 0, .ref (Ma 8), .int (Mv 10), .ref (Ma 9), .ref (Ma 10), .int (Mv 11), .int (Mv 12), .int (Mv 13), .ref (Ma 11), .int (Mv 14), .ref (Ma 12), .ref (Ma 13), .ref (Ma 14), .ref (Ma 15), .ref (Ma 16), .long (Mj 0), .ref (Ma 17), .ref (Ma 18), .ref (Ma 19), .ref (Ma 20)])), ((Ma 1), .inl (tc 2, 400, .inl (Mf 1))), ((Ma 2), .inl (tc 0, 2400, .inl (Mf 2))), ((Ma 3), .inl (tc 0, 7, .inl (Mf 3))), ((Ma 7), .inl (tc 0, 400, .inl (Mf 7)))] := hD₀
  replace hS := hS₀
  clear hP₀ hD₀ hS₀
  refine lv_aload_n hx hb dX12_tested_5 rfl (lv_at hl 0 rfl) ?_
  refine lv_iconst (v := 0) hx hb dX12_tested_6 (by decide) ?_
  refine pf_X12_151 hx hb hts hown hK hP hD hS 0 rfl (Nat.le_of_ble_eq_true rfl) rfl rfl dX12_tested_7 (fun H locs hP₀ hD₀ hS₀ => ?_)
  replace hP : va_P D classes [((Ma 0), .inr (12, [.ref (Ma 1), .int (Mv 0), .int (Mv 1), .ref (Ma 2), .ref (Ma 3), .ref (Ma 4), .ref (Ma 5), .ref (Ma 6), .int (Mv 2), .int (Mv 3), .int (Mv 4), .int (Mv 5), .int (Mv 6), .int 0, .int (Mv 8), .ref (Ma 7), .int 0, .ref (Ma 8), .int (Mv 10), .ref (Ma 9), .ref (Ma 10), .int (Mv 11), .int (Mv 12), .int (Mv 13), .ref (Ma 11), .int (Mv 14), .ref (Ma 12), .ref (Ma 13), .ref (Ma 14), .ref (Ma 15), .ref (Ma 16), .long (Mj 0), .ref (Ma 17), .ref (Ma 18), .ref (Ma 19), .ref (Ma 20)])), ((Ma 1), .inl (tc 2, 400, .inl (Mf 1))), ((Ma 2), .inl (tc 0, 2400, .inl (Mf 2))), ((Ma 3), .inl (tc 0, 7, .inl (Mf 3))), ((Ma 7), .inl (tc 0, 400, .inl (Mf 7)))] H := hP₀
  replace hD : va_D A [((Ma 0), .inr (12, [.ref (Ma 1), .int (Mv 0), .int (Mv 1), .ref (Ma 2), .ref (Ma 3), .ref (Ma 4), .ref (Ma 5), .ref (Ma 6), .int (Mv 2), .int (Mv 3), .int (Mv 4), .int (Mv 5), .int (Mv 6), .int 0, .int (Mv 8), .ref (Ma 7), .int 0, .ref (Ma 8), .int (Mv 10), .ref (Ma 9), .ref (Ma 10), .int (Mv 11), .int (Mv 12), .int (Mv 13), .ref (Ma 11), .int (Mv 14), .ref (Ma 12), .ref (Ma 13), .ref (Ma 14), .ref (Ma 15), .ref (Ma 16), .long (Mj 0), .ref (Ma 17), .ref (Ma 18), .ref (Ma 19), .ref (Ma 20)])), ((Ma 1), .inl (tc 2, 400, .inl (Mf 1))), ((Ma 2), .inl (tc 0, 2400, .inl (Mf 2))), ((Ma 3), .inl (tc 0, 7, .inl (Mf 3))), ((Ma 7), .inl (tc 0, 400, .inl (Mf 7)))] := hD₀
  replace hS := hS₀
  clear hP₀ hD₀ hS₀
  refine lv_iconst (v := 1) hx hb dX12_tested_10 (by decide) ?_
  refine lv_istore_n (lv' := [(1, .int 1), (0, .ref (Ma 0))]) hx hb dX12_tested_11 rfl hl (by decide) rfl (fun ls hl₀ => ?_)
  replace hl := hl₀
  clear hl₀
  have loop_23 : ∀ (n_21 : Nat) (vy_11 : Int32) (vy_12 : Int32) (vy_13 : Int32) (vy_14 : Int32) (vy_15 : Int32) (vy_16 : Int32) (vy_17 : Nat → Int32) (vy_18 : Nat → Int32) (vy_19 : Nat → Int32) (vy_20 : Int32) (H : Heap) (locs : List Loc) (ls : Array Slot), (2 * (401 - (vy_11 : Int32).toInt) + (vy_20 : Int32).toInt).toNat < n_21 → (0 ≤ (vy_11 : Int32).toInt ∧ (vy_11 : Int32).toInt ≤ ((Mv 0) : Int32).toInt ∧ ((Mv 0) : Int32).toInt ≤ 400) → ((Mv 2).toInt ≤ (vy_11 : Int32).toInt) → (0 ≤ (vy_20 : Int32).toInt ∧ (vy_20 : Int32).toInt ≤ 1) → ((Mv 6).toInt ≤ (vy_14 : Int32).toInt ∧ (vy_14 : Int32).toInt ≤ 60) → (LX vy_19 vy_16 vy_17 vy_18 (Mv 5) b vy_14 vy_20) → ((vy_18 (Mv 5).toNatClampNeg).toInt + (vy_16 : Int32).toInt ≤ (vy_11 : Int32).toInt ∧ ((Mf 3) (Mv 5).toNatClampNeg).toInt ≤ (vy_18 (Mv 5).toNatClampNeg).toInt ∧ 0 ≤ (vy_16 : Int32).toInt ∧ (vy_16 : Int32).toInt ≤ 400) → (Agr (Mf 2) vy_17 (400 * ((Mv 5) : Int32).toInt + ((Mf 3) (Mv 5).toNatClampNeg).toInt)) → (TsL (pz_tst (rB (Mf 1) (Mv 0)) (pz_fact (rB (Mf 1) (Mv 0)) 10) (St0 (rB (Mf 1) (Mv 0)) (Mv 2) (Mv 6))) (rB (Mf 1) (Mv 0)) vy_19 vy_16 vy_15 vy_11 vy_14 vy_12 vy_20) → (TsC (ll ++ ltst (rB (Mf 1) (Mv 0)) 10 (St0 (rB (Mf 1) (Mv 0)) (Mv 2) (Mv 6))) (pz_tst (rB (Mf 1) (Mv 0)) (pz_fact (rB (Mf 1) (Mv 0)) 10) (St0 (rB (Mf 1) (Mv 0)) (Mv 2) (Mv 6))) (rB (Mf 1) (Mv 0)) vy_19 vy_16 vy_15 vy_11 vy_14 vy_17 vy_18 (Mv 5) vy_20) → va_P D classes [((Ma 0), .inr (12, [.ref (Ma 1), .int (Mv 0), .int (Mv 1), .ref (Ma 2), .ref (Ma 3), .ref (Ma 4), .ref (Ma 5), .ref (Ma 6), .int vy_11, .int vy_12, .int vy_13, .int (Mv 5), .int vy_14, .int vy_15, .int (Mv 8), .ref (Ma 7), .int vy_16, .ref (Ma 8), .int (Mv 10), .ref (Ma 9), .ref (Ma 10), .int (Mv 11), .int (Mv 12), .int (Mv 13), .ref (Ma 11), .int (Mv 14), .ref (Ma 12), .ref (Ma 13), .ref (Ma 14), .ref (Ma 15), .ref (Ma 16), .long (Mj 0), .ref (Ma 17), .ref (Ma 18), .ref (Ma 19), .ref (Ma 20)])), ((Ma 1), .inl (tc 2, 400, .inl (Mf 1))), ((Ma 2), .inl (tc 0, 2400, .inl vy_17)), ((Ma 3), .inl (tc 0, 7, .inl vy_18)), ((Ma 7), .inl (tc 0, 400, .inl vy_19))] H → va_D A [((Ma 0), .inr (12, [.ref (Ma 1), .int (Mv 0), .int (Mv 1), .ref (Ma 2), .ref (Ma 3), .ref (Ma 4), .ref (Ma 5), .ref (Ma 6), .int vy_11, .int vy_12, .int vy_13, .int (Mv 5), .int vy_14, .int vy_15, .int (Mv 8), .ref (Ma 7), .int vy_16, .ref (Ma 8), .int (Mv 10), .ref (Ma 9), .ref (Ma 10), .int (Mv 11), .int (Mv 12), .int (Mv 13), .ref (Ma 11), .int (Mv 14), .ref (Ma 12), .ref (Ma 13), .ref (Ma 14), .ref (Ma 15), .ref (Ma 16), .long (Mj 0), .ref (Ma 17), .ref (Ma 18), .ref (Ma 19), .ref (Ma 20)])), ((Ma 1), .inl (tc 2, 400, .inl (Mf 1))), ((Ma 2), .inl (tc 0, 2400, .inl vy_17)), ((Ma 3), .inl (tc 0, 7, .inl vy_18)), ((Ma 7), .inl (tc 0, 400, .inl vy_19))] → va_S A s.heap H locs → lv_has ls 3 [(1, .int vy_20), (0, .ref (Ma 0))] → W p l e ({ frames := 8, cells := 0, slots := 0, locals := 176 }) s m ([.ref (Ma 0)].toArray) below meth c H locs 0 0 (MQ below (QW (fun (v : Option Value) (u : (Int32) × (Int32) × (Int32) × (Int32) × (Int32) × (Int32) × (Nat → Int32) × (Nat → Int32) × (Nat → Int32)) => match u with | (oo0x1, oo0x2, oo0x3, oo0x4, oo0x5, oo0x6, oo0x7, oo0x8, oo0x9) => ∃ r : Int32, v = some (.int r) ∧ (((r.toInt = 0 ∧ ¬ (oo0x2 : Int32).toInt = 0) ∨ (r.toInt = 1 ∧ ((Mf 3) (Mv 5).toNatClampNeg).toInt ≤ (oo0x8 (Mv 5).toNatClampNeg).toInt ∧ (oo0x8 (Mv 5).toNatClampNeg).toInt ≤ (oo0x1 : Int32).toInt))) ∧ (((Mv 2) : Int32).toInt ≤ (oo0x1 : Int32).toInt ∧ (oo0x1 : Int32).toInt ≤ ((Mv 0) : Int32).toInt) ∧ (((Mv 6) : Int32).toInt ≤ (oo0x4 : Int32).toInt ∧ (oo0x4 : Int32).toInt ≤ 60) ∧ (Agr (Mf 2) oo0x7 (400 * ((Mv 5) : Int32).toInt + ((Mf 3) (Mv 5).toNatClampNeg).toInt)) ∧ (r.toInt = 1 → (Cd oo0x7 oo0x8 (Mv 5) b oo0x4 1) ∧ (RfO (pz_tst (rB (Mf 1) (Mv 0)) (pz_fact (rB (Mf 1) (Mv 0)) 10) (St0 (rB (Mf 1) (Mv 0)) (Mv 2) (Mv 6))) (rB (Mf 1) (Mv 0)) oo0x2 oo0x1 oo0x4) ∧ (SgC oo0x7 oo0x8 (Mv 5) (ll ++ ltst (rB (Mf 1) (Mv 0)) 10 (St0 (rB (Mf 1) (Mv 0)) (Mv 2) (Mv 6))))) ∧ (r.toInt = 0 → (RfE (pz_tst (rB (Mf 1) (Mv 0)) (pz_fact (rB (Mf 1) (Mv 0)) 10) (St0 (rB (Mf 1) (Mv 0)) (Mv 2) (Mv 6))) oo0x2))) (BW D (fun (u : (Int32) × (Int32) × (Int32) × (Int32) × (Int32) × (Int32) × (Nat → Int32) × (Nat → Int32) × (Nat → Int32)) => match u with | (oo0x1, oo0x2, oo0x3, oo0x4, oo0x5, oo0x6, oo0x7, oo0x8, oo0x9) => [((Ma 0), .inr (12, [.ref (Ma 1), .int (Mv 0), .int (Mv 1), .ref (Ma 2), .ref (Ma 3), .ref (Ma 4), .ref (Ma 5), .ref (Ma 6), .int oo0x1, .int oo0x2, .int oo0x3, .int (Mv 5), .int oo0x4, .int oo0x5, .int (Mv 8), .ref (Ma 7), .int oo0x6, .ref (Ma 8), .int (Mv 10), .ref (Ma 9), .ref (Ma 10), .int (Mv 11), .int (Mv 12), .int (Mv 13), .ref (Ma 11), .int (Mv 14), .ref (Ma 12), .ref (Ma 13), .ref (Ma 14), .ref (Ma 15), .ref (Ma 16), .long (Mj 0), .ref (Ma 17), .ref (Ma 18), .ref (Ma 19), .ref (Ma 20)])), ((Ma 1), .inl (tc 2, 400, .inl (Mf 1))), ((Ma 2), .inl (tc 0, 2400, .inl oo0x7)), ((Ma 3), .inl (tc 0, 7, .inl oo0x8)), ((Ma 7), .inl (tc 0, 400, .inl oo0x9))]) A) A) ([.ref (Ma 0)].toArray) s 0 0 A) (F0 m 12 ls []) := by
    clear hP hD hS hl
    intro n_21
    induction n_21 with
    | zero =>
      intro vy_11 vy_12 vy_13 vy_14 vy_15 vy_16 vy_17 vy_18 vy_19 vy_20 H locs ls h1
      exact absurd h1 (Nat.not_lt_zero _)
    | succ n_21 ih_22 =>
      intro vy_11 vy_12 vy_13 vy_14 vy_15 vy_16 vy_17 vy_18 vy_19 vy_20 H locs ls hn_33 pf_24 pf_25 pf_26 pf_27 pf_28 pf_29 pf_30 pf_31 pf_32 hP hD hS hl
      have ar_pf_31 := OsP.ar pf_31.1.1
      have aw_pf_31 := pf_31.1.2
      refine lv_iload_n hx hb dX12_tested_12 rfl (lv_at hl 0 rfl) ?_
      refine lv_if_eq (tgt := 112) hx hb dX12_tested_13 (by decide) (fun c_34 => ?_) (fun c_34 => ?_)
      · skip
        have hr_36 : (vy_20 : Int32).toInt = 0 := by
          have z_1 := congrArg Int32.toInt c_34
          have y_0 : (0 : Int32).toInt = 0 := by decide
          omega
        have pf_35 : LSR vy_19 vy_16 vy_17 vy_18 (Mv 5) b vy_14 := pf_28.2 hr_36
        obtain ⟨pn_37, pf_38, pf_39⟩ := id pf_35
        have ar_pf_35 := LSR.ar pf_35
        have ar_pf_39 := Cd.ar pf_39
        refine lv_aload_n hx hb dX12_tested_112 rfl (lv_at hl 1 rfl) ?_
        have ha_40 : 0 ≤ (vy_16 : Int32).toInt ∧ (vy_16 : Int32).toInt ≤ 400 := by
          have z_1 := congrArg Int32.toInt c_34
          have y_0 : (0 : Int32).toInt = 0 := by decide
          omega
        refine cV (a := (Ma 0)) (As := []) (rest := []) (wr := [((Ma 1), .inl (tc 2, 400, .inl (Mf 1))), ((Ma 2), .inl (tc 0, 2400, .inl vy_17)), ((Ma 3), .inl (tc 0, 7, .inl vy_18))]) ⟨hx, hb, hml, hown, hts⟩ hK hX hA (cu_X12_isInside l D tc sk (Ma 0) (Ma 1) (Ma 2) (Ma 3) (Ma 4) (Ma 5) (Ma 6) (Ma 7) (Ma 8) (Ma 9) (Ma 10) (Ma 11) (Ma 12) (Ma 13) (Ma 14) (Ma 15) (Ma 16) (Ma 17) (Ma 18) (Ma 19) (Ma 20) (Mv 0) (Mv 1) vy_11 vy_12 vy_13 (Mv 5) vy_14 vy_15 (Mv 8) vy_16 (Mv 10) (Mv 11) (Mv 12) (Mv 13) (Mv 14) vy_19 (Mj 0) ha_40) k_1349 k_1346 k_1348 k_55 k_106 pl_X12_isInside ⟨Nat.le_of_ble_eq_true rfl, Nat.le_of_ble_eq_true rfl⟩ rfl rfl (va_recv hK hP (ci := 12) (q0 := 0) rfl rfl) hP hD hS [0, 4] [1, 2, 3] rfl rfl rfl rfl rfl (by decide) rfl hl.1 rfl (Nat.le_of_ble_eq_true rfl) dX12_tested_113 ⟨Nat.le_of_ble_eq_true rfl, Nat.le_of_ble_eq_true rfl⟩ (fun v_41 u_42 H locs hv_43 hP₀ hD₀ hS₀ => ?_)
        obtain ⟨r_44, rfl, he_45, hm_47, hm_48⟩ := hv_43
        have he_45 : (r_44.toInt = 0 ∨ r_44.toInt = 1) := he_45
        refine W.eq (g2 := F0 m 116 ls [.int r_44]) rfl ?_
        replace hP : va_P D classes [((Ma 1), .inl (tc 2, 400, .inl (Mf 1))), ((Ma 2), .inl (tc 0, 2400, .inl vy_17)), ((Ma 3), .inl (tc 0, 7, .inl vy_18)), ((Ma 0), .inr (12, [.ref (Ma 1), .int (Mv 0), .int (Mv 1), .ref (Ma 2), .ref (Ma 3), .ref (Ma 4), .ref (Ma 5), .ref (Ma 6), .int vy_11, .int vy_12, .int vy_13, .int (Mv 5), .int vy_14, .int vy_15, .int (Mv 8), .ref (Ma 7), .int vy_16, .ref (Ma 8), .int (Mv 10), .ref (Ma 9), .ref (Ma 10), .int (Mv 11), .int (Mv 12), .int (Mv 13), .ref (Ma 11), .int (Mv 14), .ref (Ma 12), .ref (Ma 13), .ref (Ma 14), .ref (Ma 15), .ref (Ma 16), .long (Mj 0), .ref (Ma 17), .ref (Ma 18), .ref (Ma 19), .ref (Ma 20)])), ((Ma 7), .inl (tc 0, 400, .inl vy_19))] H := hP₀
        replace hD : va_D A [((Ma 1), .inl (tc 2, 400, .inl (Mf 1))), ((Ma 2), .inl (tc 0, 2400, .inl vy_17)), ((Ma 3), .inl (tc 0, 7, .inl vy_18)), ((Ma 0), .inr (12, [.ref (Ma 1), .int (Mv 0), .int (Mv 1), .ref (Ma 2), .ref (Ma 3), .ref (Ma 4), .ref (Ma 5), .ref (Ma 6), .int vy_11, .int vy_12, .int vy_13, .int (Mv 5), .int vy_14, .int vy_15, .int (Mv 8), .ref (Ma 7), .int vy_16, .ref (Ma 8), .int (Mv 10), .ref (Ma 9), .ref (Ma 10), .int (Mv 11), .int (Mv 12), .int (Mv 13), .ref (Ma 11), .int (Mv 14), .ref (Ma 12), .ref (Ma 13), .ref (Ma 14), .ref (Ma 15), .ref (Ma 16), .long (Mj 0), .ref (Ma 17), .ref (Ma 18), .ref (Ma 19), .ref (Ma 20)])), ((Ma 7), .inl (tc 0, 400, .inl vy_19))] := hD₀
        replace hS := hS₀
        clear hP₀ hD₀ hS₀
        refine lv_if_eq (tgt := 134) hx hb dX12_tested_116 (by decide) (fun c_49 => ?_) (fun c_49 => ?_)
        · skip
          have hz_51 : (r_44 : Int32).toInt = 0 := by
            have z_1 := congrArg Int32.toInt c_34
            have z_2 := congrArg Int32.toInt c_49
            have y_0 : (0 : Int32).toInt = 0 := by decide
            omega
          obtain pf_50 := hm_48 hz_51
          have pf_50 : NIns vy_19 vy_16 := pf_50
          refine lv_aload_n hx hb dX12_tested_134 rfl (lv_at hl 1 rfl) ?_
          refine lv_iconst (v := 1) hx hb dX12_tested_135 (by decide) ?_
          have hr_53 : (vy_20 : Int32).toInt = 0 := by
            have z_1 := congrArg Int32.toInt c_34
            have z_2 := congrArg Int32.toInt c_49
            have y_0 : (0 : Int32).toInt = 0 := by decide
            omega
          have pf_52 : FcB (ll ++ ltst (rB (Mf 1) (Mv 0)) 10 (St0 (rB (Mf 1) (Mv 0)) (Mv 2) (Mv 6))) (pz_tst (rB (Mf 1) (Mv 0)) (pz_fact (rB (Mf 1) (Mv 0)) 10) (St0 (rB (Mf 1) (Mv 0)) (Mv 2) (Mv 6))) (rB (Mf 1) (Mv 0)) vy_19 vy_16 vy_11 vy_14 vy_17 vy_18 (Mv 5) := pf_32.2 hr_53
          obtain ⟨lq_54, pf_55, pf_56, pf_57⟩ := id pf_52
          have ha_58 : 1 ≤ (1 : Int32).toInt ∧ (1 : Int32).toInt ≤ 3 := by
            have z_1 := congrArg Int32.toInt c_34
            have z_2 := congrArg Int32.toInt c_49
            have y_0 : (0 : Int32).toInt = 0 := by decide
            have y_1 : (1 : Int32).toInt = 1 := by decide
            omega
          have ha_59 : (vy_18 (Mv 5).toNatClampNeg).toInt + (vy_16 : Int32).toInt ≤ 400 := by
            have z_1 := congrArg Int32.toInt c_34
            have z_2 := congrArg Int32.toInt c_49
            have y_0 : (0 : Int32).toInt = 0 := by decide
            omega
          refine cV (a := (Ma 0)) (As := [.int 1]) (rest := []) (wr := [((Ma 1), .inl (tc 2, 400, .inl (Mf 1)))]) ⟨hx, hb, hml, hown, hts⟩ hK hX hA (cu_kX12_layDown l D tc sk (Ma 0) (Ma 1) (Ma 2) (Ma 3) (Ma 4) (Ma 5) (Ma 6) (Ma 7) (Ma 8) (Ma 9) (Ma 10) (Ma 11) (Ma 12) (Ma 13) (Ma 14) (Ma 15) (Ma 16) (Ma 17) (Ma 18) (Ma 19) (Ma 20) (Mv 0) (Mv 1) vy_11 vy_12 vy_13 (Mv 5) vy_14 vy_15 (Mv 8) vy_16 (Mv 10) (Mv 11) (Mv 12) (Mv 13) (Mv 14) vy_17 vy_18 vy_19 (Mj 0) 1 b lq_54 pf_35 ha_58 ha_59 pf_31.1.1 pf_55 h_tx) k_1342 k_1339 k_1341 k_54 k_106 pl_X12_layDown ⟨Nat.le_of_ble_eq_true rfl, Nat.le_of_ble_eq_true rfl⟩ rfl rfl (va_recv hK hP (ci := 12) (q0 := 3) rfl rfl) hP hD hS [3, 1, 2, 4] [0] rfl rfl rfl rfl rfl (by decide) rfl hl.1 rfl (Nat.le_of_ble_eq_true rfl) dX12_tested_136 ⟨Nat.le_of_ble_eq_true rfl, Nat.le_of_ble_eq_true rfl⟩ (fun v_60 u_61 H locs hv_62 hP₀ hD₀ hS₀ => ?_)
          obtain ⟨sv_63, sv_64, sv_65, sv_66⟩ := u_61
          obtain ⟨rfl, pf_67, pf_68, pf_69, pf_70, pf_71, pf_72, pf_73, pf_74, pf_75⟩ := hv_62
          have pf_67 : LSR vy_19 sv_64 sv_65 sv_66 (Mv 5) b vy_14 := pf_67
          obtain ⟨pn_76, pf_77, pf_78⟩ := id pf_67
          have ar_pf_67 := LSR.ar pf_67
          have ar_pf_78 := Cd.ar pf_78
          have pf_68 : (sv_66 (Mv 5).toNatClampNeg).toInt + (sv_64 : Int32).toInt = (vy_18 (Mv 5).toNatClampNeg).toInt + (vy_16 : Int32).toInt ∧ 0 ≤ (sv_64 : Int32).toInt ∧ (sv_64 : Int32).toInt ≤ (vy_16 : Int32).toInt := pf_68
          have pf_69 : Agr vy_17 sv_65 (400 * ((Mv 5) : Int32).toInt + (vy_18 (Mv 5).toNatClampNeg).toInt) := pf_69
          have pf_70 : LdE vy_19 sv_64 (1 : Int32) := pf_70
          have pf_71 : InK vy_19 vy_16 sv_64 := pf_71
          have pf_72 : LdP vy_19 vy_16 sv_64 sv_63 := pf_72
          have ar_pf_72 := OsP.ar pf_72.1
          have pf_73 : T11 vy_19 sv_64 := pf_73
          have pf_74 : LdC vy_19 vy_16 sv_64 sv_65 sv_66 (Mv 5) lq_54 (1 : Int32) := pf_74
          have pf_75 : LdS vy_19 sv_64 (1 : Int32) := pf_75
          refine W.eq (g2 := F0 m 139 ls []) rfl ?_
          replace hP : va_P D classes [((Ma 1), .inl (tc 2, 400, .inl (Mf 1))), ((Ma 0), .inr (12, [.ref (Ma 1), .int (Mv 0), .int (Mv 1), .ref (Ma 2), .ref (Ma 3), .ref (Ma 4), .ref (Ma 5), .ref (Ma 6), .int vy_11, .int vy_12, .int vy_13, .int (Mv 5), .int vy_14, .int sv_63, .int (Mv 8), .ref (Ma 7), .int sv_64, .ref (Ma 8), .int (Mv 10), .ref (Ma 9), .ref (Ma 10), .int (Mv 11), .int (Mv 12), .int (Mv 13), .ref (Ma 11), .int (Mv 14), .ref (Ma 12), .ref (Ma 13), .ref (Ma 14), .ref (Ma 15), .ref (Ma 16), .long (Mj 0), .ref (Ma 17), .ref (Ma 18), .ref (Ma 19), .ref (Ma 20)])), ((Ma 2), .inl (tc 0, 2400, .inl sv_65)), ((Ma 3), .inl (tc 0, 7, .inl sv_66)), ((Ma 7), .inl (tc 0, 400, .inl vy_19))] H := hP₀
          replace hD : va_D A [((Ma 1), .inl (tc 2, 400, .inl (Mf 1))), ((Ma 0), .inr (12, [.ref (Ma 1), .int (Mv 0), .int (Mv 1), .ref (Ma 2), .ref (Ma 3), .ref (Ma 4), .ref (Ma 5), .ref (Ma 6), .int vy_11, .int vy_12, .int vy_13, .int (Mv 5), .int vy_14, .int sv_63, .int (Mv 8), .ref (Ma 7), .int sv_64, .ref (Ma 8), .int (Mv 10), .ref (Ma 9), .ref (Ma 10), .int (Mv 11), .int (Mv 12), .int (Mv 13), .ref (Ma 11), .int (Mv 14), .ref (Ma 12), .ref (Ma 13), .ref (Ma 14), .ref (Ma 15), .ref (Ma 16), .long (Mj 0), .ref (Ma 17), .ref (Ma 18), .ref (Ma 19), .ref (Ma 20)])), ((Ma 2), .inl (tc 0, 2400, .inl sv_65)), ((Ma 3), .inl (tc 0, 7, .inl sv_66)), ((Ma 7), .inl (tc 0, 400, .inl vy_19))] := hD₀
          replace hS := hS₀
          clear hP₀ hD₀ hS₀
          refine lv_iconst (v := 1) hx hb dX12_tested_139 (by decide) ?_
          have ha_79 : ((Mv 2) : Int32).toInt ≤ (vy_11 : Int32).toInt ∧ (vy_11 : Int32).toInt ≤ ((Mv 0) : Int32).toInt := by
            have z_1 := congrArg Int32.toInt c_34
            have z_2 := congrArg Int32.toInt c_49
            have y_0 : (0 : Int32).toInt = 0 := by decide
            omega
          have ha_80 : ((Mv 6) : Int32).toInt ≤ (vy_14 : Int32).toInt ∧ (vy_14 : Int32).toInt ≤ 60 := by
            have z_1 := congrArg Int32.toInt c_34
            have z_2 := congrArg Int32.toInt c_49
            have y_0 : (0 : Int32).toInt = 0 := by decide
            omega
          have hr_81 : (400 * ((Mv 5) : Int32).toInt + ((Mf 3) (Mv 5).toNatClampNeg).toInt) ≤ (400 * ((Mv 5) : Int32).toInt + ((Mf 3) (Mv 5).toNatClampNeg).toInt) := by
            have z_1 := congrArg Int32.toInt c_34
            have z_2 := congrArg Int32.toInt c_49
            have y_0 : (0 : Int32).toInt = 0 := by decide
            omega
          have hr_82 : (400 * ((Mv 5) : Int32).toInt + ((Mf 3) (Mv 5).toNatClampNeg).toInt) ≤ (400 * ((Mv 5) : Int32).toInt + (vy_18 (Mv 5).toNatClampNeg).toInt) := by
            have z_1 := congrArg Int32.toInt c_34
            have z_2 := congrArg Int32.toInt c_49
            have y_0 : (0 : Int32).toInt = 0 := by decide
            omega
          have hp_83 : (((1 : Int32).toInt = 0 ∧ ¬ (vy_12 : Int32).toInt = 0) ∨ ((1 : Int32).toInt = 1 ∧ ((Mf 3) (Mv 5).toNatClampNeg).toInt ≤ (sv_66 (Mv 5).toNatClampNeg).toInt ∧ (sv_66 (Mv 5).toNatClampNeg).toInt ≤ (vy_11 : Int32).toInt)) := by
            have z_1 := congrArg Int32.toInt c_34
            have z_2 := congrArg Int32.toInt c_49
            have y_0 : (0 : Int32).toInt = 0 := by decide
            have y_1 : (1 : Int32).toInt = 1 := by decide
            have yr : (1 : Int32).toInt = 1 := by decide
            omega
          have hm_84 : (1 : Int32).toInt = 1 → (Cd sv_65 sv_66 (Mv 5) b vy_14 1) ∧ (RfO (pz_tst (rB (Mf 1) (Mv 0)) (pz_fact (rB (Mf 1) (Mv 0)) 10) (St0 (rB (Mf 1) (Mv 0)) (Mv 2) (Mv 6))) (rB (Mf 1) (Mv 0)) vy_12 vy_11 vy_14) ∧ (SgC sv_65 sv_66 (Mv 5) (ll ++ ltst (rB (Mf 1) (Mv 0)) 10 (St0 (rB (Mf 1) (Mv 0)) (Mv 2) (Mv 6)))) := by
            intro h1r
            have hr_85 : (sv_64 : Int32).toInt ≤ (vy_16 : Int32).toInt := by
              have z_1 := congrArg Int32.toInt c_34
              have z_2 := congrArg Int32.toInt c_49
              have y_0 : (0 : Int32).toInt = 0 := by decide
              omega
            have hr_86 : (vy_20 : Int32).toInt = 0 := by
              have z_1 := congrArg Int32.toInt c_34
              have z_2 := congrArg Int32.toInt c_49
              have y_0 : (0 : Int32).toInt = 0 := by decide
              omega
            have hr_87 : 0 ≤ (vy_14 : Int32).toInt := by
              have z_1 := congrArg Int32.toInt c_34
              have z_2 := congrArg Int32.toInt c_49
              have y_0 : (0 : Int32).toInt = 0 := by decide
              omega
            have hr_88 : (vy_20 : Int32).toInt = 0 := by
              have z_1 := congrArg Int32.toInt c_34
              have z_2 := congrArg Int32.toInt c_49
              have y_0 : (0 : Int32).toInt = 0 := by decide
              omega
            have hr_89 : 0 ≤ (vy_14 : Int32).toInt := by
              have z_1 := congrArg Int32.toInt c_34
              have z_2 := congrArg Int32.toInt c_49
              have y_0 : (0 : Int32).toInt = 0 := by decide
              omega
            have hr_90 : (sv_64 : Int32).toInt ≤ (vy_16 : Int32).toInt := by
              have z_1 := congrArg Int32.toInt c_34
              have z_2 := congrArg Int32.toInt c_49
              have y_0 : (0 : Int32).toInt = 0 := by decide
              omega
            exact ⟨(LSR.fin pf_67 pf_70 (by decide) pf_50 hr_85), (TsL.out pf_31 hr_86 pf_50 hr_87), (TsC.out pf_56 pf_57 pf_50 hr_90 pf_72.1 pf_74 pf_75 (by decide) (pf_31.2.2 hr_88).2.2 (RfO.st (TsL.out pf_31 hr_88 pf_50 hr_89)))⟩
          exact retI (v := 1) hx hb hr hlk (rfl) hP hD hS (vy_11, vy_12, vy_13, vy_14, sv_63, sv_64, sv_65, sv_66, vy_19) ⟨_, rfl, hp_83, ha_79, ha_80, (Agr.trans (k' := (400 * ((Mv 5) : Int32).toInt + ((Mf 3) (Mv 5).toNatClampNeg).toInt)) (Agr.mono pf_30 hr_81) pf_69 ⟨Int.le_refl _, hr_82⟩), hm_84, (fun h => absurd h (by decide))⟩ [1, 0, 2, 3, 4] rfl rfl dX12_tested_140 (Nat.le_of_ble_eq_true rfl) (Nat.le_of_ble_eq_true rfl) rfl
        · skip
          have hz_92 : (r_44 : Int32).toInt = 1 := by
            have z_1 := congrArg Int32.toInt c_34
            have z_2 : ¬ (r_44 : Int32).toInt = (0 : Int32).toInt := fun z => c_49 (Int32.toInt_inj.mp z)
            have y_0 : (0 : Int32).toInt = 0 := by decide
            omega
          obtain pf_91 := hm_47 hz_92
          have pf_91 : Ins vy_19 vy_16 := pf_91
          have ar_pf_91 := Ins.ar pf_91
          refine lv_aload_n hx hb dX12_tested_119 rfl (lv_at hl 1 rfl) ?_
          refine cV (a := (Ma 0)) (As := []) (rest := []) (wr := [((Ma 2), .inl (tc 0, 2400, .inl vy_17)), ((Ma 3), .inl (tc 0, 7, .inl vy_18)), ((Ma 7), .inl (tc 0, 400, .inl vy_19))]) ⟨hx, hb, hml, hown, hts⟩ hK hX hA (cu_fX12_see l D tc sk (Ma 0) (Ma 1) (Ma 2) (Ma 3) (Ma 4) (Ma 5) (Ma 6) (Ma 7) (Ma 8) (Ma 9) (Ma 10) (Ma 11) (Ma 12) (Ma 13) (Ma 14) (Ma 15) (Ma 16) (Ma 17) (Ma 18) (Ma 19) (Ma 20) (Mv 0) (Mv 1) vy_11 vy_12 vy_13 (Mv 5) vy_14 vy_15 (Mv 8) vy_16 (Mv 10) (Mv 11) (Mv 12) (Mv 13) (Mv 14) (Mf 1) (Mj 0) pf_24 h_bs) k_1211 k_1208 k_1210 k_27 k_106 pl_X12_see ⟨Nat.le_of_ble_eq_true rfl, Nat.le_of_ble_eq_true rfl⟩ rfl rfl (va_recv hK hP (ci := 12) (q0 := 3) rfl rfl) hP hD hS [3, 0] [1, 2, 4] rfl rfl rfl rfl rfl (by decide) rfl hl.1 rfl (Nat.le_of_ble_eq_true rfl) dX12_tested_120 ⟨Nat.le_of_ble_eq_true rfl, Nat.le_of_ble_eq_true rfl⟩ (fun v_93 u_94 H locs hv_95 hP₀ hD₀ hS₀ => ?_)
          obtain ⟨sv_96, rfl⟩ : ∃ z, z = u_94 := ⟨_, rfl⟩
          obtain ⟨r_101, rfl, he_102, pf_97, pf_98, pf_99, pf_100⟩ := hv_95
          have he_102 : (r_101.toInt = rB (Mf 1) (Mv 0) (sv_96 : Int32).toInt.toNat ∧ (r_101.toInt = -1 ∨ (sv_96 : Int32).toInt < (Mv 0).toInt)) := he_102
          have pf_97 : (vy_11 : Int32).toInt ≤ (sv_96 : Int32).toInt ∧ (sv_96 : Int32).toInt ≤ ((Mv 0) : Int32).toInt := pf_97
          have pf_98 : NSq (Mf 1) (Mv 0) sv_96 := pf_98
          have pf_99 : Stl (Mf 1) (Mv 0) vy_11 sv_96 := pf_99
          have pf_100 : SkR (rB (Mf 1) (Mv 0)) vy_11 sv_96 := pf_100
          refine W.eq (g2 := F0 m 123 ls [.int r_101]) rfl ?_
          replace hP : va_P D classes [((Ma 2), .inl (tc 0, 2400, .inl vy_17)), ((Ma 3), .inl (tc 0, 7, .inl vy_18)), ((Ma 7), .inl (tc 0, 400, .inl vy_19)), ((Ma 0), .inr (12, [.ref (Ma 1), .int (Mv 0), .int (Mv 1), .ref (Ma 2), .ref (Ma 3), .ref (Ma 4), .ref (Ma 5), .ref (Ma 6), .int sv_96, .int vy_12, .int vy_13, .int (Mv 5), .int vy_14, .int vy_15, .int (Mv 8), .ref (Ma 7), .int vy_16, .ref (Ma 8), .int (Mv 10), .ref (Ma 9), .ref (Ma 10), .int (Mv 11), .int (Mv 12), .int (Mv 13), .ref (Ma 11), .int (Mv 14), .ref (Ma 12), .ref (Ma 13), .ref (Ma 14), .ref (Ma 15), .ref (Ma 16), .long (Mj 0), .ref (Ma 17), .ref (Ma 18), .ref (Ma 19), .ref (Ma 20)])), ((Ma 1), .inl (tc 2, 400, .inl (Mf 1)))] H := hP₀
          replace hD : va_D A [((Ma 2), .inl (tc 0, 2400, .inl vy_17)), ((Ma 3), .inl (tc 0, 7, .inl vy_18)), ((Ma 7), .inl (tc 0, 400, .inl vy_19)), ((Ma 0), .inr (12, [.ref (Ma 1), .int (Mv 0), .int (Mv 1), .ref (Ma 2), .ref (Ma 3), .ref (Ma 4), .ref (Ma 5), .ref (Ma 6), .int sv_96, .int vy_12, .int vy_13, .int (Mv 5), .int vy_14, .int vy_15, .int (Mv 8), .ref (Ma 7), .int vy_16, .ref (Ma 8), .int (Mv 10), .ref (Ma 9), .ref (Ma 10), .int (Mv 11), .int (Mv 12), .int (Mv 13), .ref (Ma 11), .int (Mv 14), .ref (Ma 12), .ref (Ma 13), .ref (Ma 14), .ref (Ma 15), .ref (Ma 16), .long (Mj 0), .ref (Ma 17), .ref (Ma 18), .ref (Ma 19), .ref (Ma 20)])), ((Ma 1), .inl (tc 2, 400, .inl (Mf 1)))] := hD₀
          replace hS := hS₀
          clear hP₀ hD₀ hS₀
          refine lv_pop hx hb dX12_tested_123 rfl ?_
          refine lv_aload_n hx hb dX12_tested_124 rfl (lv_at hl 1 rfl) ?_
          refine lv_iconst (v := 0) hx hb dX12_tested_125 (by decide) ?_
          refine lv_aload_n hx hb dX12_tested_126 rfl (lv_at hl 1 rfl) ?_
          refine gf_X12_87 hx hb hts hown hK hP 3 rfl rfl dX12_tested_127 ?_
          have ha_104 : 0 ≤ (0 : Int32).toInt ∧ (0 : Int32).toInt ≤ 4 := by
            have z_1 := congrArg Int32.toInt c_34
            have z_2 : ¬ (r_44 : Int32).toInt = (0 : Int32).toInt := fun z => c_49 (Int32.toInt_inj.mp z)
            have y_0 : (0 : Int32).toInt = 0 := by decide
            omega
          have ha_105 : 0 ≤ sv_96.toInt ∧ sv_96.toInt ≤ 400 := by
            have z_1 := congrArg Int32.toInt c_34
            have z_2 : ¬ (r_44 : Int32).toInt = (0 : Int32).toInt := fun z => c_49 (Int32.toInt_inj.mp z)
            have y_0 : (0 : Int32).toInt = 0 := by decide
            omega
          have ha_106 : (vy_12 : Int32).toInt = 0 := by
            have z_1 := congrArg Int32.toInt c_34
            have z_2 : ¬ (r_44 : Int32).toInt = (0 : Int32).toInt := fun z => c_49 (Int32.toInt_inj.mp z)
            have y_0 : (0 : Int32).toInt = 0 := by decide
            omega
          refine cV (a := (Ma 0)) (As := [.int 0, .int sv_96]) (rest := []) (wr := [((Ma 2), .inl (tc 0, 2400, .inl vy_17)), ((Ma 3), .inl (tc 0, 7, .inl vy_18)), ((Ma 7), .inl (tc 0, 400, .inl vy_19)), ((Ma 1), .inl (tc 2, 400, .inl (Mf 1)))]) ⟨hx, hb, hml, hown, hts⟩ hK hX hA (cu_fX12_fails l D tc sk (Ma 0) (Ma 1) (Ma 2) (Ma 3) (Ma 4) (Ma 5) (Ma 6) (Ma 7) (Ma 8) (Ma 9) (Ma 10) (Ma 11) (Ma 12) (Ma 13) (Ma 14) (Ma 15) (Ma 16) (Ma 17) (Ma 18) (Ma 19) (Ma 20) (Mv 0) (Mv 1) sv_96 vy_12 vy_13 (Mv 5) vy_14 vy_15 (Mv 8) vy_16 (Mv 10) (Mv 11) (Mv 12) (Mv 13) (Mv 14) (Mj 0) 0 sv_96 ha_104 ha_105 ha_106) k_1232 k_1229 k_1231 k_31 k_106 pl_X12_fails ⟨Nat.le_of_ble_eq_true rfl, Nat.le_of_ble_eq_true rfl⟩ rfl rfl (va_recv hK hP (ci := 12) (q0 := 3) rfl rfl) hP hD hS [3] [0, 1, 2, 4] rfl rfl rfl rfl rfl (by decide) rfl hl.1 rfl (Nat.le_of_ble_eq_true rfl) dX12_tested_130 ⟨Nat.le_of_ble_eq_true rfl, Nat.le_of_ble_eq_true rfl⟩ (fun v_107 u_108 H locs hv_109 hP₀ hD₀ hS₀ => ?_)
          obtain ⟨sv_110, rfl⟩ : ∃ z, z = u_108 := ⟨_, rfl⟩
          obtain ⟨r_113, rfl, he_114, pf_111, pf_112⟩ := hv_109
          have he_114 : r_113.toInt = 0 := he_114
          have pf_111 : ¬ (sv_110 : Int32).toInt = 0 := pf_111
          have pf_112 : (sv_110 : Int32).toInt = 1 + 8 * sv_96.toInt + (0 : Int32).toInt := pf_112
          refine W.eq (g2 := F0 m 133 ls [.int r_113]) rfl ?_
          replace hP : va_P D classes [((Ma 2), .inl (tc 0, 2400, .inl vy_17)), ((Ma 3), .inl (tc 0, 7, .inl vy_18)), ((Ma 7), .inl (tc 0, 400, .inl vy_19)), ((Ma 1), .inl (tc 2, 400, .inl (Mf 1))), ((Ma 0), .inr (12, [.ref (Ma 1), .int (Mv 0), .int (Mv 1), .ref (Ma 2), .ref (Ma 3), .ref (Ma 4), .ref (Ma 5), .ref (Ma 6), .int sv_96, .int sv_110, .int vy_13, .int (Mv 5), .int vy_14, .int vy_15, .int (Mv 8), .ref (Ma 7), .int vy_16, .ref (Ma 8), .int (Mv 10), .ref (Ma 9), .ref (Ma 10), .int (Mv 11), .int (Mv 12), .int (Mv 13), .ref (Ma 11), .int (Mv 14), .ref (Ma 12), .ref (Ma 13), .ref (Ma 14), .ref (Ma 15), .ref (Ma 16), .long (Mj 0), .ref (Ma 17), .ref (Ma 18), .ref (Ma 19), .ref (Ma 20)]))] H := hP₀
          replace hD : va_D A [((Ma 2), .inl (tc 0, 2400, .inl vy_17)), ((Ma 3), .inl (tc 0, 7, .inl vy_18)), ((Ma 7), .inl (tc 0, 400, .inl vy_19)), ((Ma 1), .inl (tc 2, 400, .inl (Mf 1))), ((Ma 0), .inr (12, [.ref (Ma 1), .int (Mv 0), .int (Mv 1), .ref (Ma 2), .ref (Ma 3), .ref (Ma 4), .ref (Ma 5), .ref (Ma 6), .int sv_96, .int sv_110, .int vy_13, .int (Mv 5), .int vy_14, .int vy_15, .int (Mv 8), .ref (Ma 7), .int vy_16, .ref (Ma 8), .int (Mv 10), .ref (Ma 9), .ref (Ma 10), .int (Mv 11), .int (Mv 12), .int (Mv 13), .ref (Ma 11), .int (Mv 14), .ref (Ma 12), .ref (Ma 13), .ref (Ma 14), .ref (Ma 15), .ref (Ma 16), .long (Mj 0), .ref (Ma 17), .ref (Ma 18), .ref (Ma 19), .ref (Ma 20)]))] := hD₀
          replace hS := hS₀
          clear hP₀ hD₀ hS₀
          have yf_116 : (0 : Int32).toInt = 0 := by decide
          have ha_117 : ((Mv 2) : Int32).toInt ≤ (sv_96 : Int32).toInt ∧ (sv_96 : Int32).toInt ≤ ((Mv 0) : Int32).toInt := by
            have z_1 := congrArg Int32.toInt c_34
            have z_2 : ¬ (r_44 : Int32).toInt = (0 : Int32).toInt := fun z => c_49 (Int32.toInt_inj.mp z)
            have y_0 : (0 : Int32).toInt = 0 := by decide
            omega
          have ha_118 : ((Mv 6) : Int32).toInt ≤ (vy_14 : Int32).toInt ∧ (vy_14 : Int32).toInt ≤ 60 := by
            have z_1 := congrArg Int32.toInt c_34
            have z_2 : ¬ (r_44 : Int32).toInt = (0 : Int32).toInt := fun z => c_49 (Int32.toInt_inj.mp z)
            have y_0 : (0 : Int32).toInt = 0 := by decide
            omega
          have hb_119 : (r_113 : Int32).toInt = 0 ∨ (r_113 : Int32).toInt = 1 := by
            have z_1 := congrArg Int32.toInt c_34
            have z_2 : ¬ (r_44 : Int32).toInt = (0 : Int32).toInt := fun z => c_49 (Int32.toInt_inj.mp z)
            have y_0 : (0 : Int32).toInt = 0 := by decide
            omega
          have hp_120 : (((r_113 : Int32).toInt = 0 ∧ ¬ (sv_110 : Int32).toInt = 0) ∨ ((r_113 : Int32).toInt = 1 ∧ ((Mf 3) (Mv 5).toNatClampNeg).toInt ≤ (vy_18 (Mv 5).toNatClampNeg).toInt ∧ (vy_18 (Mv 5).toNatClampNeg).toInt ≤ (sv_96 : Int32).toInt)) := by
            have z_1 := congrArg Int32.toInt c_34
            have z_2 : ¬ (r_44 : Int32).toInt = (0 : Int32).toInt := fun z => c_49 (Int32.toInt_inj.mp z)
            have y_0 : (0 : Int32).toInt = 0 := by decide
            omega
          have hm_121 : (r_113 : Int32).toInt = 1 → (Cd vy_17 vy_18 (Mv 5) b vy_14 1) ∧ (RfO (pz_tst (rB (Mf 1) (Mv 0)) (pz_fact (rB (Mf 1) (Mv 0)) 10) (St0 (rB (Mf 1) (Mv 0)) (Mv 2) (Mv 6))) (rB (Mf 1) (Mv 0)) sv_110 sv_96 vy_14) ∧ (SgC vy_17 vy_18 (Mv 5) (ll ++ ltst (rB (Mf 1) (Mv 0)) 10 (St0 (rB (Mf 1) (Mv 0)) (Mv 2) (Mv 6)))) := by
            intro h1r
            exfalso
            have z_1 := congrArg Int32.toInt c_34
            have z_2 : ¬ (r_44 : Int32).toInt = (0 : Int32).toInt := fun z => c_49 (Int32.toInt_inj.mp z)
            have y_0 : (0 : Int32).toInt = 0 := by decide
            omega
          have hm_122 : (r_113 : Int32).toInt = 0 → (RfE (pz_tst (rB (Mf 1) (Mv 0)) (pz_fact (rB (Mf 1) (Mv 0)) 10) (St0 (rB (Mf 1) (Mv 0)) (Mv 2) (Mv 6))) sv_110) := by
            intro h1r
            have hr_123 : (vy_20 : Int32).toInt = 0 := by
              have z_1 := congrArg Int32.toInt c_34
              have z_2 : ¬ (r_44 : Int32).toInt = (0 : Int32).toInt := fun z => c_49 (Int32.toInt_inj.mp z)
              have y_0 : (0 : Int32).toInt = 0 := by decide
              omega
            have hi_124 : (sv_110 : Int32).toInt = 1 + 8 * (sv_96 : Int32).toInt := by
              have z_1 := congrArg Int32.toInt c_34
              have z_2 : ¬ (r_44 : Int32).toInt = (0 : Int32).toInt := fun z => c_49 (Int32.toInt_inj.mp z)
              have y_0 : (0 : Int32).toInt = 0 := by decide
              omega
            exact (TsL.in pf_31 hr_123 pf_91 pf_100 hi_124)
          exact retI (v := r_113) hx hb hr hlk (nar01 hb_119) hP hD hS (sv_96, sv_110, vy_13, vy_14, vy_15, vy_16, vy_17, vy_18, vy_19) ⟨_, rfl, hp_120, ha_117, ha_118, pf_30, hm_121, hm_122⟩ [4, 3, 0, 1, 2] rfl rfl dX12_tested_133 (Nat.le_of_ble_eq_true rfl) (Nat.le_of_ble_eq_true rfl) rfl
      · skip
        have hr_126 : (vy_20 : Int32).toInt = 1 := by
          have z_1 : ¬ (vy_20 : Int32).toInt = (0 : Int32).toInt := fun z => c_34 (Int32.toInt_inj.mp z)
          have y_0 : (0 : Int32).toInt = 0 := by decide
          omega
        have pf_125 : LBR vy_19 vy_16 vy_17 vy_18 (Mv 5) b vy_14 := pf_28.1 hr_126
        obtain ⟨pn_127, pf_128, pf_129⟩ := id pf_125
        have ar_pf_125 := LBR.ar pf_125
        have ar_pf_129 := Cd.ar pf_129
        refine lv_aload_n hx hb dX12_tested_16 rfl (lv_at hl 1 rfl) ?_
        have hr_130 : (vy_20 : Int32).toInt = 1 := by
          have z_1 : ¬ (vy_20 : Int32).toInt = (0 : Int32).toInt := fun z => c_34 (Int32.toInt_inj.mp z)
          have y_0 : (0 : Int32).toInt = 0 := by decide
          omega
        have hr_131 : (vy_20 : Int32).toInt = 1 := by
          have z_1 : ¬ (vy_20 : Int32).toInt = (0 : Int32).toInt := fun z => c_34 (Int32.toInt_inj.mp z)
          have y_0 : (0 : Int32).toInt = 0 := by decide
          omega
        have ha_132 : (vy_18 (Mv 5).toNatClampNeg).toInt + (vy_16 : Int32).toInt ≤ (vy_11 : Int32).toInt := by
          have z_1 : ¬ (vy_20 : Int32).toInt = (0 : Int32).toInt := fun z => c_34 (Int32.toInt_inj.mp z)
          have y_0 : (0 : Int32).toInt = 0 := by decide
          omega
        have ha_133 : 0 ≤ (vy_14 : Int32).toInt ∧ (vy_14 : Int32).toInt ≤ 60 := by
          have z_1 : ¬ (vy_20 : Int32).toInt = (0 : Int32).toInt := fun z => c_34 (Int32.toInt_inj.mp z)
          have y_0 : (0 : Int32).toInt = 0 := by decide
          omega
        refine cV (a := (Ma 0)) (As := []) (rest := []) (wr := []) ⟨hx, hb, hml, hown, hts⟩ hK hX hA (cu_kX12_fact l D tc sk (Ma 0) (Ma 1) (Ma 2) (Ma 3) (Ma 4) (Ma 5) (Ma 6) (Ma 7) (Ma 8) (Ma 9) (Ma 10) (Ma 11) (Ma 12) (Ma 13) (Ma 14) (Ma 15) (Ma 16) (Ma 17) (Ma 18) (Ma 19) (Ma 20) (Mv 0) (Mv 1) vy_11 vy_12 vy_13 (Mv 5) vy_14 vy_15 (Mv 8) vy_16 (Mv 10) (Mv 11) (Mv 12) (Mv 13) (Mv 14) (Mf 1) vy_17 vy_18 vy_19 (Mj 0) b (pz_tst (rB (Mf 1) (Mv 0)) (pz_fact (rB (Mf 1) (Mv 0)) 10) (St0 (rB (Mf 1) (Mv 0)) (Mv 2) (Mv 6))) (ll ++ ltst (rB (Mf 1) (Mv 0)) 10 (St0 (rB (Mf 1) (Mv 0)) (Mv 2) (Mv 6))) pf_24 pf_125 ha_132 ha_133 h_bs (pf_31.2.1 hr_130) (pf_32.1 hr_131)) k_1325 k_1322 k_1324 k_50 k_106 pl_X12_fact ⟨Nat.le_of_ble_eq_true rfl, Nat.le_of_ble_eq_true rfl⟩ rfl rfl (va_recv hK hP (ci := 12) (q0 := 0) rfl rfl) hP hD hS [0, 1, 2, 3, 4] [] rfl rfl rfl rfl rfl (by decide) rfl hl.1 rfl (Nat.le_of_ble_eq_true rfl) dX12_tested_17 ⟨Nat.le_of_ble_eq_true rfl, Nat.le_of_ble_eq_true rfl⟩ (fun v_134 u_135 H locs hv_136 hP₀ hD₀ hS₀ => ?_)
        obtain ⟨sv_137, sv_138, sv_139, sv_140, sv_141, sv_142, sv_143, sv_144, sv_145⟩ := u_135
        obtain ⟨r_149, rfl, he_150, pf_146, pf_147, pf_148, hm_152, hm_153⟩ := hv_136
        have he_150 : ((r_149.toInt = 0 ∧ ¬ (sv_138 : Int32).toInt = 0) ∨ (r_149.toInt = 1 ∧ (sv_144 (Mv 5).toNatClampNeg).toInt + (sv_142 : Int32).toInt + (vy_11 : Int32).toInt ≤ (vy_18 (Mv 5).toNatClampNeg).toInt + (vy_16 : Int32).toInt + (sv_137 : Int32).toInt ∧ (vy_11 : Int32).toInt + 1 ≤ (sv_137 : Int32).toInt ∧ (vy_18 (Mv 5).toNatClampNeg).toInt ≤ (sv_144 (Mv 5).toNatClampNeg).toInt)) := he_150
        have pf_146 : (vy_11 : Int32).toInt ≤ (sv_137 : Int32).toInt ∧ (sv_137 : Int32).toInt ≤ ((Mv 0) : Int32).toInt := pf_146
        have pf_147 : (vy_14 : Int32).toInt ≤ (sv_140 : Int32).toInt ∧ (sv_140 : Int32).toInt ≤ 60 := pf_147
        have pf_148 : Agr vy_17 sv_143 (400 * ((Mv 5) : Int32).toInt + (vy_18 (Mv 5).toNatClampNeg).toInt) := pf_148
        refine W.eq (g2 := F0 m 20 ls [.int r_149]) rfl ?_
        replace hP : va_P D classes [((Ma 0), .inr (12, [.ref (Ma 1), .int (Mv 0), .int (Mv 1), .ref (Ma 2), .ref (Ma 3), .ref (Ma 4), .ref (Ma 5), .ref (Ma 6), .int sv_137, .int sv_138, .int sv_139, .int (Mv 5), .int sv_140, .int sv_141, .int (Mv 8), .ref (Ma 7), .int sv_142, .ref (Ma 8), .int (Mv 10), .ref (Ma 9), .ref (Ma 10), .int (Mv 11), .int (Mv 12), .int (Mv 13), .ref (Ma 11), .int (Mv 14), .ref (Ma 12), .ref (Ma 13), .ref (Ma 14), .ref (Ma 15), .ref (Ma 16), .long (Mj 0), .ref (Ma 17), .ref (Ma 18), .ref (Ma 19), .ref (Ma 20)])), ((Ma 1), .inl (tc 2, 400, .inl (Mf 1))), ((Ma 2), .inl (tc 0, 2400, .inl sv_143)), ((Ma 3), .inl (tc 0, 7, .inl sv_144)), ((Ma 7), .inl (tc 0, 400, .inl sv_145))] H := hP₀
        replace hD : va_D A [((Ma 0), .inr (12, [.ref (Ma 1), .int (Mv 0), .int (Mv 1), .ref (Ma 2), .ref (Ma 3), .ref (Ma 4), .ref (Ma 5), .ref (Ma 6), .int sv_137, .int sv_138, .int sv_139, .int (Mv 5), .int sv_140, .int sv_141, .int (Mv 8), .ref (Ma 7), .int sv_142, .ref (Ma 8), .int (Mv 10), .ref (Ma 9), .ref (Ma 10), .int (Mv 11), .int (Mv 12), .int (Mv 13), .ref (Ma 11), .int (Mv 14), .ref (Ma 12), .ref (Ma 13), .ref (Ma 14), .ref (Ma 15), .ref (Ma 16), .long (Mj 0), .ref (Ma 17), .ref (Ma 18), .ref (Ma 19), .ref (Ma 20)])), ((Ma 1), .inl (tc 2, 400, .inl (Mf 1))), ((Ma 2), .inl (tc 0, 2400, .inl sv_143)), ((Ma 3), .inl (tc 0, 7, .inl sv_144)), ((Ma 7), .inl (tc 0, 400, .inl sv_145))] := hD₀
        replace hS := hS₀
        clear hP₀ hD₀ hS₀
        refine lv_if_ne (tgt := 25) hx hb dX12_tested_20 (by decide) (fun c_154 => ?_) (fun c_154 => ?_)
        · skip
          have hz_158 : (r_149 : Int32).toInt = 1 := by
            have z_1 : ¬ (vy_20 : Int32).toInt = (0 : Int32).toInt := fun z => c_34 (Int32.toInt_inj.mp z)
            have z_2 : ¬ (r_149 : Int32).toInt = (0 : Int32).toInt := fun z => c_154 (Int32.toInt_inj.mp z)
            have y_0 : (0 : Int32).toInt = 0 := by decide
            omega
          obtain ⟨pf_155, pf_156, pf_157⟩ := hm_152 hz_158
          have pf_155 : LSR sv_145 sv_142 sv_143 sv_144 (Mv 5) b sv_140 := pf_155
          obtain ⟨pn_159, pf_160, pf_161⟩ := id pf_155
          have ar_pf_155 := LSR.ar pf_155
          have ar_pf_161 := Cd.ar pf_161
          have pf_156 : FcO (pz_tst (rB (Mf 1) (Mv 0)) (pz_fact (rB (Mf 1) (Mv 0)) 10) (St0 (rB (Mf 1) (Mv 0)) (Mv 2) (Mv 6))) (rB (Mf 1) (Mv 0)) sv_145 sv_142 sv_141 sv_137 sv_140 sv_138 := pf_156
          have ar_pf_156 := OsP.ar pf_156.1
          have aw_pf_156 := pf_156.2.1
          have pf_157 : FcB (ll ++ ltst (rB (Mf 1) (Mv 0)) 10 (St0 (rB (Mf 1) (Mv 0)) (Mv 2) (Mv 6))) (pz_tst (rB (Mf 1) (Mv 0)) (pz_fact (rB (Mf 1) (Mv 0)) 10) (St0 (rB (Mf 1) (Mv 0)) (Mv 2) (Mv 6))) (rB (Mf 1) (Mv 0)) sv_145 sv_142 sv_137 sv_140 sv_143 sv_144 (Mv 5) := pf_157
          obtain ⟨lq_162, pf_163, pf_164, pf_165⟩ := id pf_157
          refine lv_aload_n hx hb dX12_tested_25 rfl (lv_at hl 1 rfl) ?_
          have ha_166 : 0 ≤ (sv_137 : Int32).toInt ∧ (sv_137 : Int32).toInt ≤ ((Mv 0) : Int32).toInt ∧ ((Mv 0) : Int32).toInt ≤ 400 := by
            have z_1 : ¬ (vy_20 : Int32).toInt = (0 : Int32).toInt := fun z => c_34 (Int32.toInt_inj.mp z)
            have z_2 : ¬ (r_149 : Int32).toInt = (0 : Int32).toInt := fun z => c_154 (Int32.toInt_inj.mp z)
            have y_0 : (0 : Int32).toInt = 0 := by decide
            omega
          have ha_167 : (sv_144 (Mv 5).toNatClampNeg).toInt + (sv_142 : Int32).toInt ≤ (sv_137 : Int32).toInt := by
            have z_1 : ¬ (vy_20 : Int32).toInt = (0 : Int32).toInt := fun z => c_34 (Int32.toInt_inj.mp z)
            have z_2 : ¬ (r_149 : Int32).toInt = (0 : Int32).toInt := fun z => c_154 (Int32.toInt_inj.mp z)
            have y_0 : (0 : Int32).toInt = 0 := by decide
            omega
          refine cV (a := (Ma 0)) (As := []) (rest := []) (wr := []) ⟨hx, hb, hml, hown, hts⟩ hK hX hA (cu_kX12_closes l D tc sk (Ma 0) (Ma 1) (Ma 2) (Ma 3) (Ma 4) (Ma 5) (Ma 6) (Ma 7) (Ma 8) (Ma 9) (Ma 10) (Ma 11) (Ma 12) (Ma 13) (Ma 14) (Ma 15) (Ma 16) (Ma 17) (Ma 18) (Ma 19) (Ma 20) (Mv 0) (Mv 1) sv_137 sv_138 sv_139 (Mv 5) sv_140 sv_141 (Mv 8) sv_142 (Mv 10) (Mv 11) (Mv 12) (Mv 13) (Mv 14) (Mf 1) sv_143 sv_144 sv_145 (Mj 0) b (pz_tst (rB (Mf 1) (Mv 0)) (pz_fact (rB (Mf 1) (Mv 0)) 10) (St0 (rB (Mf 1) (Mv 0)) (Mv 2) (Mv 6))) (ll ++ ltst (rB (Mf 1) (Mv 0)) 10 (St0 (rB (Mf 1) (Mv 0)) (Mv 2) (Mv 6))) ha_166 pf_155 ha_167 h_bs pf_156 pf_157 h_tx) k_1338 k_1335 k_1337 k_53 k_106 pl_X12_closes ⟨Nat.le_of_ble_eq_true rfl, Nat.le_of_ble_eq_true rfl⟩ rfl rfl (va_recv hK hP (ci := 12) (q0 := 0) rfl rfl) hP hD hS [0, 1, 2, 3, 4] [] rfl rfl rfl rfl rfl (by decide) rfl hl.1 rfl (Nat.le_of_ble_eq_true rfl) dX12_tested_26 ⟨Nat.le_of_ble_eq_true rfl, Nat.le_of_ble_eq_true rfl⟩ (fun v_168 u_169 H locs hv_170 hP₀ hD₀ hS₀ => ?_)
          obtain ⟨sv_171, sv_172, sv_173, sv_174, sv_175⟩ := u_169
          obtain ⟨rfl, pf_176, pf_177, pf_178, pf_179, pf_180, pf_181, pf_182, pf_183⟩ := hv_170
          have pf_176 : (sv_137 : Int32).toInt ≤ (sv_171 : Int32).toInt ∧ (sv_171 : Int32).toInt ≤ ((Mv 0) : Int32).toInt := pf_176
          have pf_177 : Agr sv_143 sv_174 (400 * ((Mv 5) : Int32).toInt + (sv_144 (Mv 5).toNatClampNeg).toInt) := pf_177
          have pf_178 : LSR sv_145 sv_173 sv_174 sv_175 (Mv 5) b sv_140 := pf_178
          obtain ⟨pn_184, pf_185, pf_186⟩ := id pf_178
          have ar_pf_178 := LSR.ar pf_178
          have ar_pf_186 := Cd.ar pf_186
          have pf_179 : (sv_175 (Mv 5).toNatClampNeg).toInt + (sv_173 : Int32).toInt + (sv_137 : Int32).toInt ≤ (sv_144 (Mv 5).toNatClampNeg).toInt + (sv_142 : Int32).toInt + (sv_171 : Int32).toInt ∧ (sv_144 (Mv 5).toNatClampNeg).toInt ≤ (sv_175 (Mv 5).toNatClampNeg).toInt := pf_179
          have pf_180 : FcO (pz_tst (rB (Mf 1) (Mv 0)) (pz_fact (rB (Mf 1) (Mv 0)) 10) (St0 (rB (Mf 1) (Mv 0)) (Mv 2) (Mv 6))) (rB (Mf 1) (Mv 0)) sv_145 sv_173 sv_172 sv_171 sv_140 sv_138 := pf_180
          have ar_pf_180 := OsP.ar pf_180.1
          have aw_pf_180 := pf_180.2.1
          have pf_181 : T11 sv_145 sv_173 := pf_181
          have pf_182 : NBr (rB (Mf 1) (Mv 0)) sv_145 sv_173 sv_171 := pf_182
          have pf_183 : FcB (ll ++ ltst (rB (Mf 1) (Mv 0)) 10 (St0 (rB (Mf 1) (Mv 0)) (Mv 2) (Mv 6))) (pz_tst (rB (Mf 1) (Mv 0)) (pz_fact (rB (Mf 1) (Mv 0)) 10) (St0 (rB (Mf 1) (Mv 0)) (Mv 2) (Mv 6))) (rB (Mf 1) (Mv 0)) sv_145 sv_173 sv_171 sv_140 sv_174 sv_175 (Mv 5) := pf_183
          obtain ⟨lq_187, pf_188, pf_189, pf_190⟩ := id pf_183
          refine W.eq (g2 := F0 m 29 ls []) rfl ?_
          replace hP : va_P D classes [((Ma 0), .inr (12, [.ref (Ma 1), .int (Mv 0), .int (Mv 1), .ref (Ma 2), .ref (Ma 3), .ref (Ma 4), .ref (Ma 5), .ref (Ma 6), .int sv_171, .int sv_138, .int sv_139, .int (Mv 5), .int sv_140, .int sv_172, .int (Mv 8), .ref (Ma 7), .int sv_173, .ref (Ma 8), .int (Mv 10), .ref (Ma 9), .ref (Ma 10), .int (Mv 11), .int (Mv 12), .int (Mv 13), .ref (Ma 11), .int (Mv 14), .ref (Ma 12), .ref (Ma 13), .ref (Ma 14), .ref (Ma 15), .ref (Ma 16), .long (Mj 0), .ref (Ma 17), .ref (Ma 18), .ref (Ma 19), .ref (Ma 20)])), ((Ma 1), .inl (tc 2, 400, .inl (Mf 1))), ((Ma 2), .inl (tc 0, 2400, .inl sv_174)), ((Ma 3), .inl (tc 0, 7, .inl sv_175)), ((Ma 7), .inl (tc 0, 400, .inl sv_145))] H := hP₀
          replace hD : va_D A [((Ma 0), .inr (12, [.ref (Ma 1), .int (Mv 0), .int (Mv 1), .ref (Ma 2), .ref (Ma 3), .ref (Ma 4), .ref (Ma 5), .ref (Ma 6), .int sv_171, .int sv_138, .int sv_139, .int (Mv 5), .int sv_140, .int sv_172, .int (Mv 8), .ref (Ma 7), .int sv_173, .ref (Ma 8), .int (Mv 10), .ref (Ma 9), .ref (Ma 10), .int (Mv 11), .int (Mv 12), .int (Mv 13), .ref (Ma 11), .int (Mv 14), .ref (Ma 12), .ref (Ma 13), .ref (Ma 14), .ref (Ma 15), .ref (Ma 16), .long (Mj 0), .ref (Ma 17), .ref (Ma 18), .ref (Ma 19), .ref (Ma 20)])), ((Ma 1), .inl (tc 2, 400, .inl (Mf 1))), ((Ma 2), .inl (tc 0, 2400, .inl sv_174)), ((Ma 3), .inl (tc 0, 7, .inl sv_175)), ((Ma 7), .inl (tc 0, 400, .inl sv_145))] := hD₀
          replace hS := hS₀
          clear hP₀ hD₀ hS₀
          refine lv_aload_n hx hb dX12_tested_29 rfl (lv_at hl 1 rfl) ?_
          refine lv_ldc2 hx hb hown (hts _ k_1350) dX12_tested_30 ?_
          have ha_191 : 0 ≤ (sv_171 : Int32).toInt ∧ (sv_171 : Int32).toInt ≤ ((Mv 0) : Int32).toInt ∧ ((Mv 0) : Int32).toInt ≤ 400 := by
            have z_1 : ¬ (vy_20 : Int32).toInt = (0 : Int32).toInt := fun z => c_34 (Int32.toInt_inj.mp z)
            have z_2 : ¬ (r_149 : Int32).toInt = (0 : Int32).toInt := fun z => c_154 (Int32.toInt_inj.mp z)
            have y_0 : (0 : Int32).toInt = 0 := by decide
            omega
          refine cV (a := (Ma 0)) (As := [.long 6385252]) (rest := []) (wr := [((Ma 2), .inl (tc 0, 2400, .inl sv_174)), ((Ma 3), .inl (tc 0, 7, .inl sv_175)), ((Ma 7), .inl (tc 0, 400, .inl sv_145))]) ⟨hx, hb, hml, hown, hts⟩ hK hX hA (cu_fX12_isWord l D tc sk (Ma 0) (Ma 1) (Ma 2) (Ma 3) (Ma 4) (Ma 5) (Ma 6) (Ma 7) (Ma 8) (Ma 9) (Ma 10) (Ma 11) (Ma 12) (Ma 13) (Ma 14) (Ma 15) (Ma 16) (Ma 17) (Ma 18) (Ma 19) (Ma 20) (Mv 0) (Mv 1) sv_171 sv_138 sv_139 (Mv 5) sv_140 sv_172 (Mv 8) sv_173 (Mv 10) (Mv 11) (Mv 12) (Mv 13) (Mv 14) (Mf 1) (Mj 0) 6385252 ha_191 h_bs) k_1220 k_1217 k_1219 k_29 k_106 pl_X12_isWord ⟨Nat.le_of_ble_eq_true rfl, Nat.le_of_ble_eq_true rfl⟩ rfl rfl (va_recv hK hP (ci := 12) (q0 := 0) rfl rfl) hP hD hS [0, 1] [2, 3, 4] rfl rfl rfl rfl rfl (by decide) rfl hl.1 rfl (Nat.le_of_ble_eq_true rfl) dX12_tested_33 ⟨Nat.le_of_ble_eq_true rfl, Nat.le_of_ble_eq_true rfl⟩ (fun v_192 u_193 H locs hv_194 hP₀ hD₀ hS₀ => ?_)
          obtain ⟨sv_195, rfl⟩ : ∃ z, z = u_193 := ⟨_, rfl⟩
          obtain ⟨r_200, rfl, he_201, pf_196, pf_197, pf_198, pf_199, hm_203, hm_204⟩ := hv_194
          have he_201 : (r_200.toInt = 0 ∨ r_200.toInt = 1) := he_201
          have pf_196 : (sv_171 : Int32).toInt ≤ (sv_195 : Int32).toInt ∧ (sv_195 : Int32).toInt ≤ ((Mv 0) : Int32).toInt := pf_196
          have pf_197 : NSq (Mf 1) (Mv 0) sv_195 := pf_197
          have pf_198 : Stl (Mf 1) (Mv 0) sv_171 sv_195 := pf_198
          have pf_199 : SkR (rB (Mf 1) (Mv 0)) sv_171 sv_195 := pf_199
          refine W.eq (g2 := F0 m 36 ls [.int r_200]) rfl ?_
          replace hP : va_P D classes [((Ma 2), .inl (tc 0, 2400, .inl sv_174)), ((Ma 3), .inl (tc 0, 7, .inl sv_175)), ((Ma 7), .inl (tc 0, 400, .inl sv_145)), ((Ma 0), .inr (12, [.ref (Ma 1), .int (Mv 0), .int (Mv 1), .ref (Ma 2), .ref (Ma 3), .ref (Ma 4), .ref (Ma 5), .ref (Ma 6), .int sv_195, .int sv_138, .int sv_139, .int (Mv 5), .int sv_140, .int sv_172, .int (Mv 8), .ref (Ma 7), .int sv_173, .ref (Ma 8), .int (Mv 10), .ref (Ma 9), .ref (Ma 10), .int (Mv 11), .int (Mv 12), .int (Mv 13), .ref (Ma 11), .int (Mv 14), .ref (Ma 12), .ref (Ma 13), .ref (Ma 14), .ref (Ma 15), .ref (Ma 16), .long (Mj 0), .ref (Ma 17), .ref (Ma 18), .ref (Ma 19), .ref (Ma 20)])), ((Ma 1), .inl (tc 2, 400, .inl (Mf 1)))] H := hP₀
          replace hD : va_D A [((Ma 2), .inl (tc 0, 2400, .inl sv_174)), ((Ma 3), .inl (tc 0, 7, .inl sv_175)), ((Ma 7), .inl (tc 0, 400, .inl sv_145)), ((Ma 0), .inr (12, [.ref (Ma 1), .int (Mv 0), .int (Mv 1), .ref (Ma 2), .ref (Ma 3), .ref (Ma 4), .ref (Ma 5), .ref (Ma 6), .int sv_195, .int sv_138, .int sv_139, .int (Mv 5), .int sv_140, .int sv_172, .int (Mv 8), .ref (Ma 7), .int sv_173, .ref (Ma 8), .int (Mv 10), .ref (Ma 9), .ref (Ma 10), .int (Mv 11), .int (Mv 12), .int (Mv 13), .ref (Ma 11), .int (Mv 14), .ref (Ma 12), .ref (Ma 13), .ref (Ma 14), .ref (Ma 15), .ref (Ma 16), .long (Mj 0), .ref (Ma 17), .ref (Ma 18), .ref (Ma 19), .ref (Ma 20)])), ((Ma 1), .inl (tc 2, 400, .inl (Mf 1)))] := hD₀
          replace hS := hS₀
          clear hP₀ hD₀ hS₀
          refine lv_if_ne (tgt := 49) hx hb dX12_tested_36 (by decide) (fun c_205 => ?_) (fun c_205 => ?_)
          · skip
            have hz_208 : (r_200 : Int32).toInt = 1 := by
              have z_1 : ¬ (vy_20 : Int32).toInt = (0 : Int32).toInt := fun z => c_34 (Int32.toInt_inj.mp z)
              have z_2 : ¬ (r_149 : Int32).toInt = (0 : Int32).toInt := fun z => c_154 (Int32.toInt_inj.mp z)
              have z_3 : ¬ (r_200 : Int32).toInt = (0 : Int32).toInt := fun z => c_205 (Int32.toInt_inj.mp z)
              have y_0 : (0 : Int32).toInt = 0 := by decide
              omega
            obtain ⟨pf_206, pf_207⟩ := hm_203 hz_208
            have pf_206 : Ltr (Mf 1) (Mv 0) sv_195 := pf_206
            have ar_pf_206 := pf_206.1
            have at_pf_206 : 97 ≤ ((Mf 1) (sv_195 : Int32).toInt.toNat).toInt ∧ ((Mf 1) (sv_195 : Int32).toInt.toNat).toInt ≤ 122 := pf_206.2
            have pf_207 : PkW (rB (Mf 1) (Mv 0)) ((sv_195 : Int32).toInt.toNat) (6385252 : Int64).toInt := pf_207
            refine lv_iconst (v := 1) hx hb dX12_tested_49 (by decide) ?_
            refine lv_goto (tgt := 54) hx hb dX12_tested_50 (by decide) ?_
            refine lv_istore_n (lv' := [(1, .int 1), (0, .ref (Ma 0))]) hx hb dX12_tested_54 rfl hl (by decide) rfl (fun ls hl₀ => ?_)
            replace hl := hl₀
            clear hl₀
            refine lv_iload_n hx hb dX12_tested_55 rfl (lv_at hl 0 rfl) ?_
            refine lv_if_eq (tgt := 12) hx hb dX12_tested_56 (by decide) (fun c_209 => absurd c_209 (by decide)) (fun c_209 => ?_)
            refine lv_aload_n hx hb dX12_tested_59 rfl (lv_at hl 1 rfl) ?_
            refine lv_ldc2 hx hb hown (hts _ k_1350) dX12_tested_60 ?_
            have ha_210 : 0 ≤ (sv_195 : Int32).toInt ∧ (sv_195 : Int32).toInt ≤ ((Mv 0) : Int32).toInt ∧ ((Mv 0) : Int32).toInt ≤ 400 := by
              have z_1 : ¬ (vy_20 : Int32).toInt = (0 : Int32).toInt := fun z => c_34 (Int32.toInt_inj.mp z)
              have z_2 : ¬ (r_149 : Int32).toInt = (0 : Int32).toInt := fun z => c_154 (Int32.toInt_inj.mp z)
              have z_3 : ¬ (r_200 : Int32).toInt = (0 : Int32).toInt := fun z => c_205 (Int32.toInt_inj.mp z)
              have y_0 : (0 : Int32).toInt = 0 := by decide
              omega
            refine cV (a := (Ma 0)) (As := [.long 6385252]) (rest := []) (wr := [((Ma 2), .inl (tc 0, 2400, .inl sv_174)), ((Ma 3), .inl (tc 0, 7, .inl sv_175)), ((Ma 7), .inl (tc 0, 400, .inl sv_145))]) ⟨hx, hb, hml, hown, hts⟩ hK hX hA (cu_fX12_isWord l D tc sk (Ma 0) (Ma 1) (Ma 2) (Ma 3) (Ma 4) (Ma 5) (Ma 6) (Ma 7) (Ma 8) (Ma 9) (Ma 10) (Ma 11) (Ma 12) (Ma 13) (Ma 14) (Ma 15) (Ma 16) (Ma 17) (Ma 18) (Ma 19) (Ma 20) (Mv 0) (Mv 1) sv_195 sv_138 sv_139 (Mv 5) sv_140 sv_172 (Mv 8) sv_173 (Mv 10) (Mv 11) (Mv 12) (Mv 13) (Mv 14) (Mf 1) (Mj 0) 6385252 ha_210 h_bs) k_1220 k_1217 k_1219 k_29 k_106 pl_X12_isWord ⟨Nat.le_of_ble_eq_true rfl, Nat.le_of_ble_eq_true rfl⟩ rfl rfl (va_recv hK hP (ci := 12) (q0 := 3) rfl rfl) hP hD hS [3, 4] [0, 1, 2] rfl rfl rfl rfl rfl (by decide) rfl hl.1 rfl (Nat.le_of_ble_eq_true rfl) dX12_tested_63 ⟨Nat.le_of_ble_eq_true rfl, Nat.le_of_ble_eq_true rfl⟩ (fun v_211 u_212 H locs hv_213 hP₀ hD₀ hS₀ => ?_)
            obtain ⟨sv_214, rfl⟩ : ∃ z, z = u_212 := ⟨_, rfl⟩
            obtain ⟨r_219, rfl, he_220, pf_215, pf_216, pf_217, pf_218, hm_222, hm_223⟩ := hv_213
            have he_220 : (r_219.toInt = 0 ∨ r_219.toInt = 1) := he_220
            have pf_215 : (sv_195 : Int32).toInt ≤ (sv_214 : Int32).toInt ∧ (sv_214 : Int32).toInt ≤ ((Mv 0) : Int32).toInt := pf_215
            have pf_216 : NSq (Mf 1) (Mv 0) sv_214 := pf_216
            have pf_217 : Stl (Mf 1) (Mv 0) sv_195 sv_214 := pf_217
            have pf_224 := Stl.ltr pf_217 pf_206
            have ar_pf_224 := pf_224.2
            have pf_225 : Ltr (Mf 1) (Mv 0) sv_214 := pf_224.1
            have ar_pf_217 := Stl.or pf_217 pf_197
            have pf_218 : SkR (rB (Mf 1) (Mv 0)) sv_195 sv_214 := pf_218
            refine W.eq (g2 := F0 m 66 ls [.int r_219]) rfl ?_
            replace hP : va_P D classes [((Ma 2), .inl (tc 0, 2400, .inl sv_174)), ((Ma 3), .inl (tc 0, 7, .inl sv_175)), ((Ma 7), .inl (tc 0, 400, .inl sv_145)), ((Ma 0), .inr (12, [.ref (Ma 1), .int (Mv 0), .int (Mv 1), .ref (Ma 2), .ref (Ma 3), .ref (Ma 4), .ref (Ma 5), .ref (Ma 6), .int sv_214, .int sv_138, .int sv_139, .int (Mv 5), .int sv_140, .int sv_172, .int (Mv 8), .ref (Ma 7), .int sv_173, .ref (Ma 8), .int (Mv 10), .ref (Ma 9), .ref (Ma 10), .int (Mv 11), .int (Mv 12), .int (Mv 13), .ref (Ma 11), .int (Mv 14), .ref (Ma 12), .ref (Ma 13), .ref (Ma 14), .ref (Ma 15), .ref (Ma 16), .long (Mj 0), .ref (Ma 17), .ref (Ma 18), .ref (Ma 19), .ref (Ma 20)])), ((Ma 1), .inl (tc 2, 400, .inl (Mf 1)))] H := hP₀
            replace hD : va_D A [((Ma 2), .inl (tc 0, 2400, .inl sv_174)), ((Ma 3), .inl (tc 0, 7, .inl sv_175)), ((Ma 7), .inl (tc 0, 400, .inl sv_145)), ((Ma 0), .inr (12, [.ref (Ma 1), .int (Mv 0), .int (Mv 1), .ref (Ma 2), .ref (Ma 3), .ref (Ma 4), .ref (Ma 5), .ref (Ma 6), .int sv_214, .int sv_138, .int sv_139, .int (Mv 5), .int sv_140, .int sv_172, .int (Mv 8), .ref (Ma 7), .int sv_173, .ref (Ma 8), .int (Mv 10), .ref (Ma 9), .ref (Ma 10), .int (Mv 11), .int (Mv 12), .int (Mv 13), .ref (Ma 11), .int (Mv 14), .ref (Ma 12), .ref (Ma 13), .ref (Ma 14), .ref (Ma 15), .ref (Ma 16), .long (Mj 0), .ref (Ma 17), .ref (Ma 18), .ref (Ma 19), .ref (Ma 20)])), ((Ma 1), .inl (tc 2, 400, .inl (Mf 1)))] := hD₀
            replace hS := hS₀
            clear hP₀ hD₀ hS₀
            have hE_226 := SkR.eqB pf_199 pf_218
            refine lv_if_eq (tgt := 74) hx hb dX12_tested_66 (by decide) (fun c_227 => ?_) (fun c_227 => ?_)
            · skip
              have hz_229 : (r_219 : Int32).toInt = 0 := by
                have z_1 : ¬ (vy_20 : Int32).toInt = (0 : Int32).toInt := fun z => c_34 (Int32.toInt_inj.mp z)
                have z_2 : ¬ (r_149 : Int32).toInt = (0 : Int32).toInt := fun z => c_154 (Int32.toInt_inj.mp z)
                have z_3 : ¬ (r_200 : Int32).toInt = (0 : Int32).toInt := fun z => c_205 (Int32.toInt_inj.mp z)
                have z_4 := congrArg Int32.toInt c_227
                have y_0 : (0 : Int32).toInt = 0 := by decide
                omega
              obtain pf_228 := hm_223 hz_229
              have pf_228 : NPk (rB (Mf 1) (Mv 0)) ((sv_214 : Int32).toInt.toNat) (6385252 : Int64).toInt := pf_228
              refine lv_bipush (v := 13) hx hb dX12_tested_74 (by decide) ?_
              refine lv_istore_n (lv' := [(2, .int 13), (1, .int 1), (0, .ref (Ma 0))]) hx hb dX12_tested_76 rfl hl (by decide) rfl (fun ls hl₀ => ?_)
              replace hl := hl₀
              clear hl₀
              refine lv_aload_n hx hb dX12_tested_77 rfl (lv_at hl 2 rfl) ?_
              have ha_230 : 0 ≤ (sv_214 : Int32).toInt ∧ (sv_214 : Int32).toInt ≤ ((Mv 0) : Int32).toInt ∧ ((Mv 0) : Int32).toInt ≤ 400 := by
                have z_1 : ¬ (vy_20 : Int32).toInt = (0 : Int32).toInt := fun z => c_34 (Int32.toInt_inj.mp z)
                have z_2 : ¬ (r_149 : Int32).toInt = (0 : Int32).toInt := fun z => c_154 (Int32.toInt_inj.mp z)
                have z_3 : ¬ (r_200 : Int32).toInt = (0 : Int32).toInt := fun z => c_205 (Int32.toInt_inj.mp z)
                have z_4 := congrArg Int32.toInt c_227
                have y_0 : (0 : Int32).toInt = 0 := by decide
                omega
              refine cV (a := (Ma 0)) (As := []) (rest := []) (wr := [((Ma 2), .inl (tc 0, 2400, .inl sv_174)), ((Ma 3), .inl (tc 0, 7, .inl sv_175)), ((Ma 7), .inl (tc 0, 400, .inl sv_145))]) ⟨hx, hb, hml, hown, hts⟩ hK hX hA (cu_fX12_passWord l D tc sk (Ma 0) (Ma 1) (Ma 2) (Ma 3) (Ma 4) (Ma 5) (Ma 6) (Ma 7) (Ma 8) (Ma 9) (Ma 10) (Ma 11) (Ma 12) (Ma 13) (Ma 14) (Ma 15) (Ma 16) (Ma 17) (Ma 18) (Ma 19) (Ma 20) (Mv 0) (Mv 1) sv_214 sv_138 sv_139 (Mv 5) sv_140 sv_172 (Mv 8) sv_173 (Mv 10) (Mv 11) (Mv 12) (Mv 13) (Mv 14) (Mf 1) (Mj 0) ha_230 h_bs) k_1244 k_1241 k_1243 k_34 k_106 pl_X12_passWord ⟨Nat.le_of_ble_eq_true rfl, Nat.le_of_ble_eq_true rfl⟩ rfl rfl (va_recv hK hP (ci := 12) (q0 := 3) rfl rfl) hP hD hS [3, 4] [0, 1, 2] rfl rfl rfl rfl rfl (by decide) rfl hl.1 rfl (Nat.le_of_ble_eq_true rfl) dX12_tested_78 ⟨Nat.le_of_ble_eq_true rfl, Nat.le_of_ble_eq_true rfl⟩ (fun v_231 u_232 H locs hv_233 hP₀ hD₀ hS₀ => ?_)
              obtain ⟨sv_234, rfl⟩ : ∃ z, z = u_232 := ⟨_, rfl⟩
              obtain ⟨rfl, pf_235, pf_236, pf_237⟩ := hv_233
              have pf_235 : (sv_214 : Int32).toInt ≤ (sv_234 : Int32).toInt ∧ (sv_234 : Int32).toInt ≤ ((Mv 0) : Int32).toInt := pf_235
              have pf_236 : Pw (Mf 1) (Mv 0) sv_214 sv_234 := pf_236
              have ar_pf_236 := pf_236 pf_225
              have pf_237 : PsR (rB (Mf 1) (Mv 0)) sv_214 sv_234 := pf_237
              refine W.eq (g2 := F0 m 81 ls []) rfl ?_
              replace hP : va_P D classes [((Ma 2), .inl (tc 0, 2400, .inl sv_174)), ((Ma 3), .inl (tc 0, 7, .inl sv_175)), ((Ma 7), .inl (tc 0, 400, .inl sv_145)), ((Ma 0), .inr (12, [.ref (Ma 1), .int (Mv 0), .int (Mv 1), .ref (Ma 2), .ref (Ma 3), .ref (Ma 4), .ref (Ma 5), .ref (Ma 6), .int sv_234, .int sv_138, .int sv_139, .int (Mv 5), .int sv_140, .int sv_172, .int (Mv 8), .ref (Ma 7), .int sv_173, .ref (Ma 8), .int (Mv 10), .ref (Ma 9), .ref (Ma 10), .int (Mv 11), .int (Mv 12), .int (Mv 13), .ref (Ma 11), .int (Mv 14), .ref (Ma 12), .ref (Ma 13), .ref (Ma 14), .ref (Ma 15), .ref (Ma 16), .long (Mj 0), .ref (Ma 17), .ref (Ma 18), .ref (Ma 19), .ref (Ma 20)])), ((Ma 1), .inl (tc 2, 400, .inl (Mf 1)))] H := hP₀
              replace hD : va_D A [((Ma 2), .inl (tc 0, 2400, .inl sv_174)), ((Ma 3), .inl (tc 0, 7, .inl sv_175)), ((Ma 7), .inl (tc 0, 400, .inl sv_145)), ((Ma 0), .inr (12, [.ref (Ma 1), .int (Mv 0), .int (Mv 1), .ref (Ma 2), .ref (Ma 3), .ref (Ma 4), .ref (Ma 5), .ref (Ma 6), .int sv_234, .int sv_138, .int sv_139, .int (Mv 5), .int sv_140, .int sv_172, .int (Mv 8), .ref (Ma 7), .int sv_173, .ref (Ma 8), .int (Mv 10), .ref (Ma 9), .ref (Ma 10), .int (Mv 11), .int (Mv 12), .int (Mv 13), .ref (Ma 11), .int (Mv 14), .ref (Ma 12), .ref (Ma 13), .ref (Ma 14), .ref (Ma 15), .ref (Ma 16), .long (Mj 0), .ref (Ma 17), .ref (Ma 18), .ref (Ma 19), .ref (Ma 20)])), ((Ma 1), .inl (tc 2, 400, .inl (Mf 1)))] := hD₀
              replace hS := hS₀
              clear hP₀ hD₀ hS₀
              refine lv_aload_n hx hb dX12_tested_81 rfl (lv_at hl 2 rfl) ?_
              refine lv_iload_n hx hb dX12_tested_82 rfl (lv_at hl 0 rfl) ?_
              refine cS (As := [.int 13]) (rest := [.ref (Ma 0)]) (wr := [((Ma 2), .inl (tc 0, 2400, .inl sv_174)), ((Ma 3), .inl (tc 0, 7, .inl sv_175)), ((Ma 7), .inl (tc 0, 400, .inl sv_145)), ((Ma 0), .inr (12, [.ref (Ma 1), .int (Mv 0), .int (Mv 1), .ref (Ma 2), .ref (Ma 3), .ref (Ma 4), .ref (Ma 5), .ref (Ma 6), .int sv_234, .int sv_138, .int sv_139, .int (Mv 5), .int sv_140, .int sv_172, .int (Mv 8), .ref (Ma 7), .int sv_173, .ref (Ma 8), .int (Mv 10), .ref (Ma 9), .ref (Ma 10), .int (Mv 11), .int (Mv 12), .int (Mv 13), .ref (Ma 11), .int (Mv 14), .ref (Ma 12), .ref (Ma 13), .ref (Ma 14), .ref (Ma 15), .ref (Ma 16), .long (Mj 0), .ref (Ma 17), .ref (Ma 18), .ref (Ma 19), .ref (Ma 20)])), ((Ma 1), .inl (tc 2, 400, .inl (Mf 1)))]) ⟨hx, hb, hml, hown, hts⟩ hK hX hA (ct_X12_strength l D tc sk 13) k_1345 k_1343 k_1344 k_106 pl_X12_strength ⟨Nat.le_of_ble_eq_true rfl, Nat.le_of_ble_eq_true rfl⟩ rfl rfl  hP hD hS [] [0, 1, 2, 3, 4] rfl rfl rfl rfl rfl (by decide) rfl hl.1 rfl (Nat.le_of_ble_eq_true rfl) dX12_tested_83 ⟨Nat.le_of_ble_eq_true rfl, Nat.le_of_ble_eq_true rfl⟩ (fun v_238 u_239 H locs hv_240 hP₀ hD₀ hS₀ => ?_)
              obtain ⟨r_241, rfl, he_242⟩ := hv_240
              have he_242 : (((13 : Int32).toInt = 13 ∧ r_241.toInt = 1) ∨ ((13 : Int32).toInt = 12 ∧ r_241.toInt = 2) ∨ ((13 : Int32).toInt = 11 ∧ r_241.toInt = 3) ∨ ((13 : Int32).toInt ≠ 13 ∧ (13 : Int32).toInt ≠ 12 ∧ (13 : Int32).toInt ≠ 11 ∧ r_241.toInt = 0)) := he_242
              refine W.eq (g2 := F0 m 86 ls [.int r_241, .ref (Ma 0)]) rfl ?_
              replace hP : va_P D classes [((Ma 2), .inl (tc 0, 2400, .inl sv_174)), ((Ma 3), .inl (tc 0, 7, .inl sv_175)), ((Ma 7), .inl (tc 0, 400, .inl sv_145)), ((Ma 0), .inr (12, [.ref (Ma 1), .int (Mv 0), .int (Mv 1), .ref (Ma 2), .ref (Ma 3), .ref (Ma 4), .ref (Ma 5), .ref (Ma 6), .int sv_234, .int sv_138, .int sv_139, .int (Mv 5), .int sv_140, .int sv_172, .int (Mv 8), .ref (Ma 7), .int sv_173, .ref (Ma 8), .int (Mv 10), .ref (Ma 9), .ref (Ma 10), .int (Mv 11), .int (Mv 12), .int (Mv 13), .ref (Ma 11), .int (Mv 14), .ref (Ma 12), .ref (Ma 13), .ref (Ma 14), .ref (Ma 15), .ref (Ma 16), .long (Mj 0), .ref (Ma 17), .ref (Ma 18), .ref (Ma 19), .ref (Ma 20)])), ((Ma 1), .inl (tc 2, 400, .inl (Mf 1)))] H := hP₀
              replace hD : va_D A [((Ma 2), .inl (tc 0, 2400, .inl sv_174)), ((Ma 3), .inl (tc 0, 7, .inl sv_175)), ((Ma 7), .inl (tc 0, 400, .inl sv_145)), ((Ma 0), .inr (12, [.ref (Ma 1), .int (Mv 0), .int (Mv 1), .ref (Ma 2), .ref (Ma 3), .ref (Ma 4), .ref (Ma 5), .ref (Ma 6), .int sv_234, .int sv_138, .int sv_139, .int (Mv 5), .int sv_140, .int sv_172, .int (Mv 8), .ref (Ma 7), .int sv_173, .ref (Ma 8), .int (Mv 10), .ref (Ma 9), .ref (Ma 10), .int (Mv 11), .int (Mv 12), .int (Mv 13), .ref (Ma 11), .int (Mv 14), .ref (Ma 12), .ref (Ma 13), .ref (Ma 14), .ref (Ma 15), .ref (Ma 16), .long (Mj 0), .ref (Ma 17), .ref (Ma 18), .ref (Ma 19), .ref (Ma 20)])), ((Ma 1), .inl (tc 2, 400, .inl (Mf 1)))] := hD₀
              replace hS := hS₀
              clear hP₀ hD₀ hS₀
              have yy_243 : (13 : Int32).toInt = 13 := by decide
              have ha_244 : 1 ≤ r_241.toInt ∧ r_241.toInt ≤ 3 := by
                have z_1 : ¬ (vy_20 : Int32).toInt = (0 : Int32).toInt := fun z => c_34 (Int32.toInt_inj.mp z)
                have z_2 : ¬ (r_149 : Int32).toInt = (0 : Int32).toInt := fun z => c_154 (Int32.toInt_inj.mp z)
                have z_3 : ¬ (r_200 : Int32).toInt = (0 : Int32).toInt := fun z => c_205 (Int32.toInt_inj.mp z)
                have z_4 := congrArg Int32.toInt c_227
                have y_0 : (0 : Int32).toInt = 0 := by decide
                omega
              have ha_245 : (sv_175 (Mv 5).toNatClampNeg).toInt + (sv_173 : Int32).toInt ≤ 400 := by
                have z_1 : ¬ (vy_20 : Int32).toInt = (0 : Int32).toInt := fun z => c_34 (Int32.toInt_inj.mp z)
                have z_2 : ¬ (r_149 : Int32).toInt = (0 : Int32).toInt := fun z => c_154 (Int32.toInt_inj.mp z)
                have z_3 : ¬ (r_200 : Int32).toInt = (0 : Int32).toInt := fun z => c_205 (Int32.toInt_inj.mp z)
                have z_4 := congrArg Int32.toInt c_227
                have y_0 : (0 : Int32).toInt = 0 := by decide
                omega
              refine cV (a := (Ma 0)) (As := [.int r_241]) (rest := []) (wr := [((Ma 1), .inl (tc 2, 400, .inl (Mf 1)))]) ⟨hx, hb, hml, hown, hts⟩ hK hX hA (cu_kX12_layDown l D tc sk (Ma 0) (Ma 1) (Ma 2) (Ma 3) (Ma 4) (Ma 5) (Ma 6) (Ma 7) (Ma 8) (Ma 9) (Ma 10) (Ma 11) (Ma 12) (Ma 13) (Ma 14) (Ma 15) (Ma 16) (Ma 17) (Ma 18) (Ma 19) (Ma 20) (Mv 0) (Mv 1) sv_234 sv_138 sv_139 (Mv 5) sv_140 sv_172 (Mv 8) sv_173 (Mv 10) (Mv 11) (Mv 12) (Mv 13) (Mv 14) sv_174 sv_175 sv_145 (Mj 0) r_241 b lq_187 pf_178 ha_244 ha_245 pf_180.1 pf_188 h_tx) k_1342 k_1339 k_1341 k_54 k_106 pl_X12_layDown ⟨Nat.le_of_ble_eq_true rfl, Nat.le_of_ble_eq_true rfl⟩ rfl rfl (va_recv hK hP (ci := 12) (q0 := 3) rfl rfl) hP hD hS [3, 0, 1, 2] [4] rfl rfl rfl rfl rfl (by decide) rfl hl.1 rfl (Nat.le_of_ble_eq_true rfl) dX12_tested_86 ⟨Nat.le_of_ble_eq_true rfl, Nat.le_of_ble_eq_true rfl⟩ (fun v_246 u_247 H locs hv_248 hP₀ hD₀ hS₀ => ?_)
              obtain ⟨sv_249, sv_250, sv_251, sv_252⟩ := u_247
              obtain ⟨rfl, pf_253, pf_254, pf_255, pf_256, pf_257, pf_258, pf_259, pf_260, pf_261⟩ := hv_248
              have pf_253 : LSR sv_145 sv_250 sv_251 sv_252 (Mv 5) b sv_140 := pf_253
              obtain ⟨pn_262, pf_263, pf_264⟩ := id pf_253
              have ar_pf_253 := LSR.ar pf_253
              have ar_pf_264 := Cd.ar pf_264
              have pf_254 : (sv_252 (Mv 5).toNatClampNeg).toInt + (sv_250 : Int32).toInt = (sv_175 (Mv 5).toNatClampNeg).toInt + (sv_173 : Int32).toInt ∧ 0 ≤ (sv_250 : Int32).toInt ∧ (sv_250 : Int32).toInt ≤ (sv_173 : Int32).toInt := pf_254
              have pf_255 : Agr sv_174 sv_251 (400 * ((Mv 5) : Int32).toInt + (sv_175 (Mv 5).toNatClampNeg).toInt) := pf_255
              have pf_256 : LdE sv_145 sv_250 r_241 := pf_256
              have pf_257 : InK sv_145 sv_173 sv_250 := pf_257
              have pf_258 : LdP sv_145 sv_173 sv_250 sv_249 := pf_258
              have ar_pf_258 := OsP.ar pf_258.1
              have pf_259 : T11 sv_145 sv_250 := pf_259
              have pf_260 : LdC sv_145 sv_173 sv_250 sv_251 sv_252 (Mv 5) lq_187 r_241 := pf_260
              have pf_261 : LdS sv_145 sv_250 r_241 := pf_261
              refine W.eq (g2 := F0 m 89 ls []) rfl ?_
              replace hP : va_P D classes [((Ma 1), .inl (tc 2, 400, .inl (Mf 1))), ((Ma 0), .inr (12, [.ref (Ma 1), .int (Mv 0), .int (Mv 1), .ref (Ma 2), .ref (Ma 3), .ref (Ma 4), .ref (Ma 5), .ref (Ma 6), .int sv_234, .int sv_138, .int sv_139, .int (Mv 5), .int sv_140, .int sv_249, .int (Mv 8), .ref (Ma 7), .int sv_250, .ref (Ma 8), .int (Mv 10), .ref (Ma 9), .ref (Ma 10), .int (Mv 11), .int (Mv 12), .int (Mv 13), .ref (Ma 11), .int (Mv 14), .ref (Ma 12), .ref (Ma 13), .ref (Ma 14), .ref (Ma 15), .ref (Ma 16), .long (Mj 0), .ref (Ma 17), .ref (Ma 18), .ref (Ma 19), .ref (Ma 20)])), ((Ma 2), .inl (tc 0, 2400, .inl sv_251)), ((Ma 3), .inl (tc 0, 7, .inl sv_252)), ((Ma 7), .inl (tc 0, 400, .inl sv_145))] H := hP₀
              replace hD : va_D A [((Ma 1), .inl (tc 2, 400, .inl (Mf 1))), ((Ma 0), .inr (12, [.ref (Ma 1), .int (Mv 0), .int (Mv 1), .ref (Ma 2), .ref (Ma 3), .ref (Ma 4), .ref (Ma 5), .ref (Ma 6), .int sv_234, .int sv_138, .int sv_139, .int (Mv 5), .int sv_140, .int sv_249, .int (Mv 8), .ref (Ma 7), .int sv_250, .ref (Ma 8), .int (Mv 10), .ref (Ma 9), .ref (Ma 10), .int (Mv 11), .int (Mv 12), .int (Mv 13), .ref (Ma 11), .int (Mv 14), .ref (Ma 12), .ref (Ma 13), .ref (Ma 14), .ref (Ma 15), .ref (Ma 16), .long (Mj 0), .ref (Ma 17), .ref (Ma 18), .ref (Ma 19), .ref (Ma 20)])), ((Ma 2), .inl (tc 0, 2400, .inl sv_251)), ((Ma 3), .inl (tc 0, 7, .inl sv_252)), ((Ma 7), .inl (tc 0, 400, .inl sv_145))] := hD₀
              replace hS := hS₀
              clear hP₀ hD₀ hS₀
              refine lv_aload_n hx hb dX12_tested_89 rfl (lv_at hl 2 rfl) ?_
              refine gf_X12_29 hx hb hts hown hK hP 1 rfl rfl dX12_tested_90 ?_
              refine lv_aload_n hx hb dX12_tested_93 rfl (lv_at hl 2 rfl) ?_
              refine gf_X12_154 hx hb hts hown hK hP 1 rfl rfl dX12_tested_94 ?_
              refine lv_iload_n hx hb dX12_tested_97 rfl (lv_at hl 0 rfl) ?_
              have hi_265 : vp_in sv_250 400 := by
                have z_1 : ¬ (vy_20 : Int32).toInt = (0 : Int32).toInt := fun z => c_34 (Int32.toInt_inj.mp z)
                have z_2 : ¬ (r_149 : Int32).toInt = (0 : Int32).toInt := fun z => c_154 (Int32.toInt_inj.mp z)
                have z_3 : ¬ (r_200 : Int32).toInt = (0 : Int32).toInt := fun z => c_205 (Int32.toInt_inj.mp z)
                have z_4 := congrArg Int32.toInt c_227
                have y_0 : (0 : Int32).toInt = 0 := by decide
                refine vp_in_iff.mpr ⟨?_, ?_⟩ <;> omega
              refine st_int hx hb hK hP hD hS 4 0 rfl rfl hi_265 dX12_tested_98 (fun g_266 H locs eg_266 hP₀ hD₀ hS₀ => ?_)
              replace hP : va_P D classes [((Ma 1), .inl (tc 2, 400, .inl (Mf 1))), ((Ma 0), .inr (12, [.ref (Ma 1), .int (Mv 0), .int (Mv 1), .ref (Ma 2), .ref (Ma 3), .ref (Ma 4), .ref (Ma 5), .ref (Ma 6), .int sv_234, .int sv_138, .int sv_139, .int (Mv 5), .int sv_140, .int sv_249, .int (Mv 8), .ref (Ma 7), .int sv_250, .ref (Ma 8), .int (Mv 10), .ref (Ma 9), .ref (Ma 10), .int (Mv 11), .int (Mv 12), .int (Mv 13), .ref (Ma 11), .int (Mv 14), .ref (Ma 12), .ref (Ma 13), .ref (Ma 14), .ref (Ma 15), .ref (Ma 16), .long (Mj 0), .ref (Ma 17), .ref (Ma 18), .ref (Ma 19), .ref (Ma 20)])), ((Ma 2), .inl (tc 0, 2400, .inl sv_251)), ((Ma 3), .inl (tc 0, 7, .inl sv_252)), ((Ma 7), .inl (tc 0, 400, .inl g_266))] H := hP₀
              replace hD : va_D A [((Ma 1), .inl (tc 2, 400, .inl (Mf 1))), ((Ma 0), .inr (12, [.ref (Ma 1), .int (Mv 0), .int (Mv 1), .ref (Ma 2), .ref (Ma 3), .ref (Ma 4), .ref (Ma 5), .ref (Ma 6), .int sv_234, .int sv_138, .int sv_139, .int (Mv 5), .int sv_140, .int sv_249, .int (Mv 8), .ref (Ma 7), .int sv_250, .ref (Ma 8), .int (Mv 10), .ref (Ma 9), .ref (Ma 10), .int (Mv 11), .int (Mv 12), .int (Mv 13), .ref (Ma 11), .int (Mv 14), .ref (Ma 12), .ref (Ma 13), .ref (Ma 14), .ref (Ma 15), .ref (Ma 16), .long (Mj 0), .ref (Ma 17), .ref (Ma 18), .ref (Ma 19), .ref (Ma 20)])), ((Ma 2), .inl (tc 0, 2400, .inl sv_251)), ((Ma 3), .inl (tc 0, 7, .inl sv_252)), ((Ma 7), .inl (tc 0, 400, .inl g_266))] := hD₀
              replace hS := hS₀
              clear hP₀ hD₀ hS₀
              refine lv_aload_n hx hb dX12_tested_99 rfl (lv_at hl 2 rfl) ?_
              refine lv_dup hx hb dX12_tested_100 rfl ?_
              refine gf_X12_154 hx hb hts hown hK hP 1 rfl rfl dX12_tested_101 ?_
              refine lv_iconst (v := 1) hx hb dX12_tested_104 (by decide) ?_
              refine lv_iadd hx hb dX12_tested_105 ?_
              refine lv_topi (fun x_267 ex_267 => ?_)
              refine pf_X12_154 hx hb hts hown hK hP hD hS 1 rfl (Nat.le_of_ble_eq_true rfl) rfl rfl dX12_tested_106 (fun H locs hP₀ hD₀ hS₀ => ?_)
              replace hP : va_P D classes [((Ma 1), .inl (tc 2, 400, .inl (Mf 1))), ((Ma 0), .inr (12, [.ref (Ma 1), .int (Mv 0), .int (Mv 1), .ref (Ma 2), .ref (Ma 3), .ref (Ma 4), .ref (Ma 5), .ref (Ma 6), .int sv_234, .int sv_138, .int sv_139, .int (Mv 5), .int sv_140, .int sv_249, .int (Mv 8), .ref (Ma 7), .int x_267, .ref (Ma 8), .int (Mv 10), .ref (Ma 9), .ref (Ma 10), .int (Mv 11), .int (Mv 12), .int (Mv 13), .ref (Ma 11), .int (Mv 14), .ref (Ma 12), .ref (Ma 13), .ref (Ma 14), .ref (Ma 15), .ref (Ma 16), .long (Mj 0), .ref (Ma 17), .ref (Ma 18), .ref (Ma 19), .ref (Ma 20)])), ((Ma 2), .inl (tc 0, 2400, .inl sv_251)), ((Ma 3), .inl (tc 0, 7, .inl sv_252)), ((Ma 7), .inl (tc 0, 400, .inl g_266))] H := hP₀
              replace hD : va_D A [((Ma 1), .inl (tc 2, 400, .inl (Mf 1))), ((Ma 0), .inr (12, [.ref (Ma 1), .int (Mv 0), .int (Mv 1), .ref (Ma 2), .ref (Ma 3), .ref (Ma 4), .ref (Ma 5), .ref (Ma 6), .int sv_234, .int sv_138, .int sv_139, .int (Mv 5), .int sv_140, .int sv_249, .int (Mv 8), .ref (Ma 7), .int x_267, .ref (Ma 8), .int (Mv 10), .ref (Ma 9), .ref (Ma 10), .int (Mv 11), .int (Mv 12), .int (Mv 13), .ref (Ma 11), .int (Mv 14), .ref (Ma 12), .ref (Ma 13), .ref (Ma 14), .ref (Ma 15), .ref (Ma 16), .long (Mj 0), .ref (Ma 17), .ref (Ma 18), .ref (Ma 19), .ref (Ma 20)])), ((Ma 2), .inl (tc 0, 2400, .inl sv_251)), ((Ma 3), .inl (tc 0, 7, .inl sv_252)), ((Ma 7), .inl (tc 0, 400, .inl g_266))] := hD₀
              replace hS := hS₀
              clear hP₀ hD₀ hS₀
              have tp_x_267 : (x_267 : Int32).toInt = (sv_250 : Int32).toInt + 1 := by
                have z_1 : ¬ (vy_20 : Int32).toInt = (0 : Int32).toInt := fun z => c_34 (Int32.toInt_inj.mp z)
                have z_2 : ¬ (r_149 : Int32).toInt = (0 : Int32).toInt := fun z => c_154 (Int32.toInt_inj.mp z)
                have z_3 : ¬ (r_200 : Int32).toInt = (0 : Int32).toInt := fun z => c_205 (Int32.toInt_inj.mp z)
                have z_4 := congrArg Int32.toInt c_227
                have y_0 : (0 : Int32).toInt = 0 := by decide
                have y_1 : (1 : Int32).toInt = 1 := by decide
                have t_x_267 : x_267.toInt = (sv_250 : Int32).toInt + (1 : Int32).toInt := by rw [ex_267]; exact add_toInt (by omega) (by omega)
                omega
              refine lv_goto (tgt := 12) hx hb dX12_tested_109 (by decide) ?_
              have hb_268 : 2 * (401 - (sv_234 : Int32).toInt) + (1 : Int32).toInt < 2 * (401 - (vy_11 : Int32).toInt) + (vy_20 : Int32).toInt ∧ 1 ≤ 2 * (401 - (vy_11 : Int32).toInt) + (vy_20 : Int32).toInt := by
                have z_1 : ¬ (vy_20 : Int32).toInt = (0 : Int32).toInt := fun z => c_34 (Int32.toInt_inj.mp z)
                have z_2 : ¬ (r_149 : Int32).toInt = (0 : Int32).toInt := fun z => c_154 (Int32.toInt_inj.mp z)
                have z_3 : ¬ (r_200 : Int32).toInt = (0 : Int32).toInt := fun z => c_205 (Int32.toInt_inj.mp z)
                have z_4 := congrArg Int32.toInt c_227
                have y_0 : (0 : Int32).toInt = 0 := by decide
                have y_1 : (1 : Int32).toInt = 1 := by decide
                omega
              have ha_269 : 0 ≤ (sv_234 : Int32).toInt ∧ (sv_234 : Int32).toInt ≤ ((Mv 0) : Int32).toInt ∧ ((Mv 0) : Int32).toInt ≤ 400 := by
                have z_1 : ¬ (vy_20 : Int32).toInt = (0 : Int32).toInt := fun z => c_34 (Int32.toInt_inj.mp z)
                have z_2 : ¬ (r_149 : Int32).toInt = (0 : Int32).toInt := fun z => c_154 (Int32.toInt_inj.mp z)
                have z_3 : ¬ (r_200 : Int32).toInt = (0 : Int32).toInt := fun z => c_205 (Int32.toInt_inj.mp z)
                have z_4 := congrArg Int32.toInt c_227
                have y_0 : (0 : Int32).toInt = 0 := by decide
                omega
              have ha_270 : (Mv 2).toInt ≤ (sv_234 : Int32).toInt := by
                have z_1 : ¬ (vy_20 : Int32).toInt = (0 : Int32).toInt := fun z => c_34 (Int32.toInt_inj.mp z)
                have z_2 : ¬ (r_149 : Int32).toInt = (0 : Int32).toInt := fun z => c_154 (Int32.toInt_inj.mp z)
                have z_3 : ¬ (r_200 : Int32).toInt = (0 : Int32).toInt := fun z => c_205 (Int32.toInt_inj.mp z)
                have z_4 := congrArg Int32.toInt c_227
                have y_0 : (0 : Int32).toInt = 0 := by decide
                omega
              have ha_271 : 0 ≤ (1 : Int32).toInt ∧ (1 : Int32).toInt ≤ 1 := by
                have z_1 : ¬ (vy_20 : Int32).toInt = (0 : Int32).toInt := fun z => c_34 (Int32.toInt_inj.mp z)
                have z_2 : ¬ (r_149 : Int32).toInt = (0 : Int32).toInt := fun z => c_154 (Int32.toInt_inj.mp z)
                have z_3 : ¬ (r_200 : Int32).toInt = (0 : Int32).toInt := fun z => c_205 (Int32.toInt_inj.mp z)
                have z_4 := congrArg Int32.toInt c_227
                have y_0 : (0 : Int32).toInt = 0 := by decide
                have y_1 : (1 : Int32).toInt = 1 := by decide
                omega
              have ha_272 : (Mv 6).toInt ≤ (sv_140 : Int32).toInt ∧ (sv_140 : Int32).toInt ≤ 60 := by
                have z_1 : ¬ (vy_20 : Int32).toInt = (0 : Int32).toInt := fun z => c_34 (Int32.toInt_inj.mp z)
                have z_2 : ¬ (r_149 : Int32).toInt = (0 : Int32).toInt := fun z => c_154 (Int32.toInt_inj.mp z)
                have z_3 : ¬ (r_200 : Int32).toInt = (0 : Int32).toInt := fun z => c_205 (Int32.toInt_inj.mp z)
                have z_4 := congrArg Int32.toInt c_227
                have y_0 : (0 : Int32).toInt = 0 := by decide
                omega
              have hi_273 : (x_267 : Int32).toInt = (sv_250 : Int32).toInt + 1 := by
                have z_1 : ¬ (vy_20 : Int32).toInt = (0 : Int32).toInt := fun z => c_34 (Int32.toInt_inj.mp z)
                have z_2 : ¬ (r_149 : Int32).toInt = (0 : Int32).toInt := fun z => c_154 (Int32.toInt_inj.mp z)
                have z_3 : ¬ (r_200 : Int32).toInt = (0 : Int32).toInt := fun z => c_205 (Int32.toInt_inj.mp z)
                have z_4 := congrArg Int32.toInt c_227
                have y_0 : (0 : Int32).toInt = 0 := by decide
                have y_1 : (1 : Int32).toInt = 1 := by decide
                have t_x_267 : x_267.toInt = (sv_250 : Int32).toInt + (1 : Int32).toInt := by rw [ex_267]; exact add_toInt (by omega) (by omega)
                omega
              have hr_274 : (sv_250 : Int32).toInt < 400 := by
                have z_1 : ¬ (vy_20 : Int32).toInt = (0 : Int32).toInt := fun z => c_34 (Int32.toInt_inj.mp z)
                have z_2 : ¬ (r_149 : Int32).toInt = (0 : Int32).toInt := fun z => c_154 (Int32.toInt_inj.mp z)
                have z_3 : ¬ (r_200 : Int32).toInt = (0 : Int32).toInt := fun z => c_205 (Int32.toInt_inj.mp z)
                have z_4 := congrArg Int32.toInt c_227
                have y_0 : (0 : Int32).toInt = 0 := by decide
                omega
              have hr_275 : (13 : Int32).toInt = 12 ∨ (13 : Int32).toInt = 13 := by
                have z_1 : ¬ (vy_20 : Int32).toInt = (0 : Int32).toInt := fun z => c_34 (Int32.toInt_inj.mp z)
                have z_2 : ¬ (r_149 : Int32).toInt = (0 : Int32).toInt := fun z => c_154 (Int32.toInt_inj.mp z)
                have z_3 : ¬ (r_200 : Int32).toInt = (0 : Int32).toInt := fun z => c_205 (Int32.toInt_inj.mp z)
                have z_4 := congrArg Int32.toInt c_227
                have y_0 : (0 : Int32).toInt = 0 := by decide
                have y_13 : (13 : Int32).toInt = 13 := by decide
                omega
              have ha_276 : (sv_252 (Mv 5).toNatClampNeg).toInt + (x_267 : Int32).toInt ≤ (sv_234 : Int32).toInt ∧ ((Mf 3) (Mv 5).toNatClampNeg).toInt ≤ (sv_252 (Mv 5).toNatClampNeg).toInt ∧ 0 ≤ (x_267 : Int32).toInt ∧ (x_267 : Int32).toInt ≤ 400 := by
                have z_1 : ¬ (vy_20 : Int32).toInt = (0 : Int32).toInt := fun z => c_34 (Int32.toInt_inj.mp z)
                have z_2 : ¬ (r_149 : Int32).toInt = (0 : Int32).toInt := fun z => c_154 (Int32.toInt_inj.mp z)
                have z_3 : ¬ (r_200 : Int32).toInt = (0 : Int32).toInt := fun z => c_205 (Int32.toInt_inj.mp z)
                have z_4 := congrArg Int32.toInt c_227
                have y_0 : (0 : Int32).toInt = 0 := by decide
                have y_1 : (1 : Int32).toInt = 1 := by decide
                have t_x_267 : x_267.toInt = (sv_250 : Int32).toInt + (1 : Int32).toInt := by rw [ex_267]; exact add_toInt (by omega) (by omega)
                omega
              have hr_277 : (400 * ((Mv 5) : Int32).toInt + ((Mf 3) (Mv 5).toNatClampNeg).toInt) ≤ (400 * ((Mv 5) : Int32).toInt + ((Mf 3) (Mv 5).toNatClampNeg).toInt) := by
                have z_1 : ¬ (vy_20 : Int32).toInt = (0 : Int32).toInt := fun z => c_34 (Int32.toInt_inj.mp z)
                have z_2 : ¬ (r_149 : Int32).toInt = (0 : Int32).toInt := fun z => c_154 (Int32.toInt_inj.mp z)
                have z_3 : ¬ (r_200 : Int32).toInt = (0 : Int32).toInt := fun z => c_205 (Int32.toInt_inj.mp z)
                have z_4 := congrArg Int32.toInt c_227
                have y_0 : (0 : Int32).toInt = 0 := by decide
                omega
              have hr_278 : (400 * ((Mv 5) : Int32).toInt + ((Mf 3) (Mv 5).toNatClampNeg).toInt) ≤ (400 * ((Mv 5) : Int32).toInt + (vy_18 (Mv 5).toNatClampNeg).toInt) := by
                have z_1 : ¬ (vy_20 : Int32).toInt = (0 : Int32).toInt := fun z => c_34 (Int32.toInt_inj.mp z)
                have z_2 : ¬ (r_149 : Int32).toInt = (0 : Int32).toInt := fun z => c_154 (Int32.toInt_inj.mp z)
                have z_3 : ¬ (r_200 : Int32).toInt = (0 : Int32).toInt := fun z => c_205 (Int32.toInt_inj.mp z)
                have z_4 := congrArg Int32.toInt c_227
                have y_0 : (0 : Int32).toInt = 0 := by decide
                omega
              have hr_279 : (400 * ((Mv 5) : Int32).toInt + ((Mf 3) (Mv 5).toNatClampNeg).toInt) ≤ (400 * ((Mv 5) : Int32).toInt + (sv_144 (Mv 5).toNatClampNeg).toInt) := by
                have z_1 : ¬ (vy_20 : Int32).toInt = (0 : Int32).toInt := fun z => c_34 (Int32.toInt_inj.mp z)
                have z_2 : ¬ (r_149 : Int32).toInt = (0 : Int32).toInt := fun z => c_154 (Int32.toInt_inj.mp z)
                have z_3 : ¬ (r_200 : Int32).toInt = (0 : Int32).toInt := fun z => c_205 (Int32.toInt_inj.mp z)
                have z_4 := congrArg Int32.toInt c_227
                have y_0 : (0 : Int32).toInt = 0 := by decide
                omega
              have hr_280 : (400 * ((Mv 5) : Int32).toInt + ((Mf 3) (Mv 5).toNatClampNeg).toInt) ≤ (400 * ((Mv 5) : Int32).toInt + (sv_175 (Mv 5).toNatClampNeg).toInt) := by
                have z_1 : ¬ (vy_20 : Int32).toInt = (0 : Int32).toInt := fun z => c_34 (Int32.toInt_inj.mp z)
                have z_2 : ¬ (r_149 : Int32).toInt = (0 : Int32).toInt := fun z => c_154 (Int32.toInt_inj.mp z)
                have z_3 : ¬ (r_200 : Int32).toInt = (0 : Int32).toInt := fun z => c_205 (Int32.toInt_inj.mp z)
                have z_4 := congrArg Int32.toInt c_227
                have y_0 : (0 : Int32).toInt = 0 := by decide
                omega
              have hr_281 : (1 : Int32).toInt = 1 := by
                have z_1 : ¬ (vy_20 : Int32).toInt = (0 : Int32).toInt := fun z => c_34 (Int32.toInt_inj.mp z)
                have z_2 : ¬ (r_149 : Int32).toInt = (0 : Int32).toInt := fun z => c_154 (Int32.toInt_inj.mp z)
                have z_3 : ¬ (r_200 : Int32).toInt = (0 : Int32).toInt := fun z => c_205 (Int32.toInt_inj.mp z)
                have z_4 := congrArg Int32.toInt c_227
                have y_0 : (0 : Int32).toInt = 0 := by decide
                have y_1 : (1 : Int32).toInt = 1 := by decide
                omega
              have hw_282 : pz_wd (rB (Mf 1) (Mv 0)) (sv_195 : Int32).toInt.toNat pz_and = true := by
                have hq := pf_207
                rw [show (6385252 : Int64).toInt = pz_pl pz_and by decide] at hq
                exact (PkW.wd (by decide) (by decide) (by decide)).mp hq
              have hq_283 : sv_214 = sv_195 := SkR.eq pf_199 pf_218
              have hr_284 : (13 : Int32).toInt = 12 ∨ (13 : Int32).toInt = 13 := by
                have z_1 : ¬ (vy_20 : Int32).toInt = (0 : Int32).toInt := fun z => c_34 (Int32.toInt_inj.mp z)
                have z_2 : ¬ (r_149 : Int32).toInt = (0 : Int32).toInt := fun z => c_154 (Int32.toInt_inj.mp z)
                have z_3 : ¬ (r_200 : Int32).toInt = (0 : Int32).toInt := fun z => c_205 (Int32.toInt_inj.mp z)
                have z_4 := congrArg Int32.toInt c_227
                have y_0 : (0 : Int32).toInt = 0 := by decide
                have y_13 : (13 : Int32).toInt = 13 := by decide
                omega
              have hi_285 : (x_267 : Int32).toInt = (sv_250 : Int32).toInt + 1 := by
                have z_1 : ¬ (vy_20 : Int32).toInt = (0 : Int32).toInt := fun z => c_34 (Int32.toInt_inj.mp z)
                have z_2 : ¬ (r_149 : Int32).toInt = (0 : Int32).toInt := fun z => c_154 (Int32.toInt_inj.mp z)
                have z_3 : ¬ (r_200 : Int32).toInt = (0 : Int32).toInt := fun z => c_205 (Int32.toInt_inj.mp z)
                have z_4 := congrArg Int32.toInt c_227
                have y_0 : (0 : Int32).toInt = 0 := by decide
                have y_1 : (1 : Int32).toInt = 1 := by decide
                have t_x_267 : x_267.toInt = (sv_250 : Int32).toInt + (1 : Int32).toInt := by rw [ex_267]; exact add_toInt (by omega) (by omega)
                omega
              have hr_286 : (1 : Int32).toInt = 1 := by
                have z_1 : ¬ (vy_20 : Int32).toInt = (0 : Int32).toInt := fun z => c_34 (Int32.toInt_inj.mp z)
                have z_2 : ¬ (r_149 : Int32).toInt = (0 : Int32).toInt := fun z => c_154 (Int32.toInt_inj.mp z)
                have z_3 : ¬ (r_200 : Int32).toInt = (0 : Int32).toInt := fun z => c_205 (Int32.toInt_inj.mp z)
                have z_4 := congrArg Int32.toInt c_227
                have y_0 : (0 : Int32).toInt = 0 := by decide
                have y_1 : (1 : Int32).toInt = 1 := by decide
                omega
              have hq_288 : sv_214 = sv_195 := SkR.eq pf_199 pf_218
              have hf_287 : False := by
                have hn := pf_228
                have hp := pf_207
                rw [hq_288] at hn
                exact hn hp
              exact ih_22 sv_234 sv_138 sv_139 sv_140 sv_249 x_267 sv_251 sv_252 g_266 1 _ _ _ (by omega) ha_269 ha_270 ha_271 ha_272 ⟨fun _ => LSR.open2 pf_253 eg_266 hi_273 hr_274 hr_275, fun h => absurd h (by decide)⟩ ha_276 (Agr.trans (k' := (400 * ((Mv 5) : Int32).toInt + ((Mf 3) (Mv 5).toNatClampNeg).toInt)) (Agr.trans (k' := (400 * ((Mv 5) : Int32).toInt + ((Mf 3) (Mv 5).toNatClampNeg).toInt)) (Agr.trans (k' := (400 * ((Mv 5) : Int32).toInt + ((Mf 3) (Mv 5).toNatClampNeg).toInt)) (Agr.mono pf_30 hr_277) pf_148 ⟨Int.le_refl _, hr_278⟩) pf_177 ⟨Int.le_refl _, hr_279⟩) pf_255 ⟨Int.le_refl _, hr_280⟩) (TsL.and (rB_fi h_nx.2.2) pf_180 (SkR.trans pf_199 pf_218) (hq_283.symm ▸ (Or.inl hw_282)) pf_237 pf_258 pf_259 eg_266 hr_284 hi_285 hr_281) (hf_287.elim) (hP.sub [1, 0, 2, 3, 4] rfl) (hD.sub [1, 0, 2, 3, 4] rfl rfl) hS (lv_sub hl [1, 2] rfl)
            · skip
              have hz_291 : (r_219 : Int32).toInt = 1 := by
                have z_1 : ¬ (vy_20 : Int32).toInt = (0 : Int32).toInt := fun z => c_34 (Int32.toInt_inj.mp z)
                have z_2 : ¬ (r_149 : Int32).toInt = (0 : Int32).toInt := fun z => c_154 (Int32.toInt_inj.mp z)
                have z_3 : ¬ (r_200 : Int32).toInt = (0 : Int32).toInt := fun z => c_205 (Int32.toInt_inj.mp z)
                have z_4 : ¬ (r_219 : Int32).toInt = (0 : Int32).toInt := fun z => c_227 (Int32.toInt_inj.mp z)
                have y_0 : (0 : Int32).toInt = 0 := by decide
                omega
              obtain ⟨pf_289, pf_290⟩ := hm_222 hz_291
              have pf_289 : Ltr (Mf 1) (Mv 0) sv_214 := pf_289
              have ar_pf_289 := pf_289.1
              have at_pf_289 : 97 ≤ ((Mf 1) (sv_214 : Int32).toInt.toNat).toInt ∧ ((Mf 1) (sv_214 : Int32).toInt.toNat).toInt ≤ 122 := pf_289.2
              have pf_290 : PkW (rB (Mf 1) (Mv 0)) ((sv_214 : Int32).toInt.toNat) (6385252 : Int64).toInt := pf_290
              refine lv_bipush (v := 12) hx hb dX12_tested_69 (by decide) ?_
              refine lv_goto (tgt := 76) hx hb dX12_tested_71 (by decide) ?_
              refine lv_istore_n (lv' := [(2, .int 12), (1, .int 1), (0, .ref (Ma 0))]) hx hb dX12_tested_76 rfl hl (by decide) rfl (fun ls hl₀ => ?_)
              replace hl := hl₀
              clear hl₀
              refine lv_aload_n hx hb dX12_tested_77 rfl (lv_at hl 2 rfl) ?_
              have ha_292 : 0 ≤ (sv_214 : Int32).toInt ∧ (sv_214 : Int32).toInt ≤ ((Mv 0) : Int32).toInt ∧ ((Mv 0) : Int32).toInt ≤ 400 := by
                have z_1 : ¬ (vy_20 : Int32).toInt = (0 : Int32).toInt := fun z => c_34 (Int32.toInt_inj.mp z)
                have z_2 : ¬ (r_149 : Int32).toInt = (0 : Int32).toInt := fun z => c_154 (Int32.toInt_inj.mp z)
                have z_3 : ¬ (r_200 : Int32).toInt = (0 : Int32).toInt := fun z => c_205 (Int32.toInt_inj.mp z)
                have z_4 : ¬ (r_219 : Int32).toInt = (0 : Int32).toInt := fun z => c_227 (Int32.toInt_inj.mp z)
                have y_0 : (0 : Int32).toInt = 0 := by decide
                omega
              refine cV (a := (Ma 0)) (As := []) (rest := []) (wr := [((Ma 2), .inl (tc 0, 2400, .inl sv_174)), ((Ma 3), .inl (tc 0, 7, .inl sv_175)), ((Ma 7), .inl (tc 0, 400, .inl sv_145))]) ⟨hx, hb, hml, hown, hts⟩ hK hX hA (cu_fX12_passWord l D tc sk (Ma 0) (Ma 1) (Ma 2) (Ma 3) (Ma 4) (Ma 5) (Ma 6) (Ma 7) (Ma 8) (Ma 9) (Ma 10) (Ma 11) (Ma 12) (Ma 13) (Ma 14) (Ma 15) (Ma 16) (Ma 17) (Ma 18) (Ma 19) (Ma 20) (Mv 0) (Mv 1) sv_214 sv_138 sv_139 (Mv 5) sv_140 sv_172 (Mv 8) sv_173 (Mv 10) (Mv 11) (Mv 12) (Mv 13) (Mv 14) (Mf 1) (Mj 0) ha_292 h_bs) k_1244 k_1241 k_1243 k_34 k_106 pl_X12_passWord ⟨Nat.le_of_ble_eq_true rfl, Nat.le_of_ble_eq_true rfl⟩ rfl rfl (va_recv hK hP (ci := 12) (q0 := 3) rfl rfl) hP hD hS [3, 4] [0, 1, 2] rfl rfl rfl rfl rfl (by decide) rfl hl.1 rfl (Nat.le_of_ble_eq_true rfl) dX12_tested_78 ⟨Nat.le_of_ble_eq_true rfl, Nat.le_of_ble_eq_true rfl⟩ (fun v_293 u_294 H locs hv_295 hP₀ hD₀ hS₀ => ?_)
              obtain ⟨sv_296, rfl⟩ : ∃ z, z = u_294 := ⟨_, rfl⟩
              obtain ⟨rfl, pf_297, pf_298, pf_299⟩ := hv_295
              have pf_297 : (sv_214 : Int32).toInt ≤ (sv_296 : Int32).toInt ∧ (sv_296 : Int32).toInt ≤ ((Mv 0) : Int32).toInt := pf_297
              have pf_298 : Pw (Mf 1) (Mv 0) sv_214 sv_296 := pf_298
              have ar_pf_298 := pf_298 pf_289
              have pf_299 : PsR (rB (Mf 1) (Mv 0)) sv_214 sv_296 := pf_299
              refine W.eq (g2 := F0 m 81 ls []) rfl ?_
              replace hP : va_P D classes [((Ma 2), .inl (tc 0, 2400, .inl sv_174)), ((Ma 3), .inl (tc 0, 7, .inl sv_175)), ((Ma 7), .inl (tc 0, 400, .inl sv_145)), ((Ma 0), .inr (12, [.ref (Ma 1), .int (Mv 0), .int (Mv 1), .ref (Ma 2), .ref (Ma 3), .ref (Ma 4), .ref (Ma 5), .ref (Ma 6), .int sv_296, .int sv_138, .int sv_139, .int (Mv 5), .int sv_140, .int sv_172, .int (Mv 8), .ref (Ma 7), .int sv_173, .ref (Ma 8), .int (Mv 10), .ref (Ma 9), .ref (Ma 10), .int (Mv 11), .int (Mv 12), .int (Mv 13), .ref (Ma 11), .int (Mv 14), .ref (Ma 12), .ref (Ma 13), .ref (Ma 14), .ref (Ma 15), .ref (Ma 16), .long (Mj 0), .ref (Ma 17), .ref (Ma 18), .ref (Ma 19), .ref (Ma 20)])), ((Ma 1), .inl (tc 2, 400, .inl (Mf 1)))] H := hP₀
              replace hD : va_D A [((Ma 2), .inl (tc 0, 2400, .inl sv_174)), ((Ma 3), .inl (tc 0, 7, .inl sv_175)), ((Ma 7), .inl (tc 0, 400, .inl sv_145)), ((Ma 0), .inr (12, [.ref (Ma 1), .int (Mv 0), .int (Mv 1), .ref (Ma 2), .ref (Ma 3), .ref (Ma 4), .ref (Ma 5), .ref (Ma 6), .int sv_296, .int sv_138, .int sv_139, .int (Mv 5), .int sv_140, .int sv_172, .int (Mv 8), .ref (Ma 7), .int sv_173, .ref (Ma 8), .int (Mv 10), .ref (Ma 9), .ref (Ma 10), .int (Mv 11), .int (Mv 12), .int (Mv 13), .ref (Ma 11), .int (Mv 14), .ref (Ma 12), .ref (Ma 13), .ref (Ma 14), .ref (Ma 15), .ref (Ma 16), .long (Mj 0), .ref (Ma 17), .ref (Ma 18), .ref (Ma 19), .ref (Ma 20)])), ((Ma 1), .inl (tc 2, 400, .inl (Mf 1)))] := hD₀
              replace hS := hS₀
              clear hP₀ hD₀ hS₀
              refine lv_aload_n hx hb dX12_tested_81 rfl (lv_at hl 2 rfl) ?_
              refine lv_iload_n hx hb dX12_tested_82 rfl (lv_at hl 0 rfl) ?_
              refine cS (As := [.int 12]) (rest := [.ref (Ma 0)]) (wr := [((Ma 2), .inl (tc 0, 2400, .inl sv_174)), ((Ma 3), .inl (tc 0, 7, .inl sv_175)), ((Ma 7), .inl (tc 0, 400, .inl sv_145)), ((Ma 0), .inr (12, [.ref (Ma 1), .int (Mv 0), .int (Mv 1), .ref (Ma 2), .ref (Ma 3), .ref (Ma 4), .ref (Ma 5), .ref (Ma 6), .int sv_296, .int sv_138, .int sv_139, .int (Mv 5), .int sv_140, .int sv_172, .int (Mv 8), .ref (Ma 7), .int sv_173, .ref (Ma 8), .int (Mv 10), .ref (Ma 9), .ref (Ma 10), .int (Mv 11), .int (Mv 12), .int (Mv 13), .ref (Ma 11), .int (Mv 14), .ref (Ma 12), .ref (Ma 13), .ref (Ma 14), .ref (Ma 15), .ref (Ma 16), .long (Mj 0), .ref (Ma 17), .ref (Ma 18), .ref (Ma 19), .ref (Ma 20)])), ((Ma 1), .inl (tc 2, 400, .inl (Mf 1)))]) ⟨hx, hb, hml, hown, hts⟩ hK hX hA (ct_X12_strength l D tc sk 12) k_1345 k_1343 k_1344 k_106 pl_X12_strength ⟨Nat.le_of_ble_eq_true rfl, Nat.le_of_ble_eq_true rfl⟩ rfl rfl  hP hD hS [] [0, 1, 2, 3, 4] rfl rfl rfl rfl rfl (by decide) rfl hl.1 rfl (Nat.le_of_ble_eq_true rfl) dX12_tested_83 ⟨Nat.le_of_ble_eq_true rfl, Nat.le_of_ble_eq_true rfl⟩ (fun v_300 u_301 H locs hv_302 hP₀ hD₀ hS₀ => ?_)
              obtain ⟨r_303, rfl, he_304⟩ := hv_302
              have he_304 : (((12 : Int32).toInt = 13 ∧ r_303.toInt = 1) ∨ ((12 : Int32).toInt = 12 ∧ r_303.toInt = 2) ∨ ((12 : Int32).toInt = 11 ∧ r_303.toInt = 3) ∨ ((12 : Int32).toInt ≠ 13 ∧ (12 : Int32).toInt ≠ 12 ∧ (12 : Int32).toInt ≠ 11 ∧ r_303.toInt = 0)) := he_304
              refine W.eq (g2 := F0 m 86 ls [.int r_303, .ref (Ma 0)]) rfl ?_
              replace hP : va_P D classes [((Ma 2), .inl (tc 0, 2400, .inl sv_174)), ((Ma 3), .inl (tc 0, 7, .inl sv_175)), ((Ma 7), .inl (tc 0, 400, .inl sv_145)), ((Ma 0), .inr (12, [.ref (Ma 1), .int (Mv 0), .int (Mv 1), .ref (Ma 2), .ref (Ma 3), .ref (Ma 4), .ref (Ma 5), .ref (Ma 6), .int sv_296, .int sv_138, .int sv_139, .int (Mv 5), .int sv_140, .int sv_172, .int (Mv 8), .ref (Ma 7), .int sv_173, .ref (Ma 8), .int (Mv 10), .ref (Ma 9), .ref (Ma 10), .int (Mv 11), .int (Mv 12), .int (Mv 13), .ref (Ma 11), .int (Mv 14), .ref (Ma 12), .ref (Ma 13), .ref (Ma 14), .ref (Ma 15), .ref (Ma 16), .long (Mj 0), .ref (Ma 17), .ref (Ma 18), .ref (Ma 19), .ref (Ma 20)])), ((Ma 1), .inl (tc 2, 400, .inl (Mf 1)))] H := hP₀
              replace hD : va_D A [((Ma 2), .inl (tc 0, 2400, .inl sv_174)), ((Ma 3), .inl (tc 0, 7, .inl sv_175)), ((Ma 7), .inl (tc 0, 400, .inl sv_145)), ((Ma 0), .inr (12, [.ref (Ma 1), .int (Mv 0), .int (Mv 1), .ref (Ma 2), .ref (Ma 3), .ref (Ma 4), .ref (Ma 5), .ref (Ma 6), .int sv_296, .int sv_138, .int sv_139, .int (Mv 5), .int sv_140, .int sv_172, .int (Mv 8), .ref (Ma 7), .int sv_173, .ref (Ma 8), .int (Mv 10), .ref (Ma 9), .ref (Ma 10), .int (Mv 11), .int (Mv 12), .int (Mv 13), .ref (Ma 11), .int (Mv 14), .ref (Ma 12), .ref (Ma 13), .ref (Ma 14), .ref (Ma 15), .ref (Ma 16), .long (Mj 0), .ref (Ma 17), .ref (Ma 18), .ref (Ma 19), .ref (Ma 20)])), ((Ma 1), .inl (tc 2, 400, .inl (Mf 1)))] := hD₀
              replace hS := hS₀
              clear hP₀ hD₀ hS₀
              have yy_305 : (12 : Int32).toInt = 12 := by decide
              have ha_306 : 1 ≤ r_303.toInt ∧ r_303.toInt ≤ 3 := by
                have z_1 : ¬ (vy_20 : Int32).toInt = (0 : Int32).toInt := fun z => c_34 (Int32.toInt_inj.mp z)
                have z_2 : ¬ (r_149 : Int32).toInt = (0 : Int32).toInt := fun z => c_154 (Int32.toInt_inj.mp z)
                have z_3 : ¬ (r_200 : Int32).toInt = (0 : Int32).toInt := fun z => c_205 (Int32.toInt_inj.mp z)
                have z_4 : ¬ (r_219 : Int32).toInt = (0 : Int32).toInt := fun z => c_227 (Int32.toInt_inj.mp z)
                have y_0 : (0 : Int32).toInt = 0 := by decide
                omega
              have ha_307 : (sv_175 (Mv 5).toNatClampNeg).toInt + (sv_173 : Int32).toInt ≤ 400 := by
                have z_1 : ¬ (vy_20 : Int32).toInt = (0 : Int32).toInt := fun z => c_34 (Int32.toInt_inj.mp z)
                have z_2 : ¬ (r_149 : Int32).toInt = (0 : Int32).toInt := fun z => c_154 (Int32.toInt_inj.mp z)
                have z_3 : ¬ (r_200 : Int32).toInt = (0 : Int32).toInt := fun z => c_205 (Int32.toInt_inj.mp z)
                have z_4 : ¬ (r_219 : Int32).toInt = (0 : Int32).toInt := fun z => c_227 (Int32.toInt_inj.mp z)
                have y_0 : (0 : Int32).toInt = 0 := by decide
                omega
              refine cV (a := (Ma 0)) (As := [.int r_303]) (rest := []) (wr := [((Ma 1), .inl (tc 2, 400, .inl (Mf 1)))]) ⟨hx, hb, hml, hown, hts⟩ hK hX hA (cu_kX12_layDown l D tc sk (Ma 0) (Ma 1) (Ma 2) (Ma 3) (Ma 4) (Ma 5) (Ma 6) (Ma 7) (Ma 8) (Ma 9) (Ma 10) (Ma 11) (Ma 12) (Ma 13) (Ma 14) (Ma 15) (Ma 16) (Ma 17) (Ma 18) (Ma 19) (Ma 20) (Mv 0) (Mv 1) sv_296 sv_138 sv_139 (Mv 5) sv_140 sv_172 (Mv 8) sv_173 (Mv 10) (Mv 11) (Mv 12) (Mv 13) (Mv 14) sv_174 sv_175 sv_145 (Mj 0) r_303 b lq_187 pf_178 ha_306 ha_307 pf_180.1 pf_188 h_tx) k_1342 k_1339 k_1341 k_54 k_106 pl_X12_layDown ⟨Nat.le_of_ble_eq_true rfl, Nat.le_of_ble_eq_true rfl⟩ rfl rfl (va_recv hK hP (ci := 12) (q0 := 3) rfl rfl) hP hD hS [3, 0, 1, 2] [4] rfl rfl rfl rfl rfl (by decide) rfl hl.1 rfl (Nat.le_of_ble_eq_true rfl) dX12_tested_86 ⟨Nat.le_of_ble_eq_true rfl, Nat.le_of_ble_eq_true rfl⟩ (fun v_308 u_309 H locs hv_310 hP₀ hD₀ hS₀ => ?_)
              obtain ⟨sv_311, sv_312, sv_313, sv_314⟩ := u_309
              obtain ⟨rfl, pf_315, pf_316, pf_317, pf_318, pf_319, pf_320, pf_321, pf_322, pf_323⟩ := hv_310
              have pf_315 : LSR sv_145 sv_312 sv_313 sv_314 (Mv 5) b sv_140 := pf_315
              obtain ⟨pn_324, pf_325, pf_326⟩ := id pf_315
              have ar_pf_315 := LSR.ar pf_315
              have ar_pf_326 := Cd.ar pf_326
              have pf_316 : (sv_314 (Mv 5).toNatClampNeg).toInt + (sv_312 : Int32).toInt = (sv_175 (Mv 5).toNatClampNeg).toInt + (sv_173 : Int32).toInt ∧ 0 ≤ (sv_312 : Int32).toInt ∧ (sv_312 : Int32).toInt ≤ (sv_173 : Int32).toInt := pf_316
              have pf_317 : Agr sv_174 sv_313 (400 * ((Mv 5) : Int32).toInt + (sv_175 (Mv 5).toNatClampNeg).toInt) := pf_317
              have pf_318 : LdE sv_145 sv_312 r_303 := pf_318
              have pf_319 : InK sv_145 sv_173 sv_312 := pf_319
              have pf_320 : LdP sv_145 sv_173 sv_312 sv_311 := pf_320
              have ar_pf_320 := OsP.ar pf_320.1
              have pf_321 : T11 sv_145 sv_312 := pf_321
              have pf_322 : LdC sv_145 sv_173 sv_312 sv_313 sv_314 (Mv 5) lq_187 r_303 := pf_322
              have pf_323 : LdS sv_145 sv_312 r_303 := pf_323
              refine W.eq (g2 := F0 m 89 ls []) rfl ?_
              replace hP : va_P D classes [((Ma 1), .inl (tc 2, 400, .inl (Mf 1))), ((Ma 0), .inr (12, [.ref (Ma 1), .int (Mv 0), .int (Mv 1), .ref (Ma 2), .ref (Ma 3), .ref (Ma 4), .ref (Ma 5), .ref (Ma 6), .int sv_296, .int sv_138, .int sv_139, .int (Mv 5), .int sv_140, .int sv_311, .int (Mv 8), .ref (Ma 7), .int sv_312, .ref (Ma 8), .int (Mv 10), .ref (Ma 9), .ref (Ma 10), .int (Mv 11), .int (Mv 12), .int (Mv 13), .ref (Ma 11), .int (Mv 14), .ref (Ma 12), .ref (Ma 13), .ref (Ma 14), .ref (Ma 15), .ref (Ma 16), .long (Mj 0), .ref (Ma 17), .ref (Ma 18), .ref (Ma 19), .ref (Ma 20)])), ((Ma 2), .inl (tc 0, 2400, .inl sv_313)), ((Ma 3), .inl (tc 0, 7, .inl sv_314)), ((Ma 7), .inl (tc 0, 400, .inl sv_145))] H := hP₀
              replace hD : va_D A [((Ma 1), .inl (tc 2, 400, .inl (Mf 1))), ((Ma 0), .inr (12, [.ref (Ma 1), .int (Mv 0), .int (Mv 1), .ref (Ma 2), .ref (Ma 3), .ref (Ma 4), .ref (Ma 5), .ref (Ma 6), .int sv_296, .int sv_138, .int sv_139, .int (Mv 5), .int sv_140, .int sv_311, .int (Mv 8), .ref (Ma 7), .int sv_312, .ref (Ma 8), .int (Mv 10), .ref (Ma 9), .ref (Ma 10), .int (Mv 11), .int (Mv 12), .int (Mv 13), .ref (Ma 11), .int (Mv 14), .ref (Ma 12), .ref (Ma 13), .ref (Ma 14), .ref (Ma 15), .ref (Ma 16), .long (Mj 0), .ref (Ma 17), .ref (Ma 18), .ref (Ma 19), .ref (Ma 20)])), ((Ma 2), .inl (tc 0, 2400, .inl sv_313)), ((Ma 3), .inl (tc 0, 7, .inl sv_314)), ((Ma 7), .inl (tc 0, 400, .inl sv_145))] := hD₀
              replace hS := hS₀
              clear hP₀ hD₀ hS₀
              refine lv_aload_n hx hb dX12_tested_89 rfl (lv_at hl 2 rfl) ?_
              refine gf_X12_29 hx hb hts hown hK hP 1 rfl rfl dX12_tested_90 ?_
              refine lv_aload_n hx hb dX12_tested_93 rfl (lv_at hl 2 rfl) ?_
              refine gf_X12_154 hx hb hts hown hK hP 1 rfl rfl dX12_tested_94 ?_
              refine lv_iload_n hx hb dX12_tested_97 rfl (lv_at hl 0 rfl) ?_
              have hi_327 : vp_in sv_312 400 := by
                have z_1 : ¬ (vy_20 : Int32).toInt = (0 : Int32).toInt := fun z => c_34 (Int32.toInt_inj.mp z)
                have z_2 : ¬ (r_149 : Int32).toInt = (0 : Int32).toInt := fun z => c_154 (Int32.toInt_inj.mp z)
                have z_3 : ¬ (r_200 : Int32).toInt = (0 : Int32).toInt := fun z => c_205 (Int32.toInt_inj.mp z)
                have z_4 : ¬ (r_219 : Int32).toInt = (0 : Int32).toInt := fun z => c_227 (Int32.toInt_inj.mp z)
                have y_0 : (0 : Int32).toInt = 0 := by decide
                refine vp_in_iff.mpr ⟨?_, ?_⟩ <;> omega
              refine st_int hx hb hK hP hD hS 4 0 rfl rfl hi_327 dX12_tested_98 (fun g_328 H locs eg_328 hP₀ hD₀ hS₀ => ?_)
              replace hP : va_P D classes [((Ma 1), .inl (tc 2, 400, .inl (Mf 1))), ((Ma 0), .inr (12, [.ref (Ma 1), .int (Mv 0), .int (Mv 1), .ref (Ma 2), .ref (Ma 3), .ref (Ma 4), .ref (Ma 5), .ref (Ma 6), .int sv_296, .int sv_138, .int sv_139, .int (Mv 5), .int sv_140, .int sv_311, .int (Mv 8), .ref (Ma 7), .int sv_312, .ref (Ma 8), .int (Mv 10), .ref (Ma 9), .ref (Ma 10), .int (Mv 11), .int (Mv 12), .int (Mv 13), .ref (Ma 11), .int (Mv 14), .ref (Ma 12), .ref (Ma 13), .ref (Ma 14), .ref (Ma 15), .ref (Ma 16), .long (Mj 0), .ref (Ma 17), .ref (Ma 18), .ref (Ma 19), .ref (Ma 20)])), ((Ma 2), .inl (tc 0, 2400, .inl sv_313)), ((Ma 3), .inl (tc 0, 7, .inl sv_314)), ((Ma 7), .inl (tc 0, 400, .inl g_328))] H := hP₀
              replace hD : va_D A [((Ma 1), .inl (tc 2, 400, .inl (Mf 1))), ((Ma 0), .inr (12, [.ref (Ma 1), .int (Mv 0), .int (Mv 1), .ref (Ma 2), .ref (Ma 3), .ref (Ma 4), .ref (Ma 5), .ref (Ma 6), .int sv_296, .int sv_138, .int sv_139, .int (Mv 5), .int sv_140, .int sv_311, .int (Mv 8), .ref (Ma 7), .int sv_312, .ref (Ma 8), .int (Mv 10), .ref (Ma 9), .ref (Ma 10), .int (Mv 11), .int (Mv 12), .int (Mv 13), .ref (Ma 11), .int (Mv 14), .ref (Ma 12), .ref (Ma 13), .ref (Ma 14), .ref (Ma 15), .ref (Ma 16), .long (Mj 0), .ref (Ma 17), .ref (Ma 18), .ref (Ma 19), .ref (Ma 20)])), ((Ma 2), .inl (tc 0, 2400, .inl sv_313)), ((Ma 3), .inl (tc 0, 7, .inl sv_314)), ((Ma 7), .inl (tc 0, 400, .inl g_328))] := hD₀
              replace hS := hS₀
              clear hP₀ hD₀ hS₀
              refine lv_aload_n hx hb dX12_tested_99 rfl (lv_at hl 2 rfl) ?_
              refine lv_dup hx hb dX12_tested_100 rfl ?_
              refine gf_X12_154 hx hb hts hown hK hP 1 rfl rfl dX12_tested_101 ?_
              refine lv_iconst (v := 1) hx hb dX12_tested_104 (by decide) ?_
              refine lv_iadd hx hb dX12_tested_105 ?_
              refine lv_topi (fun x_329 ex_329 => ?_)
              refine pf_X12_154 hx hb hts hown hK hP hD hS 1 rfl (Nat.le_of_ble_eq_true rfl) rfl rfl dX12_tested_106 (fun H locs hP₀ hD₀ hS₀ => ?_)
              replace hP : va_P D classes [((Ma 1), .inl (tc 2, 400, .inl (Mf 1))), ((Ma 0), .inr (12, [.ref (Ma 1), .int (Mv 0), .int (Mv 1), .ref (Ma 2), .ref (Ma 3), .ref (Ma 4), .ref (Ma 5), .ref (Ma 6), .int sv_296, .int sv_138, .int sv_139, .int (Mv 5), .int sv_140, .int sv_311, .int (Mv 8), .ref (Ma 7), .int x_329, .ref (Ma 8), .int (Mv 10), .ref (Ma 9), .ref (Ma 10), .int (Mv 11), .int (Mv 12), .int (Mv 13), .ref (Ma 11), .int (Mv 14), .ref (Ma 12), .ref (Ma 13), .ref (Ma 14), .ref (Ma 15), .ref (Ma 16), .long (Mj 0), .ref (Ma 17), .ref (Ma 18), .ref (Ma 19), .ref (Ma 20)])), ((Ma 2), .inl (tc 0, 2400, .inl sv_313)), ((Ma 3), .inl (tc 0, 7, .inl sv_314)), ((Ma 7), .inl (tc 0, 400, .inl g_328))] H := hP₀
              replace hD : va_D A [((Ma 1), .inl (tc 2, 400, .inl (Mf 1))), ((Ma 0), .inr (12, [.ref (Ma 1), .int (Mv 0), .int (Mv 1), .ref (Ma 2), .ref (Ma 3), .ref (Ma 4), .ref (Ma 5), .ref (Ma 6), .int sv_296, .int sv_138, .int sv_139, .int (Mv 5), .int sv_140, .int sv_311, .int (Mv 8), .ref (Ma 7), .int x_329, .ref (Ma 8), .int (Mv 10), .ref (Ma 9), .ref (Ma 10), .int (Mv 11), .int (Mv 12), .int (Mv 13), .ref (Ma 11), .int (Mv 14), .ref (Ma 12), .ref (Ma 13), .ref (Ma 14), .ref (Ma 15), .ref (Ma 16), .long (Mj 0), .ref (Ma 17), .ref (Ma 18), .ref (Ma 19), .ref (Ma 20)])), ((Ma 2), .inl (tc 0, 2400, .inl sv_313)), ((Ma 3), .inl (tc 0, 7, .inl sv_314)), ((Ma 7), .inl (tc 0, 400, .inl g_328))] := hD₀
              replace hS := hS₀
              clear hP₀ hD₀ hS₀
              have tp_x_329 : (x_329 : Int32).toInt = (sv_312 : Int32).toInt + 1 := by
                have z_1 : ¬ (vy_20 : Int32).toInt = (0 : Int32).toInt := fun z => c_34 (Int32.toInt_inj.mp z)
                have z_2 : ¬ (r_149 : Int32).toInt = (0 : Int32).toInt := fun z => c_154 (Int32.toInt_inj.mp z)
                have z_3 : ¬ (r_200 : Int32).toInt = (0 : Int32).toInt := fun z => c_205 (Int32.toInt_inj.mp z)
                have z_4 : ¬ (r_219 : Int32).toInt = (0 : Int32).toInt := fun z => c_227 (Int32.toInt_inj.mp z)
                have y_0 : (0 : Int32).toInt = 0 := by decide
                have y_1 : (1 : Int32).toInt = 1 := by decide
                have t_x_329 : x_329.toInt = (sv_312 : Int32).toInt + (1 : Int32).toInt := by rw [ex_329]; exact add_toInt (by omega) (by omega)
                omega
              refine lv_goto (tgt := 12) hx hb dX12_tested_109 (by decide) ?_
              have hb_330 : 2 * (401 - (sv_296 : Int32).toInt) + (1 : Int32).toInt < 2 * (401 - (vy_11 : Int32).toInt) + (vy_20 : Int32).toInt ∧ 1 ≤ 2 * (401 - (vy_11 : Int32).toInt) + (vy_20 : Int32).toInt := by
                have z_1 : ¬ (vy_20 : Int32).toInt = (0 : Int32).toInt := fun z => c_34 (Int32.toInt_inj.mp z)
                have z_2 : ¬ (r_149 : Int32).toInt = (0 : Int32).toInt := fun z => c_154 (Int32.toInt_inj.mp z)
                have z_3 : ¬ (r_200 : Int32).toInt = (0 : Int32).toInt := fun z => c_205 (Int32.toInt_inj.mp z)
                have z_4 : ¬ (r_219 : Int32).toInt = (0 : Int32).toInt := fun z => c_227 (Int32.toInt_inj.mp z)
                have y_0 : (0 : Int32).toInt = 0 := by decide
                have y_1 : (1 : Int32).toInt = 1 := by decide
                omega
              have ha_331 : 0 ≤ (sv_296 : Int32).toInt ∧ (sv_296 : Int32).toInt ≤ ((Mv 0) : Int32).toInt ∧ ((Mv 0) : Int32).toInt ≤ 400 := by
                have z_1 : ¬ (vy_20 : Int32).toInt = (0 : Int32).toInt := fun z => c_34 (Int32.toInt_inj.mp z)
                have z_2 : ¬ (r_149 : Int32).toInt = (0 : Int32).toInt := fun z => c_154 (Int32.toInt_inj.mp z)
                have z_3 : ¬ (r_200 : Int32).toInt = (0 : Int32).toInt := fun z => c_205 (Int32.toInt_inj.mp z)
                have z_4 : ¬ (r_219 : Int32).toInt = (0 : Int32).toInt := fun z => c_227 (Int32.toInt_inj.mp z)
                have y_0 : (0 : Int32).toInt = 0 := by decide
                omega
              have ha_332 : (Mv 2).toInt ≤ (sv_296 : Int32).toInt := by
                have z_1 : ¬ (vy_20 : Int32).toInt = (0 : Int32).toInt := fun z => c_34 (Int32.toInt_inj.mp z)
                have z_2 : ¬ (r_149 : Int32).toInt = (0 : Int32).toInt := fun z => c_154 (Int32.toInt_inj.mp z)
                have z_3 : ¬ (r_200 : Int32).toInt = (0 : Int32).toInt := fun z => c_205 (Int32.toInt_inj.mp z)
                have z_4 : ¬ (r_219 : Int32).toInt = (0 : Int32).toInt := fun z => c_227 (Int32.toInt_inj.mp z)
                have y_0 : (0 : Int32).toInt = 0 := by decide
                omega
              have ha_333 : 0 ≤ (1 : Int32).toInt ∧ (1 : Int32).toInt ≤ 1 := by
                have z_1 : ¬ (vy_20 : Int32).toInt = (0 : Int32).toInt := fun z => c_34 (Int32.toInt_inj.mp z)
                have z_2 : ¬ (r_149 : Int32).toInt = (0 : Int32).toInt := fun z => c_154 (Int32.toInt_inj.mp z)
                have z_3 : ¬ (r_200 : Int32).toInt = (0 : Int32).toInt := fun z => c_205 (Int32.toInt_inj.mp z)
                have z_4 : ¬ (r_219 : Int32).toInt = (0 : Int32).toInt := fun z => c_227 (Int32.toInt_inj.mp z)
                have y_0 : (0 : Int32).toInt = 0 := by decide
                have y_1 : (1 : Int32).toInt = 1 := by decide
                omega
              have ha_334 : (Mv 6).toInt ≤ (sv_140 : Int32).toInt ∧ (sv_140 : Int32).toInt ≤ 60 := by
                have z_1 : ¬ (vy_20 : Int32).toInt = (0 : Int32).toInt := fun z => c_34 (Int32.toInt_inj.mp z)
                have z_2 : ¬ (r_149 : Int32).toInt = (0 : Int32).toInt := fun z => c_154 (Int32.toInt_inj.mp z)
                have z_3 : ¬ (r_200 : Int32).toInt = (0 : Int32).toInt := fun z => c_205 (Int32.toInt_inj.mp z)
                have z_4 : ¬ (r_219 : Int32).toInt = (0 : Int32).toInt := fun z => c_227 (Int32.toInt_inj.mp z)
                have y_0 : (0 : Int32).toInt = 0 := by decide
                omega
              have hi_335 : (x_329 : Int32).toInt = (sv_312 : Int32).toInt + 1 := by
                have z_1 : ¬ (vy_20 : Int32).toInt = (0 : Int32).toInt := fun z => c_34 (Int32.toInt_inj.mp z)
                have z_2 : ¬ (r_149 : Int32).toInt = (0 : Int32).toInt := fun z => c_154 (Int32.toInt_inj.mp z)
                have z_3 : ¬ (r_200 : Int32).toInt = (0 : Int32).toInt := fun z => c_205 (Int32.toInt_inj.mp z)
                have z_4 : ¬ (r_219 : Int32).toInt = (0 : Int32).toInt := fun z => c_227 (Int32.toInt_inj.mp z)
                have y_0 : (0 : Int32).toInt = 0 := by decide
                have y_1 : (1 : Int32).toInt = 1 := by decide
                have t_x_329 : x_329.toInt = (sv_312 : Int32).toInt + (1 : Int32).toInt := by rw [ex_329]; exact add_toInt (by omega) (by omega)
                omega
              have hr_336 : (sv_312 : Int32).toInt < 400 := by
                have z_1 : ¬ (vy_20 : Int32).toInt = (0 : Int32).toInt := fun z => c_34 (Int32.toInt_inj.mp z)
                have z_2 : ¬ (r_149 : Int32).toInt = (0 : Int32).toInt := fun z => c_154 (Int32.toInt_inj.mp z)
                have z_3 : ¬ (r_200 : Int32).toInt = (0 : Int32).toInt := fun z => c_205 (Int32.toInt_inj.mp z)
                have z_4 : ¬ (r_219 : Int32).toInt = (0 : Int32).toInt := fun z => c_227 (Int32.toInt_inj.mp z)
                have y_0 : (0 : Int32).toInt = 0 := by decide
                omega
              have hr_337 : (12 : Int32).toInt = 12 ∨ (12 : Int32).toInt = 13 := by
                have z_1 : ¬ (vy_20 : Int32).toInt = (0 : Int32).toInt := fun z => c_34 (Int32.toInt_inj.mp z)
                have z_2 : ¬ (r_149 : Int32).toInt = (0 : Int32).toInt := fun z => c_154 (Int32.toInt_inj.mp z)
                have z_3 : ¬ (r_200 : Int32).toInt = (0 : Int32).toInt := fun z => c_205 (Int32.toInt_inj.mp z)
                have z_4 : ¬ (r_219 : Int32).toInt = (0 : Int32).toInt := fun z => c_227 (Int32.toInt_inj.mp z)
                have y_0 : (0 : Int32).toInt = 0 := by decide
                have y_12 : (12 : Int32).toInt = 12 := by decide
                omega
              have ha_338 : (sv_314 (Mv 5).toNatClampNeg).toInt + (x_329 : Int32).toInt ≤ (sv_296 : Int32).toInt ∧ ((Mf 3) (Mv 5).toNatClampNeg).toInt ≤ (sv_314 (Mv 5).toNatClampNeg).toInt ∧ 0 ≤ (x_329 : Int32).toInt ∧ (x_329 : Int32).toInt ≤ 400 := by
                have z_1 : ¬ (vy_20 : Int32).toInt = (0 : Int32).toInt := fun z => c_34 (Int32.toInt_inj.mp z)
                have z_2 : ¬ (r_149 : Int32).toInt = (0 : Int32).toInt := fun z => c_154 (Int32.toInt_inj.mp z)
                have z_3 : ¬ (r_200 : Int32).toInt = (0 : Int32).toInt := fun z => c_205 (Int32.toInt_inj.mp z)
                have z_4 : ¬ (r_219 : Int32).toInt = (0 : Int32).toInt := fun z => c_227 (Int32.toInt_inj.mp z)
                have y_0 : (0 : Int32).toInt = 0 := by decide
                have y_1 : (1 : Int32).toInt = 1 := by decide
                have t_x_329 : x_329.toInt = (sv_312 : Int32).toInt + (1 : Int32).toInt := by rw [ex_329]; exact add_toInt (by omega) (by omega)
                omega
              have hr_339 : (400 * ((Mv 5) : Int32).toInt + ((Mf 3) (Mv 5).toNatClampNeg).toInt) ≤ (400 * ((Mv 5) : Int32).toInt + ((Mf 3) (Mv 5).toNatClampNeg).toInt) := by
                have z_1 : ¬ (vy_20 : Int32).toInt = (0 : Int32).toInt := fun z => c_34 (Int32.toInt_inj.mp z)
                have z_2 : ¬ (r_149 : Int32).toInt = (0 : Int32).toInt := fun z => c_154 (Int32.toInt_inj.mp z)
                have z_3 : ¬ (r_200 : Int32).toInt = (0 : Int32).toInt := fun z => c_205 (Int32.toInt_inj.mp z)
                have z_4 : ¬ (r_219 : Int32).toInt = (0 : Int32).toInt := fun z => c_227 (Int32.toInt_inj.mp z)
                have y_0 : (0 : Int32).toInt = 0 := by decide
                omega
              have hr_340 : (400 * ((Mv 5) : Int32).toInt + ((Mf 3) (Mv 5).toNatClampNeg).toInt) ≤ (400 * ((Mv 5) : Int32).toInt + (vy_18 (Mv 5).toNatClampNeg).toInt) := by
                have z_1 : ¬ (vy_20 : Int32).toInt = (0 : Int32).toInt := fun z => c_34 (Int32.toInt_inj.mp z)
                have z_2 : ¬ (r_149 : Int32).toInt = (0 : Int32).toInt := fun z => c_154 (Int32.toInt_inj.mp z)
                have z_3 : ¬ (r_200 : Int32).toInt = (0 : Int32).toInt := fun z => c_205 (Int32.toInt_inj.mp z)
                have z_4 : ¬ (r_219 : Int32).toInt = (0 : Int32).toInt := fun z => c_227 (Int32.toInt_inj.mp z)
                have y_0 : (0 : Int32).toInt = 0 := by decide
                omega
              have hr_341 : (400 * ((Mv 5) : Int32).toInt + ((Mf 3) (Mv 5).toNatClampNeg).toInt) ≤ (400 * ((Mv 5) : Int32).toInt + (sv_144 (Mv 5).toNatClampNeg).toInt) := by
                have z_1 : ¬ (vy_20 : Int32).toInt = (0 : Int32).toInt := fun z => c_34 (Int32.toInt_inj.mp z)
                have z_2 : ¬ (r_149 : Int32).toInt = (0 : Int32).toInt := fun z => c_154 (Int32.toInt_inj.mp z)
                have z_3 : ¬ (r_200 : Int32).toInt = (0 : Int32).toInt := fun z => c_205 (Int32.toInt_inj.mp z)
                have z_4 : ¬ (r_219 : Int32).toInt = (0 : Int32).toInt := fun z => c_227 (Int32.toInt_inj.mp z)
                have y_0 : (0 : Int32).toInt = 0 := by decide
                omega
              have hr_342 : (400 * ((Mv 5) : Int32).toInt + ((Mf 3) (Mv 5).toNatClampNeg).toInt) ≤ (400 * ((Mv 5) : Int32).toInt + (sv_175 (Mv 5).toNatClampNeg).toInt) := by
                have z_1 : ¬ (vy_20 : Int32).toInt = (0 : Int32).toInt := fun z => c_34 (Int32.toInt_inj.mp z)
                have z_2 : ¬ (r_149 : Int32).toInt = (0 : Int32).toInt := fun z => c_154 (Int32.toInt_inj.mp z)
                have z_3 : ¬ (r_200 : Int32).toInt = (0 : Int32).toInt := fun z => c_205 (Int32.toInt_inj.mp z)
                have z_4 : ¬ (r_219 : Int32).toInt = (0 : Int32).toInt := fun z => c_227 (Int32.toInt_inj.mp z)
                have y_0 : (0 : Int32).toInt = 0 := by decide
                omega
              have hr_343 : (1 : Int32).toInt = 1 := by
                have z_1 : ¬ (vy_20 : Int32).toInt = (0 : Int32).toInt := fun z => c_34 (Int32.toInt_inj.mp z)
                have z_2 : ¬ (r_149 : Int32).toInt = (0 : Int32).toInt := fun z => c_154 (Int32.toInt_inj.mp z)
                have z_3 : ¬ (r_200 : Int32).toInt = (0 : Int32).toInt := fun z => c_205 (Int32.toInt_inj.mp z)
                have z_4 : ¬ (r_219 : Int32).toInt = (0 : Int32).toInt := fun z => c_227 (Int32.toInt_inj.mp z)
                have y_0 : (0 : Int32).toInt = 0 := by decide
                have y_1 : (1 : Int32).toInt = 1 := by decide
                omega
              have hw_344 : pz_wd (rB (Mf 1) (Mv 0)) (sv_214 : Int32).toInt.toNat pz_and = true := by
                have hq := pf_290
                rw [show (6385252 : Int64).toInt = pz_pl pz_and by decide] at hq
                exact (PkW.wd (by decide) (by decide) (by decide)).mp hq
              have hr_345 : (12 : Int32).toInt = 12 ∨ (12 : Int32).toInt = 13 := by
                have z_1 : ¬ (vy_20 : Int32).toInt = (0 : Int32).toInt := fun z => c_34 (Int32.toInt_inj.mp z)
                have z_2 : ¬ (r_149 : Int32).toInt = (0 : Int32).toInt := fun z => c_154 (Int32.toInt_inj.mp z)
                have z_3 : ¬ (r_200 : Int32).toInt = (0 : Int32).toInt := fun z => c_205 (Int32.toInt_inj.mp z)
                have z_4 : ¬ (r_219 : Int32).toInt = (0 : Int32).toInt := fun z => c_227 (Int32.toInt_inj.mp z)
                have y_0 : (0 : Int32).toInt = 0 := by decide
                have y_12 : (12 : Int32).toInt = 12 := by decide
                omega
              have hi_346 : (x_329 : Int32).toInt = (sv_312 : Int32).toInt + 1 := by
                have z_1 : ¬ (vy_20 : Int32).toInt = (0 : Int32).toInt := fun z => c_34 (Int32.toInt_inj.mp z)
                have z_2 : ¬ (r_149 : Int32).toInt = (0 : Int32).toInt := fun z => c_154 (Int32.toInt_inj.mp z)
                have z_3 : ¬ (r_200 : Int32).toInt = (0 : Int32).toInt := fun z => c_205 (Int32.toInt_inj.mp z)
                have z_4 : ¬ (r_219 : Int32).toInt = (0 : Int32).toInt := fun z => c_227 (Int32.toInt_inj.mp z)
                have y_0 : (0 : Int32).toInt = 0 := by decide
                have y_1 : (1 : Int32).toInt = 1 := by decide
                have t_x_329 : x_329.toInt = (sv_312 : Int32).toInt + (1 : Int32).toInt := by rw [ex_329]; exact add_toInt (by omega) (by omega)
                omega
              have hr_347 : (1 : Int32).toInt = 1 := by
                have z_1 : ¬ (vy_20 : Int32).toInt = (0 : Int32).toInt := fun z => c_34 (Int32.toInt_inj.mp z)
                have z_2 : ¬ (r_149 : Int32).toInt = (0 : Int32).toInt := fun z => c_154 (Int32.toInt_inj.mp z)
                have z_3 : ¬ (r_200 : Int32).toInt = (0 : Int32).toInt := fun z => c_205 (Int32.toInt_inj.mp z)
                have z_4 : ¬ (r_219 : Int32).toInt = (0 : Int32).toInt := fun z => c_227 (Int32.toInt_inj.mp z)
                have y_0 : (0 : Int32).toInt = 0 := by decide
                have y_1 : (1 : Int32).toInt = 1 := by decide
                omega
              have hw_348 : pz_wd (rB (Mf 1) (Mv 0)) (sv_214 : Int32).toInt.toNat pz_and = true := by
                have hq := pf_290
                rw [show (6385252 : Int64).toInt = pz_pl pz_and by decide] at hq
                exact (PkW.wd (by decide) (by decide) (by decide)).mp hq
              have hi_349 : (x_329 : Int32).toInt = (sv_312 : Int32).toInt + 1 := by
                have z_1 : ¬ (vy_20 : Int32).toInt = (0 : Int32).toInt := fun z => c_34 (Int32.toInt_inj.mp z)
                have z_2 : ¬ (r_149 : Int32).toInt = (0 : Int32).toInt := fun z => c_154 (Int32.toInt_inj.mp z)
                have z_3 : ¬ (r_200 : Int32).toInt = (0 : Int32).toInt := fun z => c_205 (Int32.toInt_inj.mp z)
                have z_4 : ¬ (r_219 : Int32).toInt = (0 : Int32).toInt := fun z => c_227 (Int32.toInt_inj.mp z)
                have y_0 : (0 : Int32).toInt = 0 := by decide
                have y_1 : (1 : Int32).toInt = 1 := by decide
                have t_x_329 : x_329.toInt = (sv_312 : Int32).toInt + (1 : Int32).toInt := by rw [ex_329]; exact add_toInt (by omega) (by omega)
                omega
              have hr_350 : 0 ≤ (sv_312 : Int32).toInt := by
                have z_1 : ¬ (vy_20 : Int32).toInt = (0 : Int32).toInt := fun z => c_34 (Int32.toInt_inj.mp z)
                have z_2 : ¬ (r_149 : Int32).toInt = (0 : Int32).toInt := fun z => c_154 (Int32.toInt_inj.mp z)
                have z_3 : ¬ (r_200 : Int32).toInt = (0 : Int32).toInt := fun z => c_205 (Int32.toInt_inj.mp z)
                have z_4 : ¬ (r_219 : Int32).toInt = (0 : Int32).toInt := fun z => c_227 (Int32.toInt_inj.mp z)
                have y_0 : (0 : Int32).toInt = 0 := by decide
                omega
              have hr_351 : (r_303 : Int32).toInt = 2 := by
                have z_1 : ¬ (vy_20 : Int32).toInt = (0 : Int32).toInt := fun z => c_34 (Int32.toInt_inj.mp z)
                have z_2 : ¬ (r_149 : Int32).toInt = (0 : Int32).toInt := fun z => c_154 (Int32.toInt_inj.mp z)
                have z_3 : ¬ (r_200 : Int32).toInt = (0 : Int32).toInt := fun z => c_205 (Int32.toInt_inj.mp z)
                have z_4 : ¬ (r_219 : Int32).toInt = (0 : Int32).toInt := fun z => c_227 (Int32.toInt_inj.mp z)
                have y_0 : (0 : Int32).toInt = 0 := by decide
                omega
              have hr_352 : (12 : Int32).toInt = 12 := by
                have z_1 : ¬ (vy_20 : Int32).toInt = (0 : Int32).toInt := fun z => c_34 (Int32.toInt_inj.mp z)
                have z_2 : ¬ (r_149 : Int32).toInt = (0 : Int32).toInt := fun z => c_154 (Int32.toInt_inj.mp z)
                have z_3 : ¬ (r_200 : Int32).toInt = (0 : Int32).toInt := fun z => c_205 (Int32.toInt_inj.mp z)
                have z_4 : ¬ (r_219 : Int32).toInt = (0 : Int32).toInt := fun z => c_227 (Int32.toInt_inj.mp z)
                have y_0 : (0 : Int32).toInt = 0 := by decide
                have y_12 : (12 : Int32).toInt = 12 := by decide
                omega
              exact ih_22 sv_296 sv_138 sv_139 sv_140 sv_311 x_329 sv_313 sv_314 g_328 1 _ _ _ (by omega) ha_331 ha_332 ha_333 ha_334 ⟨fun _ => LSR.open2 pf_315 eg_328 hi_335 hr_336 hr_337, fun h => absurd h (by decide)⟩ ha_338 (Agr.trans (k' := (400 * ((Mv 5) : Int32).toInt + ((Mf 3) (Mv 5).toNatClampNeg).toInt)) (Agr.trans (k' := (400 * ((Mv 5) : Int32).toInt + ((Mf 3) (Mv 5).toNatClampNeg).toInt)) (Agr.trans (k' := (400 * ((Mv 5) : Int32).toInt + ((Mf 3) (Mv 5).toNatClampNeg).toInt)) (Agr.mono pf_30 hr_339) pf_148 ⟨Int.le_refl _, hr_340⟩) pf_177 ⟨Int.le_refl _, hr_341⟩) pf_317 ⟨Int.le_refl _, hr_342⟩) (TsL.and (rB_fi h_nx.2.2) pf_180 (SkR.trans pf_199 pf_218) (Or.inl hw_344) pf_299 pf_320 pf_321 eg_328 hr_345 hi_346 hr_343) (TsC.and (rB_fi h_nx.2.2) pf_189 pf_190 (SkR.trans pf_199 pf_218) hw_348 pf_299 pf_320 pf_322 pf_323 hr_351 pf_321 (OpX.of eg_328 hi_349 hr_350) hr_352 hr_347) (hP.sub [1, 0, 2, 3, 4] rfl) (hD.sub [1, 0, 2, 3, 4] rfl rfl) hS (lv_sub hl [1, 2] rfl)
          · skip
            have hz_354 : (r_200 : Int32).toInt = 0 := by
              have z_1 : ¬ (vy_20 : Int32).toInt = (0 : Int32).toInt := fun z => c_34 (Int32.toInt_inj.mp z)
              have z_2 : ¬ (r_149 : Int32).toInt = (0 : Int32).toInt := fun z => c_154 (Int32.toInt_inj.mp z)
              have z_3 := congrArg Int32.toInt c_205
              have y_0 : (0 : Int32).toInt = 0 := by decide
              omega
            obtain pf_353 := hm_204 hz_354
            have pf_353 : NPk (rB (Mf 1) (Mv 0)) ((sv_195 : Int32).toInt.toNat) (6385252 : Int64).toInt := pf_353
            refine lv_aload_n hx hb dX12_tested_39 rfl (lv_at hl 1 rfl) ?_
            refine lv_ldc2 hx hb hown (hts _ k_1351) dX12_tested_40 ?_
            have ha_355 : 0 ≤ (sv_195 : Int32).toInt ∧ (sv_195 : Int32).toInt ≤ ((Mv 0) : Int32).toInt ∧ ((Mv 0) : Int32).toInt ≤ 400 := by
              have z_1 : ¬ (vy_20 : Int32).toInt = (0 : Int32).toInt := fun z => c_34 (Int32.toInt_inj.mp z)
              have z_2 : ¬ (r_149 : Int32).toInt = (0 : Int32).toInt := fun z => c_154 (Int32.toInt_inj.mp z)
              have z_3 := congrArg Int32.toInt c_205
              have y_0 : (0 : Int32).toInt = 0 := by decide
              omega
            refine cV (a := (Ma 0)) (As := [.long 28530]) (rest := []) (wr := [((Ma 2), .inl (tc 0, 2400, .inl sv_174)), ((Ma 3), .inl (tc 0, 7, .inl sv_175)), ((Ma 7), .inl (tc 0, 400, .inl sv_145))]) ⟨hx, hb, hml, hown, hts⟩ hK hX hA (cu_fX12_isWord l D tc sk (Ma 0) (Ma 1) (Ma 2) (Ma 3) (Ma 4) (Ma 5) (Ma 6) (Ma 7) (Ma 8) (Ma 9) (Ma 10) (Ma 11) (Ma 12) (Ma 13) (Ma 14) (Ma 15) (Ma 16) (Ma 17) (Ma 18) (Ma 19) (Ma 20) (Mv 0) (Mv 1) sv_195 sv_138 sv_139 (Mv 5) sv_140 sv_172 (Mv 8) sv_173 (Mv 10) (Mv 11) (Mv 12) (Mv 13) (Mv 14) (Mf 1) (Mj 0) 28530 ha_355 h_bs) k_1220 k_1217 k_1219 k_29 k_106 pl_X12_isWord ⟨Nat.le_of_ble_eq_true rfl, Nat.le_of_ble_eq_true rfl⟩ rfl rfl (va_recv hK hP (ci := 12) (q0 := 3) rfl rfl) hP hD hS [3, 4] [0, 1, 2] rfl rfl rfl rfl rfl (by decide) rfl hl.1 rfl (Nat.le_of_ble_eq_true rfl) dX12_tested_43 ⟨Nat.le_of_ble_eq_true rfl, Nat.le_of_ble_eq_true rfl⟩ (fun v_356 u_357 H locs hv_358 hP₀ hD₀ hS₀ => ?_)
            obtain ⟨sv_359, rfl⟩ : ∃ z, z = u_357 := ⟨_, rfl⟩
            obtain ⟨r_364, rfl, he_365, pf_360, pf_361, pf_362, pf_363, hm_367, hm_368⟩ := hv_358
            have he_365 : (r_364.toInt = 0 ∨ r_364.toInt = 1) := he_365
            have pf_360 : (sv_195 : Int32).toInt ≤ (sv_359 : Int32).toInt ∧ (sv_359 : Int32).toInt ≤ ((Mv 0) : Int32).toInt := pf_360
            have pf_361 : NSq (Mf 1) (Mv 0) sv_359 := pf_361
            have pf_362 : Stl (Mf 1) (Mv 0) sv_195 sv_359 := pf_362
            have ar_pf_362 := Stl.or pf_362 pf_197
            have pf_363 : SkR (rB (Mf 1) (Mv 0)) sv_195 sv_359 := pf_363
            refine W.eq (g2 := F0 m 46 ls [.int r_364]) rfl ?_
            replace hP : va_P D classes [((Ma 2), .inl (tc 0, 2400, .inl sv_174)), ((Ma 3), .inl (tc 0, 7, .inl sv_175)), ((Ma 7), .inl (tc 0, 400, .inl sv_145)), ((Ma 0), .inr (12, [.ref (Ma 1), .int (Mv 0), .int (Mv 1), .ref (Ma 2), .ref (Ma 3), .ref (Ma 4), .ref (Ma 5), .ref (Ma 6), .int sv_359, .int sv_138, .int sv_139, .int (Mv 5), .int sv_140, .int sv_172, .int (Mv 8), .ref (Ma 7), .int sv_173, .ref (Ma 8), .int (Mv 10), .ref (Ma 9), .ref (Ma 10), .int (Mv 11), .int (Mv 12), .int (Mv 13), .ref (Ma 11), .int (Mv 14), .ref (Ma 12), .ref (Ma 13), .ref (Ma 14), .ref (Ma 15), .ref (Ma 16), .long (Mj 0), .ref (Ma 17), .ref (Ma 18), .ref (Ma 19), .ref (Ma 20)])), ((Ma 1), .inl (tc 2, 400, .inl (Mf 1)))] H := hP₀
            replace hD : va_D A [((Ma 2), .inl (tc 0, 2400, .inl sv_174)), ((Ma 3), .inl (tc 0, 7, .inl sv_175)), ((Ma 7), .inl (tc 0, 400, .inl sv_145)), ((Ma 0), .inr (12, [.ref (Ma 1), .int (Mv 0), .int (Mv 1), .ref (Ma 2), .ref (Ma 3), .ref (Ma 4), .ref (Ma 5), .ref (Ma 6), .int sv_359, .int sv_138, .int sv_139, .int (Mv 5), .int sv_140, .int sv_172, .int (Mv 8), .ref (Ma 7), .int sv_173, .ref (Ma 8), .int (Mv 10), .ref (Ma 9), .ref (Ma 10), .int (Mv 11), .int (Mv 12), .int (Mv 13), .ref (Ma 11), .int (Mv 14), .ref (Ma 12), .ref (Ma 13), .ref (Ma 14), .ref (Ma 15), .ref (Ma 16), .long (Mj 0), .ref (Ma 17), .ref (Ma 18), .ref (Ma 19), .ref (Ma 20)])), ((Ma 1), .inl (tc 2, 400, .inl (Mf 1)))] := hD₀
            replace hS := hS₀
            clear hP₀ hD₀ hS₀
            have hE_369 := SkR.eqB pf_199 pf_363
            refine lv_if_eq (tgt := 53) hx hb dX12_tested_46 (by decide) (fun c_370 => ?_) (fun c_370 => ?_)
            · skip
              have hz_372 : (r_364 : Int32).toInt = 0 := by
                have z_1 : ¬ (vy_20 : Int32).toInt = (0 : Int32).toInt := fun z => c_34 (Int32.toInt_inj.mp z)
                have z_2 : ¬ (r_149 : Int32).toInt = (0 : Int32).toInt := fun z => c_154 (Int32.toInt_inj.mp z)
                have z_3 := congrArg Int32.toInt c_205
                have z_4 := congrArg Int32.toInt c_370
                have y_0 : (0 : Int32).toInt = 0 := by decide
                omega
              obtain pf_371 := hm_368 hz_372
              have pf_371 : NPk (rB (Mf 1) (Mv 0)) ((sv_359 : Int32).toInt.toNat) (28530 : Int64).toInt := pf_371
              refine lv_iconst (v := 0) hx hb dX12_tested_53 (by decide) ?_
              refine lv_istore_n (lv' := [(1, .int 0), (0, .ref (Ma 0))]) hx hb dX12_tested_54 rfl hl (by decide) rfl (fun ls hl₀ => ?_)
              replace hl := hl₀
              clear hl₀
              refine lv_iload_n hx hb dX12_tested_55 rfl (lv_at hl 0 rfl) ?_
              refine lv_if_eq (tgt := 12) hx hb dX12_tested_56 (by decide) (fun c_373 => ?_) (fun c_373 => absurd c_373 (by decide))
              have hb_374 : 2 * (401 - (sv_359 : Int32).toInt) + (0 : Int32).toInt < 2 * (401 - (vy_11 : Int32).toInt) + (vy_20 : Int32).toInt ∧ 1 ≤ 2 * (401 - (vy_11 : Int32).toInt) + (vy_20 : Int32).toInt := by
                have z_1 : ¬ (vy_20 : Int32).toInt = (0 : Int32).toInt := fun z => c_34 (Int32.toInt_inj.mp z)
                have z_2 : ¬ (r_149 : Int32).toInt = (0 : Int32).toInt := fun z => c_154 (Int32.toInt_inj.mp z)
                have z_3 := congrArg Int32.toInt c_205
                have z_4 := congrArg Int32.toInt c_370
                have y_0 : (0 : Int32).toInt = 0 := by decide
                omega
              have ha_375 : 0 ≤ (sv_359 : Int32).toInt ∧ (sv_359 : Int32).toInt ≤ ((Mv 0) : Int32).toInt ∧ ((Mv 0) : Int32).toInt ≤ 400 := by
                have z_1 : ¬ (vy_20 : Int32).toInt = (0 : Int32).toInt := fun z => c_34 (Int32.toInt_inj.mp z)
                have z_2 : ¬ (r_149 : Int32).toInt = (0 : Int32).toInt := fun z => c_154 (Int32.toInt_inj.mp z)
                have z_3 := congrArg Int32.toInt c_205
                have z_4 := congrArg Int32.toInt c_370
                have y_0 : (0 : Int32).toInt = 0 := by decide
                omega
              have ha_376 : (Mv 2).toInt ≤ (sv_359 : Int32).toInt := by
                have z_1 : ¬ (vy_20 : Int32).toInt = (0 : Int32).toInt := fun z => c_34 (Int32.toInt_inj.mp z)
                have z_2 : ¬ (r_149 : Int32).toInt = (0 : Int32).toInt := fun z => c_154 (Int32.toInt_inj.mp z)
                have z_3 := congrArg Int32.toInt c_205
                have z_4 := congrArg Int32.toInt c_370
                have y_0 : (0 : Int32).toInt = 0 := by decide
                omega
              have ha_377 : 0 ≤ (0 : Int32).toInt ∧ (0 : Int32).toInt ≤ 1 := by
                have z_1 : ¬ (vy_20 : Int32).toInt = (0 : Int32).toInt := fun z => c_34 (Int32.toInt_inj.mp z)
                have z_2 : ¬ (r_149 : Int32).toInt = (0 : Int32).toInt := fun z => c_154 (Int32.toInt_inj.mp z)
                have z_3 := congrArg Int32.toInt c_205
                have z_4 := congrArg Int32.toInt c_370
                have y_0 : (0 : Int32).toInt = 0 := by decide
                omega
              have ha_378 : (Mv 6).toInt ≤ (sv_140 : Int32).toInt ∧ (sv_140 : Int32).toInt ≤ 60 := by
                have z_1 : ¬ (vy_20 : Int32).toInt = (0 : Int32).toInt := fun z => c_34 (Int32.toInt_inj.mp z)
                have z_2 : ¬ (r_149 : Int32).toInt = (0 : Int32).toInt := fun z => c_154 (Int32.toInt_inj.mp z)
                have z_3 := congrArg Int32.toInt c_205
                have z_4 := congrArg Int32.toInt c_370
                have y_0 : (0 : Int32).toInt = 0 := by decide
                omega
              have ha_379 : (sv_175 (Mv 5).toNatClampNeg).toInt + (sv_173 : Int32).toInt ≤ (sv_359 : Int32).toInt ∧ ((Mf 3) (Mv 5).toNatClampNeg).toInt ≤ (sv_175 (Mv 5).toNatClampNeg).toInt ∧ 0 ≤ (sv_173 : Int32).toInt ∧ (sv_173 : Int32).toInt ≤ 400 := by
                have z_1 : ¬ (vy_20 : Int32).toInt = (0 : Int32).toInt := fun z => c_34 (Int32.toInt_inj.mp z)
                have z_2 : ¬ (r_149 : Int32).toInt = (0 : Int32).toInt := fun z => c_154 (Int32.toInt_inj.mp z)
                have z_3 := congrArg Int32.toInt c_205
                have z_4 := congrArg Int32.toInt c_370
                have y_0 : (0 : Int32).toInt = 0 := by decide
                omega
              have hr_380 : (400 * ((Mv 5) : Int32).toInt + ((Mf 3) (Mv 5).toNatClampNeg).toInt) ≤ (400 * ((Mv 5) : Int32).toInt + ((Mf 3) (Mv 5).toNatClampNeg).toInt) := by
                have z_1 : ¬ (vy_20 : Int32).toInt = (0 : Int32).toInt := fun z => c_34 (Int32.toInt_inj.mp z)
                have z_2 : ¬ (r_149 : Int32).toInt = (0 : Int32).toInt := fun z => c_154 (Int32.toInt_inj.mp z)
                have z_3 := congrArg Int32.toInt c_205
                have z_4 := congrArg Int32.toInt c_370
                have y_0 : (0 : Int32).toInt = 0 := by decide
                omega
              have hr_381 : (400 * ((Mv 5) : Int32).toInt + ((Mf 3) (Mv 5).toNatClampNeg).toInt) ≤ (400 * ((Mv 5) : Int32).toInt + (vy_18 (Mv 5).toNatClampNeg).toInt) := by
                have z_1 : ¬ (vy_20 : Int32).toInt = (0 : Int32).toInt := fun z => c_34 (Int32.toInt_inj.mp z)
                have z_2 : ¬ (r_149 : Int32).toInt = (0 : Int32).toInt := fun z => c_154 (Int32.toInt_inj.mp z)
                have z_3 := congrArg Int32.toInt c_205
                have z_4 := congrArg Int32.toInt c_370
                have y_0 : (0 : Int32).toInt = 0 := by decide
                omega
              have hr_382 : (400 * ((Mv 5) : Int32).toInt + ((Mf 3) (Mv 5).toNatClampNeg).toInt) ≤ (400 * ((Mv 5) : Int32).toInt + (sv_144 (Mv 5).toNatClampNeg).toInt) := by
                have z_1 : ¬ (vy_20 : Int32).toInt = (0 : Int32).toInt := fun z => c_34 (Int32.toInt_inj.mp z)
                have z_2 : ¬ (r_149 : Int32).toInt = (0 : Int32).toInt := fun z => c_154 (Int32.toInt_inj.mp z)
                have z_3 := congrArg Int32.toInt c_205
                have z_4 := congrArg Int32.toInt c_370
                have y_0 : (0 : Int32).toInt = 0 := by decide
                omega
              have hr_383 : (0 : Int32).toInt = 0 := by
                have z_1 : ¬ (vy_20 : Int32).toInt = (0 : Int32).toInt := fun z => c_34 (Int32.toInt_inj.mp z)
                have z_2 : ¬ (r_149 : Int32).toInt = (0 : Int32).toInt := fun z => c_154 (Int32.toInt_inj.mp z)
                have z_3 := congrArg Int32.toInt c_205
                have z_4 := congrArg Int32.toInt c_370
                have y_0 : (0 : Int32).toInt = 0 := by decide
                omega
              have hw_384 : ¬ pz_wd (rB (Mf 1) (Mv 0)) (sv_195 : Int32).toInt.toNat pz_and = true := by
                have hq := pf_353
                rw [show (6385252 : Int64).toInt = pz_pl pz_and by decide] at hq
                exact fun z => hq ((PkW.wd (by decide) (by decide) (by decide)).mpr z)
              have hw_385 : ¬ pz_wd (rB (Mf 1) (Mv 0)) (sv_359 : Int32).toInt.toNat pz_or = true := by
                have hq := pf_371
                rw [show (28530 : Int64).toInt = pz_pl pz_or by decide] at hq
                exact fun z => hq ((PkW.wd (by decide) (by decide) (by decide)).mpr z)
              have hq_386 : sv_359 = sv_195 := SkR.eq pf_199 pf_363
              have hr_387 : (0 : Int32).toInt = 0 := by
                have z_1 : ¬ (vy_20 : Int32).toInt = (0 : Int32).toInt := fun z => c_34 (Int32.toInt_inj.mp z)
                have z_2 : ¬ (r_149 : Int32).toInt = (0 : Int32).toInt := fun z => c_154 (Int32.toInt_inj.mp z)
                have z_3 := congrArg Int32.toInt c_205
                have z_4 := congrArg Int32.toInt c_370
                have y_0 : (0 : Int32).toInt = 0 := by decide
                omega
              exact ih_22 sv_359 sv_138 sv_139 sv_140 sv_172 sv_173 sv_174 sv_175 sv_145 0 _ _ _ (by omega) ha_375 ha_376 ha_377 ha_378 ⟨fun h => absurd h (by decide), fun _ => pf_178⟩ ha_379 (Agr.trans (k' := (400 * ((Mv 5) : Int32).toInt + ((Mf 3) (Mv 5).toNatClampNeg).toInt)) (Agr.trans (k' := (400 * ((Mv 5) : Int32).toInt + ((Mf 3) (Mv 5).toNatClampNeg).toInt)) (Agr.mono pf_30 hr_380) pf_148 ⟨Int.le_refl _, hr_381⟩) pf_177 ⟨Int.le_refl _, hr_382⟩) (TsL.no pf_180 pf_182 (SkR.trans pf_199 pf_363) (hq_386.symm ▸ hw_384) hw_385 hr_383) (TsC.no pf_183 (SkR.trans pf_199 pf_363) hr_387) (hP.sub [3, 4, 0, 1, 2] rfl) (hD.sub [3, 4, 0, 1, 2] rfl rfl) hS (lv_sub hl [0, 1] rfl)
            · skip
              have hz_390 : (r_364 : Int32).toInt = 1 := by
                have z_1 : ¬ (vy_20 : Int32).toInt = (0 : Int32).toInt := fun z => c_34 (Int32.toInt_inj.mp z)
                have z_2 : ¬ (r_149 : Int32).toInt = (0 : Int32).toInt := fun z => c_154 (Int32.toInt_inj.mp z)
                have z_3 := congrArg Int32.toInt c_205
                have z_4 : ¬ (r_364 : Int32).toInt = (0 : Int32).toInt := fun z => c_370 (Int32.toInt_inj.mp z)
                have y_0 : (0 : Int32).toInt = 0 := by decide
                omega
              obtain ⟨pf_388, pf_389⟩ := hm_367 hz_390
              have pf_388 : Ltr (Mf 1) (Mv 0) sv_359 := pf_388
              have ar_pf_388 := pf_388.1
              have at_pf_388 : 97 ≤ ((Mf 1) (sv_359 : Int32).toInt.toNat).toInt ∧ ((Mf 1) (sv_359 : Int32).toInt.toNat).toInt ≤ 122 := pf_388.2
              have pf_389 : PkW (rB (Mf 1) (Mv 0)) ((sv_359 : Int32).toInt.toNat) (28530 : Int64).toInt := pf_389
              refine lv_iconst (v := 1) hx hb dX12_tested_49 (by decide) ?_
              refine lv_goto (tgt := 54) hx hb dX12_tested_50 (by decide) ?_
              refine lv_istore_n (lv' := [(1, .int 1), (0, .ref (Ma 0))]) hx hb dX12_tested_54 rfl hl (by decide) rfl (fun ls hl₀ => ?_)
              replace hl := hl₀
              clear hl₀
              refine lv_iload_n hx hb dX12_tested_55 rfl (lv_at hl 0 rfl) ?_
              refine lv_if_eq (tgt := 12) hx hb dX12_tested_56 (by decide) (fun c_391 => absurd c_391 (by decide)) (fun c_391 => ?_)
              refine lv_aload_n hx hb dX12_tested_59 rfl (lv_at hl 1 rfl) ?_
              refine lv_ldc2 hx hb hown (hts _ k_1350) dX12_tested_60 ?_
              have ha_392 : 0 ≤ (sv_359 : Int32).toInt ∧ (sv_359 : Int32).toInt ≤ ((Mv 0) : Int32).toInt ∧ ((Mv 0) : Int32).toInt ≤ 400 := by
                have z_1 : ¬ (vy_20 : Int32).toInt = (0 : Int32).toInt := fun z => c_34 (Int32.toInt_inj.mp z)
                have z_2 : ¬ (r_149 : Int32).toInt = (0 : Int32).toInt := fun z => c_154 (Int32.toInt_inj.mp z)
                have z_3 := congrArg Int32.toInt c_205
                have z_4 : ¬ (r_364 : Int32).toInt = (0 : Int32).toInt := fun z => c_370 (Int32.toInt_inj.mp z)
                have y_0 : (0 : Int32).toInt = 0 := by decide
                omega
              refine cV (a := (Ma 0)) (As := [.long 6385252]) (rest := []) (wr := [((Ma 2), .inl (tc 0, 2400, .inl sv_174)), ((Ma 3), .inl (tc 0, 7, .inl sv_175)), ((Ma 7), .inl (tc 0, 400, .inl sv_145))]) ⟨hx, hb, hml, hown, hts⟩ hK hX hA (cu_fX12_isWord l D tc sk (Ma 0) (Ma 1) (Ma 2) (Ma 3) (Ma 4) (Ma 5) (Ma 6) (Ma 7) (Ma 8) (Ma 9) (Ma 10) (Ma 11) (Ma 12) (Ma 13) (Ma 14) (Ma 15) (Ma 16) (Ma 17) (Ma 18) (Ma 19) (Ma 20) (Mv 0) (Mv 1) sv_359 sv_138 sv_139 (Mv 5) sv_140 sv_172 (Mv 8) sv_173 (Mv 10) (Mv 11) (Mv 12) (Mv 13) (Mv 14) (Mf 1) (Mj 0) 6385252 ha_392 h_bs) k_1220 k_1217 k_1219 k_29 k_106 pl_X12_isWord ⟨Nat.le_of_ble_eq_true rfl, Nat.le_of_ble_eq_true rfl⟩ rfl rfl (va_recv hK hP (ci := 12) (q0 := 3) rfl rfl) hP hD hS [3, 4] [0, 1, 2] rfl rfl rfl rfl rfl (by decide) rfl hl.1 rfl (Nat.le_of_ble_eq_true rfl) dX12_tested_63 ⟨Nat.le_of_ble_eq_true rfl, Nat.le_of_ble_eq_true rfl⟩ (fun v_393 u_394 H locs hv_395 hP₀ hD₀ hS₀ => ?_)
              obtain ⟨sv_396, rfl⟩ : ∃ z, z = u_394 := ⟨_, rfl⟩
              obtain ⟨r_401, rfl, he_402, pf_397, pf_398, pf_399, pf_400, hm_404, hm_405⟩ := hv_395
              have he_402 : (r_401.toInt = 0 ∨ r_401.toInt = 1) := he_402
              have pf_397 : (sv_359 : Int32).toInt ≤ (sv_396 : Int32).toInt ∧ (sv_396 : Int32).toInt ≤ ((Mv 0) : Int32).toInt := pf_397
              have pf_398 : NSq (Mf 1) (Mv 0) sv_396 := pf_398
              have pf_399 : Stl (Mf 1) (Mv 0) sv_359 sv_396 := pf_399
              have pf_406 := Stl.ltr pf_399 pf_388
              have ar_pf_406 := pf_406.2
              have pf_407 : Ltr (Mf 1) (Mv 0) sv_396 := pf_406.1
              have ar_pf_399 := Stl.or pf_399 pf_361
              have pf_400 : SkR (rB (Mf 1) (Mv 0)) sv_359 sv_396 := pf_400
              refine W.eq (g2 := F0 m 66 ls [.int r_401]) rfl ?_
              replace hP : va_P D classes [((Ma 2), .inl (tc 0, 2400, .inl sv_174)), ((Ma 3), .inl (tc 0, 7, .inl sv_175)), ((Ma 7), .inl (tc 0, 400, .inl sv_145)), ((Ma 0), .inr (12, [.ref (Ma 1), .int (Mv 0), .int (Mv 1), .ref (Ma 2), .ref (Ma 3), .ref (Ma 4), .ref (Ma 5), .ref (Ma 6), .int sv_396, .int sv_138, .int sv_139, .int (Mv 5), .int sv_140, .int sv_172, .int (Mv 8), .ref (Ma 7), .int sv_173, .ref (Ma 8), .int (Mv 10), .ref (Ma 9), .ref (Ma 10), .int (Mv 11), .int (Mv 12), .int (Mv 13), .ref (Ma 11), .int (Mv 14), .ref (Ma 12), .ref (Ma 13), .ref (Ma 14), .ref (Ma 15), .ref (Ma 16), .long (Mj 0), .ref (Ma 17), .ref (Ma 18), .ref (Ma 19), .ref (Ma 20)])), ((Ma 1), .inl (tc 2, 400, .inl (Mf 1)))] H := hP₀
              replace hD : va_D A [((Ma 2), .inl (tc 0, 2400, .inl sv_174)), ((Ma 3), .inl (tc 0, 7, .inl sv_175)), ((Ma 7), .inl (tc 0, 400, .inl sv_145)), ((Ma 0), .inr (12, [.ref (Ma 1), .int (Mv 0), .int (Mv 1), .ref (Ma 2), .ref (Ma 3), .ref (Ma 4), .ref (Ma 5), .ref (Ma 6), .int sv_396, .int sv_138, .int sv_139, .int (Mv 5), .int sv_140, .int sv_172, .int (Mv 8), .ref (Ma 7), .int sv_173, .ref (Ma 8), .int (Mv 10), .ref (Ma 9), .ref (Ma 10), .int (Mv 11), .int (Mv 12), .int (Mv 13), .ref (Ma 11), .int (Mv 14), .ref (Ma 12), .ref (Ma 13), .ref (Ma 14), .ref (Ma 15), .ref (Ma 16), .long (Mj 0), .ref (Ma 17), .ref (Ma 18), .ref (Ma 19), .ref (Ma 20)])), ((Ma 1), .inl (tc 2, 400, .inl (Mf 1)))] := hD₀
              replace hS := hS₀
              clear hP₀ hD₀ hS₀
              have hE_408 := SkR.eqB pf_363 pf_400
              refine lv_if_eq (tgt := 74) hx hb dX12_tested_66 (by decide) (fun c_409 => ?_) (fun c_409 => ?_)
              · skip
                have hz_411 : (r_401 : Int32).toInt = 0 := by
                  have z_1 : ¬ (vy_20 : Int32).toInt = (0 : Int32).toInt := fun z => c_34 (Int32.toInt_inj.mp z)
                  have z_2 : ¬ (r_149 : Int32).toInt = (0 : Int32).toInt := fun z => c_154 (Int32.toInt_inj.mp z)
                  have z_3 := congrArg Int32.toInt c_205
                  have z_4 : ¬ (r_364 : Int32).toInt = (0 : Int32).toInt := fun z => c_370 (Int32.toInt_inj.mp z)
                  have z_5 := congrArg Int32.toInt c_409
                  have y_0 : (0 : Int32).toInt = 0 := by decide
                  omega
                obtain pf_410 := hm_405 hz_411
                have pf_410 : NPk (rB (Mf 1) (Mv 0)) ((sv_396 : Int32).toInt.toNat) (6385252 : Int64).toInt := pf_410
                refine lv_bipush (v := 13) hx hb dX12_tested_74 (by decide) ?_
                refine lv_istore_n (lv' := [(2, .int 13), (1, .int 1), (0, .ref (Ma 0))]) hx hb dX12_tested_76 rfl hl (by decide) rfl (fun ls hl₀ => ?_)
                replace hl := hl₀
                clear hl₀
                refine lv_aload_n hx hb dX12_tested_77 rfl (lv_at hl 2 rfl) ?_
                have ha_412 : 0 ≤ (sv_396 : Int32).toInt ∧ (sv_396 : Int32).toInt ≤ ((Mv 0) : Int32).toInt ∧ ((Mv 0) : Int32).toInt ≤ 400 := by
                  have z_1 : ¬ (vy_20 : Int32).toInt = (0 : Int32).toInt := fun z => c_34 (Int32.toInt_inj.mp z)
                  have z_2 : ¬ (r_149 : Int32).toInt = (0 : Int32).toInt := fun z => c_154 (Int32.toInt_inj.mp z)
                  have z_3 := congrArg Int32.toInt c_205
                  have z_4 : ¬ (r_364 : Int32).toInt = (0 : Int32).toInt := fun z => c_370 (Int32.toInt_inj.mp z)
                  have z_5 := congrArg Int32.toInt c_409
                  have y_0 : (0 : Int32).toInt = 0 := by decide
                  omega
                refine cV (a := (Ma 0)) (As := []) (rest := []) (wr := [((Ma 2), .inl (tc 0, 2400, .inl sv_174)), ((Ma 3), .inl (tc 0, 7, .inl sv_175)), ((Ma 7), .inl (tc 0, 400, .inl sv_145))]) ⟨hx, hb, hml, hown, hts⟩ hK hX hA (cu_fX12_passWord l D tc sk (Ma 0) (Ma 1) (Ma 2) (Ma 3) (Ma 4) (Ma 5) (Ma 6) (Ma 7) (Ma 8) (Ma 9) (Ma 10) (Ma 11) (Ma 12) (Ma 13) (Ma 14) (Ma 15) (Ma 16) (Ma 17) (Ma 18) (Ma 19) (Ma 20) (Mv 0) (Mv 1) sv_396 sv_138 sv_139 (Mv 5) sv_140 sv_172 (Mv 8) sv_173 (Mv 10) (Mv 11) (Mv 12) (Mv 13) (Mv 14) (Mf 1) (Mj 0) ha_412 h_bs) k_1244 k_1241 k_1243 k_34 k_106 pl_X12_passWord ⟨Nat.le_of_ble_eq_true rfl, Nat.le_of_ble_eq_true rfl⟩ rfl rfl (va_recv hK hP (ci := 12) (q0 := 3) rfl rfl) hP hD hS [3, 4] [0, 1, 2] rfl rfl rfl rfl rfl (by decide) rfl hl.1 rfl (Nat.le_of_ble_eq_true rfl) dX12_tested_78 ⟨Nat.le_of_ble_eq_true rfl, Nat.le_of_ble_eq_true rfl⟩ (fun v_413 u_414 H locs hv_415 hP₀ hD₀ hS₀ => ?_)
                obtain ⟨sv_416, rfl⟩ : ∃ z, z = u_414 := ⟨_, rfl⟩
                obtain ⟨rfl, pf_417, pf_418, pf_419⟩ := hv_415
                have pf_417 : (sv_396 : Int32).toInt ≤ (sv_416 : Int32).toInt ∧ (sv_416 : Int32).toInt ≤ ((Mv 0) : Int32).toInt := pf_417
                have pf_418 : Pw (Mf 1) (Mv 0) sv_396 sv_416 := pf_418
                have ar_pf_418 := pf_418 pf_407
                have pf_419 : PsR (rB (Mf 1) (Mv 0)) sv_396 sv_416 := pf_419
                refine W.eq (g2 := F0 m 81 ls []) rfl ?_
                replace hP : va_P D classes [((Ma 2), .inl (tc 0, 2400, .inl sv_174)), ((Ma 3), .inl (tc 0, 7, .inl sv_175)), ((Ma 7), .inl (tc 0, 400, .inl sv_145)), ((Ma 0), .inr (12, [.ref (Ma 1), .int (Mv 0), .int (Mv 1), .ref (Ma 2), .ref (Ma 3), .ref (Ma 4), .ref (Ma 5), .ref (Ma 6), .int sv_416, .int sv_138, .int sv_139, .int (Mv 5), .int sv_140, .int sv_172, .int (Mv 8), .ref (Ma 7), .int sv_173, .ref (Ma 8), .int (Mv 10), .ref (Ma 9), .ref (Ma 10), .int (Mv 11), .int (Mv 12), .int (Mv 13), .ref (Ma 11), .int (Mv 14), .ref (Ma 12), .ref (Ma 13), .ref (Ma 14), .ref (Ma 15), .ref (Ma 16), .long (Mj 0), .ref (Ma 17), .ref (Ma 18), .ref (Ma 19), .ref (Ma 20)])), ((Ma 1), .inl (tc 2, 400, .inl (Mf 1)))] H := hP₀
                replace hD : va_D A [((Ma 2), .inl (tc 0, 2400, .inl sv_174)), ((Ma 3), .inl (tc 0, 7, .inl sv_175)), ((Ma 7), .inl (tc 0, 400, .inl sv_145)), ((Ma 0), .inr (12, [.ref (Ma 1), .int (Mv 0), .int (Mv 1), .ref (Ma 2), .ref (Ma 3), .ref (Ma 4), .ref (Ma 5), .ref (Ma 6), .int sv_416, .int sv_138, .int sv_139, .int (Mv 5), .int sv_140, .int sv_172, .int (Mv 8), .ref (Ma 7), .int sv_173, .ref (Ma 8), .int (Mv 10), .ref (Ma 9), .ref (Ma 10), .int (Mv 11), .int (Mv 12), .int (Mv 13), .ref (Ma 11), .int (Mv 14), .ref (Ma 12), .ref (Ma 13), .ref (Ma 14), .ref (Ma 15), .ref (Ma 16), .long (Mj 0), .ref (Ma 17), .ref (Ma 18), .ref (Ma 19), .ref (Ma 20)])), ((Ma 1), .inl (tc 2, 400, .inl (Mf 1)))] := hD₀
                replace hS := hS₀
                clear hP₀ hD₀ hS₀
                refine lv_aload_n hx hb dX12_tested_81 rfl (lv_at hl 2 rfl) ?_
                refine lv_iload_n hx hb dX12_tested_82 rfl (lv_at hl 0 rfl) ?_
                refine cS (As := [.int 13]) (rest := [.ref (Ma 0)]) (wr := [((Ma 2), .inl (tc 0, 2400, .inl sv_174)), ((Ma 3), .inl (tc 0, 7, .inl sv_175)), ((Ma 7), .inl (tc 0, 400, .inl sv_145)), ((Ma 0), .inr (12, [.ref (Ma 1), .int (Mv 0), .int (Mv 1), .ref (Ma 2), .ref (Ma 3), .ref (Ma 4), .ref (Ma 5), .ref (Ma 6), .int sv_416, .int sv_138, .int sv_139, .int (Mv 5), .int sv_140, .int sv_172, .int (Mv 8), .ref (Ma 7), .int sv_173, .ref (Ma 8), .int (Mv 10), .ref (Ma 9), .ref (Ma 10), .int (Mv 11), .int (Mv 12), .int (Mv 13), .ref (Ma 11), .int (Mv 14), .ref (Ma 12), .ref (Ma 13), .ref (Ma 14), .ref (Ma 15), .ref (Ma 16), .long (Mj 0), .ref (Ma 17), .ref (Ma 18), .ref (Ma 19), .ref (Ma 20)])), ((Ma 1), .inl (tc 2, 400, .inl (Mf 1)))]) ⟨hx, hb, hml, hown, hts⟩ hK hX hA (ct_X12_strength l D tc sk 13) k_1345 k_1343 k_1344 k_106 pl_X12_strength ⟨Nat.le_of_ble_eq_true rfl, Nat.le_of_ble_eq_true rfl⟩ rfl rfl  hP hD hS [] [0, 1, 2, 3, 4] rfl rfl rfl rfl rfl (by decide) rfl hl.1 rfl (Nat.le_of_ble_eq_true rfl) dX12_tested_83 ⟨Nat.le_of_ble_eq_true rfl, Nat.le_of_ble_eq_true rfl⟩ (fun v_420 u_421 H locs hv_422 hP₀ hD₀ hS₀ => ?_)
                obtain ⟨r_423, rfl, he_424⟩ := hv_422
                have he_424 : (((13 : Int32).toInt = 13 ∧ r_423.toInt = 1) ∨ ((13 : Int32).toInt = 12 ∧ r_423.toInt = 2) ∨ ((13 : Int32).toInt = 11 ∧ r_423.toInt = 3) ∨ ((13 : Int32).toInt ≠ 13 ∧ (13 : Int32).toInt ≠ 12 ∧ (13 : Int32).toInt ≠ 11 ∧ r_423.toInt = 0)) := he_424
                refine W.eq (g2 := F0 m 86 ls [.int r_423, .ref (Ma 0)]) rfl ?_
                replace hP : va_P D classes [((Ma 2), .inl (tc 0, 2400, .inl sv_174)), ((Ma 3), .inl (tc 0, 7, .inl sv_175)), ((Ma 7), .inl (tc 0, 400, .inl sv_145)), ((Ma 0), .inr (12, [.ref (Ma 1), .int (Mv 0), .int (Mv 1), .ref (Ma 2), .ref (Ma 3), .ref (Ma 4), .ref (Ma 5), .ref (Ma 6), .int sv_416, .int sv_138, .int sv_139, .int (Mv 5), .int sv_140, .int sv_172, .int (Mv 8), .ref (Ma 7), .int sv_173, .ref (Ma 8), .int (Mv 10), .ref (Ma 9), .ref (Ma 10), .int (Mv 11), .int (Mv 12), .int (Mv 13), .ref (Ma 11), .int (Mv 14), .ref (Ma 12), .ref (Ma 13), .ref (Ma 14), .ref (Ma 15), .ref (Ma 16), .long (Mj 0), .ref (Ma 17), .ref (Ma 18), .ref (Ma 19), .ref (Ma 20)])), ((Ma 1), .inl (tc 2, 400, .inl (Mf 1)))] H := hP₀
                replace hD : va_D A [((Ma 2), .inl (tc 0, 2400, .inl sv_174)), ((Ma 3), .inl (tc 0, 7, .inl sv_175)), ((Ma 7), .inl (tc 0, 400, .inl sv_145)), ((Ma 0), .inr (12, [.ref (Ma 1), .int (Mv 0), .int (Mv 1), .ref (Ma 2), .ref (Ma 3), .ref (Ma 4), .ref (Ma 5), .ref (Ma 6), .int sv_416, .int sv_138, .int sv_139, .int (Mv 5), .int sv_140, .int sv_172, .int (Mv 8), .ref (Ma 7), .int sv_173, .ref (Ma 8), .int (Mv 10), .ref (Ma 9), .ref (Ma 10), .int (Mv 11), .int (Mv 12), .int (Mv 13), .ref (Ma 11), .int (Mv 14), .ref (Ma 12), .ref (Ma 13), .ref (Ma 14), .ref (Ma 15), .ref (Ma 16), .long (Mj 0), .ref (Ma 17), .ref (Ma 18), .ref (Ma 19), .ref (Ma 20)])), ((Ma 1), .inl (tc 2, 400, .inl (Mf 1)))] := hD₀
                replace hS := hS₀
                clear hP₀ hD₀ hS₀
                have yy_425 : (13 : Int32).toInt = 13 := by decide
                have ha_426 : 1 ≤ r_423.toInt ∧ r_423.toInt ≤ 3 := by
                  have z_1 : ¬ (vy_20 : Int32).toInt = (0 : Int32).toInt := fun z => c_34 (Int32.toInt_inj.mp z)
                  have z_2 : ¬ (r_149 : Int32).toInt = (0 : Int32).toInt := fun z => c_154 (Int32.toInt_inj.mp z)
                  have z_3 := congrArg Int32.toInt c_205
                  have z_4 : ¬ (r_364 : Int32).toInt = (0 : Int32).toInt := fun z => c_370 (Int32.toInt_inj.mp z)
                  have z_5 := congrArg Int32.toInt c_409
                  have y_0 : (0 : Int32).toInt = 0 := by decide
                  omega
                have ha_427 : (sv_175 (Mv 5).toNatClampNeg).toInt + (sv_173 : Int32).toInt ≤ 400 := by
                  have z_1 : ¬ (vy_20 : Int32).toInt = (0 : Int32).toInt := fun z => c_34 (Int32.toInt_inj.mp z)
                  have z_2 : ¬ (r_149 : Int32).toInt = (0 : Int32).toInt := fun z => c_154 (Int32.toInt_inj.mp z)
                  have z_3 := congrArg Int32.toInt c_205
                  have z_4 : ¬ (r_364 : Int32).toInt = (0 : Int32).toInt := fun z => c_370 (Int32.toInt_inj.mp z)
                  have z_5 := congrArg Int32.toInt c_409
                  have y_0 : (0 : Int32).toInt = 0 := by decide
                  omega
                refine cV (a := (Ma 0)) (As := [.int r_423]) (rest := []) (wr := [((Ma 1), .inl (tc 2, 400, .inl (Mf 1)))]) ⟨hx, hb, hml, hown, hts⟩ hK hX hA (cu_kX12_layDown l D tc sk (Ma 0) (Ma 1) (Ma 2) (Ma 3) (Ma 4) (Ma 5) (Ma 6) (Ma 7) (Ma 8) (Ma 9) (Ma 10) (Ma 11) (Ma 12) (Ma 13) (Ma 14) (Ma 15) (Ma 16) (Ma 17) (Ma 18) (Ma 19) (Ma 20) (Mv 0) (Mv 1) sv_416 sv_138 sv_139 (Mv 5) sv_140 sv_172 (Mv 8) sv_173 (Mv 10) (Mv 11) (Mv 12) (Mv 13) (Mv 14) sv_174 sv_175 sv_145 (Mj 0) r_423 b lq_187 pf_178 ha_426 ha_427 pf_180.1 pf_188 h_tx) k_1342 k_1339 k_1341 k_54 k_106 pl_X12_layDown ⟨Nat.le_of_ble_eq_true rfl, Nat.le_of_ble_eq_true rfl⟩ rfl rfl (va_recv hK hP (ci := 12) (q0 := 3) rfl rfl) hP hD hS [3, 0, 1, 2] [4] rfl rfl rfl rfl rfl (by decide) rfl hl.1 rfl (Nat.le_of_ble_eq_true rfl) dX12_tested_86 ⟨Nat.le_of_ble_eq_true rfl, Nat.le_of_ble_eq_true rfl⟩ (fun v_428 u_429 H locs hv_430 hP₀ hD₀ hS₀ => ?_)
                obtain ⟨sv_431, sv_432, sv_433, sv_434⟩ := u_429
                obtain ⟨rfl, pf_435, pf_436, pf_437, pf_438, pf_439, pf_440, pf_441, pf_442, pf_443⟩ := hv_430
                have pf_435 : LSR sv_145 sv_432 sv_433 sv_434 (Mv 5) b sv_140 := pf_435
                obtain ⟨pn_444, pf_445, pf_446⟩ := id pf_435
                have ar_pf_435 := LSR.ar pf_435
                have ar_pf_446 := Cd.ar pf_446
                have pf_436 : (sv_434 (Mv 5).toNatClampNeg).toInt + (sv_432 : Int32).toInt = (sv_175 (Mv 5).toNatClampNeg).toInt + (sv_173 : Int32).toInt ∧ 0 ≤ (sv_432 : Int32).toInt ∧ (sv_432 : Int32).toInt ≤ (sv_173 : Int32).toInt := pf_436
                have pf_437 : Agr sv_174 sv_433 (400 * ((Mv 5) : Int32).toInt + (sv_175 (Mv 5).toNatClampNeg).toInt) := pf_437
                have pf_438 : LdE sv_145 sv_432 r_423 := pf_438
                have pf_439 : InK sv_145 sv_173 sv_432 := pf_439
                have pf_440 : LdP sv_145 sv_173 sv_432 sv_431 := pf_440
                have ar_pf_440 := OsP.ar pf_440.1
                have pf_441 : T11 sv_145 sv_432 := pf_441
                have pf_442 : LdC sv_145 sv_173 sv_432 sv_433 sv_434 (Mv 5) lq_187 r_423 := pf_442
                have pf_443 : LdS sv_145 sv_432 r_423 := pf_443
                refine W.eq (g2 := F0 m 89 ls []) rfl ?_
                replace hP : va_P D classes [((Ma 1), .inl (tc 2, 400, .inl (Mf 1))), ((Ma 0), .inr (12, [.ref (Ma 1), .int (Mv 0), .int (Mv 1), .ref (Ma 2), .ref (Ma 3), .ref (Ma 4), .ref (Ma 5), .ref (Ma 6), .int sv_416, .int sv_138, .int sv_139, .int (Mv 5), .int sv_140, .int sv_431, .int (Mv 8), .ref (Ma 7), .int sv_432, .ref (Ma 8), .int (Mv 10), .ref (Ma 9), .ref (Ma 10), .int (Mv 11), .int (Mv 12), .int (Mv 13), .ref (Ma 11), .int (Mv 14), .ref (Ma 12), .ref (Ma 13), .ref (Ma 14), .ref (Ma 15), .ref (Ma 16), .long (Mj 0), .ref (Ma 17), .ref (Ma 18), .ref (Ma 19), .ref (Ma 20)])), ((Ma 2), .inl (tc 0, 2400, .inl sv_433)), ((Ma 3), .inl (tc 0, 7, .inl sv_434)), ((Ma 7), .inl (tc 0, 400, .inl sv_145))] H := hP₀
                replace hD : va_D A [((Ma 1), .inl (tc 2, 400, .inl (Mf 1))), ((Ma 0), .inr (12, [.ref (Ma 1), .int (Mv 0), .int (Mv 1), .ref (Ma 2), .ref (Ma 3), .ref (Ma 4), .ref (Ma 5), .ref (Ma 6), .int sv_416, .int sv_138, .int sv_139, .int (Mv 5), .int sv_140, .int sv_431, .int (Mv 8), .ref (Ma 7), .int sv_432, .ref (Ma 8), .int (Mv 10), .ref (Ma 9), .ref (Ma 10), .int (Mv 11), .int (Mv 12), .int (Mv 13), .ref (Ma 11), .int (Mv 14), .ref (Ma 12), .ref (Ma 13), .ref (Ma 14), .ref (Ma 15), .ref (Ma 16), .long (Mj 0), .ref (Ma 17), .ref (Ma 18), .ref (Ma 19), .ref (Ma 20)])), ((Ma 2), .inl (tc 0, 2400, .inl sv_433)), ((Ma 3), .inl (tc 0, 7, .inl sv_434)), ((Ma 7), .inl (tc 0, 400, .inl sv_145))] := hD₀
                replace hS := hS₀
                clear hP₀ hD₀ hS₀
                refine lv_aload_n hx hb dX12_tested_89 rfl (lv_at hl 2 rfl) ?_
                refine gf_X12_29 hx hb hts hown hK hP 1 rfl rfl dX12_tested_90 ?_
                refine lv_aload_n hx hb dX12_tested_93 rfl (lv_at hl 2 rfl) ?_
                refine gf_X12_154 hx hb hts hown hK hP 1 rfl rfl dX12_tested_94 ?_
                refine lv_iload_n hx hb dX12_tested_97 rfl (lv_at hl 0 rfl) ?_
                have hi_447 : vp_in sv_432 400 := by
                  have z_1 : ¬ (vy_20 : Int32).toInt = (0 : Int32).toInt := fun z => c_34 (Int32.toInt_inj.mp z)
                  have z_2 : ¬ (r_149 : Int32).toInt = (0 : Int32).toInt := fun z => c_154 (Int32.toInt_inj.mp z)
                  have z_3 := congrArg Int32.toInt c_205
                  have z_4 : ¬ (r_364 : Int32).toInt = (0 : Int32).toInt := fun z => c_370 (Int32.toInt_inj.mp z)
                  have z_5 := congrArg Int32.toInt c_409
                  have y_0 : (0 : Int32).toInt = 0 := by decide
                  refine vp_in_iff.mpr ⟨?_, ?_⟩ <;> omega
                refine st_int hx hb hK hP hD hS 4 0 rfl rfl hi_447 dX12_tested_98 (fun g_448 H locs eg_448 hP₀ hD₀ hS₀ => ?_)
                replace hP : va_P D classes [((Ma 1), .inl (tc 2, 400, .inl (Mf 1))), ((Ma 0), .inr (12, [.ref (Ma 1), .int (Mv 0), .int (Mv 1), .ref (Ma 2), .ref (Ma 3), .ref (Ma 4), .ref (Ma 5), .ref (Ma 6), .int sv_416, .int sv_138, .int sv_139, .int (Mv 5), .int sv_140, .int sv_431, .int (Mv 8), .ref (Ma 7), .int sv_432, .ref (Ma 8), .int (Mv 10), .ref (Ma 9), .ref (Ma 10), .int (Mv 11), .int (Mv 12), .int (Mv 13), .ref (Ma 11), .int (Mv 14), .ref (Ma 12), .ref (Ma 13), .ref (Ma 14), .ref (Ma 15), .ref (Ma 16), .long (Mj 0), .ref (Ma 17), .ref (Ma 18), .ref (Ma 19), .ref (Ma 20)])), ((Ma 2), .inl (tc 0, 2400, .inl sv_433)), ((Ma 3), .inl (tc 0, 7, .inl sv_434)), ((Ma 7), .inl (tc 0, 400, .inl g_448))] H := hP₀
                replace hD : va_D A [((Ma 1), .inl (tc 2, 400, .inl (Mf 1))), ((Ma 0), .inr (12, [.ref (Ma 1), .int (Mv 0), .int (Mv 1), .ref (Ma 2), .ref (Ma 3), .ref (Ma 4), .ref (Ma 5), .ref (Ma 6), .int sv_416, .int sv_138, .int sv_139, .int (Mv 5), .int sv_140, .int sv_431, .int (Mv 8), .ref (Ma 7), .int sv_432, .ref (Ma 8), .int (Mv 10), .ref (Ma 9), .ref (Ma 10), .int (Mv 11), .int (Mv 12), .int (Mv 13), .ref (Ma 11), .int (Mv 14), .ref (Ma 12), .ref (Ma 13), .ref (Ma 14), .ref (Ma 15), .ref (Ma 16), .long (Mj 0), .ref (Ma 17), .ref (Ma 18), .ref (Ma 19), .ref (Ma 20)])), ((Ma 2), .inl (tc 0, 2400, .inl sv_433)), ((Ma 3), .inl (tc 0, 7, .inl sv_434)), ((Ma 7), .inl (tc 0, 400, .inl g_448))] := hD₀
                replace hS := hS₀
                clear hP₀ hD₀ hS₀
                refine lv_aload_n hx hb dX12_tested_99 rfl (lv_at hl 2 rfl) ?_
                refine lv_dup hx hb dX12_tested_100 rfl ?_
                refine gf_X12_154 hx hb hts hown hK hP 1 rfl rfl dX12_tested_101 ?_
                refine lv_iconst (v := 1) hx hb dX12_tested_104 (by decide) ?_
                refine lv_iadd hx hb dX12_tested_105 ?_
                refine lv_topi (fun x_449 ex_449 => ?_)
                refine pf_X12_154 hx hb hts hown hK hP hD hS 1 rfl (Nat.le_of_ble_eq_true rfl) rfl rfl dX12_tested_106 (fun H locs hP₀ hD₀ hS₀ => ?_)
                replace hP : va_P D classes [((Ma 1), .inl (tc 2, 400, .inl (Mf 1))), ((Ma 0), .inr (12, [.ref (Ma 1), .int (Mv 0), .int (Mv 1), .ref (Ma 2), .ref (Ma 3), .ref (Ma 4), .ref (Ma 5), .ref (Ma 6), .int sv_416, .int sv_138, .int sv_139, .int (Mv 5), .int sv_140, .int sv_431, .int (Mv 8), .ref (Ma 7), .int x_449, .ref (Ma 8), .int (Mv 10), .ref (Ma 9), .ref (Ma 10), .int (Mv 11), .int (Mv 12), .int (Mv 13), .ref (Ma 11), .int (Mv 14), .ref (Ma 12), .ref (Ma 13), .ref (Ma 14), .ref (Ma 15), .ref (Ma 16), .long (Mj 0), .ref (Ma 17), .ref (Ma 18), .ref (Ma 19), .ref (Ma 20)])), ((Ma 2), .inl (tc 0, 2400, .inl sv_433)), ((Ma 3), .inl (tc 0, 7, .inl sv_434)), ((Ma 7), .inl (tc 0, 400, .inl g_448))] H := hP₀
                replace hD : va_D A [((Ma 1), .inl (tc 2, 400, .inl (Mf 1))), ((Ma 0), .inr (12, [.ref (Ma 1), .int (Mv 0), .int (Mv 1), .ref (Ma 2), .ref (Ma 3), .ref (Ma 4), .ref (Ma 5), .ref (Ma 6), .int sv_416, .int sv_138, .int sv_139, .int (Mv 5), .int sv_140, .int sv_431, .int (Mv 8), .ref (Ma 7), .int x_449, .ref (Ma 8), .int (Mv 10), .ref (Ma 9), .ref (Ma 10), .int (Mv 11), .int (Mv 12), .int (Mv 13), .ref (Ma 11), .int (Mv 14), .ref (Ma 12), .ref (Ma 13), .ref (Ma 14), .ref (Ma 15), .ref (Ma 16), .long (Mj 0), .ref (Ma 17), .ref (Ma 18), .ref (Ma 19), .ref (Ma 20)])), ((Ma 2), .inl (tc 0, 2400, .inl sv_433)), ((Ma 3), .inl (tc 0, 7, .inl sv_434)), ((Ma 7), .inl (tc 0, 400, .inl g_448))] := hD₀
                replace hS := hS₀
                clear hP₀ hD₀ hS₀
                have tp_x_449 : (x_449 : Int32).toInt = (sv_432 : Int32).toInt + 1 := by
                  have z_1 : ¬ (vy_20 : Int32).toInt = (0 : Int32).toInt := fun z => c_34 (Int32.toInt_inj.mp z)
                  have z_2 : ¬ (r_149 : Int32).toInt = (0 : Int32).toInt := fun z => c_154 (Int32.toInt_inj.mp z)
                  have z_3 := congrArg Int32.toInt c_205
                  have z_4 : ¬ (r_364 : Int32).toInt = (0 : Int32).toInt := fun z => c_370 (Int32.toInt_inj.mp z)
                  have z_5 := congrArg Int32.toInt c_409
                  have y_0 : (0 : Int32).toInt = 0 := by decide
                  have y_1 : (1 : Int32).toInt = 1 := by decide
                  have t_x_449 : x_449.toInt = (sv_432 : Int32).toInt + (1 : Int32).toInt := by rw [ex_449]; exact add_toInt (by omega) (by omega)
                  omega
                refine lv_goto (tgt := 12) hx hb dX12_tested_109 (by decide) ?_
                have hb_450 : 2 * (401 - (sv_416 : Int32).toInt) + (1 : Int32).toInt < 2 * (401 - (vy_11 : Int32).toInt) + (vy_20 : Int32).toInt ∧ 1 ≤ 2 * (401 - (vy_11 : Int32).toInt) + (vy_20 : Int32).toInt := by
                  have z_1 : ¬ (vy_20 : Int32).toInt = (0 : Int32).toInt := fun z => c_34 (Int32.toInt_inj.mp z)
                  have z_2 : ¬ (r_149 : Int32).toInt = (0 : Int32).toInt := fun z => c_154 (Int32.toInt_inj.mp z)
                  have z_3 := congrArg Int32.toInt c_205
                  have z_4 : ¬ (r_364 : Int32).toInt = (0 : Int32).toInt := fun z => c_370 (Int32.toInt_inj.mp z)
                  have z_5 := congrArg Int32.toInt c_409
                  have y_0 : (0 : Int32).toInt = 0 := by decide
                  have y_1 : (1 : Int32).toInt = 1 := by decide
                  omega
                have ha_451 : 0 ≤ (sv_416 : Int32).toInt ∧ (sv_416 : Int32).toInt ≤ ((Mv 0) : Int32).toInt ∧ ((Mv 0) : Int32).toInt ≤ 400 := by
                  have z_1 : ¬ (vy_20 : Int32).toInt = (0 : Int32).toInt := fun z => c_34 (Int32.toInt_inj.mp z)
                  have z_2 : ¬ (r_149 : Int32).toInt = (0 : Int32).toInt := fun z => c_154 (Int32.toInt_inj.mp z)
                  have z_3 := congrArg Int32.toInt c_205
                  have z_4 : ¬ (r_364 : Int32).toInt = (0 : Int32).toInt := fun z => c_370 (Int32.toInt_inj.mp z)
                  have z_5 := congrArg Int32.toInt c_409
                  have y_0 : (0 : Int32).toInt = 0 := by decide
                  omega
                have ha_452 : (Mv 2).toInt ≤ (sv_416 : Int32).toInt := by
                  have z_1 : ¬ (vy_20 : Int32).toInt = (0 : Int32).toInt := fun z => c_34 (Int32.toInt_inj.mp z)
                  have z_2 : ¬ (r_149 : Int32).toInt = (0 : Int32).toInt := fun z => c_154 (Int32.toInt_inj.mp z)
                  have z_3 := congrArg Int32.toInt c_205
                  have z_4 : ¬ (r_364 : Int32).toInt = (0 : Int32).toInt := fun z => c_370 (Int32.toInt_inj.mp z)
                  have z_5 := congrArg Int32.toInt c_409
                  have y_0 : (0 : Int32).toInt = 0 := by decide
                  omega
                have ha_453 : 0 ≤ (1 : Int32).toInt ∧ (1 : Int32).toInt ≤ 1 := by
                  have z_1 : ¬ (vy_20 : Int32).toInt = (0 : Int32).toInt := fun z => c_34 (Int32.toInt_inj.mp z)
                  have z_2 : ¬ (r_149 : Int32).toInt = (0 : Int32).toInt := fun z => c_154 (Int32.toInt_inj.mp z)
                  have z_3 := congrArg Int32.toInt c_205
                  have z_4 : ¬ (r_364 : Int32).toInt = (0 : Int32).toInt := fun z => c_370 (Int32.toInt_inj.mp z)
                  have z_5 := congrArg Int32.toInt c_409
                  have y_0 : (0 : Int32).toInt = 0 := by decide
                  have y_1 : (1 : Int32).toInt = 1 := by decide
                  omega
                have ha_454 : (Mv 6).toInt ≤ (sv_140 : Int32).toInt ∧ (sv_140 : Int32).toInt ≤ 60 := by
                  have z_1 : ¬ (vy_20 : Int32).toInt = (0 : Int32).toInt := fun z => c_34 (Int32.toInt_inj.mp z)
                  have z_2 : ¬ (r_149 : Int32).toInt = (0 : Int32).toInt := fun z => c_154 (Int32.toInt_inj.mp z)
                  have z_3 := congrArg Int32.toInt c_205
                  have z_4 : ¬ (r_364 : Int32).toInt = (0 : Int32).toInt := fun z => c_370 (Int32.toInt_inj.mp z)
                  have z_5 := congrArg Int32.toInt c_409
                  have y_0 : (0 : Int32).toInt = 0 := by decide
                  omega
                have hi_455 : (x_449 : Int32).toInt = (sv_432 : Int32).toInt + 1 := by
                  have z_1 : ¬ (vy_20 : Int32).toInt = (0 : Int32).toInt := fun z => c_34 (Int32.toInt_inj.mp z)
                  have z_2 : ¬ (r_149 : Int32).toInt = (0 : Int32).toInt := fun z => c_154 (Int32.toInt_inj.mp z)
                  have z_3 := congrArg Int32.toInt c_205
                  have z_4 : ¬ (r_364 : Int32).toInt = (0 : Int32).toInt := fun z => c_370 (Int32.toInt_inj.mp z)
                  have z_5 := congrArg Int32.toInt c_409
                  have y_0 : (0 : Int32).toInt = 0 := by decide
                  have y_1 : (1 : Int32).toInt = 1 := by decide
                  have t_x_449 : x_449.toInt = (sv_432 : Int32).toInt + (1 : Int32).toInt := by rw [ex_449]; exact add_toInt (by omega) (by omega)
                  omega
                have hr_456 : (sv_432 : Int32).toInt < 400 := by
                  have z_1 : ¬ (vy_20 : Int32).toInt = (0 : Int32).toInt := fun z => c_34 (Int32.toInt_inj.mp z)
                  have z_2 : ¬ (r_149 : Int32).toInt = (0 : Int32).toInt := fun z => c_154 (Int32.toInt_inj.mp z)
                  have z_3 := congrArg Int32.toInt c_205
                  have z_4 : ¬ (r_364 : Int32).toInt = (0 : Int32).toInt := fun z => c_370 (Int32.toInt_inj.mp z)
                  have z_5 := congrArg Int32.toInt c_409
                  have y_0 : (0 : Int32).toInt = 0 := by decide
                  omega
                have hr_457 : (13 : Int32).toInt = 12 ∨ (13 : Int32).toInt = 13 := by
                  have z_1 : ¬ (vy_20 : Int32).toInt = (0 : Int32).toInt := fun z => c_34 (Int32.toInt_inj.mp z)
                  have z_2 : ¬ (r_149 : Int32).toInt = (0 : Int32).toInt := fun z => c_154 (Int32.toInt_inj.mp z)
                  have z_3 := congrArg Int32.toInt c_205
                  have z_4 : ¬ (r_364 : Int32).toInt = (0 : Int32).toInt := fun z => c_370 (Int32.toInt_inj.mp z)
                  have z_5 := congrArg Int32.toInt c_409
                  have y_0 : (0 : Int32).toInt = 0 := by decide
                  have y_13 : (13 : Int32).toInt = 13 := by decide
                  omega
                have ha_458 : (sv_434 (Mv 5).toNatClampNeg).toInt + (x_449 : Int32).toInt ≤ (sv_416 : Int32).toInt ∧ ((Mf 3) (Mv 5).toNatClampNeg).toInt ≤ (sv_434 (Mv 5).toNatClampNeg).toInt ∧ 0 ≤ (x_449 : Int32).toInt ∧ (x_449 : Int32).toInt ≤ 400 := by
                  have z_1 : ¬ (vy_20 : Int32).toInt = (0 : Int32).toInt := fun z => c_34 (Int32.toInt_inj.mp z)
                  have z_2 : ¬ (r_149 : Int32).toInt = (0 : Int32).toInt := fun z => c_154 (Int32.toInt_inj.mp z)
                  have z_3 := congrArg Int32.toInt c_205
                  have z_4 : ¬ (r_364 : Int32).toInt = (0 : Int32).toInt := fun z => c_370 (Int32.toInt_inj.mp z)
                  have z_5 := congrArg Int32.toInt c_409
                  have y_0 : (0 : Int32).toInt = 0 := by decide
                  have y_1 : (1 : Int32).toInt = 1 := by decide
                  have t_x_449 : x_449.toInt = (sv_432 : Int32).toInt + (1 : Int32).toInt := by rw [ex_449]; exact add_toInt (by omega) (by omega)
                  omega
                have hr_459 : (400 * ((Mv 5) : Int32).toInt + ((Mf 3) (Mv 5).toNatClampNeg).toInt) ≤ (400 * ((Mv 5) : Int32).toInt + ((Mf 3) (Mv 5).toNatClampNeg).toInt) := by
                  have z_1 : ¬ (vy_20 : Int32).toInt = (0 : Int32).toInt := fun z => c_34 (Int32.toInt_inj.mp z)
                  have z_2 : ¬ (r_149 : Int32).toInt = (0 : Int32).toInt := fun z => c_154 (Int32.toInt_inj.mp z)
                  have z_3 := congrArg Int32.toInt c_205
                  have z_4 : ¬ (r_364 : Int32).toInt = (0 : Int32).toInt := fun z => c_370 (Int32.toInt_inj.mp z)
                  have z_5 := congrArg Int32.toInt c_409
                  have y_0 : (0 : Int32).toInt = 0 := by decide
                  omega
                have hr_460 : (400 * ((Mv 5) : Int32).toInt + ((Mf 3) (Mv 5).toNatClampNeg).toInt) ≤ (400 * ((Mv 5) : Int32).toInt + (vy_18 (Mv 5).toNatClampNeg).toInt) := by
                  have z_1 : ¬ (vy_20 : Int32).toInt = (0 : Int32).toInt := fun z => c_34 (Int32.toInt_inj.mp z)
                  have z_2 : ¬ (r_149 : Int32).toInt = (0 : Int32).toInt := fun z => c_154 (Int32.toInt_inj.mp z)
                  have z_3 := congrArg Int32.toInt c_205
                  have z_4 : ¬ (r_364 : Int32).toInt = (0 : Int32).toInt := fun z => c_370 (Int32.toInt_inj.mp z)
                  have z_5 := congrArg Int32.toInt c_409
                  have y_0 : (0 : Int32).toInt = 0 := by decide
                  omega
                have hr_461 : (400 * ((Mv 5) : Int32).toInt + ((Mf 3) (Mv 5).toNatClampNeg).toInt) ≤ (400 * ((Mv 5) : Int32).toInt + (sv_144 (Mv 5).toNatClampNeg).toInt) := by
                  have z_1 : ¬ (vy_20 : Int32).toInt = (0 : Int32).toInt := fun z => c_34 (Int32.toInt_inj.mp z)
                  have z_2 : ¬ (r_149 : Int32).toInt = (0 : Int32).toInt := fun z => c_154 (Int32.toInt_inj.mp z)
                  have z_3 := congrArg Int32.toInt c_205
                  have z_4 : ¬ (r_364 : Int32).toInt = (0 : Int32).toInt := fun z => c_370 (Int32.toInt_inj.mp z)
                  have z_5 := congrArg Int32.toInt c_409
                  have y_0 : (0 : Int32).toInt = 0 := by decide
                  omega
                have hr_462 : (400 * ((Mv 5) : Int32).toInt + ((Mf 3) (Mv 5).toNatClampNeg).toInt) ≤ (400 * ((Mv 5) : Int32).toInt + (sv_175 (Mv 5).toNatClampNeg).toInt) := by
                  have z_1 : ¬ (vy_20 : Int32).toInt = (0 : Int32).toInt := fun z => c_34 (Int32.toInt_inj.mp z)
                  have z_2 : ¬ (r_149 : Int32).toInt = (0 : Int32).toInt := fun z => c_154 (Int32.toInt_inj.mp z)
                  have z_3 := congrArg Int32.toInt c_205
                  have z_4 : ¬ (r_364 : Int32).toInt = (0 : Int32).toInt := fun z => c_370 (Int32.toInt_inj.mp z)
                  have z_5 := congrArg Int32.toInt c_409
                  have y_0 : (0 : Int32).toInt = 0 := by decide
                  omega
                have hr_463 : (1 : Int32).toInt = 1 := by
                  have z_1 : ¬ (vy_20 : Int32).toInt = (0 : Int32).toInt := fun z => c_34 (Int32.toInt_inj.mp z)
                  have z_2 : ¬ (r_149 : Int32).toInt = (0 : Int32).toInt := fun z => c_154 (Int32.toInt_inj.mp z)
                  have z_3 := congrArg Int32.toInt c_205
                  have z_4 : ¬ (r_364 : Int32).toInt = (0 : Int32).toInt := fun z => c_370 (Int32.toInt_inj.mp z)
                  have z_5 := congrArg Int32.toInt c_409
                  have y_0 : (0 : Int32).toInt = 0 := by decide
                  have y_1 : (1 : Int32).toInt = 1 := by decide
                  omega
                have hw_464 : pz_wd (rB (Mf 1) (Mv 0)) (sv_359 : Int32).toInt.toNat pz_or = true := by
                  have hq := pf_389
                  rw [show (28530 : Int64).toInt = pz_pl pz_or by decide] at hq
                  exact (PkW.wd (by decide) (by decide) (by decide)).mp hq
                have hq_465 : sv_396 = sv_359 := SkR.eq (SkR.trans pf_199 pf_363) pf_400
                have hr_466 : (13 : Int32).toInt = 12 ∨ (13 : Int32).toInt = 13 := by
                  have z_1 : ¬ (vy_20 : Int32).toInt = (0 : Int32).toInt := fun z => c_34 (Int32.toInt_inj.mp z)
                  have z_2 : ¬ (r_149 : Int32).toInt = (0 : Int32).toInt := fun z => c_154 (Int32.toInt_inj.mp z)
                  have z_3 := congrArg Int32.toInt c_205
                  have z_4 : ¬ (r_364 : Int32).toInt = (0 : Int32).toInt := fun z => c_370 (Int32.toInt_inj.mp z)
                  have z_5 := congrArg Int32.toInt c_409
                  have y_0 : (0 : Int32).toInt = 0 := by decide
                  have y_13 : (13 : Int32).toInt = 13 := by decide
                  omega
                have hi_467 : (x_449 : Int32).toInt = (sv_432 : Int32).toInt + 1 := by
                  have z_1 : ¬ (vy_20 : Int32).toInt = (0 : Int32).toInt := fun z => c_34 (Int32.toInt_inj.mp z)
                  have z_2 : ¬ (r_149 : Int32).toInt = (0 : Int32).toInt := fun z => c_154 (Int32.toInt_inj.mp z)
                  have z_3 := congrArg Int32.toInt c_205
                  have z_4 : ¬ (r_364 : Int32).toInt = (0 : Int32).toInt := fun z => c_370 (Int32.toInt_inj.mp z)
                  have z_5 := congrArg Int32.toInt c_409
                  have y_0 : (0 : Int32).toInt = 0 := by decide
                  have y_1 : (1 : Int32).toInt = 1 := by decide
                  have t_x_449 : x_449.toInt = (sv_432 : Int32).toInt + (1 : Int32).toInt := by rw [ex_449]; exact add_toInt (by omega) (by omega)
                  omega
                have hr_468 : (1 : Int32).toInt = 1 := by
                  have z_1 : ¬ (vy_20 : Int32).toInt = (0 : Int32).toInt := fun z => c_34 (Int32.toInt_inj.mp z)
                  have z_2 : ¬ (r_149 : Int32).toInt = (0 : Int32).toInt := fun z => c_154 (Int32.toInt_inj.mp z)
                  have z_3 := congrArg Int32.toInt c_205
                  have z_4 : ¬ (r_364 : Int32).toInt = (0 : Int32).toInt := fun z => c_370 (Int32.toInt_inj.mp z)
                  have z_5 := congrArg Int32.toInt c_409
                  have y_0 : (0 : Int32).toInt = 0 := by decide
                  have y_1 : (1 : Int32).toInt = 1 := by decide
                  omega
                have hw_469 : pz_wd (rB (Mf 1) (Mv 0)) (sv_359 : Int32).toInt.toNat pz_or = true := by
                  have hq := pf_389
                  rw [show (28530 : Int64).toInt = pz_pl pz_or by decide] at hq
                  exact (PkW.wd (by decide) (by decide) (by decide)).mp hq
                have hq_470 : sv_396 = sv_359 := SkR.eq (SkR.trans pf_199 pf_363) pf_400
                have hi_471 : (x_449 : Int32).toInt = (sv_432 : Int32).toInt + 1 := by
                  have z_1 : ¬ (vy_20 : Int32).toInt = (0 : Int32).toInt := fun z => c_34 (Int32.toInt_inj.mp z)
                  have z_2 : ¬ (r_149 : Int32).toInt = (0 : Int32).toInt := fun z => c_154 (Int32.toInt_inj.mp z)
                  have z_3 := congrArg Int32.toInt c_205
                  have z_4 : ¬ (r_364 : Int32).toInt = (0 : Int32).toInt := fun z => c_370 (Int32.toInt_inj.mp z)
                  have z_5 := congrArg Int32.toInt c_409
                  have y_0 : (0 : Int32).toInt = 0 := by decide
                  have y_1 : (1 : Int32).toInt = 1 := by decide
                  have t_x_449 : x_449.toInt = (sv_432 : Int32).toInt + (1 : Int32).toInt := by rw [ex_449]; exact add_toInt (by omega) (by omega)
                  omega
                have hr_472 : 0 ≤ (sv_432 : Int32).toInt := by
                  have z_1 : ¬ (vy_20 : Int32).toInt = (0 : Int32).toInt := fun z => c_34 (Int32.toInt_inj.mp z)
                  have z_2 : ¬ (r_149 : Int32).toInt = (0 : Int32).toInt := fun z => c_154 (Int32.toInt_inj.mp z)
                  have z_3 := congrArg Int32.toInt c_205
                  have z_4 : ¬ (r_364 : Int32).toInt = (0 : Int32).toInt := fun z => c_370 (Int32.toInt_inj.mp z)
                  have z_5 := congrArg Int32.toInt c_409
                  have y_0 : (0 : Int32).toInt = 0 := by decide
                  omega
                have hr_473 : (r_423 : Int32).toInt = 1 := by
                  have z_1 : ¬ (vy_20 : Int32).toInt = (0 : Int32).toInt := fun z => c_34 (Int32.toInt_inj.mp z)
                  have z_2 : ¬ (r_149 : Int32).toInt = (0 : Int32).toInt := fun z => c_154 (Int32.toInt_inj.mp z)
                  have z_3 := congrArg Int32.toInt c_205
                  have z_4 : ¬ (r_364 : Int32).toInt = (0 : Int32).toInt := fun z => c_370 (Int32.toInt_inj.mp z)
                  have z_5 := congrArg Int32.toInt c_409
                  have y_0 : (0 : Int32).toInt = 0 := by decide
                  omega
                have hr_474 : (13 : Int32).toInt = 13 := by
                  have z_1 : ¬ (vy_20 : Int32).toInt = (0 : Int32).toInt := fun z => c_34 (Int32.toInt_inj.mp z)
                  have z_2 : ¬ (r_149 : Int32).toInt = (0 : Int32).toInt := fun z => c_154 (Int32.toInt_inj.mp z)
                  have z_3 := congrArg Int32.toInt c_205
                  have z_4 : ¬ (r_364 : Int32).toInt = (0 : Int32).toInt := fun z => c_370 (Int32.toInt_inj.mp z)
                  have z_5 := congrArg Int32.toInt c_409
                  have y_0 : (0 : Int32).toInt = 0 := by decide
                  have y_13 : (13 : Int32).toInt = 13 := by decide
                  omega
                exact ih_22 sv_416 sv_138 sv_139 sv_140 sv_431 x_449 sv_433 sv_434 g_448 1 _ _ _ (by omega) ha_451 ha_452 ha_453 ha_454 ⟨fun _ => LSR.open2 pf_435 eg_448 hi_455 hr_456 hr_457, fun h => absurd h (by decide)⟩ ha_458 (Agr.trans (k' := (400 * ((Mv 5) : Int32).toInt + ((Mf 3) (Mv 5).toNatClampNeg).toInt)) (Agr.trans (k' := (400 * ((Mv 5) : Int32).toInt + ((Mf 3) (Mv 5).toNatClampNeg).toInt)) (Agr.trans (k' := (400 * ((Mv 5) : Int32).toInt + ((Mf 3) (Mv 5).toNatClampNeg).toInt)) (Agr.mono pf_30 hr_459) pf_148 ⟨Int.le_refl _, hr_460⟩) pf_177 ⟨Int.le_refl _, hr_461⟩) pf_437 ⟨Int.le_refl _, hr_462⟩) (TsL.and (rB_fi h_nx.2.2) pf_180 (SkR.trans (SkR.trans pf_199 pf_363) pf_400) (hq_465.symm ▸ (Or.inr hw_464)) pf_419 pf_440 pf_441 eg_448 hr_466 hi_467 hr_463) (TsC.or (rB_fi h_nx.2.2) pf_189 pf_190 (SkR.trans (SkR.trans pf_199 pf_363) pf_400) (hq_470.symm ▸ hw_469) pf_419 pf_440 pf_442 pf_443 hr_473 pf_441 (OpX.of eg_448 hi_471 hr_472) hr_474 hr_468) (hP.sub [1, 0, 2, 3, 4] rfl) (hD.sub [1, 0, 2, 3, 4] rfl rfl) hS (lv_sub hl [1, 2] rfl)
              · skip
                have hz_477 : (r_401 : Int32).toInt = 1 := by
                  have z_1 : ¬ (vy_20 : Int32).toInt = (0 : Int32).toInt := fun z => c_34 (Int32.toInt_inj.mp z)
                  have z_2 : ¬ (r_149 : Int32).toInt = (0 : Int32).toInt := fun z => c_154 (Int32.toInt_inj.mp z)
                  have z_3 := congrArg Int32.toInt c_205
                  have z_4 : ¬ (r_364 : Int32).toInt = (0 : Int32).toInt := fun z => c_370 (Int32.toInt_inj.mp z)
                  have z_5 : ¬ (r_401 : Int32).toInt = (0 : Int32).toInt := fun z => c_409 (Int32.toInt_inj.mp z)
                  have y_0 : (0 : Int32).toInt = 0 := by decide
                  omega
                obtain ⟨pf_475, pf_476⟩ := hm_404 hz_477
                have pf_475 : Ltr (Mf 1) (Mv 0) sv_396 := pf_475
                have ar_pf_475 := pf_475.1
                have at_pf_475 : 97 ≤ ((Mf 1) (sv_396 : Int32).toInt.toNat).toInt ∧ ((Mf 1) (sv_396 : Int32).toInt.toNat).toInt ≤ 122 := pf_475.2
                have pf_476 : PkW (rB (Mf 1) (Mv 0)) ((sv_396 : Int32).toInt.toNat) (6385252 : Int64).toInt := pf_476
                refine lv_bipush (v := 12) hx hb dX12_tested_69 (by decide) ?_
                refine lv_goto (tgt := 76) hx hb dX12_tested_71 (by decide) ?_
                refine lv_istore_n (lv' := [(2, .int 12), (1, .int 1), (0, .ref (Ma 0))]) hx hb dX12_tested_76 rfl hl (by decide) rfl (fun ls hl₀ => ?_)
                replace hl := hl₀
                clear hl₀
                refine lv_aload_n hx hb dX12_tested_77 rfl (lv_at hl 2 rfl) ?_
                have ha_478 : 0 ≤ (sv_396 : Int32).toInt ∧ (sv_396 : Int32).toInt ≤ ((Mv 0) : Int32).toInt ∧ ((Mv 0) : Int32).toInt ≤ 400 := by
                  have z_1 : ¬ (vy_20 : Int32).toInt = (0 : Int32).toInt := fun z => c_34 (Int32.toInt_inj.mp z)
                  have z_2 : ¬ (r_149 : Int32).toInt = (0 : Int32).toInt := fun z => c_154 (Int32.toInt_inj.mp z)
                  have z_3 := congrArg Int32.toInt c_205
                  have z_4 : ¬ (r_364 : Int32).toInt = (0 : Int32).toInt := fun z => c_370 (Int32.toInt_inj.mp z)
                  have z_5 : ¬ (r_401 : Int32).toInt = (0 : Int32).toInt := fun z => c_409 (Int32.toInt_inj.mp z)
                  have y_0 : (0 : Int32).toInt = 0 := by decide
                  omega
                refine cV (a := (Ma 0)) (As := []) (rest := []) (wr := [((Ma 2), .inl (tc 0, 2400, .inl sv_174)), ((Ma 3), .inl (tc 0, 7, .inl sv_175)), ((Ma 7), .inl (tc 0, 400, .inl sv_145))]) ⟨hx, hb, hml, hown, hts⟩ hK hX hA (cu_fX12_passWord l D tc sk (Ma 0) (Ma 1) (Ma 2) (Ma 3) (Ma 4) (Ma 5) (Ma 6) (Ma 7) (Ma 8) (Ma 9) (Ma 10) (Ma 11) (Ma 12) (Ma 13) (Ma 14) (Ma 15) (Ma 16) (Ma 17) (Ma 18) (Ma 19) (Ma 20) (Mv 0) (Mv 1) sv_396 sv_138 sv_139 (Mv 5) sv_140 sv_172 (Mv 8) sv_173 (Mv 10) (Mv 11) (Mv 12) (Mv 13) (Mv 14) (Mf 1) (Mj 0) ha_478 h_bs) k_1244 k_1241 k_1243 k_34 k_106 pl_X12_passWord ⟨Nat.le_of_ble_eq_true rfl, Nat.le_of_ble_eq_true rfl⟩ rfl rfl (va_recv hK hP (ci := 12) (q0 := 3) rfl rfl) hP hD hS [3, 4] [0, 1, 2] rfl rfl rfl rfl rfl (by decide) rfl hl.1 rfl (Nat.le_of_ble_eq_true rfl) dX12_tested_78 ⟨Nat.le_of_ble_eq_true rfl, Nat.le_of_ble_eq_true rfl⟩ (fun v_479 u_480 H locs hv_481 hP₀ hD₀ hS₀ => ?_)
                obtain ⟨sv_482, rfl⟩ : ∃ z, z = u_480 := ⟨_, rfl⟩
                obtain ⟨rfl, pf_483, pf_484, pf_485⟩ := hv_481
                have pf_483 : (sv_396 : Int32).toInt ≤ (sv_482 : Int32).toInt ∧ (sv_482 : Int32).toInt ≤ ((Mv 0) : Int32).toInt := pf_483
                have pf_484 : Pw (Mf 1) (Mv 0) sv_396 sv_482 := pf_484
                have ar_pf_484 := pf_484 pf_475
                have pf_485 : PsR (rB (Mf 1) (Mv 0)) sv_396 sv_482 := pf_485
                refine W.eq (g2 := F0 m 81 ls []) rfl ?_
                replace hP : va_P D classes [((Ma 2), .inl (tc 0, 2400, .inl sv_174)), ((Ma 3), .inl (tc 0, 7, .inl sv_175)), ((Ma 7), .inl (tc 0, 400, .inl sv_145)), ((Ma 0), .inr (12, [.ref (Ma 1), .int (Mv 0), .int (Mv 1), .ref (Ma 2), .ref (Ma 3), .ref (Ma 4), .ref (Ma 5), .ref (Ma 6), .int sv_482, .int sv_138, .int sv_139, .int (Mv 5), .int sv_140, .int sv_172, .int (Mv 8), .ref (Ma 7), .int sv_173, .ref (Ma 8), .int (Mv 10), .ref (Ma 9), .ref (Ma 10), .int (Mv 11), .int (Mv 12), .int (Mv 13), .ref (Ma 11), .int (Mv 14), .ref (Ma 12), .ref (Ma 13), .ref (Ma 14), .ref (Ma 15), .ref (Ma 16), .long (Mj 0), .ref (Ma 17), .ref (Ma 18), .ref (Ma 19), .ref (Ma 20)])), ((Ma 1), .inl (tc 2, 400, .inl (Mf 1)))] H := hP₀
                replace hD : va_D A [((Ma 2), .inl (tc 0, 2400, .inl sv_174)), ((Ma 3), .inl (tc 0, 7, .inl sv_175)), ((Ma 7), .inl (tc 0, 400, .inl sv_145)), ((Ma 0), .inr (12, [.ref (Ma 1), .int (Mv 0), .int (Mv 1), .ref (Ma 2), .ref (Ma 3), .ref (Ma 4), .ref (Ma 5), .ref (Ma 6), .int sv_482, .int sv_138, .int sv_139, .int (Mv 5), .int sv_140, .int sv_172, .int (Mv 8), .ref (Ma 7), .int sv_173, .ref (Ma 8), .int (Mv 10), .ref (Ma 9), .ref (Ma 10), .int (Mv 11), .int (Mv 12), .int (Mv 13), .ref (Ma 11), .int (Mv 14), .ref (Ma 12), .ref (Ma 13), .ref (Ma 14), .ref (Ma 15), .ref (Ma 16), .long (Mj 0), .ref (Ma 17), .ref (Ma 18), .ref (Ma 19), .ref (Ma 20)])), ((Ma 1), .inl (tc 2, 400, .inl (Mf 1)))] := hD₀
                replace hS := hS₀
                clear hP₀ hD₀ hS₀
                refine lv_aload_n hx hb dX12_tested_81 rfl (lv_at hl 2 rfl) ?_
                refine lv_iload_n hx hb dX12_tested_82 rfl (lv_at hl 0 rfl) ?_
                refine cS (As := [.int 12]) (rest := [.ref (Ma 0)]) (wr := [((Ma 2), .inl (tc 0, 2400, .inl sv_174)), ((Ma 3), .inl (tc 0, 7, .inl sv_175)), ((Ma 7), .inl (tc 0, 400, .inl sv_145)), ((Ma 0), .inr (12, [.ref (Ma 1), .int (Mv 0), .int (Mv 1), .ref (Ma 2), .ref (Ma 3), .ref (Ma 4), .ref (Ma 5), .ref (Ma 6), .int sv_482, .int sv_138, .int sv_139, .int (Mv 5), .int sv_140, .int sv_172, .int (Mv 8), .ref (Ma 7), .int sv_173, .ref (Ma 8), .int (Mv 10), .ref (Ma 9), .ref (Ma 10), .int (Mv 11), .int (Mv 12), .int (Mv 13), .ref (Ma 11), .int (Mv 14), .ref (Ma 12), .ref (Ma 13), .ref (Ma 14), .ref (Ma 15), .ref (Ma 16), .long (Mj 0), .ref (Ma 17), .ref (Ma 18), .ref (Ma 19), .ref (Ma 20)])), ((Ma 1), .inl (tc 2, 400, .inl (Mf 1)))]) ⟨hx, hb, hml, hown, hts⟩ hK hX hA (ct_X12_strength l D tc sk 12) k_1345 k_1343 k_1344 k_106 pl_X12_strength ⟨Nat.le_of_ble_eq_true rfl, Nat.le_of_ble_eq_true rfl⟩ rfl rfl  hP hD hS [] [0, 1, 2, 3, 4] rfl rfl rfl rfl rfl (by decide) rfl hl.1 rfl (Nat.le_of_ble_eq_true rfl) dX12_tested_83 ⟨Nat.le_of_ble_eq_true rfl, Nat.le_of_ble_eq_true rfl⟩ (fun v_486 u_487 H locs hv_488 hP₀ hD₀ hS₀ => ?_)
                obtain ⟨r_489, rfl, he_490⟩ := hv_488
                have he_490 : (((12 : Int32).toInt = 13 ∧ r_489.toInt = 1) ∨ ((12 : Int32).toInt = 12 ∧ r_489.toInt = 2) ∨ ((12 : Int32).toInt = 11 ∧ r_489.toInt = 3) ∨ ((12 : Int32).toInt ≠ 13 ∧ (12 : Int32).toInt ≠ 12 ∧ (12 : Int32).toInt ≠ 11 ∧ r_489.toInt = 0)) := he_490
                refine W.eq (g2 := F0 m 86 ls [.int r_489, .ref (Ma 0)]) rfl ?_
                replace hP : va_P D classes [((Ma 2), .inl (tc 0, 2400, .inl sv_174)), ((Ma 3), .inl (tc 0, 7, .inl sv_175)), ((Ma 7), .inl (tc 0, 400, .inl sv_145)), ((Ma 0), .inr (12, [.ref (Ma 1), .int (Mv 0), .int (Mv 1), .ref (Ma 2), .ref (Ma 3), .ref (Ma 4), .ref (Ma 5), .ref (Ma 6), .int sv_482, .int sv_138, .int sv_139, .int (Mv 5), .int sv_140, .int sv_172, .int (Mv 8), .ref (Ma 7), .int sv_173, .ref (Ma 8), .int (Mv 10), .ref (Ma 9), .ref (Ma 10), .int (Mv 11), .int (Mv 12), .int (Mv 13), .ref (Ma 11), .int (Mv 14), .ref (Ma 12), .ref (Ma 13), .ref (Ma 14), .ref (Ma 15), .ref (Ma 16), .long (Mj 0), .ref (Ma 17), .ref (Ma 18), .ref (Ma 19), .ref (Ma 20)])), ((Ma 1), .inl (tc 2, 400, .inl (Mf 1)))] H := hP₀
                replace hD : va_D A [((Ma 2), .inl (tc 0, 2400, .inl sv_174)), ((Ma 3), .inl (tc 0, 7, .inl sv_175)), ((Ma 7), .inl (tc 0, 400, .inl sv_145)), ((Ma 0), .inr (12, [.ref (Ma 1), .int (Mv 0), .int (Mv 1), .ref (Ma 2), .ref (Ma 3), .ref (Ma 4), .ref (Ma 5), .ref (Ma 6), .int sv_482, .int sv_138, .int sv_139, .int (Mv 5), .int sv_140, .int sv_172, .int (Mv 8), .ref (Ma 7), .int sv_173, .ref (Ma 8), .int (Mv 10), .ref (Ma 9), .ref (Ma 10), .int (Mv 11), .int (Mv 12), .int (Mv 13), .ref (Ma 11), .int (Mv 14), .ref (Ma 12), .ref (Ma 13), .ref (Ma 14), .ref (Ma 15), .ref (Ma 16), .long (Mj 0), .ref (Ma 17), .ref (Ma 18), .ref (Ma 19), .ref (Ma 20)])), ((Ma 1), .inl (tc 2, 400, .inl (Mf 1)))] := hD₀
                replace hS := hS₀
                clear hP₀ hD₀ hS₀
                have yy_491 : (12 : Int32).toInt = 12 := by decide
                have ha_492 : 1 ≤ r_489.toInt ∧ r_489.toInt ≤ 3 := by
                  have z_1 : ¬ (vy_20 : Int32).toInt = (0 : Int32).toInt := fun z => c_34 (Int32.toInt_inj.mp z)
                  have z_2 : ¬ (r_149 : Int32).toInt = (0 : Int32).toInt := fun z => c_154 (Int32.toInt_inj.mp z)
                  have z_3 := congrArg Int32.toInt c_205
                  have z_4 : ¬ (r_364 : Int32).toInt = (0 : Int32).toInt := fun z => c_370 (Int32.toInt_inj.mp z)
                  have z_5 : ¬ (r_401 : Int32).toInt = (0 : Int32).toInt := fun z => c_409 (Int32.toInt_inj.mp z)
                  have y_0 : (0 : Int32).toInt = 0 := by decide
                  omega
                have ha_493 : (sv_175 (Mv 5).toNatClampNeg).toInt + (sv_173 : Int32).toInt ≤ 400 := by
                  have z_1 : ¬ (vy_20 : Int32).toInt = (0 : Int32).toInt := fun z => c_34 (Int32.toInt_inj.mp z)
                  have z_2 : ¬ (r_149 : Int32).toInt = (0 : Int32).toInt := fun z => c_154 (Int32.toInt_inj.mp z)
                  have z_3 := congrArg Int32.toInt c_205
                  have z_4 : ¬ (r_364 : Int32).toInt = (0 : Int32).toInt := fun z => c_370 (Int32.toInt_inj.mp z)
                  have z_5 : ¬ (r_401 : Int32).toInt = (0 : Int32).toInt := fun z => c_409 (Int32.toInt_inj.mp z)
                  have y_0 : (0 : Int32).toInt = 0 := by decide
                  omega
                refine cV (a := (Ma 0)) (As := [.int r_489]) (rest := []) (wr := [((Ma 1), .inl (tc 2, 400, .inl (Mf 1)))]) ⟨hx, hb, hml, hown, hts⟩ hK hX hA (cu_kX12_layDown l D tc sk (Ma 0) (Ma 1) (Ma 2) (Ma 3) (Ma 4) (Ma 5) (Ma 6) (Ma 7) (Ma 8) (Ma 9) (Ma 10) (Ma 11) (Ma 12) (Ma 13) (Ma 14) (Ma 15) (Ma 16) (Ma 17) (Ma 18) (Ma 19) (Ma 20) (Mv 0) (Mv 1) sv_482 sv_138 sv_139 (Mv 5) sv_140 sv_172 (Mv 8) sv_173 (Mv 10) (Mv 11) (Mv 12) (Mv 13) (Mv 14) sv_174 sv_175 sv_145 (Mj 0) r_489 b lq_187 pf_178 ha_492 ha_493 pf_180.1 pf_188 h_tx) k_1342 k_1339 k_1341 k_54 k_106 pl_X12_layDown ⟨Nat.le_of_ble_eq_true rfl, Nat.le_of_ble_eq_true rfl⟩ rfl rfl (va_recv hK hP (ci := 12) (q0 := 3) rfl rfl) hP hD hS [3, 0, 1, 2] [4] rfl rfl rfl rfl rfl (by decide) rfl hl.1 rfl (Nat.le_of_ble_eq_true rfl) dX12_tested_86 ⟨Nat.le_of_ble_eq_true rfl, Nat.le_of_ble_eq_true rfl⟩ (fun v_494 u_495 H locs hv_496 hP₀ hD₀ hS₀ => ?_)
                obtain ⟨sv_497, sv_498, sv_499, sv_500⟩ := u_495
                obtain ⟨rfl, pf_501, pf_502, pf_503, pf_504, pf_505, pf_506, pf_507, pf_508, pf_509⟩ := hv_496
                have pf_501 : LSR sv_145 sv_498 sv_499 sv_500 (Mv 5) b sv_140 := pf_501
                obtain ⟨pn_510, pf_511, pf_512⟩ := id pf_501
                have ar_pf_501 := LSR.ar pf_501
                have ar_pf_512 := Cd.ar pf_512
                have pf_502 : (sv_500 (Mv 5).toNatClampNeg).toInt + (sv_498 : Int32).toInt = (sv_175 (Mv 5).toNatClampNeg).toInt + (sv_173 : Int32).toInt ∧ 0 ≤ (sv_498 : Int32).toInt ∧ (sv_498 : Int32).toInt ≤ (sv_173 : Int32).toInt := pf_502
                have pf_503 : Agr sv_174 sv_499 (400 * ((Mv 5) : Int32).toInt + (sv_175 (Mv 5).toNatClampNeg).toInt) := pf_503
                have pf_504 : LdE sv_145 sv_498 r_489 := pf_504
                have pf_505 : InK sv_145 sv_173 sv_498 := pf_505
                have pf_506 : LdP sv_145 sv_173 sv_498 sv_497 := pf_506
                have ar_pf_506 := OsP.ar pf_506.1
                have pf_507 : T11 sv_145 sv_498 := pf_507
                have pf_508 : LdC sv_145 sv_173 sv_498 sv_499 sv_500 (Mv 5) lq_187 r_489 := pf_508
                have pf_509 : LdS sv_145 sv_498 r_489 := pf_509
                refine W.eq (g2 := F0 m 89 ls []) rfl ?_
                replace hP : va_P D classes [((Ma 1), .inl (tc 2, 400, .inl (Mf 1))), ((Ma 0), .inr (12, [.ref (Ma 1), .int (Mv 0), .int (Mv 1), .ref (Ma 2), .ref (Ma 3), .ref (Ma 4), .ref (Ma 5), .ref (Ma 6), .int sv_482, .int sv_138, .int sv_139, .int (Mv 5), .int sv_140, .int sv_497, .int (Mv 8), .ref (Ma 7), .int sv_498, .ref (Ma 8), .int (Mv 10), .ref (Ma 9), .ref (Ma 10), .int (Mv 11), .int (Mv 12), .int (Mv 13), .ref (Ma 11), .int (Mv 14), .ref (Ma 12), .ref (Ma 13), .ref (Ma 14), .ref (Ma 15), .ref (Ma 16), .long (Mj 0), .ref (Ma 17), .ref (Ma 18), .ref (Ma 19), .ref (Ma 20)])), ((Ma 2), .inl (tc 0, 2400, .inl sv_499)), ((Ma 3), .inl (tc 0, 7, .inl sv_500)), ((Ma 7), .inl (tc 0, 400, .inl sv_145))] H := hP₀
                replace hD : va_D A [((Ma 1), .inl (tc 2, 400, .inl (Mf 1))), ((Ma 0), .inr (12, [.ref (Ma 1), .int (Mv 0), .int (Mv 1), .ref (Ma 2), .ref (Ma 3), .ref (Ma 4), .ref (Ma 5), .ref (Ma 6), .int sv_482, .int sv_138, .int sv_139, .int (Mv 5), .int sv_140, .int sv_497, .int (Mv 8), .ref (Ma 7), .int sv_498, .ref (Ma 8), .int (Mv 10), .ref (Ma 9), .ref (Ma 10), .int (Mv 11), .int (Mv 12), .int (Mv 13), .ref (Ma 11), .int (Mv 14), .ref (Ma 12), .ref (Ma 13), .ref (Ma 14), .ref (Ma 15), .ref (Ma 16), .long (Mj 0), .ref (Ma 17), .ref (Ma 18), .ref (Ma 19), .ref (Ma 20)])), ((Ma 2), .inl (tc 0, 2400, .inl sv_499)), ((Ma 3), .inl (tc 0, 7, .inl sv_500)), ((Ma 7), .inl (tc 0, 400, .inl sv_145))] := hD₀
                replace hS := hS₀
                clear hP₀ hD₀ hS₀
                refine lv_aload_n hx hb dX12_tested_89 rfl (lv_at hl 2 rfl) ?_
                refine gf_X12_29 hx hb hts hown hK hP 1 rfl rfl dX12_tested_90 ?_
                refine lv_aload_n hx hb dX12_tested_93 rfl (lv_at hl 2 rfl) ?_
                refine gf_X12_154 hx hb hts hown hK hP 1 rfl rfl dX12_tested_94 ?_
                refine lv_iload_n hx hb dX12_tested_97 rfl (lv_at hl 0 rfl) ?_
                have hi_513 : vp_in sv_498 400 := by
                  have z_1 : ¬ (vy_20 : Int32).toInt = (0 : Int32).toInt := fun z => c_34 (Int32.toInt_inj.mp z)
                  have z_2 : ¬ (r_149 : Int32).toInt = (0 : Int32).toInt := fun z => c_154 (Int32.toInt_inj.mp z)
                  have z_3 := congrArg Int32.toInt c_205
                  have z_4 : ¬ (r_364 : Int32).toInt = (0 : Int32).toInt := fun z => c_370 (Int32.toInt_inj.mp z)
                  have z_5 : ¬ (r_401 : Int32).toInt = (0 : Int32).toInt := fun z => c_409 (Int32.toInt_inj.mp z)
                  have y_0 : (0 : Int32).toInt = 0 := by decide
                  refine vp_in_iff.mpr ⟨?_, ?_⟩ <;> omega
                refine st_int hx hb hK hP hD hS 4 0 rfl rfl hi_513 dX12_tested_98 (fun g_514 H locs eg_514 hP₀ hD₀ hS₀ => ?_)
                replace hP : va_P D classes [((Ma 1), .inl (tc 2, 400, .inl (Mf 1))), ((Ma 0), .inr (12, [.ref (Ma 1), .int (Mv 0), .int (Mv 1), .ref (Ma 2), .ref (Ma 3), .ref (Ma 4), .ref (Ma 5), .ref (Ma 6), .int sv_482, .int sv_138, .int sv_139, .int (Mv 5), .int sv_140, .int sv_497, .int (Mv 8), .ref (Ma 7), .int sv_498, .ref (Ma 8), .int (Mv 10), .ref (Ma 9), .ref (Ma 10), .int (Mv 11), .int (Mv 12), .int (Mv 13), .ref (Ma 11), .int (Mv 14), .ref (Ma 12), .ref (Ma 13), .ref (Ma 14), .ref (Ma 15), .ref (Ma 16), .long (Mj 0), .ref (Ma 17), .ref (Ma 18), .ref (Ma 19), .ref (Ma 20)])), ((Ma 2), .inl (tc 0, 2400, .inl sv_499)), ((Ma 3), .inl (tc 0, 7, .inl sv_500)), ((Ma 7), .inl (tc 0, 400, .inl g_514))] H := hP₀
                replace hD : va_D A [((Ma 1), .inl (tc 2, 400, .inl (Mf 1))), ((Ma 0), .inr (12, [.ref (Ma 1), .int (Mv 0), .int (Mv 1), .ref (Ma 2), .ref (Ma 3), .ref (Ma 4), .ref (Ma 5), .ref (Ma 6), .int sv_482, .int sv_138, .int sv_139, .int (Mv 5), .int sv_140, .int sv_497, .int (Mv 8), .ref (Ma 7), .int sv_498, .ref (Ma 8), .int (Mv 10), .ref (Ma 9), .ref (Ma 10), .int (Mv 11), .int (Mv 12), .int (Mv 13), .ref (Ma 11), .int (Mv 14), .ref (Ma 12), .ref (Ma 13), .ref (Ma 14), .ref (Ma 15), .ref (Ma 16), .long (Mj 0), .ref (Ma 17), .ref (Ma 18), .ref (Ma 19), .ref (Ma 20)])), ((Ma 2), .inl (tc 0, 2400, .inl sv_499)), ((Ma 3), .inl (tc 0, 7, .inl sv_500)), ((Ma 7), .inl (tc 0, 400, .inl g_514))] := hD₀
                replace hS := hS₀
                clear hP₀ hD₀ hS₀
                refine lv_aload_n hx hb dX12_tested_99 rfl (lv_at hl 2 rfl) ?_
                refine lv_dup hx hb dX12_tested_100 rfl ?_
                refine gf_X12_154 hx hb hts hown hK hP 1 rfl rfl dX12_tested_101 ?_
                refine lv_iconst (v := 1) hx hb dX12_tested_104 (by decide) ?_
                refine lv_iadd hx hb dX12_tested_105 ?_
                refine lv_topi (fun x_515 ex_515 => ?_)
                refine pf_X12_154 hx hb hts hown hK hP hD hS 1 rfl (Nat.le_of_ble_eq_true rfl) rfl rfl dX12_tested_106 (fun H locs hP₀ hD₀ hS₀ => ?_)
                replace hP : va_P D classes [((Ma 1), .inl (tc 2, 400, .inl (Mf 1))), ((Ma 0), .inr (12, [.ref (Ma 1), .int (Mv 0), .int (Mv 1), .ref (Ma 2), .ref (Ma 3), .ref (Ma 4), .ref (Ma 5), .ref (Ma 6), .int sv_482, .int sv_138, .int sv_139, .int (Mv 5), .int sv_140, .int sv_497, .int (Mv 8), .ref (Ma 7), .int x_515, .ref (Ma 8), .int (Mv 10), .ref (Ma 9), .ref (Ma 10), .int (Mv 11), .int (Mv 12), .int (Mv 13), .ref (Ma 11), .int (Mv 14), .ref (Ma 12), .ref (Ma 13), .ref (Ma 14), .ref (Ma 15), .ref (Ma 16), .long (Mj 0), .ref (Ma 17), .ref (Ma 18), .ref (Ma 19), .ref (Ma 20)])), ((Ma 2), .inl (tc 0, 2400, .inl sv_499)), ((Ma 3), .inl (tc 0, 7, .inl sv_500)), ((Ma 7), .inl (tc 0, 400, .inl g_514))] H := hP₀
                replace hD : va_D A [((Ma 1), .inl (tc 2, 400, .inl (Mf 1))), ((Ma 0), .inr (12, [.ref (Ma 1), .int (Mv 0), .int (Mv 1), .ref (Ma 2), .ref (Ma 3), .ref (Ma 4), .ref (Ma 5), .ref (Ma 6), .int sv_482, .int sv_138, .int sv_139, .int (Mv 5), .int sv_140, .int sv_497, .int (Mv 8), .ref (Ma 7), .int x_515, .ref (Ma 8), .int (Mv 10), .ref (Ma 9), .ref (Ma 10), .int (Mv 11), .int (Mv 12), .int (Mv 13), .ref (Ma 11), .int (Mv 14), .ref (Ma 12), .ref (Ma 13), .ref (Ma 14), .ref (Ma 15), .ref (Ma 16), .long (Mj 0), .ref (Ma 17), .ref (Ma 18), .ref (Ma 19), .ref (Ma 20)])), ((Ma 2), .inl (tc 0, 2400, .inl sv_499)), ((Ma 3), .inl (tc 0, 7, .inl sv_500)), ((Ma 7), .inl (tc 0, 400, .inl g_514))] := hD₀
                replace hS := hS₀
                clear hP₀ hD₀ hS₀
                have tp_x_515 : (x_515 : Int32).toInt = (sv_498 : Int32).toInt + 1 := by
                  have z_1 : ¬ (vy_20 : Int32).toInt = (0 : Int32).toInt := fun z => c_34 (Int32.toInt_inj.mp z)
                  have z_2 : ¬ (r_149 : Int32).toInt = (0 : Int32).toInt := fun z => c_154 (Int32.toInt_inj.mp z)
                  have z_3 := congrArg Int32.toInt c_205
                  have z_4 : ¬ (r_364 : Int32).toInt = (0 : Int32).toInt := fun z => c_370 (Int32.toInt_inj.mp z)
                  have z_5 : ¬ (r_401 : Int32).toInt = (0 : Int32).toInt := fun z => c_409 (Int32.toInt_inj.mp z)
                  have y_0 : (0 : Int32).toInt = 0 := by decide
                  have y_1 : (1 : Int32).toInt = 1 := by decide
                  have t_x_515 : x_515.toInt = (sv_498 : Int32).toInt + (1 : Int32).toInt := by rw [ex_515]; exact add_toInt (by omega) (by omega)
                  omega
                refine lv_goto (tgt := 12) hx hb dX12_tested_109 (by decide) ?_
                have hb_516 : 2 * (401 - (sv_482 : Int32).toInt) + (1 : Int32).toInt < 2 * (401 - (vy_11 : Int32).toInt) + (vy_20 : Int32).toInt ∧ 1 ≤ 2 * (401 - (vy_11 : Int32).toInt) + (vy_20 : Int32).toInt := by
                  have z_1 : ¬ (vy_20 : Int32).toInt = (0 : Int32).toInt := fun z => c_34 (Int32.toInt_inj.mp z)
                  have z_2 : ¬ (r_149 : Int32).toInt = (0 : Int32).toInt := fun z => c_154 (Int32.toInt_inj.mp z)
                  have z_3 := congrArg Int32.toInt c_205
                  have z_4 : ¬ (r_364 : Int32).toInt = (0 : Int32).toInt := fun z => c_370 (Int32.toInt_inj.mp z)
                  have z_5 : ¬ (r_401 : Int32).toInt = (0 : Int32).toInt := fun z => c_409 (Int32.toInt_inj.mp z)
                  have y_0 : (0 : Int32).toInt = 0 := by decide
                  have y_1 : (1 : Int32).toInt = 1 := by decide
                  omega
                have ha_517 : 0 ≤ (sv_482 : Int32).toInt ∧ (sv_482 : Int32).toInt ≤ ((Mv 0) : Int32).toInt ∧ ((Mv 0) : Int32).toInt ≤ 400 := by
                  have z_1 : ¬ (vy_20 : Int32).toInt = (0 : Int32).toInt := fun z => c_34 (Int32.toInt_inj.mp z)
                  have z_2 : ¬ (r_149 : Int32).toInt = (0 : Int32).toInt := fun z => c_154 (Int32.toInt_inj.mp z)
                  have z_3 := congrArg Int32.toInt c_205
                  have z_4 : ¬ (r_364 : Int32).toInt = (0 : Int32).toInt := fun z => c_370 (Int32.toInt_inj.mp z)
                  have z_5 : ¬ (r_401 : Int32).toInt = (0 : Int32).toInt := fun z => c_409 (Int32.toInt_inj.mp z)
                  have y_0 : (0 : Int32).toInt = 0 := by decide
                  omega
                have ha_518 : (Mv 2).toInt ≤ (sv_482 : Int32).toInt := by
                  have z_1 : ¬ (vy_20 : Int32).toInt = (0 : Int32).toInt := fun z => c_34 (Int32.toInt_inj.mp z)
                  have z_2 : ¬ (r_149 : Int32).toInt = (0 : Int32).toInt := fun z => c_154 (Int32.toInt_inj.mp z)
                  have z_3 := congrArg Int32.toInt c_205
                  have z_4 : ¬ (r_364 : Int32).toInt = (0 : Int32).toInt := fun z => c_370 (Int32.toInt_inj.mp z)
                  have z_5 : ¬ (r_401 : Int32).toInt = (0 : Int32).toInt := fun z => c_409 (Int32.toInt_inj.mp z)
                  have y_0 : (0 : Int32).toInt = 0 := by decide
                  omega
                have ha_519 : 0 ≤ (1 : Int32).toInt ∧ (1 : Int32).toInt ≤ 1 := by
                  have z_1 : ¬ (vy_20 : Int32).toInt = (0 : Int32).toInt := fun z => c_34 (Int32.toInt_inj.mp z)
                  have z_2 : ¬ (r_149 : Int32).toInt = (0 : Int32).toInt := fun z => c_154 (Int32.toInt_inj.mp z)
                  have z_3 := congrArg Int32.toInt c_205
                  have z_4 : ¬ (r_364 : Int32).toInt = (0 : Int32).toInt := fun z => c_370 (Int32.toInt_inj.mp z)
                  have z_5 : ¬ (r_401 : Int32).toInt = (0 : Int32).toInt := fun z => c_409 (Int32.toInt_inj.mp z)
                  have y_0 : (0 : Int32).toInt = 0 := by decide
                  have y_1 : (1 : Int32).toInt = 1 := by decide
                  omega
                have ha_520 : (Mv 6).toInt ≤ (sv_140 : Int32).toInt ∧ (sv_140 : Int32).toInt ≤ 60 := by
                  have z_1 : ¬ (vy_20 : Int32).toInt = (0 : Int32).toInt := fun z => c_34 (Int32.toInt_inj.mp z)
                  have z_2 : ¬ (r_149 : Int32).toInt = (0 : Int32).toInt := fun z => c_154 (Int32.toInt_inj.mp z)
                  have z_3 := congrArg Int32.toInt c_205
                  have z_4 : ¬ (r_364 : Int32).toInt = (0 : Int32).toInt := fun z => c_370 (Int32.toInt_inj.mp z)
                  have z_5 : ¬ (r_401 : Int32).toInt = (0 : Int32).toInt := fun z => c_409 (Int32.toInt_inj.mp z)
                  have y_0 : (0 : Int32).toInt = 0 := by decide
                  omega
                have hi_521 : (x_515 : Int32).toInt = (sv_498 : Int32).toInt + 1 := by
                  have z_1 : ¬ (vy_20 : Int32).toInt = (0 : Int32).toInt := fun z => c_34 (Int32.toInt_inj.mp z)
                  have z_2 : ¬ (r_149 : Int32).toInt = (0 : Int32).toInt := fun z => c_154 (Int32.toInt_inj.mp z)
                  have z_3 := congrArg Int32.toInt c_205
                  have z_4 : ¬ (r_364 : Int32).toInt = (0 : Int32).toInt := fun z => c_370 (Int32.toInt_inj.mp z)
                  have z_5 : ¬ (r_401 : Int32).toInt = (0 : Int32).toInt := fun z => c_409 (Int32.toInt_inj.mp z)
                  have y_0 : (0 : Int32).toInt = 0 := by decide
                  have y_1 : (1 : Int32).toInt = 1 := by decide
                  have t_x_515 : x_515.toInt = (sv_498 : Int32).toInt + (1 : Int32).toInt := by rw [ex_515]; exact add_toInt (by omega) (by omega)
                  omega
                have hr_522 : (sv_498 : Int32).toInt < 400 := by
                  have z_1 : ¬ (vy_20 : Int32).toInt = (0 : Int32).toInt := fun z => c_34 (Int32.toInt_inj.mp z)
                  have z_2 : ¬ (r_149 : Int32).toInt = (0 : Int32).toInt := fun z => c_154 (Int32.toInt_inj.mp z)
                  have z_3 := congrArg Int32.toInt c_205
                  have z_4 : ¬ (r_364 : Int32).toInt = (0 : Int32).toInt := fun z => c_370 (Int32.toInt_inj.mp z)
                  have z_5 : ¬ (r_401 : Int32).toInt = (0 : Int32).toInt := fun z => c_409 (Int32.toInt_inj.mp z)
                  have y_0 : (0 : Int32).toInt = 0 := by decide
                  omega
                have hr_523 : (12 : Int32).toInt = 12 ∨ (12 : Int32).toInt = 13 := by
                  have z_1 : ¬ (vy_20 : Int32).toInt = (0 : Int32).toInt := fun z => c_34 (Int32.toInt_inj.mp z)
                  have z_2 : ¬ (r_149 : Int32).toInt = (0 : Int32).toInt := fun z => c_154 (Int32.toInt_inj.mp z)
                  have z_3 := congrArg Int32.toInt c_205
                  have z_4 : ¬ (r_364 : Int32).toInt = (0 : Int32).toInt := fun z => c_370 (Int32.toInt_inj.mp z)
                  have z_5 : ¬ (r_401 : Int32).toInt = (0 : Int32).toInt := fun z => c_409 (Int32.toInt_inj.mp z)
                  have y_0 : (0 : Int32).toInt = 0 := by decide
                  have y_12 : (12 : Int32).toInt = 12 := by decide
                  omega
                have ha_524 : (sv_500 (Mv 5).toNatClampNeg).toInt + (x_515 : Int32).toInt ≤ (sv_482 : Int32).toInt ∧ ((Mf 3) (Mv 5).toNatClampNeg).toInt ≤ (sv_500 (Mv 5).toNatClampNeg).toInt ∧ 0 ≤ (x_515 : Int32).toInt ∧ (x_515 : Int32).toInt ≤ 400 := by
                  have z_1 : ¬ (vy_20 : Int32).toInt = (0 : Int32).toInt := fun z => c_34 (Int32.toInt_inj.mp z)
                  have z_2 : ¬ (r_149 : Int32).toInt = (0 : Int32).toInt := fun z => c_154 (Int32.toInt_inj.mp z)
                  have z_3 := congrArg Int32.toInt c_205
                  have z_4 : ¬ (r_364 : Int32).toInt = (0 : Int32).toInt := fun z => c_370 (Int32.toInt_inj.mp z)
                  have z_5 : ¬ (r_401 : Int32).toInt = (0 : Int32).toInt := fun z => c_409 (Int32.toInt_inj.mp z)
                  have y_0 : (0 : Int32).toInt = 0 := by decide
                  have y_1 : (1 : Int32).toInt = 1 := by decide
                  have t_x_515 : x_515.toInt = (sv_498 : Int32).toInt + (1 : Int32).toInt := by rw [ex_515]; exact add_toInt (by omega) (by omega)
                  omega
                have hr_525 : (400 * ((Mv 5) : Int32).toInt + ((Mf 3) (Mv 5).toNatClampNeg).toInt) ≤ (400 * ((Mv 5) : Int32).toInt + ((Mf 3) (Mv 5).toNatClampNeg).toInt) := by
                  have z_1 : ¬ (vy_20 : Int32).toInt = (0 : Int32).toInt := fun z => c_34 (Int32.toInt_inj.mp z)
                  have z_2 : ¬ (r_149 : Int32).toInt = (0 : Int32).toInt := fun z => c_154 (Int32.toInt_inj.mp z)
                  have z_3 := congrArg Int32.toInt c_205
                  have z_4 : ¬ (r_364 : Int32).toInt = (0 : Int32).toInt := fun z => c_370 (Int32.toInt_inj.mp z)
                  have z_5 : ¬ (r_401 : Int32).toInt = (0 : Int32).toInt := fun z => c_409 (Int32.toInt_inj.mp z)
                  have y_0 : (0 : Int32).toInt = 0 := by decide
                  omega
                have hr_526 : (400 * ((Mv 5) : Int32).toInt + ((Mf 3) (Mv 5).toNatClampNeg).toInt) ≤ (400 * ((Mv 5) : Int32).toInt + (vy_18 (Mv 5).toNatClampNeg).toInt) := by
                  have z_1 : ¬ (vy_20 : Int32).toInt = (0 : Int32).toInt := fun z => c_34 (Int32.toInt_inj.mp z)
                  have z_2 : ¬ (r_149 : Int32).toInt = (0 : Int32).toInt := fun z => c_154 (Int32.toInt_inj.mp z)
                  have z_3 := congrArg Int32.toInt c_205
                  have z_4 : ¬ (r_364 : Int32).toInt = (0 : Int32).toInt := fun z => c_370 (Int32.toInt_inj.mp z)
                  have z_5 : ¬ (r_401 : Int32).toInt = (0 : Int32).toInt := fun z => c_409 (Int32.toInt_inj.mp z)
                  have y_0 : (0 : Int32).toInt = 0 := by decide
                  omega
                have hr_527 : (400 * ((Mv 5) : Int32).toInt + ((Mf 3) (Mv 5).toNatClampNeg).toInt) ≤ (400 * ((Mv 5) : Int32).toInt + (sv_144 (Mv 5).toNatClampNeg).toInt) := by
                  have z_1 : ¬ (vy_20 : Int32).toInt = (0 : Int32).toInt := fun z => c_34 (Int32.toInt_inj.mp z)
                  have z_2 : ¬ (r_149 : Int32).toInt = (0 : Int32).toInt := fun z => c_154 (Int32.toInt_inj.mp z)
                  have z_3 := congrArg Int32.toInt c_205
                  have z_4 : ¬ (r_364 : Int32).toInt = (0 : Int32).toInt := fun z => c_370 (Int32.toInt_inj.mp z)
                  have z_5 : ¬ (r_401 : Int32).toInt = (0 : Int32).toInt := fun z => c_409 (Int32.toInt_inj.mp z)
                  have y_0 : (0 : Int32).toInt = 0 := by decide
                  omega
                have hr_528 : (400 * ((Mv 5) : Int32).toInt + ((Mf 3) (Mv 5).toNatClampNeg).toInt) ≤ (400 * ((Mv 5) : Int32).toInt + (sv_175 (Mv 5).toNatClampNeg).toInt) := by
                  have z_1 : ¬ (vy_20 : Int32).toInt = (0 : Int32).toInt := fun z => c_34 (Int32.toInt_inj.mp z)
                  have z_2 : ¬ (r_149 : Int32).toInt = (0 : Int32).toInt := fun z => c_154 (Int32.toInt_inj.mp z)
                  have z_3 := congrArg Int32.toInt c_205
                  have z_4 : ¬ (r_364 : Int32).toInt = (0 : Int32).toInt := fun z => c_370 (Int32.toInt_inj.mp z)
                  have z_5 : ¬ (r_401 : Int32).toInt = (0 : Int32).toInt := fun z => c_409 (Int32.toInt_inj.mp z)
                  have y_0 : (0 : Int32).toInt = 0 := by decide
                  omega
                have hr_529 : (1 : Int32).toInt = 1 := by
                  have z_1 : ¬ (vy_20 : Int32).toInt = (0 : Int32).toInt := fun z => c_34 (Int32.toInt_inj.mp z)
                  have z_2 : ¬ (r_149 : Int32).toInt = (0 : Int32).toInt := fun z => c_154 (Int32.toInt_inj.mp z)
                  have z_3 := congrArg Int32.toInt c_205
                  have z_4 : ¬ (r_364 : Int32).toInt = (0 : Int32).toInt := fun z => c_370 (Int32.toInt_inj.mp z)
                  have z_5 : ¬ (r_401 : Int32).toInt = (0 : Int32).toInt := fun z => c_409 (Int32.toInt_inj.mp z)
                  have y_0 : (0 : Int32).toInt = 0 := by decide
                  have y_1 : (1 : Int32).toInt = 1 := by decide
                  omega
                have hw_530 : pz_wd (rB (Mf 1) (Mv 0)) (sv_396 : Int32).toInt.toNat pz_and = true := by
                  have hq := pf_476
                  rw [show (6385252 : Int64).toInt = pz_pl pz_and by decide] at hq
                  exact (PkW.wd (by decide) (by decide) (by decide)).mp hq
                have hr_531 : (12 : Int32).toInt = 12 ∨ (12 : Int32).toInt = 13 := by
                  have z_1 : ¬ (vy_20 : Int32).toInt = (0 : Int32).toInt := fun z => c_34 (Int32.toInt_inj.mp z)
                  have z_2 : ¬ (r_149 : Int32).toInt = (0 : Int32).toInt := fun z => c_154 (Int32.toInt_inj.mp z)
                  have z_3 := congrArg Int32.toInt c_205
                  have z_4 : ¬ (r_364 : Int32).toInt = (0 : Int32).toInt := fun z => c_370 (Int32.toInt_inj.mp z)
                  have z_5 : ¬ (r_401 : Int32).toInt = (0 : Int32).toInt := fun z => c_409 (Int32.toInt_inj.mp z)
                  have y_0 : (0 : Int32).toInt = 0 := by decide
                  have y_12 : (12 : Int32).toInt = 12 := by decide
                  omega
                have hi_532 : (x_515 : Int32).toInt = (sv_498 : Int32).toInt + 1 := by
                  have z_1 : ¬ (vy_20 : Int32).toInt = (0 : Int32).toInt := fun z => c_34 (Int32.toInt_inj.mp z)
                  have z_2 : ¬ (r_149 : Int32).toInt = (0 : Int32).toInt := fun z => c_154 (Int32.toInt_inj.mp z)
                  have z_3 := congrArg Int32.toInt c_205
                  have z_4 : ¬ (r_364 : Int32).toInt = (0 : Int32).toInt := fun z => c_370 (Int32.toInt_inj.mp z)
                  have z_5 : ¬ (r_401 : Int32).toInt = (0 : Int32).toInt := fun z => c_409 (Int32.toInt_inj.mp z)
                  have y_0 : (0 : Int32).toInt = 0 := by decide
                  have y_1 : (1 : Int32).toInt = 1 := by decide
                  have t_x_515 : x_515.toInt = (sv_498 : Int32).toInt + (1 : Int32).toInt := by rw [ex_515]; exact add_toInt (by omega) (by omega)
                  omega
                have hr_533 : (1 : Int32).toInt = 1 := by
                  have z_1 : ¬ (vy_20 : Int32).toInt = (0 : Int32).toInt := fun z => c_34 (Int32.toInt_inj.mp z)
                  have z_2 : ¬ (r_149 : Int32).toInt = (0 : Int32).toInt := fun z => c_154 (Int32.toInt_inj.mp z)
                  have z_3 := congrArg Int32.toInt c_205
                  have z_4 : ¬ (r_364 : Int32).toInt = (0 : Int32).toInt := fun z => c_370 (Int32.toInt_inj.mp z)
                  have z_5 : ¬ (r_401 : Int32).toInt = (0 : Int32).toInt := fun z => c_409 (Int32.toInt_inj.mp z)
                  have y_0 : (0 : Int32).toInt = 0 := by decide
                  have y_1 : (1 : Int32).toInt = 1 := by decide
                  omega
                have hq_535 : sv_396 = sv_195 := SkR.eq pf_199 (SkR.trans pf_363 pf_400)
                have hf_534 : False := by
                  have hn := pf_353
                  have hp := pf_476
                  rw [hq_535] at hp
                  exact hn hp
                exact ih_22 sv_482 sv_138 sv_139 sv_140 sv_497 x_515 sv_499 sv_500 g_514 1 _ _ _ (by omega) ha_517 ha_518 ha_519 ha_520 ⟨fun _ => LSR.open2 pf_501 eg_514 hi_521 hr_522 hr_523, fun h => absurd h (by decide)⟩ ha_524 (Agr.trans (k' := (400 * ((Mv 5) : Int32).toInt + ((Mf 3) (Mv 5).toNatClampNeg).toInt)) (Agr.trans (k' := (400 * ((Mv 5) : Int32).toInt + ((Mf 3) (Mv 5).toNatClampNeg).toInt)) (Agr.trans (k' := (400 * ((Mv 5) : Int32).toInt + ((Mf 3) (Mv 5).toNatClampNeg).toInt)) (Agr.mono pf_30 hr_525) pf_148 ⟨Int.le_refl _, hr_526⟩) pf_177 ⟨Int.le_refl _, hr_527⟩) pf_503 ⟨Int.le_refl _, hr_528⟩) (TsL.and (rB_fi h_nx.2.2) pf_180 (SkR.trans (SkR.trans pf_199 pf_363) pf_400) (Or.inl hw_530) pf_485 pf_506 pf_507 eg_514 hr_531 hi_532 hr_529) (hf_534.elim) (hP.sub [1, 0, 2, 3, 4] rfl) (hD.sub [1, 0, 2, 3, 4] rfl rfl) hS (lv_sub hl [1, 2] rfl)
        · skip
          have hz_537 : (r_149 : Int32).toInt = 0 := by
            have z_1 : ¬ (vy_20 : Int32).toInt = (0 : Int32).toInt := fun z => c_34 (Int32.toInt_inj.mp z)
            have z_2 := congrArg Int32.toInt c_154
            have y_0 : (0 : Int32).toInt = 0 := by decide
            omega
          obtain pf_536 := hm_153 hz_537
          have pf_536 : RfE (pz_tst (rB (Mf 1) (Mv 0)) (pz_fact (rB (Mf 1) (Mv 0)) 10) (St0 (rB (Mf 1) (Mv 0)) (Mv 2) (Mv 6))) sv_138 := pf_536
          refine lv_iconst (v := 0) hx hb dX12_tested_23 (by decide) ?_
          have ha_538 : ((Mv 2) : Int32).toInt ≤ (sv_137 : Int32).toInt ∧ (sv_137 : Int32).toInt ≤ ((Mv 0) : Int32).toInt := by
            have z_1 : ¬ (vy_20 : Int32).toInt = (0 : Int32).toInt := fun z => c_34 (Int32.toInt_inj.mp z)
            have z_2 := congrArg Int32.toInt c_154
            have y_0 : (0 : Int32).toInt = 0 := by decide
            omega
          have ha_539 : ((Mv 6) : Int32).toInt ≤ (sv_140 : Int32).toInt ∧ (sv_140 : Int32).toInt ≤ 60 := by
            have z_1 : ¬ (vy_20 : Int32).toInt = (0 : Int32).toInt := fun z => c_34 (Int32.toInt_inj.mp z)
            have z_2 := congrArg Int32.toInt c_154
            have y_0 : (0 : Int32).toInt = 0 := by decide
            omega
          have hr_540 : (400 * ((Mv 5) : Int32).toInt + ((Mf 3) (Mv 5).toNatClampNeg).toInt) ≤ (400 * ((Mv 5) : Int32).toInt + ((Mf 3) (Mv 5).toNatClampNeg).toInt) := by
            have z_1 : ¬ (vy_20 : Int32).toInt = (0 : Int32).toInt := fun z => c_34 (Int32.toInt_inj.mp z)
            have z_2 := congrArg Int32.toInt c_154
            have y_0 : (0 : Int32).toInt = 0 := by decide
            omega
          have hr_541 : (400 * ((Mv 5) : Int32).toInt + ((Mf 3) (Mv 5).toNatClampNeg).toInt) ≤ (400 * ((Mv 5) : Int32).toInt + (vy_18 (Mv 5).toNatClampNeg).toInt) := by
            have z_1 : ¬ (vy_20 : Int32).toInt = (0 : Int32).toInt := fun z => c_34 (Int32.toInt_inj.mp z)
            have z_2 := congrArg Int32.toInt c_154
            have y_0 : (0 : Int32).toInt = 0 := by decide
            omega
          have hp_542 : (((0 : Int32).toInt = 0 ∧ ¬ (sv_138 : Int32).toInt = 0) ∨ ((0 : Int32).toInt = 1 ∧ ((Mf 3) (Mv 5).toNatClampNeg).toInt ≤ (sv_144 (Mv 5).toNatClampNeg).toInt ∧ (sv_144 (Mv 5).toNatClampNeg).toInt ≤ (sv_137 : Int32).toInt)) := by
            have z_1 : ¬ (vy_20 : Int32).toInt = (0 : Int32).toInt := fun z => c_34 (Int32.toInt_inj.mp z)
            have z_2 := congrArg Int32.toInt c_154
            have y_0 : (0 : Int32).toInt = 0 := by decide
            omega
          have hm_543 : (0 : Int32).toInt = 0 → (RfE (pz_tst (rB (Mf 1) (Mv 0)) (pz_fact (rB (Mf 1) (Mv 0)) 10) (St0 (rB (Mf 1) (Mv 0)) (Mv 2) (Mv 6))) sv_138) := by
            intro h1r
            exact pf_536
          exact retI (v := 0) hx hb hr hlk (rfl) hP hD hS (sv_137, sv_138, sv_139, sv_140, sv_141, sv_142, sv_143, sv_144, sv_145) ⟨_, rfl, hp_542, ha_538, ha_539, (Agr.trans (k' := (400 * ((Mv 5) : Int32).toInt + ((Mf 3) (Mv 5).toNatClampNeg).toInt)) (Agr.mono pf_30 hr_540) pf_148 ⟨Int.le_refl _, hr_541⟩), (fun h => absurd h (by decide)), hm_543⟩ [0, 1, 2, 3, 4] rfl rfl dX12_tested_24 (Nat.le_of_ble_eq_true rfl) (Nat.le_of_ble_eq_true rfl) rfl
  have ha_544 : (Mv 2).toInt ≤ ((Mv 2) : Int32).toInt := by
    omega
  have ha_545 : 0 ≤ (1 : Int32).toInt ∧ (1 : Int32).toInt ≤ 1 := by
    have y_1 : (1 : Int32).toInt = 1 := by decide
    omega
  have ha_546 : (Mv 6).toInt ≤ ((Mv 6) : Int32).toInt ∧ ((Mv 6) : Int32).toInt ≤ 60 := by
    omega
  have ha_547 : ((Mf 3) (Mv 5).toNatClampNeg).toInt + (0 : Int32).toInt ≤ ((Mv 2) : Int32).toInt ∧ ((Mf 3) (Mv 5).toNatClampNeg).toInt ≤ ((Mf 3) (Mv 5).toNatClampNeg).toInt ∧ 0 ≤ (0 : Int32).toInt ∧ (0 : Int32).toInt ≤ 400 := by
    have y_0 : (0 : Int32).toInt = 0 := by decide
    omega
  have hr_548 : (1 : Int32).toInt = 1 := by
    have y_1 : (1 : Int32).toInt = 1 := by decide
    omega
  have hr_549 : (0 : Int32).toInt = 0 := by
    have y_0 : (0 : Int32).toInt = 0 := by decide
    omega
  have hr_550 : (0 : Int32).toInt = 0 := by
    have y_0 : (0 : Int32).toInt = 0 := by decide
    omega
  have hr_551 : (1 : Int32).toInt = 1 := by
    have y_1 : (1 : Int32).toInt = 1 := by decide
    omega
  have hr_552 : (0 : Int32).toInt = 0 := by
    have y_0 : (0 : Int32).toInt = 0 := by decide
    omega
  have hr_553 : (0 : Int32).toInt = 0 := by
    have y_0 : (0 : Int32).toInt = 0 := by decide
    omega
  exact loop_23 _ (Mv 2) (Mv 3) (Mv 4) (Mv 6) 0 0 (Mf 2) (Mf 3) (Mf 7) 1 _ _ _ (Nat.lt_succ_self _) h_nx ha_544 ha_545 ha_546 ⟨fun _ => ⟨0, OpS.nil (by decide), h_cd⟩, fun h => absurd h (by decide)⟩ ha_547 (Agr.rf) (TsL.first hr_549 hr_550 h_w hr_548) (TsC.first h_sg hr_552 hr_553 hr_551) hP hD hS hl
set_option maxRecDepth 100000 in
theorem cu_kX12_tested (l : Launch) (D : va_G) (tc : Nat → ClassId) (sk : (Nat → Nat) × (Nat → Nat)) (Ma_0 : Nat) (Ma_1 : Nat) (Ma_2 : Nat) (Ma_3 : Nat) (Ma_4 : Nat) (Ma_5 : Nat) (Ma_6 : Nat) (Ma_7 : Nat) (Ma_8 : Nat) (Ma_9 : Nat) (Ma_10 : Nat) (Ma_11 : Nat) (Ma_12 : Nat) (Ma_13 : Nat) (Ma_14 : Nat) (Ma_15 : Nat) (Ma_16 : Nat) (Ma_17 : Nat) (Ma_18 : Nat) (Ma_19 : Nat) (Ma_20 : Nat) (Mv_0 : Int32) (Mv_1 : Int32) (Mv_2 : Int32) (Mv_3 : Int32) (Mv_4 : Int32) (Mv_5 : Int32) (Mv_6 : Int32) (Mv_7 : Int32) (Mv_8 : Int32) (Mv_9 : Int32) (Mv_10 : Int32) (Mv_11 : Int32) (Mv_12 : Int32) (Mv_13 : Int32) (Mv_14 : Int32) (Mf_1 : Nat → Int32) (Mf_2 : Nat → Int32) (Mf_3 : Nat → Int32) (Mf_7 : Nat → Int32) (Mj_0 : Int64) (b : Int32) (ll : List Int) (h_nx : 0 ≤ (Mv_2 : Int32).toInt ∧ (Mv_2 : Int32).toInt ≤ (Mv_0 : Int32).toInt ∧ (Mv_0 : Int32).toInt ≤ 400) (h_cd : Cd Mf_2 Mf_3 Mv_5 b Mv_6 0) (h_L : (Mf_3 Mv_5.toNatClampNeg).toInt ≤ (Mv_2 : Int32).toInt) (h_md : 0 ≤ (Mv_6 : Int32).toInt ∧ (Mv_6 : Int32).toInt ≤ 60) (h_bs : ByS Mf_1) (h_w : (Mv_3 : Int32).toInt = 0) (h_sg : SgC Mf_2 Mf_3 Mv_5 ll) (h_tx : 0 ≤ Mv_5.toInt) : Ct l yX12_tested cX12_tested 3 (some .boolean) { frames := 8, cells := 0, slots := 0, locals := 176 } D tc sk [.ref Ma_0] [(Ma_0, .inr (12, [.ref Ma_1, .int Mv_0, .int Mv_1, .ref Ma_2, .ref Ma_3, .ref Ma_4, .ref Ma_5, .ref Ma_6, .int Mv_2, .int Mv_3, .int Mv_4, .int Mv_5, .int Mv_6, .int Mv_7, .int Mv_8, .ref Ma_7, .int Mv_9, .ref Ma_8, .int Mv_10, .ref Ma_9, .ref Ma_10, .int Mv_11, .int Mv_12, .int Mv_13, .ref Ma_11, .int Mv_14, .ref Ma_12, .ref Ma_13, .ref Ma_14, .ref Ma_15, .ref Ma_16, .long Mj_0, .ref Ma_17, .ref Ma_18, .ref Ma_19, .ref Ma_20])), (Ma_1, .inl (tc 2, 400, .inl Mf_1)), (Ma_2, .inl (tc 0, 2400, .inl Mf_2)), (Ma_3, .inl (tc 0, 7, .inl Mf_3)), (Ma_7, .inl (tc 0, 400, .inl Mf_7))] (fun (v : Option Value) (u : (Int32) × (Int32) × (Int32) × (Int32) × (Int32) × (Int32) × (Nat → Int32) × (Nat → Int32) × (Nat → Int32)) => match u with | (oo0x1, oo0x2, oo0x3, oo0x4, oo0x5, oo0x6, oo0x7, oo0x8, oo0x9) => ∃ r : Int32, v = some (.int r) ∧ (((r.toInt = 0 ∧ ¬ (oo0x2 : Int32).toInt = 0) ∨ (r.toInt = 1 ∧ (Mf_3 Mv_5.toNatClampNeg).toInt ≤ (oo0x8 Mv_5.toNatClampNeg).toInt ∧ (oo0x8 Mv_5.toNatClampNeg).toInt ≤ (oo0x1 : Int32).toInt))) ∧ ((Mv_2 : Int32).toInt ≤ (oo0x1 : Int32).toInt ∧ (oo0x1 : Int32).toInt ≤ (Mv_0 : Int32).toInt) ∧ ((Mv_6 : Int32).toInt ≤ (oo0x4 : Int32).toInt ∧ (oo0x4 : Int32).toInt ≤ 60) ∧ (Agr Mf_2 oo0x7 (400 * (Mv_5 : Int32).toInt + (Mf_3 Mv_5.toNatClampNeg).toInt)) ∧ (r.toInt = 1 → (Cd oo0x7 oo0x8 Mv_5 b oo0x4 1) ∧ (RfO (pz_tst (rB Mf_1 Mv_0) (pz_fact (rB Mf_1 Mv_0) 10) (St0 (rB Mf_1 Mv_0) Mv_2 Mv_6)) (rB Mf_1 Mv_0) oo0x2 oo0x1 oo0x4) ∧ (SgC oo0x7 oo0x8 Mv_5 (ll ++ ltst (rB Mf_1 Mv_0) 10 (St0 (rB Mf_1 Mv_0) Mv_2 Mv_6)))) ∧ (r.toInt = 0 → (RfE (pz_tst (rB Mf_1 Mv_0) (pz_fact (rB Mf_1 Mv_0) 10) (St0 (rB Mf_1 Mv_0) Mv_2 Mv_6)) oo0x2))) (fun (u : (Int32) × (Int32) × (Int32) × (Int32) × (Int32) × (Int32) × (Nat → Int32) × (Nat → Int32) × (Nat → Int32)) => match u with | (oo0x1, oo0x2, oo0x3, oo0x4, oo0x5, oo0x6, oo0x7, oo0x8, oo0x9) => [(Ma_0, .inr (12, [.ref Ma_1, .int Mv_0, .int Mv_1, .ref Ma_2, .ref Ma_3, .ref Ma_4, .ref Ma_5, .ref Ma_6, .int oo0x1, .int oo0x2, .int oo0x3, .int Mv_5, .int oo0x4, .int oo0x5, .int Mv_8, .ref Ma_7, .int oo0x6, .ref Ma_8, .int Mv_10, .ref Ma_9, .ref Ma_10, .int Mv_11, .int Mv_12, .int Mv_13, .ref Ma_11, .int Mv_14, .ref Ma_12, .ref Ma_13, .ref Ma_14, .ref Ma_15, .ref Ma_16, .long Mj_0, .ref Ma_17, .ref Ma_18, .ref Ma_19, .ref Ma_20])), (Ma_1, .inl (tc 2, 400, .inl Mf_1)), (Ma_2, .inl (tc 0, 2400, .inl oo0x7)), (Ma_3, .inl (tc 0, 7, .inl oo0x8)), (Ma_7, .inl (tc 0, 400, .inl oo0x9))]) 0 0 :=
  ct_kX12_tested l D tc sk (fun k => ([Ma_0, Ma_1, Ma_2, Ma_3, Ma_4, Ma_5, Ma_6, Ma_7, Ma_8, Ma_9, Ma_10, Ma_11, Ma_12, Ma_13, Ma_14, Ma_15, Ma_16, Ma_17, Ma_18, Ma_19, Ma_20] : List (Nat)).getD k 0) (fun k => ([Mv_0, Mv_1, Mv_2, Mv_3, Mv_4, Mv_5, Mv_6, Mv_7, Mv_8, Mv_9, Mv_10, Mv_11, Mv_12, Mv_13, Mv_14] : List (Int32)).getD k 0) (fun k => ([(fun _ => 0), Mf_1, Mf_2, Mf_3, (fun _ => 0), (fun _ => 0), (fun _ => 0), Mf_7] : List (Nat → Int32)).getD k (fun _ => 0)) (fun k => ([Mj_0] : List (Int64)).getD k 0) b ll h_nx h_cd h_L h_md h_bs h_w h_sg h_tx
