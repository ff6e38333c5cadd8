set_option maxHeartbeats 4000000 in
set_option maxRecDepth 100000 in
theorem ct_fX12_sum (l : Launch) (D : va_G) (tc : Nat → ClassId) (sk : (Nat → Nat) × (Nat → Nat)) (Ma : Nat → Nat) (Mv : Nat → Int32) (Mf : Nat → Nat → Int32) (Mj : Nat → Int64) (b : Int32) (d : Nat) (h_nx : 0 ≤ ((Mv 2) : Int32).toInt ∧ ((Mv 2) : Int32).toInt ≤ ((Mv 0) : Int32).toInt ∧ ((Mv 0) : Int32).toInt ≤ 400) (h_cd : Cd (Mf 2) (Mf 3) (Mv 5) b (Mv 6) d) (h_L : ((Mf 3) (Mv 5).toNatClampNeg).toInt ≤ ((Mv 2) : Int32).toInt) (h_md : 0 ≤ ((Mv 6) : Int32).toInt ∧ ((Mv 6) : Int32).toInt ≤ 60) (h_bs : ByS (Mf 1)) (h_w : ((Mv 3) : Int32).toInt = 0) : Ct l yX12_sum cX12_sum 2 (some .boolean) { frames := 5, cells := 0, slots := 0, locals := 109 } D tc sk [.ref (Ma 0)] [((Ma 0), .inr (12, [.ref (Ma 1), .int (Mv 0), .int (Mv 1), .ref (Ma 2), .ref (Ma 3), .ref (Ma 4), .ref (Ma 5), .ref (Ma 6), .int (Mv 2), .int (Mv 3), .int (Mv 4), .int (Mv 5), .int (Mv 6), .int (Mv 7), .int (Mv 8), .ref (Ma 7), .int (Mv 9), .ref (Ma 8), .int (Mv 10), .ref (Ma 9), .ref (Ma 10), .int (Mv 11), .int (Mv 12), .int (Mv 13), .ref (Ma 11), .int (Mv 14), .ref (Ma 12), .ref (Ma 13), .ref (Ma 14), .ref (Ma 15), .ref (Ma 16), .long (Mj 0), .ref (Ma 17), .ref (Ma 18), .ref (Ma 19), .ref (Ma 20)])), ((Ma 1), .inl (tc 2, 400, .inl (Mf 1))), ((Ma 2), .inl (tc 0, 2400, .inl (Mf 2))), ((Ma 3), .inl (tc 0, 7, .inl (Mf 3)))] (fun (v : Option Value) (u : (Int32) × (Int32) × (Int32) × (Int32) × (Nat → Int32) × (Nat → Int32)) => match u with | (oo0x1, oo0x2, oo0x3, oo0x4, oo0x5, oo0x6) => ∃ r : Int32, v = some (.int r) ∧ (((r.toInt = 0 ∧ ¬ (oo0x2 : Int32).toInt = 0) ∨ (r.toInt = 1 ∧ ((Mf 3) (Mv 5).toNatClampNeg).toInt + 1 ≤ (oo0x6 (Mv 5).toNatClampNeg).toInt ∧ (oo0x6 (Mv 5).toNatClampNeg).toInt + ((Mv 2) : Int32).toInt ≤ ((Mf 3) (Mv 5).toNatClampNeg).toInt + (oo0x1 : Int32).toInt ∧ ((Mv 2) : Int32).toInt + 1 ≤ (oo0x1 : Int32).toInt))) ∧ (((Mv 2) : Int32).toInt ≤ (oo0x1 : Int32).toInt ∧ (oo0x1 : Int32).toInt ≤ ((Mv 0) : Int32).toInt) ∧ (((Mv 6) : Int32).toInt ≤ (oo0x4 : Int32).toInt ∧ (oo0x4 : Int32).toInt ≤ 60) ∧ (Agr (Mf 2) oo0x5 (400 * ((Mv 5) : Int32).toInt + ((Mf 3) (Mv 5).toNatClampNeg).toInt)) ∧ (r.toInt = 1 → (Cd oo0x5 oo0x6 (Mv 5) b oo0x4 (d + 1)) ∧ (RfO (pz_sum (rB (Mf 1) (Mv 0)) (St0 (rB (Mf 1) (Mv 0)) (Mv 2) (Mv 6))) (rB (Mf 1) (Mv 0)) oo0x2 oo0x1 oo0x4)) ∧ (r.toInt = 0 → (RfE (pz_sum (rB (Mf 1) (Mv 0)) (St0 (rB (Mf 1) (Mv 0)) (Mv 2) (Mv 6))) oo0x2))) (fun (u : (Int32) × (Int32) × (Int32) × (Int32) × (Nat → Int32) × (Nat → Int32)) => match u with | (oo0x1, oo0x2, oo0x3, oo0x4, oo0x5, oo0x6) => [((Ma 0), .inr (12, [.ref (Ma 1), .int (Mv 0), .int (Mv 1), .ref (Ma 2), .ref (Ma 3), .ref (Ma 4), .ref (Ma 5), .ref (Ma 6), .int oo0x1, .int oo0x2, .int oo0x3, .int (Mv 5), .int oo0x4, .int (Mv 7), .int (Mv 8), .ref (Ma 7), .int (Mv 9), .ref (Ma 8), .int (Mv 10), .ref (Ma 9), .ref (Ma 10), .int (Mv 11), .int (Mv 12), .int (Mv 13), .ref (Ma 11), .int (Mv 14), .ref (Ma 12), .ref (Ma 13), .ref (Ma 14), .ref (Ma 15), .ref (Ma 16), .long (Mj 0), .ref (Ma 17), .ref (Ma 18), .ref (Ma 19), .ref (Ma 20)])), ((Ma 1), .inl (tc 2, 400, .inl (Mf 1))), ((Ma 2), .inl (tc 0, 2400, .inl oo0x5)), ((Ma 3), .inl (tc 0, 7, .inl oo0x6))]) 0 0 := by
  refine Ct.start (by decide) (Nat.le_of_ble_eq_true rfl) (fun p e s m below meth c A ls hx hb hr hlk hin hml hown hts hK hX hP hD hA hl hS => ?_)
  have hl : lv_has ls 2 [(0, .ref (Ma 0))] := hl
  have ar_h_cd := Cd.ar h_cd
  refine lv_aload_n hx hb dX12_sum_0 rfl (lv_at hl 0 rfl) ?_
  refine cV (a := (Ma 0)) (As := []) (rest := []) (wr := []) ⟨hx, hb, hml, hown, hts⟩ hK hX hA (cu_fX12_term l D tc sk (Ma 0) (Ma 1) (Ma 2) (Ma 3) (Ma 4) (Ma 5) (Ma 6) (Ma 7) (Ma 8) (Ma 9) (Ma 10) (Ma 11) (Ma 12) (Ma 13) (Ma 14) (Ma 15) (Ma 16) (Ma 17) (Ma 18) (Ma 19) (Ma 20) (Mv 0) (Mv 1) (Mv 2) (Mv 3) (Mv 4) (Mv 5) (Mv 6) (Mv 7) (Mv 8) (Mv 9) (Mv 10) (Mv 11) (Mv 12) (Mv 13) (Mv 14) (Mf 1) (Mf 2) (Mf 3) (Mj 0) b d h_nx h_cd h_L h_md h_bs h_w) k_1283 k_1280 k_1282 k_43 k_106 pl_X12_term ⟨Nat.le_of_ble_eq_true rfl, Nat.le_of_ble_eq_true rfl⟩ rfl rfl (va_recv hK hP (ci := 12) (q0 := 0) rfl rfl) hP hD hS [0, 1, 2, 3] [] rfl rfl rfl rfl rfl (by decide) rfl hl.1 rfl (Nat.le_of_ble_eq_true rfl) dX12_sum_1 ⟨Nat.le_of_ble_eq_true rfl, Nat.le_of_ble_eq_true rfl⟩ (fun v_1 u_2 H locs hv_3 hP₀ hD₀ hS₀ => ?_)
  obtain ⟨sv_4, sv_5, sv_6, sv_7, sv_8, sv_9⟩ := u_2
  obtain ⟨r_13, rfl, he_14, pf_10, pf_11, pf_12, hm_16, hm_17⟩ := hv_3
  have he_14 : ((r_13.toInt = 0 ∧ ¬ (sv_5 : Int32).toInt = 0) ∨ (r_13.toInt = 1 ∧ ((Mf 3) (Mv 5).toNatClampNeg).toInt + 1 ≤ (sv_9 (Mv 5).toNatClampNeg).toInt ∧ (sv_9 (Mv 5).toNatClampNeg).toInt + ((Mv 2) : Int32).toInt ≤ ((Mf 3) (Mv 5).toNatClampNeg).toInt + (sv_4 : Int32).toInt ∧ ((Mv 2) : Int32).toInt + 1 ≤ (sv_4 : Int32).toInt)) := he_14
  have pf_10 : ((Mv 2) : Int32).toInt ≤ (sv_4 : Int32).toInt ∧ (sv_4 : Int32).toInt ≤ ((Mv 0) : Int32).toInt := pf_10
  have pf_11 : ((Mv 6) : Int32).toInt ≤ (sv_7 : Int32).toInt ∧ (sv_7 : Int32).toInt ≤ 60 := pf_11
  have pf_12 : Agr (Mf 2) sv_8 (400 * ((Mv 5) : Int32).toInt + ((Mf 3) (Mv 5).toNatClampNeg).toInt) := pf_12
  refine W.eq (g2 := F0 m 4 ls [.int r_13]) rfl ?_
  replace hP : va_P D classes [((Ma 0), .inr (12, [.ref (Ma 1), .int (Mv 0), .int (Mv 1), .ref (Ma 2), .ref (Ma 3), .ref (Ma 4), .ref (Ma 5), .ref (Ma 6), .int sv_4, .int sv_5, .int sv_6, .int (Mv 5), .int sv_7, .int (Mv 7), .int (Mv 8), .ref (Ma 7), .int (Mv 9), .ref (Ma 8), .int (Mv 10), .ref (Ma 9), .ref (Ma 10), .int (Mv 11), .int (Mv 12), .int (Mv 13), .ref (Ma 11), .int (Mv 14), .ref (Ma 12), .ref (Ma 13), .ref (Ma 14), .ref (Ma 15), .ref (Ma 16), .long (Mj 0), .ref (Ma 17), .ref (Ma 18), .ref (Ma 19), .ref (Ma 20)])), ((Ma 1), .inl (tc 2, 400, .inl (Mf 1))), ((Ma 2), .inl (tc 0, 2400, .inl sv_8)), ((Ma 3), .inl (tc 0, 7, .inl sv_9))] H := hP₀
  replace hD : va_D A [((Ma 0), .inr (12, [.ref (Ma 1), .int (Mv 0), .int (Mv 1), .ref (Ma 2), .ref (Ma 3), .ref (Ma 4), .ref (Ma 5), .ref (Ma 6), .int sv_4, .int sv_5, .int sv_6, .int (Mv 5), .int sv_7, .int (Mv 7), .int (Mv 8), .ref (Ma 7), .int (Mv 9), .ref (Ma 8), .int (Mv 10), .ref (Ma 9), .ref (Ma 10), .int (Mv 11), .int (Mv 12), .int (Mv 13), .ref (Ma 11), .int (Mv 14), .ref (Ma 12), .ref (Ma 13), .ref (Ma 14), .ref (Ma 15), .ref (Ma 16), .long (Mj 0), .ref (Ma 17), .ref (Ma 18), .ref (Ma 19), .ref (Ma 20)])), ((Ma 1), .inl (tc 2, 400, .inl (Mf 1))), ((Ma 2), .inl (tc 0, 2400, .inl sv_8)), ((Ma 3), .inl (tc 0, 7, .inl sv_9))] := hD₀
  replace hS := hS₀
  clear hP₀ hD₀ hS₀
  refine lv_if_ne (tgt := 9) hx hb dX12_sum_4 (by decide) (fun c_18 => ?_) (fun c_18 => ?_)
  · skip
    have hz_21 : (r_13 : Int32).toInt = 1 := by
      have z_1 : ¬ (r_13 : Int32).toInt = (0 : Int32).toInt := fun z => c_18 (Int32.toInt_inj.mp z)
      have y_0 : (0 : Int32).toInt = 0 := by decide
      omega
    obtain ⟨pf_19, pf_20⟩ := hm_16 hz_21
    have pf_19 : Cd sv_8 sv_9 (Mv 5) b sv_7 (d + 1) := pf_19
    have ar_pf_19 := Cd.ar pf_19
    have pf_20 : TmO (pz_sum (rB (Mf 1) (Mv 0)) (St0 (rB (Mf 1) (Mv 0)) (Mv 2) (Mv 6))) (rB (Mf 1) (Mv 0)) sv_5 sv_4 sv_7 := pf_20
    have ar_pf_20 := pf_20.1.1
    have loop_36 : ∀ (n_34 : Nat) (vy_28 : Int32) (vy_29 : Int32) (vy_30 : Int32) (vy_31 : Int32) (vy_32 : Nat → Int32) (vy_33 : Nat → Int32) (H : Heap) (locs : List Loc) (ls : Array Slot), (400 - (vy_28 : Int32).toInt).toNat < n_34 → (0 ≤ (vy_28 : Int32).toInt ∧ (vy_28 : Int32).toInt ≤ ((Mv 0) : Int32).toInt ∧ ((Mv 0) : Int32).toInt ≤ 400) → ((Mv 6).toInt ≤ (vy_31 : Int32).toInt ∧ (vy_31 : Int32).toInt ≤ 60) → (((Mf 3) (Mv 5).toNatClampNeg).toInt + 1 ≤ (vy_33 (Mv 5).toNatClampNeg).toInt ∧ (vy_33 (Mv 5).toNatClampNeg).toInt + ((Mv 2) : Int32).toInt ≤ ((Mf 3) (Mv 5).toNatClampNeg).toInt + (vy_28 : Int32).toInt ∧ ((Mv 2) : Int32).toInt + 1 ≤ (vy_28 : Int32).toInt) → (Agr (Mf 2) vy_32 (400 * ((Mv 5) : Int32).toInt + ((Mf 3) (Mv 5).toNatClampNeg).toInt)) → (Cd vy_32 vy_33 (Mv 5) b vy_31 (d + 1)) → (TmO (pz_sum (rB (Mf 1) (Mv 0)) (St0 (rB (Mf 1) (Mv 0)) (Mv 2) (Mv 6))) (rB (Mf 1) (Mv 0)) vy_29 vy_28 vy_31) → va_P D classes [((Ma 0), .inr (12, [.ref (Ma 1), .int (Mv 0), .int (Mv 1), .ref (Ma 2), .ref (Ma 3), .ref (Ma 4), .ref (Ma 5), .ref (Ma 6), .int vy_28, .int vy_29, .int vy_30, .int (Mv 5), .int vy_31, .int (Mv 7), .int (Mv 8), .ref (Ma 7), .int (Mv 9), .ref (Ma 8), .int (Mv 10), .ref (Ma 9), .ref (Ma 10), .int (Mv 11), .int (Mv 12), .int (Mv 13), .ref (Ma 11), .int (Mv 14), .ref (Ma 12), .ref (Ma 13), .ref (Ma 14), .ref (Ma 15), .ref (Ma 16), .long (Mj 0), .ref (Ma 17), .ref (Ma 18), .ref (Ma 19), .ref (Ma 20)])), ((Ma 1), .inl (tc 2, 400, .inl (Mf 1))), ((Ma 2), .inl (tc 0, 2400, .inl vy_32)), ((Ma 3), .inl (tc 0, 7, .inl vy_33))] H → va_D A [((Ma 0), .inr (12, [.ref (Ma 1), .int (Mv 0), .int (Mv 1), .ref (Ma 2), .ref (Ma 3), .ref (Ma 4), .ref (Ma 5), .ref (Ma 6), .int vy_28, .int vy_29, .int vy_30, .int (Mv 5), .int vy_31, .int (Mv 7), .int (Mv 8), .ref (Ma 7), .int (Mv 9), .ref (Ma 8), .int (Mv 10), .ref (Ma 9), .ref (Ma 10), .int (Mv 11), .int (Mv 12), .int (Mv 13), .ref (Ma 11), .int (Mv 14), .ref (Ma 12), .ref (Ma 13), .ref (Ma 14), .ref (Ma 15), .ref (Ma 16), .long (Mj 0), .ref (Ma 17), .ref (Ma 18), .ref (Ma 19), .ref (Ma 20)])), ((Ma 1), .inl (tc 2, 400, .inl (Mf 1))), ((Ma 2), .inl (tc 0, 2400, .inl vy_32)), ((Ma 3), .inl (tc 0, 7, .inl vy_33))] → va_S A s.heap H locs → lv_has ls 2 [(0, .ref (Ma 0))] → W p l e ({ frames := 5, cells := 0, slots := 0, locals := 109 }) s m ([.ref (Ma 0)].toArray) below meth c H locs 0 0 (MQ below (QW (fun (v : Option Value) (u : (Int32) × (Int32) × (Int32) × (Int32) × (Nat → Int32) × (Nat → Int32)) => match u with | (oo0x1, oo0x2, oo0x3, oo0x4, oo0x5, oo0x6) => ∃ r : Int32, v = some (.int r) ∧ (((r.toInt = 0 ∧ ¬ (oo0x2 : Int32).toInt = 0) ∨ (r.toInt = 1 ∧ ((Mf 3) (Mv 5).toNatClampNeg).toInt + 1 ≤ (oo0x6 (Mv 5).toNatClampNeg).toInt ∧ (oo0x6 (Mv 5).toNatClampNeg).toInt + ((Mv 2) : Int32).toInt ≤ ((Mf 3) (Mv 5).toNatClampNeg).toInt + (oo0x1 : Int32).toInt ∧ ((Mv 2) : Int32).toInt + 1 ≤ (oo0x1 : Int32).toInt))) ∧ (((Mv 2) : Int32).toInt ≤ (oo0x1 : Int32).toInt ∧ (oo0x1 : Int32).toInt ≤ ((Mv 0) : Int32).toInt) ∧ (((Mv 6) : Int32).toInt ≤ (oo0x4 : Int32).toInt ∧ (oo0x4 : Int32).toInt ≤ 60) ∧ (Agr (Mf 2) oo0x5 (400 * ((Mv 5) : Int32).toInt + ((Mf 3) (Mv 5).toNatClampNeg).toInt)) ∧ (r.toInt = 1 → (Cd oo0x5 oo0x6 (Mv 5) b oo0x4 (d + 1)) ∧ (RfO (pz_sum (rB (Mf 1) (Mv 0)) (St0 (rB (Mf 1) (Mv 0)) (Mv 2) (Mv 6))) (rB (Mf 1) (Mv 0)) oo0x2 oo0x1 oo0x4)) ∧ (r.toInt = 0 → (RfE (pz_sum (rB (Mf 1) (Mv 0)) (St0 (rB (Mf 1) (Mv 0)) (Mv 2) (Mv 6))) oo0x2))) (BW D (fun (u : (Int32) × (Int32) × (Int32) × (Int32) × (Nat → Int32) × (Nat → Int32)) => match u with | (oo0x1, oo0x2, oo0x3, oo0x4, oo0x5, oo0x6) => [((Ma 0), .inr (12, [.ref (Ma 1), .int (Mv 0), .int (Mv 1), .ref (Ma 2), .ref (Ma 3), .ref (Ma 4), .ref (Ma 5), .ref (Ma 6), .int oo0x1, .int oo0x2, .int oo0x3, .int (Mv 5), .int oo0x4, .int (Mv 7), .int (Mv 8), .ref (Ma 7), .int (Mv 9), .ref (Ma 8), .int (Mv 10), .ref (Ma 9), .ref (Ma 10), .int (Mv 11), .int (Mv 12), .int (Mv 13), .ref (Ma 11), .int (Mv 14), .ref (Ma 12), .ref (Ma 13), .ref (Ma 14), .ref (Ma 15), .ref (Ma 16), .long (Mj 0), .ref (Ma 17), .ref (Ma 18), .ref (Ma 19), .ref (Ma 20)])), ((Ma 1), .inl (tc 2, 400, .inl (Mf 1))), ((Ma 2), .inl (tc 0, 2400, .inl oo0x5)), ((Ma 3), .inl (tc 0, 7, .inl oo0x6))]) A) A) ([.ref (Ma 0)].toArray) s 0 0 A) (F0 m 9 ls []) := by
      clear hP hD hS hl
      intro n_34
      induction n_34 with
      | zero =>
        intro vy_28 vy_29 vy_30 vy_31 vy_32 vy_33 H locs ls h1
        exact absurd h1 (Nat.not_lt_zero _)
      | succ n_34 ih_35 =>
        intro vy_28 vy_29 vy_30 vy_31 vy_32 vy_33 H locs ls hn_43 pf_37 pf_38 pf_39 pf_40 pf_41 pf_42 hP hD hS hl
        have ar_pf_41 := Cd.ar pf_41
        have ar_pf_42 := pf_42.1.1
        refine lv_aload_n hx hb dX12_sum_9 rfl (lv_at hl 0 rfl) ?_
        refine cV (a := (Ma 0)) (As := []) (rest := []) (wr := [((Ma 2), .inl (tc 0, 2400, .inl vy_32)), ((Ma 3), .inl (tc 0, 7, .inl vy_33))]) ⟨hx, hb, hml, hown, hts⟩ hK hX hA (cu_fX12_see l D tc sk (Ma 0) (Ma 1) (Ma 2) (Ma 3) (Ma 4) (Ma 5) (Ma 6) (Ma 7) (Ma 8) (Ma 9) (Ma 10) (Ma 11) (Ma 12) (Ma 13) (Ma 14) (Ma 15) (Ma 16) (Ma 17) (Ma 18) (Ma 19) (Ma 20) (Mv 0) (Mv 1) vy_28 vy_29 vy_30 (Mv 5) vy_31 (Mv 7) (Mv 8) (Mv 9) (Mv 10) (Mv 11) (Mv 12) (Mv 13) (Mv 14) (Mf 1) (Mj 0) pf_37 h_bs) k_1211 k_1208 k_1210 k_27 k_106 pl_X12_see ⟨Nat.le_of_ble_eq_true rfl, Nat.le_of_ble_eq_true rfl⟩ rfl rfl (va_recv hK hP (ci := 12) (q0 := 0) rfl rfl) hP hD hS [0, 1] [2, 3] rfl rfl rfl rfl rfl (by decide) rfl hl.1 rfl (Nat.le_of_ble_eq_true rfl) dX12_sum_10 ⟨Nat.le_of_ble_eq_true rfl, Nat.le_of_ble_eq_true rfl⟩ (fun v_44 u_45 H locs hv_46 hP₀ hD₀ hS₀ => ?_)
        obtain ⟨sv_47, rfl⟩ : ∃ z, z = u_45 := ⟨_, rfl⟩
        obtain ⟨r_52, rfl, he_53, pf_48, pf_49, pf_50, pf_51⟩ := hv_46
        have he_53 : (r_52.toInt = rB (Mf 1) (Mv 0) (sv_47 : Int32).toInt.toNat ∧ (r_52.toInt = -1 ∨ (sv_47 : Int32).toInt < (Mv 0).toInt)) := he_53
        have pf_48 : (vy_28 : Int32).toInt ≤ (sv_47 : Int32).toInt ∧ (sv_47 : Int32).toInt ≤ ((Mv 0) : Int32).toInt := pf_48
        have pf_49 : NSq (Mf 1) (Mv 0) sv_47 := pf_49
        have pf_50 : Stl (Mf 1) (Mv 0) vy_28 sv_47 := pf_50
        have pf_51 : SkR (rB (Mf 1) (Mv 0)) vy_28 sv_47 := pf_51
        refine W.eq (g2 := F0 m 13 ls [.int r_52]) rfl ?_
        replace hP : va_P D classes [((Ma 2), .inl (tc 0, 2400, .inl vy_32)), ((Ma 3), .inl (tc 0, 7, .inl vy_33)), ((Ma 0), .inr (12, [.ref (Ma 1), .int (Mv 0), .int (Mv 1), .ref (Ma 2), .ref (Ma 3), .ref (Ma 4), .ref (Ma 5), .ref (Ma 6), .int sv_47, .int vy_29, .int vy_30, .int (Mv 5), .int vy_31, .int (Mv 7), .int (Mv 8), .ref (Ma 7), .int (Mv 9), .ref (Ma 8), .int (Mv 10), .ref (Ma 9), .ref (Ma 10), .int (Mv 11), .int (Mv 12), .int (Mv 13), .ref (Ma 11), .int (Mv 14), .ref (Ma 12), .ref (Ma 13), .ref (Ma 14), .ref (Ma 15), .ref (Ma 16), .long (Mj 0), .ref (Ma 17), .ref (Ma 18), .ref (Ma 19), .ref (Ma 20)])), ((Ma 1), .inl (tc 2, 400, .inl (Mf 1)))] H := hP₀
        replace hD : va_D A [((Ma 2), .inl (tc 0, 2400, .inl vy_32)), ((Ma 3), .inl (tc 0, 7, .inl vy_33)), ((Ma 0), .inr (12, [.ref (Ma 1), .int (Mv 0), .int (Mv 1), .ref (Ma 2), .ref (Ma 3), .ref (Ma 4), .ref (Ma 5), .ref (Ma 6), .int sv_47, .int vy_29, .int vy_30, .int (Mv 5), .int vy_31, .int (Mv 7), .int (Mv 8), .ref (Ma 7), .int (Mv 9), .ref (Ma 8), .int (Mv 10), .ref (Ma 9), .ref (Ma 10), .int (Mv 11), .int (Mv 12), .int (Mv 13), .ref (Ma 11), .int (Mv 14), .ref (Ma 12), .ref (Ma 13), .ref (Ma 14), .ref (Ma 15), .ref (Ma 16), .long (Mj 0), .ref (Ma 17), .ref (Ma 18), .ref (Ma 19), .ref (Ma 20)])), ((Ma 1), .inl (tc 2, 400, .inl (Mf 1)))] := hD₀
        replace hS := hS₀
        clear hP₀ hD₀ hS₀
        refine lv_bipush (v := 43) hx hb dX12_sum_13 (by decide) ?_
        refine lv_icmp_eq (tgt := 27) hx hb dX12_sum_15 (by decide) (fun c_55 => ?_) (fun c_55 => ?_)
        · skip
          refine lv_aload_n hx hb dX12_sum_27 rfl (lv_at hl 0 rfl) ?_
          refine gf_X12_7 hx hb hts hown hK hP 2 rfl rfl dX12_sum_28 ?_
          refine lv_aload_n hx hb dX12_sum_31 rfl (lv_at hl 0 rfl) ?_
          refine gf_X12_87 hx hb hts hown hK hP 2 rfl rfl dX12_sum_32 ?_
          have hi_56 : vp_in sv_47 400 := by
            have z_1 : ¬ (r_13 : Int32).toInt = (0 : Int32).toInt := fun z => c_18 (Int32.toInt_inj.mp z)
            have z_2 := congrArg Int32.toInt c_55
            have y_0 : (0 : Int32).toInt = 0 := by decide
            have y_43 : (43 : Int32).toInt = 43 := by decide
            refine vp_in_iff.mpr ⟨?_, ?_⟩ <;> omega
          refine va_bald hx hb hK hP 3 2 rfl rfl hi_56 dX12_sum_35 ?_
          refine lv_topi (fun x_57 ex_57 => ?_)
          have kx_57 : x_57.toInt = ((Mf 1) (sv_47 : Int32).toInt.toNat).toInt := congrArg Int32.toInt ex_57
          have kcx_57 : x_57.toInt = ((Mf 1) (sv_47 : Int32).toNatClampNeg).toInt := congrArg Int32.toInt ex_57
          refine lv_bipush (v := 43) hx hb dX12_sum_36 (by decide) ?_
          refine lv_icmp_ne (tgt := 45) hx hb dX12_sum_38 (by decide) (fun c_58 => ?_) (fun c_58 => ?_)
          · skip
            refine lv_iconst (v := 3) hx hb dX12_sum_45 (by decide) ?_
            refine lv_istore_n (lv' := [(1, .int 3), (0, .ref (Ma 0))]) hx hb dX12_sum_46 rfl hl (by decide) rfl (fun ls hl₀ => ?_)
            replace hl := hl₀
            clear hl₀
            refine lv_aload_n hx hb dX12_sum_47 rfl (lv_at hl 1 rfl) ?_
            refine lv_dup hx hb dX12_sum_48 rfl ?_
            refine gf_X12_87 hx hb hts hown hK hP 2 rfl rfl dX12_sum_49 ?_
            refine lv_iconst (v := 1) hx hb dX12_sum_52 (by decide) ?_
            refine lv_iadd hx hb dX12_sum_53 ?_
            refine lv_topi (fun x_59 ex_59 => ?_)
            refine pf_X12_87 hx hb hts hown hK hP hD hS 2 rfl (Nat.le_of_ble_eq_true rfl) rfl rfl dX12_sum_54 (fun H locs hP₀ hD₀ hS₀ => ?_)
            replace hP : va_P D classes [((Ma 2), .inl (tc 0, 2400, .inl vy_32)), ((Ma 3), .inl (tc 0, 7, .inl vy_33)), ((Ma 0), .inr (12, [.ref (Ma 1), .int (Mv 0), .int (Mv 1), .ref (Ma 2), .ref (Ma 3), .ref (Ma 4), .ref (Ma 5), .ref (Ma 6), .int x_59, .int vy_29, .int vy_30, .int (Mv 5), .int vy_31, .int (Mv 7), .int (Mv 8), .ref (Ma 7), .int (Mv 9), .ref (Ma 8), .int (Mv 10), .ref (Ma 9), .ref (Ma 10), .int (Mv 11), .int (Mv 12), .int (Mv 13), .ref (Ma 11), .int (Mv 14), .ref (Ma 12), .ref (Ma 13), .ref (Ma 14), .ref (Ma 15), .ref (Ma 16), .long (Mj 0), .ref (Ma 17), .ref (Ma 18), .ref (Ma 19), .ref (Ma 20)])), ((Ma 1), .inl (tc 2, 400, .inl (Mf 1)))] H := hP₀
            replace hD : va_D A [((Ma 2), .inl (tc 0, 2400, .inl vy_32)), ((Ma 3), .inl (tc 0, 7, .inl vy_33)), ((Ma 0), .inr (12, [.ref (Ma 1), .int (Mv 0), .int (Mv 1), .ref (Ma 2), .ref (Ma 3), .ref (Ma 4), .ref (Ma 5), .ref (Ma 6), .int x_59, .int vy_29, .int vy_30, .int (Mv 5), .int vy_31, .int (Mv 7), .int (Mv 8), .ref (Ma 7), .int (Mv 9), .ref (Ma 8), .int (Mv 10), .ref (Ma 9), .ref (Ma 10), .int (Mv 11), .int (Mv 12), .int (Mv 13), .ref (Ma 11), .int (Mv 14), .ref (Ma 12), .ref (Ma 13), .ref (Ma 14), .ref (Ma 15), .ref (Ma 16), .long (Mj 0), .ref (Ma 17), .ref (Ma 18), .ref (Ma 19), .ref (Ma 20)])), ((Ma 1), .inl (tc 2, 400, .inl (Mf 1)))] := hD₀
            replace hS := hS₀
            clear hP₀ hD₀ hS₀
            have tp_x_59 : (x_59 : Int32).toInt = (sv_47 : Int32).toInt + 1 := by
              have z_1 : ¬ (r_13 : Int32).toInt = (0 : Int32).toInt := fun z => c_18 (Int32.toInt_inj.mp z)
              have z_2 := congrArg Int32.toInt c_55
              have z_3 : ¬ (x_57 : Int32).toInt = (43 : Int32).toInt := fun z => c_58 (Int32.toInt_inj.mp z)
              have y_0 : (0 : Int32).toInt = 0 := by decide
              have y_43 : (43 : Int32).toInt = 43 := by decide
              have y_1 : (1 : Int32).toInt = 1 := by decide
              have t_x_59 : x_59.toInt = (sv_47 : Int32).toInt + (1 : Int32).toInt := by rw [ex_59]; exact add_toInt (by omega) (by omega)
              omega
            refine lv_aload_n hx hb dX12_sum_57 rfl (lv_at hl 1 rfl) ?_
            have ha_60 : 0 ≤ (x_59 : Int32).toInt ∧ (x_59 : Int32).toInt ≤ ((Mv 0) : Int32).toInt ∧ ((Mv 0) : Int32).toInt ≤ 400 := by
              have z_1 : ¬ (r_13 : Int32).toInt = (0 : Int32).toInt := fun z => c_18 (Int32.toInt_inj.mp z)
              have z_2 := congrArg Int32.toInt c_55
              have z_3 : ¬ (x_57 : Int32).toInt = (43 : Int32).toInt := fun z => c_58 (Int32.toInt_inj.mp z)
              have y_0 : (0 : Int32).toInt = 0 := by decide
              have y_43 : (43 : Int32).toInt = 43 := by decide
              have y_1 : (1 : Int32).toInt = 1 := by decide
              have t_x_59 : x_59.toInt = (sv_47 : Int32).toInt + (1 : Int32).toInt := by rw [ex_59]; exact add_toInt (by omega) (by omega)
              omega
            have ha_61 : (vy_33 (Mv 5).toNatClampNeg).toInt ≤ (x_59 : Int32).toInt := by
              have z_1 : ¬ (r_13 : Int32).toInt = (0 : Int32).toInt := fun z => c_18 (Int32.toInt_inj.mp z)
              have z_2 := congrArg Int32.toInt c_55
              have z_3 : ¬ (x_57 : Int32).toInt = (43 : Int32).toInt := fun z => c_58 (Int32.toInt_inj.mp z)
              have y_0 : (0 : Int32).toInt = 0 := by decide
              have y_43 : (43 : Int32).toInt = 43 := by decide
              have y_1 : (1 : Int32).toInt = 1 := by decide
              have t_x_59 : x_59.toInt = (sv_47 : Int32).toInt + (1 : Int32).toInt := by rw [ex_59]; exact add_toInt (by omega) (by omega)
              omega
            have ha_62 : 0 ≤ (vy_31 : Int32).toInt ∧ (vy_31 : Int32).toInt ≤ 60 := by
              have z_1 : ¬ (r_13 : Int32).toInt = (0 : Int32).toInt := fun z => c_18 (Int32.toInt_inj.mp z)
              have z_2 := congrArg Int32.toInt c_55
              have z_3 : ¬ (x_57 : Int32).toInt = (43 : Int32).toInt := fun z => c_58 (Int32.toInt_inj.mp z)
              have y_0 : (0 : Int32).toInt = 0 := by decide
              have y_43 : (43 : Int32).toInt = 43 := by decide
              omega
            have ha_63 : (vy_29 : Int32).toInt = 0 := by
              have z_1 : ¬ (r_13 : Int32).toInt = (0 : Int32).toInt := fun z => c_18 (Int32.toInt_inj.mp z)
              have z_2 := congrArg Int32.toInt c_55
              have z_3 : ¬ (x_57 : Int32).toInt = (43 : Int32).toInt := fun z => c_58 (Int32.toInt_inj.mp z)
              have y_0 : (0 : Int32).toInt = 0 := by decide
              have y_43 : (43 : Int32).toInt = 43 := by decide
              omega
            refine cV (a := (Ma 0)) (As := []) (rest := []) (wr := []) ⟨hx, hb, hml, hown, hts⟩ hK hX hA (cu_fX12_term l D tc sk (Ma 0) (Ma 1) (Ma 2) (Ma 3) (Ma 4) (Ma 5) (Ma 6) (Ma 7) (Ma 8) (Ma 9) (Ma 10) (Ma 11) (Ma 12) (Ma 13) (Ma 14) (Ma 15) (Ma 16) (Ma 17) (Ma 18) (Ma 19) (Ma 20) (Mv 0) (Mv 1) x_59 vy_29 vy_30 (Mv 5) vy_31 (Mv 7) (Mv 8) (Mv 9) (Mv 10) (Mv 11) (Mv 12) (Mv 13) (Mv 14) (Mf 1) vy_32 vy_33 (Mj 0) b (d + 1) ha_60 pf_41 ha_61 ha_62 h_bs ha_63) k_1283 k_1280 k_1282 k_43 k_106 pl_X12_term ⟨Nat.le_of_ble_eq_true rfl, Nat.le_of_ble_eq_true rfl⟩ rfl rfl (va_recv hK hP (ci := 12) (q0 := 2) rfl rfl) hP hD hS [2, 3, 0, 1] [] rfl rfl rfl rfl rfl (by decide) rfl hl.1 rfl (Nat.le_of_ble_eq_true rfl) dX12_sum_58 ⟨Nat.le_of_ble_eq_true rfl, Nat.le_of_ble_eq_true rfl⟩ (fun v_64 u_65 H locs hv_66 hP₀ hD₀ hS₀ => ?_)
            obtain ⟨sv_67, sv_68, sv_69, sv_70, sv_71, sv_72⟩ := u_65
            obtain ⟨r_76, rfl, he_77, pf_73, pf_74, pf_75, hm_79, hm_80⟩ := hv_66
            have he_77 : ((r_76.toInt = 0 ∧ ¬ (sv_68 : Int32).toInt = 0) ∨ (r_76.toInt = 1 ∧ (vy_33 (Mv 5).toNatClampNeg).toInt + 1 ≤ (sv_72 (Mv 5).toNatClampNeg).toInt ∧ (sv_72 (Mv 5).toNatClampNeg).toInt + (x_59 : Int32).toInt ≤ (vy_33 (Mv 5).toNatClampNeg).toInt + (sv_67 : Int32).toInt ∧ (x_59 : Int32).toInt + 1 ≤ (sv_67 : Int32).toInt)) := he_77
            have pf_73 : (x_59 : Int32).toInt ≤ (sv_67 : Int32).toInt ∧ (sv_67 : Int32).toInt ≤ ((Mv 0) : Int32).toInt := pf_73
            have pf_74 : (vy_31 : Int32).toInt ≤ (sv_70 : Int32).toInt ∧ (sv_70 : Int32).toInt ≤ 60 := pf_74
            have pf_75 : Agr vy_32 sv_71 (400 * ((Mv 5) : Int32).toInt + (vy_33 (Mv 5).toNatClampNeg).toInt) := pf_75
            refine W.eq (g2 := F0 m 61 ls [.int r_76]) rfl ?_
            replace hP : va_P D classes [((Ma 0), .inr (12, [.ref (Ma 1), .int (Mv 0), .int (Mv 1), .ref (Ma 2), .ref (Ma 3), .ref (Ma 4), .ref (Ma 5), .ref (Ma 6), .int sv_67, .int sv_68, .int sv_69, .int (Mv 5), .int sv_70, .int (Mv 7), .int (Mv 8), .ref (Ma 7), .int (Mv 9), .ref (Ma 8), .int (Mv 10), .ref (Ma 9), .ref (Ma 10), .int (Mv 11), .int (Mv 12), .int (Mv 13), .ref (Ma 11), .int (Mv 14), .ref (Ma 12), .ref (Ma 13), .ref (Ma 14), .ref (Ma 15), .ref (Ma 16), .long (Mj 0), .ref (Ma 17), .ref (Ma 18), .ref (Ma 19), .ref (Ma 20)])), ((Ma 1), .inl (tc 2, 400, .inl (Mf 1))), ((Ma 2), .inl (tc 0, 2400, .inl sv_71)), ((Ma 3), .inl (tc 0, 7, .inl sv_72))] H := hP₀
            replace hD : va_D A [((Ma 0), .inr (12, [.ref (Ma 1), .int (Mv 0), .int (Mv 1), .ref (Ma 2), .ref (Ma 3), .ref (Ma 4), .ref (Ma 5), .ref (Ma 6), .int sv_67, .int sv_68, .int sv_69, .int (Mv 5), .int sv_70, .int (Mv 7), .int (Mv 8), .ref (Ma 7), .int (Mv 9), .ref (Ma 8), .int (Mv 10), .ref (Ma 9), .ref (Ma 10), .int (Mv 11), .int (Mv 12), .int (Mv 13), .ref (Ma 11), .int (Mv 14), .ref (Ma 12), .ref (Ma 13), .ref (Ma 14), .ref (Ma 15), .ref (Ma 16), .long (Mj 0), .ref (Ma 17), .ref (Ma 18), .ref (Ma 19), .ref (Ma 20)])), ((Ma 1), .inl (tc 2, 400, .inl (Mf 1))), ((Ma 2), .inl (tc 0, 2400, .inl sv_71)), ((Ma 3), .inl (tc 0, 7, .inl sv_72))] := hD₀
            replace hS := hS₀
            clear hP₀ hD₀ hS₀
            refine lv_if_ne (tgt := 66) hx hb dX12_sum_61 (by decide) (fun c_81 => ?_) (fun c_81 => ?_)
            · skip
              have hz_84 : (r_76 : Int32).toInt = 1 := by
                have z_1 : ¬ (r_13 : Int32).toInt = (0 : Int32).toInt := fun z => c_18 (Int32.toInt_inj.mp z)
                have z_2 := congrArg Int32.toInt c_55
                have z_3 : ¬ (x_57 : Int32).toInt = (43 : Int32).toInt := fun z => c_58 (Int32.toInt_inj.mp z)
                have z_4 : ¬ (r_76 : Int32).toInt = (0 : Int32).toInt := fun z => c_81 (Int32.toInt_inj.mp z)
                have y_0 : (0 : Int32).toInt = 0 := by decide
                have y_43 : (43 : Int32).toInt = 43 := by decide
                omega
              obtain ⟨pf_82, pf_83⟩ := hm_79 hz_84
              have pf_82 : Cd sv_71 sv_72 (Mv 5) b sv_70 ((d + 1) + 1) := pf_82
              have ar_pf_82 := Cd.ar pf_82
              have pf_83 : TmO (pz_sum (rB (Mf 1) (Mv 0)) (St0 (rB (Mf 1) (Mv 0)) x_59 vy_31)) (rB (Mf 1) (Mv 0)) sv_68 sv_67 sv_70 := pf_83
              have ar_pf_83 := pf_83.1.1
              refine lv_aload_n hx hb dX12_sum_66 rfl (lv_at hl 1 rfl) ?_
              refine lv_iload_n hx hb dX12_sum_67 rfl (lv_at hl 0 rfl) ?_
              refine lv_iconst (v := 0) hx hb dX12_sum_68 (by decide) ?_
              have ha_85 : ((d + 1) : Int) ≤ sv_70.toInt := by
                have z_1 : ¬ (r_13 : Int32).toInt = (0 : Int32).toInt := fun z => c_18 (Int32.toInt_inj.mp z)
                have z_2 := congrArg Int32.toInt c_55
                have z_3 : ¬ (x_57 : Int32).toInt = (43 : Int32).toInt := fun z => c_58 (Int32.toInt_inj.mp z)
                have z_4 : ¬ (r_76 : Int32).toInt = (0 : Int32).toInt := fun z => c_81 (Int32.toInt_inj.mp z)
                have y_0 : (0 : Int32).toInt = 0 := by decide
                have y_43 : (43 : Int32).toInt = 43 := by decide
                omega
              have ha_86 : (sv_72 (Mv 5).toNatClampNeg).toInt < 400 := by
                have z_1 : ¬ (r_13 : Int32).toInt = (0 : Int32).toInt := fun z => c_18 (Int32.toInt_inj.mp z)
                have z_2 := congrArg Int32.toInt c_55
                have z_3 : ¬ (x_57 : Int32).toInt = (43 : Int32).toInt := fun z => c_58 (Int32.toInt_inj.mp z)
                have z_4 : ¬ (r_76 : Int32).toInt = (0 : Int32).toInt := fun z => c_81 (Int32.toInt_inj.mp z)
                have y_0 : (0 : Int32).toInt = 0 := by decide
                have y_43 : (43 : Int32).toInt = 43 := by decide
                omega
              refine cV (a := (Ma 0)) (As := [.int 3, .int 0]) (rest := []) (wr := [((Ma 1), .inl (tc 2, 400, .inl (Mf 1)))]) ⟨hx, hb, hml, hown, hts⟩ hK hX hA (cu_X12_puts l D tc sk (Ma 0) (Ma 1) (Ma 2) (Ma 3) (Ma 4) (Ma 5) (Ma 6) (Ma 7) (Ma 8) (Ma 9) (Ma 10) (Ma 11) (Ma 12) (Ma 13) (Ma 14) (Ma 15) (Ma 16) (Ma 17) (Ma 18) (Ma 19) (Ma 20) (Mv 0) (Mv 1) sv_67 sv_68 sv_69 (Mv 5) sv_70 (Mv 7) (Mv 8) (Mv 9) (Mv 10) (Mv 11) (Mv 12) (Mv 13) (Mv 14) sv_71 sv_72 (Mj 0) 3 0 b sv_70 ((d + 1) + 1) (d + 1) pf_82 (StpR.op (by decide) rfl (by omega)) ha_85 ha_86) k_1296 k_1293 k_1295 k_46 k_106 pl_X12_puts ⟨Nat.le_of_ble_eq_true rfl, Nat.le_of_ble_eq_true rfl⟩ rfl rfl (va_recv hK hP (ci := 12) (q0 := 0) rfl rfl) hP hD hS [0, 2, 3] [1] rfl rfl rfl rfl rfl (by decide) rfl hl.1 rfl (Nat.le_of_ble_eq_true rfl) dX12_sum_69 ⟨Nat.le_of_ble_eq_true rfl, Nat.le_of_ble_eq_true rfl⟩ (fun v_87 u_88 H locs hv_89 hP₀ hD₀ hS₀ => ?_)
              obtain ⟨sv_90, sv_91⟩ := u_88
              obtain ⟨rfl, pf_92, pf_93, pf_94⟩ := hv_89
              have pf_92 : Cd sv_90 sv_91 (Mv 5) b sv_70 (d + 1) := pf_92
              have ar_pf_92 := Cd.ar pf_92
              have pf_93 : Agr sv_71 sv_90 (400 * ((Mv 5) : Int32).toInt + (sv_72 (Mv 5).toNatClampNeg).toInt) := pf_93
              have pf_94 : (sv_91 (Mv 5).toNatClampNeg).toInt = (sv_72 (Mv 5).toNatClampNeg).toInt + 1 := pf_94
              refine W.eq (g2 := F0 m 72 ls []) rfl ?_
              replace hP : va_P D classes [((Ma 1), .inl (tc 2, 400, .inl (Mf 1))), ((Ma 0), .inr (12, [.ref (Ma 1), .int (Mv 0), .int (Mv 1), .ref (Ma 2), .ref (Ma 3), .ref (Ma 4), .ref (Ma 5), .ref (Ma 6), .int sv_67, .int sv_68, .int sv_69, .int (Mv 5), .int sv_70, .int (Mv 7), .int (Mv 8), .ref (Ma 7), .int (Mv 9), .ref (Ma 8), .int (Mv 10), .ref (Ma 9), .ref (Ma 10), .int (Mv 11), .int (Mv 12), .int (Mv 13), .ref (Ma 11), .int (Mv 14), .ref (Ma 12), .ref (Ma 13), .ref (Ma 14), .ref (Ma 15), .ref (Ma 16), .long (Mj 0), .ref (Ma 17), .ref (Ma 18), .ref (Ma 19), .ref (Ma 20)])), ((Ma 2), .inl (tc 0, 2400, .inl sv_90)), ((Ma 3), .inl (tc 0, 7, .inl sv_91))] H := hP₀
              replace hD : va_D A [((Ma 1), .inl (tc 2, 400, .inl (Mf 1))), ((Ma 0), .inr (12, [.ref (Ma 1), .int (Mv 0), .int (Mv 1), .ref (Ma 2), .ref (Ma 3), .ref (Ma 4), .ref (Ma 5), .ref (Ma 6), .int sv_67, .int sv_68, .int sv_69, .int (Mv 5), .int sv_70, .int (Mv 7), .int (Mv 8), .ref (Ma 7), .int (Mv 9), .ref (Ma 8), .int (Mv 10), .ref (Ma 9), .ref (Ma 10), .int (Mv 11), .int (Mv 12), .int (Mv 13), .ref (Ma 11), .int (Mv 14), .ref (Ma 12), .ref (Ma 13), .ref (Ma 14), .ref (Ma 15), .ref (Ma 16), .long (Mj 0), .ref (Ma 17), .ref (Ma 18), .ref (Ma 19), .ref (Ma 20)])), ((Ma 2), .inl (tc 0, 2400, .inl sv_90)), ((Ma 3), .inl (tc 0, 7, .inl sv_91))] := hD₀
              replace hS := hS₀
              clear hP₀ hD₀ hS₀
              refine lv_goto (tgt := 9) hx hb dX12_sum_72 (by decide) ?_
              have hb_95 : 400 - (sv_67 : Int32).toInt < 400 - (vy_28 : Int32).toInt ∧ 1 ≤ 400 - (vy_28 : Int32).toInt := by
                have z_1 : ¬ (r_13 : Int32).toInt = (0 : Int32).toInt := fun z => c_18 (Int32.toInt_inj.mp z)
                have z_2 := congrArg Int32.toInt c_55
                have z_3 : ¬ (x_57 : Int32).toInt = (43 : Int32).toInt := fun z => c_58 (Int32.toInt_inj.mp z)
                have z_4 : ¬ (r_76 : Int32).toInt = (0 : Int32).toInt := fun z => c_81 (Int32.toInt_inj.mp z)
                have y_0 : (0 : Int32).toInt = 0 := by decide
                have y_43 : (43 : Int32).toInt = 43 := by decide
                omega
              have ha_96 : 0 ≤ (sv_67 : Int32).toInt ∧ (sv_67 : Int32).toInt ≤ ((Mv 0) : Int32).toInt ∧ ((Mv 0) : Int32).toInt ≤ 400 := by
                have z_1 : ¬ (r_13 : Int32).toInt = (0 : Int32).toInt := fun z => c_18 (Int32.toInt_inj.mp z)
                have z_2 := congrArg Int32.toInt c_55
                have z_3 : ¬ (x_57 : Int32).toInt = (43 : Int32).toInt := fun z => c_58 (Int32.toInt_inj.mp z)
                have z_4 : ¬ (r_76 : Int32).toInt = (0 : Int32).toInt := fun z => c_81 (Int32.toInt_inj.mp z)
                have y_0 : (0 : Int32).toInt = 0 := by decide
                have y_43 : (43 : Int32).toInt = 43 := by decide
                omega
              have ha_97 : (Mv 6).toInt ≤ (sv_70 : Int32).toInt ∧ (sv_70 : Int32).toInt ≤ 60 := by
                have z_1 : ¬ (r_13 : Int32).toInt = (0 : Int32).toInt := fun z => c_18 (Int32.toInt_inj.mp z)
                have z_2 := congrArg Int32.toInt c_55
                have z_3 : ¬ (x_57 : Int32).toInt = (43 : Int32).toInt := fun z => c_58 (Int32.toInt_inj.mp z)
                have z_4 : ¬ (r_76 : Int32).toInt = (0 : Int32).toInt := fun z => c_81 (Int32.toInt_inj.mp z)
                have y_0 : (0 : Int32).toInt = 0 := by decide
                have y_43 : (43 : Int32).toInt = 43 := by decide
                omega
              have ha_98 : ((Mf 3) (Mv 5).toNatClampNeg).toInt + 1 ≤ (sv_91 (Mv 5).toNatClampNeg).toInt ∧ (sv_91 (Mv 5).toNatClampNeg).toInt + ((Mv 2) : Int32).toInt ≤ ((Mf 3) (Mv 5).toNatClampNeg).toInt + (sv_67 : Int32).toInt ∧ ((Mv 2) : Int32).toInt + 1 ≤ (sv_67 : Int32).toInt := by
                have z_1 : ¬ (r_13 : Int32).toInt = (0 : Int32).toInt := fun z => c_18 (Int32.toInt_inj.mp z)
                have z_2 := congrArg Int32.toInt c_55
                have z_3 : ¬ (x_57 : Int32).toInt = (43 : Int32).toInt := fun z => c_58 (Int32.toInt_inj.mp z)
                have z_4 : ¬ (r_76 : Int32).toInt = (0 : Int32).toInt := fun z => c_81 (Int32.toInt_inj.mp z)
                have y_0 : (0 : Int32).toInt = 0 := by decide
                have y_43 : (43 : Int32).toInt = 43 := by decide
                omega
              have hr_99 : (400 * ((Mv 5) : Int32).toInt + ((Mf 3) (Mv 5).toNatClampNeg).toInt) ≤ (400 * ((Mv 5) : Int32).toInt + ((Mf 3) (Mv 5).toNatClampNeg).toInt) := by
                have z_1 : ¬ (r_13 : Int32).toInt = (0 : Int32).toInt := fun z => c_18 (Int32.toInt_inj.mp z)
                have z_2 := congrArg Int32.toInt c_55
                have z_3 : ¬ (x_57 : Int32).toInt = (43 : Int32).toInt := fun z => c_58 (Int32.toInt_inj.mp z)
                have z_4 : ¬ (r_76 : Int32).toInt = (0 : Int32).toInt := fun z => c_81 (Int32.toInt_inj.mp z)
                have y_0 : (0 : Int32).toInt = 0 := by decide
                have y_43 : (43 : Int32).toInt = 43 := by decide
                omega
              have hr_100 : (400 * ((Mv 5) : Int32).toInt + ((Mf 3) (Mv 5).toNatClampNeg).toInt) ≤ (400 * ((Mv 5) : Int32).toInt + (vy_33 (Mv 5).toNatClampNeg).toInt) := by
                have z_1 : ¬ (r_13 : Int32).toInt = (0 : Int32).toInt := fun z => c_18 (Int32.toInt_inj.mp z)
                have z_2 := congrArg Int32.toInt c_55
                have z_3 : ¬ (x_57 : Int32).toInt = (43 : Int32).toInt := fun z => c_58 (Int32.toInt_inj.mp z)
                have z_4 : ¬ (r_76 : Int32).toInt = (0 : Int32).toInt := fun z => c_81 (Int32.toInt_inj.mp z)
                have y_0 : (0 : Int32).toInt = 0 := by decide
                have y_43 : (43 : Int32).toInt = 43 := by decide
                omega
              have hr_101 : (400 * ((Mv 5) : Int32).toInt + ((Mf 3) (Mv 5).toNatClampNeg).toInt) ≤ (400 * ((Mv 5) : Int32).toInt + (sv_72 (Mv 5).toNatClampNeg).toInt) := by
                have z_1 : ¬ (r_13 : Int32).toInt = (0 : Int32).toInt := fun z => c_18 (Int32.toInt_inj.mp z)
                have z_2 := congrArg Int32.toInt c_55
                have z_3 : ¬ (x_57 : Int32).toInt = (43 : Int32).toInt := fun z => c_58 (Int32.toInt_inj.mp z)
                have z_4 : ¬ (r_76 : Int32).toInt = (0 : Int32).toInt := fun z => c_81 (Int32.toInt_inj.mp z)
                have y_0 : (0 : Int32).toInt = 0 := by decide
                have y_43 : (43 : Int32).toInt = 43 := by decide
                omega
              have hr_102 : (rB (Mf 1) (Mv 0) (sv_47 : Int32).toInt.toNat = 43 ∨ rB (Mf 1) (Mv 0) (sv_47 : Int32).toInt.toNat = 45) := by
                have z_1 : ¬ (r_13 : Int32).toInt = (0 : Int32).toInt := fun z => c_18 (Int32.toInt_inj.mp z)
                have z_2 := congrArg Int32.toInt c_55
                have z_3 : ¬ (x_57 : Int32).toInt = (43 : Int32).toInt := fun z => c_58 (Int32.toInt_inj.mp z)
                have z_4 : ¬ (r_76 : Int32).toInt = (0 : Int32).toInt := fun z => c_81 (Int32.toInt_inj.mp z)
                have y_0 : (0 : Int32).toInt = 0 := by decide
                have y_43 : (43 : Int32).toInt = 43 := by decide
                omega
              have hi_103 : (x_59 : Int32).toInt = (sv_47 : Int32).toInt + 1 := by
                have z_1 : ¬ (r_13 : Int32).toInt = (0 : Int32).toInt := fun z => c_18 (Int32.toInt_inj.mp z)
                have z_2 := congrArg Int32.toInt c_55
                have z_3 : ¬ (x_57 : Int32).toInt = (43 : Int32).toInt := fun z => c_58 (Int32.toInt_inj.mp z)
                have z_4 : ¬ (r_76 : Int32).toInt = (0 : Int32).toInt := fun z => c_81 (Int32.toInt_inj.mp z)
                have y_0 : (0 : Int32).toInt = 0 := by decide
                have y_43 : (43 : Int32).toInt = 43 := by decide
                have y_1 : (1 : Int32).toInt = 1 := by decide
                have t_x_59 : x_59.toInt = (sv_47 : Int32).toInt + (1 : Int32).toInt := by rw [ex_59]; exact add_toInt (by omega) (by omega)
                omega
              exact ih_35 sv_67 sv_68 sv_69 sv_70 sv_90 sv_91 _ _ _ (by omega) ha_96 ha_97 ha_98 (Agr.trans (k' := (400 * ((Mv 5) : Int32).toInt + ((Mf 3) (Mv 5).toNatClampNeg).toInt)) (Agr.trans (k' := (400 * ((Mv 5) : Int32).toInt + ((Mf 3) (Mv 5).toNatClampNeg).toInt)) (Agr.mono pf_40 hr_99) pf_75 ⟨Int.le_refl _, hr_100⟩) pf_93 ⟨Int.le_refl _, hr_101⟩) pf_92 (TmO.next (rB_fi h_nx.2.2) pf_42 pf_51 hr_102 hi_103 pf_83) (hP.sub [1, 0, 2, 3] rfl) (hD.sub [1, 0, 2, 3] rfl rfl) hS (lv_sub hl [1] rfl)
            · skip
              have hz_105 : (r_76 : Int32).toInt = 0 := by
                have z_1 : ¬ (r_13 : Int32).toInt = (0 : Int32).toInt := fun z => c_18 (Int32.toInt_inj.mp z)
                have z_2 := congrArg Int32.toInt c_55
                have z_3 : ¬ (x_57 : Int32).toInt = (43 : Int32).toInt := fun z => c_58 (Int32.toInt_inj.mp z)
                have z_4 := congrArg Int32.toInt c_81
                have y_0 : (0 : Int32).toInt = 0 := by decide
                have y_43 : (43 : Int32).toInt = 43 := by decide
                omega
              obtain pf_104 := hm_80 hz_105
              have pf_104 : RfE (pz_sum (rB (Mf 1) (Mv 0)) (St0 (rB (Mf 1) (Mv 0)) x_59 vy_31)) sv_68 := pf_104
              refine lv_iconst (v := 0) hx hb dX12_sum_64 (by decide) ?_
              have ha_106 : ((Mv 2) : Int32).toInt ≤ (sv_67 : Int32).toInt ∧ (sv_67 : Int32).toInt ≤ ((Mv 0) : Int32).toInt := by
                have z_1 : ¬ (r_13 : Int32).toInt = (0 : Int32).toInt := fun z => c_18 (Int32.toInt_inj.mp z)
                have z_2 := congrArg Int32.toInt c_55
                have z_3 : ¬ (x_57 : Int32).toInt = (43 : Int32).toInt := fun z => c_58 (Int32.toInt_inj.mp z)
                have z_4 := congrArg Int32.toInt c_81
                have y_0 : (0 : Int32).toInt = 0 := by decide
                have y_43 : (43 : Int32).toInt = 43 := by decide
                omega
              have ha_107 : ((Mv 6) : Int32).toInt ≤ (sv_70 : Int32).toInt ∧ (sv_70 : Int32).toInt ≤ 60 := by
                have z_1 : ¬ (r_13 : Int32).toInt = (0 : Int32).toInt := fun z => c_18 (Int32.toInt_inj.mp z)
                have z_2 := congrArg Int32.toInt c_55
                have z_3 : ¬ (x_57 : Int32).toInt = (43 : Int32).toInt := fun z => c_58 (Int32.toInt_inj.mp z)
                have z_4 := congrArg Int32.toInt c_81
                have y_0 : (0 : Int32).toInt = 0 := by decide
                have y_43 : (43 : Int32).toInt = 43 := by decide
                omega
              have hr_108 : (400 * ((Mv 5) : Int32).toInt + ((Mf 3) (Mv 5).toNatClampNeg).toInt) ≤ (400 * ((Mv 5) : Int32).toInt + ((Mf 3) (Mv 5).toNatClampNeg).toInt) := by
                have z_1 : ¬ (r_13 : Int32).toInt = (0 : Int32).toInt := fun z => c_18 (Int32.toInt_inj.mp z)
                have z_2 := congrArg Int32.toInt c_55
                have z_3 : ¬ (x_57 : Int32).toInt = (43 : Int32).toInt := fun z => c_58 (Int32.toInt_inj.mp z)
                have z_4 := congrArg Int32.toInt c_81
                have y_0 : (0 : Int32).toInt = 0 := by decide
                have y_43 : (43 : Int32).toInt = 43 := by decide
                omega
              have hr_109 : (400 * ((Mv 5) : Int32).toInt + ((Mf 3) (Mv 5).toNatClampNeg).toInt) ≤ (400 * ((Mv 5) : Int32).toInt + (vy_33 (Mv 5).toNatClampNeg).toInt) := by
                have z_1 : ¬ (r_13 : Int32).toInt = (0 : Int32).toInt := fun z => c_18 (Int32.toInt_inj.mp z)
                have z_2 := congrArg Int32.toInt c_55
                have z_3 : ¬ (x_57 : Int32).toInt = (43 : Int32).toInt := fun z => c_58 (Int32.toInt_inj.mp z)
                have z_4 := congrArg Int32.toInt c_81
                have y_0 : (0 : Int32).toInt = 0 := by decide
                have y_43 : (43 : Int32).toInt = 43 := by decide
                omega
              have hp_110 : (((0 : Int32).toInt = 0 ∧ ¬ (sv_68 : Int32).toInt = 0) ∨ ((0 : Int32).toInt = 1 ∧ ((Mf 3) (Mv 5).toNatClampNeg).toInt + 1 ≤ (sv_72 (Mv 5).toNatClampNeg).toInt ∧ (sv_72 (Mv 5).toNatClampNeg).toInt + ((Mv 2) : Int32).toInt ≤ ((Mf 3) (Mv 5).toNatClampNeg).toInt + (sv_67 : Int32).toInt ∧ ((Mv 2) : Int32).toInt + 1 ≤ (sv_67 : Int32).toInt)) := by
                have z_1 : ¬ (r_13 : Int32).toInt = (0 : Int32).toInt := fun z => c_18 (Int32.toInt_inj.mp z)
                have z_2 := congrArg Int32.toInt c_55
                have z_3 : ¬ (x_57 : Int32).toInt = (43 : Int32).toInt := fun z => c_58 (Int32.toInt_inj.mp z)
                have z_4 := congrArg Int32.toInt c_81
                have y_0 : (0 : Int32).toInt = 0 := by decide
                have y_43 : (43 : Int32).toInt = 43 := by decide
                omega
              have hm_111 : (0 : Int32).toInt = 0 → (RfE (pz_sum (rB (Mf 1) (Mv 0)) (St0 (rB (Mf 1) (Mv 0)) (Mv 2) (Mv 6))) sv_68) := by
                intro h1r
                have hr_112 : (rB (Mf 1) (Mv 0) (sv_47 : Int32).toInt.toNat = 43 ∨ rB (Mf 1) (Mv 0) (sv_47 : Int32).toInt.toNat = 45) := by
                  have z_1 : ¬ (r_13 : Int32).toInt = (0 : Int32).toInt := fun z => c_18 (Int32.toInt_inj.mp z)
                  have z_2 := congrArg Int32.toInt c_55
                  have z_3 : ¬ (x_57 : Int32).toInt = (43 : Int32).toInt := fun z => c_58 (Int32.toInt_inj.mp z)
                  have z_4 := congrArg Int32.toInt c_81
                  have y_0 : (0 : Int32).toInt = 0 := by decide
                  have y_43 : (43 : Int32).toInt = 43 := by decide
                  omega
                have hi_113 : (x_59 : Int32).toInt = (sv_47 : Int32).toInt + 1 := by
                  have z_1 : ¬ (r_13 : Int32).toInt = (0 : Int32).toInt := fun z => c_18 (Int32.toInt_inj.mp z)
                  have z_2 := congrArg Int32.toInt c_55
                  have z_3 : ¬ (x_57 : Int32).toInt = (43 : Int32).toInt := fun z => c_58 (Int32.toInt_inj.mp z)
                  have z_4 := congrArg Int32.toInt c_81
                  have y_0 : (0 : Int32).toInt = 0 := by decide
                  have y_43 : (43 : Int32).toInt = 43 := by decide
                  have y_1 : (1 : Int32).toInt = 1 := by decide
                  have t_x_59 : x_59.toInt = (sv_47 : Int32).toInt + (1 : Int32).toInt := by rw [ex_59]; exact add_toInt (by omega) (by omega)
                  omega
                exact (TmO.er (rB_fi h_nx.2.2) pf_42 pf_51 hr_112 hi_113 pf_104)
              exact retI (v := 0) hx hb hr hlk (rfl) hP hD hS (sv_67, sv_68, sv_69, sv_70, sv_71, sv_72) ⟨_, rfl, hp_110, ha_106, ha_107, (Agr.trans (k' := (400 * ((Mv 5) : Int32).toInt + ((Mf 3) (Mv 5).toNatClampNeg).toInt)) (Agr.mono pf_40 hr_108) pf_75 ⟨Int.le_refl _, hr_109⟩), (fun h => absurd h (by decide)), hm_111⟩ [0, 1, 2, 3] rfl rfl dX12_sum_65 (Nat.le_of_ble_eq_true rfl) (Nat.le_of_ble_eq_true rfl) rfl
          · skip
            refine lv_iconst (v := 2) hx hb dX12_sum_41 (by decide) ?_
            refine lv_goto (tgt := 46) hx hb dX12_sum_42 (by decide) ?_
            refine lv_istore_n (lv' := [(1, .int 2), (0, .ref (Ma 0))]) hx hb dX12_sum_46 rfl hl (by decide) rfl (fun ls hl₀ => ?_)
            replace hl := hl₀
            clear hl₀
            refine lv_aload_n hx hb dX12_sum_47 rfl (lv_at hl 1 rfl) ?_
            refine lv_dup hx hb dX12_sum_48 rfl ?_
            refine gf_X12_87 hx hb hts hown hK hP 2 rfl rfl dX12_sum_49 ?_
            refine lv_iconst (v := 1) hx hb dX12_sum_52 (by decide) ?_
            refine lv_iadd hx hb dX12_sum_53 ?_
            refine lv_topi (fun x_114 ex_114 => ?_)
            refine pf_X12_87 hx hb hts hown hK hP hD hS 2 rfl (Nat.le_of_ble_eq_true rfl) rfl rfl dX12_sum_54 (fun H locs hP₀ hD₀ hS₀ => ?_)
            replace hP : va_P D classes [((Ma 2), .inl (tc 0, 2400, .inl vy_32)), ((Ma 3), .inl (tc 0, 7, .inl vy_33)), ((Ma 0), .inr (12, [.ref (Ma 1), .int (Mv 0), .int (Mv 1), .ref (Ma 2), .ref (Ma 3), .ref (Ma 4), .ref (Ma 5), .ref (Ma 6), .int x_114, .int vy_29, .int vy_30, .int (Mv 5), .int vy_31, .int (Mv 7), .int (Mv 8), .ref (Ma 7), .int (Mv 9), .ref (Ma 8), .int (Mv 10), .ref (Ma 9), .ref (Ma 10), .int (Mv 11), .int (Mv 12), .int (Mv 13), .ref (Ma 11), .int (Mv 14), .ref (Ma 12), .ref (Ma 13), .ref (Ma 14), .ref (Ma 15), .ref (Ma 16), .long (Mj 0), .ref (Ma 17), .ref (Ma 18), .ref (Ma 19), .ref (Ma 20)])), ((Ma 1), .inl (tc 2, 400, .inl (Mf 1)))] H := hP₀
            replace hD : va_D A [((Ma 2), .inl (tc 0, 2400, .inl vy_32)), ((Ma 3), .inl (tc 0, 7, .inl vy_33)), ((Ma 0), .inr (12, [.ref (Ma 1), .int (Mv 0), .int (Mv 1), .ref (Ma 2), .ref (Ma 3), .ref (Ma 4), .ref (Ma 5), .ref (Ma 6), .int x_114, .int vy_29, .int vy_30, .int (Mv 5), .int vy_31, .int (Mv 7), .int (Mv 8), .ref (Ma 7), .int (Mv 9), .ref (Ma 8), .int (Mv 10), .ref (Ma 9), .ref (Ma 10), .int (Mv 11), .int (Mv 12), .int (Mv 13), .ref (Ma 11), .int (Mv 14), .ref (Ma 12), .ref (Ma 13), .ref (Ma 14), .ref (Ma 15), .ref (Ma 16), .long (Mj 0), .ref (Ma 17), .ref (Ma 18), .ref (Ma 19), .ref (Ma 20)])), ((Ma 1), .inl (tc 2, 400, .inl (Mf 1)))] := hD₀
            replace hS := hS₀
            clear hP₀ hD₀ hS₀
            have tp_x_114 : (x_114 : Int32).toInt = (sv_47 : Int32).toInt + 1 := by
              have z_1 : ¬ (r_13 : Int32).toInt = (0 : Int32).toInt := fun z => c_18 (Int32.toInt_inj.mp z)
              have z_2 := congrArg Int32.toInt c_55
              have z_3 := congrArg Int32.toInt c_58
              have y_0 : (0 : Int32).toInt = 0 := by decide
              have y_43 : (43 : Int32).toInt = 43 := by decide
              have y_1 : (1 : Int32).toInt = 1 := by decide
              have t_x_114 : x_114.toInt = (sv_47 : Int32).toInt + (1 : Int32).toInt := by rw [ex_114]; exact add_toInt (by omega) (by omega)
              omega
            refine lv_aload_n hx hb dX12_sum_57 rfl (lv_at hl 1 rfl) ?_
            have ha_115 : 0 ≤ (x_114 : Int32).toInt ∧ (x_114 : Int32).toInt ≤ ((Mv 0) : Int32).toInt ∧ ((Mv 0) : Int32).toInt ≤ 400 := by
              have z_1 : ¬ (r_13 : Int32).toInt = (0 : Int32).toInt := fun z => c_18 (Int32.toInt_inj.mp z)
              have z_2 := congrArg Int32.toInt c_55
              have z_3 := congrArg Int32.toInt c_58
              have y_0 : (0 : Int32).toInt = 0 := by decide
              have y_43 : (43 : Int32).toInt = 43 := by decide
              have y_1 : (1 : Int32).toInt = 1 := by decide
              have t_x_114 : x_114.toInt = (sv_47 : Int32).toInt + (1 : Int32).toInt := by rw [ex_114]; exact add_toInt (by omega) (by omega)
              omega
            have ha_116 : (vy_33 (Mv 5).toNatClampNeg).toInt ≤ (x_114 : Int32).toInt := by
              have z_1 : ¬ (r_13 : Int32).toInt = (0 : Int32).toInt := fun z => c_18 (Int32.toInt_inj.mp z)
              have z_2 := congrArg Int32.toInt c_55
              have z_3 := congrArg Int32.toInt c_58
              have y_0 : (0 : Int32).toInt = 0 := by decide
              have y_43 : (43 : Int32).toInt = 43 := by decide
              have y_1 : (1 : Int32).toInt = 1 := by decide
              have t_x_114 : x_114.toInt = (sv_47 : Int32).toInt + (1 : Int32).toInt := by rw [ex_114]; exact add_toInt (by omega) (by omega)
              omega
            have ha_117 : 0 ≤ (vy_31 : Int32).toInt ∧ (vy_31 : Int32).toInt ≤ 60 := by
              have z_1 : ¬ (r_13 : Int32).toInt = (0 : Int32).toInt := fun z => c_18 (Int32.toInt_inj.mp z)
              have z_2 := congrArg Int32.toInt c_55
              have z_3 := congrArg Int32.toInt c_58
              have y_0 : (0 : Int32).toInt = 0 := by decide
              have y_43 : (43 : Int32).toInt = 43 := by decide
              omega
            have ha_118 : (vy_29 : Int32).toInt = 0 := by
              have z_1 : ¬ (r_13 : Int32).toInt = (0 : Int32).toInt := fun z => c_18 (Int32.toInt_inj.mp z)
              have z_2 := congrArg Int32.toInt c_55
              have z_3 := congrArg Int32.toInt c_58
              have y_0 : (0 : Int32).toInt = 0 := by decide
              have y_43 : (43 : Int32).toInt = 43 := by decide
              omega
            refine cV (a := (Ma 0)) (As := []) (rest := []) (wr := []) ⟨hx, hb, hml, hown, hts⟩ hK hX hA (cu_fX12_term l D tc sk (Ma 0) (Ma 1) (Ma 2) (Ma 3) (Ma 4) (Ma 5) (Ma 6) (Ma 7) (Ma 8) (Ma 9) (Ma 10) (Ma 11) (Ma 12) (Ma 13) (Ma 14) (Ma 15) (Ma 16) (Ma 17) (Ma 18) (Ma 19) (Ma 20) (Mv 0) (Mv 1) x_114 vy_29 vy_30 (Mv 5) vy_31 (Mv 7) (Mv 8) (Mv 9) (Mv 10) (Mv 11) (Mv 12) (Mv 13) (Mv 14) (Mf 1) vy_32 vy_33 (Mj 0) b (d + 1) ha_115 pf_41 ha_116 ha_117 h_bs ha_118) k_1283 k_1280 k_1282 k_43 k_106 pl_X12_term ⟨Nat.le_of_ble_eq_true rfl, Nat.le_of_ble_eq_true rfl⟩ rfl rfl (va_recv hK hP (ci := 12) (q0 := 2) rfl rfl) hP hD hS [2, 3, 0, 1] [] rfl rfl rfl rfl rfl (by decide) rfl hl.1 rfl (Nat.le_of_ble_eq_true rfl) dX12_sum_58 ⟨Nat.le_of_ble_eq_true rfl, Nat.le_of_ble_eq_true rfl⟩ (fun v_119 u_120 H locs hv_121 hP₀ hD₀ hS₀ => ?_)
            obtain ⟨sv_122, sv_123, sv_124, sv_125, sv_126, sv_127⟩ := u_120
            obtain ⟨r_131, rfl, he_132, pf_128, pf_129, pf_130, hm_134, hm_135⟩ := hv_121
            have he_132 : ((r_131.toInt = 0 ∧ ¬ (sv_123 : Int32).toInt = 0) ∨ (r_131.toInt = 1 ∧ (vy_33 (Mv 5).toNatClampNeg).toInt + 1 ≤ (sv_127 (Mv 5).toNatClampNeg).toInt ∧ (sv_127 (Mv 5).toNatClampNeg).toInt + (x_114 : Int32).toInt ≤ (vy_33 (Mv 5).toNatClampNeg).toInt + (sv_122 : Int32).toInt ∧ (x_114 : Int32).toInt + 1 ≤ (sv_122 : Int32).toInt)) := he_132
            have pf_128 : (x_114 : Int32).toInt ≤ (sv_122 : Int32).toInt ∧ (sv_122 : Int32).toInt ≤ ((Mv 0) : Int32).toInt := pf_128
            have pf_129 : (vy_31 : Int32).toInt ≤ (sv_125 : Int32).toInt ∧ (sv_125 : Int32).toInt ≤ 60 := pf_129
            have pf_130 : Agr vy_32 sv_126 (400 * ((Mv 5) : Int32).toInt + (vy_33 (Mv 5).toNatClampNeg).toInt) := pf_130
            refine W.eq (g2 := F0 m 61 ls [.int r_131]) rfl ?_
            replace hP : va_P D classes [((Ma 0), .inr (12, [.ref (Ma 1), .int (Mv 0), .int (Mv 1), .ref (Ma 2), .ref (Ma 3), .ref (Ma 4), .ref (Ma 5), .ref (Ma 6), .int sv_122, .int sv_123, .int sv_124, .int (Mv 5), .int sv_125, .int (Mv 7), .int (Mv 8), .ref (Ma 7), .int (Mv 9), .ref (Ma 8), .int (Mv 10), .ref (Ma 9), .ref (Ma 10), .int (Mv 11), .int (Mv 12), .int (Mv 13), .ref (Ma 11), .int (Mv 14), .ref (Ma 12), .ref (Ma 13), .ref (Ma 14), .ref (Ma 15), .ref (Ma 16), .long (Mj 0), .ref (Ma 17), .ref (Ma 18), .ref (Ma 19), .ref (Ma 20)])), ((Ma 1), .inl (tc 2, 400, .inl (Mf 1))), ((Ma 2), .inl (tc 0, 2400, .inl sv_126)), ((Ma 3), .inl (tc 0, 7, .inl sv_127))] H := hP₀
            replace hD : va_D A [((Ma 0), .inr (12, [.ref (Ma 1), .int (Mv 0), .int (Mv 1), .ref (Ma 2), .ref (Ma 3), .ref (Ma 4), .ref (Ma 5), .ref (Ma 6), .int sv_122, .int sv_123, .int sv_124, .int (Mv 5), .int sv_125, .int (Mv 7), .int (Mv 8), .ref (Ma 7), .int (Mv 9), .ref (Ma 8), .int (Mv 10), .ref (Ma 9), .ref (Ma 10), .int (Mv 11), .int (Mv 12), .int (Mv 13), .ref (Ma 11), .int (Mv 14), .ref (Ma 12), .ref (Ma 13), .ref (Ma 14), .ref (Ma 15), .ref (Ma 16), .long (Mj 0), .ref (Ma 17), .ref (Ma 18), .ref (Ma 19), .ref (Ma 20)])), ((Ma 1), .inl (tc 2, 400, .inl (Mf 1))), ((Ma 2), .inl (tc 0, 2400, .inl sv_126)), ((Ma 3), .inl (tc 0, 7, .inl sv_127))] := hD₀
            replace hS := hS₀
            clear hP₀ hD₀ hS₀
            refine lv_if_ne (tgt := 66) hx hb dX12_sum_61 (by decide) (fun c_136 => ?_) (fun c_136 => ?_)
            · skip
              have hz_139 : (r_131 : Int32).toInt = 1 := by
                have z_1 : ¬ (r_13 : Int32).toInt = (0 : Int32).toInt := fun z => c_18 (Int32.toInt_inj.mp z)
                have z_2 := congrArg Int32.toInt c_55
                have z_3 := congrArg Int32.toInt c_58
                have z_4 : ¬ (r_131 : Int32).toInt = (0 : Int32).toInt := fun z => c_136 (Int32.toInt_inj.mp z)
                have y_0 : (0 : Int32).toInt = 0 := by decide
                have y_43 : (43 : Int32).toInt = 43 := by decide
                omega
              obtain ⟨pf_137, pf_138⟩ := hm_134 hz_139
              have pf_137 : Cd sv_126 sv_127 (Mv 5) b sv_125 ((d + 1) + 1) := pf_137
              have ar_pf_137 := Cd.ar pf_137
              have pf_138 : TmO (pz_sum (rB (Mf 1) (Mv 0)) (St0 (rB (Mf 1) (Mv 0)) x_114 vy_31)) (rB (Mf 1) (Mv 0)) sv_123 sv_122 sv_125 := pf_138
              have ar_pf_138 := pf_138.1.1
              refine lv_aload_n hx hb dX12_sum_66 rfl (lv_at hl 1 rfl) ?_
              refine lv_iload_n hx hb dX12_sum_67 rfl (lv_at hl 0 rfl) ?_
              refine lv_iconst (v := 0) hx hb dX12_sum_68 (by decide) ?_
              have ha_140 : ((d + 1) : Int) ≤ sv_125.toInt := by
                have z_1 : ¬ (r_13 : Int32).toInt = (0 : Int32).toInt := fun z => c_18 (Int32.toInt_inj.mp z)
                have z_2 := congrArg Int32.toInt c_55
                have z_3 := congrArg Int32.toInt c_58
                have z_4 : ¬ (r_131 : Int32).toInt = (0 : Int32).toInt := fun z => c_136 (Int32.toInt_inj.mp z)
                have y_0 : (0 : Int32).toInt = 0 := by decide
                have y_43 : (43 : Int32).toInt = 43 := by decide
                omega
              have ha_141 : (sv_127 (Mv 5).toNatClampNeg).toInt < 400 := by
                have z_1 : ¬ (r_13 : Int32).toInt = (0 : Int32).toInt := fun z => c_18 (Int32.toInt_inj.mp z)
                have z_2 := congrArg Int32.toInt c_55
                have z_3 := congrArg Int32.toInt c_58
                have z_4 : ¬ (r_131 : Int32).toInt = (0 : Int32).toInt := fun z => c_136 (Int32.toInt_inj.mp z)
                have y_0 : (0 : Int32).toInt = 0 := by decide
                have y_43 : (43 : Int32).toInt = 43 := by decide
                omega
              refine cV (a := (Ma 0)) (As := [.int 2, .int 0]) (rest := []) (wr := [((Ma 1), .inl (tc 2, 400, .inl (Mf 1)))]) ⟨hx, hb, hml, hown, hts⟩ hK hX hA (cu_X12_puts l D tc sk (Ma 0) (Ma 1) (Ma 2) (Ma 3) (Ma 4) (Ma 5) (Ma 6) (Ma 7) (Ma 8) (Ma 9) (Ma 10) (Ma 11) (Ma 12) (Ma 13) (Ma 14) (Ma 15) (Ma 16) (Ma 17) (Ma 18) (Ma 19) (Ma 20) (Mv 0) (Mv 1) sv_122 sv_123 sv_124 (Mv 5) sv_125 (Mv 7) (Mv 8) (Mv 9) (Mv 10) (Mv 11) (Mv 12) (Mv 13) (Mv 14) sv_126 sv_127 (Mj 0) 2 0 b sv_125 ((d + 1) + 1) (d + 1) pf_137 (StpR.op (by decide) rfl (by omega)) ha_140 ha_141) k_1296 k_1293 k_1295 k_46 k_106 pl_X12_puts ⟨Nat.le_of_ble_eq_true rfl, Nat.le_of_ble_eq_true rfl⟩ rfl rfl (va_recv hK hP (ci := 12) (q0 := 0) rfl rfl) hP hD hS [0, 2, 3] [1] rfl rfl rfl rfl rfl (by decide) rfl hl.1 rfl (Nat.le_of_ble_eq_true rfl) dX12_sum_69 ⟨Nat.le_of_ble_eq_true rfl, Nat.le_of_ble_eq_true rfl⟩ (fun v_142 u_143 H locs hv_144 hP₀ hD₀ hS₀ => ?_)
              obtain ⟨sv_145, sv_146⟩ := u_143
              obtain ⟨rfl, pf_147, pf_148, pf_149⟩ := hv_144
              have pf_147 : Cd sv_145 sv_146 (Mv 5) b sv_125 (d + 1) := pf_147
              have ar_pf_147 := Cd.ar pf_147
              have pf_148 : Agr sv_126 sv_145 (400 * ((Mv 5) : Int32).toInt + (sv_127 (Mv 5).toNatClampNeg).toInt) := pf_148
              have pf_149 : (sv_146 (Mv 5).toNatClampNeg).toInt = (sv_127 (Mv 5).toNatClampNeg).toInt + 1 := pf_149
              refine W.eq (g2 := F0 m 72 ls []) rfl ?_
              replace hP : va_P D classes [((Ma 1), .inl (tc 2, 400, .inl (Mf 1))), ((Ma 0), .inr (12, [.ref (Ma 1), .int (Mv 0), .int (Mv 1), .ref (Ma 2), .ref (Ma 3), .ref (Ma 4), .ref (Ma 5), .ref (Ma 6), .int sv_122, .int sv_123, .int sv_124, .int (Mv 5), .int sv_125, .int (Mv 7), .int (Mv 8), .ref (Ma 7), .int (Mv 9), .ref (Ma 8), .int (Mv 10), .ref (Ma 9), .ref (Ma 10), .int (Mv 11), .int (Mv 12), .int (Mv 13), .ref (Ma 11), .int (Mv 14), .ref (Ma 12), .ref (Ma 13), .ref (Ma 14), .ref (Ma 15), .ref (Ma 16), .long (Mj 0), .ref (Ma 17), .ref (Ma 18), .ref (Ma 19), .ref (Ma 20)])), ((Ma 2), .inl (tc 0, 2400, .inl sv_145)), ((Ma 3), .inl (tc 0, 7, .inl sv_146))] H := hP₀
              replace hD : va_D A [((Ma 1), .inl (tc 2, 400, .inl (Mf 1))), ((Ma 0), .inr (12, [.ref (Ma 1), .int (Mv 0), .int (Mv 1), .ref (Ma 2), .ref (Ma 3), .ref (Ma 4), .ref (Ma 5), .ref (Ma 6), .int sv_122, .int sv_123, .int sv_124, .int (Mv 5), .int sv_125, .int (Mv 7), .int (Mv 8), .ref (Ma 7), .int (Mv 9), .ref (Ma 8), .int (Mv 10), .ref (Ma 9), .ref (Ma 10), .int (Mv 11), .int (Mv 12), .int (Mv 13), .ref (Ma 11), .int (Mv 14), .ref (Ma 12), .ref (Ma 13), .ref (Ma 14), .ref (Ma 15), .ref (Ma 16), .long (Mj 0), .ref (Ma 17), .ref (Ma 18), .ref (Ma 19), .ref (Ma 20)])), ((Ma 2), .inl (tc 0, 2400, .inl sv_145)), ((Ma 3), .inl (tc 0, 7, .inl sv_146))] := hD₀
              replace hS := hS₀
              clear hP₀ hD₀ hS₀
              refine lv_goto (tgt := 9) hx hb dX12_sum_72 (by decide) ?_
              have hb_150 : 400 - (sv_122 : Int32).toInt < 400 - (vy_28 : Int32).toInt ∧ 1 ≤ 400 - (vy_28 : Int32).toInt := by
                have z_1 : ¬ (r_13 : Int32).toInt = (0 : Int32).toInt := fun z => c_18 (Int32.toInt_inj.mp z)
                have z_2 := congrArg Int32.toInt c_55
                have z_3 := congrArg Int32.toInt c_58
                have z_4 : ¬ (r_131 : Int32).toInt = (0 : Int32).toInt := fun z => c_136 (Int32.toInt_inj.mp z)
                have y_0 : (0 : Int32).toInt = 0 := by decide
                have y_43 : (43 : Int32).toInt = 43 := by decide
                omega
              have ha_151 : 0 ≤ (sv_122 : Int32).toInt ∧ (sv_122 : Int32).toInt ≤ ((Mv 0) : Int32).toInt ∧ ((Mv 0) : Int32).toInt ≤ 400 := by
                have z_1 : ¬ (r_13 : Int32).toInt = (0 : Int32).toInt := fun z => c_18 (Int32.toInt_inj.mp z)
                have z_2 := congrArg Int32.toInt c_55
                have z_3 := congrArg Int32.toInt c_58
                have z_4 : ¬ (r_131 : Int32).toInt = (0 : Int32).toInt := fun z => c_136 (Int32.toInt_inj.mp z)
                have y_0 : (0 : Int32).toInt = 0 := by decide
                have y_43 : (43 : Int32).toInt = 43 := by decide
                omega
              have ha_152 : (Mv 6).toInt ≤ (sv_125 : Int32).toInt ∧ (sv_125 : Int32).toInt ≤ 60 := by
                have z_1 : ¬ (r_13 : Int32).toInt = (0 : Int32).toInt := fun z => c_18 (Int32.toInt_inj.mp z)
                have z_2 := congrArg Int32.toInt c_55
                have z_3 := congrArg Int32.toInt c_58
                have z_4 : ¬ (r_131 : Int32).toInt = (0 : Int32).toInt := fun z => c_136 (Int32.toInt_inj.mp z)
                have y_0 : (0 : Int32).toInt = 0 := by decide
                have y_43 : (43 : Int32).toInt = 43 := by decide
                omega
              have ha_153 : ((Mf 3) (Mv 5).toNatClampNeg).toInt + 1 ≤ (sv_146 (Mv 5).toNatClampNeg).toInt ∧ (sv_146 (Mv 5).toNatClampNeg).toInt + ((Mv 2) : Int32).toInt ≤ ((Mf 3) (Mv 5).toNatClampNeg).toInt + (sv_122 : Int32).toInt ∧ ((Mv 2) : Int32).toInt + 1 ≤ (sv_122 : Int32).toInt := by
                have z_1 : ¬ (r_13 : Int32).toInt = (0 : Int32).toInt := fun z => c_18 (Int32.toInt_inj.mp z)
                have z_2 := congrArg Int32.toInt c_55
                have z_3 := congrArg Int32.toInt c_58
                have z_4 : ¬ (r_131 : Int32).toInt = (0 : Int32).toInt := fun z => c_136 (Int32.toInt_inj.mp z)
                have y_0 : (0 : Int32).toInt = 0 := by decide
                have y_43 : (43 : Int32).toInt = 43 := by decide
                omega
              have hr_154 : (400 * ((Mv 5) : Int32).toInt + ((Mf 3) (Mv 5).toNatClampNeg).toInt) ≤ (400 * ((Mv 5) : Int32).toInt + ((Mf 3) (Mv 5).toNatClampNeg).toInt) := by
                have z_1 : ¬ (r_13 : Int32).toInt = (0 : Int32).toInt := fun z => c_18 (Int32.toInt_inj.mp z)
                have z_2 := congrArg Int32.toInt c_55
                have z_3 := congrArg Int32.toInt c_58
                have z_4 : ¬ (r_131 : Int32).toInt = (0 : Int32).toInt := fun z => c_136 (Int32.toInt_inj.mp z)
                have y_0 : (0 : Int32).toInt = 0 := by decide
                have y_43 : (43 : Int32).toInt = 43 := by decide
                omega
              have hr_155 : (400 * ((Mv 5) : Int32).toInt + ((Mf 3) (Mv 5).toNatClampNeg).toInt) ≤ (400 * ((Mv 5) : Int32).toInt + (vy_33 (Mv 5).toNatClampNeg).toInt) := by
                have z_1 : ¬ (r_13 : Int32).toInt = (0 : Int32).toInt := fun z => c_18 (Int32.toInt_inj.mp z)
                have z_2 := congrArg Int32.toInt c_55
                have z_3 := congrArg Int32.toInt c_58
                have z_4 : ¬ (r_131 : Int32).toInt = (0 : Int32).toInt := fun z => c_136 (Int32.toInt_inj.mp z)
                have y_0 : (0 : Int32).toInt = 0 := by decide
                have y_43 : (43 : Int32).toInt = 43 := by decide
                omega
              have hr_156 : (400 * ((Mv 5) : Int32).toInt + ((Mf 3) (Mv 5).toNatClampNeg).toInt) ≤ (400 * ((Mv 5) : Int32).toInt + (sv_127 (Mv 5).toNatClampNeg).toInt) := by
                have z_1 : ¬ (r_13 : Int32).toInt = (0 : Int32).toInt := fun z => c_18 (Int32.toInt_inj.mp z)
                have z_2 := congrArg Int32.toInt c_55
                have z_3 := congrArg Int32.toInt c_58
                have z_4 : ¬ (r_131 : Int32).toInt = (0 : Int32).toInt := fun z => c_136 (Int32.toInt_inj.mp z)
                have y_0 : (0 : Int32).toInt = 0 := by decide
                have y_43 : (43 : Int32).toInt = 43 := by decide
                omega
              have hr_157 : (rB (Mf 1) (Mv 0) (sv_47 : Int32).toInt.toNat = 43 ∨ rB (Mf 1) (Mv 0) (sv_47 : Int32).toInt.toNat = 45) := by
                have z_1 : ¬ (r_13 : Int32).toInt = (0 : Int32).toInt := fun z => c_18 (Int32.toInt_inj.mp z)
                have z_2 := congrArg Int32.toInt c_55
                have z_3 := congrArg Int32.toInt c_58
                have z_4 : ¬ (r_131 : Int32).toInt = (0 : Int32).toInt := fun z => c_136 (Int32.toInt_inj.mp z)
                have y_0 : (0 : Int32).toInt = 0 := by decide
                have y_43 : (43 : Int32).toInt = 43 := by decide
                omega
              have hi_158 : (x_114 : Int32).toInt = (sv_47 : Int32).toInt + 1 := by
                have z_1 : ¬ (r_13 : Int32).toInt = (0 : Int32).toInt := fun z => c_18 (Int32.toInt_inj.mp z)
                have z_2 := congrArg Int32.toInt c_55
                have z_3 := congrArg Int32.toInt c_58
                have z_4 : ¬ (r_131 : Int32).toInt = (0 : Int32).toInt := fun z => c_136 (Int32.toInt_inj.mp z)
                have y_0 : (0 : Int32).toInt = 0 := by decide
                have y_43 : (43 : Int32).toInt = 43 := by decide
                have y_1 : (1 : Int32).toInt = 1 := by decide
                have t_x_114 : x_114.toInt = (sv_47 : Int32).toInt + (1 : Int32).toInt := by rw [ex_114]; exact add_toInt (by omega) (by omega)
                omega
              exact ih_35 sv_122 sv_123 sv_124 sv_125 sv_145 sv_146 _ _ _ (by omega) ha_151 ha_152 ha_153 (Agr.trans (k' := (400 * ((Mv 5) : Int32).toInt + ((Mf 3) (Mv 5).toNatClampNeg).toInt)) (Agr.trans (k' := (400 * ((Mv 5) : Int32).toInt + ((Mf 3) (Mv 5).toNatClampNeg).toInt)) (Agr.mono pf_40 hr_154) pf_130 ⟨Int.le_refl _, hr_155⟩) pf_148 ⟨Int.le_refl _, hr_156⟩) pf_147 (TmO.next (rB_fi h_nx.2.2) pf_42 pf_51 hr_157 hi_158 pf_138) (hP.sub [1, 0, 2, 3] rfl) (hD.sub [1, 0, 2, 3] rfl rfl) hS (lv_sub hl [1] rfl)
            · skip
              have hz_160 : (r_131 : Int32).toInt = 0 := by
                have z_1 : ¬ (r_13 : Int32).toInt = (0 : Int32).toInt := fun z => c_18 (Int32.toInt_inj.mp z)
                have z_2 := congrArg Int32.toInt c_55
                have z_3 := congrArg Int32.toInt c_58
                have z_4 := congrArg Int32.toInt c_136
                have y_0 : (0 : Int32).toInt = 0 := by decide
                have y_43 : (43 : Int32).toInt = 43 := by decide
                omega
              obtain pf_159 := hm_135 hz_160
              have pf_159 : RfE (pz_sum (rB (Mf 1) (Mv 0)) (St0 (rB (Mf 1) (Mv 0)) x_114 vy_31)) sv_123 := pf_159
              refine lv_iconst (v := 0) hx hb dX12_sum_64 (by decide) ?_
              have ha_161 : ((Mv 2) : Int32).toInt ≤ (sv_122 : Int32).toInt ∧ (sv_122 : Int32).toInt ≤ ((Mv 0) : Int32).toInt := by
                have z_1 : ¬ (r_13 : Int32).toInt = (0 : Int32).toInt := fun z => c_18 (Int32.toInt_inj.mp z)
                have z_2 := congrArg Int32.toInt c_55
                have z_3 := congrArg Int32.toInt c_58
                have z_4 := congrArg Int32.toInt c_136
                have y_0 : (0 : Int32).toInt = 0 := by decide
                have y_43 : (43 : Int32).toInt = 43 := by decide
                omega
              have ha_162 : ((Mv 6) : Int32).toInt ≤ (sv_125 : Int32).toInt ∧ (sv_125 : Int32).toInt ≤ 60 := by
                have z_1 : ¬ (r_13 : Int32).toInt = (0 : Int32).toInt := fun z => c_18 (Int32.toInt_inj.mp z)
                have z_2 := congrArg Int32.toInt c_55
                have z_3 := congrArg Int32.toInt c_58
                have z_4 := congrArg Int32.toInt c_136
                have y_0 : (0 : Int32).toInt = 0 := by decide
                have y_43 : (43 : Int32).toInt = 43 := by decide
                omega
              have hr_163 : (400 * ((Mv 5) : Int32).toInt + ((Mf 3) (Mv 5).toNatClampNeg).toInt) ≤ (400 * ((Mv 5) : Int32).toInt + ((Mf 3) (Mv 5).toNatClampNeg).toInt) := by
                have z_1 : ¬ (r_13 : Int32).toInt = (0 : Int32).toInt := fun z => c_18 (Int32.toInt_inj.mp z)
                have z_2 := congrArg Int32.toInt c_55
                have z_3 := congrArg Int32.toInt c_58
                have z_4 := congrArg Int32.toInt c_136
                have y_0 : (0 : Int32).toInt = 0 := by decide
                have y_43 : (43 : Int32).toInt = 43 := by decide
                omega
              have hr_164 : (400 * ((Mv 5) : Int32).toInt + ((Mf 3) (Mv 5).toNatClampNeg).toInt) ≤ (400 * ((Mv 5) : Int32).toInt + (vy_33 (Mv 5).toNatClampNeg).toInt) := by
                have z_1 : ¬ (r_13 : Int32).toInt = (0 : Int32).toInt := fun z => c_18 (Int32.toInt_inj.mp z)
                have z_2 := congrArg Int32.toInt c_55
                have z_3 := congrArg Int32.toInt c_58
                have z_4 := congrArg Int32.toInt c_136
                have y_0 : (0 : Int32).toInt = 0 := by decide
                have y_43 : (43 : Int32).toInt = 43 := by decide
                omega
              have hp_165 : (((0 : Int32).toInt = 0 ∧ ¬ (sv_123 : Int32).toInt = 0) ∨ ((0 : Int32).toInt = 1 ∧ ((Mf 3) (Mv 5).toNatClampNeg).toInt + 1 ≤ (sv_127 (Mv 5).toNatClampNeg).toInt ∧ (sv_127 (Mv 5).toNatClampNeg).toInt + ((Mv 2) : Int32).toInt ≤ ((Mf 3) (Mv 5).toNatClampNeg).toInt + (sv_122 : Int32).toInt ∧ ((Mv 2) : Int32).toInt + 1 ≤ (sv_122 : Int32).toInt)) := by
                have z_1 : ¬ (r_13 : Int32).toInt = (0 : Int32).toInt := fun z => c_18 (Int32.toInt_inj.mp z)
                have z_2 := congrArg Int32.toInt c_55
                have z_3 := congrArg Int32.toInt c_58
                have z_4 := congrArg Int32.toInt c_136
                have y_0 : (0 : Int32).toInt = 0 := by decide
                have y_43 : (43 : Int32).toInt = 43 := by decide
                omega
              have hm_166 : (0 : Int32).toInt = 0 → (RfE (pz_sum (rB (Mf 1) (Mv 0)) (St0 (rB (Mf 1) (Mv 0)) (Mv 2) (Mv 6))) sv_123) := by
                intro h1r
                have hr_167 : (rB (Mf 1) (Mv 0) (sv_47 : Int32).toInt.toNat = 43 ∨ rB (Mf 1) (Mv 0) (sv_47 : Int32).toInt.toNat = 45) := by
                  have z_1 : ¬ (r_13 : Int32).toInt = (0 : Int32).toInt := fun z => c_18 (Int32.toInt_inj.mp z)
                  have z_2 := congrArg Int32.toInt c_55
                  have z_3 := congrArg Int32.toInt c_58
                  have z_4 := congrArg Int32.toInt c_136
                  have y_0 : (0 : Int32).toInt = 0 := by decide
                  have y_43 : (43 : Int32).toInt = 43 := by decide
                  omega
                have hi_168 : (x_114 : Int32).toInt = (sv_47 : Int32).toInt + 1 := by
                  have z_1 : ¬ (r_13 : Int32).toInt = (0 : Int32).toInt := fun z => c_18 (Int32.toInt_inj.mp z)
                  have z_2 := congrArg Int32.toInt c_55
                  have z_3 := congrArg Int32.toInt c_58
                  have z_4 := congrArg Int32.toInt c_136
                  have y_0 : (0 : Int32).toInt = 0 := by decide
                  have y_43 : (43 : Int32).toInt = 43 := by decide
                  have y_1 : (1 : Int32).toInt = 1 := by decide
                  have t_x_114 : x_114.toInt = (sv_47 : Int32).toInt + (1 : Int32).toInt := by rw [ex_114]; exact add_toInt (by omega) (by omega)
                  omega
                exact (TmO.er (rB_fi h_nx.2.2) pf_42 pf_51 hr_167 hi_168 pf_159)
              exact retI (v := 0) hx hb hr hlk (rfl) hP hD hS (sv_122, sv_123, sv_124, sv_125, sv_126, sv_127) ⟨_, rfl, hp_165, ha_161, ha_162, (Agr.trans (k' := (400 * ((Mv 5) : Int32).toInt + ((Mf 3) (Mv 5).toNatClampNeg).toInt)) (Agr.mono pf_40 hr_163) pf_130 ⟨Int.le_refl _, hr_164⟩), (fun h => absurd h (by decide)), hm_166⟩ [0, 1, 2, 3] rfl rfl dX12_sum_65 (Nat.le_of_ble_eq_true rfl) (Nat.le_of_ble_eq_true rfl) rfl
        · skip
          refine lv_aload_n hx hb dX12_sum_18 rfl (lv_at hl 0 rfl) ?_
          have ha_169 : 0 ≤ (sv_47 : Int32).toInt ∧ (sv_47 : Int32).toInt ≤ ((Mv 0) : Int32).toInt ∧ ((Mv 0) : Int32).toInt ≤ 400 := by
            have z_1 : ¬ (r_13 : Int32).toInt = (0 : Int32).toInt := fun z => c_18 (Int32.toInt_inj.mp z)
            have z_2 : ¬ (r_52 : Int32).toInt = (43 : Int32).toInt := fun z => c_55 (Int32.toInt_inj.mp z)
            have y_0 : (0 : Int32).toInt = 0 := by decide
            have y_43 : (43 : Int32).toInt = 43 := by decide
            omega
          refine cV (a := (Ma 0)) (As := []) (rest := []) (wr := [((Ma 2), .inl (tc 0, 2400, .inl vy_32)), ((Ma 3), .inl (tc 0, 7, .inl vy_33))]) ⟨hx, hb, hml, hown, hts⟩ hK hX hA (cu_fX12_see l D tc sk (Ma 0) (Ma 1) (Ma 2) (Ma 3) (Ma 4) (Ma 5) (Ma 6) (Ma 7) (Ma 8) (Ma 9) (Ma 10) (Ma 11) (Ma 12) (Ma 13) (Ma 14) (Ma 15) (Ma 16) (Ma 17) (Ma 18) (Ma 19) (Ma 20) (Mv 0) (Mv 1) sv_47 vy_29 vy_30 (Mv 5) vy_31 (Mv 7) (Mv 8) (Mv 9) (Mv 10) (Mv 11) (Mv 12) (Mv 13) (Mv 14) (Mf 1) (Mj 0) ha_169 h_bs) k_1211 k_1208 k_1210 k_27 k_106 pl_X12_see ⟨Nat.le_of_ble_eq_true rfl, Nat.le_of_ble_eq_true rfl⟩ rfl rfl (va_recv hK hP (ci := 12) (q0 := 2) rfl rfl) hP hD hS [2, 3] [0, 1] rfl rfl rfl rfl rfl (by decide) rfl hl.1 rfl (Nat.le_of_ble_eq_true rfl) dX12_sum_19 ⟨Nat.le_of_ble_eq_true rfl, Nat.le_of_ble_eq_true rfl⟩ (fun v_170 u_171 H locs hv_172 hP₀ hD₀ hS₀ => ?_)
          obtain ⟨sv_173, rfl⟩ : ∃ z, z = u_171 := ⟨_, rfl⟩
          obtain ⟨r_178, rfl, he_179, pf_174, pf_175, pf_176, pf_177⟩ := hv_172
          have he_179 : (r_178.toInt = rB (Mf 1) (Mv 0) (sv_173 : Int32).toInt.toNat ∧ (r_178.toInt = -1 ∨ (sv_173 : Int32).toInt < (Mv 0).toInt)) := he_179
          have pf_174 : (sv_47 : Int32).toInt ≤ (sv_173 : Int32).toInt ∧ (sv_173 : Int32).toInt ≤ ((Mv 0) : Int32).toInt := pf_174
          have pf_175 : NSq (Mf 1) (Mv 0) sv_173 := pf_175
          have pf_176 : Stl (Mf 1) (Mv 0) sv_47 sv_173 := pf_176
          have ar_pf_176 := Stl.or pf_176 pf_49
          have pf_177 : SkR (rB (Mf 1) (Mv 0)) sv_47 sv_173 := pf_177
          refine W.eq (g2 := F0 m 22 ls [.int r_178]) rfl ?_
          replace hP : va_P D classes [((Ma 2), .inl (tc 0, 2400, .inl vy_32)), ((Ma 3), .inl (tc 0, 7, .inl vy_33)), ((Ma 0), .inr (12, [.ref (Ma 1), .int (Mv 0), .int (Mv 1), .ref (Ma 2), .ref (Ma 3), .ref (Ma 4), .ref (Ma 5), .ref (Ma 6), .int sv_173, .int vy_29, .int vy_30, .int (Mv 5), .int vy_31, .int (Mv 7), .int (Mv 8), .ref (Ma 7), .int (Mv 9), .ref (Ma 8), .int (Mv 10), .ref (Ma 9), .ref (Ma 10), .int (Mv 11), .int (Mv 12), .int (Mv 13), .ref (Ma 11), .int (Mv 14), .ref (Ma 12), .ref (Ma 13), .ref (Ma 14), .ref (Ma 15), .ref (Ma 16), .long (Mj 0), .ref (Ma 17), .ref (Ma 18), .ref (Ma 19), .ref (Ma 20)])), ((Ma 1), .inl (tc 2, 400, .inl (Mf 1)))] H := hP₀
          replace hD : va_D A [((Ma 2), .inl (tc 0, 2400, .inl vy_32)), ((Ma 3), .inl (tc 0, 7, .inl vy_33)), ((Ma 0), .inr (12, [.ref (Ma 1), .int (Mv 0), .int (Mv 1), .ref (Ma 2), .ref (Ma 3), .ref (Ma 4), .ref (Ma 5), .ref (Ma 6), .int sv_173, .int vy_29, .int vy_30, .int (Mv 5), .int vy_31, .int (Mv 7), .int (Mv 8), .ref (Ma 7), .int (Mv 9), .ref (Ma 8), .int (Mv 10), .ref (Ma 9), .ref (Ma 10), .int (Mv 11), .int (Mv 12), .int (Mv 13), .ref (Ma 11), .int (Mv 14), .ref (Ma 12), .ref (Ma 13), .ref (Ma 14), .ref (Ma 15), .ref (Ma 16), .long (Mj 0), .ref (Ma 17), .ref (Ma 18), .ref (Ma 19), .ref (Ma 20)])), ((Ma 1), .inl (tc 2, 400, .inl (Mf 1)))] := hD₀
          replace hS := hS₀
          clear hP₀ hD₀ hS₀
          have hE_181 := SkR.eqB pf_51 pf_177
          refine lv_bipush (v := 45) hx hb dX12_sum_22 (by decide) ?_
          refine lv_icmp_ne (tgt := 75) hx hb dX12_sum_24 (by decide) (fun c_182 => ?_) (fun c_182 => ?_)
          · skip
            refine lv_iconst (v := 1) hx hb dX12_sum_75 (by decide) ?_
            have ha_183 : ((Mv 2) : Int32).toInt ≤ (sv_173 : Int32).toInt ∧ (sv_173 : Int32).toInt ≤ ((Mv 0) : Int32).toInt := by
              have z_1 : ¬ (r_13 : Int32).toInt = (0 : Int32).toInt := fun z => c_18 (Int32.toInt_inj.mp z)
              have z_2 : ¬ (r_52 : Int32).toInt = (43 : Int32).toInt := fun z => c_55 (Int32.toInt_inj.mp z)
              have z_3 : ¬ (r_178 : Int32).toInt = (45 : Int32).toInt := fun z => c_182 (Int32.toInt_inj.mp z)
              have y_0 : (0 : Int32).toInt = 0 := by decide
              have y_43 : (43 : Int32).toInt = 43 := by decide
              have y_45 : (45 : Int32).toInt = 45 := by decide
              omega
            have ha_184 : ((Mv 6) : Int32).toInt ≤ (vy_31 : Int32).toInt ∧ (vy_31 : Int32).toInt ≤ 60 := by
              have z_1 : ¬ (r_13 : Int32).toInt = (0 : Int32).toInt := fun z => c_18 (Int32.toInt_inj.mp z)
              have z_2 : ¬ (r_52 : Int32).toInt = (43 : Int32).toInt := fun z => c_55 (Int32.toInt_inj.mp z)
              have z_3 : ¬ (r_178 : Int32).toInt = (45 : Int32).toInt := fun z => c_182 (Int32.toInt_inj.mp z)
              have y_0 : (0 : Int32).toInt = 0 := by decide
              have y_43 : (43 : Int32).toInt = 43 := by decide
              have y_45 : (45 : Int32).toInt = 45 := by decide
              omega
            have hp_185 : (((1 : Int32).toInt = 0 ∧ ¬ (vy_29 : Int32).toInt = 0) ∨ ((1 : Int32).toInt = 1 ∧ ((Mf 3) (Mv 5).toNatClampNeg).toInt + 1 ≤ (vy_33 (Mv 5).toNatClampNeg).toInt ∧ (vy_33 (Mv 5).toNatClampNeg).toInt + ((Mv 2) : Int32).toInt ≤ ((Mf 3) (Mv 5).toNatClampNeg).toInt + (sv_173 : Int32).toInt ∧ ((Mv 2) : Int32).toInt + 1 ≤ (sv_173 : Int32).toInt)) := by
              have z_1 : ¬ (r_13 : Int32).toInt = (0 : Int32).toInt := fun z => c_18 (Int32.toInt_inj.mp z)
              have z_2 : ¬ (r_52 : Int32).toInt = (43 : Int32).toInt := fun z => c_55 (Int32.toInt_inj.mp z)
              have z_3 : ¬ (r_178 : Int32).toInt = (45 : Int32).toInt := fun z => c_182 (Int32.toInt_inj.mp z)
              have y_0 : (0 : Int32).toInt = 0 := by decide
              have y_43 : (43 : Int32).toInt = 43 := by decide
              have y_45 : (45 : Int32).toInt = 45 := by decide
              have y_1 : (1 : Int32).toInt = 1 := by decide
              have yr : (1 : Int32).toInt = 1 := by decide
              omega
            have hm_186 : (1 : Int32).toInt = 1 → (Cd vy_32 vy_33 (Mv 5) b vy_31 (d + 1)) ∧ (RfO (pz_sum (rB (Mf 1) (Mv 0)) (St0 (rB (Mf 1) (Mv 0)) (Mv 2) (Mv 6))) (rB (Mf 1) (Mv 0)) vy_29 sv_173 vy_31) := by
              intro h1r
              have hr_187 : ¬ (rB (Mf 1) (Mv 0) (sv_173 : Int32).toInt.toNat = 43 ∨ rB (Mf 1) (Mv 0) (sv_173 : Int32).toInt.toNat = 45) := by
                have z_1 : ¬ (r_13 : Int32).toInt = (0 : Int32).toInt := fun z => c_18 (Int32.toInt_inj.mp z)
                have z_2 : ¬ (r_52 : Int32).toInt = (43 : Int32).toInt := fun z => c_55 (Int32.toInt_inj.mp z)
                have z_3 : ¬ (r_178 : Int32).toInt = (45 : Int32).toInt := fun z => c_182 (Int32.toInt_inj.mp z)
                have y_0 : (0 : Int32).toInt = 0 := by decide
                have y_43 : (43 : Int32).toInt = 43 := by decide
                have y_45 : (45 : Int32).toInt = 45 := by decide
                omega
              have hr_188 : 0 ≤ (vy_31 : Int32).toInt := by
                have z_1 : ¬ (r_13 : Int32).toInt = (0 : Int32).toInt := fun z => c_18 (Int32.toInt_inj.mp z)
                have z_2 : ¬ (r_52 : Int32).toInt = (43 : Int32).toInt := fun z => c_55 (Int32.toInt_inj.mp z)
                have z_3 : ¬ (r_178 : Int32).toInt = (45 : Int32).toInt := fun z => c_182 (Int32.toInt_inj.mp z)
                have y_0 : (0 : Int32).toInt = 0 := by decide
                have y_43 : (43 : Int32).toInt = 43 := by decide
                have y_45 : (45 : Int32).toInt = 45 := by decide
                omega
              exact ⟨pf_41, (TmO.fin pf_42 (SkR.trans pf_51 pf_177) hr_187 hr_188)⟩
            exact retI (v := 1) hx hb hr hlk (rfl) hP hD hS (sv_173, vy_29, vy_30, vy_31, vy_32, vy_33) ⟨_, rfl, hp_185, ha_183, ha_184, pf_40, hm_186, (fun h => absurd h (by decide))⟩ [2, 3, 0, 1] rfl rfl dX12_sum_76 (Nat.le_of_ble_eq_true rfl) (Nat.le_of_ble_eq_true rfl) rfl
          · skip
            refine lv_aload_n hx hb dX12_sum_27 rfl (lv_at hl 0 rfl) ?_
            refine gf_X12_7 hx hb hts hown hK hP 2 rfl rfl dX12_sum_28 ?_
            refine lv_aload_n hx hb dX12_sum_31 rfl (lv_at hl 0 rfl) ?_
            refine gf_X12_87 hx hb hts hown hK hP 2 rfl rfl dX12_sum_32 ?_
            have hi_189 : vp_in sv_173 400 := by
              have z_1 : ¬ (r_13 : Int32).toInt = (0 : Int32).toInt := fun z => c_18 (Int32.toInt_inj.mp z)
              have z_2 : ¬ (r_52 : Int32).toInt = (43 : Int32).toInt := fun z => c_55 (Int32.toInt_inj.mp z)
              have z_3 := congrArg Int32.toInt c_182
              have y_0 : (0 : Int32).toInt = 0 := by decide
              have y_43 : (43 : Int32).toInt = 43 := by decide
              have y_45 : (45 : Int32).toInt = 45 := by decide
              refine vp_in_iff.mpr ⟨?_, ?_⟩ <;> omega
            refine va_bald hx hb hK hP 3 2 rfl rfl hi_189 dX12_sum_35 ?_
            refine lv_topi (fun x_190 ex_190 => ?_)
            have kx_190 : x_190.toInt = ((Mf 1) (sv_173 : Int32).toInt.toNat).toInt := congrArg Int32.toInt ex_190
            have kcx_190 : x_190.toInt = ((Mf 1) (sv_173 : Int32).toNatClampNeg).toInt := congrArg Int32.toInt ex_190
            refine lv_bipush (v := 43) hx hb dX12_sum_36 (by decide) ?_
            refine lv_icmp_ne (tgt := 45) hx hb dX12_sum_38 (by decide) (fun c_191 => ?_) (fun c_191 => ?_)
            · skip
              refine lv_iconst (v := 3) hx hb dX12_sum_45 (by decide) ?_
              refine lv_istore_n (lv' := [(1, .int 3), (0, .ref (Ma 0))]) hx hb dX12_sum_46 rfl hl (by decide) rfl (fun ls hl₀ => ?_)
              replace hl := hl₀
              clear hl₀
              refine lv_aload_n hx hb dX12_sum_47 rfl (lv_at hl 1 rfl) ?_
              refine lv_dup hx hb dX12_sum_48 rfl ?_
              refine gf_X12_87 hx hb hts hown hK hP 2 rfl rfl dX12_sum_49 ?_
              refine lv_iconst (v := 1) hx hb dX12_sum_52 (by decide) ?_
              refine lv_iadd hx hb dX12_sum_53 ?_
              refine lv_topi (fun x_192 ex_192 => ?_)
              refine pf_X12_87 hx hb hts hown hK hP hD hS 2 rfl (Nat.le_of_ble_eq_true rfl) rfl rfl dX12_sum_54 (fun H locs hP₀ hD₀ hS₀ => ?_)
              replace hP : va_P D classes [((Ma 2), .inl (tc 0, 2400, .inl vy_32)), ((Ma 3), .inl (tc 0, 7, .inl vy_33)), ((Ma 0), .inr (12, [.ref (Ma 1), .int (Mv 0), .int (Mv 1), .ref (Ma 2), .ref (Ma 3), .ref (Ma 4), .ref (Ma 5), .ref (Ma 6), .int x_192, .int vy_29, .int vy_30, .int (Mv 5), .int vy_31, .int (Mv 7), .int (Mv 8), .ref (Ma 7), .int (Mv 9), .ref (Ma 8), .int (Mv 10), .ref (Ma 9), .ref (Ma 10), .int (Mv 11), .int (Mv 12), .int (Mv 13), .ref (Ma 11), .int (Mv 14), .ref (Ma 12), .ref (Ma 13), .ref (Ma 14), .ref (Ma 15), .ref (Ma 16), .long (Mj 0), .ref (Ma 17), .ref (Ma 18), .ref (Ma 19), .ref (Ma 20)])), ((Ma 1), .inl (tc 2, 400, .inl (Mf 1)))] H := hP₀
              replace hD : va_D A [((Ma 2), .inl (tc 0, 2400, .inl vy_32)), ((Ma 3), .inl (tc 0, 7, .inl vy_33)), ((Ma 0), .inr (12, [.ref (Ma 1), .int (Mv 0), .int (Mv 1), .ref (Ma 2), .ref (Ma 3), .ref (Ma 4), .ref (Ma 5), .ref (Ma 6), .int x_192, .int vy_29, .int vy_30, .int (Mv 5), .int vy_31, .int (Mv 7), .int (Mv 8), .ref (Ma 7), .int (Mv 9), .ref (Ma 8), .int (Mv 10), .ref (Ma 9), .ref (Ma 10), .int (Mv 11), .int (Mv 12), .int (Mv 13), .ref (Ma 11), .int (Mv 14), .ref (Ma 12), .ref (Ma 13), .ref (Ma 14), .ref (Ma 15), .ref (Ma 16), .long (Mj 0), .ref (Ma 17), .ref (Ma 18), .ref (Ma 19), .ref (Ma 20)])), ((Ma 1), .inl (tc 2, 400, .inl (Mf 1)))] := hD₀
              replace hS := hS₀
              clear hP₀ hD₀ hS₀
              have tp_x_192 : (x_192 : Int32).toInt = (sv_173 : Int32).toInt + 1 := by
                have z_1 : ¬ (r_13 : Int32).toInt = (0 : Int32).toInt := fun z => c_18 (Int32.toInt_inj.mp z)
                have z_2 : ¬ (r_52 : Int32).toInt = (43 : Int32).toInt := fun z => c_55 (Int32.toInt_inj.mp z)
                have z_3 := congrArg Int32.toInt c_182
                have z_4 : ¬ (x_190 : Int32).toInt = (43 : Int32).toInt := fun z => c_191 (Int32.toInt_inj.mp z)
                have y_0 : (0 : Int32).toInt = 0 := by decide
                have y_43 : (43 : Int32).toInt = 43 := by decide
                have y_45 : (45 : Int32).toInt = 45 := by decide
                have y_1 : (1 : Int32).toInt = 1 := by decide
                have t_x_192 : x_192.toInt = (sv_173 : Int32).toInt + (1 : Int32).toInt := by rw [ex_192]; exact add_toInt (by omega) (by omega)
                omega
              refine lv_aload_n hx hb dX12_sum_57 rfl (lv_at hl 1 rfl) ?_
              have ha_193 : 0 ≤ (x_192 : Int32).toInt ∧ (x_192 : Int32).toInt ≤ ((Mv 0) : Int32).toInt ∧ ((Mv 0) : Int32).toInt ≤ 400 := by
                have z_1 : ¬ (r_13 : Int32).toInt = (0 : Int32).toInt := fun z => c_18 (Int32.toInt_inj.mp z)
                have z_2 : ¬ (r_52 : Int32).toInt = (43 : Int32).toInt := fun z => c_55 (Int32.toInt_inj.mp z)
                have z_3 := congrArg Int32.toInt c_182
                have z_4 : ¬ (x_190 : Int32).toInt = (43 : Int32).toInt := fun z => c_191 (Int32.toInt_inj.mp z)
                have y_0 : (0 : Int32).toInt = 0 := by decide
                have y_43 : (43 : Int32).toInt = 43 := by decide
                have y_45 : (45 : Int32).toInt = 45 := by decide
                have y_1 : (1 : Int32).toInt = 1 := by decide
                have t_x_192 : x_192.toInt = (sv_173 : Int32).toInt + (1 : Int32).toInt := by rw [ex_192]; exact add_toInt (by omega) (by omega)
                omega
              have ha_194 : (vy_33 (Mv 5).toNatClampNeg).toInt ≤ (x_192 : Int32).toInt := by
                have z_1 : ¬ (r_13 : Int32).toInt = (0 : Int32).toInt := fun z => c_18 (Int32.toInt_inj.mp z)
                have z_2 : ¬ (r_52 : Int32).toInt = (43 : Int32).toInt := fun z => c_55 (Int32.toInt_inj.mp z)
                have z_3 := congrArg Int32.toInt c_182
                have z_4 : ¬ (x_190 : Int32).toInt = (43 : Int32).toInt := fun z => c_191 (Int32.toInt_inj.mp z)
                have y_0 : (0 : Int32).toInt = 0 := by decide
                have y_43 : (43 : Int32).toInt = 43 := by decide
                have y_45 : (45 : Int32).toInt = 45 := by decide
                have y_1 : (1 : Int32).toInt = 1 := by decide
                have t_x_192 : x_192.toInt = (sv_173 : Int32).toInt + (1 : Int32).toInt := by rw [ex_192]; exact add_toInt (by omega) (by omega)
                omega
              have ha_195 : 0 ≤ (vy_31 : Int32).toInt ∧ (vy_31 : Int32).toInt ≤ 60 := by
                have z_1 : ¬ (r_13 : Int32).toInt = (0 : Int32).toInt := fun z => c_18 (Int32.toInt_inj.mp z)
                have z_2 : ¬ (r_52 : Int32).toInt = (43 : Int32).toInt := fun z => c_55 (Int32.toInt_inj.mp z)
                have z_3 := congrArg Int32.toInt c_182
                have z_4 : ¬ (x_190 : Int32).toInt = (43 : Int32).toInt := fun z => c_191 (Int32.toInt_inj.mp z)
                have y_0 : (0 : Int32).toInt = 0 := by decide
                have y_43 : (43 : Int32).toInt = 43 := by decide
                have y_45 : (45 : Int32).toInt = 45 := by decide
                omega
              have ha_196 : (vy_29 : Int32).toInt = 0 := by
                have z_1 : ¬ (r_13 : Int32).toInt = (0 : Int32).toInt := fun z => c_18 (Int32.toInt_inj.mp z)
                have z_2 : ¬ (r_52 : Int32).toInt = (43 : Int32).toInt := fun z => c_55 (Int32.toInt_inj.mp z)
                have z_3 := congrArg Int32.toInt c_182
                have z_4 : ¬ (x_190 : Int32).toInt = (43 : Int32).toInt := fun z => c_191 (Int32.toInt_inj.mp z)
                have y_0 : (0 : Int32).toInt = 0 := by decide
                have y_43 : (43 : Int32).toInt = 43 := by decide
                have y_45 : (45 : Int32).toInt = 45 := by decide
                omega
              refine cV (a := (Ma 0)) (As := []) (rest := []) (wr := []) ⟨hx, hb, hml, hown, hts⟩ hK hX hA (cu_fX12_term l D tc sk (Ma 0) (Ma 1) (Ma 2) (Ma 3) (Ma 4) (Ma 5) (Ma 6) (Ma 7) (Ma 8) (Ma 9) (Ma 10) (Ma 11) (Ma 12) (Ma 13) (Ma 14) (Ma 15) (Ma 16) (Ma 17) (Ma 18) (Ma 19) (Ma 20) (Mv 0) (Mv 1) x_192 vy_29 vy_30 (Mv 5) vy_31 (Mv 7) (Mv 8) (Mv 9) (Mv 10) (Mv 11) (Mv 12) (Mv 13) (Mv 14) (Mf 1) vy_32 vy_33 (Mj 0) b (d + 1) ha_193 pf_41 ha_194 ha_195 h_bs ha_196) k_1283 k_1280 k_1282 k_43 k_106 pl_X12_term ⟨Nat.le_of_ble_eq_true rfl, Nat.le_of_ble_eq_true rfl⟩ rfl rfl (va_recv hK hP (ci := 12) (q0 := 2) rfl rfl) hP hD hS [2, 3, 0, 1] [] rfl rfl rfl rfl rfl (by decide) rfl hl.1 rfl (Nat.le_of_ble_eq_true rfl) dX12_sum_58 ⟨Nat.le_of_ble_eq_true rfl, Nat.le_of_ble_eq_true rfl⟩ (fun v_197 u_198 H locs hv_199 hP₀ hD₀ hS₀ => ?_)
              obtain ⟨sv_200, sv_201, sv_202, sv_203, sv_204, sv_205⟩ := u_198
              obtain ⟨r_209, rfl, he_210, pf_206, pf_207, pf_208, hm_212, hm_213⟩ := hv_199
              have he_210 : ((r_209.toInt = 0 ∧ ¬ (sv_201 : Int32).toInt = 0) ∨ (r_209.toInt = 1 ∧ (vy_33 (Mv 5).toNatClampNeg).toInt + 1 ≤ (sv_205 (Mv 5).toNatClampNeg).toInt ∧ (sv_205 (Mv 5).toNatClampNeg).toInt + (x_192 : Int32).toInt ≤ (vy_33 (Mv 5).toNatClampNeg).toInt + (sv_200 : Int32).toInt ∧ (x_192 : Int32).toInt + 1 ≤ (sv_200 : Int32).toInt)) := he_210
              have pf_206 : (x_192 : Int32).toInt ≤ (sv_200 : Int32).toInt ∧ (sv_200 : Int32).toInt ≤ ((Mv 0) : Int32).toInt := pf_206
              have pf_207 : (vy_31 : Int32).toInt ≤ (sv_203 : Int32).toInt ∧ (sv_203 : Int32).toInt ≤ 60 := pf_207
              have pf_208 : Agr vy_32 sv_204 (400 * ((Mv 5) : Int32).toInt + (vy_33 (Mv 5).toNatClampNeg).toInt) := pf_208
              refine W.eq (g2 := F0 m 61 ls [.int r_209]) rfl ?_
              replace hP : va_P D classes [((Ma 0), .inr (12, [.ref (Ma 1), .int (Mv 0), .int (Mv 1), .ref (Ma 2), .ref (Ma 3), .ref (Ma 4), .ref (Ma 5), .ref (Ma 6), .int sv_200, .int sv_201, .int sv_202, .int (Mv 5), .int sv_203, .int (Mv 7), .int (Mv 8), .ref (Ma 7), .int (Mv 9), .ref (Ma 8), .int (Mv 10), .ref (Ma 9), .ref (Ma 10), .int (Mv 11), .int (Mv 12), .int (Mv 13), .ref (Ma 11), .int (Mv 14), .ref (Ma 12), .ref (Ma 13), .ref (Ma 14), .ref (Ma 15), .ref (Ma 16), .long (Mj 0), .ref (Ma 17), .ref (Ma 18), .ref (Ma 19), .ref (Ma 20)])), ((Ma 1), .inl (tc 2, 400, .inl (Mf 1))), ((Ma 2), .inl (tc 0, 2400, .inl sv_204)), ((Ma 3), .inl (tc 0, 7, .inl sv_205))] H := hP₀
              replace hD : va_D A [((Ma 0), .inr (12, [.ref (Ma 1), .int (Mv 0), .int (Mv 1), .ref (Ma 2), .ref (Ma 3), .ref (Ma 4), .ref (Ma 5), .ref (Ma 6), .int sv_200, .int sv_201, .int sv_202, .int (Mv 5), .int sv_203, .int (Mv 7), .int (Mv 8), .ref (Ma 7), .int (Mv 9), .ref (Ma 8), .int (Mv 10), .ref (Ma 9), .ref (Ma 10), .int (Mv 11), .int (Mv 12), .int (Mv 13), .ref (Ma 11), .int (Mv 14), .ref (Ma 12), .ref (Ma 13), .ref (Ma 14), .ref (Ma 15), .ref (Ma 16), .long (Mj 0), .ref (Ma 17), .ref (Ma 18), .ref (Ma 19), .ref (Ma 20)])), ((Ma 1), .inl (tc 2, 400, .inl (Mf 1))), ((Ma 2), .inl (tc 0, 2400, .inl sv_204)), ((Ma 3), .inl (tc 0, 7, .inl sv_205))] := hD₀
              replace hS := hS₀
              clear hP₀ hD₀ hS₀
              refine lv_if_ne (tgt := 66) hx hb dX12_sum_61 (by decide) (fun c_214 => ?_) (fun c_214 => ?_)
              · skip
                have hz_217 : (r_209 : Int32).toInt = 1 := by
                  have z_1 : ¬ (r_13 : Int32).toInt = (0 : Int32).toInt := fun z => c_18 (Int32.toInt_inj.mp z)
                  have z_2 : ¬ (r_52 : Int32).toInt = (43 : Int32).toInt := fun z => c_55 (Int32.toInt_inj.mp z)
                  have z_3 := congrArg Int32.toInt c_182
                  have z_4 : ¬ (x_190 : Int32).toInt = (43 : Int32).toInt := fun z => c_191 (Int32.toInt_inj.mp z)
                  have z_5 : ¬ (r_209 : Int32).toInt = (0 : Int32).toInt := fun z => c_214 (Int32.toInt_inj.mp z)
                  have y_0 : (0 : Int32).toInt = 0 := by decide
                  have y_43 : (43 : Int32).toInt = 43 := by decide
                  have y_45 : (45 : Int32).toInt = 45 := by decide
                  omega
                obtain ⟨pf_215, pf_216⟩ := hm_212 hz_217
                have pf_215 : Cd sv_204 sv_205 (Mv 5) b sv_203 ((d + 1) + 1) := pf_215
                have ar_pf_215 := Cd.ar pf_215
                have pf_216 : TmO (pz_sum (rB (Mf 1) (Mv 0)) (St0 (rB (Mf 1) (Mv 0)) x_192 vy_31)) (rB (Mf 1) (Mv 0)) sv_201 sv_200 sv_203 := pf_216
                have ar_pf_216 := pf_216.1.1
                refine lv_aload_n hx hb dX12_sum_66 rfl (lv_at hl 1 rfl) ?_
                refine lv_iload_n hx hb dX12_sum_67 rfl (lv_at hl 0 rfl) ?_
                refine lv_iconst (v := 0) hx hb dX12_sum_68 (by decide) ?_
                have ha_218 : ((d + 1) : Int) ≤ sv_203.toInt := by
                  have z_1 : ¬ (r_13 : Int32).toInt = (0 : Int32).toInt := fun z => c_18 (Int32.toInt_inj.mp z)
                  have z_2 : ¬ (r_52 : Int32).toInt = (43 : Int32).toInt := fun z => c_55 (Int32.toInt_inj.mp z)
                  have z_3 := congrArg Int32.toInt c_182
                  have z_4 : ¬ (x_190 : Int32).toInt = (43 : Int32).toInt := fun z => c_191 (Int32.toInt_inj.mp z)
                  have z_5 : ¬ (r_209 : Int32).toInt = (0 : Int32).toInt := fun z => c_214 (Int32.toInt_inj.mp z)
                  have y_0 : (0 : Int32).toInt = 0 := by decide
                  have y_43 : (43 : Int32).toInt = 43 := by decide
                  have y_45 : (45 : Int32).toInt = 45 := by decide
                  omega
                have ha_219 : (sv_205 (Mv 5).toNatClampNeg).toInt < 400 := by
                  have z_1 : ¬ (r_13 : Int32).toInt = (0 : Int32).toInt := fun z => c_18 (Int32.toInt_inj.mp z)
                  have z_2 : ¬ (r_52 : Int32).toInt = (43 : Int32).toInt := fun z => c_55 (Int32.toInt_inj.mp z)
                  have z_3 := congrArg Int32.toInt c_182
                  have z_4 : ¬ (x_190 : Int32).toInt = (43 : Int32).toInt := fun z => c_191 (Int32.toInt_inj.mp z)
                  have z_5 : ¬ (r_209 : Int32).toInt = (0 : Int32).toInt := fun z => c_214 (Int32.toInt_inj.mp z)
                  have y_0 : (0 : Int32).toInt = 0 := by decide
                  have y_43 : (43 : Int32).toInt = 43 := by decide
                  have y_45 : (45 : Int32).toInt = 45 := by decide
                  omega
                refine cV (a := (Ma 0)) (As := [.int 3, .int 0]) (rest := []) (wr := [((Ma 1), .inl (tc 2, 400, .inl (Mf 1)))]) ⟨hx, hb, hml, hown, hts⟩ hK hX hA (cu_X12_puts l D tc sk (Ma 0) (Ma 1) (Ma 2) (Ma 3) (Ma 4) (Ma 5) (Ma 6) (Ma 7) (Ma 8) (Ma 9) (Ma 10) (Ma 11) (Ma 12) (Ma 13) (Ma 14) (Ma 15) (Ma 16) (Ma 17) (Ma 18) (Ma 19) (Ma 20) (Mv 0) (Mv 1) sv_200 sv_201 sv_202 (Mv 5) sv_203 (Mv 7) (Mv 8) (Mv 9) (Mv 10) (Mv 11) (Mv 12) (Mv 13) (Mv 14) sv_204 sv_205 (Mj 0) 3 0 b sv_203 ((d + 1) + 1) (d + 1) pf_215 (StpR.op (by decide) rfl (by omega)) ha_218 ha_219) k_1296 k_1293 k_1295 k_46 k_106 pl_X12_puts ⟨Nat.le_of_ble_eq_true rfl, Nat.le_of_ble_eq_true rfl⟩ rfl rfl (va_recv hK hP (ci := 12) (q0 := 0) rfl rfl) hP hD hS [0, 2, 3] [1] rfl rfl rfl rfl rfl (by decide) rfl hl.1 rfl (Nat.le_of_ble_eq_true rfl) dX12_sum_69 ⟨Nat.le_of_ble_eq_true rfl, Nat.le_of_ble_eq_true rfl⟩ (fun v_220 u_221 H locs hv_222 hP₀ hD₀ hS₀ => ?_)
                obtain ⟨sv_223, sv_224⟩ := u_221
                obtain ⟨rfl, pf_225, pf_226, pf_227⟩ := hv_222
                have pf_225 : Cd sv_223 sv_224 (Mv 5) b sv_203 (d + 1) := pf_225
                have ar_pf_225 := Cd.ar pf_225
                have pf_226 : Agr sv_204 sv_223 (400 * ((Mv 5) : Int32).toInt + (sv_205 (Mv 5).toNatClampNeg).toInt) := pf_226
                have pf_227 : (sv_224 (Mv 5).toNatClampNeg).toInt = (sv_205 (Mv 5).toNatClampNeg).toInt + 1 := pf_227
                refine W.eq (g2 := F0 m 72 ls []) rfl ?_
                replace hP : va_P D classes [((Ma 1), .inl (tc 2, 400, .inl (Mf 1))), ((Ma 0), .inr (12, [.ref (Ma 1), .int (Mv 0), .int (Mv 1), .ref (Ma 2), .ref (Ma 3), .ref (Ma 4), .ref (Ma 5), .ref (Ma 6), .int sv_200, .int sv_201, .int sv_202, .int (Mv 5), .int sv_203, .int (Mv 7), .int (Mv 8), .ref (Ma 7), .int (Mv 9), .ref (Ma 8), .int (Mv 10), .ref (Ma 9), .ref (Ma 10), .int (Mv 11), .int (Mv 12), .int (Mv 13), .ref (Ma 11), .int (Mv 14), .ref (Ma 12), .ref (Ma 13), .ref (Ma 14), .ref (Ma 15), .ref (Ma 16), .long (Mj 0), .ref (Ma 17), .ref (Ma 18), .ref (Ma 19), .ref (Ma 20)])), ((Ma 2), .inl (tc 0, 2400, .inl sv_223)), ((Ma 3), .inl (tc 0, 7, .inl sv_224))] H := hP₀
                replace hD : va_D A [((Ma 1), .inl (tc 2, 400, .inl (Mf 1))), ((Ma 0), .inr (12, [.ref (Ma 1), .int (Mv 0), .int (Mv 1), .ref (Ma 2), .ref (Ma 3), .ref (Ma 4), .ref (Ma 5), .ref (Ma 6), .int sv_200, .int sv_201, .int sv_202, .int (Mv 5), .int sv_203, .int (Mv 7), .int (Mv 8), .ref (Ma 7), .int (Mv 9), .ref (Ma 8), .int (Mv 10), .ref (Ma 9), .ref (Ma 10), .int (Mv 11), .int (Mv 12), .int (Mv 13), .ref (Ma 11), .int (Mv 14), .ref (Ma 12), .ref (Ma 13), .ref (Ma 14), .ref (Ma 15), .ref (Ma 16), .long (Mj 0), .ref (Ma 17), .ref (Ma 18), .ref (Ma 19), .ref (Ma 20)])), ((Ma 2), .inl (tc 0, 2400, .inl sv_223)), ((Ma 3), .inl (tc 0, 7, .inl sv_224))] := hD₀
                replace hS := hS₀
                clear hP₀ hD₀ hS₀
                refine lv_goto (tgt := 9) hx hb dX12_sum_72 (by decide) ?_
                have hb_228 : 400 - (sv_200 : Int32).toInt < 400 - (vy_28 : Int32).toInt ∧ 1 ≤ 400 - (vy_28 : Int32).toInt := by
                  have z_1 : ¬ (r_13 : Int32).toInt = (0 : Int32).toInt := fun z => c_18 (Int32.toInt_inj.mp z)
                  have z_2 : ¬ (r_52 : Int32).toInt = (43 : Int32).toInt := fun z => c_55 (Int32.toInt_inj.mp z)
                  have z_3 := congrArg Int32.toInt c_182
                  have z_4 : ¬ (x_190 : Int32).toInt = (43 : Int32).toInt := fun z => c_191 (Int32.toInt_inj.mp z)
                  have z_5 : ¬ (r_209 : Int32).toInt = (0 : Int32).toInt := fun z => c_214 (Int32.toInt_inj.mp z)
                  have y_0 : (0 : Int32).toInt = 0 := by decide
                  have y_43 : (43 : Int32).toInt = 43 := by decide
                  have y_45 : (45 : Int32).toInt = 45 := by decide
                  omega
                have ha_229 : 0 ≤ (sv_200 : Int32).toInt ∧ (sv_200 : Int32).toInt ≤ ((Mv 0) : Int32).toInt ∧ ((Mv 0) : Int32).toInt ≤ 400 := by
                  have z_1 : ¬ (r_13 : Int32).toInt = (0 : Int32).toInt := fun z => c_18 (Int32.toInt_inj.mp z)
                  have z_2 : ¬ (r_52 : Int32).toInt = (43 : Int32).toInt := fun z => c_55 (Int32.toInt_inj.mp z)
                  have z_3 := congrArg Int32.toInt c_182
                  have z_4 : ¬ (x_190 : Int32).toInt = (43 : Int32).toInt := fun z => c_191 (Int32.toInt_inj.mp z)
                  have z_5 : ¬ (r_209 : Int32).toInt = (0 : Int32).toInt := fun z => c_214 (Int32.toInt_inj.mp z)
                  have y_0 : (0 : Int32).toInt = 0 := by decide
                  have y_43 : (43 : Int32).toInt = 43 := by decide
                  have y_45 : (45 : Int32).toInt = 45 := by decide
                  omega
                have ha_230 : (Mv 6).toInt ≤ (sv_203 : Int32).toInt ∧ (sv_203 : Int32).toInt ≤ 60 := by
                  have z_1 : ¬ (r_13 : Int32).toInt = (0 : Int32).toInt := fun z => c_18 (Int32.toInt_inj.mp z)
                  have z_2 : ¬ (r_52 : Int32).toInt = (43 : Int32).toInt := fun z => c_55 (Int32.toInt_inj.mp z)
                  have z_3 := congrArg Int32.toInt c_182
                  have z_4 : ¬ (x_190 : Int32).toInt = (43 : Int32).toInt := fun z => c_191 (Int32.toInt_inj.mp z)
                  have z_5 : ¬ (r_209 : Int32).toInt = (0 : Int32).toInt := fun z => c_214 (Int32.toInt_inj.mp z)
                  have y_0 : (0 : Int32).toInt = 0 := by decide
                  have y_43 : (43 : Int32).toInt = 43 := by decide
                  have y_45 : (45 : Int32).toInt = 45 := by decide
                  omega
                have ha_231 : ((Mf 3) (Mv 5).toNatClampNeg).toInt + 1 ≤ (sv_224 (Mv 5).toNatClampNeg).toInt ∧ (sv_224 (Mv 5).toNatClampNeg).toInt + ((Mv 2) : Int32).toInt ≤ ((Mf 3) (Mv 5).toNatClampNeg).toInt + (sv_200 : Int32).toInt ∧ ((Mv 2) : Int32).toInt + 1 ≤ (sv_200 : Int32).toInt := by
                  have z_1 : ¬ (r_13 : Int32).toInt = (0 : Int32).toInt := fun z => c_18 (Int32.toInt_inj.mp z)
                  have z_2 : ¬ (r_52 : Int32).toInt = (43 : Int32).toInt := fun z => c_55 (Int32.toInt_inj.mp z)
                  have z_3 := congrArg Int32.toInt c_182
                  have z_4 : ¬ (x_190 : Int32).toInt = (43 : Int32).toInt := fun z => c_191 (Int32.toInt_inj.mp z)
                  have z_5 : ¬ (r_209 : Int32).toInt = (0 : Int32).toInt := fun z => c_214 (Int32.toInt_inj.mp z)
                  have y_0 : (0 : Int32).toInt = 0 := by decide
                  have y_43 : (43 : Int32).toInt = 43 := by decide
                  have y_45 : (45 : Int32).toInt = 45 := by decide
                  omega
                have hr_232 : (400 * ((Mv 5) : Int32).toInt + ((Mf 3) (Mv 5).toNatClampNeg).toInt) ≤ (400 * ((Mv 5) : Int32).toInt + ((Mf 3) (Mv 5).toNatClampNeg).toInt) := by
                  have z_1 : ¬ (r_13 : Int32).toInt = (0 : Int32).toInt := fun z => c_18 (Int32.toInt_inj.mp z)
                  have z_2 : ¬ (r_52 : Int32).toInt = (43 : Int32).toInt := fun z => c_55 (Int32.toInt_inj.mp z)
                  have z_3 := congrArg Int32.toInt c_182
                  have z_4 : ¬ (x_190 : Int32).toInt = (43 : Int32).toInt := fun z => c_191 (Int32.toInt_inj.mp z)
                  have z_5 : ¬ (r_209 : Int32).toInt = (0 : Int32).toInt := fun z => c_214 (Int32.toInt_inj.mp z)
                  have y_0 : (0 : Int32).toInt = 0 := by decide
                  have y_43 : (43 : Int32).toInt = 43 := by decide
                  have y_45 : (45 : Int32).toInt = 45 := by decide
                  omega
                have hr_233 : (400 * ((Mv 5) : Int32).toInt + ((Mf 3) (Mv 5).toNatClampNeg).toInt) ≤ (400 * ((Mv 5) : Int32).toInt + (vy_33 (Mv 5).toNatClampNeg).toInt) := by
                  have z_1 : ¬ (r_13 : Int32).toInt = (0 : Int32).toInt := fun z => c_18 (Int32.toInt_inj.mp z)
                  have z_2 : ¬ (r_52 : Int32).toInt = (43 : Int32).toInt := fun z => c_55 (Int32.toInt_inj.mp z)
                  have z_3 := congrArg Int32.toInt c_182
                  have z_4 : ¬ (x_190 : Int32).toInt = (43 : Int32).toInt := fun z => c_191 (Int32.toInt_inj.mp z)
                  have z_5 : ¬ (r_209 : Int32).toInt = (0 : Int32).toInt := fun z => c_214 (Int32.toInt_inj.mp z)
                  have y_0 : (0 : Int32).toInt = 0 := by decide
                  have y_43 : (43 : Int32).toInt = 43 := by decide
                  have y_45 : (45 : Int32).toInt = 45 := by decide
                  omega
                have hr_234 : (400 * ((Mv 5) : Int32).toInt + ((Mf 3) (Mv 5).toNatClampNeg).toInt) ≤ (400 * ((Mv 5) : Int32).toInt + (sv_205 (Mv 5).toNatClampNeg).toInt) := by
                  have z_1 : ¬ (r_13 : Int32).toInt = (0 : Int32).toInt := fun z => c_18 (Int32.toInt_inj.mp z)
                  have z_2 : ¬ (r_52 : Int32).toInt = (43 : Int32).toInt := fun z => c_55 (Int32.toInt_inj.mp z)
                  have z_3 := congrArg Int32.toInt c_182
                  have z_4 : ¬ (x_190 : Int32).toInt = (43 : Int32).toInt := fun z => c_191 (Int32.toInt_inj.mp z)
                  have z_5 : ¬ (r_209 : Int32).toInt = (0 : Int32).toInt := fun z => c_214 (Int32.toInt_inj.mp z)
                  have y_0 : (0 : Int32).toInt = 0 := by decide
                  have y_43 : (43 : Int32).toInt = 43 := by decide
                  have y_45 : (45 : Int32).toInt = 45 := by decide
                  omega
                have hr_235 : (rB (Mf 1) (Mv 0) (sv_173 : Int32).toInt.toNat = 43 ∨ rB (Mf 1) (Mv 0) (sv_173 : Int32).toInt.toNat = 45) := by
                  have z_1 : ¬ (r_13 : Int32).toInt = (0 : Int32).toInt := fun z => c_18 (Int32.toInt_inj.mp z)
                  have z_2 : ¬ (r_52 : Int32).toInt = (43 : Int32).toInt := fun z => c_55 (Int32.toInt_inj.mp z)
                  have z_3 := congrArg Int32.toInt c_182
                  have z_4 : ¬ (x_190 : Int32).toInt = (43 : Int32).toInt := fun z => c_191 (Int32.toInt_inj.mp z)
                  have z_5 : ¬ (r_209 : Int32).toInt = (0 : Int32).toInt := fun z => c_214 (Int32.toInt_inj.mp z)
                  have y_0 : (0 : Int32).toInt = 0 := by decide
                  have y_43 : (43 : Int32).toInt = 43 := by decide
                  have y_45 : (45 : Int32).toInt = 45 := by decide
                  omega
                have hi_236 : (x_192 : Int32).toInt = (sv_173 : Int32).toInt + 1 := by
                  have z_1 : ¬ (r_13 : Int32).toInt = (0 : Int32).toInt := fun z => c_18 (Int32.toInt_inj.mp z)
                  have z_2 : ¬ (r_52 : Int32).toInt = (43 : Int32).toInt := fun z => c_55 (Int32.toInt_inj.mp z)
                  have z_3 := congrArg Int32.toInt c_182
                  have z_4 : ¬ (x_190 : Int32).toInt = (43 : Int32).toInt := fun z => c_191 (Int32.toInt_inj.mp z)
                  have z_5 : ¬ (r_209 : Int32).toInt = (0 : Int32).toInt := fun z => c_214 (Int32.toInt_inj.mp z)
                  have y_0 : (0 : Int32).toInt = 0 := by decide
                  have y_43 : (43 : Int32).toInt = 43 := by decide
                  have y_45 : (45 : Int32).toInt = 45 := by decide
                  have y_1 : (1 : Int32).toInt = 1 := by decide
                  have t_x_192 : x_192.toInt = (sv_173 : Int32).toInt + (1 : Int32).toInt := by rw [ex_192]; exact add_toInt (by omega) (by omega)
                  omega
                exact ih_35 sv_200 sv_201 sv_202 sv_203 sv_223 sv_224 _ _ _ (by omega) ha_229 ha_230 ha_231 (Agr.trans (k' := (400 * ((Mv 5) : Int32).toInt + ((Mf 3) (Mv 5).toNatClampNeg).toInt)) (Agr.trans (k' := (400 * ((Mv 5) : Int32).toInt + ((Mf 3) (Mv 5).toNatClampNeg).toInt)) (Agr.mono pf_40 hr_232) pf_208 ⟨Int.le_refl _, hr_233⟩) pf_226 ⟨Int.le_refl _, hr_234⟩) pf_225 (TmO.next (rB_fi h_nx.2.2) pf_42 (SkR.trans pf_51 pf_177) hr_235 hi_236 pf_216) (hP.sub [1, 0, 2, 3] rfl) (hD.sub [1, 0, 2, 3] rfl rfl) hS (lv_sub hl [1] rfl)
              · skip
                have hz_238 : (r_209 : Int32).toInt = 0 := by
                  have z_1 : ¬ (r_13 : Int32).toInt = (0 : Int32).toInt := fun z => c_18 (Int32.toInt_inj.mp z)
                  have z_2 : ¬ (r_52 : Int32).toInt = (43 : Int32).toInt := fun z => c_55 (Int32.toInt_inj.mp z)
                  have z_3 := congrArg Int32.toInt c_182
                  have z_4 : ¬ (x_190 : Int32).toInt = (43 : Int32).toInt := fun z => c_191 (Int32.toInt_inj.mp z)
                  have z_5 := congrArg Int32.toInt c_214
                  have y_0 : (0 : Int32).toInt = 0 := by decide
                  have y_43 : (43 : Int32).toInt = 43 := by decide
                  have y_45 : (45 : Int32).toInt = 45 := by decide
                  omega
                obtain pf_237 := hm_213 hz_238
                have pf_237 : RfE (pz_sum (rB (Mf 1) (Mv 0)) (St0 (rB (Mf 1) (Mv 0)) x_192 vy_31)) sv_201 := pf_237
                refine lv_iconst (v := 0) hx hb dX12_sum_64 (by decide) ?_
                have ha_239 : ((Mv 2) : Int32).toInt ≤ (sv_200 : Int32).toInt ∧ (sv_200 : Int32).toInt ≤ ((Mv 0) : Int32).toInt := by
                  have z_1 : ¬ (r_13 : Int32).toInt = (0 : Int32).toInt := fun z => c_18 (Int32.toInt_inj.mp z)
                  have z_2 : ¬ (r_52 : Int32).toInt = (43 : Int32).toInt := fun z => c_55 (Int32.toInt_inj.mp z)
                  have z_3 := congrArg Int32.toInt c_182
                  have z_4 : ¬ (x_190 : Int32).toInt = (43 : Int32).toInt := fun z => c_191 (Int32.toInt_inj.mp z)
                  have z_5 := congrArg Int32.toInt c_214
                  have y_0 : (0 : Int32).toInt = 0 := by decide
                  have y_43 : (43 : Int32).toInt = 43 := by decide
                  have y_45 : (45 : Int32).toInt = 45 := by decide
                  omega
                have ha_240 : ((Mv 6) : Int32).toInt ≤ (sv_203 : Int32).toInt ∧ (sv_203 : Int32).toInt ≤ 60 := by
                  have z_1 : ¬ (r_13 : Int32).toInt = (0 : Int32).toInt := fun z => c_18 (Int32.toInt_inj.mp z)
                  have z_2 : ¬ (r_52 : Int32).toInt = (43 : Int32).toInt := fun z => c_55 (Int32.toInt_inj.mp z)
                  have z_3 := congrArg Int32.toInt c_182
                  have z_4 : ¬ (x_190 : Int32).toInt = (43 : Int32).toInt := fun z => c_191 (Int32.toInt_inj.mp z)
                  have z_5 := congrArg Int32.toInt c_214
                  have y_0 : (0 : Int32).toInt = 0 := by decide
                  have y_43 : (43 : Int32).toInt = 43 := by decide
                  have y_45 : (45 : Int32).toInt = 45 := by decide
                  omega
                have hr_241 : (400 * ((Mv 5) : Int32).toInt + ((Mf 3) (Mv 5).toNatClampNeg).toInt) ≤ (400 * ((Mv 5) : Int32).toInt + ((Mf 3) (Mv 5).toNatClampNeg).toInt) := by
                  have z_1 : ¬ (r_13 : Int32).toInt = (0 : Int32).toInt := fun z => c_18 (Int32.toInt_inj.mp z)
                  have z_2 : ¬ (r_52 : Int32).toInt = (43 : Int32).toInt := fun z => c_55 (Int32.toInt_inj.mp z)
                  have z_3 := congrArg Int32.toInt c_182
                  have z_4 : ¬ (x_190 : Int32).toInt = (43 : Int32).toInt := fun z => c_191 (Int32.toInt_inj.mp z)
                  have z_5 := congrArg Int32.toInt c_214
                  have y_0 : (0 : Int32).toInt = 0 := by decide
                  have y_43 : (43 : Int32).toInt = 43 := by decide
                  have y_45 : (45 : Int32).toInt = 45 := by decide
                  omega
                have hr_242 : (400 * ((Mv 5) : Int32).toInt + ((Mf 3) (Mv 5).toNatClampNeg).toInt) ≤ (400 * ((Mv 5) : Int32).toInt + (vy_33 (Mv 5).toNatClampNeg).toInt) := by
                  have z_1 : ¬ (r_13 : Int32).toInt = (0 : Int32).toInt := fun z => c_18 (Int32.toInt_inj.mp z)
                  have z_2 : ¬ (r_52 : Int32).toInt = (43 : Int32).toInt := fun z => c_55 (Int32.toInt_inj.mp z)
                  have z_3 := congrArg Int32.toInt c_182
                  have z_4 : ¬ (x_190 : Int32).toInt = (43 : Int32).toInt := fun z => c_191 (Int32.toInt_inj.mp z)
                  have z_5 := congrArg Int32.toInt c_214
                  have y_0 : (0 : Int32).toInt = 0 := by decide
                  have y_43 : (43 : Int32).toInt = 43 := by decide
                  have y_45 : (45 : Int32).toInt = 45 := by decide
                  omega
                have hp_243 : (((0 : Int32).toInt = 0 ∧ ¬ (sv_201 : Int32).toInt = 0) ∨ ((0 : Int32).toInt = 1 ∧ ((Mf 3) (Mv 5).toNatClampNeg).toInt + 1 ≤ (sv_205 (Mv 5).toNatClampNeg).toInt ∧ (sv_205 (Mv 5).toNatClampNeg).toInt + ((Mv 2) : Int32).toInt ≤ ((Mf 3) (Mv 5).toNatClampNeg).toInt + (sv_200 : Int32).toInt ∧ ((Mv 2) : Int32).toInt + 1 ≤ (sv_200 : Int32).toInt)) := by
                  have z_1 : ¬ (r_13 : Int32).toInt = (0 : Int32).toInt := fun z => c_18 (Int32.toInt_inj.mp z)
                  have z_2 : ¬ (r_52 : Int32).toInt = (43 : Int32).toInt := fun z => c_55 (Int32.toInt_inj.mp z)
                  have z_3 := congrArg Int32.toInt c_182
                  have z_4 : ¬ (x_190 : Int32).toInt = (43 : Int32).toInt := fun z => c_191 (Int32.toInt_inj.mp z)
                  have z_5 := congrArg Int32.toInt c_214
                  have y_0 : (0 : Int32).toInt = 0 := by decide
                  have y_43 : (43 : Int32).toInt = 43 := by decide
                  have y_45 : (45 : Int32).toInt = 45 := by decide
                  omega
                have hm_244 : (0 : Int32).toInt = 0 → (RfE (pz_sum (rB (Mf 1) (Mv 0)) (St0 (rB (Mf 1) (Mv 0)) (Mv 2) (Mv 6))) sv_201) := by
                  intro h1r
                  have hr_245 : (rB (Mf 1) (Mv 0) (sv_173 : Int32).toInt.toNat = 43 ∨ rB (Mf 1) (Mv 0) (sv_173 : Int32).toInt.toNat = 45) := by
                    have z_1 : ¬ (r_13 : Int32).toInt = (0 : Int32).toInt := fun z => c_18 (Int32.toInt_inj.mp z)
                    have z_2 : ¬ (r_52 : Int32).toInt = (43 : Int32).toInt := fun z => c_55 (Int32.toInt_inj.mp z)
                    have z_3 := congrArg Int32.toInt c_182
                    have z_4 : ¬ (x_190 : Int32).toInt = (43 : Int32).toInt := fun z => c_191 (Int32.toInt_inj.mp z)
                    have z_5 := congrArg Int32.toInt c_214
                    have y_0 : (0 : Int32).toInt = 0 := by decide
                    have y_43 : (43 : Int32).toInt = 43 := by decide
                    have y_45 : (45 : Int32).toInt = 45 := by decide
                    omega
                  have hi_246 : (x_192 : Int32).toInt = (sv_173 : Int32).toInt + 1 := by
                    have z_1 : ¬ (r_13 : Int32).toInt = (0 : Int32).toInt := fun z => c_18 (Int32.toInt_inj.mp z)
                    have z_2 : ¬ (r_52 : Int32).toInt = (43 : Int32).toInt := fun z => c_55 (Int32.toInt_inj.mp z)
                    have z_3 := congrArg Int32.toInt c_182
                    have z_4 : ¬ (x_190 : Int32).toInt = (43 : Int32).toInt := fun z => c_191 (Int32.toInt_inj.mp z)
                    have z_5 := congrArg Int32.toInt c_214
                    have y_0 : (0 : Int32).toInt = 0 := by decide
                    have y_43 : (43 : Int32).toInt = 43 := by decide
                    have y_45 : (45 : Int32).toInt = 45 := by decide
                    have y_1 : (1 : Int32).toInt = 1 := by decide
                    have t_x_192 : x_192.toInt = (sv_173 : Int32).toInt + (1 : Int32).toInt := by rw [ex_192]; exact add_toInt (by omega) (by omega)
                    omega
                  exact (TmO.er (rB_fi h_nx.2.2) pf_42 (SkR.trans pf_51 pf_177) hr_245 hi_246 pf_237)
                exact retI (v := 0) hx hb hr hlk (rfl) hP hD hS (sv_200, sv_201, sv_202, sv_203, sv_204, sv_205) ⟨_, rfl, hp_243, ha_239, ha_240, (Agr.trans (k' := (400 * ((Mv 5) : Int32).toInt + ((Mf 3) (Mv 5).toNatClampNeg).toInt)) (Agr.mono pf_40 hr_241) pf_208 ⟨Int.le_refl _, hr_242⟩), (fun h => absurd h (by decide)), hm_244⟩ [0, 1, 2, 3] rfl rfl dX12_sum_65 (Nat.le_of_ble_eq_true rfl) (Nat.le_of_ble_eq_true rfl) rfl
            · skip
              refine lv_iconst (v := 2) hx hb dX12_sum_41 (by decide) ?_
              refine lv_goto (tgt := 46) hx hb dX12_sum_42 (by decide) ?_
              refine lv_istore_n (lv' := [(1, .int 2), (0, .ref (Ma 0))]) hx hb dX12_sum_46 rfl hl (by decide) rfl (fun ls hl₀ => ?_)
              replace hl := hl₀
              clear hl₀
              refine lv_aload_n hx hb dX12_sum_47 rfl (lv_at hl 1 rfl) ?_
              refine lv_dup hx hb dX12_sum_48 rfl ?_
              refine gf_X12_87 hx hb hts hown hK hP 2 rfl rfl dX12_sum_49 ?_
              refine lv_iconst (v := 1) hx hb dX12_sum_52 (by decide) ?_
              refine lv_iadd hx hb dX12_sum_53 ?_
              refine lv_topi (fun x_247 ex_247 => ?_)
              refine pf_X12_87 hx hb hts hown hK hP hD hS 2 rfl (Nat.le_of_ble_eq_true rfl) rfl rfl dX12_sum_54 (fun H locs hP₀ hD₀ hS₀ => ?_)
              replace hP : va_P D classes [((Ma 2), .inl (tc 0, 2400, .inl vy_32)), ((Ma 3), .inl (tc 0, 7, .inl vy_33)), ((Ma 0), .inr (12, [.ref (Ma 1), .int (Mv 0), .int (Mv 1), .ref (Ma 2), .ref (Ma 3), .ref (Ma 4), .ref (Ma 5), .ref (Ma 6), .int x_247, .int vy_29, .int vy_30, .int (Mv 5), .int vy_31, .int (Mv 7), .int (Mv 8), .ref (Ma 7), .int (Mv 9), .ref (Ma 8), .int (Mv 10), .ref (Ma 9), .ref (Ma 10), .int (Mv 11), .int (Mv 12), .int (Mv 13), .ref (Ma 11), .int (Mv 14), .ref (Ma 12), .ref (Ma 13), .ref (Ma 14), .ref (Ma 15), .ref (Ma 16), .long (Mj 0), .ref (Ma 17), .ref (Ma 18), .ref (Ma 19), .ref (Ma 20)])), ((Ma 1), .inl (tc 2, 400, .inl (Mf 1)))] H := hP₀
              replace hD : va_D A [((Ma 2), .inl (tc 0, 2400, .inl vy_32)), ((Ma 3), .inl (tc 0, 7, .inl vy_33)), ((Ma 0), .inr (12, [.ref (Ma 1), .int (Mv 0), .int (Mv 1), .ref (Ma 2), .ref (Ma 3), .ref (Ma 4), .ref (Ma 5), .ref (Ma 6), .int x_247, .int vy_29, .int vy_30, .int (Mv 5), .int vy_31, .int (Mv 7), .int (Mv 8), .ref (Ma 7), .int (Mv 9), .ref (Ma 8), .int (Mv 10), .ref (Ma 9), .ref (Ma 10), .int (Mv 11), .int (Mv 12), .int (Mv 13), .ref (Ma 11), .int (Mv 14), .ref (Ma 12), .ref (Ma 13), .ref (Ma 14), .ref (Ma 15), .ref (Ma 16), .long (Mj 0), .ref (Ma 17), .ref (Ma 18), .ref (Ma 19), .ref (Ma 20)])), ((Ma 1), .inl (tc 2, 400, .inl (Mf 1)))] := hD₀
              replace hS := hS₀
              clear hP₀ hD₀ hS₀
              have tp_x_247 : (x_247 : Int32).toInt = (sv_173 : Int32).toInt + 1 := by
                have z_1 : ¬ (r_13 : Int32).toInt = (0 : Int32).toInt := fun z => c_18 (Int32.toInt_inj.mp z)
                have z_2 : ¬ (r_52 : Int32).toInt = (43 : Int32).toInt := fun z => c_55 (Int32.toInt_inj.mp z)
                have z_3 := congrArg Int32.toInt c_182
                have z_4 := congrArg Int32.toInt c_191
                have y_0 : (0 : Int32).toInt = 0 := by decide
                have y_43 : (43 : Int32).toInt = 43 := by decide
                have y_45 : (45 : Int32).toInt = 45 := by decide
                have y_1 : (1 : Int32).toInt = 1 := by decide
                have t_x_247 : x_247.toInt = (sv_173 : Int32).toInt + (1 : Int32).toInt := by rw [ex_247]; exact add_toInt (by omega) (by omega)
                omega
              refine lv_aload_n hx hb dX12_sum_57 rfl (lv_at hl 1 rfl) ?_
              have ha_248 : 0 ≤ (x_247 : Int32).toInt ∧ (x_247 : Int32).toInt ≤ ((Mv 0) : Int32).toInt ∧ ((Mv 0) : Int32).toInt ≤ 400 := by
                have z_1 : ¬ (r_13 : Int32).toInt = (0 : Int32).toInt := fun z => c_18 (Int32.toInt_inj.mp z)
                have z_2 : ¬ (r_52 : Int32).toInt = (43 : Int32).toInt := fun z => c_55 (Int32.toInt_inj.mp z)
                have z_3 := congrArg Int32.toInt c_182
                have z_4 := congrArg Int32.toInt c_191
                have y_0 : (0 : Int32).toInt = 0 := by decide
                have y_43 : (43 : Int32).toInt = 43 := by decide
                have y_45 : (45 : Int32).toInt = 45 := by decide
                have y_1 : (1 : Int32).toInt = 1 := by decide
                have t_x_247 : x_247.toInt = (sv_173 : Int32).toInt + (1 : Int32).toInt := by rw [ex_247]; exact add_toInt (by omega) (by omega)
                omega
              have ha_249 : (vy_33 (Mv 5).toNatClampNeg).toInt ≤ (x_247 : Int32).toInt := by
                have z_1 : ¬ (r_13 : Int32).toInt = (0 : Int32).toInt := fun z => c_18 (Int32.toInt_inj.mp z)
                have z_2 : ¬ (r_52 : Int32).toInt = (43 : Int32).toInt := fun z => c_55 (Int32.toInt_inj.mp z)
                have z_3 := congrArg Int32.toInt c_182
                have z_4 := congrArg Int32.toInt c_191
                have y_0 : (0 : Int32).toInt = 0 := by decide
                have y_43 : (43 : Int32).toInt = 43 := by decide
                have y_45 : (45 : Int32).toInt = 45 := by decide
                have y_1 : (1 : Int32).toInt = 1 := by decide
                have t_x_247 : x_247.toInt = (sv_173 : Int32).toInt + (1 : Int32).toInt := by rw [ex_247]; exact add_toInt (by omega) (by omega)
                omega
              have ha_250 : 0 ≤ (vy_31 : Int32).toInt ∧ (vy_31 : Int32).toInt ≤ 60 := by
                have z_1 : ¬ (r_13 : Int32).toInt = (0 : Int32).toInt := fun z => c_18 (Int32.toInt_inj.mp z)
                have z_2 : ¬ (r_52 : Int32).toInt = (43 : Int32).toInt := fun z => c_55 (Int32.toInt_inj.mp z)
                have z_3 := congrArg Int32.toInt c_182
                have z_4 := congrArg Int32.toInt c_191
                have y_0 : (0 : Int32).toInt = 0 := by decide
                have y_43 : (43 : Int32).toInt = 43 := by decide
                have y_45 : (45 : Int32).toInt = 45 := by decide
                omega
              have ha_251 : (vy_29 : Int32).toInt = 0 := by
                have z_1 : ¬ (r_13 : Int32).toInt = (0 : Int32).toInt := fun z => c_18 (Int32.toInt_inj.mp z)
                have z_2 : ¬ (r_52 : Int32).toInt = (43 : Int32).toInt := fun z => c_55 (Int32.toInt_inj.mp z)
                have z_3 := congrArg Int32.toInt c_182
                have z_4 := congrArg Int32.toInt c_191
                have y_0 : (0 : Int32).toInt = 0 := by decide
                have y_43 : (43 : Int32).toInt = 43 := by decide
                have y_45 : (45 : Int32).toInt = 45 := by decide
                omega
              refine cV (a := (Ma 0)) (As := []) (rest := []) (wr := []) ⟨hx, hb, hml, hown, hts⟩ hK hX hA (cu_fX12_term l D tc sk (Ma 0) (Ma 1) (Ma 2) (Ma 3) (Ma 4) (Ma 5) (Ma 6) (Ma 7) (Ma 8) (Ma 9) (Ma 10) (Ma 11) (Ma 12) (Ma 13) (Ma 14) (Ma 15) (Ma 16) (Ma 17) (Ma 18) (Ma 19) (Ma 20) (Mv 0) (Mv 1) x_247 vy_29 vy_30 (Mv 5) vy_31 (Mv 7) (Mv 8) (Mv 9) (Mv 10) (Mv 11) (Mv 12) (Mv 13) (Mv 14) (Mf 1) vy_32 vy_33 (Mj 0) b (d + 1) ha_248 pf_41 ha_249 ha_250 h_bs ha_251) k_1283 k_1280 k_1282 k_43 k_106 pl_X12_term ⟨Nat.le_of_ble_eq_true rfl, Nat.le_of_ble_eq_true rfl⟩ rfl rfl (va_recv hK hP (ci := 12) (q0 := 2) rfl rfl) hP hD hS [2, 3, 0, 1] [] rfl rfl rfl rfl rfl (by decide) rfl hl.1 rfl (Nat.le_of_ble_eq_true rfl) dX12_sum_58 ⟨Nat.le_of_ble_eq_true rfl, Nat.le_of_ble_eq_true rfl⟩ (fun v_252 u_253 H locs hv_254 hP₀ hD₀ hS₀ => ?_)
              obtain ⟨sv_255, sv_256, sv_257, sv_258, sv_259, sv_260⟩ := u_253
              obtain ⟨r_264, rfl, he_265, pf_261, pf_262, pf_263, hm_267, hm_268⟩ := hv_254
              have he_265 : ((r_264.toInt = 0 ∧ ¬ (sv_256 : Int32).toInt = 0) ∨ (r_264.toInt = 1 ∧ (vy_33 (Mv 5).toNatClampNeg).toInt + 1 ≤ (sv_260 (Mv 5).toNatClampNeg).toInt ∧ (sv_260 (Mv 5).toNatClampNeg).toInt + (x_247 : Int32).toInt ≤ (vy_33 (Mv 5).toNatClampNeg).toInt + (sv_255 : Int32).toInt ∧ (x_247 : Int32).toInt + 1 ≤ (sv_255 : Int32).toInt)) := he_265
              have pf_261 : (x_247 : Int32).toInt ≤ (sv_255 : Int32).toInt ∧ (sv_255 : Int32).toInt ≤ ((Mv 0) : Int32).toInt := pf_261
              have pf_262 : (vy_31 : Int32).toInt ≤ (sv_258 : Int32).toInt ∧ (sv_258 : Int32).toInt ≤ 60 := pf_262
              have pf_263 : Agr vy_32 sv_259 (400 * ((Mv 5) : Int32).toInt + (vy_33 (Mv 5).toNatClampNeg).toInt) := pf_263
              refine W.eq (g2 := F0 m 61 ls [.int r_264]) rfl ?_
              replace hP : va_P D classes [((Ma 0), .inr (12, [.ref (Ma 1), .int (Mv 0), .int (Mv 1), .ref (Ma 2), .ref (Ma 3), .ref (Ma 4), .ref (Ma 5), .ref (Ma 6), .int sv_255, .int sv_256, .int sv_257, .int (Mv 5), .int sv_258, .int (Mv 7), .int (Mv 8), .ref (Ma 7), .int (Mv 9), .ref (Ma 8), .int (Mv 10), .ref (Ma 9), .ref (Ma 10), .int (Mv 11), .int (Mv 12), .int (Mv 13), .ref (Ma 11), .int (Mv 14), .ref (Ma 12), .ref (Ma 13), .ref (Ma 14), .ref (Ma 15), .ref (Ma 16), .long (Mj 0), .ref (Ma 17), .ref (Ma 18), .ref (Ma 19), .ref (Ma 20)])), ((Ma 1), .inl (tc 2, 400, .inl (Mf 1))), ((Ma 2), .inl (tc 0, 2400, .inl sv_259)), ((Ma 3), .inl (tc 0, 7, .inl sv_260))] H := hP₀
              replace hD : va_D A [((Ma 0), .inr (12, [.ref (Ma 1), .int (Mv 0), .int (Mv 1), .ref (Ma 2), .ref (Ma 3), .ref (Ma 4), .ref (Ma 5), .ref (Ma 6), .int sv_255, .int sv_256, .int sv_257, .int (Mv 5), .int sv_258, .int (Mv 7), .int (Mv 8), .ref (Ma 7), .int (Mv 9), .ref (Ma 8), .int (Mv 10), .ref (Ma 9), .ref (Ma 10), .int (Mv 11), .int (Mv 12), .int (Mv 13), .ref (Ma 11), .int (Mv 14), .ref (Ma 12), .ref (Ma 13), .ref (Ma 14), .ref (Ma 15), .ref (Ma 16), .long (Mj 0), .ref (Ma 17), .ref (Ma 18), .ref (Ma 19), .ref (Ma 20)])), ((Ma 1), .inl (tc 2, 400, .inl (Mf 1))), ((Ma 2), .inl (tc 0, 2400, .inl sv_259)), ((Ma 3), .inl (tc 0, 7, .inl sv_260))] := hD₀
              replace hS := hS₀
              clear hP₀ hD₀ hS₀
              refine lv_if_ne (tgt := 66) hx hb dX12_sum_61 (by decide) (fun c_269 => ?_) (fun c_269 => ?_)
              · skip
                have hz_272 : (r_264 : Int32).toInt = 1 := by
                  have z_1 : ¬ (r_13 : Int32).toInt = (0 : Int32).toInt := fun z => c_18 (Int32.toInt_inj.mp z)
                  have z_2 : ¬ (r_52 : Int32).toInt = (43 : Int32).toInt := fun z => c_55 (Int32.toInt_inj.mp z)
                  have z_3 := congrArg Int32.toInt c_182
                  have z_4 := congrArg Int32.toInt c_191
                  have z_5 : ¬ (r_264 : Int32).toInt = (0 : Int32).toInt := fun z => c_269 (Int32.toInt_inj.mp z)
                  have y_0 : (0 : Int32).toInt = 0 := by decide
                  have y_43 : (43 : Int32).toInt = 43 := by decide
                  have y_45 : (45 : Int32).toInt = 45 := by decide
                  omega
                obtain ⟨pf_270, pf_271⟩ := hm_267 hz_272
                have pf_270 : Cd sv_259 sv_260 (Mv 5) b sv_258 ((d + 1) + 1) := pf_270
                have ar_pf_270 := Cd.ar pf_270
                have pf_271 : TmO (pz_sum (rB (Mf 1) (Mv 0)) (St0 (rB (Mf 1) (Mv 0)) x_247 vy_31)) (rB (Mf 1) (Mv 0)) sv_256 sv_255 sv_258 := pf_271
                have ar_pf_271 := pf_271.1.1
                refine lv_aload_n hx hb dX12_sum_66 rfl (lv_at hl 1 rfl) ?_
                refine lv_iload_n hx hb dX12_sum_67 rfl (lv_at hl 0 rfl) ?_
                refine lv_iconst (v := 0) hx hb dX12_sum_68 (by decide) ?_
                have ha_273 : ((d + 1) : Int) ≤ sv_258.toInt := by
                  have z_1 : ¬ (r_13 : Int32).toInt = (0 : Int32).toInt := fun z => c_18 (Int32.toInt_inj.mp z)
                  have z_2 : ¬ (r_52 : Int32).toInt = (43 : Int32).toInt := fun z => c_55 (Int32.toInt_inj.mp z)
                  have z_3 := congrArg Int32.toInt c_182
                  have z_4 := congrArg Int32.toInt c_191
                  have z_5 : ¬ (r_264 : Int32).toInt = (0 : Int32).toInt := fun z => c_269 (Int32.toInt_inj.mp z)
                  have y_0 : (0 : Int32).toInt = 0 := by decide
                  have y_43 : (43 : Int32).toInt = 43 := by decide
                  have y_45 : (45 : Int32).toInt = 45 := by decide
                  omega
                have ha_274 : (sv_260 (Mv 5).toNatClampNeg).toInt < 400 := by
                  have z_1 : ¬ (r_13 : Int32).toInt = (0 : Int32).toInt := fun z => c_18 (Int32.toInt_inj.mp z)
                  have z_2 : ¬ (r_52 : Int32).toInt = (43 : Int32).toInt := fun z => c_55 (Int32.toInt_inj.mp z)
                  have z_3 := congrArg Int32.toInt c_182
                  have z_4 := congrArg Int32.toInt c_191
                  have z_5 : ¬ (r_264 : Int32).toInt = (0 : Int32).toInt := fun z => c_269 (Int32.toInt_inj.mp z)
                  have y_0 : (0 : Int32).toInt = 0 := by decide
                  have y_43 : (43 : Int32).toInt = 43 := by decide
                  have y_45 : (45 : Int32).toInt = 45 := by decide
                  omega
                refine cV (a := (Ma 0)) (As := [.int 2, .int 0]) (rest := []) (wr := [((Ma 1), .inl (tc 2, 400, .inl (Mf 1)))]) ⟨hx, hb, hml, hown, hts⟩ hK hX hA (cu_X12_puts l D tc sk (Ma 0) (Ma 1) (Ma 2) (Ma 3) (Ma 4) (Ma 5) (Ma 6) (Ma 7) (Ma 8) (Ma 9) (Ma 10) (Ma 11) (Ma 12) (Ma 13) (Ma 14) (Ma 15) (Ma 16) (Ma 17) (Ma 18) (Ma 19) (Ma 20) (Mv 0) (Mv 1) sv_255 sv_256 sv_257 (Mv 5) sv_258 (Mv 7) (Mv 8) (Mv 9) (Mv 10) (Mv 11) (Mv 12) (Mv 13) (Mv 14) sv_259 sv_260 (Mj 0) 2 0 b sv_258 ((d + 1) + 1) (d + 1) pf_270 (StpR.op (by decide) rfl (by omega)) ha_273 ha_274) k_1296 k_1293 k_1295 k_46 k_106 pl_X12_puts ⟨Nat.le_of_ble_eq_true rfl, Nat.le_of_ble_eq_true rfl⟩ rfl rfl (va_recv hK hP (ci := 12) (q0 := 0) rfl rfl) hP hD hS [0, 2, 3] [1] rfl rfl rfl rfl rfl (by decide) rfl hl.1 rfl (Nat.le_of_ble_eq_true rfl) dX12_sum_69 ⟨Nat.le_of_ble_eq_true rfl, Nat.le_of_ble_eq_true rfl⟩ (fun v_275 u_276 H locs hv_277 hP₀ hD₀ hS₀ => ?_)
                obtain ⟨sv_278, sv_279⟩ := u_276
                obtain ⟨rfl, pf_280, pf_281, pf_282⟩ := hv_277
                have pf_280 : Cd sv_278 sv_279 (Mv 5) b sv_258 (d + 1) := pf_280
                have ar_pf_280 := Cd.ar pf_280
                have pf_281 : Agr sv_259 sv_278 (400 * ((Mv 5) : Int32).toInt + (sv_260 (Mv 5).toNatClampNeg).toInt) := pf_281
                have pf_282 : (sv_279 (Mv 5).toNatClampNeg).toInt = (sv_260 (Mv 5).toNatClampNeg).toInt + 1 := pf_282
                refine W.eq (g2 := F0 m 72 ls []) rfl ?_
                replace hP : va_P D classes [((Ma 1), .inl (tc 2, 400, .inl (Mf 1))), ((Ma 0), .inr (12, [.ref (Ma 1), .int (Mv 0), .int (Mv 1), .ref (Ma 2), .ref (Ma 3), .ref (Ma 4), .ref (Ma 5), .ref (Ma 6), .int sv_255, .int sv_256, .int sv_257, .int (Mv 5), .int sv_258, .int (Mv 7), .int (Mv 8), .ref (Ma 7), .int (Mv 9), .ref (Ma 8), .int (Mv 10), .ref (Ma 9), .ref (Ma 10), .int (Mv 11), .int (Mv 12), .int (Mv 13), .ref (Ma 11), .int (Mv 14), .ref (Ma 12), .ref (Ma 13), .ref (Ma 14), .ref (Ma 15), .ref (Ma 16), .long (Mj 0), .ref (Ma 17), .ref (Ma 18), .ref (Ma 19), .ref (Ma 20)])), ((Ma 2), .inl (tc 0, 2400, .inl sv_278)), ((Ma 3), .inl (tc 0, 7, .inl sv_279))] H := hP₀
                replace hD : va_D A [((Ma 1), .inl (tc 2, 400, .inl (Mf 1))), ((Ma 0), .inr (12, [.ref (Ma 1), .int (Mv 0), .int (Mv 1), .ref (Ma 2), .ref (Ma 3), .ref (Ma 4), .ref (Ma 5), .ref (Ma 6), .int sv_255, .int sv_256, .int sv_257, .int (Mv 5), .int sv_258, .int (Mv 7), .int (Mv 8), .ref (Ma 7), .int (Mv 9), .ref (Ma 8), .int (Mv 10), .ref (Ma 9), .ref (Ma 10), .int (Mv 11), .int (Mv 12), .int (Mv 13), .ref (Ma 11), .int (Mv 14), .ref (Ma 12), .ref (Ma 13), .ref (Ma 14), .ref (Ma 15), .ref (Ma 16), .long (Mj 0), .ref (Ma 17), .ref (Ma 18), .ref (Ma 19), .ref (Ma 20)])), ((Ma 2), .inl (tc 0, 2400, .inl sv_278)), ((Ma 3), .inl (tc 0, 7, .inl sv_279))] := hD₀
                replace hS := hS₀
                clear hP₀ hD₀ hS₀
                refine lv_goto (tgt := 9) hx hb dX12_sum_72 (by decide) ?_
                have hb_283 : 400 - (sv_255 : Int32).toInt < 400 - (vy_28 : Int32).toInt ∧ 1 ≤ 400 - (vy_28 : Int32).toInt := by
                  have z_1 : ¬ (r_13 : Int32).toInt = (0 : Int32).toInt := fun z => c_18 (Int32.toInt_inj.mp z)
                  have z_2 : ¬ (r_52 : Int32).toInt = (43 : Int32).toInt := fun z => c_55 (Int32.toInt_inj.mp z)
                  have z_3 := congrArg Int32.toInt c_182
                  have z_4 := congrArg Int32.toInt c_191
                  have z_5 : ¬ (r_264 : Int32).toInt = (0 : Int32).toInt := fun z => c_269 (Int32.toInt_inj.mp z)
                  have y_0 : (0 : Int32).toInt = 0 := by decide
                  have y_43 : (43 : Int32).toInt = 43 := by decide
                  have y_45 : (45 : Int32).toInt = 45 := by decide
                  omega
                have ha_284 : 0 ≤ (sv_255 : Int32).toInt ∧ (sv_255 : Int32).toInt ≤ ((Mv 0) : Int32).toInt ∧ ((Mv 0) : Int32).toInt ≤ 400 := by
                  have z_1 : ¬ (r_13 : Int32).toInt = (0 : Int32).toInt := fun z => c_18 (Int32.toInt_inj.mp z)
                  have z_2 : ¬ (r_52 : Int32).toInt = (43 : Int32).toInt := fun z => c_55 (Int32.toInt_inj.mp z)
                  have z_3 := congrArg Int32.toInt c_182
                  have z_4 := congrArg Int32.toInt c_191
                  have z_5 : ¬ (r_264 : Int32).toInt = (0 : Int32).toInt := fun z => c_269 (Int32.toInt_inj.mp z)
                  have y_0 : (0 : Int32).toInt = 0 := by decide
                  have y_43 : (43 : Int32).toInt = 43 := by decide
                  have y_45 : (45 : Int32).toInt = 45 := by decide
                  omega
                have ha_285 : (Mv 6).toInt ≤ (sv_258 : Int32).toInt ∧ (sv_258 : Int32).toInt ≤ 60 := by
                  have z_1 : ¬ (r_13 : Int32).toInt = (0 : Int32).toInt := fun z => c_18 (Int32.toInt_inj.mp z)
                  have z_2 : ¬ (r_52 : Int32).toInt = (43 : Int32).toInt := fun z => c_55 (Int32.toInt_inj.mp z)
                  have z_3 := congrArg Int32.toInt c_182
                  have z_4 := congrArg Int32.toInt c_191
                  have z_5 : ¬ (r_264 : Int32).toInt = (0 : Int32).toInt := fun z => c_269 (Int32.toInt_inj.mp z)
                  have y_0 : (0 : Int32).toInt = 0 := by decide
                  have y_43 : (43 : Int32).toInt = 43 := by decide
                  have y_45 : (45 : Int32).toInt = 45 := by decide
                  omega
                have ha_286 : ((Mf 3) (Mv 5).toNatClampNeg).toInt + 1 ≤ (sv_279 (Mv 5).toNatClampNeg).toInt ∧ (sv_279 (Mv 5).toNatClampNeg).toInt + ((Mv 2) : Int32).toInt ≤ ((Mf 3) (Mv 5).toNatClampNeg).toInt + (sv_255 : Int32).toInt ∧ ((Mv 2) : Int32).toInt + 1 ≤ (sv_255 : Int32).toInt := by
                  have z_1 : ¬ (r_13 : Int32).toInt = (0 : Int32).toInt := fun z => c_18 (Int32.toInt_inj.mp z)
                  have z_2 : ¬ (r_52 : Int32).toInt = (43 : Int32).toInt := fun z => c_55 (Int32.toInt_inj.mp z)
                  have z_3 := congrArg Int32.toInt c_182
                  have z_4 := congrArg Int32.toInt c_191
                  have z_5 : ¬ (r_264 : Int32).toInt = (0 : Int32).toInt := fun z => c_269 (Int32.toInt_inj.mp z)
                  have y_0 : (0 : Int32).toInt = 0 := by decide
                  have y_43 : (43 : Int32).toInt = 43 := by decide
                  have y_45 : (45 : Int32).toInt = 45 := by decide
                  omega
                have hr_287 : (400 * ((Mv 5) : Int32).toInt + ((Mf 3) (Mv 5).toNatClampNeg).toInt) ≤ (400 * ((Mv 5) : Int32).toInt + ((Mf 3) (Mv 5).toNatClampNeg).toInt) := by
                  have z_1 : ¬ (r_13 : Int32).toInt = (0 : Int32).toInt := fun z => c_18 (Int32.toInt_inj.mp z)
                  have z_2 : ¬ (r_52 : Int32).toInt = (43 : Int32).toInt := fun z => c_55 (Int32.toInt_inj.mp z)
                  have z_3 := congrArg Int32.toInt c_182
                  have z_4 := congrArg Int32.toInt c_191
                  have z_5 : ¬ (r_264 : Int32).toInt = (0 : Int32).toInt := fun z => c_269 (Int32.toInt_inj.mp z)
                  have y_0 : (0 : Int32).toInt = 0 := by decide
                  have y_43 : (43 : Int32).toInt = 43 := by decide
                  have y_45 : (45 : Int32).toInt = 45 := by decide
                  omega
                have hr_288 : (400 * ((Mv 5) : Int32).toInt + ((Mf 3) (Mv 5).toNatClampNeg).toInt) ≤ (400 * ((Mv 5) : Int32).toInt + (vy_33 (Mv 5).toNatClampNeg).toInt) := by
                  have z_1 : ¬ (r_13 : Int32).toInt = (0 : Int32).toInt := fun z => c_18 (Int32.toInt_inj.mp z)
                  have z_2 : ¬ (r_52 : Int32).toInt = (43 : Int32).toInt := fun z => c_55 (Int32.toInt_inj.mp z)
                  have z_3 := congrArg Int32.toInt c_182
                  have z_4 := congrArg Int32.toInt c_191
                  have z_5 : ¬ (r_264 : Int32).toInt = (0 : Int32).toInt := fun z => c_269 (Int32.toInt_inj.mp z)
                  have y_0 : (0 : Int32).toInt = 0 := by decide
                  have y_43 : (43 : Int32).toInt = 43 := by decide
                  have y_45 : (45 : Int32).toInt = 45 := by decide
                  omega
                have hr_289 : (400 * ((Mv 5) : Int32).toInt + ((Mf 3) (Mv 5).toNatClampNeg).toInt) ≤ (400 * ((Mv 5) : Int32).toInt + (sv_260 (Mv 5).toNatClampNeg).toInt) := by
                  have z_1 : ¬ (r_13 : Int32).toInt = (0 : Int32).toInt := fun z => c_18 (Int32.toInt_inj.mp z)
                  have z_2 : ¬ (r_52 : Int32).toInt = (43 : Int32).toInt := fun z => c_55 (Int32.toInt_inj.mp z)
                  have z_3 := congrArg Int32.toInt c_182
                  have z_4 := congrArg Int32.toInt c_191
                  have z_5 : ¬ (r_264 : Int32).toInt = (0 : Int32).toInt := fun z => c_269 (Int32.toInt_inj.mp z)
                  have y_0 : (0 : Int32).toInt = 0 := by decide
                  have y_43 : (43 : Int32).toInt = 43 := by decide
                  have y_45 : (45 : Int32).toInt = 45 := by decide
                  omega
                have hr_290 : (rB (Mf 1) (Mv 0) (sv_173 : Int32).toInt.toNat = 43 ∨ rB (Mf 1) (Mv 0) (sv_173 : Int32).toInt.toNat = 45) := by
                  have z_1 : ¬ (r_13 : Int32).toInt = (0 : Int32).toInt := fun z => c_18 (Int32.toInt_inj.mp z)
                  have z_2 : ¬ (r_52 : Int32).toInt = (43 : Int32).toInt := fun z => c_55 (Int32.toInt_inj.mp z)
                  have z_3 := congrArg Int32.toInt c_182
                  have z_4 := congrArg Int32.toInt c_191
                  have z_5 : ¬ (r_264 : Int32).toInt = (0 : Int32).toInt := fun z => c_269 (Int32.toInt_inj.mp z)
                  have y_0 : (0 : Int32).toInt = 0 := by decide
                  have y_43 : (43 : Int32).toInt = 43 := by decide
                  have y_45 : (45 : Int32).toInt = 45 := by decide
                  omega
                have hi_291 : (x_247 : Int32).toInt = (sv_173 : Int32).toInt + 1 := by
                  have z_1 : ¬ (r_13 : Int32).toInt = (0 : Int32).toInt := fun z => c_18 (Int32.toInt_inj.mp z)
                  have z_2 : ¬ (r_52 : Int32).toInt = (43 : Int32).toInt := fun z => c_55 (Int32.toInt_inj.mp z)
                  have z_3 := congrArg Int32.toInt c_182
                  have z_4 := congrArg Int32.toInt c_191
                  have z_5 : ¬ (r_264 : Int32).toInt = (0 : Int32).toInt := fun z => c_269 (Int32.toInt_inj.mp z)
                  have y_0 : (0 : Int32).toInt = 0 := by decide
                  have y_43 : (43 : Int32).toInt = 43 := by decide
                  have y_45 : (45 : Int32).toInt = 45 := by decide
                  have y_1 : (1 : Int32).toInt = 1 := by decide
                  have t_x_247 : x_247.toInt = (sv_173 : Int32).toInt + (1 : Int32).toInt := by rw [ex_247]; exact add_toInt (by omega) (by omega)
                  omega
                exact ih_35 sv_255 sv_256 sv_257 sv_258 sv_278 sv_279 _ _ _ (by omega) ha_284 ha_285 ha_286 (Agr.trans (k' := (400 * ((Mv 5) : Int32).toInt + ((Mf 3) (Mv 5).toNatClampNeg).toInt)) (Agr.trans (k' := (400 * ((Mv 5) : Int32).toInt + ((Mf 3) (Mv 5).toNatClampNeg).toInt)) (Agr.mono pf_40 hr_287) pf_263 ⟨Int.le_refl _, hr_288⟩) pf_281 ⟨Int.le_refl _, hr_289⟩) pf_280 (TmO.next (rB_fi h_nx.2.2) pf_42 (SkR.trans pf_51 pf_177) hr_290 hi_291 pf_271) (hP.sub [1, 0, 2, 3] rfl) (hD.sub [1, 0, 2, 3] rfl rfl) hS (lv_sub hl [1] rfl)
              · skip
                have hz_293 : (r_264 : Int32).toInt = 0 := by
                  have z_1 : ¬ (r_13 : Int32).toInt = (0 : Int32).toInt := fun z => c_18 (Int32.toInt_inj.mp z)
                  have z_2 : ¬ (r_52 : Int32).toInt = (43 : Int32).toInt := fun z => c_55 (Int32.toInt_inj.mp z)
                  have z_3 := congrArg Int32.toInt c_182
                  have z_4 := congrArg Int32.toInt c_191
                  have z_5 := congrArg Int32.toInt c_269
                  have y_0 : (0 : Int32).toInt = 0 := by decide
                  have y_43 : (43 : Int32).toInt = 43 := by decide
                  have y_45 : (45 : Int32).toInt = 45 := by decide
                  omega
                obtain pf_292 := hm_268 hz_293
                have pf_292 : RfE (pz_sum (rB (Mf 1) (Mv 0)) (St0 (rB (Mf 1) (Mv 0)) x_247 vy_31)) sv_256 := pf_292
                refine lv_iconst (v := 0) hx hb dX12_sum_64 (by decide) ?_
                have ha_294 : ((Mv 2) : Int32).toInt ≤ (sv_255 : Int32).toInt ∧ (sv_255 : Int32).toInt ≤ ((Mv 0) : Int32).toInt := by
                  have z_1 : ¬ (r_13 : Int32).toInt = (0 : Int32).toInt := fun z => c_18 (Int32.toInt_inj.mp z)
                  have z_2 : ¬ (r_52 : Int32).toInt = (43 : Int32).toInt := fun z => c_55 (Int32.toInt_inj.mp z)
                  have z_3 := congrArg Int32.toInt c_182
                  have z_4 := congrArg Int32.toInt c_191
                  have z_5 := congrArg Int32.toInt c_269
                  have y_0 : (0 : Int32).toInt = 0 := by decide
                  have y_43 : (43 : Int32).toInt = 43 := by decide
                  have y_45 : (45 : Int32).toInt = 45 := by decide
                  omega
                have ha_295 : ((Mv 6) : Int32).toInt ≤ (sv_258 : Int32).toInt ∧ (sv_258 : Int32).toInt ≤ 60 := by
                  have z_1 : ¬ (r_13 : Int32).toInt = (0 : Int32).toInt := fun z => c_18 (Int32.toInt_inj.mp z)
                  have z_2 : ¬ (r_52 : Int32).toInt = (43 : Int32).toInt := fun z => c_55 (Int32.toInt_inj.mp z)
                  have z_3 := congrArg Int32.toInt c_182
                  have z_4 := congrArg Int32.toInt c_191
                  have z_5 := congrArg Int32.toInt c_269
                  have y_0 : (0 : Int32).toInt = 0 := by decide
                  have y_43 : (43 : Int32).toInt = 43 := by decide
                  have y_45 : (45 : Int32).toInt = 45 := by decide
                  omega
                have hr_296 : (400 * ((Mv 5) : Int32).toInt + ((Mf 3) (Mv 5).toNatClampNeg).toInt) ≤ (400 * ((Mv 5) : Int32).toInt + ((Mf 3) (Mv 5).toNatClampNeg).toInt) := by
                  have z_1 : ¬ (r_13 : Int32).toInt = (0 : Int32).toInt := fun z => c_18 (Int32.toInt_inj.mp z)
                  have z_2 : ¬ (r_52 : Int32).toInt = (43 : Int32).toInt := fun z => c_55 (Int32.toInt_inj.mp z)
                  have z_3 := congrArg Int32.toInt c_182
                  have z_4 := congrArg Int32.toInt c_191
                  have z_5 := congrArg Int32.toInt c_269
                  have y_0 : (0 : Int32).toInt = 0 := by decide
                  have y_43 : (43 : Int32).toInt = 43 := by decide
                  have y_45 : (45 : Int32).toInt = 45 := by decide
                  omega
                have hr_297 : (400 * ((Mv 5) : Int32).toInt + ((Mf 3) (Mv 5).toNatClampNeg).toInt) ≤ (400 * ((Mv 5) : Int32).toInt + (vy_33 (Mv 5).toNatClampNeg).toInt) := by
                  have z_1 : ¬ (r_13 : Int32).toInt = (0 : Int32).toInt := fun z => c_18 (Int32.toInt_inj.mp z)
                  have z_2 : ¬ (r_52 : Int32).toInt = (43 : Int32).toInt := fun z => c_55 (Int32.toInt_inj.mp z)
                  have z_3 := congrArg Int32.toInt c_182
                  have z_4 := congrArg Int32.toInt c_191
                  have z_5 := congrArg Int32.toInt c_269
                  have y_0 : (0 : Int32).toInt = 0 := by decide
                  have y_43 : (43 : Int32).toInt = 43 := by decide
                  have y_45 : (45 : Int32).toInt = 45 := by decide
                  omega
                have hp_298 : (((0 : Int32).toInt = 0 ∧ ¬ (sv_256 : Int32).toInt = 0) ∨ ((0 : Int32).toInt = 1 ∧ ((Mf 3) (Mv 5).toNatClampNeg).toInt + 1 ≤ (sv_260 (Mv 5).toNatClampNeg).toInt ∧ (sv_260 (Mv 5).toNatClampNeg).toInt + ((Mv 2) : Int32).toInt ≤ ((Mf 3) (Mv 5).toNatClampNeg).toInt + (sv_255 : Int32).toInt ∧ ((Mv 2) : Int32).toInt + 1 ≤ (sv_255 : Int32).toInt)) := by
                  have z_1 : ¬ (r_13 : Int32).toInt = (0 : Int32).toInt := fun z => c_18 (Int32.toInt_inj.mp z)
                  have z_2 : ¬ (r_52 : Int32).toInt = (43 : Int32).toInt := fun z => c_55 (Int32.toInt_inj.mp z)
                  have z_3 := congrArg Int32.toInt c_182
                  have z_4 := congrArg Int32.toInt c_191
                  have z_5 := congrArg Int32.toInt c_269
                  have y_0 : (0 : Int32).toInt = 0 := by decide
                  have y_43 : (43 : Int32).toInt = 43 := by decide
                  have y_45 : (45 : Int32).toInt = 45 := by decide
                  omega
                have hm_299 : (0 : Int32).toInt = 0 → (RfE (pz_sum (rB (Mf 1) (Mv 0)) (St0 (rB (Mf 1) (Mv 0)) (Mv 2) (Mv 6))) sv_256) := by
                  intro h1r
                  have hr_300 : (rB (Mf 1) (Mv 0) (sv_173 : Int32).toInt.toNat = 43 ∨ rB (Mf 1) (Mv 0) (sv_173 : Int32).toInt.toNat = 45) := by
                    have z_1 : ¬ (r_13 : Int32).toInt = (0 : Int32).toInt := fun z => c_18 (Int32.toInt_inj.mp z)
                    have z_2 : ¬ (r_52 : Int32).toInt = (43 : Int32).toInt := fun z => c_55 (Int32.toInt_inj.mp z)
                    have z_3 := congrArg Int32.toInt c_182
                    have z_4 := congrArg Int32.toInt c_191
                    have z_5 := congrArg Int32.toInt c_269
                    have y_0 : (0 : Int32).toInt = 0 := by decide
                    have y_43 : (43 : Int32).toInt = 43 := by decide
                    have y_45 : (45 : Int32).toInt = 45 := by decide
                    omega
                  have hi_301 : (x_247 : Int32).toInt = (sv_173 : Int32).toInt + 1 := by
                    have z_1 : ¬ (r_13 : Int32).toInt = (0 : Int32).toInt := fun z => c_18 (Int32.toInt_inj.mp z)
                    have z_2 : ¬ (r_52 : Int32).toInt = (43 : Int32).toInt := fun z => c_55 (Int32.toInt_inj.mp z)
                    have z_3 := congrArg Int32.toInt c_182
                    have z_4 := congrArg Int32.toInt c_191
                    have z_5 := congrArg Int32.toInt c_269
                    have y_0 : (0 : Int32).toInt = 0 := by decide
                    have y_43 : (43 : Int32).toInt = 43 := by decide
                    have y_45 : (45 : Int32).toInt = 45 := by decide
                    have y_1 : (1 : Int32).toInt = 1 := by decide
                    have t_x_247 : x_247.toInt = (sv_173 : Int32).toInt + (1 : Int32).toInt := by rw [ex_247]; exact add_toInt (by omega) (by omega)
                    omega
                  exact (TmO.er (rB_fi h_nx.2.2) pf_42 (SkR.trans pf_51 pf_177) hr_300 hi_301 pf_292)
                exact retI (v := 0) hx hb hr hlk (rfl) hP hD hS (sv_255, sv_256, sv_257, sv_258, sv_259, sv_260) ⟨_, rfl, hp_298, ha_294, ha_295, (Agr.trans (k' := (400 * ((Mv 5) : Int32).toInt + ((Mf 3) (Mv 5).toNatClampNeg).toInt)) (Agr.mono pf_40 hr_296) pf_263 ⟨Int.le_refl _, hr_297⟩), (fun h => absurd h (by decide)), hm_299⟩ [0, 1, 2, 3] rfl rfl dX12_sum_65 (Nat.le_of_ble_eq_true rfl) (Nat.le_of_ble_eq_true rfl) rfl
    have ha_302 : 0 ≤ (sv_4 : Int32).toInt ∧ (sv_4 : Int32).toInt ≤ ((Mv 0) : Int32).toInt ∧ ((Mv 0) : Int32).toInt ≤ 400 := by
      have z_1 : ¬ (r_13 : Int32).toInt = (0 : Int32).toInt := fun z => c_18 (Int32.toInt_inj.mp z)
      have y_0 : (0 : Int32).toInt = 0 := by decide
      omega
    have ha_303 : (Mv 6).toInt ≤ (sv_7 : Int32).toInt ∧ (sv_7 : Int32).toInt ≤ 60 := by
      have z_1 : ¬ (r_13 : Int32).toInt = (0 : Int32).toInt := fun z => c_18 (Int32.toInt_inj.mp z)
      have y_0 : (0 : Int32).toInt = 0 := by decide
      omega
    have ha_304 : ((Mf 3) (Mv 5).toNatClampNeg).toInt + 1 ≤ (sv_9 (Mv 5).toNatClampNeg).toInt ∧ (sv_9 (Mv 5).toNatClampNeg).toInt + ((Mv 2) : Int32).toInt ≤ ((Mf 3) (Mv 5).toNatClampNeg).toInt + (sv_4 : Int32).toInt ∧ ((Mv 2) : Int32).toInt + 1 ≤ (sv_4 : Int32).toInt := by
      have z_1 : ¬ (r_13 : Int32).toInt = (0 : Int32).toInt := fun z => c_18 (Int32.toInt_inj.mp z)
      have y_0 : (0 : Int32).toInt = 0 := by decide
      omega
    exact loop_36 _ sv_4 sv_5 sv_6 sv_7 sv_8 sv_9 _ _ _ (Nat.lt_succ_self _) ha_302 ha_303 ha_304 pf_12 pf_19 pf_20 hP hD hS hl
  · skip
    have hz_306 : (r_13 : Int32).toInt = 0 := by
      have z_1 := congrArg Int32.toInt c_18
      have y_0 : (0 : Int32).toInt = 0 := by decide
      omega
    obtain pf_305 := hm_17 hz_306
    have pf_305 : RfE (pz_sum (rB (Mf 1) (Mv 0)) (St0 (rB (Mf 1) (Mv 0)) (Mv 2) (Mv 6))) sv_5 := pf_305
    refine lv_iconst (v := 0) hx hb dX12_sum_7 (by decide) ?_
    have hp_307 : (((0 : Int32).toInt = 0 ∧ ¬ (sv_5 : Int32).toInt = 0) ∨ ((0 : Int32).toInt = 1 ∧ ((Mf 3) (Mv 5).toNatClampNeg).toInt + 1 ≤ (sv_9 (Mv 5).toNatClampNeg).toInt ∧ (sv_9 (Mv 5).toNatClampNeg).toInt + ((Mv 2) : Int32).toInt ≤ ((Mf 3) (Mv 5).toNatClampNeg).toInt + (sv_4 : Int32).toInt ∧ ((Mv 2) : Int32).toInt + 1 ≤ (sv_4 : Int32).toInt)) := by
      have z_1 := congrArg Int32.toInt c_18
      have y_0 : (0 : Int32).toInt = 0 := by decide
      omega
    have hm_308 : (0 : Int32).toInt = 0 → (RfE (pz_sum (rB (Mf 1) (Mv 0)) (St0 (rB (Mf 1) (Mv 0)) (Mv 2) (Mv 6))) sv_5) := by
      intro h1r
      exact pf_305
    exact retI (v := 0) hx hb hr hlk (rfl) hP hD hS (sv_4, sv_5, sv_6, sv_7, sv_8, sv_9) ⟨_, rfl, hp_307, pf_10, pf_11, pf_12, (fun h => absurd h (by decide)), hm_308⟩ [0, 1, 2, 3] rfl rfl dX12_sum_8 (Nat.le_of_ble_eq_true rfl) (Nat.le_of_ble_eq_true rfl) rfl
set_option maxRecDepth 100000 in
theorem cu_fX12_sum (l : Launch) (D : va_G) (tc : Nat → ClassId) (sk : (Nat → Nat) × (Nat → Nat)) (Ma_0 : Nat) (Ma_1 : Nat) (Ma_2 : Nat) (Ma_3 : Nat) (Ma_4 : Nat) (Ma_5 : Nat) (Ma_6 : Nat) (Ma_7 : Nat) (Ma_8 : Nat) (Ma_9 : Nat) (Ma_10 : Nat) (Ma_11 : Nat) (Ma_12 : Nat) (Ma_13 : Nat) (Ma_14 : Nat) (Ma_15 : Nat) (Ma_16 : Nat) (Ma_17 : Nat) (Ma_18 : Nat) (Ma_19 : Nat) (Ma_20 : Nat) (Mv_0 : Int32) (Mv_1 : Int32) (Mv_2 : Int32) (Mv_3 : Int32) (Mv_4 : Int32) (Mv_5 : Int32) (Mv_6 : Int32) (Mv_7 : Int32) (Mv_8 : Int32) (Mv_9 : Int32) (Mv_10 : Int32) (Mv_11 : Int32) (Mv_12 : Int32) (Mv_13 : Int32) (Mv_14 : Int32) (Mf_1 : Nat → Int32) (Mf_2 : Nat → Int32) (Mf_3 : Nat → Int32) (Mj_0 : Int64) (b : Int32) (d : Nat) (h_nx : 0 ≤ (Mv_2 : Int32).toInt ∧ (Mv_2 : Int32).toInt ≤ (Mv_0 : Int32).toInt ∧ (Mv_0 : Int32).toInt ≤ 400) (h_cd : Cd Mf_2 Mf_3 Mv_5 b Mv_6 d) (h_L : (Mf_3 Mv_5.toNatClampNeg).toInt ≤ (Mv_2 : Int32).toInt) (h_md : 0 ≤ (Mv_6 : Int32).toInt ∧ (Mv_6 : Int32).toInt ≤ 60) (h_bs : ByS Mf_1) (h_w : (Mv_3 : Int32).toInt = 0) : Ct l yX12_sum cX12_sum 2 (some .boolean) { frames := 5, cells := 0, slots := 0, locals := 109 } D tc sk [.ref Ma_0] [(Ma_0, .inr (12, [.ref Ma_1, .int Mv_0, .int Mv_1, .ref Ma_2, .ref Ma_3, .ref Ma_4, .ref Ma_5, .ref Ma_6, .int Mv_2, .int Mv_3, .int Mv_4, .int Mv_5, .int Mv_6, .int Mv_7, .int Mv_8, .ref Ma_7, .int Mv_9, .ref Ma_8, .int Mv_10, .ref Ma_9, .ref Ma_10, .int Mv_11, .int Mv_12, .int Mv_13, .ref Ma_11, .int Mv_14, .ref Ma_12, .ref Ma_13, .ref Ma_14, .ref Ma_15, .ref Ma_16, .long Mj_0, .ref Ma_17, .ref Ma_18, .ref Ma_19, .ref Ma_20])), (Ma_1, .inl (tc 2, 400, .inl Mf_1)), (Ma_2, .inl (tc 0, 2400, .inl Mf_2)), (Ma_3, .inl (tc 0, 7, .inl Mf_3))] (fun (v : Option Value) (u : (Int32) × (Int32) × (Int32) × (Int32) × (Nat → Int32) × (Nat → Int32)) => match u with | (oo0x1, oo0x2, oo0x3, oo0x4, oo0x5, oo0x6) => ∃ r : Int32, v = some (.int r) ∧ (((r.toInt = 0 ∧ ¬ (oo0x2 : Int32).toInt = 0) ∨ (r.toInt = 1 ∧ (Mf_3 Mv_5.toNatClampNeg).toInt + 1 ≤ (oo0x6 Mv_5.toNatClampNeg).toInt ∧ (oo0x6 Mv_5.toNatClampNeg).toInt + (Mv_2 : Int32).toInt ≤ (Mf_3 Mv_5.toNatClampNeg).toInt + (oo0x1 : Int32).toInt ∧ (Mv_2 : Int32).toInt + 1 ≤ (oo0x1 : Int32).toInt))) ∧ ((Mv_2 : Int32).toInt ≤ (oo0x1 : Int32).toInt ∧ (oo0x1 : Int32).toInt ≤ (Mv_0 : Int32).toInt) ∧ ((Mv_6 : Int32).toInt ≤ (oo0x4 : Int32).toInt ∧ (oo0x4 : Int32).toInt ≤ 60) ∧ (Agr Mf_2 oo0x5 (400 * (Mv_5 : Int32).toInt + (Mf_3 Mv_5.toNatClampNeg).toInt)) ∧ (r.toInt = 1 → (Cd oo0x5 oo0x6 Mv_5 b oo0x4 (d + 1)) ∧ (RfO (pz_sum (rB Mf_1 Mv_0) (St0 (rB Mf_1 Mv_0) Mv_2 Mv_6)) (rB Mf_1 Mv_0) oo0x2 oo0x1 oo0x4)) ∧ (r.toInt = 0 → (RfE (pz_sum (rB Mf_1 Mv_0) (St0 (rB Mf_1 Mv_0) Mv_2 Mv_6)) oo0x2))) (fun (u : (Int32) × (Int32) × (Int32) × (Int32) × (Nat → Int32) × (Nat → Int32)) => match u with | (oo0x1, oo0x2, oo0x3, oo0x4, oo0x5, oo0x6) => [(Ma_0, .inr (12, [.ref Ma_1, .int Mv_0, .int Mv_1, .ref Ma_2, .ref Ma_3, .ref Ma_4, .ref Ma_5, .ref Ma_6, .int oo0x1, .int oo0x2, .int oo0x3, .int Mv_5, .int oo0x4, .int Mv_7, .int Mv_8, .ref Ma_7, .int Mv_9, .ref Ma_8, .int Mv_10, .ref Ma_9, .ref Ma_10, .int Mv_11, .int Mv_12, .int Mv_13, .ref Ma_11, .int Mv_14, .ref Ma_12, .ref Ma_13, .ref Ma_14, .ref Ma_15, .ref Ma_16, .long Mj_0, .ref Ma_17, .ref Ma_18, .ref Ma_19, .ref Ma_20])), (Ma_1, .inl (tc 2, 400, .inl Mf_1)), (Ma_2, .inl (tc 0, 2400, .inl oo0x5)), (Ma_3, .inl (tc 0, 7, .inl oo0x6))]) 0 0 :=
  ct_fX12_sum l D tc sk (fun k => ([Ma_0, Ma_1, Ma_2, Ma_3, Ma_4, Ma_5, Ma_6, Ma_7, Ma_8, Ma_9, Ma_10, Ma_11, Ma_12, Ma_13, Ma_14, Ma_15, Ma_16, Ma_17, Ma_18, Ma_19, Ma_20] : List (Nat)).getD k 0) (fun k => ([Mv_0, Mv_1, Mv_2, Mv_3, Mv_4, Mv_5, Mv_6, Mv_7, Mv_8, Mv_9, Mv_10, Mv_11, Mv_12, Mv_13, Mv_14] : List (Int32)).getD k 0) (fun k => ([(fun _ => 0), Mf_1, Mf_2, Mf_3] : List (Nat → Int32)).getD k (fun _ => 0)) (fun k => ([Mj_0] : List (Int64)).getD k 0) b d h_nx h_cd h_L h_md h_bs h_w
