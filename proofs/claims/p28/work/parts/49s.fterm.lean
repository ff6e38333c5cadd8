set_option maxHeartbeats 4000000 in
set_option maxRecDepth 100000 in
theorem ct_fX12_term (l : Launch) (D : va_G) (tc : Nat → ClassId) (sk : (Nat → Nat) × (Nat → Nat)) (Ma : Nat → Nat) (Mv : Nat → Int32) (Mf : Nat → Nat → Int32) (Mj : Nat → Int64) (b : Int32) (d : Nat) (h_nx : 0 ≤ ((Mv 2) : Int32).toInt ∧ ((Mv 2) : Int32).toInt ≤ ((Mv 0) : Int32).toInt ∧ ((Mv 0) : Int32).toInt ≤ 400) (h_cd : Cd (Mf 2) (Mf 3) (Mv 5) b (Mv 6) d) (h_L : ((Mf 3) (Mv 5).toNatClampNeg).toInt ≤ ((Mv 2) : Int32).toInt) (h_md : 0 ≤ ((Mv 6) : Int32).toInt ∧ ((Mv 6) : Int32).toInt ≤ 60) (h_bs : ByS (Mf 1)) (h_w : ((Mv 3) : Int32).toInt = 0) : Ct l yX12_term cX12_term 2 (some .boolean) { frames := 4, cells := 0, slots := 0, locals := 88 } D tc sk [.ref (Ma 0)] [((Ma 0), .inr (12, [.ref (Ma 1), .int (Mv 0), .int (Mv 1), .ref (Ma 2), .ref (Ma 3), .ref (Ma 4), .ref (Ma 5), .ref (Ma 6), .int (Mv 2), .int (Mv 3), .int (Mv 4), .int (Mv 5), .int (Mv 6), .int (Mv 7), .int (Mv 8), .ref (Ma 7), .int (Mv 9), .ref (Ma 8), .int (Mv 10), .ref (Ma 9), .ref (Ma 10), .int (Mv 11), .int (Mv 12), .int (Mv 13), .ref (Ma 11), .int (Mv 14), .ref (Ma 12), .ref (Ma 13), .ref (Ma 14), .ref (Ma 15), .ref (Ma 16), .long (Mj 0), .ref (Ma 17), .ref (Ma 18), .ref (Ma 19), .ref (Ma 20)])), ((Ma 1), .inl (tc 2, 400, .inl (Mf 1))), ((Ma 2), .inl (tc 0, 2400, .inl (Mf 2))), ((Ma 3), .inl (tc 0, 7, .inl (Mf 3)))] (fun (v : Option Value) (u : (Int32) × (Int32) × (Int32) × (Int32) × (Nat → Int32) × (Nat → Int32)) => match u with | (oo0x1, oo0x2, oo0x3, oo0x4, oo0x5, oo0x6) => ∃ r : Int32, v = some (.int r) ∧ (((r.toInt = 0 ∧ ¬ (oo0x2 : Int32).toInt = 0) ∨ (r.toInt = 1 ∧ ((Mf 3) (Mv 5).toNatClampNeg).toInt + 1 ≤ (oo0x6 (Mv 5).toNatClampNeg).toInt ∧ (oo0x6 (Mv 5).toNatClampNeg).toInt + ((Mv 2) : Int32).toInt ≤ ((Mf 3) (Mv 5).toNatClampNeg).toInt + (oo0x1 : Int32).toInt ∧ ((Mv 2) : Int32).toInt + 1 ≤ (oo0x1 : Int32).toInt))) ∧ (((Mv 2) : Int32).toInt ≤ (oo0x1 : Int32).toInt ∧ (oo0x1 : Int32).toInt ≤ ((Mv 0) : Int32).toInt) ∧ (((Mv 6) : Int32).toInt ≤ (oo0x4 : Int32).toInt ∧ (oo0x4 : Int32).toInt ≤ 60) ∧ (Agr (Mf 2) oo0x5 (400 * ((Mv 5) : Int32).toInt + ((Mf 3) (Mv 5).toNatClampNeg).toInt)) ∧ (r.toInt = 1 → (Cd oo0x5 oo0x6 (Mv 5) b oo0x4 (d + 1)) ∧ (TmO (pz_sum (rB (Mf 1) (Mv 0)) (St0 (rB (Mf 1) (Mv 0)) (Mv 2) (Mv 6))) (rB (Mf 1) (Mv 0)) oo0x2 oo0x1 oo0x4)) ∧ (r.toInt = 0 → (RfE (pz_sum (rB (Mf 1) (Mv 0)) (St0 (rB (Mf 1) (Mv 0)) (Mv 2) (Mv 6))) oo0x2))) (fun (u : (Int32) × (Int32) × (Int32) × (Int32) × (Nat → Int32) × (Nat → Int32)) => match u with | (oo0x1, oo0x2, oo0x3, oo0x4, oo0x5, oo0x6) => [((Ma 0), .inr (12, [.ref (Ma 1), .int (Mv 0), .int (Mv 1), .ref (Ma 2), .ref (Ma 3), .ref (Ma 4), .ref (Ma 5), .ref (Ma 6), .int oo0x1, .int oo0x2, .int oo0x3, .int (Mv 5), .int oo0x4, .int (Mv 7), .int (Mv 8), .ref (Ma 7), .int (Mv 9), .ref (Ma 8), .int (Mv 10), .ref (Ma 9), .ref (Ma 10), .int (Mv 11), .int (Mv 12), .int (Mv 13), .ref (Ma 11), .int (Mv 14), .ref (Ma 12), .ref (Ma 13), .ref (Ma 14), .ref (Ma 15), .ref (Ma 16), .long (Mj 0), .ref (Ma 17), .ref (Ma 18), .ref (Ma 19), .ref (Ma 20)])), ((Ma 1), .inl (tc 2, 400, .inl (Mf 1))), ((Ma 2), .inl (tc 0, 2400, .inl oo0x5)), ((Ma 3), .inl (tc 0, 7, .inl oo0x6))]) 0 0 := by
  refine Ct.start (by decide) (Nat.le_of_ble_eq_true rfl) (fun p e s m below meth c A ls hx hb hr hlk hin hml hown hts hK hX hP hD hA hl hS => ?_)
  have hl : lv_has ls 2 [(0, .ref (Ma 0))] := hl
  have ar_h_cd := Cd.ar h_cd
  refine lv_aload_n hx hb dX12_term_0 rfl (lv_at hl 0 rfl) ?_
  refine cV (a := (Ma 0)) (As := []) (rest := []) (wr := []) ⟨hx, hb, hml, hown, hts⟩ hK hX hA (cu_fX12_value l D tc sk (Ma 0) (Ma 1) (Ma 2) (Ma 3) (Ma 4) (Ma 5) (Ma 6) (Ma 7) (Ma 8) (Ma 9) (Ma 10) (Ma 11) (Ma 12) (Ma 13) (Ma 14) (Ma 15) (Ma 16) (Ma 17) (Ma 18) (Ma 19) (Ma 20) (Mv 0) (Mv 1) (Mv 2) (Mv 3) (Mv 4) (Mv 5) (Mv 6) (Mv 7) (Mv 8) (Mv 9) (Mv 10) (Mv 11) (Mv 12) (Mv 13) (Mv 14) (Mf 1) (Mf 2) (Mf 3) (Mj 0) b d h_nx h_cd h_L h_md h_bs h_w) k_1287 k_1284 k_1286 k_44 k_106 pl_X12_value ⟨Nat.le_of_ble_eq_true rfl, Nat.le_of_ble_eq_true rfl⟩ rfl rfl (va_recv hK hP (ci := 12) (q0 := 0) rfl rfl) hP hD hS [0, 1, 2, 3] [] rfl rfl rfl rfl rfl (by decide) rfl hl.1 rfl (Nat.le_of_ble_eq_true rfl) dX12_term_1 ⟨Nat.le_of_ble_eq_true rfl, Nat.le_of_ble_eq_true rfl⟩ (fun v_1 u_2 H locs hv_3 hP₀ hD₀ hS₀ => ?_)
  obtain ⟨sv_4, sv_5, sv_6, sv_7, sv_8, sv_9⟩ := u_2
  obtain ⟨r_13, rfl, he_14, pf_10, pf_11, pf_12, hm_16, hm_17⟩ := hv_3
  have he_14 : ((r_13.toInt = 0 ∧ ¬ (sv_5 : Int32).toInt = 0) ∨ (r_13.toInt = 1 ∧ ((Mf 3) (Mv 5).toNatClampNeg).toInt + 1 ≤ (sv_9 (Mv 5).toNatClampNeg).toInt ∧ (sv_9 (Mv 5).toNatClampNeg).toInt + ((Mv 2) : Int32).toInt ≤ ((Mf 3) (Mv 5).toNatClampNeg).toInt + (sv_4 : Int32).toInt ∧ ((Mv 2) : Int32).toInt + 1 ≤ (sv_4 : Int32).toInt)) := he_14
  have pf_10 : ((Mv 2) : Int32).toInt ≤ (sv_4 : Int32).toInt ∧ (sv_4 : Int32).toInt ≤ ((Mv 0) : Int32).toInt := pf_10
  have pf_11 : ((Mv 6) : Int32).toInt ≤ (sv_7 : Int32).toInt ∧ (sv_7 : Int32).toInt ≤ 60 := pf_11
  have pf_12 : Agr (Mf 2) sv_8 (400 * ((Mv 5) : Int32).toInt + ((Mf 3) (Mv 5).toNatClampNeg).toInt) := pf_12
  refine W.eq (g2 := F0 m 4 ls [.int r_13]) rfl ?_
  replace hP : va_P D classes [((Ma 0), .inr (12, [.ref (Ma 1), .int (Mv 0), .int (Mv 1), .ref (Ma 2), .ref (Ma 3), .ref (Ma 4), .ref (Ma 5), .ref (Ma 6), .int sv_4, .int sv_5, .int sv_6, .int (Mv 5), .int sv_7, .int (Mv 7), .int (Mv 8), .ref (Ma 7), .int (Mv 9), .ref (Ma 8), .int (Mv 10), .ref (Ma 9), .ref (Ma 10), .int (Mv 11), .int (Mv 12), .int (Mv 13), .ref (Ma 11), .int (Mv 14), .ref (Ma 12), .ref (Ma 13), .ref (Ma 14), .ref (Ma 15), .ref (Ma 16), .long (Mj 0), .ref (Ma 17), .ref (Ma 18), .ref (Ma 19), .ref (Ma 20)])), ((Ma 1), .inl (tc 2, 400, .inl (Mf 1))), ((Ma 2), .inl (tc 0, 2400, .inl sv_8)), ((Ma 3), .inl (tc 0, 7, .inl sv_9))] H := hP₀
  replace hD : va_D A [((Ma 0), .inr (12, [.ref (Ma 1), .int (Mv 0), .int (Mv 1), .ref (Ma 2), .ref (Ma 3), .ref (Ma 4), .ref (Ma 5), .ref (Ma 6), .int sv_4, .int sv_5, .int sv_6, .int (Mv 5), .int sv_7, .int (Mv 7), .int (Mv 8), .ref (Ma 7), .int (Mv 9), .ref (Ma 8), .int (Mv 10), .ref (Ma 9), .ref (Ma 10), .int (Mv 11), .int (Mv 12), .int (Mv 13), .ref (Ma 11), .int (Mv 14), .ref (Ma 12), .ref (Ma 13), .ref (Ma 14), .ref (Ma 15), .ref (Ma 16), .long (Mj 0), .ref (Ma 17), .ref (Ma 18), .ref (Ma 19), .ref (Ma 20)])), ((Ma 1), .inl (tc 2, 400, .inl (Mf 1))), ((Ma 2), .inl (tc 0, 2400, .inl sv_8)), ((Ma 3), .inl (tc 0, 7, .inl sv_9))] := hD₀
  replace hS := hS₀
  clear hP₀ hD₀ hS₀
  refine lv_if_ne (tgt := 9) hx hb dX12_term_4 (by decide) (fun c_18 => ?_) (fun c_18 => ?_)
  · skip
    have hz_21 : (r_13 : Int32).toInt = 1 := by
      have z_1 : ¬ (r_13 : Int32).toInt = (0 : Int32).toInt := fun z => c_18 (Int32.toInt_inj.mp z)
      have y_0 : (0 : Int32).toInt = 0 := by decide
      omega
    obtain ⟨pf_19, pf_20⟩ := hm_16 hz_21
    have pf_19 : Cd sv_8 sv_9 (Mv 5) b sv_7 (d + 1) := pf_19
    have ar_pf_19 := Cd.ar pf_19
    have pf_20 : RfO (pz_val (rB (Mf 1) (Mv 0)) (St0 (rB (Mf 1) (Mv 0)) (Mv 2) (Mv 6))) (rB (Mf 1) (Mv 0)) sv_5 sv_4 sv_7 := pf_20
    have ar_pf_20 := RfO.wr pf_20
    have loop_36 : ∀ (n_34 : Nat) (vy_28 : Int32) (vy_29 : Int32) (vy_30 : Int32) (vy_31 : Int32) (vy_32 : Nat → Int32) (vy_33 : Nat → Int32) (H : Heap) (locs : List Loc) (ls : Array Slot), (400 - (vy_28 : Int32).toInt).toNat < n_34 → (0 ≤ (vy_28 : Int32).toInt ∧ (vy_28 : Int32).toInt ≤ ((Mv 0) : Int32).toInt ∧ ((Mv 0) : Int32).toInt ≤ 400) → ((Mv 6).toInt ≤ (vy_31 : Int32).toInt ∧ (vy_31 : Int32).toInt ≤ 60) → (((Mf 3) (Mv 5).toNatClampNeg).toInt + 1 ≤ (vy_33 (Mv 5).toNatClampNeg).toInt ∧ (vy_33 (Mv 5).toNatClampNeg).toInt + ((Mv 2) : Int32).toInt ≤ ((Mf 3) (Mv 5).toNatClampNeg).toInt + (vy_28 : Int32).toInt ∧ ((Mv 2) : Int32).toInt + 1 ≤ (vy_28 : Int32).toInt) → (Agr (Mf 2) vy_32 (400 * ((Mv 5) : Int32).toInt + ((Mf 3) (Mv 5).toNatClampNeg).toInt)) → (Cd vy_32 vy_33 (Mv 5) b vy_31 (d + 1)) → (TmL (pz_sum (rB (Mf 1) (Mv 0)) (St0 (rB (Mf 1) (Mv 0)) (Mv 2) (Mv 6))) (rB (Mf 1) (Mv 0)) vy_29 vy_28 vy_31) → va_P D classes [((Ma 0), .inr (12, [.ref (Ma 1), .int (Mv 0), .int (Mv 1), .ref (Ma 2), .ref (Ma 3), .ref (Ma 4), .ref (Ma 5), .ref (Ma 6), .int vy_28, .int vy_29, .int vy_30, .int (Mv 5), .int vy_31, .int (Mv 7), .int (Mv 8), .ref (Ma 7), .int (Mv 9), .ref (Ma 8), .int (Mv 10), .ref (Ma 9), .ref (Ma 10), .int (Mv 11), .int (Mv 12), .int (Mv 13), .ref (Ma 11), .int (Mv 14), .ref (Ma 12), .ref (Ma 13), .ref (Ma 14), .ref (Ma 15), .ref (Ma 16), .long (Mj 0), .ref (Ma 17), .ref (Ma 18), .ref (Ma 19), .ref (Ma 20)])), ((Ma 1), .inl (tc 2, 400, .inl (Mf 1))), ((Ma 2), .inl (tc 0, 2400, .inl vy_32)), ((Ma 3), .inl (tc 0, 7, .inl vy_33))] H → va_D A [((Ma 0), .inr (12, [.ref (Ma 1), .int (Mv 0), .int (Mv 1), .ref (Ma 2), .ref (Ma 3), .ref (Ma 4), .ref (Ma 5), .ref (Ma 6), .int vy_28, .int vy_29, .int vy_30, .int (Mv 5), .int vy_31, .int (Mv 7), .int (Mv 8), .ref (Ma 7), .int (Mv 9), .ref (Ma 8), .int (Mv 10), .ref (Ma 9), .ref (Ma 10), .int (Mv 11), .int (Mv 12), .int (Mv 13), .ref (Ma 11), .int (Mv 14), .ref (Ma 12), .ref (Ma 13), .ref (Ma 14), .ref (Ma 15), .ref (Ma 16), .long (Mj 0), .ref (Ma 17), .ref (Ma 18), .ref (Ma 19), .ref (Ma 20)])), ((Ma 1), .inl (tc 2, 400, .inl (Mf 1))), ((Ma 2), .inl (tc 0, 2400, .inl vy_32)), ((Ma 3), .inl (tc 0, 7, .inl vy_33))] → va_S A s.heap H locs → lv_has ls 2 [(0, .ref (Ma 0))] → W p l e ({ frames := 4, cells := 0, slots := 0, locals := 88 }) s m ([.ref (Ma 0)].toArray) below meth c H locs 0 0 (MQ below (QW (fun (v : Option Value) (u : (Int32) × (Int32) × (Int32) × (Int32) × (Nat → Int32) × (Nat → Int32)) => match u with | (oo0x1, oo0x2, oo0x3, oo0x4, oo0x5, oo0x6) => ∃ r : Int32, v = some (.int r) ∧ (((r.toInt = 0 ∧ ¬ (oo0x2 : Int32).toInt = 0) ∨ (r.toInt = 1 ∧ ((Mf 3) (Mv 5).toNatClampNeg).toInt + 1 ≤ (oo0x6 (Mv 5).toNatClampNeg).toInt ∧ (oo0x6 (Mv 5).toNatClampNeg).toInt + ((Mv 2) : Int32).toInt ≤ ((Mf 3) (Mv 5).toNatClampNeg).toInt + (oo0x1 : Int32).toInt ∧ ((Mv 2) : Int32).toInt + 1 ≤ (oo0x1 : Int32).toInt))) ∧ (((Mv 2) : Int32).toInt ≤ (oo0x1 : Int32).toInt ∧ (oo0x1 : Int32).toInt ≤ ((Mv 0) : Int32).toInt) ∧ (((Mv 6) : Int32).toInt ≤ (oo0x4 : Int32).toInt ∧ (oo0x4 : Int32).toInt ≤ 60) ∧ (Agr (Mf 2) oo0x5 (400 * ((Mv 5) : Int32).toInt + ((Mf 3) (Mv 5).toNatClampNeg).toInt)) ∧ (r.toInt = 1 → (Cd oo0x5 oo0x6 (Mv 5) b oo0x4 (d + 1)) ∧ (TmO (pz_sum (rB (Mf 1) (Mv 0)) (St0 (rB (Mf 1) (Mv 0)) (Mv 2) (Mv 6))) (rB (Mf 1) (Mv 0)) oo0x2 oo0x1 oo0x4)) ∧ (r.toInt = 0 → (RfE (pz_sum (rB (Mf 1) (Mv 0)) (St0 (rB (Mf 1) (Mv 0)) (Mv 2) (Mv 6))) oo0x2))) (BW D (fun (u : (Int32) × (Int32) × (Int32) × (Int32) × (Nat → Int32) × (Nat → Int32)) => match u with | (oo0x1, oo0x2, oo0x3, oo0x4, oo0x5, oo0x6) => [((Ma 0), .inr (12, [.ref (Ma 1), .int (Mv 0), .int (Mv 1), .ref (Ma 2), .ref (Ma 3), .ref (Ma 4), .ref (Ma 5), .ref (Ma 6), .int oo0x1, .int oo0x2, .int oo0x3, .int (Mv 5), .int oo0x4, .int (Mv 7), .int (Mv 8), .ref (Ma 7), .int (Mv 9), .ref (Ma 8), .int (Mv 10), .ref (Ma 9), .ref (Ma 10), .int (Mv 11), .int (Mv 12), .int (Mv 13), .ref (Ma 11), .int (Mv 14), .ref (Ma 12), .ref (Ma 13), .ref (Ma 14), .ref (Ma 15), .ref (Ma 16), .long (Mj 0), .ref (Ma 17), .ref (Ma 18), .ref (Ma 19), .ref (Ma 20)])), ((Ma 1), .inl (tc 2, 400, .inl (Mf 1))), ((Ma 2), .inl (tc 0, 2400, .inl oo0x5)), ((Ma 3), .inl (tc 0, 7, .inl oo0x6))]) A) A) ([.ref (Ma 0)].toArray) s 0 0 A) (F0 m 9 ls []) := by
      clear hP hD hS hl
      intro n_34
      induction n_34 with
      | zero =>
        intro vy_28 vy_29 vy_30 vy_31 vy_32 vy_33 H locs ls h1
        exact absurd h1 (Nat.not_lt_zero _)
      | succ n_34 ih_35 =>
        intro vy_28 vy_29 vy_30 vy_31 vy_32 vy_33 H locs ls hn_43 pf_37 pf_38 pf_39 pf_40 pf_41 pf_42 hP hD hS hl
        have ar_pf_41 := Cd.ar pf_41
        have ar_pf_42 := pf_42.1
        refine lv_aload_n hx hb dX12_term_9 rfl (lv_at hl 0 rfl) ?_
        refine cV (a := (Ma 0)) (As := []) (rest := []) (wr := [((Ma 2), .inl (tc 0, 2400, .inl vy_32)), ((Ma 3), .inl (tc 0, 7, .inl vy_33))]) ⟨hx, hb, hml, hown, hts⟩ hK hX hA (cu_fX12_see l D tc sk (Ma 0) (Ma 1) (Ma 2) (Ma 3) (Ma 4) (Ma 5) (Ma 6) (Ma 7) (Ma 8) (Ma 9) (Ma 10) (Ma 11) (Ma 12) (Ma 13) (Ma 14) (Ma 15) (Ma 16) (Ma 17) (Ma 18) (Ma 19) (Ma 20) (Mv 0) (Mv 1) vy_28 vy_29 vy_30 (Mv 5) vy_31 (Mv 7) (Mv 8) (Mv 9) (Mv 10) (Mv 11) (Mv 12) (Mv 13) (Mv 14) (Mf 1) (Mj 0) pf_37 h_bs) k_1211 k_1208 k_1210 k_27 k_106 pl_X12_see ⟨Nat.le_of_ble_eq_true rfl, Nat.le_of_ble_eq_true rfl⟩ rfl rfl (va_recv hK hP (ci := 12) (q0 := 0) rfl rfl) hP hD hS [0, 1] [2, 3] rfl rfl rfl rfl rfl (by decide) rfl hl.1 rfl (Nat.le_of_ble_eq_true rfl) dX12_term_10 ⟨Nat.le_of_ble_eq_true rfl, Nat.le_of_ble_eq_true rfl⟩ (fun v_44 u_45 H locs hv_46 hP₀ hD₀ hS₀ => ?_)
        obtain ⟨sv_47, rfl⟩ : ∃ z, z = u_45 := ⟨_, rfl⟩
        obtain ⟨r_52, rfl, he_53, pf_48, pf_49, pf_50, pf_51⟩ := hv_46
        have he_53 : (r_52.toInt = rB (Mf 1) (Mv 0) (sv_47 : Int32).toInt.toNat ∧ (r_52.toInt = -1 ∨ (sv_47 : Int32).toInt < (Mv 0).toInt)) := he_53
        have pf_48 : (vy_28 : Int32).toInt ≤ (sv_47 : Int32).toInt ∧ (sv_47 : Int32).toInt ≤ ((Mv 0) : Int32).toInt := pf_48
        have pf_49 : NSq (Mf 1) (Mv 0) sv_47 := pf_49
        have pf_50 : Stl (Mf 1) (Mv 0) vy_28 sv_47 := pf_50
        have pf_51 : SkR (rB (Mf 1) (Mv 0)) vy_28 sv_47 := pf_51
        refine W.eq (g2 := F0 m 13 ls [.int r_52]) rfl ?_
        replace hP : va_P D classes [((Ma 2), .inl (tc 0, 2400, .inl vy_32)), ((Ma 3), .inl (tc 0, 7, .inl vy_33)), ((Ma 0), .inr (12, [.ref (Ma 1), .int (Mv 0), .int (Mv 1), .ref (Ma 2), .ref (Ma 3), .ref (Ma 4), .ref (Ma 5), .ref (Ma 6), .int sv_47, .int vy_29, .int vy_30, .int (Mv 5), .int vy_31, .int (Mv 7), .int (Mv 8), .ref (Ma 7), .int (Mv 9), .ref (Ma 8), .int (Mv 10), .ref (Ma 9), .ref (Ma 10), .int (Mv 11), .int (Mv 12), .int (Mv 13), .ref (Ma 11), .int (Mv 14), .ref (Ma 12), .ref (Ma 13), .ref (Ma 14), .ref (Ma 15), .ref (Ma 16), .long (Mj 0), .ref (Ma 17), .ref (Ma 18), .ref (Ma 19), .ref (Ma 20)])), ((Ma 1), .inl (tc 2, 400, .inl (Mf 1)))] H := hP₀
        replace hD : va_D A [((Ma 2), .inl (tc 0, 2400, .inl vy_32)), ((Ma 3), .inl (tc 0, 7, .inl vy_33)), ((Ma 0), .inr (12, [.ref (Ma 1), .int (Mv 0), .int (Mv 1), .ref (Ma 2), .ref (Ma 3), .ref (Ma 4), .ref (Ma 5), .ref (Ma 6), .int sv_47, .int vy_29, .int vy_30, .int (Mv 5), .int vy_31, .int (Mv 7), .int (Mv 8), .ref (Ma 7), .int (Mv 9), .ref (Ma 8), .int (Mv 10), .ref (Ma 9), .ref (Ma 10), .int (Mv 11), .int (Mv 12), .int (Mv 13), .ref (Ma 11), .int (Mv 14), .ref (Ma 12), .ref (Ma 13), .ref (Ma 14), .ref (Ma 15), .ref (Ma 16), .long (Mj 0), .ref (Ma 17), .ref (Ma 18), .ref (Ma 19), .ref (Ma 20)])), ((Ma 1), .inl (tc 2, 400, .inl (Mf 1)))] := hD₀
        replace hS := hS₀
        clear hP₀ hD₀ hS₀
        refine lv_bipush (v := 42) hx hb dX12_term_13 (by decide) ?_
        refine lv_icmp_eq (tgt := 36) hx hb dX12_term_15 (by decide) (fun c_55 => ?_) (fun c_55 => ?_)
        · skip
          refine lv_aload_n hx hb dX12_term_36 rfl (lv_at hl 0 rfl) ?_
          refine gf_X12_7 hx hb hts hown hK hP 2 rfl rfl dX12_term_37 ?_
          refine lv_aload_n hx hb dX12_term_40 rfl (lv_at hl 0 rfl) ?_
          refine gf_X12_87 hx hb hts hown hK hP 2 rfl rfl dX12_term_41 ?_
          have hi_56 : vp_in sv_47 400 := by
            have z_1 : ¬ (r_13 : Int32).toInt = (0 : Int32).toInt := fun z => c_18 (Int32.toInt_inj.mp z)
            have z_2 := congrArg Int32.toInt c_55
            have y_0 : (0 : Int32).toInt = 0 := by decide
            have y_42 : (42 : Int32).toInt = 42 := by decide
            refine vp_in_iff.mpr ⟨?_, ?_⟩ <;> omega
          refine va_bald hx hb hK hP 3 2 rfl rfl hi_56 dX12_term_44 ?_
          refine lv_topi (fun x_57 ex_57 => ?_)
          have kx_57 : x_57.toInt = ((Mf 1) (sv_47 : Int32).toInt.toNat).toInt := congrArg Int32.toInt ex_57
          have kcx_57 : x_57.toInt = ((Mf 1) (sv_47 : Int32).toNatClampNeg).toInt := congrArg Int32.toInt ex_57
          refine lv_bipush (v := 42) hx hb dX12_term_45 (by decide) ?_
          refine lv_icmp_ne (tgt := 54) hx hb dX12_term_47 (by decide) (fun c_58 => ?_) (fun c_58 => ?_)
          · skip
            refine lv_aload_n hx hb dX12_term_54 rfl (lv_at hl 0 rfl) ?_
            refine gf_X12_7 hx hb hts hown hK hP 2 rfl rfl dX12_term_55 ?_
            refine lv_aload_n hx hb dX12_term_58 rfl (lv_at hl 0 rfl) ?_
            refine gf_X12_87 hx hb hts hown hK hP 2 rfl rfl dX12_term_59 ?_
            have hi_59 : vp_in sv_47 400 := by
              have z_1 : ¬ (r_13 : Int32).toInt = (0 : Int32).toInt := fun z => c_18 (Int32.toInt_inj.mp z)
              have z_2 := congrArg Int32.toInt c_55
              have z_3 : ¬ (x_57 : Int32).toInt = (42 : Int32).toInt := fun z => c_58 (Int32.toInt_inj.mp z)
              have y_0 : (0 : Int32).toInt = 0 := by decide
              have y_42 : (42 : Int32).toInt = 42 := by decide
              refine vp_in_iff.mpr ⟨?_, ?_⟩ <;> omega
            refine va_bald hx hb hK hP 3 2 rfl rfl hi_59 dX12_term_62 ?_
            refine lv_topi (fun x_60 ex_60 => ?_)
            have kx_60 : x_60.toInt = ((Mf 1) (sv_47 : Int32).toInt.toNat).toInt := congrArg Int32.toInt ex_60
            have kcx_60 : x_60.toInt = ((Mf 1) (sv_47 : Int32).toNatClampNeg).toInt := congrArg Int32.toInt ex_60
            refine lv_bipush (v := 47) hx hb dX12_term_63 (by decide) ?_
            refine lv_icmp_ne (tgt := 72) hx hb dX12_term_65 (by decide) (fun c_61 => ?_) (fun c_61 => ?_)
            · skip
              refine lv_bipush (v := 14) hx hb dX12_term_72 (by decide) ?_
              refine lv_istore_n (lv' := [(1, .int 14), (0, .ref (Ma 0))]) hx hb dX12_term_74 rfl hl (by decide) rfl (fun ls hl₀ => ?_)
              replace hl := hl₀
              clear hl₀
              refine lv_aload_n hx hb dX12_term_75 rfl (lv_at hl 1 rfl) ?_
              refine lv_dup hx hb dX12_term_76 rfl ?_
              refine gf_X12_87 hx hb hts hown hK hP 2 rfl rfl dX12_term_77 ?_
              refine lv_iconst (v := 1) hx hb dX12_term_80 (by decide) ?_
              refine lv_iadd hx hb dX12_term_81 ?_
              refine lv_topi (fun x_62 ex_62 => ?_)
              refine pf_X12_87 hx hb hts hown hK hP hD hS 2 rfl (Nat.le_of_ble_eq_true rfl) rfl rfl dX12_term_82 (fun H locs hP₀ hD₀ hS₀ => ?_)
              replace hP : va_P D classes [((Ma 2), .inl (tc 0, 2400, .inl vy_32)), ((Ma 3), .inl (tc 0, 7, .inl vy_33)), ((Ma 0), .inr (12, [.ref (Ma 1), .int (Mv 0), .int (Mv 1), .ref (Ma 2), .ref (Ma 3), .ref (Ma 4), .ref (Ma 5), .ref (Ma 6), .int x_62, .int vy_29, .int vy_30, .int (Mv 5), .int vy_31, .int (Mv 7), .int (Mv 8), .ref (Ma 7), .int (Mv 9), .ref (Ma 8), .int (Mv 10), .ref (Ma 9), .ref (Ma 10), .int (Mv 11), .int (Mv 12), .int (Mv 13), .ref (Ma 11), .int (Mv 14), .ref (Ma 12), .ref (Ma 13), .ref (Ma 14), .ref (Ma 15), .ref (Ma 16), .long (Mj 0), .ref (Ma 17), .ref (Ma 18), .ref (Ma 19), .ref (Ma 20)])), ((Ma 1), .inl (tc 2, 400, .inl (Mf 1)))] H := hP₀
              replace hD : va_D A [((Ma 2), .inl (tc 0, 2400, .inl vy_32)), ((Ma 3), .inl (tc 0, 7, .inl vy_33)), ((Ma 0), .inr (12, [.ref (Ma 1), .int (Mv 0), .int (Mv 1), .ref (Ma 2), .ref (Ma 3), .ref (Ma 4), .ref (Ma 5), .ref (Ma 6), .int x_62, .int vy_29, .int vy_30, .int (Mv 5), .int vy_31, .int (Mv 7), .int (Mv 8), .ref (Ma 7), .int (Mv 9), .ref (Ma 8), .int (Mv 10), .ref (Ma 9), .ref (Ma 10), .int (Mv 11), .int (Mv 12), .int (Mv 13), .ref (Ma 11), .int (Mv 14), .ref (Ma 12), .ref (Ma 13), .ref (Ma 14), .ref (Ma 15), .ref (Ma 16), .long (Mj 0), .ref (Ma 17), .ref (Ma 18), .ref (Ma 19), .ref (Ma 20)])), ((Ma 1), .inl (tc 2, 400, .inl (Mf 1)))] := hD₀
              replace hS := hS₀
              clear hP₀ hD₀ hS₀
              have tp_x_62 : (x_62 : Int32).toInt = (sv_47 : Int32).toInt + 1 := by
                have z_1 : ¬ (r_13 : Int32).toInt = (0 : Int32).toInt := fun z => c_18 (Int32.toInt_inj.mp z)
                have z_2 := congrArg Int32.toInt c_55
                have z_3 : ¬ (x_57 : Int32).toInt = (42 : Int32).toInt := fun z => c_58 (Int32.toInt_inj.mp z)
                have z_4 : ¬ (x_60 : Int32).toInt = (47 : Int32).toInt := fun z => c_61 (Int32.toInt_inj.mp z)
                have y_0 : (0 : Int32).toInt = 0 := by decide
                have y_42 : (42 : Int32).toInt = 42 := by decide
                have y_47 : (47 : Int32).toInt = 47 := by decide
                have y_1 : (1 : Int32).toInt = 1 := by decide
                have t_x_62 : x_62.toInt = (sv_47 : Int32).toInt + (1 : Int32).toInt := by rw [ex_62]; exact add_toInt (by omega) (by omega)
                omega
              refine lv_aload_n hx hb dX12_term_85 rfl (lv_at hl 1 rfl) ?_
              have ha_63 : 0 ≤ (x_62 : Int32).toInt ∧ (x_62 : Int32).toInt ≤ ((Mv 0) : Int32).toInt ∧ ((Mv 0) : Int32).toInt ≤ 400 := by
                have z_1 : ¬ (r_13 : Int32).toInt = (0 : Int32).toInt := fun z => c_18 (Int32.toInt_inj.mp z)
                have z_2 := congrArg Int32.toInt c_55
                have z_3 : ¬ (x_57 : Int32).toInt = (42 : Int32).toInt := fun z => c_58 (Int32.toInt_inj.mp z)
                have z_4 : ¬ (x_60 : Int32).toInt = (47 : Int32).toInt := fun z => c_61 (Int32.toInt_inj.mp z)
                have y_0 : (0 : Int32).toInt = 0 := by decide
                have y_42 : (42 : Int32).toInt = 42 := by decide
                have y_47 : (47 : Int32).toInt = 47 := by decide
                have y_1 : (1 : Int32).toInt = 1 := by decide
                have t_x_62 : x_62.toInt = (sv_47 : Int32).toInt + (1 : Int32).toInt := by rw [ex_62]; exact add_toInt (by omega) (by omega)
                omega
              have ha_64 : (vy_33 (Mv 5).toNatClampNeg).toInt ≤ (x_62 : Int32).toInt := by
                have z_1 : ¬ (r_13 : Int32).toInt = (0 : Int32).toInt := fun z => c_18 (Int32.toInt_inj.mp z)
                have z_2 := congrArg Int32.toInt c_55
                have z_3 : ¬ (x_57 : Int32).toInt = (42 : Int32).toInt := fun z => c_58 (Int32.toInt_inj.mp z)
                have z_4 : ¬ (x_60 : Int32).toInt = (47 : Int32).toInt := fun z => c_61 (Int32.toInt_inj.mp z)
                have y_0 : (0 : Int32).toInt = 0 := by decide
                have y_42 : (42 : Int32).toInt = 42 := by decide
                have y_47 : (47 : Int32).toInt = 47 := by decide
                have y_1 : (1 : Int32).toInt = 1 := by decide
                have t_x_62 : x_62.toInt = (sv_47 : Int32).toInt + (1 : Int32).toInt := by rw [ex_62]; exact add_toInt (by omega) (by omega)
                omega
              have ha_65 : 0 ≤ (vy_31 : Int32).toInt ∧ (vy_31 : Int32).toInt ≤ 60 := by
                have z_1 : ¬ (r_13 : Int32).toInt = (0 : Int32).toInt := fun z => c_18 (Int32.toInt_inj.mp z)
                have z_2 := congrArg Int32.toInt c_55
                have z_3 : ¬ (x_57 : Int32).toInt = (42 : Int32).toInt := fun z => c_58 (Int32.toInt_inj.mp z)
                have z_4 : ¬ (x_60 : Int32).toInt = (47 : Int32).toInt := fun z => c_61 (Int32.toInt_inj.mp z)
                have y_0 : (0 : Int32).toInt = 0 := by decide
                have y_42 : (42 : Int32).toInt = 42 := by decide
                have y_47 : (47 : Int32).toInt = 47 := by decide
                omega
              have ha_66 : (vy_29 : Int32).toInt = 0 := by
                have z_1 : ¬ (r_13 : Int32).toInt = (0 : Int32).toInt := fun z => c_18 (Int32.toInt_inj.mp z)
                have z_2 := congrArg Int32.toInt c_55
                have z_3 : ¬ (x_57 : Int32).toInt = (42 : Int32).toInt := fun z => c_58 (Int32.toInt_inj.mp z)
                have z_4 : ¬ (x_60 : Int32).toInt = (47 : Int32).toInt := fun z => c_61 (Int32.toInt_inj.mp z)
                have y_0 : (0 : Int32).toInt = 0 := by decide
                have y_42 : (42 : Int32).toInt = 42 := by decide
                have y_47 : (47 : Int32).toInt = 47 := by decide
                omega
              refine cV (a := (Ma 0)) (As := []) (rest := []) (wr := []) ⟨hx, hb, hml, hown, hts⟩ hK hX hA (cu_fX12_value l D tc sk (Ma 0) (Ma 1) (Ma 2) (Ma 3) (Ma 4) (Ma 5) (Ma 6) (Ma 7) (Ma 8) (Ma 9) (Ma 10) (Ma 11) (Ma 12) (Ma 13) (Ma 14) (Ma 15) (Ma 16) (Ma 17) (Ma 18) (Ma 19) (Ma 20) (Mv 0) (Mv 1) x_62 vy_29 vy_30 (Mv 5) vy_31 (Mv 7) (Mv 8) (Mv 9) (Mv 10) (Mv 11) (Mv 12) (Mv 13) (Mv 14) (Mf 1) vy_32 vy_33 (Mj 0) b (d + 1) ha_63 pf_41 ha_64 ha_65 h_bs ha_66) k_1287 k_1284 k_1286 k_44 k_106 pl_X12_value ⟨Nat.le_of_ble_eq_true rfl, Nat.le_of_ble_eq_true rfl⟩ rfl rfl (va_recv hK hP (ci := 12) (q0 := 2) rfl rfl) hP hD hS [2, 3, 0, 1] [] rfl rfl rfl rfl rfl (by decide) rfl hl.1 rfl (Nat.le_of_ble_eq_true rfl) dX12_term_86 ⟨Nat.le_of_ble_eq_true rfl, Nat.le_of_ble_eq_true rfl⟩ (fun v_67 u_68 H locs hv_69 hP₀ hD₀ hS₀ => ?_)
              obtain ⟨sv_70, sv_71, sv_72, sv_73, sv_74, sv_75⟩ := u_68
              obtain ⟨r_79, rfl, he_80, pf_76, pf_77, pf_78, hm_82, hm_83⟩ := hv_69
              have he_80 : ((r_79.toInt = 0 ∧ ¬ (sv_71 : Int32).toInt = 0) ∨ (r_79.toInt = 1 ∧ (vy_33 (Mv 5).toNatClampNeg).toInt + 1 ≤ (sv_75 (Mv 5).toNatClampNeg).toInt ∧ (sv_75 (Mv 5).toNatClampNeg).toInt + (x_62 : Int32).toInt ≤ (vy_33 (Mv 5).toNatClampNeg).toInt + (sv_70 : Int32).toInt ∧ (x_62 : Int32).toInt + 1 ≤ (sv_70 : Int32).toInt)) := he_80
              have pf_76 : (x_62 : Int32).toInt ≤ (sv_70 : Int32).toInt ∧ (sv_70 : Int32).toInt ≤ ((Mv 0) : Int32).toInt := pf_76
              have pf_77 : (vy_31 : Int32).toInt ≤ (sv_73 : Int32).toInt ∧ (sv_73 : Int32).toInt ≤ 60 := pf_77
              have pf_78 : Agr vy_32 sv_74 (400 * ((Mv 5) : Int32).toInt + (vy_33 (Mv 5).toNatClampNeg).toInt) := pf_78
              refine W.eq (g2 := F0 m 89 ls [.int r_79]) rfl ?_
              replace hP : va_P D classes [((Ma 0), .inr (12, [.ref (Ma 1), .int (Mv 0), .int (Mv 1), .ref (Ma 2), .ref (Ma 3), .ref (Ma 4), .ref (Ma 5), .ref (Ma 6), .int sv_70, .int sv_71, .int sv_72, .int (Mv 5), .int sv_73, .int (Mv 7), .int (Mv 8), .ref (Ma 7), .int (Mv 9), .ref (Ma 8), .int (Mv 10), .ref (Ma 9), .ref (Ma 10), .int (Mv 11), .int (Mv 12), .int (Mv 13), .ref (Ma 11), .int (Mv 14), .ref (Ma 12), .ref (Ma 13), .ref (Ma 14), .ref (Ma 15), .ref (Ma 16), .long (Mj 0), .ref (Ma 17), .ref (Ma 18), .ref (Ma 19), .ref (Ma 20)])), ((Ma 1), .inl (tc 2, 400, .inl (Mf 1))), ((Ma 2), .inl (tc 0, 2400, .inl sv_74)), ((Ma 3), .inl (tc 0, 7, .inl sv_75))] H := hP₀
              replace hD : va_D A [((Ma 0), .inr (12, [.ref (Ma 1), .int (Mv 0), .int (Mv 1), .ref (Ma 2), .ref (Ma 3), .ref (Ma 4), .ref (Ma 5), .ref (Ma 6), .int sv_70, .int sv_71, .int sv_72, .int (Mv 5), .int sv_73, .int (Mv 7), .int (Mv 8), .ref (Ma 7), .int (Mv 9), .ref (Ma 8), .int (Mv 10), .ref (Ma 9), .ref (Ma 10), .int (Mv 11), .int (Mv 12), .int (Mv 13), .ref (Ma 11), .int (Mv 14), .ref (Ma 12), .ref (Ma 13), .ref (Ma 14), .ref (Ma 15), .ref (Ma 16), .long (Mj 0), .ref (Ma 17), .ref (Ma 18), .ref (Ma 19), .ref (Ma 20)])), ((Ma 1), .inl (tc 2, 400, .inl (Mf 1))), ((Ma 2), .inl (tc 0, 2400, .inl sv_74)), ((Ma 3), .inl (tc 0, 7, .inl sv_75))] := hD₀
              replace hS := hS₀
              clear hP₀ hD₀ hS₀
              refine lv_if_ne (tgt := 94) hx hb dX12_term_89 (by decide) (fun c_84 => ?_) (fun c_84 => ?_)
              · skip
                have hz_87 : (r_79 : Int32).toInt = 1 := by
                  have z_1 : ¬ (r_13 : Int32).toInt = (0 : Int32).toInt := fun z => c_18 (Int32.toInt_inj.mp z)
                  have z_2 := congrArg Int32.toInt c_55
                  have z_3 : ¬ (x_57 : Int32).toInt = (42 : Int32).toInt := fun z => c_58 (Int32.toInt_inj.mp z)
                  have z_4 : ¬ (x_60 : Int32).toInt = (47 : Int32).toInt := fun z => c_61 (Int32.toInt_inj.mp z)
                  have z_5 : ¬ (r_79 : Int32).toInt = (0 : Int32).toInt := fun z => c_84 (Int32.toInt_inj.mp z)
                  have y_0 : (0 : Int32).toInt = 0 := by decide
                  have y_42 : (42 : Int32).toInt = 42 := by decide
                  have y_47 : (47 : Int32).toInt = 47 := by decide
                  omega
                obtain ⟨pf_85, pf_86⟩ := hm_82 hz_87
                have pf_85 : Cd sv_74 sv_75 (Mv 5) b sv_73 ((d + 1) + 1) := pf_85
                have ar_pf_85 := Cd.ar pf_85
                have pf_86 : RfO (pz_val (rB (Mf 1) (Mv 0)) (St0 (rB (Mf 1) (Mv 0)) x_62 vy_31)) (rB (Mf 1) (Mv 0)) sv_71 sv_70 sv_73 := pf_86
                have ar_pf_86 := RfO.wr pf_86
                refine lv_aload_n hx hb dX12_term_94 rfl (lv_at hl 1 rfl) ?_
                refine lv_iload_n hx hb dX12_term_95 rfl (lv_at hl 0 rfl) ?_
                refine lv_iconst (v := 0) hx hb dX12_term_96 (by decide) ?_
                have ha_88 : ((d + 1) : Int) ≤ sv_73.toInt := by
                  have z_1 : ¬ (r_13 : Int32).toInt = (0 : Int32).toInt := fun z => c_18 (Int32.toInt_inj.mp z)
                  have z_2 := congrArg Int32.toInt c_55
                  have z_3 : ¬ (x_57 : Int32).toInt = (42 : Int32).toInt := fun z => c_58 (Int32.toInt_inj.mp z)
                  have z_4 : ¬ (x_60 : Int32).toInt = (47 : Int32).toInt := fun z => c_61 (Int32.toInt_inj.mp z)
                  have z_5 : ¬ (r_79 : Int32).toInt = (0 : Int32).toInt := fun z => c_84 (Int32.toInt_inj.mp z)
                  have y_0 : (0 : Int32).toInt = 0 := by decide
                  have y_42 : (42 : Int32).toInt = 42 := by decide
                  have y_47 : (47 : Int32).toInt = 47 := by decide
                  omega
                have ha_89 : (sv_75 (Mv 5).toNatClampNeg).toInt < 400 := by
                  have z_1 : ¬ (r_13 : Int32).toInt = (0 : Int32).toInt := fun z => c_18 (Int32.toInt_inj.mp z)
                  have z_2 := congrArg Int32.toInt c_55
                  have z_3 : ¬ (x_57 : Int32).toInt = (42 : Int32).toInt := fun z => c_58 (Int32.toInt_inj.mp z)
                  have z_4 : ¬ (x_60 : Int32).toInt = (47 : Int32).toInt := fun z => c_61 (Int32.toInt_inj.mp z)
                  have z_5 : ¬ (r_79 : Int32).toInt = (0 : Int32).toInt := fun z => c_84 (Int32.toInt_inj.mp z)
                  have y_0 : (0 : Int32).toInt = 0 := by decide
                  have y_42 : (42 : Int32).toInt = 42 := by decide
                  have y_47 : (47 : Int32).toInt = 47 := by decide
                  omega
                refine cV (a := (Ma 0)) (As := [.int 14, .int 0]) (rest := []) (wr := [((Ma 1), .inl (tc 2, 400, .inl (Mf 1)))]) ⟨hx, hb, hml, hown, hts⟩ hK hX hA (cu_X12_puts l D tc sk (Ma 0) (Ma 1) (Ma 2) (Ma 3) (Ma 4) (Ma 5) (Ma 6) (Ma 7) (Ma 8) (Ma 9) (Ma 10) (Ma 11) (Ma 12) (Ma 13) (Ma 14) (Ma 15) (Ma 16) (Ma 17) (Ma 18) (Ma 19) (Ma 20) (Mv 0) (Mv 1) sv_70 sv_71 sv_72 (Mv 5) sv_73 (Mv 7) (Mv 8) (Mv 9) (Mv 10) (Mv 11) (Mv 12) (Mv 13) (Mv 14) sv_74 sv_75 (Mj 0) 14 0 b sv_73 ((d + 1) + 1) (d + 1) pf_85 (StpR.op (by decide) rfl (by omega)) ha_88 ha_89) k_1296 k_1293 k_1295 k_46 k_106 pl_X12_puts ⟨Nat.le_of_ble_eq_true rfl, Nat.le_of_ble_eq_true rfl⟩ rfl rfl (va_recv hK hP (ci := 12) (q0 := 0) rfl rfl) hP hD hS [0, 2, 3] [1] rfl rfl rfl rfl rfl (by decide) rfl hl.1 rfl (Nat.le_of_ble_eq_true rfl) dX12_term_97 ⟨Nat.le_of_ble_eq_true rfl, Nat.le_of_ble_eq_true rfl⟩ (fun v_90 u_91 H locs hv_92 hP₀ hD₀ hS₀ => ?_)
                obtain ⟨sv_93, sv_94⟩ := u_91
                obtain ⟨rfl, pf_95, pf_96, pf_97⟩ := hv_92
                have pf_95 : Cd sv_93 sv_94 (Mv 5) b sv_73 (d + 1) := pf_95
                have ar_pf_95 := Cd.ar pf_95
                have pf_96 : Agr sv_74 sv_93 (400 * ((Mv 5) : Int32).toInt + (sv_75 (Mv 5).toNatClampNeg).toInt) := pf_96
                have pf_97 : (sv_94 (Mv 5).toNatClampNeg).toInt = (sv_75 (Mv 5).toNatClampNeg).toInt + 1 := pf_97
                refine W.eq (g2 := F0 m 100 ls []) rfl ?_
                replace hP : va_P D classes [((Ma 1), .inl (tc 2, 400, .inl (Mf 1))), ((Ma 0), .inr (12, [.ref (Ma 1), .int (Mv 0), .int (Mv 1), .ref (Ma 2), .ref (Ma 3), .ref (Ma 4), .ref (Ma 5), .ref (Ma 6), .int sv_70, .int sv_71, .int sv_72, .int (Mv 5), .int sv_73, .int (Mv 7), .int (Mv 8), .ref (Ma 7), .int (Mv 9), .ref (Ma 8), .int (Mv 10), .ref (Ma 9), .ref (Ma 10), .int (Mv 11), .int (Mv 12), .int (Mv 13), .ref (Ma 11), .int (Mv 14), .ref (Ma 12), .ref (Ma 13), .ref (Ma 14), .ref (Ma 15), .ref (Ma 16), .long (Mj 0), .ref (Ma 17), .ref (Ma 18), .ref (Ma 19), .ref (Ma 20)])), ((Ma 2), .inl (tc 0, 2400, .inl sv_93)), ((Ma 3), .inl (tc 0, 7, .inl sv_94))] H := hP₀
                replace hD : va_D A [((Ma 1), .inl (tc 2, 400, .inl (Mf 1))), ((Ma 0), .inr (12, [.ref (Ma 1), .int (Mv 0), .int (Mv 1), .ref (Ma 2), .ref (Ma 3), .ref (Ma 4), .ref (Ma 5), .ref (Ma 6), .int sv_70, .int sv_71, .int sv_72, .int (Mv 5), .int sv_73, .int (Mv 7), .int (Mv 8), .ref (Ma 7), .int (Mv 9), .ref (Ma 8), .int (Mv 10), .ref (Ma 9), .ref (Ma 10), .int (Mv 11), .int (Mv 12), .int (Mv 13), .ref (Ma 11), .int (Mv 14), .ref (Ma 12), .ref (Ma 13), .ref (Ma 14), .ref (Ma 15), .ref (Ma 16), .long (Mj 0), .ref (Ma 17), .ref (Ma 18), .ref (Ma 19), .ref (Ma 20)])), ((Ma 2), .inl (tc 0, 2400, .inl sv_93)), ((Ma 3), .inl (tc 0, 7, .inl sv_94))] := hD₀
                replace hS := hS₀
                clear hP₀ hD₀ hS₀
                refine lv_goto (tgt := 9) hx hb dX12_term_100 (by decide) ?_
                have hb_98 : 400 - (sv_70 : Int32).toInt < 400 - (vy_28 : Int32).toInt ∧ 1 ≤ 400 - (vy_28 : Int32).toInt := by
                  have z_1 : ¬ (r_13 : Int32).toInt = (0 : Int32).toInt := fun z => c_18 (Int32.toInt_inj.mp z)
                  have z_2 := congrArg Int32.toInt c_55
                  have z_3 : ¬ (x_57 : Int32).toInt = (42 : Int32).toInt := fun z => c_58 (Int32.toInt_inj.mp z)
                  have z_4 : ¬ (x_60 : Int32).toInt = (47 : Int32).toInt := fun z => c_61 (Int32.toInt_inj.mp z)
                  have z_5 : ¬ (r_79 : Int32).toInt = (0 : Int32).toInt := fun z => c_84 (Int32.toInt_inj.mp z)
                  have y_0 : (0 : Int32).toInt = 0 := by decide
                  have y_42 : (42 : Int32).toInt = 42 := by decide
                  have y_47 : (47 : Int32).toInt = 47 := by decide
                  omega
                have ha_99 : 0 ≤ (sv_70 : Int32).toInt ∧ (sv_70 : Int32).toInt ≤ ((Mv 0) : Int32).toInt ∧ ((Mv 0) : Int32).toInt ≤ 400 := by
                  have z_1 : ¬ (r_13 : Int32).toInt = (0 : Int32).toInt := fun z => c_18 (Int32.toInt_inj.mp z)
                  have z_2 := congrArg Int32.toInt c_55
                  have z_3 : ¬ (x_57 : Int32).toInt = (42 : Int32).toInt := fun z => c_58 (Int32.toInt_inj.mp z)
                  have z_4 : ¬ (x_60 : Int32).toInt = (47 : Int32).toInt := fun z => c_61 (Int32.toInt_inj.mp z)
                  have z_5 : ¬ (r_79 : Int32).toInt = (0 : Int32).toInt := fun z => c_84 (Int32.toInt_inj.mp z)
                  have y_0 : (0 : Int32).toInt = 0 := by decide
                  have y_42 : (42 : Int32).toInt = 42 := by decide
                  have y_47 : (47 : Int32).toInt = 47 := by decide
                  omega
                have ha_100 : (Mv 6).toInt ≤ (sv_73 : Int32).toInt ∧ (sv_73 : Int32).toInt ≤ 60 := by
                  have z_1 : ¬ (r_13 : Int32).toInt = (0 : Int32).toInt := fun z => c_18 (Int32.toInt_inj.mp z)
                  have z_2 := congrArg Int32.toInt c_55
                  have z_3 : ¬ (x_57 : Int32).toInt = (42 : Int32).toInt := fun z => c_58 (Int32.toInt_inj.mp z)
                  have z_4 : ¬ (x_60 : Int32).toInt = (47 : Int32).toInt := fun z => c_61 (Int32.toInt_inj.mp z)
                  have z_5 : ¬ (r_79 : Int32).toInt = (0 : Int32).toInt := fun z => c_84 (Int32.toInt_inj.mp z)
                  have y_0 : (0 : Int32).toInt = 0 := by decide
                  have y_42 : (42 : Int32).toInt = 42 := by decide
                  have y_47 : (47 : Int32).toInt = 47 := by decide
                  omega
                have ha_101 : ((Mf 3) (Mv 5).toNatClampNeg).toInt + 1 ≤ (sv_94 (Mv 5).toNatClampNeg).toInt ∧ (sv_94 (Mv 5).toNatClampNeg).toInt + ((Mv 2) : Int32).toInt ≤ ((Mf 3) (Mv 5).toNatClampNeg).toInt + (sv_70 : Int32).toInt ∧ ((Mv 2) : Int32).toInt + 1 ≤ (sv_70 : Int32).toInt := by
                  have z_1 : ¬ (r_13 : Int32).toInt = (0 : Int32).toInt := fun z => c_18 (Int32.toInt_inj.mp z)
                  have z_2 := congrArg Int32.toInt c_55
                  have z_3 : ¬ (x_57 : Int32).toInt = (42 : Int32).toInt := fun z => c_58 (Int32.toInt_inj.mp z)
                  have z_4 : ¬ (x_60 : Int32).toInt = (47 : Int32).toInt := fun z => c_61 (Int32.toInt_inj.mp z)
                  have z_5 : ¬ (r_79 : Int32).toInt = (0 : Int32).toInt := fun z => c_84 (Int32.toInt_inj.mp z)
                  have y_0 : (0 : Int32).toInt = 0 := by decide
                  have y_42 : (42 : Int32).toInt = 42 := by decide
                  have y_47 : (47 : Int32).toInt = 47 := by decide
                  omega
                have hr_102 : (400 * ((Mv 5) : Int32).toInt + ((Mf 3) (Mv 5).toNatClampNeg).toInt) ≤ (400 * ((Mv 5) : Int32).toInt + ((Mf 3) (Mv 5).toNatClampNeg).toInt) := by
                  have z_1 : ¬ (r_13 : Int32).toInt = (0 : Int32).toInt := fun z => c_18 (Int32.toInt_inj.mp z)
                  have z_2 := congrArg Int32.toInt c_55
                  have z_3 : ¬ (x_57 : Int32).toInt = (42 : Int32).toInt := fun z => c_58 (Int32.toInt_inj.mp z)
                  have z_4 : ¬ (x_60 : Int32).toInt = (47 : Int32).toInt := fun z => c_61 (Int32.toInt_inj.mp z)
                  have z_5 : ¬ (r_79 : Int32).toInt = (0 : Int32).toInt := fun z => c_84 (Int32.toInt_inj.mp z)
                  have y_0 : (0 : Int32).toInt = 0 := by decide
                  have y_42 : (42 : Int32).toInt = 42 := by decide
                  have y_47 : (47 : Int32).toInt = 47 := by decide
                  omega
                have hr_103 : (400 * ((Mv 5) : Int32).toInt + ((Mf 3) (Mv 5).toNatClampNeg).toInt) ≤ (400 * ((Mv 5) : Int32).toInt + (vy_33 (Mv 5).toNatClampNeg).toInt) := by
                  have z_1 : ¬ (r_13 : Int32).toInt = (0 : Int32).toInt := fun z => c_18 (Int32.toInt_inj.mp z)
                  have z_2 := congrArg Int32.toInt c_55
                  have z_3 : ¬ (x_57 : Int32).toInt = (42 : Int32).toInt := fun z => c_58 (Int32.toInt_inj.mp z)
                  have z_4 : ¬ (x_60 : Int32).toInt = (47 : Int32).toInt := fun z => c_61 (Int32.toInt_inj.mp z)
                  have z_5 : ¬ (r_79 : Int32).toInt = (0 : Int32).toInt := fun z => c_84 (Int32.toInt_inj.mp z)
                  have y_0 : (0 : Int32).toInt = 0 := by decide
                  have y_42 : (42 : Int32).toInt = 42 := by decide
                  have y_47 : (47 : Int32).toInt = 47 := by decide
                  omega
                have hr_104 : (400 * ((Mv 5) : Int32).toInt + ((Mf 3) (Mv 5).toNatClampNeg).toInt) ≤ (400 * ((Mv 5) : Int32).toInt + (sv_75 (Mv 5).toNatClampNeg).toInt) := by
                  have z_1 : ¬ (r_13 : Int32).toInt = (0 : Int32).toInt := fun z => c_18 (Int32.toInt_inj.mp z)
                  have z_2 := congrArg Int32.toInt c_55
                  have z_3 : ¬ (x_57 : Int32).toInt = (42 : Int32).toInt := fun z => c_58 (Int32.toInt_inj.mp z)
                  have z_4 : ¬ (x_60 : Int32).toInt = (47 : Int32).toInt := fun z => c_61 (Int32.toInt_inj.mp z)
                  have z_5 : ¬ (r_79 : Int32).toInt = (0 : Int32).toInt := fun z => c_84 (Int32.toInt_inj.mp z)
                  have y_0 : (0 : Int32).toInt = 0 := by decide
                  have y_42 : (42 : Int32).toInt = 42 := by decide
                  have y_47 : (47 : Int32).toInt = 47 := by decide
                  omega
                have hr_105 : (rB (Mf 1) (Mv 0) (sv_47 : Int32).toInt.toNat = 43 ∨ rB (Mf 1) (Mv 0) (sv_47 : Int32).toInt.toNat = 45 ∨ rB (Mf 1) (Mv 0) (sv_47 : Int32).toInt.toNat = 42 ∨ rB (Mf 1) (Mv 0) (sv_47 : Int32).toInt.toNat = 47 ∨ rB (Mf 1) (Mv 0) (sv_47 : Int32).toInt.toNat = 37) := by
                  have z_1 : ¬ (r_13 : Int32).toInt = (0 : Int32).toInt := fun z => c_18 (Int32.toInt_inj.mp z)
                  have z_2 := congrArg Int32.toInt c_55
                  have z_3 : ¬ (x_57 : Int32).toInt = (42 : Int32).toInt := fun z => c_58 (Int32.toInt_inj.mp z)
                  have z_4 : ¬ (x_60 : Int32).toInt = (47 : Int32).toInt := fun z => c_61 (Int32.toInt_inj.mp z)
                  have z_5 : ¬ (r_79 : Int32).toInt = (0 : Int32).toInt := fun z => c_84 (Int32.toInt_inj.mp z)
                  have y_0 : (0 : Int32).toInt = 0 := by decide
                  have y_42 : (42 : Int32).toInt = 42 := by decide
                  have y_47 : (47 : Int32).toInt = 47 := by decide
                  omega
                have hi_106 : (x_62 : Int32).toInt = (sv_47 : Int32).toInt + 1 := by
                  have z_1 : ¬ (r_13 : Int32).toInt = (0 : Int32).toInt := fun z => c_18 (Int32.toInt_inj.mp z)
                  have z_2 := congrArg Int32.toInt c_55
                  have z_3 : ¬ (x_57 : Int32).toInt = (42 : Int32).toInt := fun z => c_58 (Int32.toInt_inj.mp z)
                  have z_4 : ¬ (x_60 : Int32).toInt = (47 : Int32).toInt := fun z => c_61 (Int32.toInt_inj.mp z)
                  have z_5 : ¬ (r_79 : Int32).toInt = (0 : Int32).toInt := fun z => c_84 (Int32.toInt_inj.mp z)
                  have y_0 : (0 : Int32).toInt = 0 := by decide
                  have y_42 : (42 : Int32).toInt = 42 := by decide
                  have y_47 : (47 : Int32).toInt = 47 := by decide
                  have y_1 : (1 : Int32).toInt = 1 := by decide
                  have t_x_62 : x_62.toInt = (sv_47 : Int32).toInt + (1 : Int32).toInt := by rw [ex_62]; exact add_toInt (by omega) (by omega)
                  omega
                exact ih_35 sv_70 sv_71 sv_72 sv_73 sv_93 sv_94 _ _ _ (by omega) ha_99 ha_100 ha_101 (Agr.trans (k' := (400 * ((Mv 5) : Int32).toInt + ((Mf 3) (Mv 5).toNatClampNeg).toInt)) (Agr.trans (k' := (400 * ((Mv 5) : Int32).toInt + ((Mf 3) (Mv 5).toNatClampNeg).toInt)) (Agr.mono pf_40 hr_102) pf_78 ⟨Int.le_refl _, hr_103⟩) pf_96 ⟨Int.le_refl _, hr_104⟩) pf_95 (TmL.next (rB_fi h_nx.2.2) pf_42 pf_51 hr_105 hi_106 pf_86) (hP.sub [1, 0, 2, 3] rfl) (hD.sub [1, 0, 2, 3] rfl rfl) hS (lv_sub hl [1] rfl)
              · skip
                have hz_108 : (r_79 : Int32).toInt = 0 := by
                  have z_1 : ¬ (r_13 : Int32).toInt = (0 : Int32).toInt := fun z => c_18 (Int32.toInt_inj.mp z)
                  have z_2 := congrArg Int32.toInt c_55
                  have z_3 : ¬ (x_57 : Int32).toInt = (42 : Int32).toInt := fun z => c_58 (Int32.toInt_inj.mp z)
                  have z_4 : ¬ (x_60 : Int32).toInt = (47 : Int32).toInt := fun z => c_61 (Int32.toInt_inj.mp z)
                  have z_5 := congrArg Int32.toInt c_84
                  have y_0 : (0 : Int32).toInt = 0 := by decide
                  have y_42 : (42 : Int32).toInt = 42 := by decide
                  have y_47 : (47 : Int32).toInt = 47 := by decide
                  omega
                obtain pf_107 := hm_83 hz_108
                have pf_107 : RfE (pz_val (rB (Mf 1) (Mv 0)) (St0 (rB (Mf 1) (Mv 0)) x_62 vy_31)) sv_71 := pf_107
                refine lv_iconst (v := 0) hx hb dX12_term_92 (by decide) ?_
                have ha_109 : ((Mv 2) : Int32).toInt ≤ (sv_70 : Int32).toInt ∧ (sv_70 : Int32).toInt ≤ ((Mv 0) : Int32).toInt := by
                  have z_1 : ¬ (r_13 : Int32).toInt = (0 : Int32).toInt := fun z => c_18 (Int32.toInt_inj.mp z)
                  have z_2 := congrArg Int32.toInt c_55
                  have z_3 : ¬ (x_57 : Int32).toInt = (42 : Int32).toInt := fun z => c_58 (Int32.toInt_inj.mp z)
                  have z_4 : ¬ (x_60 : Int32).toInt = (47 : Int32).toInt := fun z => c_61 (Int32.toInt_inj.mp z)
                  have z_5 := congrArg Int32.toInt c_84
                  have y_0 : (0 : Int32).toInt = 0 := by decide
                  have y_42 : (42 : Int32).toInt = 42 := by decide
                  have y_47 : (47 : Int32).toInt = 47 := by decide
                  omega
                have ha_110 : ((Mv 6) : Int32).toInt ≤ (sv_73 : Int32).toInt ∧ (sv_73 : Int32).toInt ≤ 60 := by
                  have z_1 : ¬ (r_13 : Int32).toInt = (0 : Int32).toInt := fun z => c_18 (Int32.toInt_inj.mp z)
                  have z_2 := congrArg Int32.toInt c_55
                  have z_3 : ¬ (x_57 : Int32).toInt = (42 : Int32).toInt := fun z => c_58 (Int32.toInt_inj.mp z)
                  have z_4 : ¬ (x_60 : Int32).toInt = (47 : Int32).toInt := fun z => c_61 (Int32.toInt_inj.mp z)
                  have z_5 := congrArg Int32.toInt c_84
                  have y_0 : (0 : Int32).toInt = 0 := by decide
                  have y_42 : (42 : Int32).toInt = 42 := by decide
                  have y_47 : (47 : Int32).toInt = 47 := by decide
                  omega
                have hr_111 : (400 * ((Mv 5) : Int32).toInt + ((Mf 3) (Mv 5).toNatClampNeg).toInt) ≤ (400 * ((Mv 5) : Int32).toInt + ((Mf 3) (Mv 5).toNatClampNeg).toInt) := by
                  have z_1 : ¬ (r_13 : Int32).toInt = (0 : Int32).toInt := fun z => c_18 (Int32.toInt_inj.mp z)
                  have z_2 := congrArg Int32.toInt c_55
                  have z_3 : ¬ (x_57 : Int32).toInt = (42 : Int32).toInt := fun z => c_58 (Int32.toInt_inj.mp z)
                  have z_4 : ¬ (x_60 : Int32).toInt = (47 : Int32).toInt := fun z => c_61 (Int32.toInt_inj.mp z)
                  have z_5 := congrArg Int32.toInt c_84
                  have y_0 : (0 : Int32).toInt = 0 := by decide
                  have y_42 : (42 : Int32).toInt = 42 := by decide
                  have y_47 : (47 : Int32).toInt = 47 := by decide
                  omega
                have hr_112 : (400 * ((Mv 5) : Int32).toInt + ((Mf 3) (Mv 5).toNatClampNeg).toInt) ≤ (400 * ((Mv 5) : Int32).toInt + (vy_33 (Mv 5).toNatClampNeg).toInt) := by
                  have z_1 : ¬ (r_13 : Int32).toInt = (0 : Int32).toInt := fun z => c_18 (Int32.toInt_inj.mp z)
                  have z_2 := congrArg Int32.toInt c_55
                  have z_3 : ¬ (x_57 : Int32).toInt = (42 : Int32).toInt := fun z => c_58 (Int32.toInt_inj.mp z)
                  have z_4 : ¬ (x_60 : Int32).toInt = (47 : Int32).toInt := fun z => c_61 (Int32.toInt_inj.mp z)
                  have z_5 := congrArg Int32.toInt c_84
                  have y_0 : (0 : Int32).toInt = 0 := by decide
                  have y_42 : (42 : Int32).toInt = 42 := by decide
                  have y_47 : (47 : Int32).toInt = 47 := by decide
                  omega
                have hp_113 : (((0 : Int32).toInt = 0 ∧ ¬ (sv_71 : Int32).toInt = 0) ∨ ((0 : Int32).toInt = 1 ∧ ((Mf 3) (Mv 5).toNatClampNeg).toInt + 1 ≤ (sv_75 (Mv 5).toNatClampNeg).toInt ∧ (sv_75 (Mv 5).toNatClampNeg).toInt + ((Mv 2) : Int32).toInt ≤ ((Mf 3) (Mv 5).toNatClampNeg).toInt + (sv_70 : Int32).toInt ∧ ((Mv 2) : Int32).toInt + 1 ≤ (sv_70 : Int32).toInt)) := by
                  have z_1 : ¬ (r_13 : Int32).toInt = (0 : Int32).toInt := fun z => c_18 (Int32.toInt_inj.mp z)
                  have z_2 := congrArg Int32.toInt c_55
                  have z_3 : ¬ (x_57 : Int32).toInt = (42 : Int32).toInt := fun z => c_58 (Int32.toInt_inj.mp z)
                  have z_4 : ¬ (x_60 : Int32).toInt = (47 : Int32).toInt := fun z => c_61 (Int32.toInt_inj.mp z)
                  have z_5 := congrArg Int32.toInt c_84
                  have y_0 : (0 : Int32).toInt = 0 := by decide
                  have y_42 : (42 : Int32).toInt = 42 := by decide
                  have y_47 : (47 : Int32).toInt = 47 := by decide
                  omega
                have hm_114 : (0 : Int32).toInt = 0 → (RfE (pz_sum (rB (Mf 1) (Mv 0)) (St0 (rB (Mf 1) (Mv 0)) (Mv 2) (Mv 6))) sv_71) := by
                  intro h1r
                  have hr_115 : (rB (Mf 1) (Mv 0) (sv_47 : Int32).toInt.toNat = 43 ∨ rB (Mf 1) (Mv 0) (sv_47 : Int32).toInt.toNat = 45 ∨ rB (Mf 1) (Mv 0) (sv_47 : Int32).toInt.toNat = 42 ∨ rB (Mf 1) (Mv 0) (sv_47 : Int32).toInt.toNat = 47 ∨ rB (Mf 1) (Mv 0) (sv_47 : Int32).toInt.toNat = 37) := by
                    have z_1 : ¬ (r_13 : Int32).toInt = (0 : Int32).toInt := fun z => c_18 (Int32.toInt_inj.mp z)
                    have z_2 := congrArg Int32.toInt c_55
                    have z_3 : ¬ (x_57 : Int32).toInt = (42 : Int32).toInt := fun z => c_58 (Int32.toInt_inj.mp z)
                    have z_4 : ¬ (x_60 : Int32).toInt = (47 : Int32).toInt := fun z => c_61 (Int32.toInt_inj.mp z)
                    have z_5 := congrArg Int32.toInt c_84
                    have y_0 : (0 : Int32).toInt = 0 := by decide
                    have y_42 : (42 : Int32).toInt = 42 := by decide
                    have y_47 : (47 : Int32).toInt = 47 := by decide
                    omega
                  have hi_116 : (x_62 : Int32).toInt = (sv_47 : Int32).toInt + 1 := by
                    have z_1 : ¬ (r_13 : Int32).toInt = (0 : Int32).toInt := fun z => c_18 (Int32.toInt_inj.mp z)
                    have z_2 := congrArg Int32.toInt c_55
                    have z_3 : ¬ (x_57 : Int32).toInt = (42 : Int32).toInt := fun z => c_58 (Int32.toInt_inj.mp z)
                    have z_4 : ¬ (x_60 : Int32).toInt = (47 : Int32).toInt := fun z => c_61 (Int32.toInt_inj.mp z)
                    have z_5 := congrArg Int32.toInt c_84
                    have y_0 : (0 : Int32).toInt = 0 := by decide
                    have y_42 : (42 : Int32).toInt = 42 := by decide
                    have y_47 : (47 : Int32).toInt = 47 := by decide
                    have y_1 : (1 : Int32).toInt = 1 := by decide
                    have t_x_62 : x_62.toInt = (sv_47 : Int32).toInt + (1 : Int32).toInt := by rw [ex_62]; exact add_toInt (by omega) (by omega)
                    omega
                  exact (TmL.er (rB_fi h_nx.2.2) pf_42 pf_51 hr_115 hi_116 pf_107)
                exact retI (v := 0) hx hb hr hlk (rfl) hP hD hS (sv_70, sv_71, sv_72, sv_73, sv_74, sv_75) ⟨_, rfl, hp_113, ha_109, ha_110, (Agr.trans (k' := (400 * ((Mv 5) : Int32).toInt + ((Mf 3) (Mv 5).toNatClampNeg).toInt)) (Agr.mono pf_40 hr_111) pf_78 ⟨Int.le_refl _, hr_112⟩), (fun h => absurd h (by decide)), hm_114⟩ [0, 1, 2, 3] rfl rfl dX12_term_93 (Nat.le_of_ble_eq_true rfl) (Nat.le_of_ble_eq_true rfl) rfl
            · skip
              refine lv_iconst (v := 5) hx hb dX12_term_68 (by decide) ?_
              refine lv_goto (tgt := 74) hx hb dX12_term_69 (by decide) ?_
              refine lv_istore_n (lv' := [(1, .int 5), (0, .ref (Ma 0))]) hx hb dX12_term_74 rfl hl (by decide) rfl (fun ls hl₀ => ?_)
              replace hl := hl₀
              clear hl₀
              refine lv_aload_n hx hb dX12_term_75 rfl (lv_at hl 1 rfl) ?_
              refine lv_dup hx hb dX12_term_76 rfl ?_
              refine gf_X12_87 hx hb hts hown hK hP 2 rfl rfl dX12_term_77 ?_
              refine lv_iconst (v := 1) hx hb dX12_term_80 (by decide) ?_
              refine lv_iadd hx hb dX12_term_81 ?_
              refine lv_topi (fun x_117 ex_117 => ?_)
              refine pf_X12_87 hx hb hts hown hK hP hD hS 2 rfl (Nat.le_of_ble_eq_true rfl) rfl rfl dX12_term_82 (fun H locs hP₀ hD₀ hS₀ => ?_)
              replace hP : va_P D classes [((Ma 2), .inl (tc 0, 2400, .inl vy_32)), ((Ma 3), .inl (tc 0, 7, .inl vy_33)), ((Ma 0), .inr (12, [.ref (Ma 1), .int (Mv 0), .int (Mv 1), .ref (Ma 2), .ref (Ma 3), .ref (Ma 4), .ref (Ma 5), .ref (Ma 6), .int x_117, .int vy_29, .int vy_30, .int (Mv 5), .int vy_31, .int (Mv 7), .int (Mv 8), .ref (Ma 7), .int (Mv 9), .ref (Ma 8), .int (Mv 10), .ref (Ma 9), .ref (Ma 10), .int (Mv 11), .int (Mv 12), .int (Mv 13), .ref (Ma 11), .int (Mv 14), .ref (Ma 12), .ref (Ma 13), .ref (Ma 14), .ref (Ma 15), .ref (Ma 16), .long (Mj 0), .ref (Ma 17), .ref (Ma 18), .ref (Ma 19), .ref (Ma 20)])), ((Ma 1), .inl (tc 2, 400, .inl (Mf 1)))] H := hP₀
              replace hD : va_D A [((Ma 2), .inl (tc 0, 2400, .inl vy_32)), ((Ma 3), .inl (tc 0, 7, .inl vy_33)), ((Ma 0), .inr (12, [.ref (Ma 1), .int (Mv 0), .int (Mv 1), .ref (Ma 2), .ref (Ma 3), .ref (Ma 4), .ref (Ma 5), .ref (Ma 6), .int x_117, .int vy_29, .int vy_30, .int (Mv 5), .int vy_31, .int (Mv 7), .int (Mv 8), .ref (Ma 7), .int (Mv 9), .ref (Ma 8), .int (Mv 10), .ref (Ma 9), .ref (Ma 10), .int (Mv 11), .int (Mv 12), .int (Mv 13), .ref (Ma 11), .int (Mv 14), .ref (Ma 12), .ref (Ma 13), .ref (Ma 14), .ref (Ma 15), .ref (Ma 16), .long (Mj 0), .ref (Ma 17), .ref (Ma 18), .ref (Ma 19), .ref (Ma 20)])), ((Ma 1), .inl (tc 2, 400, .inl (Mf 1)))] := hD₀
              replace hS := hS₀
              clear hP₀ hD₀ hS₀
              have tp_x_117 : (x_117 : Int32).toInt = (sv_47 : Int32).toInt + 1 := by
                have z_1 : ¬ (r_13 : Int32).toInt = (0 : Int32).toInt := fun z => c_18 (Int32.toInt_inj.mp z)
                have z_2 := congrArg Int32.toInt c_55
                have z_3 : ¬ (x_57 : Int32).toInt = (42 : Int32).toInt := fun z => c_58 (Int32.toInt_inj.mp z)
                have z_4 := congrArg Int32.toInt c_61
                have y_0 : (0 : Int32).toInt = 0 := by decide
                have y_42 : (42 : Int32).toInt = 42 := by decide
                have y_47 : (47 : Int32).toInt = 47 := by decide
                have y_1 : (1 : Int32).toInt = 1 := by decide
                have t_x_117 : x_117.toInt = (sv_47 : Int32).toInt + (1 : Int32).toInt := by rw [ex_117]; exact add_toInt (by omega) (by omega)
                omega
              refine lv_aload_n hx hb dX12_term_85 rfl (lv_at hl 1 rfl) ?_
              have ha_118 : 0 ≤ (x_117 : Int32).toInt ∧ (x_117 : Int32).toInt ≤ ((Mv 0) : Int32).toInt ∧ ((Mv 0) : Int32).toInt ≤ 400 := by
                have z_1 : ¬ (r_13 : Int32).toInt = (0 : Int32).toInt := fun z => c_18 (Int32.toInt_inj.mp z)
                have z_2 := congrArg Int32.toInt c_55
                have z_3 : ¬ (x_57 : Int32).toInt = (42 : Int32).toInt := fun z => c_58 (Int32.toInt_inj.mp z)
                have z_4 := congrArg Int32.toInt c_61
                have y_0 : (0 : Int32).toInt = 0 := by decide
                have y_42 : (42 : Int32).toInt = 42 := by decide
                have y_47 : (47 : Int32).toInt = 47 := by decide
                have y_1 : (1 : Int32).toInt = 1 := by decide
                have t_x_117 : x_117.toInt = (sv_47 : Int32).toInt + (1 : Int32).toInt := by rw [ex_117]; exact add_toInt (by omega) (by omega)
                omega
              have ha_119 : (vy_33 (Mv 5).toNatClampNeg).toInt ≤ (x_117 : Int32).toInt := by
                have z_1 : ¬ (r_13 : Int32).toInt = (0 : Int32).toInt := fun z => c_18 (Int32.toInt_inj.mp z)
                have z_2 := congrArg Int32.toInt c_55
                have z_3 : ¬ (x_57 : Int32).toInt = (42 : Int32).toInt := fun z => c_58 (Int32.toInt_inj.mp z)
                have z_4 := congrArg Int32.toInt c_61
                have y_0 : (0 : Int32).toInt = 0 := by decide
                have y_42 : (42 : Int32).toInt = 42 := by decide
                have y_47 : (47 : Int32).toInt = 47 := by decide
                have y_1 : (1 : Int32).toInt = 1 := by decide
                have t_x_117 : x_117.toInt = (sv_47 : Int32).toInt + (1 : Int32).toInt := by rw [ex_117]; exact add_toInt (by omega) (by omega)
                omega
              have ha_120 : 0 ≤ (vy_31 : Int32).toInt ∧ (vy_31 : Int32).toInt ≤ 60 := by
                have z_1 : ¬ (r_13 : Int32).toInt = (0 : Int32).toInt := fun z => c_18 (Int32.toInt_inj.mp z)
                have z_2 := congrArg Int32.toInt c_55
                have z_3 : ¬ (x_57 : Int32).toInt = (42 : Int32).toInt := fun z => c_58 (Int32.toInt_inj.mp z)
                have z_4 := congrArg Int32.toInt c_61
                have y_0 : (0 : Int32).toInt = 0 := by decide
                have y_42 : (42 : Int32).toInt = 42 := by decide
                have y_47 : (47 : Int32).toInt = 47 := by decide
                omega
              have ha_121 : (vy_29 : Int32).toInt = 0 := by
                have z_1 : ¬ (r_13 : Int32).toInt = (0 : Int32).toInt := fun z => c_18 (Int32.toInt_inj.mp z)
                have z_2 := congrArg Int32.toInt c_55
                have z_3 : ¬ (x_57 : Int32).toInt = (42 : Int32).toInt := fun z => c_58 (Int32.toInt_inj.mp z)
                have z_4 := congrArg Int32.toInt c_61
                have y_0 : (0 : Int32).toInt = 0 := by decide
                have y_42 : (42 : Int32).toInt = 42 := by decide
                have y_47 : (47 : Int32).toInt = 47 := by decide
                omega
              refine cV (a := (Ma 0)) (As := []) (rest := []) (wr := []) ⟨hx, hb, hml, hown, hts⟩ hK hX hA (cu_fX12_value l D tc sk (Ma 0) (Ma 1) (Ma 2) (Ma 3) (Ma 4) (Ma 5) (Ma 6) (Ma 7) (Ma 8) (Ma 9) (Ma 10) (Ma 11) (Ma 12) (Ma 13) (Ma 14) (Ma 15) (Ma 16) (Ma 17) (Ma 18) (Ma 19) (Ma 20) (Mv 0) (Mv 1) x_117 vy_29 vy_30 (Mv 5) vy_31 (Mv 7) (Mv 8) (Mv 9) (Mv 10) (Mv 11) (Mv 12) (Mv 13) (Mv 14) (Mf 1) vy_32 vy_33 (Mj 0) b (d + 1) ha_118 pf_41 ha_119 ha_120 h_bs ha_121) k_1287 k_1284 k_1286 k_44 k_106 pl_X12_value ⟨Nat.le_of_ble_eq_true rfl, Nat.le_of_ble_eq_true rfl⟩ rfl rfl (va_recv hK hP (ci := 12) (q0 := 2) rfl rfl) hP hD hS [2, 3, 0, 1] [] rfl rfl rfl rfl rfl (by decide) rfl hl.1 rfl (Nat.le_of_ble_eq_true rfl) dX12_term_86 ⟨Nat.le_of_ble_eq_true rfl, Nat.le_of_ble_eq_true rfl⟩ (fun v_122 u_123 H locs hv_124 hP₀ hD₀ hS₀ => ?_)
              obtain ⟨sv_125, sv_126, sv_127, sv_128, sv_129, sv_130⟩ := u_123
              obtain ⟨r_134, rfl, he_135, pf_131, pf_132, pf_133, hm_137, hm_138⟩ := hv_124
              have he_135 : ((r_134.toInt = 0 ∧ ¬ (sv_126 : Int32).toInt = 0) ∨ (r_134.toInt = 1 ∧ (vy_33 (Mv 5).toNatClampNeg).toInt + 1 ≤ (sv_130 (Mv 5).toNatClampNeg).toInt ∧ (sv_130 (Mv 5).toNatClampNeg).toInt + (x_117 : Int32).toInt ≤ (vy_33 (Mv 5).toNatClampNeg).toInt + (sv_125 : Int32).toInt ∧ (x_117 : Int32).toInt + 1 ≤ (sv_125 : Int32).toInt)) := he_135
              have pf_131 : (x_117 : Int32).toInt ≤ (sv_125 : Int32).toInt ∧ (sv_125 : Int32).toInt ≤ ((Mv 0) : Int32).toInt := pf_131
              have pf_132 : (vy_31 : Int32).toInt ≤ (sv_128 : Int32).toInt ∧ (sv_128 : Int32).toInt ≤ 60 := pf_132
              have pf_133 : Agr vy_32 sv_129 (400 * ((Mv 5) : Int32).toInt + (vy_33 (Mv 5).toNatClampNeg).toInt) := pf_133
              refine W.eq (g2 := F0 m 89 ls [.int r_134]) rfl ?_
              replace hP : va_P D classes [((Ma 0), .inr (12, [.ref (Ma 1), .int (Mv 0), .int (Mv 1), .ref (Ma 2), .ref (Ma 3), .ref (Ma 4), .ref (Ma 5), .ref (Ma 6), .int sv_125, .int sv_126, .int sv_127, .int (Mv 5), .int sv_128, .int (Mv 7), .int (Mv 8), .ref (Ma 7), .int (Mv 9), .ref (Ma 8), .int (Mv 10), .ref (Ma 9), .ref (Ma 10), .int (Mv 11), .int (Mv 12), .int (Mv 13), .ref (Ma 11), .int (Mv 14), .ref (Ma 12), .ref (Ma 13), .ref (Ma 14), .ref (Ma 15), .ref (Ma 16), .long (Mj 0), .ref (Ma 17), .ref (Ma 18), .ref (Ma 19), .ref (Ma 20)])), ((Ma 1), .inl (tc 2, 400, .inl (Mf 1))), ((Ma 2), .inl (tc 0, 2400, .inl sv_129)), ((Ma 3), .inl (tc 0, 7, .inl sv_130))] H := hP₀
              replace hD : va_D A [((Ma 0), .inr (12, [.ref (Ma 1), .int (Mv 0), .int (Mv 1), .ref (Ma 2), .ref (Ma 3), .ref (Ma 4), .ref (Ma 5), .ref (Ma 6), .int sv_125, .int sv_126, .int sv_127, .int (Mv 5), .int sv_128, .int (Mv 7), .int (Mv 8), .ref (Ma 7), .int (Mv 9), .ref (Ma 8), .int (Mv 10), .ref (Ma 9), .ref (Ma 10), .int (Mv 11), .int (Mv 12), .int (Mv 13), .ref (Ma 11), .int (Mv 14), .ref (Ma 12), .ref (Ma 13), .ref (Ma 14), .ref (Ma 15), .ref (Ma 16), .long (Mj 0), .ref (Ma 17), .ref (Ma 18), .ref (Ma 19), .ref (Ma 20)])), ((Ma 1), .inl (tc 2, 400, .inl (Mf 1))), ((Ma 2), .inl (tc 0, 2400, .inl sv_129)), ((Ma 3), .inl (tc 0, 7, .inl sv_130))] := hD₀
              replace hS := hS₀
              clear hP₀ hD₀ hS₀
              refine lv_if_ne (tgt := 94) hx hb dX12_term_89 (by decide) (fun c_139 => ?_) (fun c_139 => ?_)
              · skip
                have hz_142 : (r_134 : Int32).toInt = 1 := by
                  have z_1 : ¬ (r_13 : Int32).toInt = (0 : Int32).toInt := fun z => c_18 (Int32.toInt_inj.mp z)
                  have z_2 := congrArg Int32.toInt c_55
                  have z_3 : ¬ (x_57 : Int32).toInt = (42 : Int32).toInt := fun z => c_58 (Int32.toInt_inj.mp z)
                  have z_4 := congrArg Int32.toInt c_61
                  have z_5 : ¬ (r_134 : Int32).toInt = (0 : Int32).toInt := fun z => c_139 (Int32.toInt_inj.mp z)
                  have y_0 : (0 : Int32).toInt = 0 := by decide
                  have y_42 : (42 : Int32).toInt = 42 := by decide
                  have y_47 : (47 : Int32).toInt = 47 := by decide
                  omega
                obtain ⟨pf_140, pf_141⟩ := hm_137 hz_142
                have pf_140 : Cd sv_129 sv_130 (Mv 5) b sv_128 ((d + 1) + 1) := pf_140
                have ar_pf_140 := Cd.ar pf_140
                have pf_141 : RfO (pz_val (rB (Mf 1) (Mv 0)) (St0 (rB (Mf 1) (Mv 0)) x_117 vy_31)) (rB (Mf 1) (Mv 0)) sv_126 sv_125 sv_128 := pf_141
                have ar_pf_141 := RfO.wr pf_141
                refine lv_aload_n hx hb dX12_term_94 rfl (lv_at hl 1 rfl) ?_
                refine lv_iload_n hx hb dX12_term_95 rfl (lv_at hl 0 rfl) ?_
                refine lv_iconst (v := 0) hx hb dX12_term_96 (by decide) ?_
                have ha_143 : ((d + 1) : Int) ≤ sv_128.toInt := by
                  have z_1 : ¬ (r_13 : Int32).toInt = (0 : Int32).toInt := fun z => c_18 (Int32.toInt_inj.mp z)
                  have z_2 := congrArg Int32.toInt c_55
                  have z_3 : ¬ (x_57 : Int32).toInt = (42 : Int32).toInt := fun z => c_58 (Int32.toInt_inj.mp z)
                  have z_4 := congrArg Int32.toInt c_61
                  have z_5 : ¬ (r_134 : Int32).toInt = (0 : Int32).toInt := fun z => c_139 (Int32.toInt_inj.mp z)
                  have y_0 : (0 : Int32).toInt = 0 := by decide
                  have y_42 : (42 : Int32).toInt = 42 := by decide
                  have y_47 : (47 : Int32).toInt = 47 := by decide
                  omega
                have ha_144 : (sv_130 (Mv 5).toNatClampNeg).toInt < 400 := by
                  have z_1 : ¬ (r_13 : Int32).toInt = (0 : Int32).toInt := fun z => c_18 (Int32.toInt_inj.mp z)
                  have z_2 := congrArg Int32.toInt c_55
                  have z_3 : ¬ (x_57 : Int32).toInt = (42 : Int32).toInt := fun z => c_58 (Int32.toInt_inj.mp z)
                  have z_4 := congrArg Int32.toInt c_61
                  have z_5 : ¬ (r_134 : Int32).toInt = (0 : Int32).toInt := fun z => c_139 (Int32.toInt_inj.mp z)
                  have y_0 : (0 : Int32).toInt = 0 := by decide
                  have y_42 : (42 : Int32).toInt = 42 := by decide
                  have y_47 : (47 : Int32).toInt = 47 := by decide
                  omega
                refine cV (a := (Ma 0)) (As := [.int 5, .int 0]) (rest := []) (wr := [((Ma 1), .inl (tc 2, 400, .inl (Mf 1)))]) ⟨hx, hb, hml, hown, hts⟩ hK hX hA (cu_X12_puts l D tc sk (Ma 0) (Ma 1) (Ma 2) (Ma 3) (Ma 4) (Ma 5) (Ma 6) (Ma 7) (Ma 8) (Ma 9) (Ma 10) (Ma 11) (Ma 12) (Ma 13) (Ma 14) (Ma 15) (Ma 16) (Ma 17) (Ma 18) (Ma 19) (Ma 20) (Mv 0) (Mv 1) sv_125 sv_126 sv_127 (Mv 5) sv_128 (Mv 7) (Mv 8) (Mv 9) (Mv 10) (Mv 11) (Mv 12) (Mv 13) (Mv 14) sv_129 sv_130 (Mj 0) 5 0 b sv_128 ((d + 1) + 1) (d + 1) pf_140 (StpR.op (by decide) rfl (by omega)) ha_143 ha_144) k_1296 k_1293 k_1295 k_46 k_106 pl_X12_puts ⟨Nat.le_of_ble_eq_true rfl, Nat.le_of_ble_eq_true rfl⟩ rfl rfl (va_recv hK hP (ci := 12) (q0 := 0) rfl rfl) hP hD hS [0, 2, 3] [1] rfl rfl rfl rfl rfl (by decide) rfl hl.1 rfl (Nat.le_of_ble_eq_true rfl) dX12_term_97 ⟨Nat.le_of_ble_eq_true rfl, Nat.le_of_ble_eq_true rfl⟩ (fun v_145 u_146 H locs hv_147 hP₀ hD₀ hS₀ => ?_)
                obtain ⟨sv_148, sv_149⟩ := u_146
                obtain ⟨rfl, pf_150, pf_151, pf_152⟩ := hv_147
                have pf_150 : Cd sv_148 sv_149 (Mv 5) b sv_128 (d + 1) := pf_150
                have ar_pf_150 := Cd.ar pf_150
                have pf_151 : Agr sv_129 sv_148 (400 * ((Mv 5) : Int32).toInt + (sv_130 (Mv 5).toNatClampNeg).toInt) := pf_151
                have pf_152 : (sv_149 (Mv 5).toNatClampNeg).toInt = (sv_130 (Mv 5).toNatClampNeg).toInt + 1 := pf_152
                refine W.eq (g2 := F0 m 100 ls []) rfl ?_
                replace hP : va_P D classes [((Ma 1), .inl (tc 2, 400, .inl (Mf 1))), ((Ma 0), .inr (12, [.ref (Ma 1), .int (Mv 0), .int (Mv 1), .ref (Ma 2), .ref (Ma 3), .ref (Ma 4), .ref (Ma 5), .ref (Ma 6), .int sv_125, .int sv_126, .int sv_127, .int (Mv 5), .int sv_128, .int (Mv 7), .int (Mv 8), .ref (Ma 7), .int (Mv 9), .ref (Ma 8), .int (Mv 10), .ref (Ma 9), .ref (Ma 10), .int (Mv 11), .int (Mv 12), .int (Mv 13), .ref (Ma 11), .int (Mv 14), .ref (Ma 12), .ref (Ma 13), .ref (Ma 14), .ref (Ma 15), .ref (Ma 16), .long (Mj 0), .ref (Ma 17), .ref (Ma 18), .ref (Ma 19), .ref (Ma 20)])), ((Ma 2), .inl (tc 0, 2400, .inl sv_148)), ((Ma 3), .inl (tc 0, 7, .inl sv_149))] H := hP₀
                replace hD : va_D A [((Ma 1), .inl (tc 2, 400, .inl (Mf 1))), ((Ma 0), .inr (12, [.ref (Ma 1), .int (Mv 0), .int (Mv 1), .ref (Ma 2), .ref (Ma 3), .ref (Ma 4), .ref (Ma 5), .ref (Ma 6), .int sv_125, .int sv_126, .int sv_127, .int (Mv 5), .int sv_128, .int (Mv 7), .int (Mv 8), .ref (Ma 7), .int (Mv 9), .ref (Ma 8), .int (Mv 10), .ref (Ma 9), .ref (Ma 10), .int (Mv 11), .int (Mv 12), .int (Mv 13), .ref (Ma 11), .int (Mv 14), .ref (Ma 12), .ref (Ma 13), .ref (Ma 14), .ref (Ma 15), .ref (Ma 16), .long (Mj 0), .ref (Ma 17), .ref (Ma 18), .ref (Ma 19), .ref (Ma 20)])), ((Ma 2), .inl (tc 0, 2400, .inl sv_148)), ((Ma 3), .inl (tc 0, 7, .inl sv_149))] := hD₀
                replace hS := hS₀
                clear hP₀ hD₀ hS₀
                refine lv_goto (tgt := 9) hx hb dX12_term_100 (by decide) ?_
                have hb_153 : 400 - (sv_125 : Int32).toInt < 400 - (vy_28 : Int32).toInt ∧ 1 ≤ 400 - (vy_28 : Int32).toInt := by
                  have z_1 : ¬ (r_13 : Int32).toInt = (0 : Int32).toInt := fun z => c_18 (Int32.toInt_inj.mp z)
                  have z_2 := congrArg Int32.toInt c_55
                  have z_3 : ¬ (x_57 : Int32).toInt = (42 : Int32).toInt := fun z => c_58 (Int32.toInt_inj.mp z)
                  have z_4 := congrArg Int32.toInt c_61
                  have z_5 : ¬ (r_134 : Int32).toInt = (0 : Int32).toInt := fun z => c_139 (Int32.toInt_inj.mp z)
                  have y_0 : (0 : Int32).toInt = 0 := by decide
                  have y_42 : (42 : Int32).toInt = 42 := by decide
                  have y_47 : (47 : Int32).toInt = 47 := by decide
                  omega
                have ha_154 : 0 ≤ (sv_125 : Int32).toInt ∧ (sv_125 : Int32).toInt ≤ ((Mv 0) : Int32).toInt ∧ ((Mv 0) : Int32).toInt ≤ 400 := by
                  have z_1 : ¬ (r_13 : Int32).toInt = (0 : Int32).toInt := fun z => c_18 (Int32.toInt_inj.mp z)
                  have z_2 := congrArg Int32.toInt c_55
                  have z_3 : ¬ (x_57 : Int32).toInt = (42 : Int32).toInt := fun z => c_58 (Int32.toInt_inj.mp z)
                  have z_4 := congrArg Int32.toInt c_61
                  have z_5 : ¬ (r_134 : Int32).toInt = (0 : Int32).toInt := fun z => c_139 (Int32.toInt_inj.mp z)
                  have y_0 : (0 : Int32).toInt = 0 := by decide
                  have y_42 : (42 : Int32).toInt = 42 := by decide
                  have y_47 : (47 : Int32).toInt = 47 := by decide
                  omega
                have ha_155 : (Mv 6).toInt ≤ (sv_128 : Int32).toInt ∧ (sv_128 : Int32).toInt ≤ 60 := by
                  have z_1 : ¬ (r_13 : Int32).toInt = (0 : Int32).toInt := fun z => c_18 (Int32.toInt_inj.mp z)
                  have z_2 := congrArg Int32.toInt c_55
                  have z_3 : ¬ (x_57 : Int32).toInt = (42 : Int32).toInt := fun z => c_58 (Int32.toInt_inj.mp z)
                  have z_4 := congrArg Int32.toInt c_61
                  have z_5 : ¬ (r_134 : Int32).toInt = (0 : Int32).toInt := fun z => c_139 (Int32.toInt_inj.mp z)
                  have y_0 : (0 : Int32).toInt = 0 := by decide
                  have y_42 : (42 : Int32).toInt = 42 := by decide
                  have y_47 : (47 : Int32).toInt = 47 := by decide
                  omega
                have ha_156 : ((Mf 3) (Mv 5).toNatClampNeg).toInt + 1 ≤ (sv_149 (Mv 5).toNatClampNeg).toInt ∧ (sv_149 (Mv 5).toNatClampNeg).toInt + ((Mv 2) : Int32).toInt ≤ ((Mf 3) (Mv 5).toNatClampNeg).toInt + (sv_125 : Int32).toInt ∧ ((Mv 2) : Int32).toInt + 1 ≤ (sv_125 : Int32).toInt := by
                  have z_1 : ¬ (r_13 : Int32).toInt = (0 : Int32).toInt := fun z => c_18 (Int32.toInt_inj.mp z)
                  have z_2 := congrArg Int32.toInt c_55
                  have z_3 : ¬ (x_57 : Int32).toInt = (42 : Int32).toInt := fun z => c_58 (Int32.toInt_inj.mp z)
                  have z_4 := congrArg Int32.toInt c_61
                  have z_5 : ¬ (r_134 : Int32).toInt = (0 : Int32).toInt := fun z => c_139 (Int32.toInt_inj.mp z)
                  have y_0 : (0 : Int32).toInt = 0 := by decide
                  have y_42 : (42 : Int32).toInt = 42 := by decide
                  have y_47 : (47 : Int32).toInt = 47 := by decide
                  omega
                have hr_157 : (400 * ((Mv 5) : Int32).toInt + ((Mf 3) (Mv 5).toNatClampNeg).toInt) ≤ (400 * ((Mv 5) : Int32).toInt + ((Mf 3) (Mv 5).toNatClampNeg).toInt) := by
                  have z_1 : ¬ (r_13 : Int32).toInt = (0 : Int32).toInt := fun z => c_18 (Int32.toInt_inj.mp z)
                  have z_2 := congrArg Int32.toInt c_55
                  have z_3 : ¬ (x_57 : Int32).toInt = (42 : Int32).toInt := fun z => c_58 (Int32.toInt_inj.mp z)
                  have z_4 := congrArg Int32.toInt c_61
                  have z_5 : ¬ (r_134 : Int32).toInt = (0 : Int32).toInt := fun z => c_139 (Int32.toInt_inj.mp z)
                  have y_0 : (0 : Int32).toInt = 0 := by decide
                  have y_42 : (42 : Int32).toInt = 42 := by decide
                  have y_47 : (47 : Int32).toInt = 47 := by decide
                  omega
                have hr_158 : (400 * ((Mv 5) : Int32).toInt + ((Mf 3) (Mv 5).toNatClampNeg).toInt) ≤ (400 * ((Mv 5) : Int32).toInt + (vy_33 (Mv 5).toNatClampNeg).toInt) := by
                  have z_1 : ¬ (r_13 : Int32).toInt = (0 : Int32).toInt := fun z => c_18 (Int32.toInt_inj.mp z)
                  have z_2 := congrArg Int32.toInt c_55
                  have z_3 : ¬ (x_57 : Int32).toInt = (42 : Int32).toInt := fun z => c_58 (Int32.toInt_inj.mp z)
                  have z_4 := congrArg Int32.toInt c_61
                  have z_5 : ¬ (r_134 : Int32).toInt = (0 : Int32).toInt := fun z => c_139 (Int32.toInt_inj.mp z)
                  have y_0 : (0 : Int32).toInt = 0 := by decide
                  have y_42 : (42 : Int32).toInt = 42 := by decide
                  have y_47 : (47 : Int32).toInt = 47 := by decide
                  omega
                have hr_159 : (400 * ((Mv 5) : Int32).toInt + ((Mf 3) (Mv 5).toNatClampNeg).toInt) ≤ (400 * ((Mv 5) : Int32).toInt + (sv_130 (Mv 5).toNatClampNeg).toInt) := by
                  have z_1 : ¬ (r_13 : Int32).toInt = (0 : Int32).toInt := fun z => c_18 (Int32.toInt_inj.mp z)
                  have z_2 := congrArg Int32.toInt c_55
                  have z_3 : ¬ (x_57 : Int32).toInt = (42 : Int32).toInt := fun z => c_58 (Int32.toInt_inj.mp z)
                  have z_4 := congrArg Int32.toInt c_61
                  have z_5 : ¬ (r_134 : Int32).toInt = (0 : Int32).toInt := fun z => c_139 (Int32.toInt_inj.mp z)
                  have y_0 : (0 : Int32).toInt = 0 := by decide
                  have y_42 : (42 : Int32).toInt = 42 := by decide
                  have y_47 : (47 : Int32).toInt = 47 := by decide
                  omega
                have hr_160 : (rB (Mf 1) (Mv 0) (sv_47 : Int32).toInt.toNat = 43 ∨ rB (Mf 1) (Mv 0) (sv_47 : Int32).toInt.toNat = 45 ∨ rB (Mf 1) (Mv 0) (sv_47 : Int32).toInt.toNat = 42 ∨ rB (Mf 1) (Mv 0) (sv_47 : Int32).toInt.toNat = 47 ∨ rB (Mf 1) (Mv 0) (sv_47 : Int32).toInt.toNat = 37) := by
                  have z_1 : ¬ (r_13 : Int32).toInt = (0 : Int32).toInt := fun z => c_18 (Int32.toInt_inj.mp z)
                  have z_2 := congrArg Int32.toInt c_55
                  have z_3 : ¬ (x_57 : Int32).toInt = (42 : Int32).toInt := fun z => c_58 (Int32.toInt_inj.mp z)
                  have z_4 := congrArg Int32.toInt c_61
                  have z_5 : ¬ (r_134 : Int32).toInt = (0 : Int32).toInt := fun z => c_139 (Int32.toInt_inj.mp z)
                  have y_0 : (0 : Int32).toInt = 0 := by decide
                  have y_42 : (42 : Int32).toInt = 42 := by decide
                  have y_47 : (47 : Int32).toInt = 47 := by decide
                  omega
                have hi_161 : (x_117 : Int32).toInt = (sv_47 : Int32).toInt + 1 := by
                  have z_1 : ¬ (r_13 : Int32).toInt = (0 : Int32).toInt := fun z => c_18 (Int32.toInt_inj.mp z)
                  have z_2 := congrArg Int32.toInt c_55
                  have z_3 : ¬ (x_57 : Int32).toInt = (42 : Int32).toInt := fun z => c_58 (Int32.toInt_inj.mp z)
                  have z_4 := congrArg Int32.toInt c_61
                  have z_5 : ¬ (r_134 : Int32).toInt = (0 : Int32).toInt := fun z => c_139 (Int32.toInt_inj.mp z)
                  have y_0 : (0 : Int32).toInt = 0 := by decide
                  have y_42 : (42 : Int32).toInt = 42 := by decide
                  have y_47 : (47 : Int32).toInt = 47 := by decide
                  have y_1 : (1 : Int32).toInt = 1 := by decide
                  have t_x_117 : x_117.toInt = (sv_47 : Int32).toInt + (1 : Int32).toInt := by rw [ex_117]; exact add_toInt (by omega) (by omega)
                  omega
                exact ih_35 sv_125 sv_126 sv_127 sv_128 sv_148 sv_149 _ _ _ (by omega) ha_154 ha_155 ha_156 (Agr.trans (k' := (400 * ((Mv 5) : Int32).toInt + ((Mf 3) (Mv 5).toNatClampNeg).toInt)) (Agr.trans (k' := (400 * ((Mv 5) : Int32).toInt + ((Mf 3) (Mv 5).toNatClampNeg).toInt)) (Agr.mono pf_40 hr_157) pf_133 ⟨Int.le_refl _, hr_158⟩) pf_151 ⟨Int.le_refl _, hr_159⟩) pf_150 (TmL.next (rB_fi h_nx.2.2) pf_42 pf_51 hr_160 hi_161 pf_141) (hP.sub [1, 0, 2, 3] rfl) (hD.sub [1, 0, 2, 3] rfl rfl) hS (lv_sub hl [1] rfl)
              · skip
                have hz_163 : (r_134 : Int32).toInt = 0 := by
                  have z_1 : ¬ (r_13 : Int32).toInt = (0 : Int32).toInt := fun z => c_18 (Int32.toInt_inj.mp z)
                  have z_2 := congrArg Int32.toInt c_55
                  have z_3 : ¬ (x_57 : Int32).toInt = (42 : Int32).toInt := fun z => c_58 (Int32.toInt_inj.mp z)
                  have z_4 := congrArg Int32.toInt c_61
                  have z_5 := congrArg Int32.toInt c_139
                  have y_0 : (0 : Int32).toInt = 0 := by decide
                  have y_42 : (42 : Int32).toInt = 42 := by decide
                  have y_47 : (47 : Int32).toInt = 47 := by decide
                  omega
                obtain pf_162 := hm_138 hz_163
                have pf_162 : RfE (pz_val (rB (Mf 1) (Mv 0)) (St0 (rB (Mf 1) (Mv 0)) x_117 vy_31)) sv_126 := pf_162
                refine lv_iconst (v := 0) hx hb dX12_term_92 (by decide) ?_
                have ha_164 : ((Mv 2) : Int32).toInt ≤ (sv_125 : Int32).toInt ∧ (sv_125 : Int32).toInt ≤ ((Mv 0) : Int32).toInt := by
                  have z_1 : ¬ (r_13 : Int32).toInt = (0 : Int32).toInt := fun z => c_18 (Int32.toInt_inj.mp z)
                  have z_2 := congrArg Int32.toInt c_55
                  have z_3 : ¬ (x_57 : Int32).toInt = (42 : Int32).toInt := fun z => c_58 (Int32.toInt_inj.mp z)
                  have z_4 := congrArg Int32.toInt c_61
                  have z_5 := congrArg Int32.toInt c_139
                  have y_0 : (0 : Int32).toInt = 0 := by decide
                  have y_42 : (42 : Int32).toInt = 42 := by decide
                  have y_47 : (47 : Int32).toInt = 47 := by decide
                  omega
                have ha_165 : ((Mv 6) : Int32).toInt ≤ (sv_128 : Int32).toInt ∧ (sv_128 : Int32).toInt ≤ 60 := by
                  have z_1 : ¬ (r_13 : Int32).toInt = (0 : Int32).toInt := fun z => c_18 (Int32.toInt_inj.mp z)
                  have z_2 := congrArg Int32.toInt c_55
                  have z_3 : ¬ (x_57 : Int32).toInt = (42 : Int32).toInt := fun z => c_58 (Int32.toInt_inj.mp z)
                  have z_4 := congrArg Int32.toInt c_61
                  have z_5 := congrArg Int32.toInt c_139
                  have y_0 : (0 : Int32).toInt = 0 := by decide
                  have y_42 : (42 : Int32).toInt = 42 := by decide
                  have y_47 : (47 : Int32).toInt = 47 := by decide
                  omega
                have hr_166 : (400 * ((Mv 5) : Int32).toInt + ((Mf 3) (Mv 5).toNatClampNeg).toInt) ≤ (400 * ((Mv 5) : Int32).toInt + ((Mf 3) (Mv 5).toNatClampNeg).toInt) := by
                  have z_1 : ¬ (r_13 : Int32).toInt = (0 : Int32).toInt := fun z => c_18 (Int32.toInt_inj.mp z)
                  have z_2 := congrArg Int32.toInt c_55
                  have z_3 : ¬ (x_57 : Int32).toInt = (42 : Int32).toInt := fun z => c_58 (Int32.toInt_inj.mp z)
                  have z_4 := congrArg Int32.toInt c_61
                  have z_5 := congrArg Int32.toInt c_139
                  have y_0 : (0 : Int32).toInt = 0 := by decide
                  have y_42 : (42 : Int32).toInt = 42 := by decide
                  have y_47 : (47 : Int32).toInt = 47 := by decide
                  omega
                have hr_167 : (400 * ((Mv 5) : Int32).toInt + ((Mf 3) (Mv 5).toNatClampNeg).toInt) ≤ (400 * ((Mv 5) : Int32).toInt + (vy_33 (Mv 5).toNatClampNeg).toInt) := by
                  have z_1 : ¬ (r_13 : Int32).toInt = (0 : Int32).toInt := fun z => c_18 (Int32.toInt_inj.mp z)
                  have z_2 := congrArg Int32.toInt c_55
                  have z_3 : ¬ (x_57 : Int32).toInt = (42 : Int32).toInt := fun z => c_58 (Int32.toInt_inj.mp z)
                  have z_4 := congrArg Int32.toInt c_61
                  have z_5 := congrArg Int32.toInt c_139
                  have y_0 : (0 : Int32).toInt = 0 := by decide
                  have y_42 : (42 : Int32).toInt = 42 := by decide
                  have y_47 : (47 : Int32).toInt = 47 := by decide
                  omega
                have hp_168 : (((0 : Int32).toInt = 0 ∧ ¬ (sv_126 : Int32).toInt = 0) ∨ ((0 : Int32).toInt = 1 ∧ ((Mf 3) (Mv 5).toNatClampNeg).toInt + 1 ≤ (sv_130 (Mv 5).toNatClampNeg).toInt ∧ (sv_130 (Mv 5).toNatClampNeg).toInt + ((Mv 2) : Int32).toInt ≤ ((Mf 3) (Mv 5).toNatClampNeg).toInt + (sv_125 : Int32).toInt ∧ ((Mv 2) : Int32).toInt + 1 ≤ (sv_125 : Int32).toInt)) := by
                  have z_1 : ¬ (r_13 : Int32).toInt = (0 : Int32).toInt := fun z => c_18 (Int32.toInt_inj.mp z)
                  have z_2 := congrArg Int32.toInt c_55
                  have z_3 : ¬ (x_57 : Int32).toInt = (42 : Int32).toInt := fun z => c_58 (Int32.toInt_inj.mp z)
                  have z_4 := congrArg Int32.toInt c_61
                  have z_5 := congrArg Int32.toInt c_139
                  have y_0 : (0 : Int32).toInt = 0 := by decide
                  have y_42 : (42 : Int32).toInt = 42 := by decide
                  have y_47 : (47 : Int32).toInt = 47 := by decide
                  omega
                have hm_169 : (0 : Int32).toInt = 0 → (RfE (pz_sum (rB (Mf 1) (Mv 0)) (St0 (rB (Mf 1) (Mv 0)) (Mv 2) (Mv 6))) sv_126) := by
                  intro h1r
                  have hr_170 : (rB (Mf 1) (Mv 0) (sv_47 : Int32).toInt.toNat = 43 ∨ rB (Mf 1) (Mv 0) (sv_47 : Int32).toInt.toNat = 45 ∨ rB (Mf 1) (Mv 0) (sv_47 : Int32).toInt.toNat = 42 ∨ rB (Mf 1) (Mv 0) (sv_47 : Int32).toInt.toNat = 47 ∨ rB (Mf 1) (Mv 0) (sv_47 : Int32).toInt.toNat = 37) := by
                    have z_1 : ¬ (r_13 : Int32).toInt = (0 : Int32).toInt := fun z => c_18 (Int32.toInt_inj.mp z)
                    have z_2 := congrArg Int32.toInt c_55
                    have z_3 : ¬ (x_57 : Int32).toInt = (42 : Int32).toInt := fun z => c_58 (Int32.toInt_inj.mp z)
                    have z_4 := congrArg Int32.toInt c_61
                    have z_5 := congrArg Int32.toInt c_139
                    have y_0 : (0 : Int32).toInt = 0 := by decide
                    have y_42 : (42 : Int32).toInt = 42 := by decide
                    have y_47 : (47 : Int32).toInt = 47 := by decide
                    omega
                  have hi_171 : (x_117 : Int32).toInt = (sv_47 : Int32).toInt + 1 := by
                    have z_1 : ¬ (r_13 : Int32).toInt = (0 : Int32).toInt := fun z => c_18 (Int32.toInt_inj.mp z)
                    have z_2 := congrArg Int32.toInt c_55
                    have z_3 : ¬ (x_57 : Int32).toInt = (42 : Int32).toInt := fun z => c_58 (Int32.toInt_inj.mp z)
                    have z_4 := congrArg Int32.toInt c_61
                    have z_5 := congrArg Int32.toInt c_139
                    have y_0 : (0 : Int32).toInt = 0 := by decide
                    have y_42 : (42 : Int32).toInt = 42 := by decide
                    have y_47 : (47 : Int32).toInt = 47 := by decide
                    have y_1 : (1 : Int32).toInt = 1 := by decide
                    have t_x_117 : x_117.toInt = (sv_47 : Int32).toInt + (1 : Int32).toInt := by rw [ex_117]; exact add_toInt (by omega) (by omega)
                    omega
                  exact (TmL.er (rB_fi h_nx.2.2) pf_42 pf_51 hr_170 hi_171 pf_162)
                exact retI (v := 0) hx hb hr hlk (rfl) hP hD hS (sv_125, sv_126, sv_127, sv_128, sv_129, sv_130) ⟨_, rfl, hp_168, ha_164, ha_165, (Agr.trans (k' := (400 * ((Mv 5) : Int32).toInt + ((Mf 3) (Mv 5).toNatClampNeg).toInt)) (Agr.mono pf_40 hr_166) pf_133 ⟨Int.le_refl _, hr_167⟩), (fun h => absurd h (by decide)), hm_169⟩ [0, 1, 2, 3] rfl rfl dX12_term_93 (Nat.le_of_ble_eq_true rfl) (Nat.le_of_ble_eq_true rfl) rfl
          · skip
            refine lv_iconst (v := 4) hx hb dX12_term_50 (by decide) ?_
            refine lv_goto (tgt := 74) hx hb dX12_term_51 (by decide) ?_
            refine lv_istore_n (lv' := [(1, .int 4), (0, .ref (Ma 0))]) hx hb dX12_term_74 rfl hl (by decide) rfl (fun ls hl₀ => ?_)
            replace hl := hl₀
            clear hl₀
            refine lv_aload_n hx hb dX12_term_75 rfl (lv_at hl 1 rfl) ?_
            refine lv_dup hx hb dX12_term_76 rfl ?_
            refine gf_X12_87 hx hb hts hown hK hP 2 rfl rfl dX12_term_77 ?_
            refine lv_iconst (v := 1) hx hb dX12_term_80 (by decide) ?_
            refine lv_iadd hx hb dX12_term_81 ?_
            refine lv_topi (fun x_172 ex_172 => ?_)
            refine pf_X12_87 hx hb hts hown hK hP hD hS 2 rfl (Nat.le_of_ble_eq_true rfl) rfl rfl dX12_term_82 (fun H locs hP₀ hD₀ hS₀ => ?_)
            replace hP : va_P D classes [((Ma 2), .inl (tc 0, 2400, .inl vy_32)), ((Ma 3), .inl (tc 0, 7, .inl vy_33)), ((Ma 0), .inr (12, [.ref (Ma 1), .int (Mv 0), .int (Mv 1), .ref (Ma 2), .ref (Ma 3), .ref (Ma 4), .ref (Ma 5), .ref (Ma 6), .int x_172, .int vy_29, .int vy_30, .int (Mv 5), .int vy_31, .int (Mv 7), .int (Mv 8), .ref (Ma 7), .int (Mv 9), .ref (Ma 8), .int (Mv 10), .ref (Ma 9), .ref (Ma 10), .int (Mv 11), .int (Mv 12), .int (Mv 13), .ref (Ma 11), .int (Mv 14), .ref (Ma 12), .ref (Ma 13), .ref (Ma 14), .ref (Ma 15), .ref (Ma 16), .long (Mj 0), .ref (Ma 17), .ref (Ma 18), .ref (Ma 19), .ref (Ma 20)])), ((Ma 1), .inl (tc 2, 400, .inl (Mf 1)))] H := hP₀
            replace hD : va_D A [((Ma 2), .inl (tc 0, 2400, .inl vy_32)), ((Ma 3), .inl (tc 0, 7, .inl vy_33)), ((Ma 0), .inr (12, [.ref (Ma 1), .int (Mv 0), .int (Mv 1), .ref (Ma 2), .ref (Ma 3), .ref (Ma 4), .ref (Ma 5), .ref (Ma 6), .int x_172, .int vy_29, .int vy_30, .int (Mv 5), .int vy_31, .int (Mv 7), .int (Mv 8), .ref (Ma 7), .int (Mv 9), .ref (Ma 8), .int (Mv 10), .ref (Ma 9), .ref (Ma 10), .int (Mv 11), .int (Mv 12), .int (Mv 13), .ref (Ma 11), .int (Mv 14), .ref (Ma 12), .ref (Ma 13), .ref (Ma 14), .ref (Ma 15), .ref (Ma 16), .long (Mj 0), .ref (Ma 17), .ref (Ma 18), .ref (Ma 19), .ref (Ma 20)])), ((Ma 1), .inl (tc 2, 400, .inl (Mf 1)))] := hD₀
            replace hS := hS₀
            clear hP₀ hD₀ hS₀
            have tp_x_172 : (x_172 : Int32).toInt = (sv_47 : Int32).toInt + 1 := by
              have z_1 : ¬ (r_13 : Int32).toInt = (0 : Int32).toInt := fun z => c_18 (Int32.toInt_inj.mp z)
              have z_2 := congrArg Int32.toInt c_55
              have z_3 := congrArg Int32.toInt c_58
              have y_0 : (0 : Int32).toInt = 0 := by decide
              have y_42 : (42 : Int32).toInt = 42 := by decide
              have y_1 : (1 : Int32).toInt = 1 := by decide
              have t_x_172 : x_172.toInt = (sv_47 : Int32).toInt + (1 : Int32).toInt := by rw [ex_172]; exact add_toInt (by omega) (by omega)
              omega
            refine lv_aload_n hx hb dX12_term_85 rfl (lv_at hl 1 rfl) ?_
            have ha_173 : 0 ≤ (x_172 : Int32).toInt ∧ (x_172 : Int32).toInt ≤ ((Mv 0) : Int32).toInt ∧ ((Mv 0) : Int32).toInt ≤ 400 := by
              have z_1 : ¬ (r_13 : Int32).toInt = (0 : Int32).toInt := fun z => c_18 (Int32.toInt_inj.mp z)
              have z_2 := congrArg Int32.toInt c_55
              have z_3 := congrArg Int32.toInt c_58
              have y_0 : (0 : Int32).toInt = 0 := by decide
              have y_42 : (42 : Int32).toInt = 42 := by decide
              have y_1 : (1 : Int32).toInt = 1 := by decide
              have t_x_172 : x_172.toInt = (sv_47 : Int32).toInt + (1 : Int32).toInt := by rw [ex_172]; exact add_toInt (by omega) (by omega)
              omega
            have ha_174 : (vy_33 (Mv 5).toNatClampNeg).toInt ≤ (x_172 : Int32).toInt := by
              have z_1 : ¬ (r_13 : Int32).toInt = (0 : Int32).toInt := fun z => c_18 (Int32.toInt_inj.mp z)
              have z_2 := congrArg Int32.toInt c_55
              have z_3 := congrArg Int32.toInt c_58
              have y_0 : (0 : Int32).toInt = 0 := by decide
              have y_42 : (42 : Int32).toInt = 42 := by decide
              have y_1 : (1 : Int32).toInt = 1 := by decide
              have t_x_172 : x_172.toInt = (sv_47 : Int32).toInt + (1 : Int32).toInt := by rw [ex_172]; exact add_toInt (by omega) (by omega)
              omega
            have ha_175 : 0 ≤ (vy_31 : Int32).toInt ∧ (vy_31 : Int32).toInt ≤ 60 := by
              have z_1 : ¬ (r_13 : Int32).toInt = (0 : Int32).toInt := fun z => c_18 (Int32.toInt_inj.mp z)
              have z_2 := congrArg Int32.toInt c_55
              have z_3 := congrArg Int32.toInt c_58
              have y_0 : (0 : Int32).toInt = 0 := by decide
              have y_42 : (42 : Int32).toInt = 42 := by decide
              omega
            have ha_176 : (vy_29 : Int32).toInt = 0 := by
              have z_1 : ¬ (r_13 : Int32).toInt = (0 : Int32).toInt := fun z => c_18 (Int32.toInt_inj.mp z)
              have z_2 := congrArg Int32.toInt c_55
              have z_3 := congrArg Int32.toInt c_58
              have y_0 : (0 : Int32).toInt = 0 := by decide
              have y_42 : (42 : Int32).toInt = 42 := by decide
              omega
            refine cV (a := (Ma 0)) (As := []) (rest := []) (wr := []) ⟨hx, hb, hml, hown, hts⟩ hK hX hA (cu_fX12_value l D tc sk (Ma 0) (Ma 1) (Ma 2) (Ma 3) (Ma 4) (Ma 5) (Ma 6) (Ma 7) (Ma 8) (Ma 9) (Ma 10) (Ma 11) (Ma 12) (Ma 13) (Ma 14) (Ma 15) (Ma 16) (Ma 17) (Ma 18) (Ma 19) (Ma 20) (Mv 0) (Mv 1) x_172 vy_29 vy_30 (Mv 5) vy_31 (Mv 7) (Mv 8) (Mv 9) (Mv 10) (Mv 11) (Mv 12) (Mv 13) (Mv 14) (Mf 1) vy_32 vy_33 (Mj 0) b (d + 1) ha_173 pf_41 ha_174 ha_175 h_bs ha_176) k_1287 k_1284 k_1286 k_44 k_106 pl_X12_value ⟨Nat.le_of_ble_eq_true rfl, Nat.le_of_ble_eq_true rfl⟩ rfl rfl (va_recv hK hP (ci := 12) (q0 := 2) rfl rfl) hP hD hS [2, 3, 0, 1] [] rfl rfl rfl rfl rfl (by decide) rfl hl.1 rfl (Nat.le_of_ble_eq_true rfl) dX12_term_86 ⟨Nat.le_of_ble_eq_true rfl, Nat.le_of_ble_eq_true rfl⟩ (fun v_177 u_178 H locs hv_179 hP₀ hD₀ hS₀ => ?_)
            obtain ⟨sv_180, sv_181, sv_182, sv_183, sv_184, sv_185⟩ := u_178
            obtain ⟨r_189, rfl, he_190, pf_186, pf_187, pf_188, hm_192, hm_193⟩ := hv_179
            have he_190 : ((r_189.toInt = 0 ∧ ¬ (sv_181 : Int32).toInt = 0) ∨ (r_189.toInt = 1 ∧ (vy_33 (Mv 5).toNatClampNeg).toInt + 1 ≤ (sv_185 (Mv 5).toNatClampNeg).toInt ∧ (sv_185 (Mv 5).toNatClampNeg).toInt + (x_172 : Int32).toInt ≤ (vy_33 (Mv 5).toNatClampNeg).toInt + (sv_180 : Int32).toInt ∧ (x_172 : Int32).toInt + 1 ≤ (sv_180 : Int32).toInt)) := he_190
            have pf_186 : (x_172 : Int32).toInt ≤ (sv_180 : Int32).toInt ∧ (sv_180 : Int32).toInt ≤ ((Mv 0) : Int32).toInt := pf_186
            have pf_187 : (vy_31 : Int32).toInt ≤ (sv_183 : Int32).toInt ∧ (sv_183 : Int32).toInt ≤ 60 := pf_187
            have pf_188 : Agr vy_32 sv_184 (400 * ((Mv 5) : Int32).toInt + (vy_33 (Mv 5).toNatClampNeg).toInt) := pf_188
            refine W.eq (g2 := F0 m 89 ls [.int r_189]) rfl ?_
            replace hP : va_P D classes [((Ma 0), .inr (12, [.ref (Ma 1), .int (Mv 0), .int (Mv 1), .ref (Ma 2), .ref (Ma 3), .ref (Ma 4), .ref (Ma 5), .ref (Ma 6), .int sv_180, .int sv_181, .int sv_182, .int (Mv 5), .int sv_183, .int (Mv 7), .int (Mv 8), .ref (Ma 7), .int (Mv 9), .ref (Ma 8), .int (Mv 10), .ref (Ma 9), .ref (Ma 10), .int (Mv 11), .int (Mv 12), .int (Mv 13), .ref (Ma 11), .int (Mv 14), .ref (Ma 12), .ref (Ma 13), .ref (Ma 14), .ref (Ma 15), .ref (Ma 16), .long (Mj 0), .ref (Ma 17), .ref (Ma 18), .ref (Ma 19), .ref (Ma 20)])), ((Ma 1), .inl (tc 2, 400, .inl (Mf 1))), ((Ma 2), .inl (tc 0, 2400, .inl sv_184)), ((Ma 3), .inl (tc 0, 7, .inl sv_185))] H := hP₀
            replace hD : va_D A [((Ma 0), .inr (12, [.ref (Ma 1), .int (Mv 0), .int (Mv 1), .ref (Ma 2), .ref (Ma 3), .ref (Ma 4), .ref (Ma 5), .ref (Ma 6), .int sv_180, .int sv_181, .int sv_182, .int (Mv 5), .int sv_183, .int (Mv 7), .int (Mv 8), .ref (Ma 7), .int (Mv 9), .ref (Ma 8), .int (Mv 10), .ref (Ma 9), .ref (Ma 10), .int (Mv 11), .int (Mv 12), .int (Mv 13), .ref (Ma 11), .int (Mv 14), .ref (Ma 12), .ref (Ma 13), .ref (Ma 14), .ref (Ma 15), .ref (Ma 16), .long (Mj 0), .ref (Ma 17), .ref (Ma 18), .ref (Ma 19), .ref (Ma 20)])), ((Ma 1), .inl (tc 2, 400, .inl (Mf 1))), ((Ma 2), .inl (tc 0, 2400, .inl sv_184)), ((Ma 3), .inl (tc 0, 7, .inl sv_185))] := hD₀
            replace hS := hS₀
            clear hP₀ hD₀ hS₀
            refine lv_if_ne (tgt := 94) hx hb dX12_term_89 (by decide) (fun c_194 => ?_) (fun c_194 => ?_)
            · skip
              have hz_197 : (r_189 : Int32).toInt = 1 := by
                have z_1 : ¬ (r_13 : Int32).toInt = (0 : Int32).toInt := fun z => c_18 (Int32.toInt_inj.mp z)
                have z_2 := congrArg Int32.toInt c_55
                have z_3 := congrArg Int32.toInt c_58
                have z_4 : ¬ (r_189 : Int32).toInt = (0 : Int32).toInt := fun z => c_194 (Int32.toInt_inj.mp z)
                have y_0 : (0 : Int32).toInt = 0 := by decide
                have y_42 : (42 : Int32).toInt = 42 := by decide
                omega
              obtain ⟨pf_195, pf_196⟩ := hm_192 hz_197
              have pf_195 : Cd sv_184 sv_185 (Mv 5) b sv_183 ((d + 1) + 1) := pf_195
              have ar_pf_195 := Cd.ar pf_195
              have pf_196 : RfO (pz_val (rB (Mf 1) (Mv 0)) (St0 (rB (Mf 1) (Mv 0)) x_172 vy_31)) (rB (Mf 1) (Mv 0)) sv_181 sv_180 sv_183 := pf_196
              have ar_pf_196 := RfO.wr pf_196
              refine lv_aload_n hx hb dX12_term_94 rfl (lv_at hl 1 rfl) ?_
              refine lv_iload_n hx hb dX12_term_95 rfl (lv_at hl 0 rfl) ?_
              refine lv_iconst (v := 0) hx hb dX12_term_96 (by decide) ?_
              have ha_198 : ((d + 1) : Int) ≤ sv_183.toInt := by
                have z_1 : ¬ (r_13 : Int32).toInt = (0 : Int32).toInt := fun z => c_18 (Int32.toInt_inj.mp z)
                have z_2 := congrArg Int32.toInt c_55
                have z_3 := congrArg Int32.toInt c_58
                have z_4 : ¬ (r_189 : Int32).toInt = (0 : Int32).toInt := fun z => c_194 (Int32.toInt_inj.mp z)
                have y_0 : (0 : Int32).toInt = 0 := by decide
                have y_42 : (42 : Int32).toInt = 42 := by decide
                omega
              have ha_199 : (sv_185 (Mv 5).toNatClampNeg).toInt < 400 := by
                have z_1 : ¬ (r_13 : Int32).toInt = (0 : Int32).toInt := fun z => c_18 (Int32.toInt_inj.mp z)
                have z_2 := congrArg Int32.toInt c_55
                have z_3 := congrArg Int32.toInt c_58
                have z_4 : ¬ (r_189 : Int32).toInt = (0 : Int32).toInt := fun z => c_194 (Int32.toInt_inj.mp z)
                have y_0 : (0 : Int32).toInt = 0 := by decide
                have y_42 : (42 : Int32).toInt = 42 := by decide
                omega
              refine cV (a := (Ma 0)) (As := [.int 4, .int 0]) (rest := []) (wr := [((Ma 1), .inl (tc 2, 400, .inl (Mf 1)))]) ⟨hx, hb, hml, hown, hts⟩ hK hX hA (cu_X12_puts l D tc sk (Ma 0) (Ma 1) (Ma 2) (Ma 3) (Ma 4) (Ma 5) (Ma 6) (Ma 7) (Ma 8) (Ma 9) (Ma 10) (Ma 11) (Ma 12) (Ma 13) (Ma 14) (Ma 15) (Ma 16) (Ma 17) (Ma 18) (Ma 19) (Ma 20) (Mv 0) (Mv 1) sv_180 sv_181 sv_182 (Mv 5) sv_183 (Mv 7) (Mv 8) (Mv 9) (Mv 10) (Mv 11) (Mv 12) (Mv 13) (Mv 14) sv_184 sv_185 (Mj 0) 4 0 b sv_183 ((d + 1) + 1) (d + 1) pf_195 (StpR.op (by decide) rfl (by omega)) ha_198 ha_199) k_1296 k_1293 k_1295 k_46 k_106 pl_X12_puts ⟨Nat.le_of_ble_eq_true rfl, Nat.le_of_ble_eq_true rfl⟩ rfl rfl (va_recv hK hP (ci := 12) (q0 := 0) rfl rfl) hP hD hS [0, 2, 3] [1] rfl rfl rfl rfl rfl (by decide) rfl hl.1 rfl (Nat.le_of_ble_eq_true rfl) dX12_term_97 ⟨Nat.le_of_ble_eq_true rfl, Nat.le_of_ble_eq_true rfl⟩ (fun v_200 u_201 H locs hv_202 hP₀ hD₀ hS₀ => ?_)
              obtain ⟨sv_203, sv_204⟩ := u_201
              obtain ⟨rfl, pf_205, pf_206, pf_207⟩ := hv_202
              have pf_205 : Cd sv_203 sv_204 (Mv 5) b sv_183 (d + 1) := pf_205
              have ar_pf_205 := Cd.ar pf_205
              have pf_206 : Agr sv_184 sv_203 (400 * ((Mv 5) : Int32).toInt + (sv_185 (Mv 5).toNatClampNeg).toInt) := pf_206
              have pf_207 : (sv_204 (Mv 5).toNatClampNeg).toInt = (sv_185 (Mv 5).toNatClampNeg).toInt + 1 := pf_207
              refine W.eq (g2 := F0 m 100 ls []) rfl ?_
              replace hP : va_P D classes [((Ma 1), .inl (tc 2, 400, .inl (Mf 1))), ((Ma 0), .inr (12, [.ref (Ma 1), .int (Mv 0), .int (Mv 1), .ref (Ma 2), .ref (Ma 3), .ref (Ma 4), .ref (Ma 5), .ref (Ma 6), .int sv_180, .int sv_181, .int sv_182, .int (Mv 5), .int sv_183, .int (Mv 7), .int (Mv 8), .ref (Ma 7), .int (Mv 9), .ref (Ma 8), .int (Mv 10), .ref (Ma 9), .ref (Ma 10), .int (Mv 11), .int (Mv 12), .int (Mv 13), .ref (Ma 11), .int (Mv 14), .ref (Ma 12), .ref (Ma 13), .ref (Ma 14), .ref (Ma 15), .ref (Ma 16), .long (Mj 0), .ref (Ma 17), .ref (Ma 18), .ref (Ma 19), .ref (Ma 20)])), ((Ma 2), .inl (tc 0, 2400, .inl sv_203)), ((Ma 3), .inl (tc 0, 7, .inl sv_204))] H := hP₀
              replace hD : va_D A [((Ma 1), .inl (tc 2, 400, .inl (Mf 1))), ((Ma 0), .inr (12, [.ref (Ma 1), .int (Mv 0), .int (Mv 1), .ref (Ma 2), .ref (Ma 3), .ref (Ma 4), .ref (Ma 5), .ref (Ma 6), .int sv_180, .int sv_181, .int sv_182, .int (Mv 5), .int sv_183, .int (Mv 7), .int (Mv 8), .ref (Ma 7), .int (Mv 9), .ref (Ma 8), .int (Mv 10), .ref (Ma 9), .ref (Ma 10), .int (Mv 11), .int (Mv 12), .int (Mv 13), .ref (Ma 11), .int (Mv 14), .ref (Ma 12), .ref (Ma 13), .ref (Ma 14), .ref (Ma 15), .ref (Ma 16), .long (Mj 0), .ref (Ma 17), .ref (Ma 18), .ref (Ma 19), .ref (Ma 20)])), ((Ma 2), .inl (tc 0, 2400, .inl sv_203)), ((Ma 3), .inl (tc 0, 7, .inl sv_204))] := hD₀
              replace hS := hS₀
              clear hP₀ hD₀ hS₀
              refine lv_goto (tgt := 9) hx hb dX12_term_100 (by decide) ?_
              have hb_208 : 400 - (sv_180 : Int32).toInt < 400 - (vy_28 : Int32).toInt ∧ 1 ≤ 400 - (vy_28 : Int32).toInt := by
                have z_1 : ¬ (r_13 : Int32).toInt = (0 : Int32).toInt := fun z => c_18 (Int32.toInt_inj.mp z)
                have z_2 := congrArg Int32.toInt c_55
                have z_3 := congrArg Int32.toInt c_58
                have z_4 : ¬ (r_189 : Int32).toInt = (0 : Int32).toInt := fun z => c_194 (Int32.toInt_inj.mp z)
                have y_0 : (0 : Int32).toInt = 0 := by decide
                have y_42 : (42 : Int32).toInt = 42 := by decide
                omega
              have ha_209 : 0 ≤ (sv_180 : Int32).toInt ∧ (sv_180 : Int32).toInt ≤ ((Mv 0) : Int32).toInt ∧ ((Mv 0) : Int32).toInt ≤ 400 := by
                have z_1 : ¬ (r_13 : Int32).toInt = (0 : Int32).toInt := fun z => c_18 (Int32.toInt_inj.mp z)
                have z_2 := congrArg Int32.toInt c_55
                have z_3 := congrArg Int32.toInt c_58
                have z_4 : ¬ (r_189 : Int32).toInt = (0 : Int32).toInt := fun z => c_194 (Int32.toInt_inj.mp z)
                have y_0 : (0 : Int32).toInt = 0 := by decide
                have y_42 : (42 : Int32).toInt = 42 := by decide
                omega
              have ha_210 : (Mv 6).toInt ≤ (sv_183 : Int32).toInt ∧ (sv_183 : Int32).toInt ≤ 60 := by
                have z_1 : ¬ (r_13 : Int32).toInt = (0 : Int32).toInt := fun z => c_18 (Int32.toInt_inj.mp z)
                have z_2 := congrArg Int32.toInt c_55
                have z_3 := congrArg Int32.toInt c_58
                have z_4 : ¬ (r_189 : Int32).toInt = (0 : Int32).toInt := fun z => c_194 (Int32.toInt_inj.mp z)
                have y_0 : (0 : Int32).toInt = 0 := by decide
                have y_42 : (42 : Int32).toInt = 42 := by decide
                omega
              have ha_211 : ((Mf 3) (Mv 5).toNatClampNeg).toInt + 1 ≤ (sv_204 (Mv 5).toNatClampNeg).toInt ∧ (sv_204 (Mv 5).toNatClampNeg).toInt + ((Mv 2) : Int32).toInt ≤ ((Mf 3) (Mv 5).toNatClampNeg).toInt + (sv_180 : Int32).toInt ∧ ((Mv 2) : Int32).toInt + 1 ≤ (sv_180 : Int32).toInt := by
                have z_1 : ¬ (r_13 : Int32).toInt = (0 : Int32).toInt := fun z => c_18 (Int32.toInt_inj.mp z)
                have z_2 := congrArg Int32.toInt c_55
                have z_3 := congrArg Int32.toInt c_58
                have z_4 : ¬ (r_189 : Int32).toInt = (0 : Int32).toInt := fun z => c_194 (Int32.toInt_inj.mp z)
                have y_0 : (0 : Int32).toInt = 0 := by decide
                have y_42 : (42 : Int32).toInt = 42 := by decide
                omega
              have hr_212 : (400 * ((Mv 5) : Int32).toInt + ((Mf 3) (Mv 5).toNatClampNeg).toInt) ≤ (400 * ((Mv 5) : Int32).toInt + ((Mf 3) (Mv 5).toNatClampNeg).toInt) := by
                have z_1 : ¬ (r_13 : Int32).toInt = (0 : Int32).toInt := fun z => c_18 (Int32.toInt_inj.mp z)
                have z_2 := congrArg Int32.toInt c_55
                have z_3 := congrArg Int32.toInt c_58
                have z_4 : ¬ (r_189 : Int32).toInt = (0 : Int32).toInt := fun z => c_194 (Int32.toInt_inj.mp z)
                have y_0 : (0 : Int32).toInt = 0 := by decide
                have y_42 : (42 : Int32).toInt = 42 := by decide
                omega
              have hr_213 : (400 * ((Mv 5) : Int32).toInt + ((Mf 3) (Mv 5).toNatClampNeg).toInt) ≤ (400 * ((Mv 5) : Int32).toInt + (vy_33 (Mv 5).toNatClampNeg).toInt) := by
                have z_1 : ¬ (r_13 : Int32).toInt = (0 : Int32).toInt := fun z => c_18 (Int32.toInt_inj.mp z)
                have z_2 := congrArg Int32.toInt c_55
                have z_3 := congrArg Int32.toInt c_58
                have z_4 : ¬ (r_189 : Int32).toInt = (0 : Int32).toInt := fun z => c_194 (Int32.toInt_inj.mp z)
                have y_0 : (0 : Int32).toInt = 0 := by decide
                have y_42 : (42 : Int32).toInt = 42 := by decide
                omega
              have hr_214 : (400 * ((Mv 5) : Int32).toInt + ((Mf 3) (Mv 5).toNatClampNeg).toInt) ≤ (400 * ((Mv 5) : Int32).toInt + (sv_185 (Mv 5).toNatClampNeg).toInt) := by
                have z_1 : ¬ (r_13 : Int32).toInt = (0 : Int32).toInt := fun z => c_18 (Int32.toInt_inj.mp z)
                have z_2 := congrArg Int32.toInt c_55
                have z_3 := congrArg Int32.toInt c_58
                have z_4 : ¬ (r_189 : Int32).toInt = (0 : Int32).toInt := fun z => c_194 (Int32.toInt_inj.mp z)
                have y_0 : (0 : Int32).toInt = 0 := by decide
                have y_42 : (42 : Int32).toInt = 42 := by decide
                omega
              have hr_215 : (rB (Mf 1) (Mv 0) (sv_47 : Int32).toInt.toNat = 43 ∨ rB (Mf 1) (Mv 0) (sv_47 : Int32).toInt.toNat = 45 ∨ rB (Mf 1) (Mv 0) (sv_47 : Int32).toInt.toNat = 42 ∨ rB (Mf 1) (Mv 0) (sv_47 : Int32).toInt.toNat = 47 ∨ rB (Mf 1) (Mv 0) (sv_47 : Int32).toInt.toNat = 37) := by
                have z_1 : ¬ (r_13 : Int32).toInt = (0 : Int32).toInt := fun z => c_18 (Int32.toInt_inj.mp z)
                have z_2 := congrArg Int32.toInt c_55
                have z_3 := congrArg Int32.toInt c_58
                have z_4 : ¬ (r_189 : Int32).toInt = (0 : Int32).toInt := fun z => c_194 (Int32.toInt_inj.mp z)
                have y_0 : (0 : Int32).toInt = 0 := by decide
                have y_42 : (42 : Int32).toInt = 42 := by decide
                omega
              have hi_216 : (x_172 : Int32).toInt = (sv_47 : Int32).toInt + 1 := by
                have z_1 : ¬ (r_13 : Int32).toInt = (0 : Int32).toInt := fun z => c_18 (Int32.toInt_inj.mp z)
                have z_2 := congrArg Int32.toInt c_55
                have z_3 := congrArg Int32.toInt c_58
                have z_4 : ¬ (r_189 : Int32).toInt = (0 : Int32).toInt := fun z => c_194 (Int32.toInt_inj.mp z)
                have y_0 : (0 : Int32).toInt = 0 := by decide
                have y_42 : (42 : Int32).toInt = 42 := by decide
                have y_1 : (1 : Int32).toInt = 1 := by decide
                have t_x_172 : x_172.toInt = (sv_47 : Int32).toInt + (1 : Int32).toInt := by rw [ex_172]; exact add_toInt (by omega) (by omega)
                omega
              exact ih_35 sv_180 sv_181 sv_182 sv_183 sv_203 sv_204 _ _ _ (by omega) ha_209 ha_210 ha_211 (Agr.trans (k' := (400 * ((Mv 5) : Int32).toInt + ((Mf 3) (Mv 5).toNatClampNeg).toInt)) (Agr.trans (k' := (400 * ((Mv 5) : Int32).toInt + ((Mf 3) (Mv 5).toNatClampNeg).toInt)) (Agr.mono pf_40 hr_212) pf_188 ⟨Int.le_refl _, hr_213⟩) pf_206 ⟨Int.le_refl _, hr_214⟩) pf_205 (TmL.next (rB_fi h_nx.2.2) pf_42 pf_51 hr_215 hi_216 pf_196) (hP.sub [1, 0, 2, 3] rfl) (hD.sub [1, 0, 2, 3] rfl rfl) hS (lv_sub hl [1] rfl)
            · skip
              have hz_218 : (r_189 : Int32).toInt = 0 := by
                have z_1 : ¬ (r_13 : Int32).toInt = (0 : Int32).toInt := fun z => c_18 (Int32.toInt_inj.mp z)
                have z_2 := congrArg Int32.toInt c_55
                have z_3 := congrArg Int32.toInt c_58
                have z_4 := congrArg Int32.toInt c_194
                have y_0 : (0 : Int32).toInt = 0 := by decide
                have y_42 : (42 : Int32).toInt = 42 := by decide
                omega
              obtain pf_217 := hm_193 hz_218
              have pf_217 : RfE (pz_val (rB (Mf 1) (Mv 0)) (St0 (rB (Mf 1) (Mv 0)) x_172 vy_31)) sv_181 := pf_217
              refine lv_iconst (v := 0) hx hb dX12_term_92 (by decide) ?_
              have ha_219 : ((Mv 2) : Int32).toInt ≤ (sv_180 : Int32).toInt ∧ (sv_180 : Int32).toInt ≤ ((Mv 0) : Int32).toInt := by
                have z_1 : ¬ (r_13 : Int32).toInt = (0 : Int32).toInt := fun z => c_18 (Int32.toInt_inj.mp z)
                have z_2 := congrArg Int32.toInt c_55
                have z_3 := congrArg Int32.toInt c_58
                have z_4 := congrArg Int32.toInt c_194
                have y_0 : (0 : Int32).toInt = 0 := by decide
                have y_42 : (42 : Int32).toInt = 42 := by decide
                omega
              have ha_220 : ((Mv 6) : Int32).toInt ≤ (sv_183 : Int32).toInt ∧ (sv_183 : Int32).toInt ≤ 60 := by
                have z_1 : ¬ (r_13 : Int32).toInt = (0 : Int32).toInt := fun z => c_18 (Int32.toInt_inj.mp z)
                have z_2 := congrArg Int32.toInt c_55
                have z_3 := congrArg Int32.toInt c_58
                have z_4 := congrArg Int32.toInt c_194
                have y_0 : (0 : Int32).toInt = 0 := by decide
                have y_42 : (42 : Int32).toInt = 42 := by decide
                omega
              have hr_221 : (400 * ((Mv 5) : Int32).toInt + ((Mf 3) (Mv 5).toNatClampNeg).toInt) ≤ (400 * ((Mv 5) : Int32).toInt + ((Mf 3) (Mv 5).toNatClampNeg).toInt) := by
                have z_1 : ¬ (r_13 : Int32).toInt = (0 : Int32).toInt := fun z => c_18 (Int32.toInt_inj.mp z)
                have z_2 := congrArg Int32.toInt c_55
                have z_3 := congrArg Int32.toInt c_58
                have z_4 := congrArg Int32.toInt c_194
                have y_0 : (0 : Int32).toInt = 0 := by decide
                have y_42 : (42 : Int32).toInt = 42 := by decide
                omega
              have hr_222 : (400 * ((Mv 5) : Int32).toInt + ((Mf 3) (Mv 5).toNatClampNeg).toInt) ≤ (400 * ((Mv 5) : Int32).toInt + (vy_33 (Mv 5).toNatClampNeg).toInt) := by
                have z_1 : ¬ (r_13 : Int32).toInt = (0 : Int32).toInt := fun z => c_18 (Int32.toInt_inj.mp z)
                have z_2 := congrArg Int32.toInt c_55
                have z_3 := congrArg Int32.toInt c_58
                have z_4 := congrArg Int32.toInt c_194
                have y_0 : (0 : Int32).toInt = 0 := by decide
                have y_42 : (42 : Int32).toInt = 42 := by decide
                omega
              have hp_223 : (((0 : Int32).toInt = 0 ∧ ¬ (sv_181 : Int32).toInt = 0) ∨ ((0 : Int32).toInt = 1 ∧ ((Mf 3) (Mv 5).toNatClampNeg).toInt + 1 ≤ (sv_185 (Mv 5).toNatClampNeg).toInt ∧ (sv_185 (Mv 5).toNatClampNeg).toInt + ((Mv 2) : Int32).toInt ≤ ((Mf 3) (Mv 5).toNatClampNeg).toInt + (sv_180 : Int32).toInt ∧ ((Mv 2) : Int32).toInt + 1 ≤ (sv_180 : Int32).toInt)) := by
                have z_1 : ¬ (r_13 : Int32).toInt = (0 : Int32).toInt := fun z => c_18 (Int32.toInt_inj.mp z)
                have z_2 := congrArg Int32.toInt c_55
                have z_3 := congrArg Int32.toInt c_58
                have z_4 := congrArg Int32.toInt c_194
                have y_0 : (0 : Int32).toInt = 0 := by decide
                have y_42 : (42 : Int32).toInt = 42 := by decide
                omega
              have hm_224 : (0 : Int32).toInt = 0 → (RfE (pz_sum (rB (Mf 1) (Mv 0)) (St0 (rB (Mf 1) (Mv 0)) (Mv 2) (Mv 6))) sv_181) := by
                intro h1r
                have hr_225 : (rB (Mf 1) (Mv 0) (sv_47 : Int32).toInt.toNat = 43 ∨ rB (Mf 1) (Mv 0) (sv_47 : Int32).toInt.toNat = 45 ∨ rB (Mf 1) (Mv 0) (sv_47 : Int32).toInt.toNat = 42 ∨ rB (Mf 1) (Mv 0) (sv_47 : Int32).toInt.toNat = 47 ∨ rB (Mf 1) (Mv 0) (sv_47 : Int32).toInt.toNat = 37) := by
                  have z_1 : ¬ (r_13 : Int32).toInt = (0 : Int32).toInt := fun z => c_18 (Int32.toInt_inj.mp z)
                  have z_2 := congrArg Int32.toInt c_55
                  have z_3 := congrArg Int32.toInt c_58
                  have z_4 := congrArg Int32.toInt c_194
                  have y_0 : (0 : Int32).toInt = 0 := by decide
                  have y_42 : (42 : Int32).toInt = 42 := by decide
                  omega
                have hi_226 : (x_172 : Int32).toInt = (sv_47 : Int32).toInt + 1 := by
                  have z_1 : ¬ (r_13 : Int32).toInt = (0 : Int32).toInt := fun z => c_18 (Int32.toInt_inj.mp z)
                  have z_2 := congrArg Int32.toInt c_55
                  have z_3 := congrArg Int32.toInt c_58
                  have z_4 := congrArg Int32.toInt c_194
                  have y_0 : (0 : Int32).toInt = 0 := by decide
                  have y_42 : (42 : Int32).toInt = 42 := by decide
                  have y_1 : (1 : Int32).toInt = 1 := by decide
                  have t_x_172 : x_172.toInt = (sv_47 : Int32).toInt + (1 : Int32).toInt := by rw [ex_172]; exact add_toInt (by omega) (by omega)
                  omega
                exact (TmL.er (rB_fi h_nx.2.2) pf_42 pf_51 hr_225 hi_226 pf_217)
              exact retI (v := 0) hx hb hr hlk (rfl) hP hD hS (sv_180, sv_181, sv_182, sv_183, sv_184, sv_185) ⟨_, rfl, hp_223, ha_219, ha_220, (Agr.trans (k' := (400 * ((Mv 5) : Int32).toInt + ((Mf 3) (Mv 5).toNatClampNeg).toInt)) (Agr.mono pf_40 hr_221) pf_188 ⟨Int.le_refl _, hr_222⟩), (fun h => absurd h (by decide)), hm_224⟩ [0, 1, 2, 3] rfl rfl dX12_term_93 (Nat.le_of_ble_eq_true rfl) (Nat.le_of_ble_eq_true rfl) rfl
        · skip
          refine lv_aload_n hx hb dX12_term_18 rfl (lv_at hl 0 rfl) ?_
          have ha_227 : 0 ≤ (sv_47 : Int32).toInt ∧ (sv_47 : Int32).toInt ≤ ((Mv 0) : Int32).toInt ∧ ((Mv 0) : Int32).toInt ≤ 400 := by
            have z_1 : ¬ (r_13 : Int32).toInt = (0 : Int32).toInt := fun z => c_18 (Int32.toInt_inj.mp z)
            have z_2 : ¬ (r_52 : Int32).toInt = (42 : Int32).toInt := fun z => c_55 (Int32.toInt_inj.mp z)
            have y_0 : (0 : Int32).toInt = 0 := by decide
            have y_42 : (42 : Int32).toInt = 42 := by decide
            omega
          refine cV (a := (Ma 0)) (As := []) (rest := []) (wr := [((Ma 2), .inl (tc 0, 2400, .inl vy_32)), ((Ma 3), .inl (tc 0, 7, .inl vy_33))]) ⟨hx, hb, hml, hown, hts⟩ hK hX hA (cu_fX12_see l D tc sk (Ma 0) (Ma 1) (Ma 2) (Ma 3) (Ma 4) (Ma 5) (Ma 6) (Ma 7) (Ma 8) (Ma 9) (Ma 10) (Ma 11) (Ma 12) (Ma 13) (Ma 14) (Ma 15) (Ma 16) (Ma 17) (Ma 18) (Ma 19) (Ma 20) (Mv 0) (Mv 1) sv_47 vy_29 vy_30 (Mv 5) vy_31 (Mv 7) (Mv 8) (Mv 9) (Mv 10) (Mv 11) (Mv 12) (Mv 13) (Mv 14) (Mf 1) (Mj 0) ha_227 h_bs) k_1211 k_1208 k_1210 k_27 k_106 pl_X12_see ⟨Nat.le_of_ble_eq_true rfl, Nat.le_of_ble_eq_true rfl⟩ rfl rfl (va_recv hK hP (ci := 12) (q0 := 2) rfl rfl) hP hD hS [2, 3] [0, 1] rfl rfl rfl rfl rfl (by decide) rfl hl.1 rfl (Nat.le_of_ble_eq_true rfl) dX12_term_19 ⟨Nat.le_of_ble_eq_true rfl, Nat.le_of_ble_eq_true rfl⟩ (fun v_228 u_229 H locs hv_230 hP₀ hD₀ hS₀ => ?_)
          obtain ⟨sv_231, rfl⟩ : ∃ z, z = u_229 := ⟨_, rfl⟩
          obtain ⟨r_236, rfl, he_237, pf_232, pf_233, pf_234, pf_235⟩ := hv_230
          have he_237 : (r_236.toInt = rB (Mf 1) (Mv 0) (sv_231 : Int32).toInt.toNat ∧ (r_236.toInt = -1 ∨ (sv_231 : Int32).toInt < (Mv 0).toInt)) := he_237
          have pf_232 : (sv_47 : Int32).toInt ≤ (sv_231 : Int32).toInt ∧ (sv_231 : Int32).toInt ≤ ((Mv 0) : Int32).toInt := pf_232
          have pf_233 : NSq (Mf 1) (Mv 0) sv_231 := pf_233
          have pf_234 : Stl (Mf 1) (Mv 0) sv_47 sv_231 := pf_234
          have ar_pf_234 := Stl.or pf_234 pf_49
          have pf_235 : SkR (rB (Mf 1) (Mv 0)) sv_47 sv_231 := pf_235
          refine W.eq (g2 := F0 m 22 ls [.int r_236]) rfl ?_
          replace hP : va_P D classes [((Ma 2), .inl (tc 0, 2400, .inl vy_32)), ((Ma 3), .inl (tc 0, 7, .inl vy_33)), ((Ma 0), .inr (12, [.ref (Ma 1), .int (Mv 0), .int (Mv 1), .ref (Ma 2), .ref (Ma 3), .ref (Ma 4), .ref (Ma 5), .ref (Ma 6), .int sv_231, .int vy_29, .int vy_30, .int (Mv 5), .int vy_31, .int (Mv 7), .int (Mv 8), .ref (Ma 7), .int (Mv 9), .ref (Ma 8), .int (Mv 10), .ref (Ma 9), .ref (Ma 10), .int (Mv 11), .int (Mv 12), .int (Mv 13), .ref (Ma 11), .int (Mv 14), .ref (Ma 12), .ref (Ma 13), .ref (Ma 14), .ref (Ma 15), .ref (Ma 16), .long (Mj 0), .ref (Ma 17), .ref (Ma 18), .ref (Ma 19), .ref (Ma 20)])), ((Ma 1), .inl (tc 2, 400, .inl (Mf 1)))] H := hP₀
          replace hD : va_D A [((Ma 2), .inl (tc 0, 2400, .inl vy_32)), ((Ma 3), .inl (tc 0, 7, .inl vy_33)), ((Ma 0), .inr (12, [.ref (Ma 1), .int (Mv 0), .int (Mv 1), .ref (Ma 2), .ref (Ma 3), .ref (Ma 4), .ref (Ma 5), .ref (Ma 6), .int sv_231, .int vy_29, .int vy_30, .int (Mv 5), .int vy_31, .int (Mv 7), .int (Mv 8), .ref (Ma 7), .int (Mv 9), .ref (Ma 8), .int (Mv 10), .ref (Ma 9), .ref (Ma 10), .int (Mv 11), .int (Mv 12), .int (Mv 13), .ref (Ma 11), .int (Mv 14), .ref (Ma 12), .ref (Ma 13), .ref (Ma 14), .ref (Ma 15), .ref (Ma 16), .long (Mj 0), .ref (Ma 17), .ref (Ma 18), .ref (Ma 19), .ref (Ma 20)])), ((Ma 1), .inl (tc 2, 400, .inl (Mf 1)))] := hD₀
          replace hS := hS₀
          clear hP₀ hD₀ hS₀
          have hE_239 := SkR.eqB pf_51 pf_235
          refine lv_bipush (v := 47) hx hb dX12_term_22 (by decide) ?_
          refine lv_icmp_eq (tgt := 36) hx hb dX12_term_24 (by decide) (fun c_240 => ?_) (fun c_240 => ?_)
          · skip
            refine lv_aload_n hx hb dX12_term_36 rfl (lv_at hl 0 rfl) ?_
            refine gf_X12_7 hx hb hts hown hK hP 2 rfl rfl dX12_term_37 ?_
            refine lv_aload_n hx hb dX12_term_40 rfl (lv_at hl 0 rfl) ?_
            refine gf_X12_87 hx hb hts hown hK hP 2 rfl rfl dX12_term_41 ?_
            have hi_241 : vp_in sv_231 400 := by
              have z_1 : ¬ (r_13 : Int32).toInt = (0 : Int32).toInt := fun z => c_18 (Int32.toInt_inj.mp z)
              have z_2 : ¬ (r_52 : Int32).toInt = (42 : Int32).toInt := fun z => c_55 (Int32.toInt_inj.mp z)
              have z_3 := congrArg Int32.toInt c_240
              have y_0 : (0 : Int32).toInt = 0 := by decide
              have y_42 : (42 : Int32).toInt = 42 := by decide
              have y_47 : (47 : Int32).toInt = 47 := by decide
              refine vp_in_iff.mpr ⟨?_, ?_⟩ <;> omega
            refine va_bald hx hb hK hP 3 2 rfl rfl hi_241 dX12_term_44 ?_
            refine lv_topi (fun x_242 ex_242 => ?_)
            have kx_242 : x_242.toInt = ((Mf 1) (sv_231 : Int32).toInt.toNat).toInt := congrArg Int32.toInt ex_242
            have kcx_242 : x_242.toInt = ((Mf 1) (sv_231 : Int32).toNatClampNeg).toInt := congrArg Int32.toInt ex_242
            refine lv_bipush (v := 42) hx hb dX12_term_45 (by decide) ?_
            refine lv_icmp_ne (tgt := 54) hx hb dX12_term_47 (by decide) (fun c_243 => ?_) (fun c_243 => ?_)
            · skip
              refine lv_aload_n hx hb dX12_term_54 rfl (lv_at hl 0 rfl) ?_
              refine gf_X12_7 hx hb hts hown hK hP 2 rfl rfl dX12_term_55 ?_
              refine lv_aload_n hx hb dX12_term_58 rfl (lv_at hl 0 rfl) ?_
              refine gf_X12_87 hx hb hts hown hK hP 2 rfl rfl dX12_term_59 ?_
              have hi_244 : vp_in sv_231 400 := by
                have z_1 : ¬ (r_13 : Int32).toInt = (0 : Int32).toInt := fun z => c_18 (Int32.toInt_inj.mp z)
                have z_2 : ¬ (r_52 : Int32).toInt = (42 : Int32).toInt := fun z => c_55 (Int32.toInt_inj.mp z)
                have z_3 := congrArg Int32.toInt c_240
                have z_4 : ¬ (x_242 : Int32).toInt = (42 : Int32).toInt := fun z => c_243 (Int32.toInt_inj.mp z)
                have y_0 : (0 : Int32).toInt = 0 := by decide
                have y_42 : (42 : Int32).toInt = 42 := by decide
                have y_47 : (47 : Int32).toInt = 47 := by decide
                refine vp_in_iff.mpr ⟨?_, ?_⟩ <;> omega
              refine va_bald hx hb hK hP 3 2 rfl rfl hi_244 dX12_term_62 ?_
              refine lv_topi (fun x_245 ex_245 => ?_)
              have kx_245 : x_245.toInt = ((Mf 1) (sv_231 : Int32).toInt.toNat).toInt := congrArg Int32.toInt ex_245
              have kcx_245 : x_245.toInt = ((Mf 1) (sv_231 : Int32).toNatClampNeg).toInt := congrArg Int32.toInt ex_245
              refine lv_bipush (v := 47) hx hb dX12_term_63 (by decide) ?_
              refine lv_icmp_ne (tgt := 72) hx hb dX12_term_65 (by decide) (fun c_246 => ?_) (fun c_246 => ?_)
              · skip
                refine lv_bipush (v := 14) hx hb dX12_term_72 (by decide) ?_
                refine lv_istore_n (lv' := [(1, .int 14), (0, .ref (Ma 0))]) hx hb dX12_term_74 rfl hl (by decide) rfl (fun ls hl₀ => ?_)
                replace hl := hl₀
                clear hl₀
                refine lv_aload_n hx hb dX12_term_75 rfl (lv_at hl 1 rfl) ?_
                refine lv_dup hx hb dX12_term_76 rfl ?_
                refine gf_X12_87 hx hb hts hown hK hP 2 rfl rfl dX12_term_77 ?_
                refine lv_iconst (v := 1) hx hb dX12_term_80 (by decide) ?_
                refine lv_iadd hx hb dX12_term_81 ?_
                refine lv_topi (fun x_247 ex_247 => ?_)
                refine pf_X12_87 hx hb hts hown hK hP hD hS 2 rfl (Nat.le_of_ble_eq_true rfl) rfl rfl dX12_term_82 (fun H locs hP₀ hD₀ hS₀ => ?_)
                replace hP : va_P D classes [((Ma 2), .inl (tc 0, 2400, .inl vy_32)), ((Ma 3), .inl (tc 0, 7, .inl vy_33)), ((Ma 0), .inr (12, [.ref (Ma 1), .int (Mv 0), .int (Mv 1), .ref (Ma 2), .ref (Ma 3), .ref (Ma 4), .ref (Ma 5), .ref (Ma 6), .int x_247, .int vy_29, .int vy_30, .int (Mv 5), .int vy_31, .int (Mv 7), .int (Mv 8), .ref (Ma 7), .int (Mv 9), .ref (Ma 8), .int (Mv 10), .ref (Ma 9), .ref (Ma 10), .int (Mv 11), .int (Mv 12), .int (Mv 13), .ref (Ma 11), .int (Mv 14), .ref (Ma 12), .ref (Ma 13), .ref (Ma 14), .ref (Ma 15), .ref (Ma 16), .long (Mj 0), .ref (Ma 17), .ref (Ma 18), .ref (Ma 19), .ref (Ma 20)])), ((Ma 1), .inl (tc 2, 400, .inl (Mf 1)))] H := hP₀
                replace hD : va_D A [((Ma 2), .inl (tc 0, 2400, .inl vy_32)), ((Ma 3), .inl (tc 0, 7, .inl vy_33)), ((Ma 0), .inr (12, [.ref (Ma 1), .int (Mv 0), .int (Mv 1), .ref (Ma 2), .ref (Ma 3), .ref (Ma 4), .ref (Ma 5), .ref (Ma 6), .int x_247, .int vy_29, .int vy_30, .int (Mv 5), .int vy_31, .int (Mv 7), .int (Mv 8), .ref (Ma 7), .int (Mv 9), .ref (Ma 8), .int (Mv 10), .ref (Ma 9), .ref (Ma 10), .int (Mv 11), .int (Mv 12), .int (Mv 13), .ref (Ma 11), .int (Mv 14), .ref (Ma 12), .ref (Ma 13), .ref (Ma 14), .ref (Ma 15), .ref (Ma 16), .long (Mj 0), .ref (Ma 17), .ref (Ma 18), .ref (Ma 19), .ref (Ma 20)])), ((Ma 1), .inl (tc 2, 400, .inl (Mf 1)))] := hD₀
                replace hS := hS₀
                clear hP₀ hD₀ hS₀
                have tp_x_247 : (x_247 : Int32).toInt = (sv_231 : Int32).toInt + 1 := by
                  have z_1 : ¬ (r_13 : Int32).toInt = (0 : Int32).toInt := fun z => c_18 (Int32.toInt_inj.mp z)
                  have z_2 : ¬ (r_52 : Int32).toInt = (42 : Int32).toInt := fun z => c_55 (Int32.toInt_inj.mp z)
                  have z_3 := congrArg Int32.toInt c_240
                  have z_4 : ¬ (x_242 : Int32).toInt = (42 : Int32).toInt := fun z => c_243 (Int32.toInt_inj.mp z)
                  have z_5 : ¬ (x_245 : Int32).toInt = (47 : Int32).toInt := fun z => c_246 (Int32.toInt_inj.mp z)
                  have y_0 : (0 : Int32).toInt = 0 := by decide
                  have y_42 : (42 : Int32).toInt = 42 := by decide
                  have y_47 : (47 : Int32).toInt = 47 := by decide
                  have y_1 : (1 : Int32).toInt = 1 := by decide
                  have t_x_247 : x_247.toInt = (sv_231 : Int32).toInt + (1 : Int32).toInt := by rw [ex_247]; exact add_toInt (by omega) (by omega)
                  omega
                refine lv_aload_n hx hb dX12_term_85 rfl (lv_at hl 1 rfl) ?_
                have ha_248 : 0 ≤ (x_247 : Int32).toInt ∧ (x_247 : Int32).toInt ≤ ((Mv 0) : Int32).toInt ∧ ((Mv 0) : Int32).toInt ≤ 400 := by
                  have z_1 : ¬ (r_13 : Int32).toInt = (0 : Int32).toInt := fun z => c_18 (Int32.toInt_inj.mp z)
                  have z_2 : ¬ (r_52 : Int32).toInt = (42 : Int32).toInt := fun z => c_55 (Int32.toInt_inj.mp z)
                  have z_3 := congrArg Int32.toInt c_240
                  have z_4 : ¬ (x_242 : Int32).toInt = (42 : Int32).toInt := fun z => c_243 (Int32.toInt_inj.mp z)
                  have z_5 : ¬ (x_245 : Int32).toInt = (47 : Int32).toInt := fun z => c_246 (Int32.toInt_inj.mp z)
                  have y_0 : (0 : Int32).toInt = 0 := by decide
                  have y_42 : (42 : Int32).toInt = 42 := by decide
                  have y_47 : (47 : Int32).toInt = 47 := by decide
                  have y_1 : (1 : Int32).toInt = 1 := by decide
                  have t_x_247 : x_247.toInt = (sv_231 : Int32).toInt + (1 : Int32).toInt := by rw [ex_247]; exact add_toInt (by omega) (by omega)
                  omega
                have ha_249 : (vy_33 (Mv 5).toNatClampNeg).toInt ≤ (x_247 : Int32).toInt := by
                  have z_1 : ¬ (r_13 : Int32).toInt = (0 : Int32).toInt := fun z => c_18 (Int32.toInt_inj.mp z)
                  have z_2 : ¬ (r_52 : Int32).toInt = (42 : Int32).toInt := fun z => c_55 (Int32.toInt_inj.mp z)
                  have z_3 := congrArg Int32.toInt c_240
                  have z_4 : ¬ (x_242 : Int32).toInt = (42 : Int32).toInt := fun z => c_243 (Int32.toInt_inj.mp z)
                  have z_5 : ¬ (x_245 : Int32).toInt = (47 : Int32).toInt := fun z => c_246 (Int32.toInt_inj.mp z)
                  have y_0 : (0 : Int32).toInt = 0 := by decide
                  have y_42 : (42 : Int32).toInt = 42 := by decide
                  have y_47 : (47 : Int32).toInt = 47 := by decide
                  have y_1 : (1 : Int32).toInt = 1 := by decide
                  have t_x_247 : x_247.toInt = (sv_231 : Int32).toInt + (1 : Int32).toInt := by rw [ex_247]; exact add_toInt (by omega) (by omega)
                  omega
                have ha_250 : 0 ≤ (vy_31 : Int32).toInt ∧ (vy_31 : Int32).toInt ≤ 60 := by
                  have z_1 : ¬ (r_13 : Int32).toInt = (0 : Int32).toInt := fun z => c_18 (Int32.toInt_inj.mp z)
                  have z_2 : ¬ (r_52 : Int32).toInt = (42 : Int32).toInt := fun z => c_55 (Int32.toInt_inj.mp z)
                  have z_3 := congrArg Int32.toInt c_240
                  have z_4 : ¬ (x_242 : Int32).toInt = (42 : Int32).toInt := fun z => c_243 (Int32.toInt_inj.mp z)
                  have z_5 : ¬ (x_245 : Int32).toInt = (47 : Int32).toInt := fun z => c_246 (Int32.toInt_inj.mp z)
                  have y_0 : (0 : Int32).toInt = 0 := by decide
                  have y_42 : (42 : Int32).toInt = 42 := by decide
                  have y_47 : (47 : Int32).toInt = 47 := by decide
                  omega
                have ha_251 : (vy_29 : Int32).toInt = 0 := by
                  have z_1 : ¬ (r_13 : Int32).toInt = (0 : Int32).toInt := fun z => c_18 (Int32.toInt_inj.mp z)
                  have z_2 : ¬ (r_52 : Int32).toInt = (42 : Int32).toInt := fun z => c_55 (Int32.toInt_inj.mp z)
                  have z_3 := congrArg Int32.toInt c_240
                  have z_4 : ¬ (x_242 : Int32).toInt = (42 : Int32).toInt := fun z => c_243 (Int32.toInt_inj.mp z)
                  have z_5 : ¬ (x_245 : Int32).toInt = (47 : Int32).toInt := fun z => c_246 (Int32.toInt_inj.mp z)
                  have y_0 : (0 : Int32).toInt = 0 := by decide
                  have y_42 : (42 : Int32).toInt = 42 := by decide
                  have y_47 : (47 : Int32).toInt = 47 := by decide
                  omega
                refine cV (a := (Ma 0)) (As := []) (rest := []) (wr := []) ⟨hx, hb, hml, hown, hts⟩ hK hX hA (cu_fX12_value l D tc sk (Ma 0) (Ma 1) (Ma 2) (Ma 3) (Ma 4) (Ma 5) (Ma 6) (Ma 7) (Ma 8) (Ma 9) (Ma 10) (Ma 11) (Ma 12) (Ma 13) (Ma 14) (Ma 15) (Ma 16) (Ma 17) (Ma 18) (Ma 19) (Ma 20) (Mv 0) (Mv 1) x_247 vy_29 vy_30 (Mv 5) vy_31 (Mv 7) (Mv 8) (Mv 9) (Mv 10) (Mv 11) (Mv 12) (Mv 13) (Mv 14) (Mf 1) vy_32 vy_33 (Mj 0) b (d + 1) ha_248 pf_41 ha_249 ha_250 h_bs ha_251) k_1287 k_1284 k_1286 k_44 k_106 pl_X12_value ⟨Nat.le_of_ble_eq_true rfl, Nat.le_of_ble_eq_true rfl⟩ rfl rfl (va_recv hK hP (ci := 12) (q0 := 2) rfl rfl) hP hD hS [2, 3, 0, 1] [] rfl rfl rfl rfl rfl (by decide) rfl hl.1 rfl (Nat.le_of_ble_eq_true rfl) dX12_term_86 ⟨Nat.le_of_ble_eq_true rfl, Nat.le_of_ble_eq_true rfl⟩ (fun v_252 u_253 H locs hv_254 hP₀ hD₀ hS₀ => ?_)
                obtain ⟨sv_255, sv_256, sv_257, sv_258, sv_259, sv_260⟩ := u_253
                obtain ⟨r_264, rfl, he_265, pf_261, pf_262, pf_263, hm_267, hm_268⟩ := hv_254
                have he_265 : ((r_264.toInt = 0 ∧ ¬ (sv_256 : Int32).toInt = 0) ∨ (r_264.toInt = 1 ∧ (vy_33 (Mv 5).toNatClampNeg).toInt + 1 ≤ (sv_260 (Mv 5).toNatClampNeg).toInt ∧ (sv_260 (Mv 5).toNatClampNeg).toInt + (x_247 : Int32).toInt ≤ (vy_33 (Mv 5).toNatClampNeg).toInt + (sv_255 : Int32).toInt ∧ (x_247 : Int32).toInt + 1 ≤ (sv_255 : Int32).toInt)) := he_265
                have pf_261 : (x_247 : Int32).toInt ≤ (sv_255 : Int32).toInt ∧ (sv_255 : Int32).toInt ≤ ((Mv 0) : Int32).toInt := pf_261
                have pf_262 : (vy_31 : Int32).toInt ≤ (sv_258 : Int32).toInt ∧ (sv_258 : Int32).toInt ≤ 60 := pf_262
                have pf_263 : Agr vy_32 sv_259 (400 * ((Mv 5) : Int32).toInt + (vy_33 (Mv 5).toNatClampNeg).toInt) := pf_263
                refine W.eq (g2 := F0 m 89 ls [.int r_264]) rfl ?_
                replace hP : va_P D classes [((Ma 0), .inr (12, [.ref (Ma 1), .int (Mv 0), .int (Mv 1), .ref (Ma 2), .ref (Ma 3), .ref (Ma 4), .ref (Ma 5), .ref (Ma 6), .int sv_255, .int sv_256, .int sv_257, .int (Mv 5), .int sv_258, .int (Mv 7), .int (Mv 8), .ref (Ma 7), .int (Mv 9), .ref (Ma 8), .int (Mv 10), .ref (Ma 9), .ref (Ma 10), .int (Mv 11), .int (Mv 12), .int (Mv 13), .ref (Ma 11), .int (Mv 14), .ref (Ma 12), .ref (Ma 13), .ref (Ma 14), .ref (Ma 15), .ref (Ma 16), .long (Mj 0), .ref (Ma 17), .ref (Ma 18), .ref (Ma 19), .ref (Ma 20)])), ((Ma 1), .inl (tc 2, 400, .inl (Mf 1))), ((Ma 2), .inl (tc 0, 2400, .inl sv_259)), ((Ma 3), .inl (tc 0, 7, .inl sv_260))] H := hP₀
                replace hD : va_D A [((Ma 0), .inr (12, [.ref (Ma 1), .int (Mv 0), .int (Mv 1), .ref (Ma 2), .ref (Ma 3), .ref (Ma 4), .ref (Ma 5), .ref (Ma 6), .int sv_255, .int sv_256, .int sv_257, .int (Mv 5), .int sv_258, .int (Mv 7), .int (Mv 8), .ref (Ma 7), .int (Mv 9), .ref (Ma 8), .int (Mv 10), .ref (Ma 9), .ref (Ma 10), .int (Mv 11), .int (Mv 12), .int (Mv 13), .ref (Ma 11), .int (Mv 14), .ref (Ma 12), .ref (Ma 13), .ref (Ma 14), .ref (Ma 15), .ref (Ma 16), .long (Mj 0), .ref (Ma 17), .ref (Ma 18), .ref (Ma 19), .ref (Ma 20)])), ((Ma 1), .inl (tc 2, 400, .inl (Mf 1))), ((Ma 2), .inl (tc 0, 2400, .inl sv_259)), ((Ma 3), .inl (tc 0, 7, .inl sv_260))] := hD₀
                replace hS := hS₀
                clear hP₀ hD₀ hS₀
                refine lv_if_ne (tgt := 94) hx hb dX12_term_89 (by decide) (fun c_269 => ?_) (fun c_269 => ?_)
                · skip
                  have hz_272 : (r_264 : Int32).toInt = 1 := by
                    have z_1 : ¬ (r_13 : Int32).toInt = (0 : Int32).toInt := fun z => c_18 (Int32.toInt_inj.mp z)
                    have z_2 : ¬ (r_52 : Int32).toInt = (42 : Int32).toInt := fun z => c_55 (Int32.toInt_inj.mp z)
                    have z_3 := congrArg Int32.toInt c_240
                    have z_4 : ¬ (x_242 : Int32).toInt = (42 : Int32).toInt := fun z => c_243 (Int32.toInt_inj.mp z)
                    have z_5 : ¬ (x_245 : Int32).toInt = (47 : Int32).toInt := fun z => c_246 (Int32.toInt_inj.mp z)
                    have z_6 : ¬ (r_264 : Int32).toInt = (0 : Int32).toInt := fun z => c_269 (Int32.toInt_inj.mp z)
                    have y_0 : (0 : Int32).toInt = 0 := by decide
                    have y_42 : (42 : Int32).toInt = 42 := by decide
                    have y_47 : (47 : Int32).toInt = 47 := by decide
                    omega
                  obtain ⟨pf_270, pf_271⟩ := hm_267 hz_272
                  have pf_270 : Cd sv_259 sv_260 (Mv 5) b sv_258 ((d + 1) + 1) := pf_270
                  have ar_pf_270 := Cd.ar pf_270
                  have pf_271 : RfO (pz_val (rB (Mf 1) (Mv 0)) (St0 (rB (Mf 1) (Mv 0)) x_247 vy_31)) (rB (Mf 1) (Mv 0)) sv_256 sv_255 sv_258 := pf_271
                  have ar_pf_271 := RfO.wr pf_271
                  refine lv_aload_n hx hb dX12_term_94 rfl (lv_at hl 1 rfl) ?_
                  refine lv_iload_n hx hb dX12_term_95 rfl (lv_at hl 0 rfl) ?_
                  refine lv_iconst (v := 0) hx hb dX12_term_96 (by decide) ?_
                  have ha_273 : ((d + 1) : Int) ≤ sv_258.toInt := by
                    have z_1 : ¬ (r_13 : Int32).toInt = (0 : Int32).toInt := fun z => c_18 (Int32.toInt_inj.mp z)
                    have z_2 : ¬ (r_52 : Int32).toInt = (42 : Int32).toInt := fun z => c_55 (Int32.toInt_inj.mp z)
                    have z_3 := congrArg Int32.toInt c_240
                    have z_4 : ¬ (x_242 : Int32).toInt = (42 : Int32).toInt := fun z => c_243 (Int32.toInt_inj.mp z)
                    have z_5 : ¬ (x_245 : Int32).toInt = (47 : Int32).toInt := fun z => c_246 (Int32.toInt_inj.mp z)
                    have z_6 : ¬ (r_264 : Int32).toInt = (0 : Int32).toInt := fun z => c_269 (Int32.toInt_inj.mp z)
                    have y_0 : (0 : Int32).toInt = 0 := by decide
                    have y_42 : (42 : Int32).toInt = 42 := by decide
                    have y_47 : (47 : Int32).toInt = 47 := by decide
                    omega
                  have ha_274 : (sv_260 (Mv 5).toNatClampNeg).toInt < 400 := by
                    have z_1 : ¬ (r_13 : Int32).toInt = (0 : Int32).toInt := fun z => c_18 (Int32.toInt_inj.mp z)
                    have z_2 : ¬ (r_52 : Int32).toInt = (42 : Int32).toInt := fun z => c_55 (Int32.toInt_inj.mp z)
                    have z_3 := congrArg Int32.toInt c_240
                    have z_4 : ¬ (x_242 : Int32).toInt = (42 : Int32).toInt := fun z => c_243 (Int32.toInt_inj.mp z)
                    have z_5 : ¬ (x_245 : Int32).toInt = (47 : Int32).toInt := fun z => c_246 (Int32.toInt_inj.mp z)
                    have z_6 : ¬ (r_264 : Int32).toInt = (0 : Int32).toInt := fun z => c_269 (Int32.toInt_inj.mp z)
                    have y_0 : (0 : Int32).toInt = 0 := by decide
                    have y_42 : (42 : Int32).toInt = 42 := by decide
                    have y_47 : (47 : Int32).toInt = 47 := by decide
                    omega
                  refine cV (a := (Ma 0)) (As := [.int 14, .int 0]) (rest := []) (wr := [((Ma 1), .inl (tc 2, 400, .inl (Mf 1)))]) ⟨hx, hb, hml, hown, hts⟩ hK hX hA (cu_X12_puts l D tc sk (Ma 0) (Ma 1) (Ma 2) (Ma 3) (Ma 4) (Ma 5) (Ma 6) (Ma 7) (Ma 8) (Ma 9) (Ma 10) (Ma 11) (Ma 12) (Ma 13) (Ma 14) (Ma 15) (Ma 16) (Ma 17) (Ma 18) (Ma 19) (Ma 20) (Mv 0) (Mv 1) sv_255 sv_256 sv_257 (Mv 5) sv_258 (Mv 7) (Mv 8) (Mv 9) (Mv 10) (Mv 11) (Mv 12) (Mv 13) (Mv 14) sv_259 sv_260 (Mj 0) 14 0 b sv_258 ((d + 1) + 1) (d + 1) pf_270 (StpR.op (by decide) rfl (by omega)) ha_273 ha_274) k_1296 k_1293 k_1295 k_46 k_106 pl_X12_puts ⟨Nat.le_of_ble_eq_true rfl, Nat.le_of_ble_eq_true rfl⟩ rfl rfl (va_recv hK hP (ci := 12) (q0 := 0) rfl rfl) hP hD hS [0, 2, 3] [1] rfl rfl rfl rfl rfl (by decide) rfl hl.1 rfl (Nat.le_of_ble_eq_true rfl) dX12_term_97 ⟨Nat.le_of_ble_eq_true rfl, Nat.le_of_ble_eq_true rfl⟩ (fun v_275 u_276 H locs hv_277 hP₀ hD₀ hS₀ => ?_)
                  obtain ⟨sv_278, sv_279⟩ := u_276
                  obtain ⟨rfl, pf_280, pf_281, pf_282⟩ := hv_277
                  have pf_280 : Cd sv_278 sv_279 (Mv 5) b sv_258 (d + 1) := pf_280
                  have ar_pf_280 := Cd.ar pf_280
                  have pf_281 : Agr sv_259 sv_278 (400 * ((Mv 5) : Int32).toInt + (sv_260 (Mv 5).toNatClampNeg).toInt) := pf_281
                  have pf_282 : (sv_279 (Mv 5).toNatClampNeg).toInt = (sv_260 (Mv 5).toNatClampNeg).toInt + 1 := pf_282
                  refine W.eq (g2 := F0 m 100 ls []) rfl ?_
                  replace hP : va_P D classes [((Ma 1), .inl (tc 2, 400, .inl (Mf 1))), ((Ma 0), .inr (12, [.ref (Ma 1), .int (Mv 0), .int (Mv 1), .ref (Ma 2), .ref (Ma 3), .ref (Ma 4), .ref (Ma 5), .ref (Ma 6), .int sv_255, .int sv_256, .int sv_257, .int (Mv 5), .int sv_258, .int (Mv 7), .int (Mv 8), .ref (Ma 7), .int (Mv 9), .ref (Ma 8), .int (Mv 10), .ref (Ma 9), .ref (Ma 10), .int (Mv 11), .int (Mv 12), .int (Mv 13), .ref (Ma 11), .int (Mv 14), .ref (Ma 12), .ref (Ma 13), .ref (Ma 14), .ref (Ma 15), .ref (Ma 16), .long (Mj 0), .ref (Ma 17), .ref (Ma 18), .ref (Ma 19), .ref (Ma 20)])), ((Ma 2), .inl (tc 0, 2400, .inl sv_278)), ((Ma 3), .inl (tc 0, 7, .inl sv_279))] H := hP₀
                  replace hD : va_D A [((Ma 1), .inl (tc 2, 400, .inl (Mf 1))), ((Ma 0), .inr (12, [.ref (Ma 1), .int (Mv 0), .int (Mv 1), .ref (Ma 2), .ref (Ma 3), .ref (Ma 4), .ref (Ma 5), .ref (Ma 6), .int sv_255, .int sv_256, .int sv_257, .int (Mv 5), .int sv_258, .int (Mv 7), .int (Mv 8), .ref (Ma 7), .int (Mv 9), .ref (Ma 8), .int (Mv 10), .ref (Ma 9), .ref (Ma 10), .int (Mv 11), .int (Mv 12), .int (Mv 13), .ref (Ma 11), .int (Mv 14), .ref (Ma 12), .ref (Ma 13), .ref (Ma 14), .ref (Ma 15), .ref (Ma 16), .long (Mj 0), .ref (Ma 17), .ref (Ma 18), .ref (Ma 19), .ref (Ma 20)])), ((Ma 2), .inl (tc 0, 2400, .inl sv_278)), ((Ma 3), .inl (tc 0, 7, .inl sv_279))] := hD₀
                  replace hS := hS₀
                  clear hP₀ hD₀ hS₀
                  refine lv_goto (tgt := 9) hx hb dX12_term_100 (by decide) ?_
                  have hb_283 : 400 - (sv_255 : Int32).toInt < 400 - (vy_28 : Int32).toInt ∧ 1 ≤ 400 - (vy_28 : Int32).toInt := by
                    have z_1 : ¬ (r_13 : Int32).toInt = (0 : Int32).toInt := fun z => c_18 (Int32.toInt_inj.mp z)
                    have z_2 : ¬ (r_52 : Int32).toInt = (42 : Int32).toInt := fun z => c_55 (Int32.toInt_inj.mp z)
                    have z_3 := congrArg Int32.toInt c_240
                    have z_4 : ¬ (x_242 : Int32).toInt = (42 : Int32).toInt := fun z => c_243 (Int32.toInt_inj.mp z)
                    have z_5 : ¬ (x_245 : Int32).toInt = (47 : Int32).toInt := fun z => c_246 (Int32.toInt_inj.mp z)
                    have z_6 : ¬ (r_264 : Int32).toInt = (0 : Int32).toInt := fun z => c_269 (Int32.toInt_inj.mp z)
                    have y_0 : (0 : Int32).toInt = 0 := by decide
                    have y_42 : (42 : Int32).toInt = 42 := by decide
                    have y_47 : (47 : Int32).toInt = 47 := by decide
                    omega
                  have ha_284 : 0 ≤ (sv_255 : Int32).toInt ∧ (sv_255 : Int32).toInt ≤ ((Mv 0) : Int32).toInt ∧ ((Mv 0) : Int32).toInt ≤ 400 := by
                    have z_1 : ¬ (r_13 : Int32).toInt = (0 : Int32).toInt := fun z => c_18 (Int32.toInt_inj.mp z)
                    have z_2 : ¬ (r_52 : Int32).toInt = (42 : Int32).toInt := fun z => c_55 (Int32.toInt_inj.mp z)
                    have z_3 := congrArg Int32.toInt c_240
                    have z_4 : ¬ (x_242 : Int32).toInt = (42 : Int32).toInt := fun z => c_243 (Int32.toInt_inj.mp z)
                    have z_5 : ¬ (x_245 : Int32).toInt = (47 : Int32).toInt := fun z => c_246 (Int32.toInt_inj.mp z)
                    have z_6 : ¬ (r_264 : Int32).toInt = (0 : Int32).toInt := fun z => c_269 (Int32.toInt_inj.mp z)
                    have y_0 : (0 : Int32).toInt = 0 := by decide
                    have y_42 : (42 : Int32).toInt = 42 := by decide
                    have y_47 : (47 : Int32).toInt = 47 := by decide
                    omega
                  have ha_285 : (Mv 6).toInt ≤ (sv_258 : Int32).toInt ∧ (sv_258 : Int32).toInt ≤ 60 := by
                    have z_1 : ¬ (r_13 : Int32).toInt = (0 : Int32).toInt := fun z => c_18 (Int32.toInt_inj.mp z)
                    have z_2 : ¬ (r_52 : Int32).toInt = (42 : Int32).toInt := fun z => c_55 (Int32.toInt_inj.mp z)
                    have z_3 := congrArg Int32.toInt c_240
                    have z_4 : ¬ (x_242 : Int32).toInt = (42 : Int32).toInt := fun z => c_243 (Int32.toInt_inj.mp z)
                    have z_5 : ¬ (x_245 : Int32).toInt = (47 : Int32).toInt := fun z => c_246 (Int32.toInt_inj.mp z)
                    have z_6 : ¬ (r_264 : Int32).toInt = (0 : Int32).toInt := fun z => c_269 (Int32.toInt_inj.mp z)
                    have y_0 : (0 : Int32).toInt = 0 := by decide
                    have y_42 : (42 : Int32).toInt = 42 := by decide
                    have y_47 : (47 : Int32).toInt = 47 := by decide
                    omega
                  have ha_286 : ((Mf 3) (Mv 5).toNatClampNeg).toInt + 1 ≤ (sv_279 (Mv 5).toNatClampNeg).toInt ∧ (sv_279 (Mv 5).toNatClampNeg).toInt + ((Mv 2) : Int32).toInt ≤ ((Mf 3) (Mv 5).toNatClampNeg).toInt + (sv_255 : Int32).toInt ∧ ((Mv 2) : Int32).toInt + 1 ≤ (sv_255 : Int32).toInt := by
                    have z_1 : ¬ (r_13 : Int32).toInt = (0 : Int32).toInt := fun z => c_18 (Int32.toInt_inj.mp z)
                    have z_2 : ¬ (r_52 : Int32).toInt = (42 : Int32).toInt := fun z => c_55 (Int32.toInt_inj.mp z)
                    have z_3 := congrArg Int32.toInt c_240
                    have z_4 : ¬ (x_242 : Int32).toInt = (42 : Int32).toInt := fun z => c_243 (Int32.toInt_inj.mp z)
                    have z_5 : ¬ (x_245 : Int32).toInt = (47 : Int32).toInt := fun z => c_246 (Int32.toInt_inj.mp z)
                    have z_6 : ¬ (r_264 : Int32).toInt = (0 : Int32).toInt := fun z => c_269 (Int32.toInt_inj.mp z)
                    have y_0 : (0 : Int32).toInt = 0 := by decide
                    have y_42 : (42 : Int32).toInt = 42 := by decide
                    have y_47 : (47 : Int32).toInt = 47 := by decide
                    omega
                  have hr_287 : (400 * ((Mv 5) : Int32).toInt + ((Mf 3) (Mv 5).toNatClampNeg).toInt) ≤ (400 * ((Mv 5) : Int32).toInt + ((Mf 3) (Mv 5).toNatClampNeg).toInt) := by
                    have z_1 : ¬ (r_13 : Int32).toInt = (0 : Int32).toInt := fun z => c_18 (Int32.toInt_inj.mp z)
                    have z_2 : ¬ (r_52 : Int32).toInt = (42 : Int32).toInt := fun z => c_55 (Int32.toInt_inj.mp z)
                    have z_3 := congrArg Int32.toInt c_240
                    have z_4 : ¬ (x_242 : Int32).toInt = (42 : Int32).toInt := fun z => c_243 (Int32.toInt_inj.mp z)
                    have z_5 : ¬ (x_245 : Int32).toInt = (47 : Int32).toInt := fun z => c_246 (Int32.toInt_inj.mp z)
                    have z_6 : ¬ (r_264 : Int32).toInt = (0 : Int32).toInt := fun z => c_269 (Int32.toInt_inj.mp z)
                    have y_0 : (0 : Int32).toInt = 0 := by decide
                    have y_42 : (42 : Int32).toInt = 42 := by decide
                    have y_47 : (47 : Int32).toInt = 47 := by decide
                    omega
                  have hr_288 : (400 * ((Mv 5) : Int32).toInt + ((Mf 3) (Mv 5).toNatClampNeg).toInt) ≤ (400 * ((Mv 5) : Int32).toInt + (vy_33 (Mv 5).toNatClampNeg).toInt) := by
                    have z_1 : ¬ (r_13 : Int32).toInt = (0 : Int32).toInt := fun z => c_18 (Int32.toInt_inj.mp z)
                    have z_2 : ¬ (r_52 : Int32).toInt = (42 : Int32).toInt := fun z => c_55 (Int32.toInt_inj.mp z)
                    have z_3 := congrArg Int32.toInt c_240
                    have z_4 : ¬ (x_242 : Int32).toInt = (42 : Int32).toInt := fun z => c_243 (Int32.toInt_inj.mp z)
                    have z_5 : ¬ (x_245 : Int32).toInt = (47 : Int32).toInt := fun z => c_246 (Int32.toInt_inj.mp z)
                    have z_6 : ¬ (r_264 : Int32).toInt = (0 : Int32).toInt := fun z => c_269 (Int32.toInt_inj.mp z)
                    have y_0 : (0 : Int32).toInt = 0 := by decide
                    have y_42 : (42 : Int32).toInt = 42 := by decide
                    have y_47 : (47 : Int32).toInt = 47 := by decide
                    omega
                  have hr_289 : (400 * ((Mv 5) : Int32).toInt + ((Mf 3) (Mv 5).toNatClampNeg).toInt) ≤ (400 * ((Mv 5) : Int32).toInt + (sv_260 (Mv 5).toNatClampNeg).toInt) := by
                    have z_1 : ¬ (r_13 : Int32).toInt = (0 : Int32).toInt := fun z => c_18 (Int32.toInt_inj.mp z)
                    have z_2 : ¬ (r_52 : Int32).toInt = (42 : Int32).toInt := fun z => c_55 (Int32.toInt_inj.mp z)
                    have z_3 := congrArg Int32.toInt c_240
                    have z_4 : ¬ (x_242 : Int32).toInt = (42 : Int32).toInt := fun z => c_243 (Int32.toInt_inj.mp z)
                    have z_5 : ¬ (x_245 : Int32).toInt = (47 : Int32).toInt := fun z => c_246 (Int32.toInt_inj.mp z)
                    have z_6 : ¬ (r_264 : Int32).toInt = (0 : Int32).toInt := fun z => c_269 (Int32.toInt_inj.mp z)
                    have y_0 : (0 : Int32).toInt = 0 := by decide
                    have y_42 : (42 : Int32).toInt = 42 := by decide
                    have y_47 : (47 : Int32).toInt = 47 := by decide
                    omega
                  have hr_290 : (rB (Mf 1) (Mv 0) (sv_231 : Int32).toInt.toNat = 43 ∨ rB (Mf 1) (Mv 0) (sv_231 : Int32).toInt.toNat = 45 ∨ rB (Mf 1) (Mv 0) (sv_231 : Int32).toInt.toNat = 42 ∨ rB (Mf 1) (Mv 0) (sv_231 : Int32).toInt.toNat = 47 ∨ rB (Mf 1) (Mv 0) (sv_231 : Int32).toInt.toNat = 37) := by
                    have z_1 : ¬ (r_13 : Int32).toInt = (0 : Int32).toInt := fun z => c_18 (Int32.toInt_inj.mp z)
                    have z_2 : ¬ (r_52 : Int32).toInt = (42 : Int32).toInt := fun z => c_55 (Int32.toInt_inj.mp z)
                    have z_3 := congrArg Int32.toInt c_240
                    have z_4 : ¬ (x_242 : Int32).toInt = (42 : Int32).toInt := fun z => c_243 (Int32.toInt_inj.mp z)
                    have z_5 : ¬ (x_245 : Int32).toInt = (47 : Int32).toInt := fun z => c_246 (Int32.toInt_inj.mp z)
                    have z_6 : ¬ (r_264 : Int32).toInt = (0 : Int32).toInt := fun z => c_269 (Int32.toInt_inj.mp z)
                    have y_0 : (0 : Int32).toInt = 0 := by decide
                    have y_42 : (42 : Int32).toInt = 42 := by decide
                    have y_47 : (47 : Int32).toInt = 47 := by decide
                    omega
                  have hi_291 : (x_247 : Int32).toInt = (sv_231 : Int32).toInt + 1 := by
                    have z_1 : ¬ (r_13 : Int32).toInt = (0 : Int32).toInt := fun z => c_18 (Int32.toInt_inj.mp z)
                    have z_2 : ¬ (r_52 : Int32).toInt = (42 : Int32).toInt := fun z => c_55 (Int32.toInt_inj.mp z)
                    have z_3 := congrArg Int32.toInt c_240
                    have z_4 : ¬ (x_242 : Int32).toInt = (42 : Int32).toInt := fun z => c_243 (Int32.toInt_inj.mp z)
                    have z_5 : ¬ (x_245 : Int32).toInt = (47 : Int32).toInt := fun z => c_246 (Int32.toInt_inj.mp z)
                    have z_6 : ¬ (r_264 : Int32).toInt = (0 : Int32).toInt := fun z => c_269 (Int32.toInt_inj.mp z)
                    have y_0 : (0 : Int32).toInt = 0 := by decide
                    have y_42 : (42 : Int32).toInt = 42 := by decide
                    have y_47 : (47 : Int32).toInt = 47 := by decide
                    have y_1 : (1 : Int32).toInt = 1 := by decide
                    have t_x_247 : x_247.toInt = (sv_231 : Int32).toInt + (1 : Int32).toInt := by rw [ex_247]; exact add_toInt (by omega) (by omega)
                    omega
                  exact ih_35 sv_255 sv_256 sv_257 sv_258 sv_278 sv_279 _ _ _ (by omega) ha_284 ha_285 ha_286 (Agr.trans (k' := (400 * ((Mv 5) : Int32).toInt + ((Mf 3) (Mv 5).toNatClampNeg).toInt)) (Agr.trans (k' := (400 * ((Mv 5) : Int32).toInt + ((Mf 3) (Mv 5).toNatClampNeg).toInt)) (Agr.mono pf_40 hr_287) pf_263 ⟨Int.le_refl _, hr_288⟩) pf_281 ⟨Int.le_refl _, hr_289⟩) pf_280 (TmL.next (rB_fi h_nx.2.2) pf_42 (SkR.trans pf_51 pf_235) hr_290 hi_291 pf_271) (hP.sub [1, 0, 2, 3] rfl) (hD.sub [1, 0, 2, 3] rfl rfl) hS (lv_sub hl [1] rfl)
                · skip
                  have hz_293 : (r_264 : Int32).toInt = 0 := by
                    have z_1 : ¬ (r_13 : Int32).toInt = (0 : Int32).toInt := fun z => c_18 (Int32.toInt_inj.mp z)
                    have z_2 : ¬ (r_52 : Int32).toInt = (42 : Int32).toInt := fun z => c_55 (Int32.toInt_inj.mp z)
                    have z_3 := congrArg Int32.toInt c_240
                    have z_4 : ¬ (x_242 : Int32).toInt = (42 : Int32).toInt := fun z => c_243 (Int32.toInt_inj.mp z)
                    have z_5 : ¬ (x_245 : Int32).toInt = (47 : Int32).toInt := fun z => c_246 (Int32.toInt_inj.mp z)
                    have z_6 := congrArg Int32.toInt c_269
                    have y_0 : (0 : Int32).toInt = 0 := by decide
                    have y_42 : (42 : Int32).toInt = 42 := by decide
                    have y_47 : (47 : Int32).toInt = 47 := by decide
                    omega
                  obtain pf_292 := hm_268 hz_293
                  have pf_292 : RfE (pz_val (rB (Mf 1) (Mv 0)) (St0 (rB (Mf 1) (Mv 0)) x_247 vy_31)) sv_256 := pf_292
                  refine lv_iconst (v := 0) hx hb dX12_term_92 (by decide) ?_
                  have ha_294 : ((Mv 2) : Int32).toInt ≤ (sv_255 : Int32).toInt ∧ (sv_255 : Int32).toInt ≤ ((Mv 0) : Int32).toInt := by
                    have z_1 : ¬ (r_13 : Int32).toInt = (0 : Int32).toInt := fun z => c_18 (Int32.toInt_inj.mp z)
                    have z_2 : ¬ (r_52 : Int32).toInt = (42 : Int32).toInt := fun z => c_55 (Int32.toInt_inj.mp z)
                    have z_3 := congrArg Int32.toInt c_240
                    have z_4 : ¬ (x_242 : Int32).toInt = (42 : Int32).toInt := fun z => c_243 (Int32.toInt_inj.mp z)
                    have z_5 : ¬ (x_245 : Int32).toInt = (47 : Int32).toInt := fun z => c_246 (Int32.toInt_inj.mp z)
                    have z_6 := congrArg Int32.toInt c_269
                    have y_0 : (0 : Int32).toInt = 0 := by decide
                    have y_42 : (42 : Int32).toInt = 42 := by decide
                    have y_47 : (47 : Int32).toInt = 47 := by decide
                    omega
                  have ha_295 : ((Mv 6) : Int32).toInt ≤ (sv_258 : Int32).toInt ∧ (sv_258 : Int32).toInt ≤ 60 := by
                    have z_1 : ¬ (r_13 : Int32).toInt = (0 : Int32).toInt := fun z => c_18 (Int32.toInt_inj.mp z)
                    have z_2 : ¬ (r_52 : Int32).toInt = (42 : Int32).toInt := fun z => c_55 (Int32.toInt_inj.mp z)
                    have z_3 := congrArg Int32.toInt c_240
                    have z_4 : ¬ (x_242 : Int32).toInt = (42 : Int32).toInt := fun z => c_243 (Int32.toInt_inj.mp z)
                    have z_5 : ¬ (x_245 : Int32).toInt = (47 : Int32).toInt := fun z => c_246 (Int32.toInt_inj.mp z)
                    have z_6 := congrArg Int32.toInt c_269
                    have y_0 : (0 : Int32).toInt = 0 := by decide
                    have y_42 : (42 : Int32).toInt = 42 := by decide
                    have y_47 : (47 : Int32).toInt = 47 := by decide
                    omega
                  have hr_296 : (400 * ((Mv 5) : Int32).toInt + ((Mf 3) (Mv 5).toNatClampNeg).toInt) ≤ (400 * ((Mv 5) : Int32).toInt + ((Mf 3) (Mv 5).toNatClampNeg).toInt) := by
                    have z_1 : ¬ (r_13 : Int32).toInt = (0 : Int32).toInt := fun z => c_18 (Int32.toInt_inj.mp z)
                    have z_2 : ¬ (r_52 : Int32).toInt = (42 : Int32).toInt := fun z => c_55 (Int32.toInt_inj.mp z)
                    have z_3 := congrArg Int32.toInt c_240
                    have z_4 : ¬ (x_242 : Int32).toInt = (42 : Int32).toInt := fun z => c_243 (Int32.toInt_inj.mp z)
                    have z_5 : ¬ (x_245 : Int32).toInt = (47 : Int32).toInt := fun z => c_246 (Int32.toInt_inj.mp z)
                    have z_6 := congrArg Int32.toInt c_269
                    have y_0 : (0 : Int32).toInt = 0 := by decide
                    have y_42 : (42 : Int32).toInt = 42 := by decide
                    have y_47 : (47 : Int32).toInt = 47 := by decide
                    omega
                  have hr_297 : (400 * ((Mv 5) : Int32).toInt + ((Mf 3) (Mv 5).toNatClampNeg).toInt) ≤ (400 * ((Mv 5) : Int32).toInt + (vy_33 (Mv 5).toNatClampNeg).toInt) := by
                    have z_1 : ¬ (r_13 : Int32).toInt = (0 : Int32).toInt := fun z => c_18 (Int32.toInt_inj.mp z)
                    have z_2 : ¬ (r_52 : Int32).toInt = (42 : Int32).toInt := fun z => c_55 (Int32.toInt_inj.mp z)
                    have z_3 := congrArg Int32.toInt c_240
                    have z_4 : ¬ (x_242 : Int32).toInt = (42 : Int32).toInt := fun z => c_243 (Int32.toInt_inj.mp z)
                    have z_5 : ¬ (x_245 : Int32).toInt = (47 : Int32).toInt := fun z => c_246 (Int32.toInt_inj.mp z)
                    have z_6 := congrArg Int32.toInt c_269
                    have y_0 : (0 : Int32).toInt = 0 := by decide
                    have y_42 : (42 : Int32).toInt = 42 := by decide
                    have y_47 : (47 : Int32).toInt = 47 := by decide
                    omega
                  have hp_298 : (((0 : Int32).toInt = 0 ∧ ¬ (sv_256 : Int32).toInt = 0) ∨ ((0 : Int32).toInt = 1 ∧ ((Mf 3) (Mv 5).toNatClampNeg).toInt + 1 ≤ (sv_260 (Mv 5).toNatClampNeg).toInt ∧ (sv_260 (Mv 5).toNatClampNeg).toInt + ((Mv 2) : Int32).toInt ≤ ((Mf 3) (Mv 5).toNatClampNeg).toInt + (sv_255 : Int32).toInt ∧ ((Mv 2) : Int32).toInt + 1 ≤ (sv_255 : Int32).toInt)) := by
                    have z_1 : ¬ (r_13 : Int32).toInt = (0 : Int32).toInt := fun z => c_18 (Int32.toInt_inj.mp z)
                    have z_2 : ¬ (r_52 : Int32).toInt = (42 : Int32).toInt := fun z => c_55 (Int32.toInt_inj.mp z)
                    have z_3 := congrArg Int32.toInt c_240
                    have z_4 : ¬ (x_242 : Int32).toInt = (42 : Int32).toInt := fun z => c_243 (Int32.toInt_inj.mp z)
                    have z_5 : ¬ (x_245 : Int32).toInt = (47 : Int32).toInt := fun z => c_246 (Int32.toInt_inj.mp z)
                    have z_6 := congrArg Int32.toInt c_269
                    have y_0 : (0 : Int32).toInt = 0 := by decide
                    have y_42 : (42 : Int32).toInt = 42 := by decide
                    have y_47 : (47 : Int32).toInt = 47 := by decide
                    omega
                  have hm_299 : (0 : Int32).toInt = 0 → (RfE (pz_sum (rB (Mf 1) (Mv 0)) (St0 (rB (Mf 1) (Mv 0)) (Mv 2) (Mv 6))) sv_256) := by
                    intro h1r
                    have hr_300 : (rB (Mf 1) (Mv 0) (sv_231 : Int32).toInt.toNat = 43 ∨ rB (Mf 1) (Mv 0) (sv_231 : Int32).toInt.toNat = 45 ∨ rB (Mf 1) (Mv 0) (sv_231 : Int32).toInt.toNat = 42 ∨ rB (Mf 1) (Mv 0) (sv_231 : Int32).toInt.toNat = 47 ∨ rB (Mf 1) (Mv 0) (sv_231 : Int32).toInt.toNat = 37) := by
                      have z_1 : ¬ (r_13 : Int32).toInt = (0 : Int32).toInt := fun z => c_18 (Int32.toInt_inj.mp z)
                      have z_2 : ¬ (r_52 : Int32).toInt = (42 : Int32).toInt := fun z => c_55 (Int32.toInt_inj.mp z)
                      have z_3 := congrArg Int32.toInt c_240
                      have z_4 : ¬ (x_242 : Int32).toInt = (42 : Int32).toInt := fun z => c_243 (Int32.toInt_inj.mp z)
                      have z_5 : ¬ (x_245 : Int32).toInt = (47 : Int32).toInt := fun z => c_246 (Int32.toInt_inj.mp z)
                      have z_6 := congrArg Int32.toInt c_269
                      have y_0 : (0 : Int32).toInt = 0 := by decide
                      have y_42 : (42 : Int32).toInt = 42 := by decide
                      have y_47 : (47 : Int32).toInt = 47 := by decide
                      omega
                    have hi_301 : (x_247 : Int32).toInt = (sv_231 : Int32).toInt + 1 := by
                      have z_1 : ¬ (r_13 : Int32).toInt = (0 : Int32).toInt := fun z => c_18 (Int32.toInt_inj.mp z)
                      have z_2 : ¬ (r_52 : Int32).toInt = (42 : Int32).toInt := fun z => c_55 (Int32.toInt_inj.mp z)
                      have z_3 := congrArg Int32.toInt c_240
                      have z_4 : ¬ (x_242 : Int32).toInt = (42 : Int32).toInt := fun z => c_243 (Int32.toInt_inj.mp z)
                      have z_5 : ¬ (x_245 : Int32).toInt = (47 : Int32).toInt := fun z => c_246 (Int32.toInt_inj.mp z)
                      have z_6 := congrArg Int32.toInt c_269
                      have y_0 : (0 : Int32).toInt = 0 := by decide
                      have y_42 : (42 : Int32).toInt = 42 := by decide
                      have y_47 : (47 : Int32).toInt = 47 := by decide
                      have y_1 : (1 : Int32).toInt = 1 := by decide
                      have t_x_247 : x_247.toInt = (sv_231 : Int32).toInt + (1 : Int32).toInt := by rw [ex_247]; exact add_toInt (by omega) (by omega)
                      omega
                    exact (TmL.er (rB_fi h_nx.2.2) pf_42 (SkR.trans pf_51 pf_235) hr_300 hi_301 pf_292)
                  exact retI (v := 0) hx hb hr hlk (rfl) hP hD hS (sv_255, sv_256, sv_257, sv_258, sv_259, sv_260) ⟨_, rfl, hp_298, ha_294, ha_295, (Agr.trans (k' := (400 * ((Mv 5) : Int32).toInt + ((Mf 3) (Mv 5).toNatClampNeg).toInt)) (Agr.mono pf_40 hr_296) pf_263 ⟨Int.le_refl _, hr_297⟩), (fun h => absurd h (by decide)), hm_299⟩ [0, 1, 2, 3] rfl rfl dX12_term_93 (Nat.le_of_ble_eq_true rfl) (Nat.le_of_ble_eq_true rfl) rfl
              · skip
                refine lv_iconst (v := 5) hx hb dX12_term_68 (by decide) ?_
                refine lv_goto (tgt := 74) hx hb dX12_term_69 (by decide) ?_
                refine lv_istore_n (lv' := [(1, .int 5), (0, .ref (Ma 0))]) hx hb dX12_term_74 rfl hl (by decide) rfl (fun ls hl₀ => ?_)
                replace hl := hl₀
                clear hl₀
                refine lv_aload_n hx hb dX12_term_75 rfl (lv_at hl 1 rfl) ?_
                refine lv_dup hx hb dX12_term_76 rfl ?_
                refine gf_X12_87 hx hb hts hown hK hP 2 rfl rfl dX12_term_77 ?_
                refine lv_iconst (v := 1) hx hb dX12_term_80 (by decide) ?_
                refine lv_iadd hx hb dX12_term_81 ?_
                refine lv_topi (fun x_302 ex_302 => ?_)
                refine pf_X12_87 hx hb hts hown hK hP hD hS 2 rfl (Nat.le_of_ble_eq_true rfl) rfl rfl dX12_term_82 (fun H locs hP₀ hD₀ hS₀ => ?_)
                replace hP : va_P D classes [((Ma 2), .inl (tc 0, 2400, .inl vy_32)), ((Ma 3), .inl (tc 0, 7, .inl vy_33)), ((Ma 0), .inr (12, [.ref (Ma 1), .int (Mv 0), .int (Mv 1), .ref (Ma 2), .ref (Ma 3), .ref (Ma 4), .ref (Ma 5), .ref (Ma 6), .int x_302, .int vy_29, .int vy_30, .int (Mv 5), .int vy_31, .int (Mv 7), .int (Mv 8), .ref (Ma 7), .int (Mv 9), .ref (Ma 8), .int (Mv 10), .ref (Ma 9), .ref (Ma 10), .int (Mv 11), .int (Mv 12), .int (Mv 13), .ref (Ma 11), .int (Mv 14), .ref (Ma 12), .ref (Ma 13), .ref (Ma 14), .ref (Ma 15), .ref (Ma 16), .long (Mj 0), .ref (Ma 17), .ref (Ma 18), .ref (Ma 19), .ref (Ma 20)])), ((Ma 1), .inl (tc 2, 400, .inl (Mf 1)))] H := hP₀
                replace hD : va_D A [((Ma 2), .inl (tc 0, 2400, .inl vy_32)), ((Ma 3), .inl (tc 0, 7, .inl vy_33)), ((Ma 0), .inr (12, [.ref (Ma 1), .int (Mv 0), .int (Mv 1), .ref (Ma 2), .ref (Ma 3), .ref (Ma 4), .ref (Ma 5), .ref (Ma 6), .int x_302, .int vy_29, .int vy_30, .int (Mv 5), .int vy_31, .int (Mv 7), .int (Mv 8), .ref (Ma 7), .int (Mv 9), .ref (Ma 8), .int (Mv 10), .ref (Ma 9), .ref (Ma 10), .int (Mv 11), .int (Mv 12), .int (Mv 13), .ref (Ma 11), .int (Mv 14), .ref (Ma 12), .ref (Ma 13), .ref (Ma 14), .ref (Ma 15), .ref (Ma 16), .long (Mj 0), .ref (Ma 17), .ref (Ma 18), .ref (Ma 19), .ref (Ma 20)])), ((Ma 1), .inl (tc 2, 400, .inl (Mf 1)))] := hD₀
                replace hS := hS₀
                clear hP₀ hD₀ hS₀
                have tp_x_302 : (x_302 : Int32).toInt = (sv_231 : Int32).toInt + 1 := by
                  have z_1 : ¬ (r_13 : Int32).toInt = (0 : Int32).toInt := fun z => c_18 (Int32.toInt_inj.mp z)
                  have z_2 : ¬ (r_52 : Int32).toInt = (42 : Int32).toInt := fun z => c_55 (Int32.toInt_inj.mp z)
                  have z_3 := congrArg Int32.toInt c_240
                  have z_4 : ¬ (x_242 : Int32).toInt = (42 : Int32).toInt := fun z => c_243 (Int32.toInt_inj.mp z)
                  have z_5 := congrArg Int32.toInt c_246
                  have y_0 : (0 : Int32).toInt = 0 := by decide
                  have y_42 : (42 : Int32).toInt = 42 := by decide
                  have y_47 : (47 : Int32).toInt = 47 := by decide
                  have y_1 : (1 : Int32).toInt = 1 := by decide
                  have t_x_302 : x_302.toInt = (sv_231 : Int32).toInt + (1 : Int32).toInt := by rw [ex_302]; exact add_toInt (by omega) (by omega)
                  omega
                refine lv_aload_n hx hb dX12_term_85 rfl (lv_at hl 1 rfl) ?_
                have ha_303 : 0 ≤ (x_302 : Int32).toInt ∧ (x_302 : Int32).toInt ≤ ((Mv 0) : Int32).toInt ∧ ((Mv 0) : Int32).toInt ≤ 400 := by
                  have z_1 : ¬ (r_13 : Int32).toInt = (0 : Int32).toInt := fun z => c_18 (Int32.toInt_inj.mp z)
                  have z_2 : ¬ (r_52 : Int32).toInt = (42 : Int32).toInt := fun z => c_55 (Int32.toInt_inj.mp z)
                  have z_3 := congrArg Int32.toInt c_240
                  have z_4 : ¬ (x_242 : Int32).toInt = (42 : Int32).toInt := fun z => c_243 (Int32.toInt_inj.mp z)
                  have z_5 := congrArg Int32.toInt c_246
                  have y_0 : (0 : Int32).toInt = 0 := by decide
                  have y_42 : (42 : Int32).toInt = 42 := by decide
                  have y_47 : (47 : Int32).toInt = 47 := by decide
                  have y_1 : (1 : Int32).toInt = 1 := by decide
                  have t_x_302 : x_302.toInt = (sv_231 : Int32).toInt + (1 : Int32).toInt := by rw [ex_302]; exact add_toInt (by omega) (by omega)
                  omega
                have ha_304 : (vy_33 (Mv 5).toNatClampNeg).toInt ≤ (x_302 : Int32).toInt := by
                  have z_1 : ¬ (r_13 : Int32).toInt = (0 : Int32).toInt := fun z => c_18 (Int32.toInt_inj.mp z)
                  have z_2 : ¬ (r_52 : Int32).toInt = (42 : Int32).toInt := fun z => c_55 (Int32.toInt_inj.mp z)
                  have z_3 := congrArg Int32.toInt c_240
                  have z_4 : ¬ (x_242 : Int32).toInt = (42 : Int32).toInt := fun z => c_243 (Int32.toInt_inj.mp z)
                  have z_5 := congrArg Int32.toInt c_246
                  have y_0 : (0 : Int32).toInt = 0 := by decide
                  have y_42 : (42 : Int32).toInt = 42 := by decide
                  have y_47 : (47 : Int32).toInt = 47 := by decide
                  have y_1 : (1 : Int32).toInt = 1 := by decide
                  have t_x_302 : x_302.toInt = (sv_231 : Int32).toInt + (1 : Int32).toInt := by rw [ex_302]; exact add_toInt (by omega) (by omega)
                  omega
                have ha_305 : 0 ≤ (vy_31 : Int32).toInt ∧ (vy_31 : Int32).toInt ≤ 60 := by
                  have z_1 : ¬ (r_13 : Int32).toInt = (0 : Int32).toInt := fun z => c_18 (Int32.toInt_inj.mp z)
                  have z_2 : ¬ (r_52 : Int32).toInt = (42 : Int32).toInt := fun z => c_55 (Int32.toInt_inj.mp z)
                  have z_3 := congrArg Int32.toInt c_240
                  have z_4 : ¬ (x_242 : Int32).toInt = (42 : Int32).toInt := fun z => c_243 (Int32.toInt_inj.mp z)
                  have z_5 := congrArg Int32.toInt c_246
                  have y_0 : (0 : Int32).toInt = 0 := by decide
                  have y_42 : (42 : Int32).toInt = 42 := by decide
                  have y_47 : (47 : Int32).toInt = 47 := by decide
                  omega
                have ha_306 : (vy_29 : Int32).toInt = 0 := by
                  have z_1 : ¬ (r_13 : Int32).toInt = (0 : Int32).toInt := fun z => c_18 (Int32.toInt_inj.mp z)
                  have z_2 : ¬ (r_52 : Int32).toInt = (42 : Int32).toInt := fun z => c_55 (Int32.toInt_inj.mp z)
                  have z_3 := congrArg Int32.toInt c_240
                  have z_4 : ¬ (x_242 : Int32).toInt = (42 : Int32).toInt := fun z => c_243 (Int32.toInt_inj.mp z)
                  have z_5 := congrArg Int32.toInt c_246
                  have y_0 : (0 : Int32).toInt = 0 := by decide
                  have y_42 : (42 : Int32).toInt = 42 := by decide
                  have y_47 : (47 : Int32).toInt = 47 := by decide
                  omega
                refine cV (a := (Ma 0)) (As := []) (rest := []) (wr := []) ⟨hx, hb, hml, hown, hts⟩ hK hX hA (cu_fX12_value l D tc sk (Ma 0) (Ma 1) (Ma 2) (Ma 3) (Ma 4) (Ma 5) (Ma 6) (Ma 7) (Ma 8) (Ma 9) (Ma 10) (Ma 11) (Ma 12) (Ma 13) (Ma 14) (Ma 15) (Ma 16) (Ma 17) (Ma 18) (Ma 19) (Ma 20) (Mv 0) (Mv 1) x_302 vy_29 vy_30 (Mv 5) vy_31 (Mv 7) (Mv 8) (Mv 9) (Mv 10) (Mv 11) (Mv 12) (Mv 13) (Mv 14) (Mf 1) vy_32 vy_33 (Mj 0) b (d + 1) ha_303 pf_41 ha_304 ha_305 h_bs ha_306) k_1287 k_1284 k_1286 k_44 k_106 pl_X12_value ⟨Nat.le_of_ble_eq_true rfl, Nat.le_of_ble_eq_true rfl⟩ rfl rfl (va_recv hK hP (ci := 12) (q0 := 2) rfl rfl) hP hD hS [2, 3, 0, 1] [] rfl rfl rfl rfl rfl (by decide) rfl hl.1 rfl (Nat.le_of_ble_eq_true rfl) dX12_term_86 ⟨Nat.le_of_ble_eq_true rfl, Nat.le_of_ble_eq_true rfl⟩ (fun v_307 u_308 H locs hv_309 hP₀ hD₀ hS₀ => ?_)
                obtain ⟨sv_310, sv_311, sv_312, sv_313, sv_314, sv_315⟩ := u_308
                obtain ⟨r_319, rfl, he_320, pf_316, pf_317, pf_318, hm_322, hm_323⟩ := hv_309
                have he_320 : ((r_319.toInt = 0 ∧ ¬ (sv_311 : Int32).toInt = 0) ∨ (r_319.toInt = 1 ∧ (vy_33 (Mv 5).toNatClampNeg).toInt + 1 ≤ (sv_315 (Mv 5).toNatClampNeg).toInt ∧ (sv_315 (Mv 5).toNatClampNeg).toInt + (x_302 : Int32).toInt ≤ (vy_33 (Mv 5).toNatClampNeg).toInt + (sv_310 : Int32).toInt ∧ (x_302 : Int32).toInt + 1 ≤ (sv_310 : Int32).toInt)) := he_320
                have pf_316 : (x_302 : Int32).toInt ≤ (sv_310 : Int32).toInt ∧ (sv_310 : Int32).toInt ≤ ((Mv 0) : Int32).toInt := pf_316
                have pf_317 : (vy_31 : Int32).toInt ≤ (sv_313 : Int32).toInt ∧ (sv_313 : Int32).toInt ≤ 60 := pf_317
                have pf_318 : Agr vy_32 sv_314 (400 * ((Mv 5) : Int32).toInt + (vy_33 (Mv 5).toNatClampNeg).toInt) := pf_318
                refine W.eq (g2 := F0 m 89 ls [.int r_319]) rfl ?_
                replace hP : va_P D classes [((Ma 0), .inr (12, [.ref (Ma 1), .int (Mv 0), .int (Mv 1), .ref (Ma 2), .ref (Ma 3), .ref (Ma 4), .ref (Ma 5), .ref (Ma 6), .int sv_310, .int sv_311, .int sv_312, .int (Mv 5), .int sv_313, .int (Mv 7), .int (Mv 8), .ref (Ma 7), .int (Mv 9), .ref (Ma 8), .int (Mv 10), .ref (Ma 9), .ref (Ma 10), .int (Mv 11), .int (Mv 12), .int (Mv 13), .ref (Ma 11), .int (Mv 14), .ref (Ma 12), .ref (Ma 13), .ref (Ma 14), .ref (Ma 15), .ref (Ma 16), .long (Mj 0), .ref (Ma 17), .ref (Ma 18), .ref (Ma 19), .ref (Ma 20)])), ((Ma 1), .inl (tc 2, 400, .inl (Mf 1))), ((Ma 2), .inl (tc 0, 2400, .inl sv_314)), ((Ma 3), .inl (tc 0, 7, .inl sv_315))] H := hP₀
                replace hD : va_D A [((Ma 0), .inr (12, [.ref (Ma 1), .int (Mv 0), .int (Mv 1), .ref (Ma 2), .ref (Ma 3), .ref (Ma 4), .ref (Ma 5), .ref (Ma 6), .int sv_310, .int sv_311, .int sv_312, .int (Mv 5), .int sv_313, .int (Mv 7), .int (Mv 8), .ref (Ma 7), .int (Mv 9), .ref (Ma 8), .int (Mv 10), .ref (Ma 9), .ref (Ma 10), .int (Mv 11), .int (Mv 12), .int (Mv 13), .ref (Ma 11), .int (Mv 14), .ref (Ma 12), .ref (Ma 13), .ref (Ma 14), .ref (Ma 15), .ref (Ma 16), .long (Mj 0), .ref (Ma 17), .ref (Ma 18), .ref (Ma 19), .ref (Ma 20)])), ((Ma 1), .inl (tc 2, 400, .inl (Mf 1))), ((Ma 2), .inl (tc 0, 2400, .inl sv_314)), ((Ma 3), .inl (tc 0, 7, .inl sv_315))] := hD₀
                replace hS := hS₀
                clear hP₀ hD₀ hS₀
                refine lv_if_ne (tgt := 94) hx hb dX12_term_89 (by decide) (fun c_324 => ?_) (fun c_324 => ?_)
                · skip
                  have hz_327 : (r_319 : Int32).toInt = 1 := by
                    have z_1 : ¬ (r_13 : Int32).toInt = (0 : Int32).toInt := fun z => c_18 (Int32.toInt_inj.mp z)
                    have z_2 : ¬ (r_52 : Int32).toInt = (42 : Int32).toInt := fun z => c_55 (Int32.toInt_inj.mp z)
                    have z_3 := congrArg Int32.toInt c_240
                    have z_4 : ¬ (x_242 : Int32).toInt = (42 : Int32).toInt := fun z => c_243 (Int32.toInt_inj.mp z)
                    have z_5 := congrArg Int32.toInt c_246
                    have z_6 : ¬ (r_319 : Int32).toInt = (0 : Int32).toInt := fun z => c_324 (Int32.toInt_inj.mp z)
                    have y_0 : (0 : Int32).toInt = 0 := by decide
                    have y_42 : (42 : Int32).toInt = 42 := by decide
                    have y_47 : (47 : Int32).toInt = 47 := by decide
                    omega
                  obtain ⟨pf_325, pf_326⟩ := hm_322 hz_327
                  have pf_325 : Cd sv_314 sv_315 (Mv 5) b sv_313 ((d + 1) + 1) := pf_325
                  have ar_pf_325 := Cd.ar pf_325
                  have pf_326 : RfO (pz_val (rB (Mf 1) (Mv 0)) (St0 (rB (Mf 1) (Mv 0)) x_302 vy_31)) (rB (Mf 1) (Mv 0)) sv_311 sv_310 sv_313 := pf_326
                  have ar_pf_326 := RfO.wr pf_326
                  refine lv_aload_n hx hb dX12_term_94 rfl (lv_at hl 1 rfl) ?_
                  refine lv_iload_n hx hb dX12_term_95 rfl (lv_at hl 0 rfl) ?_
                  refine lv_iconst (v := 0) hx hb dX12_term_96 (by decide) ?_
                  have ha_328 : ((d + 1) : Int) ≤ sv_313.toInt := by
                    have z_1 : ¬ (r_13 : Int32).toInt = (0 : Int32).toInt := fun z => c_18 (Int32.toInt_inj.mp z)
                    have z_2 : ¬ (r_52 : Int32).toInt = (42 : Int32).toInt := fun z => c_55 (Int32.toInt_inj.mp z)
                    have z_3 := congrArg Int32.toInt c_240
                    have z_4 : ¬ (x_242 : Int32).toInt = (42 : Int32).toInt := fun z => c_243 (Int32.toInt_inj.mp z)
                    have z_5 := congrArg Int32.toInt c_246
                    have z_6 : ¬ (r_319 : Int32).toInt = (0 : Int32).toInt := fun z => c_324 (Int32.toInt_inj.mp z)
                    have y_0 : (0 : Int32).toInt = 0 := by decide
                    have y_42 : (42 : Int32).toInt = 42 := by decide
                    have y_47 : (47 : Int32).toInt = 47 := by decide
                    omega
                  have ha_329 : (sv_315 (Mv 5).toNatClampNeg).toInt < 400 := by
                    have z_1 : ¬ (r_13 : Int32).toInt = (0 : Int32).toInt := fun z => c_18 (Int32.toInt_inj.mp z)
                    have z_2 : ¬ (r_52 : Int32).toInt = (42 : Int32).toInt := fun z => c_55 (Int32.toInt_inj.mp z)
                    have z_3 := congrArg Int32.toInt c_240
                    have z_4 : ¬ (x_242 : Int32).toInt = (42 : Int32).toInt := fun z => c_243 (Int32.toInt_inj.mp z)
                    have z_5 := congrArg Int32.toInt c_246
                    have z_6 : ¬ (r_319 : Int32).toInt = (0 : Int32).toInt := fun z => c_324 (Int32.toInt_inj.mp z)
                    have y_0 : (0 : Int32).toInt = 0 := by decide
                    have y_42 : (42 : Int32).toInt = 42 := by decide
                    have y_47 : (47 : Int32).toInt = 47 := by decide
                    omega
                  refine cV (a := (Ma 0)) (As := [.int 5, .int 0]) (rest := []) (wr := [((Ma 1), .inl (tc 2, 400, .inl (Mf 1)))]) ⟨hx, hb, hml, hown, hts⟩ hK hX hA (cu_X12_puts l D tc sk (Ma 0) (Ma 1) (Ma 2) (Ma 3) (Ma 4) (Ma 5) (Ma 6) (Ma 7) (Ma 8) (Ma 9) (Ma 10) (Ma 11) (Ma 12) (Ma 13) (Ma 14) (Ma 15) (Ma 16) (Ma 17) (Ma 18) (Ma 19) (Ma 20) (Mv 0) (Mv 1) sv_310 sv_311 sv_312 (Mv 5) sv_313 (Mv 7) (Mv 8) (Mv 9) (Mv 10) (Mv 11) (Mv 12) (Mv 13) (Mv 14) sv_314 sv_315 (Mj 0) 5 0 b sv_313 ((d + 1) + 1) (d + 1) pf_325 (StpR.op (by decide) rfl (by omega)) ha_328 ha_329) k_1296 k_1293 k_1295 k_46 k_106 pl_X12_puts ⟨Nat.le_of_ble_eq_true rfl, Nat.le_of_ble_eq_true rfl⟩ rfl rfl (va_recv hK hP (ci := 12) (q0 := 0) rfl rfl) hP hD hS [0, 2, 3] [1] rfl rfl rfl rfl rfl (by decide) rfl hl.1 rfl (Nat.le_of_ble_eq_true rfl) dX12_term_97 ⟨Nat.le_of_ble_eq_true rfl, Nat.le_of_ble_eq_true rfl⟩ (fun v_330 u_331 H locs hv_332 hP₀ hD₀ hS₀ => ?_)
                  obtain ⟨sv_333, sv_334⟩ := u_331
                  obtain ⟨rfl, pf_335, pf_336, pf_337⟩ := hv_332
                  have pf_335 : Cd sv_333 sv_334 (Mv 5) b sv_313 (d + 1) := pf_335
                  have ar_pf_335 := Cd.ar pf_335
                  have pf_336 : Agr sv_314 sv_333 (400 * ((Mv 5) : Int32).toInt + (sv_315 (Mv 5).toNatClampNeg).toInt) := pf_336
                  have pf_337 : (sv_334 (Mv 5).toNatClampNeg).toInt = (sv_315 (Mv 5).toNatClampNeg).toInt + 1 := pf_337
                  refine W.eq (g2 := F0 m 100 ls []) rfl ?_
                  replace hP : va_P D classes [((Ma 1), .inl (tc 2, 400, .inl (Mf 1))), ((Ma 0), .inr (12, [.ref (Ma 1), .int (Mv 0), .int (Mv 1), .ref (Ma 2), .ref (Ma 3), .ref (Ma 4), .ref (Ma 5), .ref (Ma 6), .int sv_310, .int sv_311, .int sv_312, .int (Mv 5), .int sv_313, .int (Mv 7), .int (Mv 8), .ref (Ma 7), .int (Mv 9), .ref (Ma 8), .int (Mv 10), .ref (Ma 9), .ref (Ma 10), .int (Mv 11), .int (Mv 12), .int (Mv 13), .ref (Ma 11), .int (Mv 14), .ref (Ma 12), .ref (Ma 13), .ref (Ma 14), .ref (Ma 15), .ref (Ma 16), .long (Mj 0), .ref (Ma 17), .ref (Ma 18), .ref (Ma 19), .ref (Ma 20)])), ((Ma 2), .inl (tc 0, 2400, .inl sv_333)), ((Ma 3), .inl (tc 0, 7, .inl sv_334))] H := hP₀
                  replace hD : va_D A [((Ma 1), .inl (tc 2, 400, .inl (Mf 1))), ((Ma 0), .inr (12, [.ref (Ma 1), .int (Mv 0), .int (Mv 1), .ref (Ma 2), .ref (Ma 3), .ref (Ma 4), .ref (Ma 5), .ref (Ma 6), .int sv_310, .int sv_311, .int sv_312, .int (Mv 5), .int sv_313, .int (Mv 7), .int (Mv 8), .ref (Ma 7), .int (Mv 9), .ref (Ma 8), .int (Mv 10), .ref (Ma 9), .ref (Ma 10), .int (Mv 11), .int (Mv 12), .int (Mv 13), .ref (Ma 11), .int (Mv 14), .ref (Ma 12), .ref (Ma 13), .ref (Ma 14), .ref (Ma 15), .ref (Ma 16), .long (Mj 0), .ref (Ma 17), .ref (Ma 18), .ref (Ma 19), .ref (Ma 20)])), ((Ma 2), .inl (tc 0, 2400, .inl sv_333)), ((Ma 3), .inl (tc 0, 7, .inl sv_334))] := hD₀
                  replace hS := hS₀
                  clear hP₀ hD₀ hS₀
                  refine lv_goto (tgt := 9) hx hb dX12_term_100 (by decide) ?_
                  have hb_338 : 400 - (sv_310 : Int32).toInt < 400 - (vy_28 : Int32).toInt ∧ 1 ≤ 400 - (vy_28 : Int32).toInt := by
                    have z_1 : ¬ (r_13 : Int32).toInt = (0 : Int32).toInt := fun z => c_18 (Int32.toInt_inj.mp z)
                    have z_2 : ¬ (r_52 : Int32).toInt = (42 : Int32).toInt := fun z => c_55 (Int32.toInt_inj.mp z)
                    have z_3 := congrArg Int32.toInt c_240
                    have z_4 : ¬ (x_242 : Int32).toInt = (42 : Int32).toInt := fun z => c_243 (Int32.toInt_inj.mp z)
                    have z_5 := congrArg Int32.toInt c_246
                    have z_6 : ¬ (r_319 : Int32).toInt = (0 : Int32).toInt := fun z => c_324 (Int32.toInt_inj.mp z)
                    have y_0 : (0 : Int32).toInt = 0 := by decide
                    have y_42 : (42 : Int32).toInt = 42 := by decide
                    have y_47 : (47 : Int32).toInt = 47 := by decide
                    omega
                  have ha_339 : 0 ≤ (sv_310 : Int32).toInt ∧ (sv_310 : Int32).toInt ≤ ((Mv 0) : Int32).toInt ∧ ((Mv 0) : Int32).toInt ≤ 400 := by
                    have z_1 : ¬ (r_13 : Int32).toInt = (0 : Int32).toInt := fun z => c_18 (Int32.toInt_inj.mp z)
                    have z_2 : ¬ (r_52 : Int32).toInt = (42 : Int32).toInt := fun z => c_55 (Int32.toInt_inj.mp z)
                    have z_3 := congrArg Int32.toInt c_240
                    have z_4 : ¬ (x_242 : Int32).toInt = (42 : Int32).toInt := fun z => c_243 (Int32.toInt_inj.mp z)
                    have z_5 := congrArg Int32.toInt c_246
                    have z_6 : ¬ (r_319 : Int32).toInt = (0 : Int32).toInt := fun z => c_324 (Int32.toInt_inj.mp z)
                    have y_0 : (0 : Int32).toInt = 0 := by decide
                    have y_42 : (42 : Int32).toInt = 42 := by decide
                    have y_47 : (47 : Int32).toInt = 47 := by decide
                    omega
                  have ha_340 : (Mv 6).toInt ≤ (sv_313 : Int32).toInt ∧ (sv_313 : Int32).toInt ≤ 60 := by
                    have z_1 : ¬ (r_13 : Int32).toInt = (0 : Int32).toInt := fun z => c_18 (Int32.toInt_inj.mp z)
                    have z_2 : ¬ (r_52 : Int32).toInt = (42 : Int32).toInt := fun z => c_55 (Int32.toInt_inj.mp z)
                    have z_3 := congrArg Int32.toInt c_240
                    have z_4 : ¬ (x_242 : Int32).toInt = (42 : Int32).toInt := fun z => c_243 (Int32.toInt_inj.mp z)
                    have z_5 := congrArg Int32.toInt c_246
                    have z_6 : ¬ (r_319 : Int32).toInt = (0 : Int32).toInt := fun z => c_324 (Int32.toInt_inj.mp z)
                    have y_0 : (0 : Int32).toInt = 0 := by decide
                    have y_42 : (42 : Int32).toInt = 42 := by decide
                    have y_47 : (47 : Int32).toInt = 47 := by decide
                    omega
                  have ha_341 : ((Mf 3) (Mv 5).toNatClampNeg).toInt + 1 ≤ (sv_334 (Mv 5).toNatClampNeg).toInt ∧ (sv_334 (Mv 5).toNatClampNeg).toInt + ((Mv 2) : Int32).toInt ≤ ((Mf 3) (Mv 5).toNatClampNeg).toInt + (sv_310 : Int32).toInt ∧ ((Mv 2) : Int32).toInt + 1 ≤ (sv_310 : Int32).toInt := by
                    have z_1 : ¬ (r_13 : Int32).toInt = (0 : Int32).toInt := fun z => c_18 (Int32.toInt_inj.mp z)
                    have z_2 : ¬ (r_52 : Int32).toInt = (42 : Int32).toInt := fun z => c_55 (Int32.toInt_inj.mp z)
                    have z_3 := congrArg Int32.toInt c_240
                    have z_4 : ¬ (x_242 : Int32).toInt = (42 : Int32).toInt := fun z => c_243 (Int32.toInt_inj.mp z)
                    have z_5 := congrArg Int32.toInt c_246
                    have z_6 : ¬ (r_319 : Int32).toInt = (0 : Int32).toInt := fun z => c_324 (Int32.toInt_inj.mp z)
                    have y_0 : (0 : Int32).toInt = 0 := by decide
                    have y_42 : (42 : Int32).toInt = 42 := by decide
                    have y_47 : (47 : Int32).toInt = 47 := by decide
                    omega
                  have hr_342 : (400 * ((Mv 5) : Int32).toInt + ((Mf 3) (Mv 5).toNatClampNeg).toInt) ≤ (400 * ((Mv 5) : Int32).toInt + ((Mf 3) (Mv 5).toNatClampNeg).toInt) := by
                    have z_1 : ¬ (r_13 : Int32).toInt = (0 : Int32).toInt := fun z => c_18 (Int32.toInt_inj.mp z)
                    have z_2 : ¬ (r_52 : Int32).toInt = (42 : Int32).toInt := fun z => c_55 (Int32.toInt_inj.mp z)
                    have z_3 := congrArg Int32.toInt c_240
                    have z_4 : ¬ (x_242 : Int32).toInt = (42 : Int32).toInt := fun z => c_243 (Int32.toInt_inj.mp z)
                    have z_5 := congrArg Int32.toInt c_246
                    have z_6 : ¬ (r_319 : Int32).toInt = (0 : Int32).toInt := fun z => c_324 (Int32.toInt_inj.mp z)
                    have y_0 : (0 : Int32).toInt = 0 := by decide
                    have y_42 : (42 : Int32).toInt = 42 := by decide
                    have y_47 : (47 : Int32).toInt = 47 := by decide
                    omega
                  have hr_343 : (400 * ((Mv 5) : Int32).toInt + ((Mf 3) (Mv 5).toNatClampNeg).toInt) ≤ (400 * ((Mv 5) : Int32).toInt + (vy_33 (Mv 5).toNatClampNeg).toInt) := by
                    have z_1 : ¬ (r_13 : Int32).toInt = (0 : Int32).toInt := fun z => c_18 (Int32.toInt_inj.mp z)
                    have z_2 : ¬ (r_52 : Int32).toInt = (42 : Int32).toInt := fun z => c_55 (Int32.toInt_inj.mp z)
                    have z_3 := congrArg Int32.toInt c_240
                    have z_4 : ¬ (x_242 : Int32).toInt = (42 : Int32).toInt := fun z => c_243 (Int32.toInt_inj.mp z)
                    have z_5 := congrArg Int32.toInt c_246
                    have z_6 : ¬ (r_319 : Int32).toInt = (0 : Int32).toInt := fun z => c_324 (Int32.toInt_inj.mp z)
                    have y_0 : (0 : Int32).toInt = 0 := by decide
                    have y_42 : (42 : Int32).toInt = 42 := by decide
                    have y_47 : (47 : Int32).toInt = 47 := by decide
                    omega
                  have hr_344 : (400 * ((Mv 5) : Int32).toInt + ((Mf 3) (Mv 5).toNatClampNeg).toInt) ≤ (400 * ((Mv 5) : Int32).toInt + (sv_315 (Mv 5).toNatClampNeg).toInt) := by
                    have z_1 : ¬ (r_13 : Int32).toInt = (0 : Int32).toInt := fun z => c_18 (Int32.toInt_inj.mp z)
                    have z_2 : ¬ (r_52 : Int32).toInt = (42 : Int32).toInt := fun z => c_55 (Int32.toInt_inj.mp z)
                    have z_3 := congrArg Int32.toInt c_240
                    have z_4 : ¬ (x_242 : Int32).toInt = (42 : Int32).toInt := fun z => c_243 (Int32.toInt_inj.mp z)
                    have z_5 := congrArg Int32.toInt c_246
                    have z_6 : ¬ (r_319 : Int32).toInt = (0 : Int32).toInt := fun z => c_324 (Int32.toInt_inj.mp z)
                    have y_0 : (0 : Int32).toInt = 0 := by decide
                    have y_42 : (42 : Int32).toInt = 42 := by decide
                    have y_47 : (47 : Int32).toInt = 47 := by decide
                    omega
                  have hr_345 : (rB (Mf 1) (Mv 0) (sv_231 : Int32).toInt.toNat = 43 ∨ rB (Mf 1) (Mv 0) (sv_231 : Int32).toInt.toNat = 45 ∨ rB (Mf 1) (Mv 0) (sv_231 : Int32).toInt.toNat = 42 ∨ rB (Mf 1) (Mv 0) (sv_231 : Int32).toInt.toNat = 47 ∨ rB (Mf 1) (Mv 0) (sv_231 : Int32).toInt.toNat = 37) := by
                    have z_1 : ¬ (r_13 : Int32).toInt = (0 : Int32).toInt := fun z => c_18 (Int32.toInt_inj.mp z)
                    have z_2 : ¬ (r_52 : Int32).toInt = (42 : Int32).toInt := fun z => c_55 (Int32.toInt_inj.mp z)
                    have z_3 := congrArg Int32.toInt c_240
                    have z_4 : ¬ (x_242 : Int32).toInt = (42 : Int32).toInt := fun z => c_243 (Int32.toInt_inj.mp z)
                    have z_5 := congrArg Int32.toInt c_246
                    have z_6 : ¬ (r_319 : Int32).toInt = (0 : Int32).toInt := fun z => c_324 (Int32.toInt_inj.mp z)
                    have y_0 : (0 : Int32).toInt = 0 := by decide
                    have y_42 : (42 : Int32).toInt = 42 := by decide
                    have y_47 : (47 : Int32).toInt = 47 := by decide
                    omega
                  have hi_346 : (x_302 : Int32).toInt = (sv_231 : Int32).toInt + 1 := by
                    have z_1 : ¬ (r_13 : Int32).toInt = (0 : Int32).toInt := fun z => c_18 (Int32.toInt_inj.mp z)
                    have z_2 : ¬ (r_52 : Int32).toInt = (42 : Int32).toInt := fun z => c_55 (Int32.toInt_inj.mp z)
                    have z_3 := congrArg Int32.toInt c_240
                    have z_4 : ¬ (x_242 : Int32).toInt = (42 : Int32).toInt := fun z => c_243 (Int32.toInt_inj.mp z)
                    have z_5 := congrArg Int32.toInt c_246
                    have z_6 : ¬ (r_319 : Int32).toInt = (0 : Int32).toInt := fun z => c_324 (Int32.toInt_inj.mp z)
                    have y_0 : (0 : Int32).toInt = 0 := by decide
                    have y_42 : (42 : Int32).toInt = 42 := by decide
                    have y_47 : (47 : Int32).toInt = 47 := by decide
                    have y_1 : (1 : Int32).toInt = 1 := by decide
                    have t_x_302 : x_302.toInt = (sv_231 : Int32).toInt + (1 : Int32).toInt := by rw [ex_302]; exact add_toInt (by omega) (by omega)
                    omega
                  exact ih_35 sv_310 sv_311 sv_312 sv_313 sv_333 sv_334 _ _ _ (by omega) ha_339 ha_340 ha_341 (Agr.trans (k' := (400 * ((Mv 5) : Int32).toInt + ((Mf 3) (Mv 5).toNatClampNeg).toInt)) (Agr.trans (k' := (400 * ((Mv 5) : Int32).toInt + ((Mf 3) (Mv 5).toNatClampNeg).toInt)) (Agr.mono pf_40 hr_342) pf_318 ⟨Int.le_refl _, hr_343⟩) pf_336 ⟨Int.le_refl _, hr_344⟩) pf_335 (TmL.next (rB_fi h_nx.2.2) pf_42 (SkR.trans pf_51 pf_235) hr_345 hi_346 pf_326) (hP.sub [1, 0, 2, 3] rfl) (hD.sub [1, 0, 2, 3] rfl rfl) hS (lv_sub hl [1] rfl)
                · skip
                  have hz_348 : (r_319 : Int32).toInt = 0 := by
                    have z_1 : ¬ (r_13 : Int32).toInt = (0 : Int32).toInt := fun z => c_18 (Int32.toInt_inj.mp z)
                    have z_2 : ¬ (r_52 : Int32).toInt = (42 : Int32).toInt := fun z => c_55 (Int32.toInt_inj.mp z)
                    have z_3 := congrArg Int32.toInt c_240
                    have z_4 : ¬ (x_242 : Int32).toInt = (42 : Int32).toInt := fun z => c_243 (Int32.toInt_inj.mp z)
                    have z_5 := congrArg Int32.toInt c_246
                    have z_6 := congrArg Int32.toInt c_324
                    have y_0 : (0 : Int32).toInt = 0 := by decide
                    have y_42 : (42 : Int32).toInt = 42 := by decide
                    have y_47 : (47 : Int32).toInt = 47 := by decide
                    omega
                  obtain pf_347 := hm_323 hz_348
                  have pf_347 : RfE (pz_val (rB (Mf 1) (Mv 0)) (St0 (rB (Mf 1) (Mv 0)) x_302 vy_31)) sv_311 := pf_347
                  refine lv_iconst (v := 0) hx hb dX12_term_92 (by decide) ?_
                  have ha_349 : ((Mv 2) : Int32).toInt ≤ (sv_310 : Int32).toInt ∧ (sv_310 : Int32).toInt ≤ ((Mv 0) : Int32).toInt := by
                    have z_1 : ¬ (r_13 : Int32).toInt = (0 : Int32).toInt := fun z => c_18 (Int32.toInt_inj.mp z)
                    have z_2 : ¬ (r_52 : Int32).toInt = (42 : Int32).toInt := fun z => c_55 (Int32.toInt_inj.mp z)
                    have z_3 := congrArg Int32.toInt c_240
                    have z_4 : ¬ (x_242 : Int32).toInt = (42 : Int32).toInt := fun z => c_243 (Int32.toInt_inj.mp z)
                    have z_5 := congrArg Int32.toInt c_246
                    have z_6 := congrArg Int32.toInt c_324
                    have y_0 : (0 : Int32).toInt = 0 := by decide
                    have y_42 : (42 : Int32).toInt = 42 := by decide
                    have y_47 : (47 : Int32).toInt = 47 := by decide
                    omega
                  have ha_350 : ((Mv 6) : Int32).toInt ≤ (sv_313 : Int32).toInt ∧ (sv_313 : Int32).toInt ≤ 60 := by
                    have z_1 : ¬ (r_13 : Int32).toInt = (0 : Int32).toInt := fun z => c_18 (Int32.toInt_inj.mp z)
                    have z_2 : ¬ (r_52 : Int32).toInt = (42 : Int32).toInt := fun z => c_55 (Int32.toInt_inj.mp z)
                    have z_3 := congrArg Int32.toInt c_240
                    have z_4 : ¬ (x_242 : Int32).toInt = (42 : Int32).toInt := fun z => c_243 (Int32.toInt_inj.mp z)
                    have z_5 := congrArg Int32.toInt c_246
                    have z_6 := congrArg Int32.toInt c_324
                    have y_0 : (0 : Int32).toInt = 0 := by decide
                    have y_42 : (42 : Int32).toInt = 42 := by decide
                    have y_47 : (47 : Int32).toInt = 47 := by decide
                    omega
                  have hr_351 : (400 * ((Mv 5) : Int32).toInt + ((Mf 3) (Mv 5).toNatClampNeg).toInt) ≤ (400 * ((Mv 5) : Int32).toInt + ((Mf 3) (Mv 5).toNatClampNeg).toInt) := by
                    have z_1 : ¬ (r_13 : Int32).toInt = (0 : Int32).toInt := fun z => c_18 (Int32.toInt_inj.mp z)
                    have z_2 : ¬ (r_52 : Int32).toInt = (42 : Int32).toInt := fun z => c_55 (Int32.toInt_inj.mp z)
                    have z_3 := congrArg Int32.toInt c_240
                    have z_4 : ¬ (x_242 : Int32).toInt = (42 : Int32).toInt := fun z => c_243 (Int32.toInt_inj.mp z)
                    have z_5 := congrArg Int32.toInt c_246
                    have z_6 := congrArg Int32.toInt c_324
                    have y_0 : (0 : Int32).toInt = 0 := by decide
                    have y_42 : (42 : Int32).toInt = 42 := by decide
                    have y_47 : (47 : Int32).toInt = 47 := by decide
                    omega
                  have hr_352 : (400 * ((Mv 5) : Int32).toInt + ((Mf 3) (Mv 5).toNatClampNeg).toInt) ≤ (400 * ((Mv 5) : Int32).toInt + (vy_33 (Mv 5).toNatClampNeg).toInt) := by
                    have z_1 : ¬ (r_13 : Int32).toInt = (0 : Int32).toInt := fun z => c_18 (Int32.toInt_inj.mp z)
                    have z_2 : ¬ (r_52 : Int32).toInt = (42 : Int32).toInt := fun z => c_55 (Int32.toInt_inj.mp z)
                    have z_3 := congrArg Int32.toInt c_240
                    have z_4 : ¬ (x_242 : Int32).toInt = (42 : Int32).toInt := fun z => c_243 (Int32.toInt_inj.mp z)
                    have z_5 := congrArg Int32.toInt c_246
                    have z_6 := congrArg Int32.toInt c_324
                    have y_0 : (0 : Int32).toInt = 0 := by decide
                    have y_42 : (42 : Int32).toInt = 42 := by decide
                    have y_47 : (47 : Int32).toInt = 47 := by decide
                    omega
                  have hp_353 : (((0 : Int32).toInt = 0 ∧ ¬ (sv_311 : Int32).toInt = 0) ∨ ((0 : Int32).toInt = 1 ∧ ((Mf 3) (Mv 5).toNatClampNeg).toInt + 1 ≤ (sv_315 (Mv 5).toNatClampNeg).toInt ∧ (sv_315 (Mv 5).toNatClampNeg).toInt + ((Mv 2) : Int32).toInt ≤ ((Mf 3) (Mv 5).toNatClampNeg).toInt + (sv_310 : Int32).toInt ∧ ((Mv 2) : Int32).toInt + 1 ≤ (sv_310 : Int32).toInt)) := by
                    have z_1 : ¬ (r_13 : Int32).toInt = (0 : Int32).toInt := fun z => c_18 (Int32.toInt_inj.mp z)
                    have z_2 : ¬ (r_52 : Int32).toInt = (42 : Int32).toInt := fun z => c_55 (Int32.toInt_inj.mp z)
                    have z_3 := congrArg Int32.toInt c_240
                    have z_4 : ¬ (x_242 : Int32).toInt = (42 : Int32).toInt := fun z => c_243 (Int32.toInt_inj.mp z)
                    have z_5 := congrArg Int32.toInt c_246
                    have z_6 := congrArg Int32.toInt c_324
                    have y_0 : (0 : Int32).toInt = 0 := by decide
                    have y_42 : (42 : Int32).toInt = 42 := by decide
                    have y_47 : (47 : Int32).toInt = 47 := by decide
                    omega
                  have hm_354 : (0 : Int32).toInt = 0 → (RfE (pz_sum (rB (Mf 1) (Mv 0)) (St0 (rB (Mf 1) (Mv 0)) (Mv 2) (Mv 6))) sv_311) := by
                    intro h1r
                    have hr_355 : (rB (Mf 1) (Mv 0) (sv_231 : Int32).toInt.toNat = 43 ∨ rB (Mf 1) (Mv 0) (sv_231 : Int32).toInt.toNat = 45 ∨ rB (Mf 1) (Mv 0) (sv_231 : Int32).toInt.toNat = 42 ∨ rB (Mf 1) (Mv 0) (sv_231 : Int32).toInt.toNat = 47 ∨ rB (Mf 1) (Mv 0) (sv_231 : Int32).toInt.toNat = 37) := by
                      have z_1 : ¬ (r_13 : Int32).toInt = (0 : Int32).toInt := fun z => c_18 (Int32.toInt_inj.mp z)
                      have z_2 : ¬ (r_52 : Int32).toInt = (42 : Int32).toInt := fun z => c_55 (Int32.toInt_inj.mp z)
                      have z_3 := congrArg Int32.toInt c_240
                      have z_4 : ¬ (x_242 : Int32).toInt = (42 : Int32).toInt := fun z => c_243 (Int32.toInt_inj.mp z)
                      have z_5 := congrArg Int32.toInt c_246
                      have z_6 := congrArg Int32.toInt c_324
                      have y_0 : (0 : Int32).toInt = 0 := by decide
                      have y_42 : (42 : Int32).toInt = 42 := by decide
                      have y_47 : (47 : Int32).toInt = 47 := by decide
                      omega
                    have hi_356 : (x_302 : Int32).toInt = (sv_231 : Int32).toInt + 1 := by
                      have z_1 : ¬ (r_13 : Int32).toInt = (0 : Int32).toInt := fun z => c_18 (Int32.toInt_inj.mp z)
                      have z_2 : ¬ (r_52 : Int32).toInt = (42 : Int32).toInt := fun z => c_55 (Int32.toInt_inj.mp z)
                      have z_3 := congrArg Int32.toInt c_240
                      have z_4 : ¬ (x_242 : Int32).toInt = (42 : Int32).toInt := fun z => c_243 (Int32.toInt_inj.mp z)
                      have z_5 := congrArg Int32.toInt c_246
                      have z_6 := congrArg Int32.toInt c_324
                      have y_0 : (0 : Int32).toInt = 0 := by decide
                      have y_42 : (42 : Int32).toInt = 42 := by decide
                      have y_47 : (47 : Int32).toInt = 47 := by decide
                      have y_1 : (1 : Int32).toInt = 1 := by decide
                      have t_x_302 : x_302.toInt = (sv_231 : Int32).toInt + (1 : Int32).toInt := by rw [ex_302]; exact add_toInt (by omega) (by omega)
                      omega
                    exact (TmL.er (rB_fi h_nx.2.2) pf_42 (SkR.trans pf_51 pf_235) hr_355 hi_356 pf_347)
                  exact retI (v := 0) hx hb hr hlk (rfl) hP hD hS (sv_310, sv_311, sv_312, sv_313, sv_314, sv_315) ⟨_, rfl, hp_353, ha_349, ha_350, (Agr.trans (k' := (400 * ((Mv 5) : Int32).toInt + ((Mf 3) (Mv 5).toNatClampNeg).toInt)) (Agr.mono pf_40 hr_351) pf_318 ⟨Int.le_refl _, hr_352⟩), (fun h => absurd h (by decide)), hm_354⟩ [0, 1, 2, 3] rfl rfl dX12_term_93 (Nat.le_of_ble_eq_true rfl) (Nat.le_of_ble_eq_true rfl) rfl
            · skip
              refine lv_iconst (v := 4) hx hb dX12_term_50 (by decide) ?_
              refine lv_goto (tgt := 74) hx hb dX12_term_51 (by decide) ?_
              refine lv_istore_n (lv' := [(1, .int 4), (0, .ref (Ma 0))]) hx hb dX12_term_74 rfl hl (by decide) rfl (fun ls hl₀ => ?_)
              replace hl := hl₀
              clear hl₀
              refine lv_aload_n hx hb dX12_term_75 rfl (lv_at hl 1 rfl) ?_
              refine lv_dup hx hb dX12_term_76 rfl ?_
              refine gf_X12_87 hx hb hts hown hK hP 2 rfl rfl dX12_term_77 ?_
              refine lv_iconst (v := 1) hx hb dX12_term_80 (by decide) ?_
              refine lv_iadd hx hb dX12_term_81 ?_
              refine lv_topi (fun x_357 ex_357 => ?_)
              refine pf_X12_87 hx hb hts hown hK hP hD hS 2 rfl (Nat.le_of_ble_eq_true rfl) rfl rfl dX12_term_82 (fun H locs hP₀ hD₀ hS₀ => ?_)
              replace hP : va_P D classes [((Ma 2), .inl (tc 0, 2400, .inl vy_32)), ((Ma 3), .inl (tc 0, 7, .inl vy_33)), ((Ma 0), .inr (12, [.ref (Ma 1), .int (Mv 0), .int (Mv 1), .ref (Ma 2), .ref (Ma 3), .ref (Ma 4), .ref (Ma 5), .ref (Ma 6), .int x_357, .int vy_29, .int vy_30, .int (Mv 5), .int vy_31, .int (Mv 7), .int (Mv 8), .ref (Ma 7), .int (Mv 9), .ref (Ma 8), .int (Mv 10), .ref (Ma 9), .ref (Ma 10), .int (Mv 11), .int (Mv 12), .int (Mv 13), .ref (Ma 11), .int (Mv 14), .ref (Ma 12), .ref (Ma 13), .ref (Ma 14), .ref (Ma 15), .ref (Ma 16), .long (Mj 0), .ref (Ma 17), .ref (Ma 18), .ref (Ma 19), .ref (Ma 20)])), ((Ma 1), .inl (tc 2, 400, .inl (Mf 1)))] H := hP₀
              replace hD : va_D A [((Ma 2), .inl (tc 0, 2400, .inl vy_32)), ((Ma 3), .inl (tc 0, 7, .inl vy_33)), ((Ma 0), .inr (12, [.ref (Ma 1), .int (Mv 0), .int (Mv 1), .ref (Ma 2), .ref (Ma 3), .ref (Ma 4), .ref (Ma 5), .ref (Ma 6), .int x_357, .int vy_29, .int vy_30, .int (Mv 5), .int vy_31, .int (Mv 7), .int (Mv 8), .ref (Ma 7), .int (Mv 9), .ref (Ma 8), .int (Mv 10), .ref (Ma 9), .ref (Ma 10), .int (Mv 11), .int (Mv 12), .int (Mv 13), .ref (Ma 11), .int (Mv 14), .ref (Ma 12), .ref (Ma 13), .ref (Ma 14), .ref (Ma 15), .ref (Ma 16), .long (Mj 0), .ref (Ma 17), .ref (Ma 18), .ref (Ma 19), .ref (Ma 20)])), ((Ma 1), .inl (tc 2, 400, .inl (Mf 1)))] := hD₀
              replace hS := hS₀
              clear hP₀ hD₀ hS₀
              have tp_x_357 : (x_357 : Int32).toInt = (sv_231 : Int32).toInt + 1 := by
                have z_1 : ¬ (r_13 : Int32).toInt = (0 : Int32).toInt := fun z => c_18 (Int32.toInt_inj.mp z)
                have z_2 : ¬ (r_52 : Int32).toInt = (42 : Int32).toInt := fun z => c_55 (Int32.toInt_inj.mp z)
                have z_3 := congrArg Int32.toInt c_240
                have z_4 := congrArg Int32.toInt c_243
                have y_0 : (0 : Int32).toInt = 0 := by decide
                have y_42 : (42 : Int32).toInt = 42 := by decide
                have y_47 : (47 : Int32).toInt = 47 := by decide
                have y_1 : (1 : Int32).toInt = 1 := by decide
                have t_x_357 : x_357.toInt = (sv_231 : Int32).toInt + (1 : Int32).toInt := by rw [ex_357]; exact add_toInt (by omega) (by omega)
                omega
              refine lv_aload_n hx hb dX12_term_85 rfl (lv_at hl 1 rfl) ?_
              have ha_358 : 0 ≤ (x_357 : Int32).toInt ∧ (x_357 : Int32).toInt ≤ ((Mv 0) : Int32).toInt ∧ ((Mv 0) : Int32).toInt ≤ 400 := by
                have z_1 : ¬ (r_13 : Int32).toInt = (0 : Int32).toInt := fun z => c_18 (Int32.toInt_inj.mp z)
                have z_2 : ¬ (r_52 : Int32).toInt = (42 : Int32).toInt := fun z => c_55 (Int32.toInt_inj.mp z)
                have z_3 := congrArg Int32.toInt c_240
                have z_4 := congrArg Int32.toInt c_243
                have y_0 : (0 : Int32).toInt = 0 := by decide
                have y_42 : (42 : Int32).toInt = 42 := by decide
                have y_47 : (47 : Int32).toInt = 47 := by decide
                have y_1 : (1 : Int32).toInt = 1 := by decide
                have t_x_357 : x_357.toInt = (sv_231 : Int32).toInt + (1 : Int32).toInt := by rw [ex_357]; exact add_toInt (by omega) (by omega)
                omega
              have ha_359 : (vy_33 (Mv 5).toNatClampNeg).toInt ≤ (x_357 : Int32).toInt := by
                have z_1 : ¬ (r_13 : Int32).toInt = (0 : Int32).toInt := fun z => c_18 (Int32.toInt_inj.mp z)
                have z_2 : ¬ (r_52 : Int32).toInt = (42 : Int32).toInt := fun z => c_55 (Int32.toInt_inj.mp z)
                have z_3 := congrArg Int32.toInt c_240
                have z_4 := congrArg Int32.toInt c_243
                have y_0 : (0 : Int32).toInt = 0 := by decide
                have y_42 : (42 : Int32).toInt = 42 := by decide
                have y_47 : (47 : Int32).toInt = 47 := by decide
                have y_1 : (1 : Int32).toInt = 1 := by decide
                have t_x_357 : x_357.toInt = (sv_231 : Int32).toInt + (1 : Int32).toInt := by rw [ex_357]; exact add_toInt (by omega) (by omega)
                omega
              have ha_360 : 0 ≤ (vy_31 : Int32).toInt ∧ (vy_31 : Int32).toInt ≤ 60 := by
                have z_1 : ¬ (r_13 : Int32).toInt = (0 : Int32).toInt := fun z => c_18 (Int32.toInt_inj.mp z)
                have z_2 : ¬ (r_52 : Int32).toInt = (42 : Int32).toInt := fun z => c_55 (Int32.toInt_inj.mp z)
                have z_3 := congrArg Int32.toInt c_240
                have z_4 := congrArg Int32.toInt c_243
                have y_0 : (0 : Int32).toInt = 0 := by decide
                have y_42 : (42 : Int32).toInt = 42 := by decide
                have y_47 : (47 : Int32).toInt = 47 := by decide
                omega
              have ha_361 : (vy_29 : Int32).toInt = 0 := by
                have z_1 : ¬ (r_13 : Int32).toInt = (0 : Int32).toInt := fun z => c_18 (Int32.toInt_inj.mp z)
                have z_2 : ¬ (r_52 : Int32).toInt = (42 : Int32).toInt := fun z => c_55 (Int32.toInt_inj.mp z)
                have z_3 := congrArg Int32.toInt c_240
                have z_4 := congrArg Int32.toInt c_243
                have y_0 : (0 : Int32).toInt = 0 := by decide
                have y_42 : (42 : Int32).toInt = 42 := by decide
                have y_47 : (47 : Int32).toInt = 47 := by decide
                omega
              refine cV (a := (Ma 0)) (As := []) (rest := []) (wr := []) ⟨hx, hb, hml, hown, hts⟩ hK hX hA (cu_fX12_value l D tc sk (Ma 0) (Ma 1) (Ma 2) (Ma 3) (Ma 4) (Ma 5) (Ma 6) (Ma 7) (Ma 8) (Ma 9) (Ma 10) (Ma 11) (Ma 12) (Ma 13) (Ma 14) (Ma 15) (Ma 16) (Ma 17) (Ma 18) (Ma 19) (Ma 20) (Mv 0) (Mv 1) x_357 vy_29 vy_30 (Mv 5) vy_31 (Mv 7) (Mv 8) (Mv 9) (Mv 10) (Mv 11) (Mv 12) (Mv 13) (Mv 14) (Mf 1) vy_32 vy_33 (Mj 0) b (d + 1) ha_358 pf_41 ha_359 ha_360 h_bs ha_361) k_1287 k_1284 k_1286 k_44 k_106 pl_X12_value ⟨Nat.le_of_ble_eq_true rfl, Nat.le_of_ble_eq_true rfl⟩ rfl rfl (va_recv hK hP (ci := 12) (q0 := 2) rfl rfl) hP hD hS [2, 3, 0, 1] [] rfl rfl rfl rfl rfl (by decide) rfl hl.1 rfl (Nat.le_of_ble_eq_true rfl) dX12_term_86 ⟨Nat.le_of_ble_eq_true rfl, Nat.le_of_ble_eq_true rfl⟩ (fun v_362 u_363 H locs hv_364 hP₀ hD₀ hS₀ => ?_)
              obtain ⟨sv_365, sv_366, sv_367, sv_368, sv_369, sv_370⟩ := u_363
              obtain ⟨r_374, rfl, he_375, pf_371, pf_372, pf_373, hm_377, hm_378⟩ := hv_364
              have he_375 : ((r_374.toInt = 0 ∧ ¬ (sv_366 : Int32).toInt = 0) ∨ (r_374.toInt = 1 ∧ (vy_33 (Mv 5).toNatClampNeg).toInt + 1 ≤ (sv_370 (Mv 5).toNatClampNeg).toInt ∧ (sv_370 (Mv 5).toNatClampNeg).toInt + (x_357 : Int32).toInt ≤ (vy_33 (Mv 5).toNatClampNeg).toInt + (sv_365 : Int32).toInt ∧ (x_357 : Int32).toInt + 1 ≤ (sv_365 : Int32).toInt)) := he_375
              have pf_371 : (x_357 : Int32).toInt ≤ (sv_365 : Int32).toInt ∧ (sv_365 : Int32).toInt ≤ ((Mv 0) : Int32).toInt := pf_371
              have pf_372 : (vy_31 : Int32).toInt ≤ (sv_368 : Int32).toInt ∧ (sv_368 : Int32).toInt ≤ 60 := pf_372
              have pf_373 : Agr vy_32 sv_369 (400 * ((Mv 5) : Int32).toInt + (vy_33 (Mv 5).toNatClampNeg).toInt) := pf_373
              refine W.eq (g2 := F0 m 89 ls [.int r_374]) rfl ?_
              replace hP : va_P D classes [((Ma 0), .inr (12, [.ref (Ma 1), .int (Mv 0), .int (Mv 1), .ref (Ma 2), .ref (Ma 3), .ref (Ma 4), .ref (Ma 5), .ref (Ma 6), .int sv_365, .int sv_366, .int sv_367, .int (Mv 5), .int sv_368, .int (Mv 7), .int (Mv 8), .ref (Ma 7), .int (Mv 9), .ref (Ma 8), .int (Mv 10), .ref (Ma 9), .ref (Ma 10), .int (Mv 11), .int (Mv 12), .int (Mv 13), .ref (Ma 11), .int (Mv 14), .ref (Ma 12), .ref (Ma 13), .ref (Ma 14), .ref (Ma 15), .ref (Ma 16), .long (Mj 0), .ref (Ma 17), .ref (Ma 18), .ref (Ma 19), .ref (Ma 20)])), ((Ma 1), .inl (tc 2, 400, .inl (Mf 1))), ((Ma 2), .inl (tc 0, 2400, .inl sv_369)), ((Ma 3), .inl (tc 0, 7, .inl sv_370))] H := hP₀
              replace hD : va_D A [((Ma 0), .inr (12, [.ref (Ma 1), .int (Mv 0), .int (Mv 1), .ref (Ma 2), .ref (Ma 3), .ref (Ma 4), .ref (Ma 5), .ref (Ma 6), .int sv_365, .int sv_366, .int sv_367, .int (Mv 5), .int sv_368, .int (Mv 7), .int (Mv 8), .ref (Ma 7), .int (Mv 9), .ref (Ma 8), .int (Mv 10), .ref (Ma 9), .ref (Ma 10), .int (Mv 11), .int (Mv 12), .int (Mv 13), .ref (Ma 11), .int (Mv 14), .ref (Ma 12), .ref (Ma 13), .ref (Ma 14), .ref (Ma 15), .ref (Ma 16), .long (Mj 0), .ref (Ma 17), .ref (Ma 18), .ref (Ma 19), .ref (Ma 20)])), ((Ma 1), .inl (tc 2, 400, .inl (Mf 1))), ((Ma 2), .inl (tc 0, 2400, .inl sv_369)), ((Ma 3), .inl (tc 0, 7, .inl sv_370))] := hD₀
              replace hS := hS₀
              clear hP₀ hD₀ hS₀
              refine lv_if_ne (tgt := 94) hx hb dX12_term_89 (by decide) (fun c_379 => ?_) (fun c_379 => ?_)
              · skip
                have hz_382 : (r_374 : Int32).toInt = 1 := by
                  have z_1 : ¬ (r_13 : Int32).toInt = (0 : Int32).toInt := fun z => c_18 (Int32.toInt_inj.mp z)
                  have z_2 : ¬ (r_52 : Int32).toInt = (42 : Int32).toInt := fun z => c_55 (Int32.toInt_inj.mp z)
                  have z_3 := congrArg Int32.toInt c_240
                  have z_4 := congrArg Int32.toInt c_243
                  have z_5 : ¬ (r_374 : Int32).toInt = (0 : Int32).toInt := fun z => c_379 (Int32.toInt_inj.mp z)
                  have y_0 : (0 : Int32).toInt = 0 := by decide
                  have y_42 : (42 : Int32).toInt = 42 := by decide
                  have y_47 : (47 : Int32).toInt = 47 := by decide
                  omega
                obtain ⟨pf_380, pf_381⟩ := hm_377 hz_382
                have pf_380 : Cd sv_369 sv_370 (Mv 5) b sv_368 ((d + 1) + 1) := pf_380
                have ar_pf_380 := Cd.ar pf_380
                have pf_381 : RfO (pz_val (rB (Mf 1) (Mv 0)) (St0 (rB (Mf 1) (Mv 0)) x_357 vy_31)) (rB (Mf 1) (Mv 0)) sv_366 sv_365 sv_368 := pf_381
                have ar_pf_381 := RfO.wr pf_381
                refine lv_aload_n hx hb dX12_term_94 rfl (lv_at hl 1 rfl) ?_
                refine lv_iload_n hx hb dX12_term_95 rfl (lv_at hl 0 rfl) ?_
                refine lv_iconst (v := 0) hx hb dX12_term_96 (by decide) ?_
                have ha_383 : ((d + 1) : Int) ≤ sv_368.toInt := by
                  have z_1 : ¬ (r_13 : Int32).toInt = (0 : Int32).toInt := fun z => c_18 (Int32.toInt_inj.mp z)
                  have z_2 : ¬ (r_52 : Int32).toInt = (42 : Int32).toInt := fun z => c_55 (Int32.toInt_inj.mp z)
                  have z_3 := congrArg Int32.toInt c_240
                  have z_4 := congrArg Int32.toInt c_243
                  have z_5 : ¬ (r_374 : Int32).toInt = (0 : Int32).toInt := fun z => c_379 (Int32.toInt_inj.mp z)
                  have y_0 : (0 : Int32).toInt = 0 := by decide
                  have y_42 : (42 : Int32).toInt = 42 := by decide
                  have y_47 : (47 : Int32).toInt = 47 := by decide
                  omega
                have ha_384 : (sv_370 (Mv 5).toNatClampNeg).toInt < 400 := by
                  have z_1 : ¬ (r_13 : Int32).toInt = (0 : Int32).toInt := fun z => c_18 (Int32.toInt_inj.mp z)
                  have z_2 : ¬ (r_52 : Int32).toInt = (42 : Int32).toInt := fun z => c_55 (Int32.toInt_inj.mp z)
                  have z_3 := congrArg Int32.toInt c_240
                  have z_4 := congrArg Int32.toInt c_243
                  have z_5 : ¬ (r_374 : Int32).toInt = (0 : Int32).toInt := fun z => c_379 (Int32.toInt_inj.mp z)
                  have y_0 : (0 : Int32).toInt = 0 := by decide
                  have y_42 : (42 : Int32).toInt = 42 := by decide
                  have y_47 : (47 : Int32).toInt = 47 := by decide
                  omega
                refine cV (a := (Ma 0)) (As := [.int 4, .int 0]) (rest := []) (wr := [((Ma 1), .inl (tc 2, 400, .inl (Mf 1)))]) ⟨hx, hb, hml, hown, hts⟩ hK hX hA (cu_X12_puts l D tc sk (Ma 0) (Ma 1) (Ma 2) (Ma 3) (Ma 4) (Ma 5) (Ma 6) (Ma 7) (Ma 8) (Ma 9) (Ma 10) (Ma 11) (Ma 12) (Ma 13) (Ma 14) (Ma 15) (Ma 16) (Ma 17) (Ma 18) (Ma 19) (Ma 20) (Mv 0) (Mv 1) sv_365 sv_366 sv_367 (Mv 5) sv_368 (Mv 7) (Mv 8) (Mv 9) (Mv 10) (Mv 11) (Mv 12) (Mv 13) (Mv 14) sv_369 sv_370 (Mj 0) 4 0 b sv_368 ((d + 1) + 1) (d + 1) pf_380 (StpR.op (by decide) rfl (by omega)) ha_383 ha_384) k_1296 k_1293 k_1295 k_46 k_106 pl_X12_puts ⟨Nat.le_of_ble_eq_true rfl, Nat.le_of_ble_eq_true rfl⟩ rfl rfl (va_recv hK hP (ci := 12) (q0 := 0) rfl rfl) hP hD hS [0, 2, 3] [1] rfl rfl rfl rfl rfl (by decide) rfl hl.1 rfl (Nat.le_of_ble_eq_true rfl) dX12_term_97 ⟨Nat.le_of_ble_eq_true rfl, Nat.le_of_ble_eq_true rfl⟩ (fun v_385 u_386 H locs hv_387 hP₀ hD₀ hS₀ => ?_)
                obtain ⟨sv_388, sv_389⟩ := u_386
                obtain ⟨rfl, pf_390, pf_391, pf_392⟩ := hv_387
                have pf_390 : Cd sv_388 sv_389 (Mv 5) b sv_368 (d + 1) := pf_390
                have ar_pf_390 := Cd.ar pf_390
                have pf_391 : Agr sv_369 sv_388 (400 * ((Mv 5) : Int32).toInt + (sv_370 (Mv 5).toNatClampNeg).toInt) := pf_391
                have pf_392 : (sv_389 (Mv 5).toNatClampNeg).toInt = (sv_370 (Mv 5).toNatClampNeg).toInt + 1 := pf_392
                refine W.eq (g2 := F0 m 100 ls []) rfl ?_
                replace hP : va_P D classes [((Ma 1), .inl (tc 2, 400, .inl (Mf 1))), ((Ma 0), .inr (12, [.ref (Ma 1), .int (Mv 0), .int (Mv 1), .ref (Ma 2), .ref (Ma 3), .ref (Ma 4), .ref (Ma 5), .ref (Ma 6), .int sv_365, .int sv_366, .int sv_367, .int (Mv 5), .int sv_368, .int (Mv 7), .int (Mv 8), .ref (Ma 7), .int (Mv 9), .ref (Ma 8), .int (Mv 10), .ref (Ma 9), .ref (Ma 10), .int (Mv 11), .int (Mv 12), .int (Mv 13), .ref (Ma 11), .int (Mv 14), .ref (Ma 12), .ref (Ma 13), .ref (Ma 14), .ref (Ma 15), .ref (Ma 16), .long (Mj 0), .ref (Ma 17), .ref (Ma 18), .ref (Ma 19), .ref (Ma 20)])), ((Ma 2), .inl (tc 0, 2400, .inl sv_388)), ((Ma 3), .inl (tc 0, 7, .inl sv_389))] H := hP₀
                replace hD : va_D A [((Ma 1), .inl (tc 2, 400, .inl (Mf 1))), ((Ma 0), .inr (12, [.ref (Ma 1), .int (Mv 0), .int (Mv 1), .ref (Ma 2), .ref (Ma 3), .ref (Ma 4), .ref (Ma 5), .ref (Ma 6), .int sv_365, .int sv_366, .int sv_367, .int (Mv 5), .int sv_368, .int (Mv 7), .int (Mv 8), .ref (Ma 7), .int (Mv 9), .ref (Ma 8), .int (Mv 10), .ref (Ma 9), .ref (Ma 10), .int (Mv 11), .int (Mv 12), .int (Mv 13), .ref (Ma 11), .int (Mv 14), .ref (Ma 12), .ref (Ma 13), .ref (Ma 14), .ref (Ma 15), .ref (Ma 16), .long (Mj 0), .ref (Ma 17), .ref (Ma 18), .ref (Ma 19), .ref (Ma 20)])), ((Ma 2), .inl (tc 0, 2400, .inl sv_388)), ((Ma 3), .inl (tc 0, 7, .inl sv_389))] := hD₀
                replace hS := hS₀
                clear hP₀ hD₀ hS₀
                refine lv_goto (tgt := 9) hx hb dX12_term_100 (by decide) ?_
                have hb_393 : 400 - (sv_365 : Int32).toInt < 400 - (vy_28 : Int32).toInt ∧ 1 ≤ 400 - (vy_28 : Int32).toInt := by
                  have z_1 : ¬ (r_13 : Int32).toInt = (0 : Int32).toInt := fun z => c_18 (Int32.toInt_inj.mp z)
                  have z_2 : ¬ (r_52 : Int32).toInt = (42 : Int32).toInt := fun z => c_55 (Int32.toInt_inj.mp z)
                  have z_3 := congrArg Int32.toInt c_240
                  have z_4 := congrArg Int32.toInt c_243
                  have z_5 : ¬ (r_374 : Int32).toInt = (0 : Int32).toInt := fun z => c_379 (Int32.toInt_inj.mp z)
                  have y_0 : (0 : Int32).toInt = 0 := by decide
                  have y_42 : (42 : Int32).toInt = 42 := by decide
                  have y_47 : (47 : Int32).toInt = 47 := by decide
                  omega
                have ha_394 : 0 ≤ (sv_365 : Int32).toInt ∧ (sv_365 : Int32).toInt ≤ ((Mv 0) : Int32).toInt ∧ ((Mv 0) : Int32).toInt ≤ 400 := by
                  have z_1 : ¬ (r_13 : Int32).toInt = (0 : Int32).toInt := fun z => c_18 (Int32.toInt_inj.mp z)
                  have z_2 : ¬ (r_52 : Int32).toInt = (42 : Int32).toInt := fun z => c_55 (Int32.toInt_inj.mp z)
                  have z_3 := congrArg Int32.toInt c_240
                  have z_4 := congrArg Int32.toInt c_243
                  have z_5 : ¬ (r_374 : Int32).toInt = (0 : Int32).toInt := fun z => c_379 (Int32.toInt_inj.mp z)
                  have y_0 : (0 : Int32).toInt = 0 := by decide
                  have y_42 : (42 : Int32).toInt = 42 := by decide
                  have y_47 : (47 : Int32).toInt = 47 := by decide
                  omega
                have ha_395 : (Mv 6).toInt ≤ (sv_368 : Int32).toInt ∧ (sv_368 : Int32).toInt ≤ 60 := by
                  have z_1 : ¬ (r_13 : Int32).toInt = (0 : Int32).toInt := fun z => c_18 (Int32.toInt_inj.mp z)
                  have z_2 : ¬ (r_52 : Int32).toInt = (42 : Int32).toInt := fun z => c_55 (Int32.toInt_inj.mp z)
                  have z_3 := congrArg Int32.toInt c_240
                  have z_4 := congrArg Int32.toInt c_243
                  have z_5 : ¬ (r_374 : Int32).toInt = (0 : Int32).toInt := fun z => c_379 (Int32.toInt_inj.mp z)
                  have y_0 : (0 : Int32).toInt = 0 := by decide
                  have y_42 : (42 : Int32).toInt = 42 := by decide
                  have y_47 : (47 : Int32).toInt = 47 := by decide
                  omega
                have ha_396 : ((Mf 3) (Mv 5).toNatClampNeg).toInt + 1 ≤ (sv_389 (Mv 5).toNatClampNeg).toInt ∧ (sv_389 (Mv 5).toNatClampNeg).toInt + ((Mv 2) : Int32).toInt ≤ ((Mf 3) (Mv 5).toNatClampNeg).toInt + (sv_365 : Int32).toInt ∧ ((Mv 2) : Int32).toInt + 1 ≤ (sv_365 : Int32).toInt := by
                  have z_1 : ¬ (r_13 : Int32).toInt = (0 : Int32).toInt := fun z => c_18 (Int32.toInt_inj.mp z)
                  have z_2 : ¬ (r_52 : Int32).toInt = (42 : Int32).toInt := fun z => c_55 (Int32.toInt_inj.mp z)
                  have z_3 := congrArg Int32.toInt c_240
                  have z_4 := congrArg Int32.toInt c_243
                  have z_5 : ¬ (r_374 : Int32).toInt = (0 : Int32).toInt := fun z => c_379 (Int32.toInt_inj.mp z)
                  have y_0 : (0 : Int32).toInt = 0 := by decide
                  have y_42 : (42 : Int32).toInt = 42 := by decide
                  have y_47 : (47 : Int32).toInt = 47 := by decide
                  omega
                have hr_397 : (400 * ((Mv 5) : Int32).toInt + ((Mf 3) (Mv 5).toNatClampNeg).toInt) ≤ (400 * ((Mv 5) : Int32).toInt + ((Mf 3) (Mv 5).toNatClampNeg).toInt) := by
                  have z_1 : ¬ (r_13 : Int32).toInt = (0 : Int32).toInt := fun z => c_18 (Int32.toInt_inj.mp z)
                  have z_2 : ¬ (r_52 : Int32).toInt = (42 : Int32).toInt := fun z => c_55 (Int32.toInt_inj.mp z)
                  have z_3 := congrArg Int32.toInt c_240
                  have z_4 := congrArg Int32.toInt c_243
                  have z_5 : ¬ (r_374 : Int32).toInt = (0 : Int32).toInt := fun z => c_379 (Int32.toInt_inj.mp z)
                  have y_0 : (0 : Int32).toInt = 0 := by decide
                  have y_42 : (42 : Int32).toInt = 42 := by decide
                  have y_47 : (47 : Int32).toInt = 47 := by decide
                  omega
                have hr_398 : (400 * ((Mv 5) : Int32).toInt + ((Mf 3) (Mv 5).toNatClampNeg).toInt) ≤ (400 * ((Mv 5) : Int32).toInt + (vy_33 (Mv 5).toNatClampNeg).toInt) := by
                  have z_1 : ¬ (r_13 : Int32).toInt = (0 : Int32).toInt := fun z => c_18 (Int32.toInt_inj.mp z)
                  have z_2 : ¬ (r_52 : Int32).toInt = (42 : Int32).toInt := fun z => c_55 (Int32.toInt_inj.mp z)
                  have z_3 := congrArg Int32.toInt c_240
                  have z_4 := congrArg Int32.toInt c_243
                  have z_5 : ¬ (r_374 : Int32).toInt = (0 : Int32).toInt := fun z => c_379 (Int32.toInt_inj.mp z)
                  have y_0 : (0 : Int32).toInt = 0 := by decide
                  have y_42 : (42 : Int32).toInt = 42 := by decide
                  have y_47 : (47 : Int32).toInt = 47 := by decide
                  omega
                have hr_399 : (400 * ((Mv 5) : Int32).toInt + ((Mf 3) (Mv 5).toNatClampNeg).toInt) ≤ (400 * ((Mv 5) : Int32).toInt + (sv_370 (Mv 5).toNatClampNeg).toInt) := by
                  have z_1 : ¬ (r_13 : Int32).toInt = (0 : Int32).toInt := fun z => c_18 (Int32.toInt_inj.mp z)
                  have z_2 : ¬ (r_52 : Int32).toInt = (42 : Int32).toInt := fun z => c_55 (Int32.toInt_inj.mp z)
                  have z_3 := congrArg Int32.toInt c_240
                  have z_4 := congrArg Int32.toInt c_243
                  have z_5 : ¬ (r_374 : Int32).toInt = (0 : Int32).toInt := fun z => c_379 (Int32.toInt_inj.mp z)
                  have y_0 : (0 : Int32).toInt = 0 := by decide
                  have y_42 : (42 : Int32).toInt = 42 := by decide
                  have y_47 : (47 : Int32).toInt = 47 := by decide
                  omega
                have hr_400 : (rB (Mf 1) (Mv 0) (sv_231 : Int32).toInt.toNat = 43 ∨ rB (Mf 1) (Mv 0) (sv_231 : Int32).toInt.toNat = 45 ∨ rB (Mf 1) (Mv 0) (sv_231 : Int32).toInt.toNat = 42 ∨ rB (Mf 1) (Mv 0) (sv_231 : Int32).toInt.toNat = 47 ∨ rB (Mf 1) (Mv 0) (sv_231 : Int32).toInt.toNat = 37) := by
                  have z_1 : ¬ (r_13 : Int32).toInt = (0 : Int32).toInt := fun z => c_18 (Int32.toInt_inj.mp z)
                  have z_2 : ¬ (r_52 : Int32).toInt = (42 : Int32).toInt := fun z => c_55 (Int32.toInt_inj.mp z)
                  have z_3 := congrArg Int32.toInt c_240
                  have z_4 := congrArg Int32.toInt c_243
                  have z_5 : ¬ (r_374 : Int32).toInt = (0 : Int32).toInt := fun z => c_379 (Int32.toInt_inj.mp z)
                  have y_0 : (0 : Int32).toInt = 0 := by decide
                  have y_42 : (42 : Int32).toInt = 42 := by decide
                  have y_47 : (47 : Int32).toInt = 47 := by decide
                  omega
                have hi_401 : (x_357 : Int32).toInt = (sv_231 : Int32).toInt + 1 := by
                  have z_1 : ¬ (r_13 : Int32).toInt = (0 : Int32).toInt := fun z => c_18 (Int32.toInt_inj.mp z)
                  have z_2 : ¬ (r_52 : Int32).toInt = (42 : Int32).toInt := fun z => c_55 (Int32.toInt_inj.mp z)
                  have z_3 := congrArg Int32.toInt c_240
                  have z_4 := congrArg Int32.toInt c_243
                  have z_5 : ¬ (r_374 : Int32).toInt = (0 : Int32).toInt := fun z => c_379 (Int32.toInt_inj.mp z)
                  have y_0 : (0 : Int32).toInt = 0 := by decide
                  have y_42 : (42 : Int32).toInt = 42 := by decide
                  have y_47 : (47 : Int32).toInt = 47 := by decide
                  have y_1 : (1 : Int32).toInt = 1 := by decide
                  have t_x_357 : x_357.toInt = (sv_231 : Int32).toInt + (1 : Int32).toInt := by rw [ex_357]; exact add_toInt (by omega) (by omega)
                  omega
                exact ih_35 sv_365 sv_366 sv_367 sv_368 sv_388 sv_389 _ _ _ (by omega) ha_394 ha_395 ha_396 (Agr.trans (k' := (400 * ((Mv 5) : Int32).toInt + ((Mf 3) (Mv 5).toNatClampNeg).toInt)) (Agr.trans (k' := (400 * ((Mv 5) : Int32).toInt + ((Mf 3) (Mv 5).toNatClampNeg).toInt)) (Agr.mono pf_40 hr_397) pf_373 ⟨Int.le_refl _, hr_398⟩) pf_391 ⟨Int.le_refl _, hr_399⟩) pf_390 (TmL.next (rB_fi h_nx.2.2) pf_42 (SkR.trans pf_51 pf_235) hr_400 hi_401 pf_381) (hP.sub [1, 0, 2, 3] rfl) (hD.sub [1, 0, 2, 3] rfl rfl) hS (lv_sub hl [1] rfl)
              · skip
                have hz_403 : (r_374 : Int32).toInt = 0 := by
                  have z_1 : ¬ (r_13 : Int32).toInt = (0 : Int32).toInt := fun z => c_18 (Int32.toInt_inj.mp z)
                  have z_2 : ¬ (r_52 : Int32).toInt = (42 : Int32).toInt := fun z => c_55 (Int32.toInt_inj.mp z)
                  have z_3 := congrArg Int32.toInt c_240
                  have z_4 := congrArg Int32.toInt c_243
                  have z_5 := congrArg Int32.toInt c_379
                  have y_0 : (0 : Int32).toInt = 0 := by decide
                  have y_42 : (42 : Int32).toInt = 42 := by decide
                  have y_47 : (47 : Int32).toInt = 47 := by decide
                  omega
                obtain pf_402 := hm_378 hz_403
                have pf_402 : RfE (pz_val (rB (Mf 1) (Mv 0)) (St0 (rB (Mf 1) (Mv 0)) x_357 vy_31)) sv_366 := pf_402
                refine lv_iconst (v := 0) hx hb dX12_term_92 (by decide) ?_
                have ha_404 : ((Mv 2) : Int32).toInt ≤ (sv_365 : Int32).toInt ∧ (sv_365 : Int32).toInt ≤ ((Mv 0) : Int32).toInt := by
                  have z_1 : ¬ (r_13 : Int32).toInt = (0 : Int32).toInt := fun z => c_18 (Int32.toInt_inj.mp z)
                  have z_2 : ¬ (r_52 : Int32).toInt = (42 : Int32).toInt := fun z => c_55 (Int32.toInt_inj.mp z)
                  have z_3 := congrArg Int32.toInt c_240
                  have z_4 := congrArg Int32.toInt c_243
                  have z_5 := congrArg Int32.toInt c_379
                  have y_0 : (0 : Int32).toInt = 0 := by decide
                  have y_42 : (42 : Int32).toInt = 42 := by decide
                  have y_47 : (47 : Int32).toInt = 47 := by decide
                  omega
                have ha_405 : ((Mv 6) : Int32).toInt ≤ (sv_368 : Int32).toInt ∧ (sv_368 : Int32).toInt ≤ 60 := by
                  have z_1 : ¬ (r_13 : Int32).toInt = (0 : Int32).toInt := fun z => c_18 (Int32.toInt_inj.mp z)
                  have z_2 : ¬ (r_52 : Int32).toInt = (42 : Int32).toInt := fun z => c_55 (Int32.toInt_inj.mp z)
                  have z_3 := congrArg Int32.toInt c_240
                  have z_4 := congrArg Int32.toInt c_243
                  have z_5 := congrArg Int32.toInt c_379
                  have y_0 : (0 : Int32).toInt = 0 := by decide
                  have y_42 : (42 : Int32).toInt = 42 := by decide
                  have y_47 : (47 : Int32).toInt = 47 := by decide
                  omega
                have hr_406 : (400 * ((Mv 5) : Int32).toInt + ((Mf 3) (Mv 5).toNatClampNeg).toInt) ≤ (400 * ((Mv 5) : Int32).toInt + ((Mf 3) (Mv 5).toNatClampNeg).toInt) := by
                  have z_1 : ¬ (r_13 : Int32).toInt = (0 : Int32).toInt := fun z => c_18 (Int32.toInt_inj.mp z)
                  have z_2 : ¬ (r_52 : Int32).toInt = (42 : Int32).toInt := fun z => c_55 (Int32.toInt_inj.mp z)
                  have z_3 := congrArg Int32.toInt c_240
                  have z_4 := congrArg Int32.toInt c_243
                  have z_5 := congrArg Int32.toInt c_379
                  have y_0 : (0 : Int32).toInt = 0 := by decide
                  have y_42 : (42 : Int32).toInt = 42 := by decide
                  have y_47 : (47 : Int32).toInt = 47 := by decide
                  omega
                have hr_407 : (400 * ((Mv 5) : Int32).toInt + ((Mf 3) (Mv 5).toNatClampNeg).toInt) ≤ (400 * ((Mv 5) : Int32).toInt + (vy_33 (Mv 5).toNatClampNeg).toInt) := by
                  have z_1 : ¬ (r_13 : Int32).toInt = (0 : Int32).toInt := fun z => c_18 (Int32.toInt_inj.mp z)
                  have z_2 : ¬ (r_52 : Int32).toInt = (42 : Int32).toInt := fun z => c_55 (Int32.toInt_inj.mp z)
                  have z_3 := congrArg Int32.toInt c_240
                  have z_4 := congrArg Int32.toInt c_243
                  have z_5 := congrArg Int32.toInt c_379
                  have y_0 : (0 : Int32).toInt = 0 := by decide
                  have y_42 : (42 : Int32).toInt = 42 := by decide
                  have y_47 : (47 : Int32).toInt = 47 := by decide
                  omega
                have hp_408 : (((0 : Int32).toInt = 0 ∧ ¬ (sv_366 : Int32).toInt = 0) ∨ ((0 : Int32).toInt = 1 ∧ ((Mf 3) (Mv 5).toNatClampNeg).toInt + 1 ≤ (sv_370 (Mv 5).toNatClampNeg).toInt ∧ (sv_370 (Mv 5).toNatClampNeg).toInt + ((Mv 2) : Int32).toInt ≤ ((Mf 3) (Mv 5).toNatClampNeg).toInt + (sv_365 : Int32).toInt ∧ ((Mv 2) : Int32).toInt + 1 ≤ (sv_365 : Int32).toInt)) := by
                  have z_1 : ¬ (r_13 : Int32).toInt = (0 : Int32).toInt := fun z => c_18 (Int32.toInt_inj.mp z)
                  have z_2 : ¬ (r_52 : Int32).toInt = (42 : Int32).toInt := fun z => c_55 (Int32.toInt_inj.mp z)
                  have z_3 := congrArg Int32.toInt c_240
                  have z_4 := congrArg Int32.toInt c_243
                  have z_5 := congrArg Int32.toInt c_379
                  have y_0 : (0 : Int32).toInt = 0 := by decide
                  have y_42 : (42 : Int32).toInt = 42 := by decide
                  have y_47 : (47 : Int32).toInt = 47 := by decide
                  omega
                have hm_409 : (0 : Int32).toInt = 0 → (RfE (pz_sum (rB (Mf 1) (Mv 0)) (St0 (rB (Mf 1) (Mv 0)) (Mv 2) (Mv 6))) sv_366) := by
                  intro h1r
                  have hr_410 : (rB (Mf 1) (Mv 0) (sv_231 : Int32).toInt.toNat = 43 ∨ rB (Mf 1) (Mv 0) (sv_231 : Int32).toInt.toNat = 45 ∨ rB (Mf 1) (Mv 0) (sv_231 : Int32).toInt.toNat = 42 ∨ rB (Mf 1) (Mv 0) (sv_231 : Int32).toInt.toNat = 47 ∨ rB (Mf 1) (Mv 0) (sv_231 : Int32).toInt.toNat = 37) := by
                    have z_1 : ¬ (r_13 : Int32).toInt = (0 : Int32).toInt := fun z => c_18 (Int32.toInt_inj.mp z)
                    have z_2 : ¬ (r_52 : Int32).toInt = (42 : Int32).toInt := fun z => c_55 (Int32.toInt_inj.mp z)
                    have z_3 := congrArg Int32.toInt c_240
                    have z_4 := congrArg Int32.toInt c_243
                    have z_5 := congrArg Int32.toInt c_379
                    have y_0 : (0 : Int32).toInt = 0 := by decide
                    have y_42 : (42 : Int32).toInt = 42 := by decide
                    have y_47 : (47 : Int32).toInt = 47 := by decide
                    omega
                  have hi_411 : (x_357 : Int32).toInt = (sv_231 : Int32).toInt + 1 := by
                    have z_1 : ¬ (r_13 : Int32).toInt = (0 : Int32).toInt := fun z => c_18 (Int32.toInt_inj.mp z)
                    have z_2 : ¬ (r_52 : Int32).toInt = (42 : Int32).toInt := fun z => c_55 (Int32.toInt_inj.mp z)
                    have z_3 := congrArg Int32.toInt c_240
                    have z_4 := congrArg Int32.toInt c_243
                    have z_5 := congrArg Int32.toInt c_379
                    have y_0 : (0 : Int32).toInt = 0 := by decide
                    have y_42 : (42 : Int32).toInt = 42 := by decide
                    have y_47 : (47 : Int32).toInt = 47 := by decide
                    have y_1 : (1 : Int32).toInt = 1 := by decide
                    have t_x_357 : x_357.toInt = (sv_231 : Int32).toInt + (1 : Int32).toInt := by rw [ex_357]; exact add_toInt (by omega) (by omega)
                    omega
                  exact (TmL.er (rB_fi h_nx.2.2) pf_42 (SkR.trans pf_51 pf_235) hr_410 hi_411 pf_402)
                exact retI (v := 0) hx hb hr hlk (rfl) hP hD hS (sv_365, sv_366, sv_367, sv_368, sv_369, sv_370) ⟨_, rfl, hp_408, ha_404, ha_405, (Agr.trans (k' := (400 * ((Mv 5) : Int32).toInt + ((Mf 3) (Mv 5).toNatClampNeg).toInt)) (Agr.mono pf_40 hr_406) pf_373 ⟨Int.le_refl _, hr_407⟩), (fun h => absurd h (by decide)), hm_409⟩ [0, 1, 2, 3] rfl rfl dX12_term_93 (Nat.le_of_ble_eq_true rfl) (Nat.le_of_ble_eq_true rfl) rfl
          · skip
            refine lv_aload_n hx hb dX12_term_27 rfl (lv_at hl 0 rfl) ?_
            have ha_412 : 0 ≤ (sv_231 : Int32).toInt ∧ (sv_231 : Int32).toInt ≤ ((Mv 0) : Int32).toInt ∧ ((Mv 0) : Int32).toInt ≤ 400 := by
              have z_1 : ¬ (r_13 : Int32).toInt = (0 : Int32).toInt := fun z => c_18 (Int32.toInt_inj.mp z)
              have z_2 : ¬ (r_52 : Int32).toInt = (42 : Int32).toInt := fun z => c_55 (Int32.toInt_inj.mp z)
              have z_3 : ¬ (r_236 : Int32).toInt = (47 : Int32).toInt := fun z => c_240 (Int32.toInt_inj.mp z)
              have y_0 : (0 : Int32).toInt = 0 := by decide
              have y_42 : (42 : Int32).toInt = 42 := by decide
              have y_47 : (47 : Int32).toInt = 47 := by decide
              omega
            refine cV (a := (Ma 0)) (As := []) (rest := []) (wr := [((Ma 2), .inl (tc 0, 2400, .inl vy_32)), ((Ma 3), .inl (tc 0, 7, .inl vy_33))]) ⟨hx, hb, hml, hown, hts⟩ hK hX hA (cu_fX12_see l D tc sk (Ma 0) (Ma 1) (Ma 2) (Ma 3) (Ma 4) (Ma 5) (Ma 6) (Ma 7) (Ma 8) (Ma 9) (Ma 10) (Ma 11) (Ma 12) (Ma 13) (Ma 14) (Ma 15) (Ma 16) (Ma 17) (Ma 18) (Ma 19) (Ma 20) (Mv 0) (Mv 1) sv_231 vy_29 vy_30 (Mv 5) vy_31 (Mv 7) (Mv 8) (Mv 9) (Mv 10) (Mv 11) (Mv 12) (Mv 13) (Mv 14) (Mf 1) (Mj 0) ha_412 h_bs) k_1211 k_1208 k_1210 k_27 k_106 pl_X12_see ⟨Nat.le_of_ble_eq_true rfl, Nat.le_of_ble_eq_true rfl⟩ rfl rfl (va_recv hK hP (ci := 12) (q0 := 2) rfl rfl) hP hD hS [2, 3] [0, 1] rfl rfl rfl rfl rfl (by decide) rfl hl.1 rfl (Nat.le_of_ble_eq_true rfl) dX12_term_28 ⟨Nat.le_of_ble_eq_true rfl, Nat.le_of_ble_eq_true rfl⟩ (fun v_413 u_414 H locs hv_415 hP₀ hD₀ hS₀ => ?_)
            obtain ⟨sv_416, rfl⟩ : ∃ z, z = u_414 := ⟨_, rfl⟩
            obtain ⟨r_421, rfl, he_422, pf_417, pf_418, pf_419, pf_420⟩ := hv_415
            have he_422 : (r_421.toInt = rB (Mf 1) (Mv 0) (sv_416 : Int32).toInt.toNat ∧ (r_421.toInt = -1 ∨ (sv_416 : Int32).toInt < (Mv 0).toInt)) := he_422
            have pf_417 : (sv_231 : Int32).toInt ≤ (sv_416 : Int32).toInt ∧ (sv_416 : Int32).toInt ≤ ((Mv 0) : Int32).toInt := pf_417
            have pf_418 : NSq (Mf 1) (Mv 0) sv_416 := pf_418
            have pf_419 : Stl (Mf 1) (Mv 0) sv_231 sv_416 := pf_419
            have ar_pf_419 := Stl.or pf_419 pf_233
            have pf_420 : SkR (rB (Mf 1) (Mv 0)) sv_231 sv_416 := pf_420
            refine W.eq (g2 := F0 m 31 ls [.int r_421]) rfl ?_
            replace hP : va_P D classes [((Ma 2), .inl (tc 0, 2400, .inl vy_32)), ((Ma 3), .inl (tc 0, 7, .inl vy_33)), ((Ma 0), .inr (12, [.ref (Ma 1), .int (Mv 0), .int (Mv 1), .ref (Ma 2), .ref (Ma 3), .ref (Ma 4), .ref (Ma 5), .ref (Ma 6), .int sv_416, .int vy_29, .int vy_30, .int (Mv 5), .int vy_31, .int (Mv 7), .int (Mv 8), .ref (Ma 7), .int (Mv 9), .ref (Ma 8), .int (Mv 10), .ref (Ma 9), .ref (Ma 10), .int (Mv 11), .int (Mv 12), .int (Mv 13), .ref (Ma 11), .int (Mv 14), .ref (Ma 12), .ref (Ma 13), .ref (Ma 14), .ref (Ma 15), .ref (Ma 16), .long (Mj 0), .ref (Ma 17), .ref (Ma 18), .ref (Ma 19), .ref (Ma 20)])), ((Ma 1), .inl (tc 2, 400, .inl (Mf 1)))] H := hP₀
            replace hD : va_D A [((Ma 2), .inl (tc 0, 2400, .inl vy_32)), ((Ma 3), .inl (tc 0, 7, .inl vy_33)), ((Ma 0), .inr (12, [.ref (Ma 1), .int (Mv 0), .int (Mv 1), .ref (Ma 2), .ref (Ma 3), .ref (Ma 4), .ref (Ma 5), .ref (Ma 6), .int sv_416, .int vy_29, .int vy_30, .int (Mv 5), .int vy_31, .int (Mv 7), .int (Mv 8), .ref (Ma 7), .int (Mv 9), .ref (Ma 8), .int (Mv 10), .ref (Ma 9), .ref (Ma 10), .int (Mv 11), .int (Mv 12), .int (Mv 13), .ref (Ma 11), .int (Mv 14), .ref (Ma 12), .ref (Ma 13), .ref (Ma 14), .ref (Ma 15), .ref (Ma 16), .long (Mj 0), .ref (Ma 17), .ref (Ma 18), .ref (Ma 19), .ref (Ma 20)])), ((Ma 1), .inl (tc 2, 400, .inl (Mf 1)))] := hD₀
            replace hS := hS₀
            clear hP₀ hD₀ hS₀
            have hE_424 := SkR.eqB pf_235 pf_420
            refine lv_bipush (v := 37) hx hb dX12_term_31 (by decide) ?_
            refine lv_icmp_ne (tgt := 103) hx hb dX12_term_33 (by decide) (fun c_425 => ?_) (fun c_425 => ?_)
            · skip
              refine lv_iconst (v := 1) hx hb dX12_term_103 (by decide) ?_
              have ha_426 : ((Mv 2) : Int32).toInt ≤ (sv_416 : Int32).toInt ∧ (sv_416 : Int32).toInt ≤ ((Mv 0) : Int32).toInt := by
                have z_1 : ¬ (r_13 : Int32).toInt = (0 : Int32).toInt := fun z => c_18 (Int32.toInt_inj.mp z)
                have z_2 : ¬ (r_52 : Int32).toInt = (42 : Int32).toInt := fun z => c_55 (Int32.toInt_inj.mp z)
                have z_3 : ¬ (r_236 : Int32).toInt = (47 : Int32).toInt := fun z => c_240 (Int32.toInt_inj.mp z)
                have z_4 : ¬ (r_421 : Int32).toInt = (37 : Int32).toInt := fun z => c_425 (Int32.toInt_inj.mp z)
                have y_0 : (0 : Int32).toInt = 0 := by decide
                have y_37 : (37 : Int32).toInt = 37 := by decide
                have y_42 : (42 : Int32).toInt = 42 := by decide
                have y_47 : (47 : Int32).toInt = 47 := by decide
                omega
              have ha_427 : ((Mv 6) : Int32).toInt ≤ (vy_31 : Int32).toInt ∧ (vy_31 : Int32).toInt ≤ 60 := by
                have z_1 : ¬ (r_13 : Int32).toInt = (0 : Int32).toInt := fun z => c_18 (Int32.toInt_inj.mp z)
                have z_2 : ¬ (r_52 : Int32).toInt = (42 : Int32).toInt := fun z => c_55 (Int32.toInt_inj.mp z)
                have z_3 : ¬ (r_236 : Int32).toInt = (47 : Int32).toInt := fun z => c_240 (Int32.toInt_inj.mp z)
                have z_4 : ¬ (r_421 : Int32).toInt = (37 : Int32).toInt := fun z => c_425 (Int32.toInt_inj.mp z)
                have y_0 : (0 : Int32).toInt = 0 := by decide
                have y_37 : (37 : Int32).toInt = 37 := by decide
                have y_42 : (42 : Int32).toInt = 42 := by decide
                have y_47 : (47 : Int32).toInt = 47 := by decide
                omega
              have hp_428 : (((1 : Int32).toInt = 0 ∧ ¬ (vy_29 : Int32).toInt = 0) ∨ ((1 : Int32).toInt = 1 ∧ ((Mf 3) (Mv 5).toNatClampNeg).toInt + 1 ≤ (vy_33 (Mv 5).toNatClampNeg).toInt ∧ (vy_33 (Mv 5).toNatClampNeg).toInt + ((Mv 2) : Int32).toInt ≤ ((Mf 3) (Mv 5).toNatClampNeg).toInt + (sv_416 : Int32).toInt ∧ ((Mv 2) : Int32).toInt + 1 ≤ (sv_416 : Int32).toInt)) := by
                have z_1 : ¬ (r_13 : Int32).toInt = (0 : Int32).toInt := fun z => c_18 (Int32.toInt_inj.mp z)
                have z_2 : ¬ (r_52 : Int32).toInt = (42 : Int32).toInt := fun z => c_55 (Int32.toInt_inj.mp z)
                have z_3 : ¬ (r_236 : Int32).toInt = (47 : Int32).toInt := fun z => c_240 (Int32.toInt_inj.mp z)
                have z_4 : ¬ (r_421 : Int32).toInt = (37 : Int32).toInt := fun z => c_425 (Int32.toInt_inj.mp z)
                have y_0 : (0 : Int32).toInt = 0 := by decide
                have y_37 : (37 : Int32).toInt = 37 := by decide
                have y_42 : (42 : Int32).toInt = 42 := by decide
                have y_47 : (47 : Int32).toInt = 47 := by decide
                have y_1 : (1 : Int32).toInt = 1 := by decide
                have yr : (1 : Int32).toInt = 1 := by decide
                omega
              have hm_429 : (1 : Int32).toInt = 1 → (Cd vy_32 vy_33 (Mv 5) b vy_31 (d + 1)) ∧ (TmO (pz_sum (rB (Mf 1) (Mv 0)) (St0 (rB (Mf 1) (Mv 0)) (Mv 2) (Mv 6))) (rB (Mf 1) (Mv 0)) vy_29 sv_416 vy_31) := by
                intro h1r
                have hr_430 : ¬ (rB (Mf 1) (Mv 0) (sv_416 : Int32).toInt.toNat = 42 ∨ rB (Mf 1) (Mv 0) (sv_416 : Int32).toInt.toNat = 47 ∨ rB (Mf 1) (Mv 0) (sv_416 : Int32).toInt.toNat = 37) := by
                  have z_1 : ¬ (r_13 : Int32).toInt = (0 : Int32).toInt := fun z => c_18 (Int32.toInt_inj.mp z)
                  have z_2 : ¬ (r_52 : Int32).toInt = (42 : Int32).toInt := fun z => c_55 (Int32.toInt_inj.mp z)
                  have z_3 : ¬ (r_236 : Int32).toInt = (47 : Int32).toInt := fun z => c_240 (Int32.toInt_inj.mp z)
                  have z_4 : ¬ (r_421 : Int32).toInt = (37 : Int32).toInt := fun z => c_425 (Int32.toInt_inj.mp z)
                  have y_0 : (0 : Int32).toInt = 0 := by decide
                  have y_37 : (37 : Int32).toInt = 37 := by decide
                  have y_42 : (42 : Int32).toInt = 42 := by decide
                  have y_47 : (47 : Int32).toInt = 47 := by decide
                  omega
                exact ⟨pf_41, (TmO.of pf_42 (SkR.trans (SkR.trans pf_51 pf_235) pf_420) hr_430)⟩
              exact retI (v := 1) hx hb hr hlk (rfl) hP hD hS (sv_416, vy_29, vy_30, vy_31, vy_32, vy_33) ⟨_, rfl, hp_428, ha_426, ha_427, pf_40, hm_429, (fun h => absurd h (by decide))⟩ [2, 3, 0, 1] rfl rfl dX12_term_104 (Nat.le_of_ble_eq_true rfl) (Nat.le_of_ble_eq_true rfl) rfl
            · skip
              refine lv_aload_n hx hb dX12_term_36 rfl (lv_at hl 0 rfl) ?_
              refine gf_X12_7 hx hb hts hown hK hP 2 rfl rfl dX12_term_37 ?_
              refine lv_aload_n hx hb dX12_term_40 rfl (lv_at hl 0 rfl) ?_
              refine gf_X12_87 hx hb hts hown hK hP 2 rfl rfl dX12_term_41 ?_
              have hi_431 : vp_in sv_416 400 := by
                have z_1 : ¬ (r_13 : Int32).toInt = (0 : Int32).toInt := fun z => c_18 (Int32.toInt_inj.mp z)
                have z_2 : ¬ (r_52 : Int32).toInt = (42 : Int32).toInt := fun z => c_55 (Int32.toInt_inj.mp z)
                have z_3 : ¬ (r_236 : Int32).toInt = (47 : Int32).toInt := fun z => c_240 (Int32.toInt_inj.mp z)
                have z_4 := congrArg Int32.toInt c_425
                have y_0 : (0 : Int32).toInt = 0 := by decide
                have y_37 : (37 : Int32).toInt = 37 := by decide
                have y_42 : (42 : Int32).toInt = 42 := by decide
                have y_47 : (47 : Int32).toInt = 47 := by decide
                refine vp_in_iff.mpr ⟨?_, ?_⟩ <;> omega
              refine va_bald hx hb hK hP 3 2 rfl rfl hi_431 dX12_term_44 ?_
              refine lv_topi (fun x_432 ex_432 => ?_)
              have kx_432 : x_432.toInt = ((Mf 1) (sv_416 : Int32).toInt.toNat).toInt := congrArg Int32.toInt ex_432
              have kcx_432 : x_432.toInt = ((Mf 1) (sv_416 : Int32).toNatClampNeg).toInt := congrArg Int32.toInt ex_432
              refine lv_bipush (v := 42) hx hb dX12_term_45 (by decide) ?_
              refine lv_icmp_ne (tgt := 54) hx hb dX12_term_47 (by decide) (fun c_433 => ?_) (fun c_433 => ?_)
              · skip
                refine lv_aload_n hx hb dX12_term_54 rfl (lv_at hl 0 rfl) ?_
                refine gf_X12_7 hx hb hts hown hK hP 2 rfl rfl dX12_term_55 ?_
                refine lv_aload_n hx hb dX12_term_58 rfl (lv_at hl 0 rfl) ?_
                refine gf_X12_87 hx hb hts hown hK hP 2 rfl rfl dX12_term_59 ?_
                have hi_434 : vp_in sv_416 400 := by
                  have z_1 : ¬ (r_13 : Int32).toInt = (0 : Int32).toInt := fun z => c_18 (Int32.toInt_inj.mp z)
                  have z_2 : ¬ (r_52 : Int32).toInt = (42 : Int32).toInt := fun z => c_55 (Int32.toInt_inj.mp z)
                  have z_3 : ¬ (r_236 : Int32).toInt = (47 : Int32).toInt := fun z => c_240 (Int32.toInt_inj.mp z)
                  have z_4 := congrArg Int32.toInt c_425
                  have z_5 : ¬ (x_432 : Int32).toInt = (42 : Int32).toInt := fun z => c_433 (Int32.toInt_inj.mp z)
                  have y_0 : (0 : Int32).toInt = 0 := by decide
                  have y_37 : (37 : Int32).toInt = 37 := by decide
                  have y_42 : (42 : Int32).toInt = 42 := by decide
                  have y_47 : (47 : Int32).toInt = 47 := by decide
                  refine vp_in_iff.mpr ⟨?_, ?_⟩ <;> omega
                refine va_bald hx hb hK hP 3 2 rfl rfl hi_434 dX12_term_62 ?_
                refine lv_topi (fun x_435 ex_435 => ?_)
                have kx_435 : x_435.toInt = ((Mf 1) (sv_416 : Int32).toInt.toNat).toInt := congrArg Int32.toInt ex_435
                have kcx_435 : x_435.toInt = ((Mf 1) (sv_416 : Int32).toNatClampNeg).toInt := congrArg Int32.toInt ex_435
                refine lv_bipush (v := 47) hx hb dX12_term_63 (by decide) ?_
                refine lv_icmp_ne (tgt := 72) hx hb dX12_term_65 (by decide) (fun c_436 => ?_) (fun c_436 => ?_)
                · skip
                  refine lv_bipush (v := 14) hx hb dX12_term_72 (by decide) ?_
                  refine lv_istore_n (lv' := [(1, .int 14), (0, .ref (Ma 0))]) hx hb dX12_term_74 rfl hl (by decide) rfl (fun ls hl₀ => ?_)
                  replace hl := hl₀
                  clear hl₀
                  refine lv_aload_n hx hb dX12_term_75 rfl (lv_at hl 1 rfl) ?_
                  refine lv_dup hx hb dX12_term_76 rfl ?_
                  refine gf_X12_87 hx hb hts hown hK hP 2 rfl rfl dX12_term_77 ?_
                  refine lv_iconst (v := 1) hx hb dX12_term_80 (by decide) ?_
                  refine lv_iadd hx hb dX12_term_81 ?_
                  refine lv_topi (fun x_437 ex_437 => ?_)
                  refine pf_X12_87 hx hb hts hown hK hP hD hS 2 rfl (Nat.le_of_ble_eq_true rfl) rfl rfl dX12_term_82 (fun H locs hP₀ hD₀ hS₀ => ?_)
                  replace hP : va_P D classes [((Ma 2), .inl (tc 0, 2400, .inl vy_32)), ((Ma 3), .inl (tc 0, 7, .inl vy_33)), ((Ma 0), .inr (12, [.ref (Ma 1), .int (Mv 0), .int (Mv 1), .ref (Ma 2), .ref (Ma 3), .ref (Ma 4), .ref (Ma 5), .ref (Ma 6), .int x_437, .int vy_29, .int vy_30, .int (Mv 5), .int vy_31, .int (Mv 7), .int (Mv 8), .ref (Ma 7), .int (Mv 9), .ref (Ma 8), .int (Mv 10), .ref (Ma 9), .ref (Ma 10), .int (Mv 11), .int (Mv 12), .int (Mv 13), .ref (Ma 11), .int (Mv 14), .ref (Ma 12), .ref (Ma 13), .ref (Ma 14), .ref (Ma 15), .ref (Ma 16), .long (Mj 0), .ref (Ma 17), .ref (Ma 18), .ref (Ma 19), .ref (Ma 20)])), ((Ma 1), .inl (tc 2, 400, .inl (Mf 1)))] H := hP₀
                  replace hD : va_D A [((Ma 2), .inl (tc 0, 2400, .inl vy_32)), ((Ma 3), .inl (tc 0, 7, .inl vy_33)), ((Ma 0), .inr (12, [.ref (Ma 1), .int (Mv 0), .int (Mv 1), .ref (Ma 2), .ref (Ma 3), .ref (Ma 4), .ref (Ma 5), .ref (Ma 6), .int x_437, .int vy_29, .int vy_30, .int (Mv 5), .int vy_31, .int (Mv 7), .int (Mv 8), .ref (Ma 7), .int (Mv 9), .ref (Ma 8), .int (Mv 10), .ref (Ma 9), .ref (Ma 10), .int (Mv 11), .int (Mv 12), .int (Mv 13), .ref (Ma 11), .int (Mv 14), .ref (Ma 12), .ref (Ma 13), .ref (Ma 14), .ref (Ma 15), .ref (Ma 16), .long (Mj 0), .ref (Ma 17), .ref (Ma 18), .ref (Ma 19), .ref (Ma 20)])), ((Ma 1), .inl (tc 2, 400, .inl (Mf 1)))] := hD₀
                  replace hS := hS₀
                  clear hP₀ hD₀ hS₀
                  have tp_x_437 : (x_437 : Int32).toInt = (sv_416 : Int32).toInt + 1 := by
                    have z_1 : ¬ (r_13 : Int32).toInt = (0 : Int32).toInt := fun z => c_18 (Int32.toInt_inj.mp z)
                    have z_2 : ¬ (r_52 : Int32).toInt = (42 : Int32).toInt := fun z => c_55 (Int32.toInt_inj.mp z)
                    have z_3 : ¬ (r_236 : Int32).toInt = (47 : Int32).toInt := fun z => c_240 (Int32.toInt_inj.mp z)
                    have z_4 := congrArg Int32.toInt c_425
                    have z_5 : ¬ (x_432 : Int32).toInt = (42 : Int32).toInt := fun z => c_433 (Int32.toInt_inj.mp z)
                    have z_6 : ¬ (x_435 : Int32).toInt = (47 : Int32).toInt := fun z => c_436 (Int32.toInt_inj.mp z)
                    have y_0 : (0 : Int32).toInt = 0 := by decide
                    have y_37 : (37 : Int32).toInt = 37 := by decide
                    have y_42 : (42 : Int32).toInt = 42 := by decide
                    have y_47 : (47 : Int32).toInt = 47 := by decide
                    have y_1 : (1 : Int32).toInt = 1 := by decide
                    have t_x_437 : x_437.toInt = (sv_416 : Int32).toInt + (1 : Int32).toInt := by rw [ex_437]; exact add_toInt (by omega) (by omega)
                    omega
                  refine lv_aload_n hx hb dX12_term_85 rfl (lv_at hl 1 rfl) ?_
                  have ha_438 : 0 ≤ (x_437 : Int32).toInt ∧ (x_437 : Int32).toInt ≤ ((Mv 0) : Int32).toInt ∧ ((Mv 0) : Int32).toInt ≤ 400 := by
                    have z_1 : ¬ (r_13 : Int32).toInt = (0 : Int32).toInt := fun z => c_18 (Int32.toInt_inj.mp z)
                    have z_2 : ¬ (r_52 : Int32).toInt = (42 : Int32).toInt := fun z => c_55 (Int32.toInt_inj.mp z)
                    have z_3 : ¬ (r_236 : Int32).toInt = (47 : Int32).toInt := fun z => c_240 (Int32.toInt_inj.mp z)
                    have z_4 := congrArg Int32.toInt c_425
                    have z_5 : ¬ (x_432 : Int32).toInt = (42 : Int32).toInt := fun z => c_433 (Int32.toInt_inj.mp z)
                    have z_6 : ¬ (x_435 : Int32).toInt = (47 : Int32).toInt := fun z => c_436 (Int32.toInt_inj.mp z)
                    have y_0 : (0 : Int32).toInt = 0 := by decide
                    have y_37 : (37 : Int32).toInt = 37 := by decide
                    have y_42 : (42 : Int32).toInt = 42 := by decide
                    have y_47 : (47 : Int32).toInt = 47 := by decide
                    have y_1 : (1 : Int32).toInt = 1 := by decide
                    have t_x_437 : x_437.toInt = (sv_416 : Int32).toInt + (1 : Int32).toInt := by rw [ex_437]; exact add_toInt (by omega) (by omega)
                    omega
                  have ha_439 : (vy_33 (Mv 5).toNatClampNeg).toInt ≤ (x_437 : Int32).toInt := by
                    have z_1 : ¬ (r_13 : Int32).toInt = (0 : Int32).toInt := fun z => c_18 (Int32.toInt_inj.mp z)
                    have z_2 : ¬ (r_52 : Int32).toInt = (42 : Int32).toInt := fun z => c_55 (Int32.toInt_inj.mp z)
                    have z_3 : ¬ (r_236 : Int32).toInt = (47 : Int32).toInt := fun z => c_240 (Int32.toInt_inj.mp z)
                    have z_4 := congrArg Int32.toInt c_425
                    have z_5 : ¬ (x_432 : Int32).toInt = (42 : Int32).toInt := fun z => c_433 (Int32.toInt_inj.mp z)
                    have z_6 : ¬ (x_435 : Int32).toInt = (47 : Int32).toInt := fun z => c_436 (Int32.toInt_inj.mp z)
                    have y_0 : (0 : Int32).toInt = 0 := by decide
                    have y_37 : (37 : Int32).toInt = 37 := by decide
                    have y_42 : (42 : Int32).toInt = 42 := by decide
                    have y_47 : (47 : Int32).toInt = 47 := by decide
                    have y_1 : (1 : Int32).toInt = 1 := by decide
                    have t_x_437 : x_437.toInt = (sv_416 : Int32).toInt + (1 : Int32).toInt := by rw [ex_437]; exact add_toInt (by omega) (by omega)
                    omega
                  have ha_440 : 0 ≤ (vy_31 : Int32).toInt ∧ (vy_31 : Int32).toInt ≤ 60 := by
                    have z_1 : ¬ (r_13 : Int32).toInt = (0 : Int32).toInt := fun z => c_18 (Int32.toInt_inj.mp z)
                    have z_2 : ¬ (r_52 : Int32).toInt = (42 : Int32).toInt := fun z => c_55 (Int32.toInt_inj.mp z)
                    have z_3 : ¬ (r_236 : Int32).toInt = (47 : Int32).toInt := fun z => c_240 (Int32.toInt_inj.mp z)
                    have z_4 := congrArg Int32.toInt c_425
                    have z_5 : ¬ (x_432 : Int32).toInt = (42 : Int32).toInt := fun z => c_433 (Int32.toInt_inj.mp z)
                    have z_6 : ¬ (x_435 : Int32).toInt = (47 : Int32).toInt := fun z => c_436 (Int32.toInt_inj.mp z)
                    have y_0 : (0 : Int32).toInt = 0 := by decide
                    have y_37 : (37 : Int32).toInt = 37 := by decide
                    have y_42 : (42 : Int32).toInt = 42 := by decide
                    have y_47 : (47 : Int32).toInt = 47 := by decide
                    omega
                  have ha_441 : (vy_29 : Int32).toInt = 0 := by
                    have z_1 : ¬ (r_13 : Int32).toInt = (0 : Int32).toInt := fun z => c_18 (Int32.toInt_inj.mp z)
                    have z_2 : ¬ (r_52 : Int32).toInt = (42 : Int32).toInt := fun z => c_55 (Int32.toInt_inj.mp z)
                    have z_3 : ¬ (r_236 : Int32).toInt = (47 : Int32).toInt := fun z => c_240 (Int32.toInt_inj.mp z)
                    have z_4 := congrArg Int32.toInt c_425
                    have z_5 : ¬ (x_432 : Int32).toInt = (42 : Int32).toInt := fun z => c_433 (Int32.toInt_inj.mp z)
                    have z_6 : ¬ (x_435 : Int32).toInt = (47 : Int32).toInt := fun z => c_436 (Int32.toInt_inj.mp z)
                    have y_0 : (0 : Int32).toInt = 0 := by decide
                    have y_37 : (37 : Int32).toInt = 37 := by decide
                    have y_42 : (42 : Int32).toInt = 42 := by decide
                    have y_47 : (47 : Int32).toInt = 47 := by decide
                    omega
                  refine cV (a := (Ma 0)) (As := []) (rest := []) (wr := []) ⟨hx, hb, hml, hown, hts⟩ hK hX hA (cu_fX12_value l D tc sk (Ma 0) (Ma 1) (Ma 2) (Ma 3) (Ma 4) (Ma 5) (Ma 6) (Ma 7) (Ma 8) (Ma 9) (Ma 10) (Ma 11) (Ma 12) (Ma 13) (Ma 14) (Ma 15) (Ma 16) (Ma 17) (Ma 18) (Ma 19) (Ma 20) (Mv 0) (Mv 1) x_437 vy_29 vy_30 (Mv 5) vy_31 (Mv 7) (Mv 8) (Mv 9) (Mv 10) (Mv 11) (Mv 12) (Mv 13) (Mv 14) (Mf 1) vy_32 vy_33 (Mj 0) b (d + 1) ha_438 pf_41 ha_439 ha_440 h_bs ha_441) k_1287 k_1284 k_1286 k_44 k_106 pl_X12_value ⟨Nat.le_of_ble_eq_true rfl, Nat.le_of_ble_eq_true rfl⟩ rfl rfl (va_recv hK hP (ci := 12) (q0 := 2) rfl rfl) hP hD hS [2, 3, 0, 1] [] rfl rfl rfl rfl rfl (by decide) rfl hl.1 rfl (Nat.le_of_ble_eq_true rfl) dX12_term_86 ⟨Nat.le_of_ble_eq_true rfl, Nat.le_of_ble_eq_true rfl⟩ (fun v_442 u_443 H locs hv_444 hP₀ hD₀ hS₀ => ?_)
                  obtain ⟨sv_445, sv_446, sv_447, sv_448, sv_449, sv_450⟩ := u_443
                  obtain ⟨r_454, rfl, he_455, pf_451, pf_452, pf_453, hm_457, hm_458⟩ := hv_444
                  have he_455 : ((r_454.toInt = 0 ∧ ¬ (sv_446 : Int32).toInt = 0) ∨ (r_454.toInt = 1 ∧ (vy_33 (Mv 5).toNatClampNeg).toInt + 1 ≤ (sv_450 (Mv 5).toNatClampNeg).toInt ∧ (sv_450 (Mv 5).toNatClampNeg).toInt + (x_437 : Int32).toInt ≤ (vy_33 (Mv 5).toNatClampNeg).toInt + (sv_445 : Int32).toInt ∧ (x_437 : Int32).toInt + 1 ≤ (sv_445 : Int32).toInt)) := he_455
                  have pf_451 : (x_437 : Int32).toInt ≤ (sv_445 : Int32).toInt ∧ (sv_445 : Int32).toInt ≤ ((Mv 0) : Int32).toInt := pf_451
                  have pf_452 : (vy_31 : Int32).toInt ≤ (sv_448 : Int32).toInt ∧ (sv_448 : Int32).toInt ≤ 60 := pf_452
                  have pf_453 : Agr vy_32 sv_449 (400 * ((Mv 5) : Int32).toInt + (vy_33 (Mv 5).toNatClampNeg).toInt) := pf_453
                  refine W.eq (g2 := F0 m 89 ls [.int r_454]) rfl ?_
                  replace hP : va_P D classes [((Ma 0), .inr (12, [.ref (Ma 1), .int (Mv 0), .int (Mv 1), .ref (Ma 2), .ref (Ma 3), .ref (Ma 4), .ref (Ma 5), .ref (Ma 6), .int sv_445, .int sv_446, .int sv_447, .int (Mv 5), .int sv_448, .int (Mv 7), .int (Mv 8), .ref (Ma 7), .int (Mv 9), .ref (Ma 8), .int (Mv 10), .ref (Ma 9), .ref (Ma 10), .int (Mv 11), .int (Mv 12), .int (Mv 13), .ref (Ma 11), .int (Mv 14), .ref (Ma 12), .ref (Ma 13), .ref (Ma 14), .ref (Ma 15), .ref (Ma 16), .long (Mj 0), .ref (Ma 17), .ref (Ma 18), .ref (Ma 19), .ref (Ma 20)])), ((Ma 1), .inl (tc 2, 400, .inl (Mf 1))), ((Ma 2), .inl (tc 0, 2400, .inl sv_449)), ((Ma 3), .inl (tc 0, 7, .inl sv_450))] H := hP₀
                  replace hD : va_D A [((Ma 0), .inr (12, [.ref (Ma 1), .int (Mv 0), .int (Mv 1), .ref (Ma 2), .ref (Ma 3), .ref (Ma 4), .ref (Ma 5), .ref (Ma 6), .int sv_445, .int sv_446, .int sv_447, .int (Mv 5), .int sv_448, .int (Mv 7), .int (Mv 8), .ref (Ma 7), .int (Mv 9), .ref (Ma 8), .int (Mv 10), .ref (Ma 9), .ref (Ma 10), .int (Mv 11), .int (Mv 12), .int (Mv 13), .ref (Ma 11), .int (Mv 14), .ref (Ma 12), .ref (Ma 13), .ref (Ma 14), .ref (Ma 15), .ref (Ma 16), .long (Mj 0), .ref (Ma 17), .ref (Ma 18), .ref (Ma 19), .ref (Ma 20)])), ((Ma 1), .inl (tc 2, 400, .inl (Mf 1))), ((Ma 2), .inl (tc 0, 2400, .inl sv_449)), ((Ma 3), .inl (tc 0, 7, .inl sv_450))] := hD₀
                  replace hS := hS₀
                  clear hP₀ hD₀ hS₀
                  refine lv_if_ne (tgt := 94) hx hb dX12_term_89 (by decide) (fun c_459 => ?_) (fun c_459 => ?_)
                  · skip
                    have hz_462 : (r_454 : Int32).toInt = 1 := by
                      have z_1 : ¬ (r_13 : Int32).toInt = (0 : Int32).toInt := fun z => c_18 (Int32.toInt_inj.mp z)
                      have z_2 : ¬ (r_52 : Int32).toInt = (42 : Int32).toInt := fun z => c_55 (Int32.toInt_inj.mp z)
                      have z_3 : ¬ (r_236 : Int32).toInt = (47 : Int32).toInt := fun z => c_240 (Int32.toInt_inj.mp z)
                      have z_4 := congrArg Int32.toInt c_425
                      have z_5 : ¬ (x_432 : Int32).toInt = (42 : Int32).toInt := fun z => c_433 (Int32.toInt_inj.mp z)
                      have z_6 : ¬ (x_435 : Int32).toInt = (47 : Int32).toInt := fun z => c_436 (Int32.toInt_inj.mp z)
                      have z_7 : ¬ (r_454 : Int32).toInt = (0 : Int32).toInt := fun z => c_459 (Int32.toInt_inj.mp z)
                      have y_0 : (0 : Int32).toInt = 0 := by decide
                      have y_37 : (37 : Int32).toInt = 37 := by decide
                      have y_42 : (42 : Int32).toInt = 42 := by decide
                      have y_47 : (47 : Int32).toInt = 47 := by decide
                      omega
                    obtain ⟨pf_460, pf_461⟩ := hm_457 hz_462
                    have pf_460 : Cd sv_449 sv_450 (Mv 5) b sv_448 ((d + 1) + 1) := pf_460
                    have ar_pf_460 := Cd.ar pf_460
                    have pf_461 : RfO (pz_val (rB (Mf 1) (Mv 0)) (St0 (rB (Mf 1) (Mv 0)) x_437 vy_31)) (rB (Mf 1) (Mv 0)) sv_446 sv_445 sv_448 := pf_461
                    have ar_pf_461 := RfO.wr pf_461
                    refine lv_aload_n hx hb dX12_term_94 rfl (lv_at hl 1 rfl) ?_
                    refine lv_iload_n hx hb dX12_term_95 rfl (lv_at hl 0 rfl) ?_
                    refine lv_iconst (v := 0) hx hb dX12_term_96 (by decide) ?_
                    have ha_463 : ((d + 1) : Int) ≤ sv_448.toInt := by
                      have z_1 : ¬ (r_13 : Int32).toInt = (0 : Int32).toInt := fun z => c_18 (Int32.toInt_inj.mp z)
                      have z_2 : ¬ (r_52 : Int32).toInt = (42 : Int32).toInt := fun z => c_55 (Int32.toInt_inj.mp z)
                      have z_3 : ¬ (r_236 : Int32).toInt = (47 : Int32).toInt := fun z => c_240 (Int32.toInt_inj.mp z)
                      have z_4 := congrArg Int32.toInt c_425
                      have z_5 : ¬ (x_432 : Int32).toInt = (42 : Int32).toInt := fun z => c_433 (Int32.toInt_inj.mp z)
                      have z_6 : ¬ (x_435 : Int32).toInt = (47 : Int32).toInt := fun z => c_436 (Int32.toInt_inj.mp z)
                      have z_7 : ¬ (r_454 : Int32).toInt = (0 : Int32).toInt := fun z => c_459 (Int32.toInt_inj.mp z)
                      have y_0 : (0 : Int32).toInt = 0 := by decide
                      have y_37 : (37 : Int32).toInt = 37 := by decide
                      have y_42 : (42 : Int32).toInt = 42 := by decide
                      have y_47 : (47 : Int32).toInt = 47 := by decide
                      omega
                    have ha_464 : (sv_450 (Mv 5).toNatClampNeg).toInt < 400 := by
                      have z_1 : ¬ (r_13 : Int32).toInt = (0 : Int32).toInt := fun z => c_18 (Int32.toInt_inj.mp z)
                      have z_2 : ¬ (r_52 : Int32).toInt = (42 : Int32).toInt := fun z => c_55 (Int32.toInt_inj.mp z)
                      have z_3 : ¬ (r_236 : Int32).toInt = (47 : Int32).toInt := fun z => c_240 (Int32.toInt_inj.mp z)
                      have z_4 := congrArg Int32.toInt c_425
                      have z_5 : ¬ (x_432 : Int32).toInt = (42 : Int32).toInt := fun z => c_433 (Int32.toInt_inj.mp z)
                      have z_6 : ¬ (x_435 : Int32).toInt = (47 : Int32).toInt := fun z => c_436 (Int32.toInt_inj.mp z)
                      have z_7 : ¬ (r_454 : Int32).toInt = (0 : Int32).toInt := fun z => c_459 (Int32.toInt_inj.mp z)
                      have y_0 : (0 : Int32).toInt = 0 := by decide
                      have y_37 : (37 : Int32).toInt = 37 := by decide
                      have y_42 : (42 : Int32).toInt = 42 := by decide
                      have y_47 : (47 : Int32).toInt = 47 := by decide
                      omega
                    refine cV (a := (Ma 0)) (As := [.int 14, .int 0]) (rest := []) (wr := [((Ma 1), .inl (tc 2, 400, .inl (Mf 1)))]) ⟨hx, hb, hml, hown, hts⟩ hK hX hA (cu_X12_puts l D tc sk (Ma 0) (Ma 1) (Ma 2) (Ma 3) (Ma 4) (Ma 5) (Ma 6) (Ma 7) (Ma 8) (Ma 9) (Ma 10) (Ma 11) (Ma 12) (Ma 13) (Ma 14) (Ma 15) (Ma 16) (Ma 17) (Ma 18) (Ma 19) (Ma 20) (Mv 0) (Mv 1) sv_445 sv_446 sv_447 (Mv 5) sv_448 (Mv 7) (Mv 8) (Mv 9) (Mv 10) (Mv 11) (Mv 12) (Mv 13) (Mv 14) sv_449 sv_450 (Mj 0) 14 0 b sv_448 ((d + 1) + 1) (d + 1) pf_460 (StpR.op (by decide) rfl (by omega)) ha_463 ha_464) k_1296 k_1293 k_1295 k_46 k_106 pl_X12_puts ⟨Nat.le_of_ble_eq_true rfl, Nat.le_of_ble_eq_true rfl⟩ rfl rfl (va_recv hK hP (ci := 12) (q0 := 0) rfl rfl) hP hD hS [0, 2, 3] [1] rfl rfl rfl rfl rfl (by decide) rfl hl.1 rfl (Nat.le_of_ble_eq_true rfl) dX12_term_97 ⟨Nat.le_of_ble_eq_true rfl, Nat.le_of_ble_eq_true rfl⟩ (fun v_465 u_466 H locs hv_467 hP₀ hD₀ hS₀ => ?_)
                    obtain ⟨sv_468, sv_469⟩ := u_466
                    obtain ⟨rfl, pf_470, pf_471, pf_472⟩ := hv_467
                    have pf_470 : Cd sv_468 sv_469 (Mv 5) b sv_448 (d + 1) := pf_470
                    have ar_pf_470 := Cd.ar pf_470
                    have pf_471 : Agr sv_449 sv_468 (400 * ((Mv 5) : Int32).toInt + (sv_450 (Mv 5).toNatClampNeg).toInt) := pf_471
                    have pf_472 : (sv_469 (Mv 5).toNatClampNeg).toInt = (sv_450 (Mv 5).toNatClampNeg).toInt + 1 := pf_472
                    refine W.eq (g2 := F0 m 100 ls []) rfl ?_
                    replace hP : va_P D classes [((Ma 1), .inl (tc 2, 400, .inl (Mf 1))), ((Ma 0), .inr (12, [.ref (Ma 1), .int (Mv 0), .int (Mv 1), .ref (Ma 2), .ref (Ma 3), .ref (Ma 4), .ref (Ma 5), .ref (Ma 6), .int sv_445, .int sv_446, .int sv_447, .int (Mv 5), .int sv_448, .int (Mv 7), .int (Mv 8), .ref (Ma 7), .int (Mv 9), .ref (Ma 8), .int (Mv 10), .ref (Ma 9), .ref (Ma 10), .int (Mv 11), .int (Mv 12), .int (Mv 13), .ref (Ma 11), .int (Mv 14), .ref (Ma 12), .ref (Ma 13), .ref (Ma 14), .ref (Ma 15), .ref (Ma 16), .long (Mj 0), .ref (Ma 17), .ref (Ma 18), .ref (Ma 19), .ref (Ma 20)])), ((Ma 2), .inl (tc 0, 2400, .inl sv_468)), ((Ma 3), .inl (tc 0, 7, .inl sv_469))] H := hP₀
                    replace hD : va_D A [((Ma 1), .inl (tc 2, 400, .inl (Mf 1))), ((Ma 0), .inr (12, [.ref (Ma 1), .int (Mv 0), .int (Mv 1), .ref (Ma 2), .ref (Ma 3), .ref (Ma 4), .ref (Ma 5), .ref (Ma 6), .int sv_445, .int sv_446, .int sv_447, .int (Mv 5), .int sv_448, .int (Mv 7), .int (Mv 8), .ref (Ma 7), .int (Mv 9), .ref (Ma 8), .int (Mv 10), .ref (Ma 9), .ref (Ma 10), .int (Mv 11), .int (Mv 12), .int (Mv 13), .ref (Ma 11), .int (Mv 14), .ref (Ma 12), .ref (Ma 13), .ref (Ma 14), .ref (Ma 15), .ref (Ma 16), .long (Mj 0), .ref (Ma 17), .ref (Ma 18), .ref (Ma 19), .ref (Ma 20)])), ((Ma 2), .inl (tc 0, 2400, .inl sv_468)), ((Ma 3), .inl (tc 0, 7, .inl sv_469))] := hD₀
                    replace hS := hS₀
                    clear hP₀ hD₀ hS₀
                    refine lv_goto (tgt := 9) hx hb dX12_term_100 (by decide) ?_
                    have hb_473 : 400 - (sv_445 : Int32).toInt < 400 - (vy_28 : Int32).toInt ∧ 1 ≤ 400 - (vy_28 : Int32).toInt := by
                      have z_1 : ¬ (r_13 : Int32).toInt = (0 : Int32).toInt := fun z => c_18 (Int32.toInt_inj.mp z)
                      have z_2 : ¬ (r_52 : Int32).toInt = (42 : Int32).toInt := fun z => c_55 (Int32.toInt_inj.mp z)
                      have z_3 : ¬ (r_236 : Int32).toInt = (47 : Int32).toInt := fun z => c_240 (Int32.toInt_inj.mp z)
                      have z_4 := congrArg Int32.toInt c_425
                      have z_5 : ¬ (x_432 : Int32).toInt = (42 : Int32).toInt := fun z => c_433 (Int32.toInt_inj.mp z)
                      have z_6 : ¬ (x_435 : Int32).toInt = (47 : Int32).toInt := fun z => c_436 (Int32.toInt_inj.mp z)
                      have z_7 : ¬ (r_454 : Int32).toInt = (0 : Int32).toInt := fun z => c_459 (Int32.toInt_inj.mp z)
                      have y_0 : (0 : Int32).toInt = 0 := by decide
                      have y_37 : (37 : Int32).toInt = 37 := by decide
                      have y_42 : (42 : Int32).toInt = 42 := by decide
                      have y_47 : (47 : Int32).toInt = 47 := by decide
                      omega
                    have ha_474 : 0 ≤ (sv_445 : Int32).toInt ∧ (sv_445 : Int32).toInt ≤ ((Mv 0) : Int32).toInt ∧ ((Mv 0) : Int32).toInt ≤ 400 := by
                      have z_1 : ¬ (r_13 : Int32).toInt = (0 : Int32).toInt := fun z => c_18 (Int32.toInt_inj.mp z)
                      have z_2 : ¬ (r_52 : Int32).toInt = (42 : Int32).toInt := fun z => c_55 (Int32.toInt_inj.mp z)
                      have z_3 : ¬ (r_236 : Int32).toInt = (47 : Int32).toInt := fun z => c_240 (Int32.toInt_inj.mp z)
                      have z_4 := congrArg Int32.toInt c_425
                      have z_5 : ¬ (x_432 : Int32).toInt = (42 : Int32).toInt := fun z => c_433 (Int32.toInt_inj.mp z)
                      have z_6 : ¬ (x_435 : Int32).toInt = (47 : Int32).toInt := fun z => c_436 (Int32.toInt_inj.mp z)
                      have z_7 : ¬ (r_454 : Int32).toInt = (0 : Int32).toInt := fun z => c_459 (Int32.toInt_inj.mp z)
                      have y_0 : (0 : Int32).toInt = 0 := by decide
                      have y_37 : (37 : Int32).toInt = 37 := by decide
                      have y_42 : (42 : Int32).toInt = 42 := by decide
                      have y_47 : (47 : Int32).toInt = 47 := by decide
                      omega
                    have ha_475 : (Mv 6).toInt ≤ (sv_448 : Int32).toInt ∧ (sv_448 : Int32).toInt ≤ 60 := by
                      have z_1 : ¬ (r_13 : Int32).toInt = (0 : Int32).toInt := fun z => c_18 (Int32.toInt_inj.mp z)
                      have z_2 : ¬ (r_52 : Int32).toInt = (42 : Int32).toInt := fun z => c_55 (Int32.toInt_inj.mp z)
                      have z_3 : ¬ (r_236 : Int32).toInt = (47 : Int32).toInt := fun z => c_240 (Int32.toInt_inj.mp z)
                      have z_4 := congrArg Int32.toInt c_425
                      have z_5 : ¬ (x_432 : Int32).toInt = (42 : Int32).toInt := fun z => c_433 (Int32.toInt_inj.mp z)
                      have z_6 : ¬ (x_435 : Int32).toInt = (47 : Int32).toInt := fun z => c_436 (Int32.toInt_inj.mp z)
                      have z_7 : ¬ (r_454 : Int32).toInt = (0 : Int32).toInt := fun z => c_459 (Int32.toInt_inj.mp z)
                      have y_0 : (0 : Int32).toInt = 0 := by decide
                      have y_37 : (37 : Int32).toInt = 37 := by decide
                      have y_42 : (42 : Int32).toInt = 42 := by decide
                      have y_47 : (47 : Int32).toInt = 47 := by decide
                      omega
                    have ha_476 : ((Mf 3) (Mv 5).toNatClampNeg).toInt + 1 ≤ (sv_469 (Mv 5).toNatClampNeg).toInt ∧ (sv_469 (Mv 5).toNatClampNeg).toInt + ((Mv 2) : Int32).toInt ≤ ((Mf 3) (Mv 5).toNatClampNeg).toInt + (sv_445 : Int32).toInt ∧ ((Mv 2) : Int32).toInt + 1 ≤ (sv_445 : Int32).toInt := by
                      have z_1 : ¬ (r_13 : Int32).toInt = (0 : Int32).toInt := fun z => c_18 (Int32.toInt_inj.mp z)
                      have z_2 : ¬ (r_52 : Int32).toInt = (42 : Int32).toInt := fun z => c_55 (Int32.toInt_inj.mp z)
                      have z_3 : ¬ (r_236 : Int32).toInt = (47 : Int32).toInt := fun z => c_240 (Int32.toInt_inj.mp z)
                      have z_4 := congrArg Int32.toInt c_425
                      have z_5 : ¬ (x_432 : Int32).toInt = (42 : Int32).toInt := fun z => c_433 (Int32.toInt_inj.mp z)
                      have z_6 : ¬ (x_435 : Int32).toInt = (47 : Int32).toInt := fun z => c_436 (Int32.toInt_inj.mp z)
                      have z_7 : ¬ (r_454 : Int32).toInt = (0 : Int32).toInt := fun z => c_459 (Int32.toInt_inj.mp z)
                      have y_0 : (0 : Int32).toInt = 0 := by decide
                      have y_37 : (37 : Int32).toInt = 37 := by decide
                      have y_42 : (42 : Int32).toInt = 42 := by decide
                      have y_47 : (47 : Int32).toInt = 47 := by decide
                      omega
                    have hr_477 : (400 * ((Mv 5) : Int32).toInt + ((Mf 3) (Mv 5).toNatClampNeg).toInt) ≤ (400 * ((Mv 5) : Int32).toInt + ((Mf 3) (Mv 5).toNatClampNeg).toInt) := by
                      have z_1 : ¬ (r_13 : Int32).toInt = (0 : Int32).toInt := fun z => c_18 (Int32.toInt_inj.mp z)
                      have z_2 : ¬ (r_52 : Int32).toInt = (42 : Int32).toInt := fun z => c_55 (Int32.toInt_inj.mp z)
                      have z_3 : ¬ (r_236 : Int32).toInt = (47 : Int32).toInt := fun z => c_240 (Int32.toInt_inj.mp z)
                      have z_4 := congrArg Int32.toInt c_425
                      have z_5 : ¬ (x_432 : Int32).toInt = (42 : Int32).toInt := fun z => c_433 (Int32.toInt_inj.mp z)
                      have z_6 : ¬ (x_435 : Int32).toInt = (47 : Int32).toInt := fun z => c_436 (Int32.toInt_inj.mp z)
                      have z_7 : ¬ (r_454 : Int32).toInt = (0 : Int32).toInt := fun z => c_459 (Int32.toInt_inj.mp z)
                      have y_0 : (0 : Int32).toInt = 0 := by decide
                      have y_37 : (37 : Int32).toInt = 37 := by decide
                      have y_42 : (42 : Int32).toInt = 42 := by decide
                      have y_47 : (47 : Int32).toInt = 47 := by decide
                      omega
                    have hr_478 : (400 * ((Mv 5) : Int32).toInt + ((Mf 3) (Mv 5).toNatClampNeg).toInt) ≤ (400 * ((Mv 5) : Int32).toInt + (vy_33 (Mv 5).toNatClampNeg).toInt) := by
                      have z_1 : ¬ (r_13 : Int32).toInt = (0 : Int32).toInt := fun z => c_18 (Int32.toInt_inj.mp z)
                      have z_2 : ¬ (r_52 : Int32).toInt = (42 : Int32).toInt := fun z => c_55 (Int32.toInt_inj.mp z)
                      have z_3 : ¬ (r_236 : Int32).toInt = (47 : Int32).toInt := fun z => c_240 (Int32.toInt_inj.mp z)
                      have z_4 := congrArg Int32.toInt c_425
                      have z_5 : ¬ (x_432 : Int32).toInt = (42 : Int32).toInt := fun z => c_433 (Int32.toInt_inj.mp z)
                      have z_6 : ¬ (x_435 : Int32).toInt = (47 : Int32).toInt := fun z => c_436 (Int32.toInt_inj.mp z)
                      have z_7 : ¬ (r_454 : Int32).toInt = (0 : Int32).toInt := fun z => c_459 (Int32.toInt_inj.mp z)
                      have y_0 : (0 : Int32).toInt = 0 := by decide
                      have y_37 : (37 : Int32).toInt = 37 := by decide
                      have y_42 : (42 : Int32).toInt = 42 := by decide
                      have y_47 : (47 : Int32).toInt = 47 := by decide
                      omega
                    have hr_479 : (400 * ((Mv 5) : Int32).toInt + ((Mf 3) (Mv 5).toNatClampNeg).toInt) ≤ (400 * ((Mv 5) : Int32).toInt + (sv_450 (Mv 5).toNatClampNeg).toInt) := by
                      have z_1 : ¬ (r_13 : Int32).toInt = (0 : Int32).toInt := fun z => c_18 (Int32.toInt_inj.mp z)
                      have z_2 : ¬ (r_52 : Int32).toInt = (42 : Int32).toInt := fun z => c_55 (Int32.toInt_inj.mp z)
                      have z_3 : ¬ (r_236 : Int32).toInt = (47 : Int32).toInt := fun z => c_240 (Int32.toInt_inj.mp z)
                      have z_4 := congrArg Int32.toInt c_425
                      have z_5 : ¬ (x_432 : Int32).toInt = (42 : Int32).toInt := fun z => c_433 (Int32.toInt_inj.mp z)
                      have z_6 : ¬ (x_435 : Int32).toInt = (47 : Int32).toInt := fun z => c_436 (Int32.toInt_inj.mp z)
                      have z_7 : ¬ (r_454 : Int32).toInt = (0 : Int32).toInt := fun z => c_459 (Int32.toInt_inj.mp z)
                      have y_0 : (0 : Int32).toInt = 0 := by decide
                      have y_37 : (37 : Int32).toInt = 37 := by decide
                      have y_42 : (42 : Int32).toInt = 42 := by decide
                      have y_47 : (47 : Int32).toInt = 47 := by decide
                      omega
                    have hr_480 : (rB (Mf 1) (Mv 0) (sv_416 : Int32).toInt.toNat = 43 ∨ rB (Mf 1) (Mv 0) (sv_416 : Int32).toInt.toNat = 45 ∨ rB (Mf 1) (Mv 0) (sv_416 : Int32).toInt.toNat = 42 ∨ rB (Mf 1) (Mv 0) (sv_416 : Int32).toInt.toNat = 47 ∨ rB (Mf 1) (Mv 0) (sv_416 : Int32).toInt.toNat = 37) := by
                      have z_1 : ¬ (r_13 : Int32).toInt = (0 : Int32).toInt := fun z => c_18 (Int32.toInt_inj.mp z)
                      have z_2 : ¬ (r_52 : Int32).toInt = (42 : Int32).toInt := fun z => c_55 (Int32.toInt_inj.mp z)
                      have z_3 : ¬ (r_236 : Int32).toInt = (47 : Int32).toInt := fun z => c_240 (Int32.toInt_inj.mp z)
                      have z_4 := congrArg Int32.toInt c_425
                      have z_5 : ¬ (x_432 : Int32).toInt = (42 : Int32).toInt := fun z => c_433 (Int32.toInt_inj.mp z)
                      have z_6 : ¬ (x_435 : Int32).toInt = (47 : Int32).toInt := fun z => c_436 (Int32.toInt_inj.mp z)
                      have z_7 : ¬ (r_454 : Int32).toInt = (0 : Int32).toInt := fun z => c_459 (Int32.toInt_inj.mp z)
                      have y_0 : (0 : Int32).toInt = 0 := by decide
                      have y_37 : (37 : Int32).toInt = 37 := by decide
                      have y_42 : (42 : Int32).toInt = 42 := by decide
                      have y_47 : (47 : Int32).toInt = 47 := by decide
                      omega
                    have hi_481 : (x_437 : Int32).toInt = (sv_416 : Int32).toInt + 1 := by
                      have z_1 : ¬ (r_13 : Int32).toInt = (0 : Int32).toInt := fun z => c_18 (Int32.toInt_inj.mp z)
                      have z_2 : ¬ (r_52 : Int32).toInt = (42 : Int32).toInt := fun z => c_55 (Int32.toInt_inj.mp z)
                      have z_3 : ¬ (r_236 : Int32).toInt = (47 : Int32).toInt := fun z => c_240 (Int32.toInt_inj.mp z)
                      have z_4 := congrArg Int32.toInt c_425
                      have z_5 : ¬ (x_432 : Int32).toInt = (42 : Int32).toInt := fun z => c_433 (Int32.toInt_inj.mp z)
                      have z_6 : ¬ (x_435 : Int32).toInt = (47 : Int32).toInt := fun z => c_436 (Int32.toInt_inj.mp z)
                      have z_7 : ¬ (r_454 : Int32).toInt = (0 : Int32).toInt := fun z => c_459 (Int32.toInt_inj.mp z)
                      have y_0 : (0 : Int32).toInt = 0 := by decide
                      have y_37 : (37 : Int32).toInt = 37 := by decide
                      have y_42 : (42 : Int32).toInt = 42 := by decide
                      have y_47 : (47 : Int32).toInt = 47 := by decide
                      have y_1 : (1 : Int32).toInt = 1 := by decide
                      have t_x_437 : x_437.toInt = (sv_416 : Int32).toInt + (1 : Int32).toInt := by rw [ex_437]; exact add_toInt (by omega) (by omega)
                      omega
                    exact ih_35 sv_445 sv_446 sv_447 sv_448 sv_468 sv_469 _ _ _ (by omega) ha_474 ha_475 ha_476 (Agr.trans (k' := (400 * ((Mv 5) : Int32).toInt + ((Mf 3) (Mv 5).toNatClampNeg).toInt)) (Agr.trans (k' := (400 * ((Mv 5) : Int32).toInt + ((Mf 3) (Mv 5).toNatClampNeg).toInt)) (Agr.mono pf_40 hr_477) pf_453 ⟨Int.le_refl _, hr_478⟩) pf_471 ⟨Int.le_refl _, hr_479⟩) pf_470 (TmL.next (rB_fi h_nx.2.2) pf_42 (SkR.trans (SkR.trans pf_51 pf_235) pf_420) hr_480 hi_481 pf_461) (hP.sub [1, 0, 2, 3] rfl) (hD.sub [1, 0, 2, 3] rfl rfl) hS (lv_sub hl [1] rfl)
                  · skip
                    have hz_483 : (r_454 : Int32).toInt = 0 := by
                      have z_1 : ¬ (r_13 : Int32).toInt = (0 : Int32).toInt := fun z => c_18 (Int32.toInt_inj.mp z)
                      have z_2 : ¬ (r_52 : Int32).toInt = (42 : Int32).toInt := fun z => c_55 (Int32.toInt_inj.mp z)
                      have z_3 : ¬ (r_236 : Int32).toInt = (47 : Int32).toInt := fun z => c_240 (Int32.toInt_inj.mp z)
                      have z_4 := congrArg Int32.toInt c_425
                      have z_5 : ¬ (x_432 : Int32).toInt = (42 : Int32).toInt := fun z => c_433 (Int32.toInt_inj.mp z)
                      have z_6 : ¬ (x_435 : Int32).toInt = (47 : Int32).toInt := fun z => c_436 (Int32.toInt_inj.mp z)
                      have z_7 := congrArg Int32.toInt c_459
                      have y_0 : (0 : Int32).toInt = 0 := by decide
                      have y_37 : (37 : Int32).toInt = 37 := by decide
                      have y_42 : (42 : Int32).toInt = 42 := by decide
                      have y_47 : (47 : Int32).toInt = 47 := by decide
                      omega
                    obtain pf_482 := hm_458 hz_483
                    have pf_482 : RfE (pz_val (rB (Mf 1) (Mv 0)) (St0 (rB (Mf 1) (Mv 0)) x_437 vy_31)) sv_446 := pf_482
                    refine lv_iconst (v := 0) hx hb dX12_term_92 (by decide) ?_
                    have ha_484 : ((Mv 2) : Int32).toInt ≤ (sv_445 : Int32).toInt ∧ (sv_445 : Int32).toInt ≤ ((Mv 0) : Int32).toInt := by
                      have z_1 : ¬ (r_13 : Int32).toInt = (0 : Int32).toInt := fun z => c_18 (Int32.toInt_inj.mp z)
                      have z_2 : ¬ (r_52 : Int32).toInt = (42 : Int32).toInt := fun z => c_55 (Int32.toInt_inj.mp z)
                      have z_3 : ¬ (r_236 : Int32).toInt = (47 : Int32).toInt := fun z => c_240 (Int32.toInt_inj.mp z)
                      have z_4 := congrArg Int32.toInt c_425
                      have z_5 : ¬ (x_432 : Int32).toInt = (42 : Int32).toInt := fun z => c_433 (Int32.toInt_inj.mp z)
                      have z_6 : ¬ (x_435 : Int32).toInt = (47 : Int32).toInt := fun z => c_436 (Int32.toInt_inj.mp z)
                      have z_7 := congrArg Int32.toInt c_459
                      have y_0 : (0 : Int32).toInt = 0 := by decide
                      have y_37 : (37 : Int32).toInt = 37 := by decide
                      have y_42 : (42 : Int32).toInt = 42 := by decide
                      have y_47 : (47 : Int32).toInt = 47 := by decide
                      omega
                    have ha_485 : ((Mv 6) : Int32).toInt ≤ (sv_448 : Int32).toInt ∧ (sv_448 : Int32).toInt ≤ 60 := by
                      have z_1 : ¬ (r_13 : Int32).toInt = (0 : Int32).toInt := fun z => c_18 (Int32.toInt_inj.mp z)
                      have z_2 : ¬ (r_52 : Int32).toInt = (42 : Int32).toInt := fun z => c_55 (Int32.toInt_inj.mp z)
                      have z_3 : ¬ (r_236 : Int32).toInt = (47 : Int32).toInt := fun z => c_240 (Int32.toInt_inj.mp z)
                      have z_4 := congrArg Int32.toInt c_425
                      have z_5 : ¬ (x_432 : Int32).toInt = (42 : Int32).toInt := fun z => c_433 (Int32.toInt_inj.mp z)
                      have z_6 : ¬ (x_435 : Int32).toInt = (47 : Int32).toInt := fun z => c_436 (Int32.toInt_inj.mp z)
                      have z_7 := congrArg Int32.toInt c_459
                      have y_0 : (0 : Int32).toInt = 0 := by decide
                      have y_37 : (37 : Int32).toInt = 37 := by decide
                      have y_42 : (42 : Int32).toInt = 42 := by decide
                      have y_47 : (47 : Int32).toInt = 47 := by decide
                      omega
                    have hr_486 : (400 * ((Mv 5) : Int32).toInt + ((Mf 3) (Mv 5).toNatClampNeg).toInt) ≤ (400 * ((Mv 5) : Int32).toInt + ((Mf 3) (Mv 5).toNatClampNeg).toInt) := by
                      have z_1 : ¬ (r_13 : Int32).toInt = (0 : Int32).toInt := fun z => c_18 (Int32.toInt_inj.mp z)
                      have z_2 : ¬ (r_52 : Int32).toInt = (42 : Int32).toInt := fun z => c_55 (Int32.toInt_inj.mp z)
                      have z_3 : ¬ (r_236 : Int32).toInt = (47 : Int32).toInt := fun z => c_240 (Int32.toInt_inj.mp z)
                      have z_4 := congrArg Int32.toInt c_425
                      have z_5 : ¬ (x_432 : Int32).toInt = (42 : Int32).toInt := fun z => c_433 (Int32.toInt_inj.mp z)
                      have z_6 : ¬ (x_435 : Int32).toInt = (47 : Int32).toInt := fun z => c_436 (Int32.toInt_inj.mp z)
                      have z_7 := congrArg Int32.toInt c_459
                      have y_0 : (0 : Int32).toInt = 0 := by decide
                      have y_37 : (37 : Int32).toInt = 37 := by decide
                      have y_42 : (42 : Int32).toInt = 42 := by decide
                      have y_47 : (47 : Int32).toInt = 47 := by decide
                      omega
                    have hr_487 : (400 * ((Mv 5) : Int32).toInt + ((Mf 3) (Mv 5).toNatClampNeg).toInt) ≤ (400 * ((Mv 5) : Int32).toInt + (vy_33 (Mv 5).toNatClampNeg).toInt) := by
                      have z_1 : ¬ (r_13 : Int32).toInt = (0 : Int32).toInt := fun z => c_18 (Int32.toInt_inj.mp z)
                      have z_2 : ¬ (r_52 : Int32).toInt = (42 : Int32).toInt := fun z => c_55 (Int32.toInt_inj.mp z)
                      have z_3 : ¬ (r_236 : Int32).toInt = (47 : Int32).toInt := fun z => c_240 (Int32.toInt_inj.mp z)
                      have z_4 := congrArg Int32.toInt c_425
                      have z_5 : ¬ (x_432 : Int32).toInt = (42 : Int32).toInt := fun z => c_433 (Int32.toInt_inj.mp z)
                      have z_6 : ¬ (x_435 : Int32).toInt = (47 : Int32).toInt := fun z => c_436 (Int32.toInt_inj.mp z)
                      have z_7 := congrArg Int32.toInt c_459
                      have y_0 : (0 : Int32).toInt = 0 := by decide
                      have y_37 : (37 : Int32).toInt = 37 := by decide
                      have y_42 : (42 : Int32).toInt = 42 := by decide
                      have y_47 : (47 : Int32).toInt = 47 := by decide
                      omega
                    have hp_488 : (((0 : Int32).toInt = 0 ∧ ¬ (sv_446 : Int32).toInt = 0) ∨ ((0 : Int32).toInt = 1 ∧ ((Mf 3) (Mv 5).toNatClampNeg).toInt + 1 ≤ (sv_450 (Mv 5).toNatClampNeg).toInt ∧ (sv_450 (Mv 5).toNatClampNeg).toInt + ((Mv 2) : Int32).toInt ≤ ((Mf 3) (Mv 5).toNatClampNeg).toInt + (sv_445 : Int32).toInt ∧ ((Mv 2) : Int32).toInt + 1 ≤ (sv_445 : Int32).toInt)) := by
                      have z_1 : ¬ (r_13 : Int32).toInt = (0 : Int32).toInt := fun z => c_18 (Int32.toInt_inj.mp z)
                      have z_2 : ¬ (r_52 : Int32).toInt = (42 : Int32).toInt := fun z => c_55 (Int32.toInt_inj.mp z)
                      have z_3 : ¬ (r_236 : Int32).toInt = (47 : Int32).toInt := fun z => c_240 (Int32.toInt_inj.mp z)
                      have z_4 := congrArg Int32.toInt c_425
                      have z_5 : ¬ (x_432 : Int32).toInt = (42 : Int32).toInt := fun z => c_433 (Int32.toInt_inj.mp z)
                      have z_6 : ¬ (x_435 : Int32).toInt = (47 : Int32).toInt := fun z => c_436 (Int32.toInt_inj.mp z)
                      have z_7 := congrArg Int32.toInt c_459
                      have y_0 : (0 : Int32).toInt = 0 := by decide
                      have y_37 : (37 : Int32).toInt = 37 := by decide
                      have y_42 : (42 : Int32).toInt = 42 := by decide
                      have y_47 : (47 : Int32).toInt = 47 := by decide
                      omega
                    have hm_489 : (0 : Int32).toInt = 0 → (RfE (pz_sum (rB (Mf 1) (Mv 0)) (St0 (rB (Mf 1) (Mv 0)) (Mv 2) (Mv 6))) sv_446) := by
                      intro h1r
                      have hr_490 : (rB (Mf 1) (Mv 0) (sv_416 : Int32).toInt.toNat = 43 ∨ rB (Mf 1) (Mv 0) (sv_416 : Int32).toInt.toNat = 45 ∨ rB (Mf 1) (Mv 0) (sv_416 : Int32).toInt.toNat = 42 ∨ rB (Mf 1) (Mv 0) (sv_416 : Int32).toInt.toNat = 47 ∨ rB (Mf 1) (Mv 0) (sv_416 : Int32).toInt.toNat = 37) := by
                        have z_1 : ¬ (r_13 : Int32).toInt = (0 : Int32).toInt := fun z => c_18 (Int32.toInt_inj.mp z)
                        have z_2 : ¬ (r_52 : Int32).toInt = (42 : Int32).toInt := fun z => c_55 (Int32.toInt_inj.mp z)
                        have z_3 : ¬ (r_236 : Int32).toInt = (47 : Int32).toInt := fun z => c_240 (Int32.toInt_inj.mp z)
                        have z_4 := congrArg Int32.toInt c_425
                        have z_5 : ¬ (x_432 : Int32).toInt = (42 : Int32).toInt := fun z => c_433 (Int32.toInt_inj.mp z)
                        have z_6 : ¬ (x_435 : Int32).toInt = (47 : Int32).toInt := fun z => c_436 (Int32.toInt_inj.mp z)
                        have z_7 := congrArg Int32.toInt c_459
                        have y_0 : (0 : Int32).toInt = 0 := by decide
                        have y_37 : (37 : Int32).toInt = 37 := by decide
                        have y_42 : (42 : Int32).toInt = 42 := by decide
                        have y_47 : (47 : Int32).toInt = 47 := by decide
                        omega
                      have hi_491 : (x_437 : Int32).toInt = (sv_416 : Int32).toInt + 1 := by
                        have z_1 : ¬ (r_13 : Int32).toInt = (0 : Int32).toInt := fun z => c_18 (Int32.toInt_inj.mp z)
                        have z_2 : ¬ (r_52 : Int32).toInt = (42 : Int32).toInt := fun z => c_55 (Int32.toInt_inj.mp z)
                        have z_3 : ¬ (r_236 : Int32).toInt = (47 : Int32).toInt := fun z => c_240 (Int32.toInt_inj.mp z)
                        have z_4 := congrArg Int32.toInt c_425
                        have z_5 : ¬ (x_432 : Int32).toInt = (42 : Int32).toInt := fun z => c_433 (Int32.toInt_inj.mp z)
                        have z_6 : ¬ (x_435 : Int32).toInt = (47 : Int32).toInt := fun z => c_436 (Int32.toInt_inj.mp z)
                        have z_7 := congrArg Int32.toInt c_459
                        have y_0 : (0 : Int32).toInt = 0 := by decide
                        have y_37 : (37 : Int32).toInt = 37 := by decide
                        have y_42 : (42 : Int32).toInt = 42 := by decide
                        have y_47 : (47 : Int32).toInt = 47 := by decide
                        have y_1 : (1 : Int32).toInt = 1 := by decide
                        have t_x_437 : x_437.toInt = (sv_416 : Int32).toInt + (1 : Int32).toInt := by rw [ex_437]; exact add_toInt (by omega) (by omega)
                        omega
                      exact (TmL.er (rB_fi h_nx.2.2) pf_42 (SkR.trans (SkR.trans pf_51 pf_235) pf_420) hr_490 hi_491 pf_482)
                    exact retI (v := 0) hx hb hr hlk (rfl) hP hD hS (sv_445, sv_446, sv_447, sv_448, sv_449, sv_450) ⟨_, rfl, hp_488, ha_484, ha_485, (Agr.trans (k' := (400 * ((Mv 5) : Int32).toInt + ((Mf 3) (Mv 5).toNatClampNeg).toInt)) (Agr.mono pf_40 hr_486) pf_453 ⟨Int.le_refl _, hr_487⟩), (fun h => absurd h (by decide)), hm_489⟩ [0, 1, 2, 3] rfl rfl dX12_term_93 (Nat.le_of_ble_eq_true rfl) (Nat.le_of_ble_eq_true rfl) rfl
                · skip
                  refine lv_iconst (v := 5) hx hb dX12_term_68 (by decide) ?_
                  refine lv_goto (tgt := 74) hx hb dX12_term_69 (by decide) ?_
                  refine lv_istore_n (lv' := [(1, .int 5), (0, .ref (Ma 0))]) hx hb dX12_term_74 rfl hl (by decide) rfl (fun ls hl₀ => ?_)
                  replace hl := hl₀
                  clear hl₀
                  refine lv_aload_n hx hb dX12_term_75 rfl (lv_at hl 1 rfl) ?_
                  refine lv_dup hx hb dX12_term_76 rfl ?_
                  refine gf_X12_87 hx hb hts hown hK hP 2 rfl rfl dX12_term_77 ?_
                  refine lv_iconst (v := 1) hx hb dX12_term_80 (by decide) ?_
                  refine lv_iadd hx hb dX12_term_81 ?_
                  refine lv_topi (fun x_492 ex_492 => ?_)
                  refine pf_X12_87 hx hb hts hown hK hP hD hS 2 rfl (Nat.le_of_ble_eq_true rfl) rfl rfl dX12_term_82 (fun H locs hP₀ hD₀ hS₀ => ?_)
                  replace hP : va_P D classes [((Ma 2), .inl (tc 0, 2400, .inl vy_32)), ((Ma 3), .inl (tc 0, 7, .inl vy_33)), ((Ma 0), .inr (12, [.ref (Ma 1), .int (Mv 0), .int (Mv 1), .ref (Ma 2), .ref (Ma 3), .ref (Ma 4), .ref (Ma 5), .ref (Ma 6), .int x_492, .int vy_29, .int vy_30, .int (Mv 5), .int vy_31, .int (Mv 7), .int (Mv 8), .ref (Ma 7), .int (Mv 9), .ref (Ma 8), .int (Mv 10), .ref (Ma 9), .ref (Ma 10), .int (Mv 11), .int (Mv 12), .int (Mv 13), .ref (Ma 11), .int (Mv 14), .ref (Ma 12), .ref (Ma 13), .ref (Ma 14), .ref (Ma 15), .ref (Ma 16), .long (Mj 0), .ref (Ma 17), .ref (Ma 18), .ref (Ma 19), .ref (Ma 20)])), ((Ma 1), .inl (tc 2, 400, .inl (Mf 1)))] H := hP₀
                  replace hD : va_D A [((Ma 2), .inl (tc 0, 2400, .inl vy_32)), ((Ma 3), .inl (tc 0, 7, .inl vy_33)), ((Ma 0), .inr (12, [.ref (Ma 1), .int (Mv 0), .int (Mv 1), .ref (Ma 2), .ref (Ma 3), .ref (Ma 4), .ref (Ma 5), .ref (Ma 6), .int x_492, .int vy_29, .int vy_30, .int (Mv 5), .int vy_31, .int (Mv 7), .int (Mv 8), .ref (Ma 7), .int (Mv 9), .ref (Ma 8), .int (Mv 10), .ref (Ma 9), .ref (Ma 10), .int (Mv 11), .int (Mv 12), .int (Mv 13), .ref (Ma 11), .int (Mv 14), .ref (Ma 12), .ref (Ma 13), .ref (Ma 14), .ref (Ma 15), .ref (Ma 16), .long (Mj 0), .ref (Ma 17), .ref (Ma 18), .ref (Ma 19), .ref (Ma 20)])), ((Ma 1), .inl (tc 2, 400, .inl (Mf 1)))] := hD₀
                  replace hS := hS₀
                  clear hP₀ hD₀ hS₀
                  have tp_x_492 : (x_492 : Int32).toInt = (sv_416 : Int32).toInt + 1 := by
                    have z_1 : ¬ (r_13 : Int32).toInt = (0 : Int32).toInt := fun z => c_18 (Int32.toInt_inj.mp z)
                    have z_2 : ¬ (r_52 : Int32).toInt = (42 : Int32).toInt := fun z => c_55 (Int32.toInt_inj.mp z)
                    have z_3 : ¬ (r_236 : Int32).toInt = (47 : Int32).toInt := fun z => c_240 (Int32.toInt_inj.mp z)
                    have z_4 := congrArg Int32.toInt c_425
                    have z_5 : ¬ (x_432 : Int32).toInt = (42 : Int32).toInt := fun z => c_433 (Int32.toInt_inj.mp z)
                    have z_6 := congrArg Int32.toInt c_436
                    have y_0 : (0 : Int32).toInt = 0 := by decide
                    have y_37 : (37 : Int32).toInt = 37 := by decide
                    have y_42 : (42 : Int32).toInt = 42 := by decide
                    have y_47 : (47 : Int32).toInt = 47 := by decide
                    have y_1 : (1 : Int32).toInt = 1 := by decide
                    have t_x_492 : x_492.toInt = (sv_416 : Int32).toInt + (1 : Int32).toInt := by rw [ex_492]; exact add_toInt (by omega) (by omega)
                    omega
                  refine lv_aload_n hx hb dX12_term_85 rfl (lv_at hl 1 rfl) ?_
                  have ha_493 : 0 ≤ (x_492 : Int32).toInt ∧ (x_492 : Int32).toInt ≤ ((Mv 0) : Int32).toInt ∧ ((Mv 0) : Int32).toInt ≤ 400 := by
                    have z_1 : ¬ (r_13 : Int32).toInt = (0 : Int32).toInt := fun z => c_18 (Int32.toInt_inj.mp z)
                    have z_2 : ¬ (r_52 : Int32).toInt = (42 : Int32).toInt := fun z => c_55 (Int32.toInt_inj.mp z)
                    have z_3 : ¬ (r_236 : Int32).toInt = (47 : Int32).toInt := fun z => c_240 (Int32.toInt_inj.mp z)
                    have z_4 := congrArg Int32.toInt c_425
                    have z_5 : ¬ (x_432 : Int32).toInt = (42 : Int32).toInt := fun z => c_433 (Int32.toInt_inj.mp z)
                    have z_6 := congrArg Int32.toInt c_436
                    have y_0 : (0 : Int32).toInt = 0 := by decide
                    have y_37 : (37 : Int32).toInt = 37 := by decide
                    have y_42 : (42 : Int32).toInt = 42 := by decide
                    have y_47 : (47 : Int32).toInt = 47 := by decide
                    have y_1 : (1 : Int32).toInt = 1 := by decide
                    have t_x_492 : x_492.toInt = (sv_416 : Int32).toInt + (1 : Int32).toInt := by rw [ex_492]; exact add_toInt (by omega) (by omega)
                    omega
                  have ha_494 : (vy_33 (Mv 5).toNatClampNeg).toInt ≤ (x_492 : Int32).toInt := by
                    have z_1 : ¬ (r_13 : Int32).toInt = (0 : Int32).toInt := fun z => c_18 (Int32.toInt_inj.mp z)
                    have z_2 : ¬ (r_52 : Int32).toInt = (42 : Int32).toInt := fun z => c_55 (Int32.toInt_inj.mp z)
                    have z_3 : ¬ (r_236 : Int32).toInt = (47 : Int32).toInt := fun z => c_240 (Int32.toInt_inj.mp z)
                    have z_4 := congrArg Int32.toInt c_425
                    have z_5 : ¬ (x_432 : Int32).toInt = (42 : Int32).toInt := fun z => c_433 (Int32.toInt_inj.mp z)
                    have z_6 := congrArg Int32.toInt c_436
                    have y_0 : (0 : Int32).toInt = 0 := by decide
                    have y_37 : (37 : Int32).toInt = 37 := by decide
                    have y_42 : (42 : Int32).toInt = 42 := by decide
                    have y_47 : (47 : Int32).toInt = 47 := by decide
                    have y_1 : (1 : Int32).toInt = 1 := by decide
                    have t_x_492 : x_492.toInt = (sv_416 : Int32).toInt + (1 : Int32).toInt := by rw [ex_492]; exact add_toInt (by omega) (by omega)
                    omega
                  have ha_495 : 0 ≤ (vy_31 : Int32).toInt ∧ (vy_31 : Int32).toInt ≤ 60 := by
                    have z_1 : ¬ (r_13 : Int32).toInt = (0 : Int32).toInt := fun z => c_18 (Int32.toInt_inj.mp z)
                    have z_2 : ¬ (r_52 : Int32).toInt = (42 : Int32).toInt := fun z => c_55 (Int32.toInt_inj.mp z)
                    have z_3 : ¬ (r_236 : Int32).toInt = (47 : Int32).toInt := fun z => c_240 (Int32.toInt_inj.mp z)
                    have z_4 := congrArg Int32.toInt c_425
                    have z_5 : ¬ (x_432 : Int32).toInt = (42 : Int32).toInt := fun z => c_433 (Int32.toInt_inj.mp z)
                    have z_6 := congrArg Int32.toInt c_436
                    have y_0 : (0 : Int32).toInt = 0 := by decide
                    have y_37 : (37 : Int32).toInt = 37 := by decide
                    have y_42 : (42 : Int32).toInt = 42 := by decide
                    have y_47 : (47 : Int32).toInt = 47 := by decide
                    omega
                  have ha_496 : (vy_29 : Int32).toInt = 0 := by
                    have z_1 : ¬ (r_13 : Int32).toInt = (0 : Int32).toInt := fun z => c_18 (Int32.toInt_inj.mp z)
                    have z_2 : ¬ (r_52 : Int32).toInt = (42 : Int32).toInt := fun z => c_55 (Int32.toInt_inj.mp z)
                    have z_3 : ¬ (r_236 : Int32).toInt = (47 : Int32).toInt := fun z => c_240 (Int32.toInt_inj.mp z)
                    have z_4 := congrArg Int32.toInt c_425
                    have z_5 : ¬ (x_432 : Int32).toInt = (42 : Int32).toInt := fun z => c_433 (Int32.toInt_inj.mp z)
                    have z_6 := congrArg Int32.toInt c_436
                    have y_0 : (0 : Int32).toInt = 0 := by decide
                    have y_37 : (37 : Int32).toInt = 37 := by decide
                    have y_42 : (42 : Int32).toInt = 42 := by decide
                    have y_47 : (47 : Int32).toInt = 47 := by decide
                    omega
                  refine cV (a := (Ma 0)) (As := []) (rest := []) (wr := []) ⟨hx, hb, hml, hown, hts⟩ hK hX hA (cu_fX12_value l D tc sk (Ma 0) (Ma 1) (Ma 2) (Ma 3) (Ma 4) (Ma 5) (Ma 6) (Ma 7) (Ma 8) (Ma 9) (Ma 10) (Ma 11) (Ma 12) (Ma 13) (Ma 14) (Ma 15) (Ma 16) (Ma 17) (Ma 18) (Ma 19) (Ma 20) (Mv 0) (Mv 1) x_492 vy_29 vy_30 (Mv 5) vy_31 (Mv 7) (Mv 8) (Mv 9) (Mv 10) (Mv 11) (Mv 12) (Mv 13) (Mv 14) (Mf 1) vy_32 vy_33 (Mj 0) b (d + 1) ha_493 pf_41 ha_494 ha_495 h_bs ha_496) k_1287 k_1284 k_1286 k_44 k_106 pl_X12_value ⟨Nat.le_of_ble_eq_true rfl, Nat.le_of_ble_eq_true rfl⟩ rfl rfl (va_recv hK hP (ci := 12) (q0 := 2) rfl rfl) hP hD hS [2, 3, 0, 1] [] rfl rfl rfl rfl rfl (by decide) rfl hl.1 rfl (Nat.le_of_ble_eq_true rfl) dX12_term_86 ⟨Nat.le_of_ble_eq_true rfl, Nat.le_of_ble_eq_true rfl⟩ (fun v_497 u_498 H locs hv_499 hP₀ hD₀ hS₀ => ?_)
                  obtain ⟨sv_500, sv_501, sv_502, sv_503, sv_504, sv_505⟩ := u_498
                  obtain ⟨r_509, rfl, he_510, pf_506, pf_507, pf_508, hm_512, hm_513⟩ := hv_499
                  have he_510 : ((r_509.toInt = 0 ∧ ¬ (sv_501 : Int32).toInt = 0) ∨ (r_509.toInt = 1 ∧ (vy_33 (Mv 5).toNatClampNeg).toInt + 1 ≤ (sv_505 (Mv 5).toNatClampNeg).toInt ∧ (sv_505 (Mv 5).toNatClampNeg).toInt + (x_492 : Int32).toInt ≤ (vy_33 (Mv 5).toNatClampNeg).toInt + (sv_500 : Int32).toInt ∧ (x_492 : Int32).toInt + 1 ≤ (sv_500 : Int32).toInt)) := he_510
                  have pf_506 : (x_492 : Int32).toInt ≤ (sv_500 : Int32).toInt ∧ (sv_500 : Int32).toInt ≤ ((Mv 0) : Int32).toInt := pf_506
                  have pf_507 : (vy_31 : Int32).toInt ≤ (sv_503 : Int32).toInt ∧ (sv_503 : Int32).toInt ≤ 60 := pf_507
                  have pf_508 : Agr vy_32 sv_504 (400 * ((Mv 5) : Int32).toInt + (vy_33 (Mv 5).toNatClampNeg).toInt) := pf_508
                  refine W.eq (g2 := F0 m 89 ls [.int r_509]) rfl ?_
                  replace hP : va_P D classes [((Ma 0), .inr (12, [.ref (Ma 1), .int (Mv 0), .int (Mv 1), .ref (Ma 2), .ref (Ma 3), .ref (Ma 4), .ref (Ma 5), .ref (Ma 6), .int sv_500, .int sv_501, .int sv_502, .int (Mv 5), .int sv_503, .int (Mv 7), .int (Mv 8), .ref (Ma 7), .int (Mv 9), .ref (Ma 8), .int (Mv 10), .ref (Ma 9), .ref (Ma 10), .int (Mv 11), .int (Mv 12), .int (Mv 13), .ref (Ma 11), .int (Mv 14), .ref (Ma 12), .ref (Ma 13), .ref (Ma 14), .ref (Ma 15), .ref (Ma 16), .long (Mj 0), .ref (Ma 17), .ref (Ma 18), .ref (Ma 19), .ref (Ma 20)])), ((Ma 1), .inl (tc 2, 400, .inl (Mf 1))), ((Ma 2), .inl (tc 0, 2400, .inl sv_504)), ((Ma 3), .inl (tc 0, 7, .inl sv_505))] H := hP₀
                  replace hD : va_D A [((Ma 0), .inr (12, [.ref (Ma 1), .int (Mv 0), .int (Mv 1), .ref (Ma 2), .ref (Ma 3), .ref (Ma 4), .ref (Ma 5), .ref (Ma 6), .int sv_500, .int sv_501, .int sv_502, .int (Mv 5), .int sv_503, .int (Mv 7), .int (Mv 8), .ref (Ma 7), .int (Mv 9), .ref (Ma 8), .int (Mv 10), .ref (Ma 9), .ref (Ma 10), .int (Mv 11), .int (Mv 12), .int (Mv 13), .ref (Ma 11), .int (Mv 14), .ref (Ma 12), .ref (Ma 13), .ref (Ma 14), .ref (Ma 15), .ref (Ma 16), .long (Mj 0), .ref (Ma 17), .ref (Ma 18), .ref (Ma 19), .ref (Ma 20)])), ((Ma 1), .inl (tc 2, 400, .inl (Mf 1))), ((Ma 2), .inl (tc 0, 2400, .inl sv_504)), ((Ma 3), .inl (tc 0, 7, .inl sv_505))] := hD₀
                  replace hS := hS₀
                  clear hP₀ hD₀ hS₀
                  refine lv_if_ne (tgt := 94) hx hb dX12_term_89 (by decide) (fun c_514 => ?_) (fun c_514 => ?_)
                  · skip
                    have hz_517 : (r_509 : Int32).toInt = 1 := by
                      have z_1 : ¬ (r_13 : Int32).toInt = (0 : Int32).toInt := fun z => c_18 (Int32.toInt_inj.mp z)
                      have z_2 : ¬ (r_52 : Int32).toInt = (42 : Int32).toInt := fun z => c_55 (Int32.toInt_inj.mp z)
                      have z_3 : ¬ (r_236 : Int32).toInt = (47 : Int32).toInt := fun z => c_240 (Int32.toInt_inj.mp z)
                      have z_4 := congrArg Int32.toInt c_425
                      have z_5 : ¬ (x_432 : Int32).toInt = (42 : Int32).toInt := fun z => c_433 (Int32.toInt_inj.mp z)
                      have z_6 := congrArg Int32.toInt c_436
                      have z_7 : ¬ (r_509 : Int32).toInt = (0 : Int32).toInt := fun z => c_514 (Int32.toInt_inj.mp z)
                      have y_0 : (0 : Int32).toInt = 0 := by decide
                      have y_37 : (37 : Int32).toInt = 37 := by decide
                      have y_42 : (42 : Int32).toInt = 42 := by decide
                      have y_47 : (47 : Int32).toInt = 47 := by decide
                      omega
                    obtain ⟨pf_515, pf_516⟩ := hm_512 hz_517
                    have pf_515 : Cd sv_504 sv_505 (Mv 5) b sv_503 ((d + 1) + 1) := pf_515
                    have ar_pf_515 := Cd.ar pf_515
                    have pf_516 : RfO (pz_val (rB (Mf 1) (Mv 0)) (St0 (rB (Mf 1) (Mv 0)) x_492 vy_31)) (rB (Mf 1) (Mv 0)) sv_501 sv_500 sv_503 := pf_516
                    have ar_pf_516 := RfO.wr pf_516
                    refine lv_aload_n hx hb dX12_term_94 rfl (lv_at hl 1 rfl) ?_
                    refine lv_iload_n hx hb dX12_term_95 rfl (lv_at hl 0 rfl) ?_
                    refine lv_iconst (v := 0) hx hb dX12_term_96 (by decide) ?_
                    have ha_518 : ((d + 1) : Int) ≤ sv_503.toInt := by
                      have z_1 : ¬ (r_13 : Int32).toInt = (0 : Int32).toInt := fun z => c_18 (Int32.toInt_inj.mp z)
                      have z_2 : ¬ (r_52 : Int32).toInt = (42 : Int32).toInt := fun z => c_55 (Int32.toInt_inj.mp z)
                      have z_3 : ¬ (r_236 : Int32).toInt = (47 : Int32).toInt := fun z => c_240 (Int32.toInt_inj.mp z)
                      have z_4 := congrArg Int32.toInt c_425
                      have z_5 : ¬ (x_432 : Int32).toInt = (42 : Int32).toInt := fun z => c_433 (Int32.toInt_inj.mp z)
                      have z_6 := congrArg Int32.toInt c_436
                      have z_7 : ¬ (r_509 : Int32).toInt = (0 : Int32).toInt := fun z => c_514 (Int32.toInt_inj.mp z)
                      have y_0 : (0 : Int32).toInt = 0 := by decide
                      have y_37 : (37 : Int32).toInt = 37 := by decide
                      have y_42 : (42 : Int32).toInt = 42 := by decide
                      have y_47 : (47 : Int32).toInt = 47 := by decide
                      omega
                    have ha_519 : (sv_505 (Mv 5).toNatClampNeg).toInt < 400 := by
                      have z_1 : ¬ (r_13 : Int32).toInt = (0 : Int32).toInt := fun z => c_18 (Int32.toInt_inj.mp z)
                      have z_2 : ¬ (r_52 : Int32).toInt = (42 : Int32).toInt := fun z => c_55 (Int32.toInt_inj.mp z)
                      have z_3 : ¬ (r_236 : Int32).toInt = (47 : Int32).toInt := fun z => c_240 (Int32.toInt_inj.mp z)
                      have z_4 := congrArg Int32.toInt c_425
                      have z_5 : ¬ (x_432 : Int32).toInt = (42 : Int32).toInt := fun z => c_433 (Int32.toInt_inj.mp z)
                      have z_6 := congrArg Int32.toInt c_436
                      have z_7 : ¬ (r_509 : Int32).toInt = (0 : Int32).toInt := fun z => c_514 (Int32.toInt_inj.mp z)
                      have y_0 : (0 : Int32).toInt = 0 := by decide
                      have y_37 : (37 : Int32).toInt = 37 := by decide
                      have y_42 : (42 : Int32).toInt = 42 := by decide
                      have y_47 : (47 : Int32).toInt = 47 := by decide
                      omega
                    refine cV (a := (Ma 0)) (As := [.int 5, .int 0]) (rest := []) (wr := [((Ma 1), .inl (tc 2, 400, .inl (Mf 1)))]) ⟨hx, hb, hml, hown, hts⟩ hK hX hA (cu_X12_puts l D tc sk (Ma 0) (Ma 1) (Ma 2) (Ma 3) (Ma 4) (Ma 5) (Ma 6) (Ma 7) (Ma 8) (Ma 9) (Ma 10) (Ma 11) (Ma 12) (Ma 13) (Ma 14) (Ma 15) (Ma 16) (Ma 17) (Ma 18) (Ma 19) (Ma 20) (Mv 0) (Mv 1) sv_500 sv_501 sv_502 (Mv 5) sv_503 (Mv 7) (Mv 8) (Mv 9) (Mv 10) (Mv 11) (Mv 12) (Mv 13) (Mv 14) sv_504 sv_505 (Mj 0) 5 0 b sv_503 ((d + 1) + 1) (d + 1) pf_515 (StpR.op (by decide) rfl (by omega)) ha_518 ha_519) k_1296 k_1293 k_1295 k_46 k_106 pl_X12_puts ⟨Nat.le_of_ble_eq_true rfl, Nat.le_of_ble_eq_true rfl⟩ rfl rfl (va_recv hK hP (ci := 12) (q0 := 0) rfl rfl) hP hD hS [0, 2, 3] [1] rfl rfl rfl rfl rfl (by decide) rfl hl.1 rfl (Nat.le_of_ble_eq_true rfl) dX12_term_97 ⟨Nat.le_of_ble_eq_true rfl, Nat.le_of_ble_eq_true rfl⟩ (fun v_520 u_521 H locs hv_522 hP₀ hD₀ hS₀ => ?_)
                    obtain ⟨sv_523, sv_524⟩ := u_521
                    obtain ⟨rfl, pf_525, pf_526, pf_527⟩ := hv_522
                    have pf_525 : Cd sv_523 sv_524 (Mv 5) b sv_503 (d + 1) := pf_525
                    have ar_pf_525 := Cd.ar pf_525
                    have pf_526 : Agr sv_504 sv_523 (400 * ((Mv 5) : Int32).toInt + (sv_505 (Mv 5).toNatClampNeg).toInt) := pf_526
                    have pf_527 : (sv_524 (Mv 5).toNatClampNeg).toInt = (sv_505 (Mv 5).toNatClampNeg).toInt + 1 := pf_527
                    refine W.eq (g2 := F0 m 100 ls []) rfl ?_
                    replace hP : va_P D classes [((Ma 1), .inl (tc 2, 400, .inl (Mf 1))), ((Ma 0), .inr (12, [.ref (Ma 1), .int (Mv 0), .int (Mv 1), .ref (Ma 2), .ref (Ma 3), .ref (Ma 4), .ref (Ma 5), .ref (Ma 6), .int sv_500, .int sv_501, .int sv_502, .int (Mv 5), .int sv_503, .int (Mv 7), .int (Mv 8), .ref (Ma 7), .int (Mv 9), .ref (Ma 8), .int (Mv 10), .ref (Ma 9), .ref (Ma 10), .int (Mv 11), .int (Mv 12), .int (Mv 13), .ref (Ma 11), .int (Mv 14), .ref (Ma 12), .ref (Ma 13), .ref (Ma 14), .ref (Ma 15), .ref (Ma 16), .long (Mj 0), .ref (Ma 17), .ref (Ma 18), .ref (Ma 19), .ref (Ma 20)])), ((Ma 2), .inl (tc 0, 2400, .inl sv_523)), ((Ma 3), .inl (tc 0, 7, .inl sv_524))] H := hP₀
                    replace hD : va_D A [((Ma 1), .inl (tc 2, 400, .inl (Mf 1))), ((Ma 0), .inr (12, [.ref (Ma 1), .int (Mv 0), .int (Mv 1), .ref (Ma 2), .ref (Ma 3), .ref (Ma 4), .ref (Ma 5), .ref (Ma 6), .int sv_500, .int sv_501, .int sv_502, .int (Mv 5), .int sv_503, .int (Mv 7), .int (Mv 8), .ref (Ma 7), .int (Mv 9), .ref (Ma 8), .int (Mv 10), .ref (Ma 9), .ref (Ma 10), .int (Mv 11), .int (Mv 12), .int (Mv 13), .ref (Ma 11), .int (Mv 14), .ref (Ma 12), .ref (Ma 13), .ref (Ma 14), .ref (Ma 15), .ref (Ma 16), .long (Mj 0), .ref (Ma 17), .ref (Ma 18), .ref (Ma 19), .ref (Ma 20)])), ((Ma 2), .inl (tc 0, 2400, .inl sv_523)), ((Ma 3), .inl (tc 0, 7, .inl sv_524))] := hD₀
                    replace hS := hS₀
                    clear hP₀ hD₀ hS₀
                    refine lv_goto (tgt := 9) hx hb dX12_term_100 (by decide) ?_
                    have hb_528 : 400 - (sv_500 : Int32).toInt < 400 - (vy_28 : Int32).toInt ∧ 1 ≤ 400 - (vy_28 : Int32).toInt := by
                      have z_1 : ¬ (r_13 : Int32).toInt = (0 : Int32).toInt := fun z => c_18 (Int32.toInt_inj.mp z)
                      have z_2 : ¬ (r_52 : Int32).toInt = (42 : Int32).toInt := fun z => c_55 (Int32.toInt_inj.mp z)
                      have z_3 : ¬ (r_236 : Int32).toInt = (47 : Int32).toInt := fun z => c_240 (Int32.toInt_inj.mp z)
                      have z_4 := congrArg Int32.toInt c_425
                      have z_5 : ¬ (x_432 : Int32).toInt = (42 : Int32).toInt := fun z => c_433 (Int32.toInt_inj.mp z)
                      have z_6 := congrArg Int32.toInt c_436
                      have z_7 : ¬ (r_509 : Int32).toInt = (0 : Int32).toInt := fun z => c_514 (Int32.toInt_inj.mp z)
                      have y_0 : (0 : Int32).toInt = 0 := by decide
                      have y_37 : (37 : Int32).toInt = 37 := by decide
                      have y_42 : (42 : Int32).toInt = 42 := by decide
                      have y_47 : (47 : Int32).toInt = 47 := by decide
                      omega
                    have ha_529 : 0 ≤ (sv_500 : Int32).toInt ∧ (sv_500 : Int32).toInt ≤ ((Mv 0) : Int32).toInt ∧ ((Mv 0) : Int32).toInt ≤ 400 := by
                      have z_1 : ¬ (r_13 : Int32).toInt = (0 : Int32).toInt := fun z => c_18 (Int32.toInt_inj.mp z)
                      have z_2 : ¬ (r_52 : Int32).toInt = (42 : Int32).toInt := fun z => c_55 (Int32.toInt_inj.mp z)
                      have z_3 : ¬ (r_236 : Int32).toInt = (47 : Int32).toInt := fun z => c_240 (Int32.toInt_inj.mp z)
                      have z_4 := congrArg Int32.toInt c_425
                      have z_5 : ¬ (x_432 : Int32).toInt = (42 : Int32).toInt := fun z => c_433 (Int32.toInt_inj.mp z)
                      have z_6 := congrArg Int32.toInt c_436
                      have z_7 : ¬ (r_509 : Int32).toInt = (0 : Int32).toInt := fun z => c_514 (Int32.toInt_inj.mp z)
                      have y_0 : (0 : Int32).toInt = 0 := by decide
                      have y_37 : (37 : Int32).toInt = 37 := by decide
                      have y_42 : (42 : Int32).toInt = 42 := by decide
                      have y_47 : (47 : Int32).toInt = 47 := by decide
                      omega
                    have ha_530 : (Mv 6).toInt ≤ (sv_503 : Int32).toInt ∧ (sv_503 : Int32).toInt ≤ 60 := by
                      have z_1 : ¬ (r_13 : Int32).toInt = (0 : Int32).toInt := fun z => c_18 (Int32.toInt_inj.mp z)
                      have z_2 : ¬ (r_52 : Int32).toInt = (42 : Int32).toInt := fun z => c_55 (Int32.toInt_inj.mp z)
                      have z_3 : ¬ (r_236 : Int32).toInt = (47 : Int32).toInt := fun z => c_240 (Int32.toInt_inj.mp z)
                      have z_4 := congrArg Int32.toInt c_425
                      have z_5 : ¬ (x_432 : Int32).toInt = (42 : Int32).toInt := fun z => c_433 (Int32.toInt_inj.mp z)
                      have z_6 := congrArg Int32.toInt c_436
                      have z_7 : ¬ (r_509 : Int32).toInt = (0 : Int32).toInt := fun z => c_514 (Int32.toInt_inj.mp z)
                      have y_0 : (0 : Int32).toInt = 0 := by decide
                      have y_37 : (37 : Int32).toInt = 37 := by decide
                      have y_42 : (42 : Int32).toInt = 42 := by decide
                      have y_47 : (47 : Int32).toInt = 47 := by decide
                      omega
                    have ha_531 : ((Mf 3) (Mv 5).toNatClampNeg).toInt + 1 ≤ (sv_524 (Mv 5).toNatClampNeg).toInt ∧ (sv_524 (Mv 5).toNatClampNeg).toInt + ((Mv 2) : Int32).toInt ≤ ((Mf 3) (Mv 5).toNatClampNeg).toInt + (sv_500 : Int32).toInt ∧ ((Mv 2) : Int32).toInt + 1 ≤ (sv_500 : Int32).toInt := by
                      have z_1 : ¬ (r_13 : Int32).toInt = (0 : Int32).toInt := fun z => c_18 (Int32.toInt_inj.mp z)
                      have z_2 : ¬ (r_52 : Int32).toInt = (42 : Int32).toInt := fun z => c_55 (Int32.toInt_inj.mp z)
                      have z_3 : ¬ (r_236 : Int32).toInt = (47 : Int32).toInt := fun z => c_240 (Int32.toInt_inj.mp z)
                      have z_4 := congrArg Int32.toInt c_425
                      have z_5 : ¬ (x_432 : Int32).toInt = (42 : Int32).toInt := fun z => c_433 (Int32.toInt_inj.mp z)
                      have z_6 := congrArg Int32.toInt c_436
                      have z_7 : ¬ (r_509 : Int32).toInt = (0 : Int32).toInt := fun z => c_514 (Int32.toInt_inj.mp z)
                      have y_0 : (0 : Int32).toInt = 0 := by decide
                      have y_37 : (37 : Int32).toInt = 37 := by decide
                      have y_42 : (42 : Int32).toInt = 42 := by decide
                      have y_47 : (47 : Int32).toInt = 47 := by decide
                      omega
                    have hr_532 : (400 * ((Mv 5) : Int32).toInt + ((Mf 3) (Mv 5).toNatClampNeg).toInt) ≤ (400 * ((Mv 5) : Int32).toInt + ((Mf 3) (Mv 5).toNatClampNeg).toInt) := by
                      have z_1 : ¬ (r_13 : Int32).toInt = (0 : Int32).toInt := fun z => c_18 (Int32.toInt_inj.mp z)
                      have z_2 : ¬ (r_52 : Int32).toInt = (42 : Int32).toInt := fun z => c_55 (Int32.toInt_inj.mp z)
                      have z_3 : ¬ (r_236 : Int32).toInt = (47 : Int32).toInt := fun z => c_240 (Int32.toInt_inj.mp z)
                      have z_4 := congrArg Int32.toInt c_425
                      have z_5 : ¬ (x_432 : Int32).toInt = (42 : Int32).toInt := fun z => c_433 (Int32.toInt_inj.mp z)
                      have z_6 := congrArg Int32.toInt c_436
                      have z_7 : ¬ (r_509 : Int32).toInt = (0 : Int32).toInt := fun z => c_514 (Int32.toInt_inj.mp z)
                      have y_0 : (0 : Int32).toInt = 0 := by decide
                      have y_37 : (37 : Int32).toInt = 37 := by decide
                      have y_42 : (42 : Int32).toInt = 42 := by decide
                      have y_47 : (47 : Int32).toInt = 47 := by decide
                      omega
                    have hr_533 : (400 * ((Mv 5) : Int32).toInt + ((Mf 3) (Mv 5).toNatClampNeg).toInt) ≤ (400 * ((Mv 5) : Int32).toInt + (vy_33 (Mv 5).toNatClampNeg).toInt) := by
                      have z_1 : ¬ (r_13 : Int32).toInt = (0 : Int32).toInt := fun z => c_18 (Int32.toInt_inj.mp z)
                      have z_2 : ¬ (r_52 : Int32).toInt = (42 : Int32).toInt := fun z => c_55 (Int32.toInt_inj.mp z)
                      have z_3 : ¬ (r_236 : Int32).toInt = (47 : Int32).toInt := fun z => c_240 (Int32.toInt_inj.mp z)
                      have z_4 := congrArg Int32.toInt c_425
                      have z_5 : ¬ (x_432 : Int32).toInt = (42 : Int32).toInt := fun z => c_433 (Int32.toInt_inj.mp z)
                      have z_6 := congrArg Int32.toInt c_436
                      have z_7 : ¬ (r_509 : Int32).toInt = (0 : Int32).toInt := fun z => c_514 (Int32.toInt_inj.mp z)
                      have y_0 : (0 : Int32).toInt = 0 := by decide
                      have y_37 : (37 : Int32).toInt = 37 := by decide
                      have y_42 : (42 : Int32).toInt = 42 := by decide
                      have y_47 : (47 : Int32).toInt = 47 := by decide
                      omega
                    have hr_534 : (400 * ((Mv 5) : Int32).toInt + ((Mf 3) (Mv 5).toNatClampNeg).toInt) ≤ (400 * ((Mv 5) : Int32).toInt + (sv_505 (Mv 5).toNatClampNeg).toInt) := by
                      have z_1 : ¬ (r_13 : Int32).toInt = (0 : Int32).toInt := fun z => c_18 (Int32.toInt_inj.mp z)
                      have z_2 : ¬ (r_52 : Int32).toInt = (42 : Int32).toInt := fun z => c_55 (Int32.toInt_inj.mp z)
                      have z_3 : ¬ (r_236 : Int32).toInt = (47 : Int32).toInt := fun z => c_240 (Int32.toInt_inj.mp z)
                      have z_4 := congrArg Int32.toInt c_425
                      have z_5 : ¬ (x_432 : Int32).toInt = (42 : Int32).toInt := fun z => c_433 (Int32.toInt_inj.mp z)
                      have z_6 := congrArg Int32.toInt c_436
                      have z_7 : ¬ (r_509 : Int32).toInt = (0 : Int32).toInt := fun z => c_514 (Int32.toInt_inj.mp z)
                      have y_0 : (0 : Int32).toInt = 0 := by decide
                      have y_37 : (37 : Int32).toInt = 37 := by decide
                      have y_42 : (42 : Int32).toInt = 42 := by decide
                      have y_47 : (47 : Int32).toInt = 47 := by decide
                      omega
                    have hr_535 : (rB (Mf 1) (Mv 0) (sv_416 : Int32).toInt.toNat = 43 ∨ rB (Mf 1) (Mv 0) (sv_416 : Int32).toInt.toNat = 45 ∨ rB (Mf 1) (Mv 0) (sv_416 : Int32).toInt.toNat = 42 ∨ rB (Mf 1) (Mv 0) (sv_416 : Int32).toInt.toNat = 47 ∨ rB (Mf 1) (Mv 0) (sv_416 : Int32).toInt.toNat = 37) := by
                      have z_1 : ¬ (r_13 : Int32).toInt = (0 : Int32).toInt := fun z => c_18 (Int32.toInt_inj.mp z)
                      have z_2 : ¬ (r_52 : Int32).toInt = (42 : Int32).toInt := fun z => c_55 (Int32.toInt_inj.mp z)
                      have z_3 : ¬ (r_236 : Int32).toInt = (47 : Int32).toInt := fun z => c_240 (Int32.toInt_inj.mp z)
                      have z_4 := congrArg Int32.toInt c_425
                      have z_5 : ¬ (x_432 : Int32).toInt = (42 : Int32).toInt := fun z => c_433 (Int32.toInt_inj.mp z)
                      have z_6 := congrArg Int32.toInt c_436
                      have z_7 : ¬ (r_509 : Int32).toInt = (0 : Int32).toInt := fun z => c_514 (Int32.toInt_inj.mp z)
                      have y_0 : (0 : Int32).toInt = 0 := by decide
                      have y_37 : (37 : Int32).toInt = 37 := by decide
                      have y_42 : (42 : Int32).toInt = 42 := by decide
                      have y_47 : (47 : Int32).toInt = 47 := by decide
                      omega
                    have hi_536 : (x_492 : Int32).toInt = (sv_416 : Int32).toInt + 1 := by
                      have z_1 : ¬ (r_13 : Int32).toInt = (0 : Int32).toInt := fun z => c_18 (Int32.toInt_inj.mp z)
                      have z_2 : ¬ (r_52 : Int32).toInt = (42 : Int32).toInt := fun z => c_55 (Int32.toInt_inj.mp z)
                      have z_3 : ¬ (r_236 : Int32).toInt = (47 : Int32).toInt := fun z => c_240 (Int32.toInt_inj.mp z)
                      have z_4 := congrArg Int32.toInt c_425
                      have z_5 : ¬ (x_432 : Int32).toInt = (42 : Int32).toInt := fun z => c_433 (Int32.toInt_inj.mp z)
                      have z_6 := congrArg Int32.toInt c_436
                      have z_7 : ¬ (r_509 : Int32).toInt = (0 : Int32).toInt := fun z => c_514 (Int32.toInt_inj.mp z)
                      have y_0 : (0 : Int32).toInt = 0 := by decide
                      have y_37 : (37 : Int32).toInt = 37 := by decide
                      have y_42 : (42 : Int32).toInt = 42 := by decide
                      have y_47 : (47 : Int32).toInt = 47 := by decide
                      have y_1 : (1 : Int32).toInt = 1 := by decide
                      have t_x_492 : x_492.toInt = (sv_416 : Int32).toInt + (1 : Int32).toInt := by rw [ex_492]; exact add_toInt (by omega) (by omega)
                      omega
                    exact ih_35 sv_500 sv_501 sv_502 sv_503 sv_523 sv_524 _ _ _ (by omega) ha_529 ha_530 ha_531 (Agr.trans (k' := (400 * ((Mv 5) : Int32).toInt + ((Mf 3) (Mv 5).toNatClampNeg).toInt)) (Agr.trans (k' := (400 * ((Mv 5) : Int32).toInt + ((Mf 3) (Mv 5).toNatClampNeg).toInt)) (Agr.mono pf_40 hr_532) pf_508 ⟨Int.le_refl _, hr_533⟩) pf_526 ⟨Int.le_refl _, hr_534⟩) pf_525 (TmL.next (rB_fi h_nx.2.2) pf_42 (SkR.trans (SkR.trans pf_51 pf_235) pf_420) hr_535 hi_536 pf_516) (hP.sub [1, 0, 2, 3] rfl) (hD.sub [1, 0, 2, 3] rfl rfl) hS (lv_sub hl [1] rfl)
                  · skip
                    have hz_538 : (r_509 : Int32).toInt = 0 := by
                      have z_1 : ¬ (r_13 : Int32).toInt = (0 : Int32).toInt := fun z => c_18 (Int32.toInt_inj.mp z)
                      have z_2 : ¬ (r_52 : Int32).toInt = (42 : Int32).toInt := fun z => c_55 (Int32.toInt_inj.mp z)
                      have z_3 : ¬ (r_236 : Int32).toInt = (47 : Int32).toInt := fun z => c_240 (Int32.toInt_inj.mp z)
                      have z_4 := congrArg Int32.toInt c_425
                      have z_5 : ¬ (x_432 : Int32).toInt = (42 : Int32).toInt := fun z => c_433 (Int32.toInt_inj.mp z)
                      have z_6 := congrArg Int32.toInt c_436
                      have z_7 := congrArg Int32.toInt c_514
                      have y_0 : (0 : Int32).toInt = 0 := by decide
                      have y_37 : (37 : Int32).toInt = 37 := by decide
                      have y_42 : (42 : Int32).toInt = 42 := by decide
                      have y_47 : (47 : Int32).toInt = 47 := by decide
                      omega
                    obtain pf_537 := hm_513 hz_538
                    have pf_537 : RfE (pz_val (rB (Mf 1) (Mv 0)) (St0 (rB (Mf 1) (Mv 0)) x_492 vy_31)) sv_501 := pf_537
                    refine lv_iconst (v := 0) hx hb dX12_term_92 (by decide) ?_
                    have ha_539 : ((Mv 2) : Int32).toInt ≤ (sv_500 : Int32).toInt ∧ (sv_500 : Int32).toInt ≤ ((Mv 0) : Int32).toInt := by
                      have z_1 : ¬ (r_13 : Int32).toInt = (0 : Int32).toInt := fun z => c_18 (Int32.toInt_inj.mp z)
                      have z_2 : ¬ (r_52 : Int32).toInt = (42 : Int32).toInt := fun z => c_55 (Int32.toInt_inj.mp z)
                      have z_3 : ¬ (r_236 : Int32).toInt = (47 : Int32).toInt := fun z => c_240 (Int32.toInt_inj.mp z)
                      have z_4 := congrArg Int32.toInt c_425
                      have z_5 : ¬ (x_432 : Int32).toInt = (42 : Int32).toInt := fun z => c_433 (Int32.toInt_inj.mp z)
                      have z_6 := congrArg Int32.toInt c_436
                      have z_7 := congrArg Int32.toInt c_514
                      have y_0 : (0 : Int32).toInt = 0 := by decide
                      have y_37 : (37 : Int32).toInt = 37 := by decide
                      have y_42 : (42 : Int32).toInt = 42 := by decide
                      have y_47 : (47 : Int32).toInt = 47 := by decide
                      omega
                    have ha_540 : ((Mv 6) : Int32).toInt ≤ (sv_503 : Int32).toInt ∧ (sv_503 : Int32).toInt ≤ 60 := by
                      have z_1 : ¬ (r_13 : Int32).toInt = (0 : Int32).toInt := fun z => c_18 (Int32.toInt_inj.mp z)
                      have z_2 : ¬ (r_52 : Int32).toInt = (42 : Int32).toInt := fun z => c_55 (Int32.toInt_inj.mp z)
                      have z_3 : ¬ (r_236 : Int32).toInt = (47 : Int32).toInt := fun z => c_240 (Int32.toInt_inj.mp z)
                      have z_4 := congrArg Int32.toInt c_425
                      have z_5 : ¬ (x_432 : Int32).toInt = (42 : Int32).toInt := fun z => c_433 (Int32.toInt_inj.mp z)
                      have z_6 := congrArg Int32.toInt c_436
                      have z_7 := congrArg Int32.toInt c_514
                      have y_0 : (0 : Int32).toInt = 0 := by decide
                      have y_37 : (37 : Int32).toInt = 37 := by decide
                      have y_42 : (42 : Int32).toInt = 42 := by decide
                      have y_47 : (47 : Int32).toInt = 47 := by decide
                      omega
                    have hr_541 : (400 * ((Mv 5) : Int32).toInt + ((Mf 3) (Mv 5).toNatClampNeg).toInt) ≤ (400 * ((Mv 5) : Int32).toInt + ((Mf 3) (Mv 5).toNatClampNeg).toInt) := by
                      have z_1 : ¬ (r_13 : Int32).toInt = (0 : Int32).toInt := fun z => c_18 (Int32.toInt_inj.mp z)
                      have z_2 : ¬ (r_52 : Int32).toInt = (42 : Int32).toInt := fun z => c_55 (Int32.toInt_inj.mp z)
                      have z_3 : ¬ (r_236 : Int32).toInt = (47 : Int32).toInt := fun z => c_240 (Int32.toInt_inj.mp z)
                      have z_4 := congrArg Int32.toInt c_425
                      have z_5 : ¬ (x_432 : Int32).toInt = (42 : Int32).toInt := fun z => c_433 (Int32.toInt_inj.mp z)
                      have z_6 := congrArg Int32.toInt c_436
                      have z_7 := congrArg Int32.toInt c_514
                      have y_0 : (0 : Int32).toInt = 0 := by decide
                      have y_37 : (37 : Int32).toInt = 37 := by decide
                      have y_42 : (42 : Int32).toInt = 42 := by decide
                      have y_47 : (47 : Int32).toInt = 47 := by decide
                      omega
                    have hr_542 : (400 * ((Mv 5) : Int32).toInt + ((Mf 3) (Mv 5).toNatClampNeg).toInt) ≤ (400 * ((Mv 5) : Int32).toInt + (vy_33 (Mv 5).toNatClampNeg).toInt) := by
                      have z_1 : ¬ (r_13 : Int32).toInt = (0 : Int32).toInt := fun z => c_18 (Int32.toInt_inj.mp z)
                      have z_2 : ¬ (r_52 : Int32).toInt = (42 : Int32).toInt := fun z => c_55 (Int32.toInt_inj.mp z)
                      have z_3 : ¬ (r_236 : Int32).toInt = (47 : Int32).toInt := fun z => c_240 (Int32.toInt_inj.mp z)
                      have z_4 := congrArg Int32.toInt c_425
                      have z_5 : ¬ (x_432 : Int32).toInt = (42 : Int32).toInt := fun z => c_433 (Int32.toInt_inj.mp z)
                      have z_6 := congrArg Int32.toInt c_436
                      have z_7 := congrArg Int32.toInt c_514
                      have y_0 : (0 : Int32).toInt = 0 := by decide
                      have y_37 : (37 : Int32).toInt = 37 := by decide
                      have y_42 : (42 : Int32).toInt = 42 := by decide
                      have y_47 : (47 : Int32).toInt = 47 := by decide
                      omega
                    have hp_543 : (((0 : Int32).toInt = 0 ∧ ¬ (sv_501 : Int32).toInt = 0) ∨ ((0 : Int32).toInt = 1 ∧ ((Mf 3) (Mv 5).toNatClampNeg).toInt + 1 ≤ (sv_505 (Mv 5).toNatClampNeg).toInt ∧ (sv_505 (Mv 5).toNatClampNeg).toInt + ((Mv 2) : Int32).toInt ≤ ((Mf 3) (Mv 5).toNatClampNeg).toInt + (sv_500 : Int32).toInt ∧ ((Mv 2) : Int32).toInt + 1 ≤ (sv_500 : Int32).toInt)) := by
                      have z_1 : ¬ (r_13 : Int32).toInt = (0 : Int32).toInt := fun z => c_18 (Int32.toInt_inj.mp z)
                      have z_2 : ¬ (r_52 : Int32).toInt = (42 : Int32).toInt := fun z => c_55 (Int32.toInt_inj.mp z)
                      have z_3 : ¬ (r_236 : Int32).toInt = (47 : Int32).toInt := fun z => c_240 (Int32.toInt_inj.mp z)
                      have z_4 := congrArg Int32.toInt c_425
                      have z_5 : ¬ (x_432 : Int32).toInt = (42 : Int32).toInt := fun z => c_433 (Int32.toInt_inj.mp z)
                      have z_6 := congrArg Int32.toInt c_436
                      have z_7 := congrArg Int32.toInt c_514
                      have y_0 : (0 : Int32).toInt = 0 := by decide
                      have y_37 : (37 : Int32).toInt = 37 := by decide
                      have y_42 : (42 : Int32).toInt = 42 := by decide
                      have y_47 : (47 : Int32).toInt = 47 := by decide
                      omega
                    have hm_544 : (0 : Int32).toInt = 0 → (RfE (pz_sum (rB (Mf 1) (Mv 0)) (St0 (rB (Mf 1) (Mv 0)) (Mv 2) (Mv 6))) sv_501) := by
                      intro h1r
                      have hr_545 : (rB (Mf 1) (Mv 0) (sv_416 : Int32).toInt.toNat = 43 ∨ rB (Mf 1) (Mv 0) (sv_416 : Int32).toInt.toNat = 45 ∨ rB (Mf 1) (Mv 0) (sv_416 : Int32).toInt.toNat = 42 ∨ rB (Mf 1) (Mv 0) (sv_416 : Int32).toInt.toNat = 47 ∨ rB (Mf 1) (Mv 0) (sv_416 : Int32).toInt.toNat = 37) := by
                        have z_1 : ¬ (r_13 : Int32).toInt = (0 : Int32).toInt := fun z => c_18 (Int32.toInt_inj.mp z)
                        have z_2 : ¬ (r_52 : Int32).toInt = (42 : Int32).toInt := fun z => c_55 (Int32.toInt_inj.mp z)
                        have z_3 : ¬ (r_236 : Int32).toInt = (47 : Int32).toInt := fun z => c_240 (Int32.toInt_inj.mp z)
                        have z_4 := congrArg Int32.toInt c_425
                        have z_5 : ¬ (x_432 : Int32).toInt = (42 : Int32).toInt := fun z => c_433 (Int32.toInt_inj.mp z)
                        have z_6 := congrArg Int32.toInt c_436
                        have z_7 := congrArg Int32.toInt c_514
                        have y_0 : (0 : Int32).toInt = 0 := by decide
                        have y_37 : (37 : Int32).toInt = 37 := by decide
                        have y_42 : (42 : Int32).toInt = 42 := by decide
                        have y_47 : (47 : Int32).toInt = 47 := by decide
                        omega
                      have hi_546 : (x_492 : Int32).toInt = (sv_416 : Int32).toInt + 1 := by
                        have z_1 : ¬ (r_13 : Int32).toInt = (0 : Int32).toInt := fun z => c_18 (Int32.toInt_inj.mp z)
                        have z_2 : ¬ (r_52 : Int32).toInt = (42 : Int32).toInt := fun z => c_55 (Int32.toInt_inj.mp z)
                        have z_3 : ¬ (r_236 : Int32).toInt = (47 : Int32).toInt := fun z => c_240 (Int32.toInt_inj.mp z)
                        have z_4 := congrArg Int32.toInt c_425
                        have z_5 : ¬ (x_432 : Int32).toInt = (42 : Int32).toInt := fun z => c_433 (Int32.toInt_inj.mp z)
                        have z_6 := congrArg Int32.toInt c_436
                        have z_7 := congrArg Int32.toInt c_514
                        have y_0 : (0 : Int32).toInt = 0 := by decide
                        have y_37 : (37 : Int32).toInt = 37 := by decide
                        have y_42 : (42 : Int32).toInt = 42 := by decide
                        have y_47 : (47 : Int32).toInt = 47 := by decide
                        have y_1 : (1 : Int32).toInt = 1 := by decide
                        have t_x_492 : x_492.toInt = (sv_416 : Int32).toInt + (1 : Int32).toInt := by rw [ex_492]; exact add_toInt (by omega) (by omega)
                        omega
                      exact (TmL.er (rB_fi h_nx.2.2) pf_42 (SkR.trans (SkR.trans pf_51 pf_235) pf_420) hr_545 hi_546 pf_537)
                    exact retI (v := 0) hx hb hr hlk (rfl) hP hD hS (sv_500, sv_501, sv_502, sv_503, sv_504, sv_505) ⟨_, rfl, hp_543, ha_539, ha_540, (Agr.trans (k' := (400 * ((Mv 5) : Int32).toInt + ((Mf 3) (Mv 5).toNatClampNeg).toInt)) (Agr.mono pf_40 hr_541) pf_508 ⟨Int.le_refl _, hr_542⟩), (fun h => absurd h (by decide)), hm_544⟩ [0, 1, 2, 3] rfl rfl dX12_term_93 (Nat.le_of_ble_eq_true rfl) (Nat.le_of_ble_eq_true rfl) rfl
              · skip
                refine lv_iconst (v := 4) hx hb dX12_term_50 (by decide) ?_
                refine lv_goto (tgt := 74) hx hb dX12_term_51 (by decide) ?_
                refine lv_istore_n (lv' := [(1, .int 4), (0, .ref (Ma 0))]) hx hb dX12_term_74 rfl hl (by decide) rfl (fun ls hl₀ => ?_)
                replace hl := hl₀
                clear hl₀
                refine lv_aload_n hx hb dX12_term_75 rfl (lv_at hl 1 rfl) ?_
                refine lv_dup hx hb dX12_term_76 rfl ?_
                refine gf_X12_87 hx hb hts hown hK hP 2 rfl rfl dX12_term_77 ?_
                refine lv_iconst (v := 1) hx hb dX12_term_80 (by decide) ?_
                refine lv_iadd hx hb dX12_term_81 ?_
                refine lv_topi (fun x_547 ex_547 => ?_)
                refine pf_X12_87 hx hb hts hown hK hP hD hS 2 rfl (Nat.le_of_ble_eq_true rfl) rfl rfl dX12_term_82 (fun H locs hP₀ hD₀ hS₀ => ?_)
                replace hP : va_P D classes [((Ma 2), .inl (tc 0, 2400, .inl vy_32)), ((Ma 3), .inl (tc 0, 7, .inl vy_33)), ((Ma 0), .inr (12, [.ref (Ma 1), .int (Mv 0), .int (Mv 1), .ref (Ma 2), .ref (Ma 3), .ref (Ma 4), .ref (Ma 5), .ref (Ma 6), .int x_547, .int vy_29, .int vy_30, .int (Mv 5), .int vy_31, .int (Mv 7), .int (Mv 8), .ref (Ma 7), .int (Mv 9), .ref (Ma 8), .int (Mv 10), .ref (Ma 9), .ref (Ma 10), .int (Mv 11), .int (Mv 12), .int (Mv 13), .ref (Ma 11), .int (Mv 14), .ref (Ma 12), .ref (Ma 13), .ref (Ma 14), .ref (Ma 15), .ref (Ma 16), .long (Mj 0), .ref (Ma 17), .ref (Ma 18), .ref (Ma 19), .ref (Ma 20)])), ((Ma 1), .inl (tc 2, 400, .inl (Mf 1)))] H := hP₀
                replace hD : va_D A [((Ma 2), .inl (tc 0, 2400, .inl vy_32)), ((Ma 3), .inl (tc 0, 7, .inl vy_33)), ((Ma 0), .inr (12, [.ref (Ma 1), .int (Mv 0), .int (Mv 1), .ref (Ma 2), .ref (Ma 3), .ref (Ma 4), .ref (Ma 5), .ref (Ma 6), .int x_547, .int vy_29, .int vy_30, .int (Mv 5), .int vy_31, .int (Mv 7), .int (Mv 8), .ref (Ma 7), .int (Mv 9), .ref (Ma 8), .int (Mv 10), .ref (Ma 9), .ref (Ma 10), .int (Mv 11), .int (Mv 12), .int (Mv 13), .ref (Ma 11), .int (Mv 14), .ref (Ma 12), .ref (Ma 13), .ref (Ma 14), .ref (Ma 15), .ref (Ma 16), .long (Mj 0), .ref (Ma 17), .ref (Ma 18), .ref (Ma 19), .ref (Ma 20)])), ((Ma 1), .inl (tc 2, 400, .inl (Mf 1)))] := hD₀
                replace hS := hS₀
                clear hP₀ hD₀ hS₀
                have tp_x_547 : (x_547 : Int32).toInt = (sv_416 : Int32).toInt + 1 := by
                  have z_1 : ¬ (r_13 : Int32).toInt = (0 : Int32).toInt := fun z => c_18 (Int32.toInt_inj.mp z)
                  have z_2 : ¬ (r_52 : Int32).toInt = (42 : Int32).toInt := fun z => c_55 (Int32.toInt_inj.mp z)
                  have z_3 : ¬ (r_236 : Int32).toInt = (47 : Int32).toInt := fun z => c_240 (Int32.toInt_inj.mp z)
                  have z_4 := congrArg Int32.toInt c_425
                  have z_5 := congrArg Int32.toInt c_433
                  have y_0 : (0 : Int32).toInt = 0 := by decide
                  have y_37 : (37 : Int32).toInt = 37 := by decide
                  have y_42 : (42 : Int32).toInt = 42 := by decide
                  have y_47 : (47 : Int32).toInt = 47 := by decide
                  have y_1 : (1 : Int32).toInt = 1 := by decide
                  have t_x_547 : x_547.toInt = (sv_416 : Int32).toInt + (1 : Int32).toInt := by rw [ex_547]; exact add_toInt (by omega) (by omega)
                  omega
                refine lv_aload_n hx hb dX12_term_85 rfl (lv_at hl 1 rfl) ?_
                have ha_548 : 0 ≤ (x_547 : Int32).toInt ∧ (x_547 : Int32).toInt ≤ ((Mv 0) : Int32).toInt ∧ ((Mv 0) : Int32).toInt ≤ 400 := by
                  have z_1 : ¬ (r_13 : Int32).toInt = (0 : Int32).toInt := fun z => c_18 (Int32.toInt_inj.mp z)
                  have z_2 : ¬ (r_52 : Int32).toInt = (42 : Int32).toInt := fun z => c_55 (Int32.toInt_inj.mp z)
                  have z_3 : ¬ (r_236 : Int32).toInt = (47 : Int32).toInt := fun z => c_240 (Int32.toInt_inj.mp z)
                  have z_4 := congrArg Int32.toInt c_425
                  have z_5 := congrArg Int32.toInt c_433
                  have y_0 : (0 : Int32).toInt = 0 := by decide
                  have y_37 : (37 : Int32).toInt = 37 := by decide
                  have y_42 : (42 : Int32).toInt = 42 := by decide
                  have y_47 : (47 : Int32).toInt = 47 := by decide
                  have y_1 : (1 : Int32).toInt = 1 := by decide
                  have t_x_547 : x_547.toInt = (sv_416 : Int32).toInt + (1 : Int32).toInt := by rw [ex_547]; exact add_toInt (by omega) (by omega)
                  omega
                have ha_549 : (vy_33 (Mv 5).toNatClampNeg).toInt ≤ (x_547 : Int32).toInt := by
                  have z_1 : ¬ (r_13 : Int32).toInt = (0 : Int32).toInt := fun z => c_18 (Int32.toInt_inj.mp z)
                  have z_2 : ¬ (r_52 : Int32).toInt = (42 : Int32).toInt := fun z => c_55 (Int32.toInt_inj.mp z)
                  have z_3 : ¬ (r_236 : Int32).toInt = (47 : Int32).toInt := fun z => c_240 (Int32.toInt_inj.mp z)
                  have z_4 := congrArg Int32.toInt c_425
                  have z_5 := congrArg Int32.toInt c_433
                  have y_0 : (0 : Int32).toInt = 0 := by decide
                  have y_37 : (37 : Int32).toInt = 37 := by decide
                  have y_42 : (42 : Int32).toInt = 42 := by decide
                  have y_47 : (47 : Int32).toInt = 47 := by decide
                  have y_1 : (1 : Int32).toInt = 1 := by decide
                  have t_x_547 : x_547.toInt = (sv_416 : Int32).toInt + (1 : Int32).toInt := by rw [ex_547]; exact add_toInt (by omega) (by omega)
                  omega
                have ha_550 : 0 ≤ (vy_31 : Int32).toInt ∧ (vy_31 : Int32).toInt ≤ 60 := by
                  have z_1 : ¬ (r_13 : Int32).toInt = (0 : Int32).toInt := fun z => c_18 (Int32.toInt_inj.mp z)
                  have z_2 : ¬ (r_52 : Int32).toInt = (42 : Int32).toInt := fun z => c_55 (Int32.toInt_inj.mp z)
                  have z_3 : ¬ (r_236 : Int32).toInt = (47 : Int32).toInt := fun z => c_240 (Int32.toInt_inj.mp z)
                  have z_4 := congrArg Int32.toInt c_425
                  have z_5 := congrArg Int32.toInt c_433
                  have y_0 : (0 : Int32).toInt = 0 := by decide
                  have y_37 : (37 : Int32).toInt = 37 := by decide
                  have y_42 : (42 : Int32).toInt = 42 := by decide
                  have y_47 : (47 : Int32).toInt = 47 := by decide
                  omega
                have ha_551 : (vy_29 : Int32).toInt = 0 := by
                  have z_1 : ¬ (r_13 : Int32).toInt = (0 : Int32).toInt := fun z => c_18 (Int32.toInt_inj.mp z)
                  have z_2 : ¬ (r_52 : Int32).toInt = (42 : Int32).toInt := fun z => c_55 (Int32.toInt_inj.mp z)
                  have z_3 : ¬ (r_236 : Int32).toInt = (47 : Int32).toInt := fun z => c_240 (Int32.toInt_inj.mp z)
                  have z_4 := congrArg Int32.toInt c_425
                  have z_5 := congrArg Int32.toInt c_433
                  have y_0 : (0 : Int32).toInt = 0 := by decide
                  have y_37 : (37 : Int32).toInt = 37 := by decide
                  have y_42 : (42 : Int32).toInt = 42 := by decide
                  have y_47 : (47 : Int32).toInt = 47 := by decide
                  omega
                refine cV (a := (Ma 0)) (As := []) (rest := []) (wr := []) ⟨hx, hb, hml, hown, hts⟩ hK hX hA (cu_fX12_value l D tc sk (Ma 0) (Ma 1) (Ma 2) (Ma 3) (Ma 4) (Ma 5) (Ma 6) (Ma 7) (Ma 8) (Ma 9) (Ma 10) (Ma 11) (Ma 12) (Ma 13) (Ma 14) (Ma 15) (Ma 16) (Ma 17) (Ma 18) (Ma 19) (Ma 20) (Mv 0) (Mv 1) x_547 vy_29 vy_30 (Mv 5) vy_31 (Mv 7) (Mv 8) (Mv 9) (Mv 10) (Mv 11) (Mv 12) (Mv 13) (Mv 14) (Mf 1) vy_32 vy_33 (Mj 0) b (d + 1) ha_548 pf_41 ha_549 ha_550 h_bs ha_551) k_1287 k_1284 k_1286 k_44 k_106 pl_X12_value ⟨Nat.le_of_ble_eq_true rfl, Nat.le_of_ble_eq_true rfl⟩ rfl rfl (va_recv hK hP (ci := 12) (q0 := 2) rfl rfl) hP hD hS [2, 3, 0, 1] [] rfl rfl rfl rfl rfl (by decide) rfl hl.1 rfl (Nat.le_of_ble_eq_true rfl) dX12_term_86 ⟨Nat.le_of_ble_eq_true rfl, Nat.le_of_ble_eq_true rfl⟩ (fun v_552 u_553 H locs hv_554 hP₀ hD₀ hS₀ => ?_)
                obtain ⟨sv_555, sv_556, sv_557, sv_558, sv_559, sv_560⟩ := u_553
                obtain ⟨r_564, rfl, he_565, pf_561, pf_562, pf_563, hm_567, hm_568⟩ := hv_554
                have he_565 : ((r_564.toInt = 0 ∧ ¬ (sv_556 : Int32).toInt = 0) ∨ (r_564.toInt = 1 ∧ (vy_33 (Mv 5).toNatClampNeg).toInt + 1 ≤ (sv_560 (Mv 5).toNatClampNeg).toInt ∧ (sv_560 (Mv 5).toNatClampNeg).toInt + (x_547 : Int32).toInt ≤ (vy_33 (Mv 5).toNatClampNeg).toInt + (sv_555 : Int32).toInt ∧ (x_547 : Int32).toInt + 1 ≤ (sv_555 : Int32).toInt)) := he_565
                have pf_561 : (x_547 : Int32).toInt ≤ (sv_555 : Int32).toInt ∧ (sv_555 : Int32).toInt ≤ ((Mv 0) : Int32).toInt := pf_561
                have pf_562 : (vy_31 : Int32).toInt ≤ (sv_558 : Int32).toInt ∧ (sv_558 : Int32).toInt ≤ 60 := pf_562
                have pf_563 : Agr vy_32 sv_559 (400 * ((Mv 5) : Int32).toInt + (vy_33 (Mv 5).toNatClampNeg).toInt) := pf_563
                refine W.eq (g2 := F0 m 89 ls [.int r_564]) rfl ?_
                replace hP : va_P D classes [((Ma 0), .inr (12, [.ref (Ma 1), .int (Mv 0), .int (Mv 1), .ref (Ma 2), .ref (Ma 3), .ref (Ma 4), .ref (Ma 5), .ref (Ma 6), .int sv_555, .int sv_556, .int sv_557, .int (Mv 5), .int sv_558, .int (Mv 7), .int (Mv 8), .ref (Ma 7), .int (Mv 9), .ref (Ma 8), .int (Mv 10), .ref (Ma 9), .ref (Ma 10), .int (Mv 11), .int (Mv 12), .int (Mv 13), .ref (Ma 11), .int (Mv 14), .ref (Ma 12), .ref (Ma 13), .ref (Ma 14), .ref (Ma 15), .ref (Ma 16), .long (Mj 0), .ref (Ma 17), .ref (Ma 18), .ref (Ma 19), .ref (Ma 20)])), ((Ma 1), .inl (tc 2, 400, .inl (Mf 1))), ((Ma 2), .inl (tc 0, 2400, .inl sv_559)), ((Ma 3), .inl (tc 0, 7, .inl sv_560))] H := hP₀
                replace hD : va_D A [((Ma 0), .inr (12, [.ref (Ma 1), .int (Mv 0), .int (Mv 1), .ref (Ma 2), .ref (Ma 3), .ref (Ma 4), .ref (Ma 5), .ref (Ma 6), .int sv_555, .int sv_556, .int sv_557, .int (Mv 5), .int sv_558, .int (Mv 7), .int (Mv 8), .ref (Ma 7), .int (Mv 9), .ref (Ma 8), .int (Mv 10), .ref (Ma 9), .ref (Ma 10), .int (Mv 11), .int (Mv 12), .int (Mv 13), .ref (Ma 11), .int (Mv 14), .ref (Ma 12), .ref (Ma 13), .ref (Ma 14), .ref (Ma 15), .ref (Ma 16), .long (Mj 0), .ref (Ma 17), .ref (Ma 18), .ref (Ma 19), .ref (Ma 20)])), ((Ma 1), .inl (tc 2, 400, .inl (Mf 1))), ((Ma 2), .inl (tc 0, 2400, .inl sv_559)), ((Ma 3), .inl (tc 0, 7, .inl sv_560))] := hD₀
                replace hS := hS₀
                clear hP₀ hD₀ hS₀
                refine lv_if_ne (tgt := 94) hx hb dX12_term_89 (by decide) (fun c_569 => ?_) (fun c_569 => ?_)
                · skip
                  have hz_572 : (r_564 : Int32).toInt = 1 := by
                    have z_1 : ¬ (r_13 : Int32).toInt = (0 : Int32).toInt := fun z => c_18 (Int32.toInt_inj.mp z)
                    have z_2 : ¬ (r_52 : Int32).toInt = (42 : Int32).toInt := fun z => c_55 (Int32.toInt_inj.mp z)
                    have z_3 : ¬ (r_236 : Int32).toInt = (47 : Int32).toInt := fun z => c_240 (Int32.toInt_inj.mp z)
                    have z_4 := congrArg Int32.toInt c_425
                    have z_5 := congrArg Int32.toInt c_433
                    have z_6 : ¬ (r_564 : Int32).toInt = (0 : Int32).toInt := fun z => c_569 (Int32.toInt_inj.mp z)
                    have y_0 : (0 : Int32).toInt = 0 := by decide
                    have y_37 : (37 : Int32).toInt = 37 := by decide
                    have y_42 : (42 : Int32).toInt = 42 := by decide
                    have y_47 : (47 : Int32).toInt = 47 := by decide
                    omega
                  obtain ⟨pf_570, pf_571⟩ := hm_567 hz_572
                  have pf_570 : Cd sv_559 sv_560 (Mv 5) b sv_558 ((d + 1) + 1) := pf_570
                  have ar_pf_570 := Cd.ar pf_570
                  have pf_571 : RfO (pz_val (rB (Mf 1) (Mv 0)) (St0 (rB (Mf 1) (Mv 0)) x_547 vy_31)) (rB (Mf 1) (Mv 0)) sv_556 sv_555 sv_558 := pf_571
                  have ar_pf_571 := RfO.wr pf_571
                  refine lv_aload_n hx hb dX12_term_94 rfl (lv_at hl 1 rfl) ?_
                  refine lv_iload_n hx hb dX12_term_95 rfl (lv_at hl 0 rfl) ?_
                  refine lv_iconst (v := 0) hx hb dX12_term_96 (by decide) ?_
                  have ha_573 : ((d + 1) : Int) ≤ sv_558.toInt := by
                    have z_1 : ¬ (r_13 : Int32).toInt = (0 : Int32).toInt := fun z => c_18 (Int32.toInt_inj.mp z)
                    have z_2 : ¬ (r_52 : Int32).toInt = (42 : Int32).toInt := fun z => c_55 (Int32.toInt_inj.mp z)
                    have z_3 : ¬ (r_236 : Int32).toInt = (47 : Int32).toInt := fun z => c_240 (Int32.toInt_inj.mp z)
                    have z_4 := congrArg Int32.toInt c_425
                    have z_5 := congrArg Int32.toInt c_433
                    have z_6 : ¬ (r_564 : Int32).toInt = (0 : Int32).toInt := fun z => c_569 (Int32.toInt_inj.mp z)
                    have y_0 : (0 : Int32).toInt = 0 := by decide
                    have y_37 : (37 : Int32).toInt = 37 := by decide
                    have y_42 : (42 : Int32).toInt = 42 := by decide
                    have y_47 : (47 : Int32).toInt = 47 := by decide
                    omega
                  have ha_574 : (sv_560 (Mv 5).toNatClampNeg).toInt < 400 := by
                    have z_1 : ¬ (r_13 : Int32).toInt = (0 : Int32).toInt := fun z => c_18 (Int32.toInt_inj.mp z)
                    have z_2 : ¬ (r_52 : Int32).toInt = (42 : Int32).toInt := fun z => c_55 (Int32.toInt_inj.mp z)
                    have z_3 : ¬ (r_236 : Int32).toInt = (47 : Int32).toInt := fun z => c_240 (Int32.toInt_inj.mp z)
                    have z_4 := congrArg Int32.toInt c_425
                    have z_5 := congrArg Int32.toInt c_433
                    have z_6 : ¬ (r_564 : Int32).toInt = (0 : Int32).toInt := fun z => c_569 (Int32.toInt_inj.mp z)
                    have y_0 : (0 : Int32).toInt = 0 := by decide
                    have y_37 : (37 : Int32).toInt = 37 := by decide
                    have y_42 : (42 : Int32).toInt = 42 := by decide
                    have y_47 : (47 : Int32).toInt = 47 := by decide
                    omega
                  refine cV (a := (Ma 0)) (As := [.int 4, .int 0]) (rest := []) (wr := [((Ma 1), .inl (tc 2, 400, .inl (Mf 1)))]) ⟨hx, hb, hml, hown, hts⟩ hK hX hA (cu_X12_puts l D tc sk (Ma 0) (Ma 1) (Ma 2) (Ma 3) (Ma 4) (Ma 5) (Ma 6) (Ma 7) (Ma 8) (Ma 9) (Ma 10) (Ma 11) (Ma 12) (Ma 13) (Ma 14) (Ma 15) (Ma 16) (Ma 17) (Ma 18) (Ma 19) (Ma 20) (Mv 0) (Mv 1) sv_555 sv_556 sv_557 (Mv 5) sv_558 (Mv 7) (Mv 8) (Mv 9) (Mv 10) (Mv 11) (Mv 12) (Mv 13) (Mv 14) sv_559 sv_560 (Mj 0) 4 0 b sv_558 ((d + 1) + 1) (d + 1) pf_570 (StpR.op (by decide) rfl (by omega)) ha_573 ha_574) k_1296 k_1293 k_1295 k_46 k_106 pl_X12_puts ⟨Nat.le_of_ble_eq_true rfl, Nat.le_of_ble_eq_true rfl⟩ rfl rfl (va_recv hK hP (ci := 12) (q0 := 0) rfl rfl) hP hD hS [0, 2, 3] [1] rfl rfl rfl rfl rfl (by decide) rfl hl.1 rfl (Nat.le_of_ble_eq_true rfl) dX12_term_97 ⟨Nat.le_of_ble_eq_true rfl, Nat.le_of_ble_eq_true rfl⟩ (fun v_575 u_576 H locs hv_577 hP₀ hD₀ hS₀ => ?_)
                  obtain ⟨sv_578, sv_579⟩ := u_576
                  obtain ⟨rfl, pf_580, pf_581, pf_582⟩ := hv_577
                  have pf_580 : Cd sv_578 sv_579 (Mv 5) b sv_558 (d + 1) := pf_580
                  have ar_pf_580 := Cd.ar pf_580
                  have pf_581 : Agr sv_559 sv_578 (400 * ((Mv 5) : Int32).toInt + (sv_560 (Mv 5).toNatClampNeg).toInt) := pf_581
                  have pf_582 : (sv_579 (Mv 5).toNatClampNeg).toInt = (sv_560 (Mv 5).toNatClampNeg).toInt + 1 := pf_582
                  refine W.eq (g2 := F0 m 100 ls []) rfl ?_
                  replace hP : va_P D classes [((Ma 1), .inl (tc 2, 400, .inl (Mf 1))), ((Ma 0), .inr (12, [.ref (Ma 1), .int (Mv 0), .int (Mv 1), .ref (Ma 2), .ref (Ma 3), .ref (Ma 4), .ref (Ma 5), .ref (Ma 6), .int sv_555, .int sv_556, .int sv_557, .int (Mv 5), .int sv_558, .int (Mv 7), .int (Mv 8), .ref (Ma 7), .int (Mv 9), .ref (Ma 8), .int (Mv 10), .ref (Ma 9), .ref (Ma 10), .int (Mv 11), .int (Mv 12), .int (Mv 13), .ref (Ma 11), .int (Mv 14), .ref (Ma 12), .ref (Ma 13), .ref (Ma 14), .ref (Ma 15), .ref (Ma 16), .long (Mj 0), .ref (Ma 17), .ref (Ma 18), .ref (Ma 19), .ref (Ma 20)])), ((Ma 2), .inl (tc 0, 2400, .inl sv_578)), ((Ma 3), .inl (tc 0, 7, .inl sv_579))] H := hP₀
                  replace hD : va_D A [((Ma 1), .inl (tc 2, 400, .inl (Mf 1))), ((Ma 0), .inr (12, [.ref (Ma 1), .int (Mv 0), .int (Mv 1), .ref (Ma 2), .ref (Ma 3), .ref (Ma 4), .ref (Ma 5), .ref (Ma 6), .int sv_555, .int sv_556, .int sv_557, .int (Mv 5), .int sv_558, .int (Mv 7), .int (Mv 8), .ref (Ma 7), .int (Mv 9), .ref (Ma 8), .int (Mv 10), .ref (Ma 9), .ref (Ma 10), .int (Mv 11), .int (Mv 12), .int (Mv 13), .ref (Ma 11), .int (Mv 14), .ref (Ma 12), .ref (Ma 13), .ref (Ma 14), .ref (Ma 15), .ref (Ma 16), .long (Mj 0), .ref (Ma 17), .ref (Ma 18), .ref (Ma 19), .ref (Ma 20)])), ((Ma 2), .inl (tc 0, 2400, .inl sv_578)), ((Ma 3), .inl (tc 0, 7, .inl sv_579))] := hD₀
                  replace hS := hS₀
                  clear hP₀ hD₀ hS₀
                  refine lv_goto (tgt := 9) hx hb dX12_term_100 (by decide) ?_
                  have hb_583 : 400 - (sv_555 : Int32).toInt < 400 - (vy_28 : Int32).toInt ∧ 1 ≤ 400 - (vy_28 : Int32).toInt := by
                    have z_1 : ¬ (r_13 : Int32).toInt = (0 : Int32).toInt := fun z => c_18 (Int32.toInt_inj.mp z)
                    have z_2 : ¬ (r_52 : Int32).toInt = (42 : Int32).toInt := fun z => c_55 (Int32.toInt_inj.mp z)
                    have z_3 : ¬ (r_236 : Int32).toInt = (47 : Int32).toInt := fun z => c_240 (Int32.toInt_inj.mp z)
                    have z_4 := congrArg Int32.toInt c_425
                    have z_5 := congrArg Int32.toInt c_433
                    have z_6 : ¬ (r_564 : Int32).toInt = (0 : Int32).toInt := fun z => c_569 (Int32.toInt_inj.mp z)
                    have y_0 : (0 : Int32).toInt = 0 := by decide
                    have y_37 : (37 : Int32).toInt = 37 := by decide
                    have y_42 : (42 : Int32).toInt = 42 := by decide
                    have y_47 : (47 : Int32).toInt = 47 := by decide
                    omega
                  have ha_584 : 0 ≤ (sv_555 : Int32).toInt ∧ (sv_555 : Int32).toInt ≤ ((Mv 0) : Int32).toInt ∧ ((Mv 0) : Int32).toInt ≤ 400 := by
                    have z_1 : ¬ (r_13 : Int32).toInt = (0 : Int32).toInt := fun z => c_18 (Int32.toInt_inj.mp z)
                    have z_2 : ¬ (r_52 : Int32).toInt = (42 : Int32).toInt := fun z => c_55 (Int32.toInt_inj.mp z)
                    have z_3 : ¬ (r_236 : Int32).toInt = (47 : Int32).toInt := fun z => c_240 (Int32.toInt_inj.mp z)
                    have z_4 := congrArg Int32.toInt c_425
                    have z_5 := congrArg Int32.toInt c_433
                    have z_6 : ¬ (r_564 : Int32).toInt = (0 : Int32).toInt := fun z => c_569 (Int32.toInt_inj.mp z)
                    have y_0 : (0 : Int32).toInt = 0 := by decide
                    have y_37 : (37 : Int32).toInt = 37 := by decide
                    have y_42 : (42 : Int32).toInt = 42 := by decide
                    have y_47 : (47 : Int32).toInt = 47 := by decide
                    omega
                  have ha_585 : (Mv 6).toInt ≤ (sv_558 : Int32).toInt ∧ (sv_558 : Int32).toInt ≤ 60 := by
                    have z_1 : ¬ (r_13 : Int32).toInt = (0 : Int32).toInt := fun z => c_18 (Int32.toInt_inj.mp z)
                    have z_2 : ¬ (r_52 : Int32).toInt = (42 : Int32).toInt := fun z => c_55 (Int32.toInt_inj.mp z)
                    have z_3 : ¬ (r_236 : Int32).toInt = (47 : Int32).toInt := fun z => c_240 (Int32.toInt_inj.mp z)
                    have z_4 := congrArg Int32.toInt c_425
                    have z_5 := congrArg Int32.toInt c_433
                    have z_6 : ¬ (r_564 : Int32).toInt = (0 : Int32).toInt := fun z => c_569 (Int32.toInt_inj.mp z)
                    have y_0 : (0 : Int32).toInt = 0 := by decide
                    have y_37 : (37 : Int32).toInt = 37 := by decide
                    have y_42 : (42 : Int32).toInt = 42 := by decide
                    have y_47 : (47 : Int32).toInt = 47 := by decide
                    omega
                  have ha_586 : ((Mf 3) (Mv 5).toNatClampNeg).toInt + 1 ≤ (sv_579 (Mv 5).toNatClampNeg).toInt ∧ (sv_579 (Mv 5).toNatClampNeg).toInt + ((Mv 2) : Int32).toInt ≤ ((Mf 3) (Mv 5).toNatClampNeg).toInt + (sv_555 : Int32).toInt ∧ ((Mv 2) : Int32).toInt + 1 ≤ (sv_555 : Int32).toInt := by
                    have z_1 : ¬ (r_13 : Int32).toInt = (0 : Int32).toInt := fun z => c_18 (Int32.toInt_inj.mp z)
                    have z_2 : ¬ (r_52 : Int32).toInt = (42 : Int32).toInt := fun z => c_55 (Int32.toInt_inj.mp z)
                    have z_3 : ¬ (r_236 : Int32).toInt = (47 : Int32).toInt := fun z => c_240 (Int32.toInt_inj.mp z)
                    have z_4 := congrArg Int32.toInt c_425
                    have z_5 := congrArg Int32.toInt c_433
                    have z_6 : ¬ (r_564 : Int32).toInt = (0 : Int32).toInt := fun z => c_569 (Int32.toInt_inj.mp z)
                    have y_0 : (0 : Int32).toInt = 0 := by decide
                    have y_37 : (37 : Int32).toInt = 37 := by decide
                    have y_42 : (42 : Int32).toInt = 42 := by decide
                    have y_47 : (47 : Int32).toInt = 47 := by decide
                    omega
                  have hr_587 : (400 * ((Mv 5) : Int32).toInt + ((Mf 3) (Mv 5).toNatClampNeg).toInt) ≤ (400 * ((Mv 5) : Int32).toInt + ((Mf 3) (Mv 5).toNatClampNeg).toInt) := by
                    have z_1 : ¬ (r_13 : Int32).toInt = (0 : Int32).toInt := fun z => c_18 (Int32.toInt_inj.mp z)
                    have z_2 : ¬ (r_52 : Int32).toInt = (42 : Int32).toInt := fun z => c_55 (Int32.toInt_inj.mp z)
                    have z_3 : ¬ (r_236 : Int32).toInt = (47 : Int32).toInt := fun z => c_240 (Int32.toInt_inj.mp z)
                    have z_4 := congrArg Int32.toInt c_425
                    have z_5 := congrArg Int32.toInt c_433
                    have z_6 : ¬ (r_564 : Int32).toInt = (0 : Int32).toInt := fun z => c_569 (Int32.toInt_inj.mp z)
                    have y_0 : (0 : Int32).toInt = 0 := by decide
                    have y_37 : (37 : Int32).toInt = 37 := by decide
                    have y_42 : (42 : Int32).toInt = 42 := by decide
                    have y_47 : (47 : Int32).toInt = 47 := by decide
                    omega
                  have hr_588 : (400 * ((Mv 5) : Int32).toInt + ((Mf 3) (Mv 5).toNatClampNeg).toInt) ≤ (400 * ((Mv 5) : Int32).toInt + (vy_33 (Mv 5).toNatClampNeg).toInt) := by
                    have z_1 : ¬ (r_13 : Int32).toInt = (0 : Int32).toInt := fun z => c_18 (Int32.toInt_inj.mp z)
                    have z_2 : ¬ (r_52 : Int32).toInt = (42 : Int32).toInt := fun z => c_55 (Int32.toInt_inj.mp z)
                    have z_3 : ¬ (r_236 : Int32).toInt = (47 : Int32).toInt := fun z => c_240 (Int32.toInt_inj.mp z)
                    have z_4 := congrArg Int32.toInt c_425
                    have z_5 := congrArg Int32.toInt c_433
                    have z_6 : ¬ (r_564 : Int32).toInt = (0 : Int32).toInt := fun z => c_569 (Int32.toInt_inj.mp z)
                    have y_0 : (0 : Int32).toInt = 0 := by decide
                    have y_37 : (37 : Int32).toInt = 37 := by decide
                    have y_42 : (42 : Int32).toInt = 42 := by decide
                    have y_47 : (47 : Int32).toInt = 47 := by decide
                    omega
                  have hr_589 : (400 * ((Mv 5) : Int32).toInt + ((Mf 3) (Mv 5).toNatClampNeg).toInt) ≤ (400 * ((Mv 5) : Int32).toInt + (sv_560 (Mv 5).toNatClampNeg).toInt) := by
                    have z_1 : ¬ (r_13 : Int32).toInt = (0 : Int32).toInt := fun z => c_18 (Int32.toInt_inj.mp z)
                    have z_2 : ¬ (r_52 : Int32).toInt = (42 : Int32).toInt := fun z => c_55 (Int32.toInt_inj.mp z)
                    have z_3 : ¬ (r_236 : Int32).toInt = (47 : Int32).toInt := fun z => c_240 (Int32.toInt_inj.mp z)
                    have z_4 := congrArg Int32.toInt c_425
                    have z_5 := congrArg Int32.toInt c_433
                    have z_6 : ¬ (r_564 : Int32).toInt = (0 : Int32).toInt := fun z => c_569 (Int32.toInt_inj.mp z)
                    have y_0 : (0 : Int32).toInt = 0 := by decide
                    have y_37 : (37 : Int32).toInt = 37 := by decide
                    have y_42 : (42 : Int32).toInt = 42 := by decide
                    have y_47 : (47 : Int32).toInt = 47 := by decide
                    omega
                  have hr_590 : (rB (Mf 1) (Mv 0) (sv_416 : Int32).toInt.toNat = 43 ∨ rB (Mf 1) (Mv 0) (sv_416 : Int32).toInt.toNat = 45 ∨ rB (Mf 1) (Mv 0) (sv_416 : Int32).toInt.toNat = 42 ∨ rB (Mf 1) (Mv 0) (sv_416 : Int32).toInt.toNat = 47 ∨ rB (Mf 1) (Mv 0) (sv_416 : Int32).toInt.toNat = 37) := by
                    have z_1 : ¬ (r_13 : Int32).toInt = (0 : Int32).toInt := fun z => c_18 (Int32.toInt_inj.mp z)
                    have z_2 : ¬ (r_52 : Int32).toInt = (42 : Int32).toInt := fun z => c_55 (Int32.toInt_inj.mp z)
                    have z_3 : ¬ (r_236 : Int32).toInt = (47 : Int32).toInt := fun z => c_240 (Int32.toInt_inj.mp z)
                    have z_4 := congrArg Int32.toInt c_425
                    have z_5 := congrArg Int32.toInt c_433
                    have z_6 : ¬ (r_564 : Int32).toInt = (0 : Int32).toInt := fun z => c_569 (Int32.toInt_inj.mp z)
                    have y_0 : (0 : Int32).toInt = 0 := by decide
                    have y_37 : (37 : Int32).toInt = 37 := by decide
                    have y_42 : (42 : Int32).toInt = 42 := by decide
                    have y_47 : (47 : Int32).toInt = 47 := by decide
                    omega
                  have hi_591 : (x_547 : Int32).toInt = (sv_416 : Int32).toInt + 1 := by
                    have z_1 : ¬ (r_13 : Int32).toInt = (0 : Int32).toInt := fun z => c_18 (Int32.toInt_inj.mp z)
                    have z_2 : ¬ (r_52 : Int32).toInt = (42 : Int32).toInt := fun z => c_55 (Int32.toInt_inj.mp z)
                    have z_3 : ¬ (r_236 : Int32).toInt = (47 : Int32).toInt := fun z => c_240 (Int32.toInt_inj.mp z)
                    have z_4 := congrArg Int32.toInt c_425
                    have z_5 := congrArg Int32.toInt c_433
                    have z_6 : ¬ (r_564 : Int32).toInt = (0 : Int32).toInt := fun z => c_569 (Int32.toInt_inj.mp z)
                    have y_0 : (0 : Int32).toInt = 0 := by decide
                    have y_37 : (37 : Int32).toInt = 37 := by decide
                    have y_42 : (42 : Int32).toInt = 42 := by decide
                    have y_47 : (47 : Int32).toInt = 47 := by decide
                    have y_1 : (1 : Int32).toInt = 1 := by decide
                    have t_x_547 : x_547.toInt = (sv_416 : Int32).toInt + (1 : Int32).toInt := by rw [ex_547]; exact add_toInt (by omega) (by omega)
                    omega
                  exact ih_35 sv_555 sv_556 sv_557 sv_558 sv_578 sv_579 _ _ _ (by omega) ha_584 ha_585 ha_586 (Agr.trans (k' := (400 * ((Mv 5) : Int32).toInt + ((Mf 3) (Mv 5).toNatClampNeg).toInt)) (Agr.trans (k' := (400 * ((Mv 5) : Int32).toInt + ((Mf 3) (Mv 5).toNatClampNeg).toInt)) (Agr.mono pf_40 hr_587) pf_563 ⟨Int.le_refl _, hr_588⟩) pf_581 ⟨Int.le_refl _, hr_589⟩) pf_580 (TmL.next (rB_fi h_nx.2.2) pf_42 (SkR.trans (SkR.trans pf_51 pf_235) pf_420) hr_590 hi_591 pf_571) (hP.sub [1, 0, 2, 3] rfl) (hD.sub [1, 0, 2, 3] rfl rfl) hS (lv_sub hl [1] rfl)
                · skip
                  have hz_593 : (r_564 : Int32).toInt = 0 := by
                    have z_1 : ¬ (r_13 : Int32).toInt = (0 : Int32).toInt := fun z => c_18 (Int32.toInt_inj.mp z)
                    have z_2 : ¬ (r_52 : Int32).toInt = (42 : Int32).toInt := fun z => c_55 (Int32.toInt_inj.mp z)
                    have z_3 : ¬ (r_236 : Int32).toInt = (47 : Int32).toInt := fun z => c_240 (Int32.toInt_inj.mp z)
                    have z_4 := congrArg Int32.toInt c_425
                    have z_5 := congrArg Int32.toInt c_433
                    have z_6 := congrArg Int32.toInt c_569
                    have y_0 : (0 : Int32).toInt = 0 := by decide
                    have y_37 : (37 : Int32).toInt = 37 := by decide
                    have y_42 : (42 : Int32).toInt = 42 := by decide
                    have y_47 : (47 : Int32).toInt = 47 := by decide
                    omega
                  obtain pf_592 := hm_568 hz_593
                  have pf_592 : RfE (pz_val (rB (Mf 1) (Mv 0)) (St0 (rB (Mf 1) (Mv 0)) x_547 vy_31)) sv_556 := pf_592
                  refine lv_iconst (v := 0) hx hb dX12_term_92 (by decide) ?_
                  have ha_594 : ((Mv 2) : Int32).toInt ≤ (sv_555 : Int32).toInt ∧ (sv_555 : Int32).toInt ≤ ((Mv 0) : Int32).toInt := by
                    have z_1 : ¬ (r_13 : Int32).toInt = (0 : Int32).toInt := fun z => c_18 (Int32.toInt_inj.mp z)
                    have z_2 : ¬ (r_52 : Int32).toInt = (42 : Int32).toInt := fun z => c_55 (Int32.toInt_inj.mp z)
                    have z_3 : ¬ (r_236 : Int32).toInt = (47 : Int32).toInt := fun z => c_240 (Int32.toInt_inj.mp z)
                    have z_4 := congrArg Int32.toInt c_425
                    have z_5 := congrArg Int32.toInt c_433
                    have z_6 := congrArg Int32.toInt c_569
                    have y_0 : (0 : Int32).toInt = 0 := by decide
                    have y_37 : (37 : Int32).toInt = 37 := by decide
                    have y_42 : (42 : Int32).toInt = 42 := by decide
                    have y_47 : (47 : Int32).toInt = 47 := by decide
                    omega
                  have ha_595 : ((Mv 6) : Int32).toInt ≤ (sv_558 : Int32).toInt ∧ (sv_558 : Int32).toInt ≤ 60 := by
                    have z_1 : ¬ (r_13 : Int32).toInt = (0 : Int32).toInt := fun z => c_18 (Int32.toInt_inj.mp z)
                    have z_2 : ¬ (r_52 : Int32).toInt = (42 : Int32).toInt := fun z => c_55 (Int32.toInt_inj.mp z)
                    have z_3 : ¬ (r_236 : Int32).toInt = (47 : Int32).toInt := fun z => c_240 (Int32.toInt_inj.mp z)
                    have z_4 := congrArg Int32.toInt c_425
                    have z_5 := congrArg Int32.toInt c_433
                    have z_6 := congrArg Int32.toInt c_569
                    have y_0 : (0 : Int32).toInt = 0 := by decide
                    have y_37 : (37 : Int32).toInt = 37 := by decide
                    have y_42 : (42 : Int32).toInt = 42 := by decide
                    have y_47 : (47 : Int32).toInt = 47 := by decide
                    omega
                  have hr_596 : (400 * ((Mv 5) : Int32).toInt + ((Mf 3) (Mv 5).toNatClampNeg).toInt) ≤ (400 * ((Mv 5) : Int32).toInt + ((Mf 3) (Mv 5).toNatClampNeg).toInt) := by
                    have z_1 : ¬ (r_13 : Int32).toInt = (0 : Int32).toInt := fun z => c_18 (Int32.toInt_inj.mp z)
                    have z_2 : ¬ (r_52 : Int32).toInt = (42 : Int32).toInt := fun z => c_55 (Int32.toInt_inj.mp z)
                    have z_3 : ¬ (r_236 : Int32).toInt = (47 : Int32).toInt := fun z => c_240 (Int32.toInt_inj.mp z)
                    have z_4 := congrArg Int32.toInt c_425
                    have z_5 := congrArg Int32.toInt c_433
                    have z_6 := congrArg Int32.toInt c_569
                    have y_0 : (0 : Int32).toInt = 0 := by decide
                    have y_37 : (37 : Int32).toInt = 37 := by decide
                    have y_42 : (42 : Int32).toInt = 42 := by decide
                    have y_47 : (47 : Int32).toInt = 47 := by decide
                    omega
                  have hr_597 : (400 * ((Mv 5) : Int32).toInt + ((Mf 3) (Mv 5).toNatClampNeg).toInt) ≤ (400 * ((Mv 5) : Int32).toInt + (vy_33 (Mv 5).toNatClampNeg).toInt) := by
                    have z_1 : ¬ (r_13 : Int32).toInt = (0 : Int32).toInt := fun z => c_18 (Int32.toInt_inj.mp z)
                    have z_2 : ¬ (r_52 : Int32).toInt = (42 : Int32).toInt := fun z => c_55 (Int32.toInt_inj.mp z)
                    have z_3 : ¬ (r_236 : Int32).toInt = (47 : Int32).toInt := fun z => c_240 (Int32.toInt_inj.mp z)
                    have z_4 := congrArg Int32.toInt c_425
                    have z_5 := congrArg Int32.toInt c_433
                    have z_6 := congrArg Int32.toInt c_569
                    have y_0 : (0 : Int32).toInt = 0 := by decide
                    have y_37 : (37 : Int32).toInt = 37 := by decide
                    have y_42 : (42 : Int32).toInt = 42 := by decide
                    have y_47 : (47 : Int32).toInt = 47 := by decide
                    omega
                  have hp_598 : (((0 : Int32).toInt = 0 ∧ ¬ (sv_556 : Int32).toInt = 0) ∨ ((0 : Int32).toInt = 1 ∧ ((Mf 3) (Mv 5).toNatClampNeg).toInt + 1 ≤ (sv_560 (Mv 5).toNatClampNeg).toInt ∧ (sv_560 (Mv 5).toNatClampNeg).toInt + ((Mv 2) : Int32).toInt ≤ ((Mf 3) (Mv 5).toNatClampNeg).toInt + (sv_555 : Int32).toInt ∧ ((Mv 2) : Int32).toInt + 1 ≤ (sv_555 : Int32).toInt)) := by
                    have z_1 : ¬ (r_13 : Int32).toInt = (0 : Int32).toInt := fun z => c_18 (Int32.toInt_inj.mp z)
                    have z_2 : ¬ (r_52 : Int32).toInt = (42 : Int32).toInt := fun z => c_55 (Int32.toInt_inj.mp z)
                    have z_3 : ¬ (r_236 : Int32).toInt = (47 : Int32).toInt := fun z => c_240 (Int32.toInt_inj.mp z)
                    have z_4 := congrArg Int32.toInt c_425
                    have z_5 := congrArg Int32.toInt c_433
                    have z_6 := congrArg Int32.toInt c_569
                    have y_0 : (0 : Int32).toInt = 0 := by decide
                    have y_37 : (37 : Int32).toInt = 37 := by decide
                    have y_42 : (42 : Int32).toInt = 42 := by decide
                    have y_47 : (47 : Int32).toInt = 47 := by decide
                    omega
                  have hm_599 : (0 : Int32).toInt = 0 → (RfE (pz_sum (rB (Mf 1) (Mv 0)) (St0 (rB (Mf 1) (Mv 0)) (Mv 2) (Mv 6))) sv_556) := by
                    intro h1r
                    have hr_600 : (rB (Mf 1) (Mv 0) (sv_416 : Int32).toInt.toNat = 43 ∨ rB (Mf 1) (Mv 0) (sv_416 : Int32).toInt.toNat = 45 ∨ rB (Mf 1) (Mv 0) (sv_416 : Int32).toInt.toNat = 42 ∨ rB (Mf 1) (Mv 0) (sv_416 : Int32).toInt.toNat = 47 ∨ rB (Mf 1) (Mv 0) (sv_416 : Int32).toInt.toNat = 37) := by
                      have z_1 : ¬ (r_13 : Int32).toInt = (0 : Int32).toInt := fun z => c_18 (Int32.toInt_inj.mp z)
                      have z_2 : ¬ (r_52 : Int32).toInt = (42 : Int32).toInt := fun z => c_55 (Int32.toInt_inj.mp z)
                      have z_3 : ¬ (r_236 : Int32).toInt = (47 : Int32).toInt := fun z => c_240 (Int32.toInt_inj.mp z)
                      have z_4 := congrArg Int32.toInt c_425
                      have z_5 := congrArg Int32.toInt c_433
                      have z_6 := congrArg Int32.toInt c_569
                      have y_0 : (0 : Int32).toInt = 0 := by decide
                      have y_37 : (37 : Int32).toInt = 37 := by decide
                      have y_42 : (42 : Int32).toInt = 42 := by decide
                      have y_47 : (47 : Int32).toInt = 47 := by decide
                      omega
                    have hi_601 : (x_547 : Int32).toInt = (sv_416 : Int32).toInt + 1 := by
                      have z_1 : ¬ (r_13 : Int32).toInt = (0 : Int32).toInt := fun z => c_18 (Int32.toInt_inj.mp z)
                      have z_2 : ¬ (r_52 : Int32).toInt = (42 : Int32).toInt := fun z => c_55 (Int32.toInt_inj.mp z)
                      have z_3 : ¬ (r_236 : Int32).toInt = (47 : Int32).toInt := fun z => c_240 (Int32.toInt_inj.mp z)
                      have z_4 := congrArg Int32.toInt c_425
                      have z_5 := congrArg Int32.toInt c_433
                      have z_6 := congrArg Int32.toInt c_569
                      have y_0 : (0 : Int32).toInt = 0 := by decide
                      have y_37 : (37 : Int32).toInt = 37 := by decide
                      have y_42 : (42 : Int32).toInt = 42 := by decide
                      have y_47 : (47 : Int32).toInt = 47 := by decide
                      have y_1 : (1 : Int32).toInt = 1 := by decide
                      have t_x_547 : x_547.toInt = (sv_416 : Int32).toInt + (1 : Int32).toInt := by rw [ex_547]; exact add_toInt (by omega) (by omega)
                      omega
                    exact (TmL.er (rB_fi h_nx.2.2) pf_42 (SkR.trans (SkR.trans pf_51 pf_235) pf_420) hr_600 hi_601 pf_592)
                  exact retI (v := 0) hx hb hr hlk (rfl) hP hD hS (sv_555, sv_556, sv_557, sv_558, sv_559, sv_560) ⟨_, rfl, hp_598, ha_594, ha_595, (Agr.trans (k' := (400 * ((Mv 5) : Int32).toInt + ((Mf 3) (Mv 5).toNatClampNeg).toInt)) (Agr.mono pf_40 hr_596) pf_563 ⟨Int.le_refl _, hr_597⟩), (fun h => absurd h (by decide)), hm_599⟩ [0, 1, 2, 3] rfl rfl dX12_term_93 (Nat.le_of_ble_eq_true rfl) (Nat.le_of_ble_eq_true rfl) rfl
    have ha_602 : 0 ≤ (sv_4 : Int32).toInt ∧ (sv_4 : Int32).toInt ≤ ((Mv 0) : Int32).toInt ∧ ((Mv 0) : Int32).toInt ≤ 400 := by
      have z_1 : ¬ (r_13 : Int32).toInt = (0 : Int32).toInt := fun z => c_18 (Int32.toInt_inj.mp z)
      have y_0 : (0 : Int32).toInt = 0 := by decide
      omega
    have ha_603 : (Mv 6).toInt ≤ (sv_7 : Int32).toInt ∧ (sv_7 : Int32).toInt ≤ 60 := by
      have z_1 : ¬ (r_13 : Int32).toInt = (0 : Int32).toInt := fun z => c_18 (Int32.toInt_inj.mp z)
      have y_0 : (0 : Int32).toInt = 0 := by decide
      omega
    have ha_604 : ((Mf 3) (Mv 5).toNatClampNeg).toInt + 1 ≤ (sv_9 (Mv 5).toNatClampNeg).toInt ∧ (sv_9 (Mv 5).toNatClampNeg).toInt + ((Mv 2) : Int32).toInt ≤ ((Mf 3) (Mv 5).toNatClampNeg).toInt + (sv_4 : Int32).toInt ∧ ((Mv 2) : Int32).toInt + 1 ≤ (sv_4 : Int32).toInt := by
      have z_1 : ¬ (r_13 : Int32).toInt = (0 : Int32).toInt := fun z => c_18 (Int32.toInt_inj.mp z)
      have y_0 : (0 : Int32).toInt = 0 := by decide
      omega
    exact loop_36 _ sv_4 sv_5 sv_6 sv_7 sv_8 sv_9 _ _ _ (Nat.lt_succ_self _) ha_602 ha_603 ha_604 pf_12 pf_19 (TmL.first pf_20) hP hD hS hl
  · skip
    have hz_606 : (r_13 : Int32).toInt = 0 := by
      have z_1 := congrArg Int32.toInt c_18
      have y_0 : (0 : Int32).toInt = 0 := by decide
      omega
    obtain pf_605 := hm_17 hz_606
    have pf_605 : RfE (pz_val (rB (Mf 1) (Mv 0)) (St0 (rB (Mf 1) (Mv 0)) (Mv 2) (Mv 6))) sv_5 := pf_605
    refine lv_iconst (v := 0) hx hb dX12_term_7 (by decide) ?_
    have hp_607 : (((0 : Int32).toInt = 0 ∧ ¬ (sv_5 : Int32).toInt = 0) ∨ ((0 : Int32).toInt = 1 ∧ ((Mf 3) (Mv 5).toNatClampNeg).toInt + 1 ≤ (sv_9 (Mv 5).toNatClampNeg).toInt ∧ (sv_9 (Mv 5).toNatClampNeg).toInt + ((Mv 2) : Int32).toInt ≤ ((Mf 3) (Mv 5).toNatClampNeg).toInt + (sv_4 : Int32).toInt ∧ ((Mv 2) : Int32).toInt + 1 ≤ (sv_4 : Int32).toInt)) := by
      have z_1 := congrArg Int32.toInt c_18
      have y_0 : (0 : Int32).toInt = 0 := by decide
      omega
    have hm_608 : (0 : Int32).toInt = 0 → (RfE (pz_sum (rB (Mf 1) (Mv 0)) (St0 (rB (Mf 1) (Mv 0)) (Mv 2) (Mv 6))) sv_5) := by
      intro h1r
      exact (RfE.sum1 pf_605)
    exact retI (v := 0) hx hb hr hlk (rfl) hP hD hS (sv_4, sv_5, sv_6, sv_7, sv_8, sv_9) ⟨_, rfl, hp_607, pf_10, pf_11, pf_12, (fun h => absurd h (by decide)), hm_608⟩ [0, 1, 2, 3] rfl rfl dX12_term_8 (Nat.le_of_ble_eq_true rfl) (Nat.le_of_ble_eq_true rfl) rfl
set_option maxRecDepth 100000 in
theorem cu_fX12_term (l : Launch) (D : va_G) (tc : Nat → ClassId) (sk : (Nat → Nat) × (Nat → Nat)) (Ma_0 : Nat) (Ma_1 : Nat) (Ma_2 : Nat) (Ma_3 : Nat) (Ma_4 : Nat) (Ma_5 : Nat) (Ma_6 : Nat) (Ma_7 : Nat) (Ma_8 : Nat) (Ma_9 : Nat) (Ma_10 : Nat) (Ma_11 : Nat) (Ma_12 : Nat) (Ma_13 : Nat) (Ma_14 : Nat) (Ma_15 : Nat) (Ma_16 : Nat) (Ma_17 : Nat) (Ma_18 : Nat) (Ma_19 : Nat) (Ma_20 : Nat) (Mv_0 : Int32) (Mv_1 : Int32) (Mv_2 : Int32) (Mv_3 : Int32) (Mv_4 : Int32) (Mv_5 : Int32) (Mv_6 : Int32) (Mv_7 : Int32) (Mv_8 : Int32) (Mv_9 : Int32) (Mv_10 : Int32) (Mv_11 : Int32) (Mv_12 : Int32) (Mv_13 : Int32) (Mv_14 : Int32) (Mf_1 : Nat → Int32) (Mf_2 : Nat → Int32) (Mf_3 : Nat → Int32) (Mj_0 : Int64) (b : Int32) (d : Nat) (h_nx : 0 ≤ (Mv_2 : Int32).toInt ∧ (Mv_2 : Int32).toInt ≤ (Mv_0 : Int32).toInt ∧ (Mv_0 : Int32).toInt ≤ 400) (h_cd : Cd Mf_2 Mf_3 Mv_5 b Mv_6 d) (h_L : (Mf_3 Mv_5.toNatClampNeg).toInt ≤ (Mv_2 : Int32).toInt) (h_md : 0 ≤ (Mv_6 : Int32).toInt ∧ (Mv_6 : Int32).toInt ≤ 60) (h_bs : ByS Mf_1) (h_w : (Mv_3 : Int32).toInt = 0) : Ct l yX12_term cX12_term 2 (some .boolean) { frames := 4, cells := 0, slots := 0, locals := 88 } D tc sk [.ref Ma_0] [(Ma_0, .inr (12, [.ref Ma_1, .int Mv_0, .int Mv_1, .ref Ma_2, .ref Ma_3, .ref Ma_4, .ref Ma_5, .ref Ma_6, .int Mv_2, .int Mv_3, .int Mv_4, .int Mv_5, .int Mv_6, .int Mv_7, .int Mv_8, .ref Ma_7, .int Mv_9, .ref Ma_8, .int Mv_10, .ref Ma_9, .ref Ma_10, .int Mv_11, .int Mv_12, .int Mv_13, .ref Ma_11, .int Mv_14, .ref Ma_12, .ref Ma_13, .ref Ma_14, .ref Ma_15, .ref Ma_16, .long Mj_0, .ref Ma_17, .ref Ma_18, .ref Ma_19, .ref Ma_20])), (Ma_1, .inl (tc 2, 400, .inl Mf_1)), (Ma_2, .inl (tc 0, 2400, .inl Mf_2)), (Ma_3, .inl (tc 0, 7, .inl Mf_3))] (fun (v : Option Value) (u : (Int32) × (Int32) × (Int32) × (Int32) × (Nat → Int32) × (Nat → Int32)) => match u with | (oo0x1, oo0x2, oo0x3, oo0x4, oo0x5, oo0x6) => ∃ r : Int32, v = some (.int r) ∧ (((r.toInt = 0 ∧ ¬ (oo0x2 : Int32).toInt = 0) ∨ (r.toInt = 1 ∧ (Mf_3 Mv_5.toNatClampNeg).toInt + 1 ≤ (oo0x6 Mv_5.toNatClampNeg).toInt ∧ (oo0x6 Mv_5.toNatClampNeg).toInt + (Mv_2 : Int32).toInt ≤ (Mf_3 Mv_5.toNatClampNeg).toInt + (oo0x1 : Int32).toInt ∧ (Mv_2 : Int32).toInt + 1 ≤ (oo0x1 : Int32).toInt))) ∧ ((Mv_2 : Int32).toInt ≤ (oo0x1 : Int32).toInt ∧ (oo0x1 : Int32).toInt ≤ (Mv_0 : Int32).toInt) ∧ ((Mv_6 : Int32).toInt ≤ (oo0x4 : Int32).toInt ∧ (oo0x4 : Int32).toInt ≤ 60) ∧ (Agr Mf_2 oo0x5 (400 * (Mv_5 : Int32).toInt + (Mf_3 Mv_5.toNatClampNeg).toInt)) ∧ (r.toInt = 1 → (Cd oo0x5 oo0x6 Mv_5 b oo0x4 (d + 1)) ∧ (TmO (pz_sum (rB Mf_1 Mv_0) (St0 (rB Mf_1 Mv_0) Mv_2 Mv_6)) (rB Mf_1 Mv_0) oo0x2 oo0x1 oo0x4)) ∧ (r.toInt = 0 → (RfE (pz_sum (rB Mf_1 Mv_0) (St0 (rB Mf_1 Mv_0) Mv_2 Mv_6)) oo0x2))) (fun (u : (Int32) × (Int32) × (Int32) × (Int32) × (Nat → Int32) × (Nat → Int32)) => match u with | (oo0x1, oo0x2, oo0x3, oo0x4, oo0x5, oo0x6) => [(Ma_0, .inr (12, [.ref Ma_1, .int Mv_0, .int Mv_1, .ref Ma_2, .ref Ma_3, .ref Ma_4, .ref Ma_5, .ref Ma_6, .int oo0x1, .int oo0x2, .int oo0x3, .int Mv_5, .int oo0x4, .int Mv_7, .int Mv_8, .ref Ma_7, .int Mv_9, .ref Ma_8, .int Mv_10, .ref Ma_9, .ref Ma_10, .int Mv_11, .int Mv_12, .int Mv_13, .ref Ma_11, .int Mv_14, .ref Ma_12, .ref Ma_13, .ref Ma_14, .ref Ma_15, .ref Ma_16, .long Mj_0, .ref Ma_17, .ref Ma_18, .ref Ma_19, .ref Ma_20])), (Ma_1, .inl (tc 2, 400, .inl Mf_1)), (Ma_2, .inl (tc 0, 2400, .inl oo0x5)), (Ma_3, .inl (tc 0, 7, .inl oo0x6))]) 0 0 :=
  ct_fX12_term l D tc sk (fun k => ([Ma_0, Ma_1, Ma_2, Ma_3, Ma_4, Ma_5, Ma_6, Ma_7, Ma_8, Ma_9, Ma_10, Ma_11, Ma_12, Ma_13, Ma_14, Ma_15, Ma_16, Ma_17, Ma_18, Ma_19, Ma_20] : List (Nat)).getD k 0) (fun k => ([Mv_0, Mv_1, Mv_2, Mv_3, Mv_4, Mv_5, Mv_6, Mv_7, Mv_8, Mv_9, Mv_10, Mv_11, Mv_12, Mv_13, Mv_14] : List (Int32)).getD k 0) (fun k => ([(fun _ => 0), Mf_1, Mf_2, Mf_3] : List (Nat → Int32)).getD k (fun _ => 0)) (fun k => ([Mj_0] : List (Int64)).getD k 0) b d h_nx h_cd h_L h_md h_bs h_w
