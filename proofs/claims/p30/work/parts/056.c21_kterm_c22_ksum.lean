set_option maxRecDepth 100000 in
theorem cu_kX12_term (l : Launch) (D : va_G) (tc : Nat → ClassId) (sk : (Nat → Nat) × (Nat → Nat)) (Ma_0 : Nat) (Ma_1 : Nat) (Ma_2 : Nat) (Ma_3 : Nat) (Ma_4 : Nat) (Ma_5 : Nat) (Ma_6 : Nat) (Ma_7 : Nat) (Ma_8 : Nat) (Ma_9 : Nat) (Ma_10 : Nat) (Ma_11 : Nat) (Ma_12 : Nat) (Ma_13 : Nat) (Ma_14 : Nat) (Ma_15 : Nat) (Ma_16 : Nat) (Ma_17 : Nat) (Ma_18 : Nat) (Ma_19 : Nat) (Ma_20 : Nat) (Mv_0 : Int32) (Mv_1 : Int32) (Mv_2 : Int32) (Mv_3 : Int32) (Mv_4 : Int32) (Mv_5 : Int32) (Mv_6 : Int32) (Mv_7 : Int32) (Mv_8 : Int32) (Mv_9 : Int32) (Mv_10 : Int32) (Mv_11 : Int32) (Mv_12 : Int32) (Mv_13 : Int32) (Mv_14 : Int32) (Mf_1 : Nat → Int32) (Mf_2 : Nat → Int32) (Mf_3 : Nat → Int32) (Mj_0 : Int64) (b : Int32) (d : Nat) (ll : List Int) (h_nx : 0 ≤ (Mv_2 : Int32).toInt ∧ (Mv_2 : Int32).toInt ≤ (Mv_0 : Int32).toInt ∧ (Mv_0 : Int32).toInt ≤ 400) (h_cd : Cd Mf_2 Mf_3 Mv_5 b Mv_6 d) (h_L : (Mf_3 Mv_5.toNatClampNeg).toInt ≤ (Mv_2 : Int32).toInt) (h_md : 0 ≤ (Mv_6 : Int32).toInt ∧ (Mv_6 : Int32).toInt ≤ 60) (h_bs : ByS Mf_1) (h_w : (Mv_3 : Int32).toInt = 0) (h_sg : SgC Mf_2 Mf_3 Mv_5 ll) : Ct l yX12_term cX12_term 2 (some .boolean) { frames := 4, cells := 0, slots := 0, locals := 88 } D tc sk [.ref Ma_0] [(Ma_0, .inr (12, [.ref Ma_1, .int Mv_0, .int Mv_1, .ref Ma_2, .ref Ma_3, .ref Ma_4, .ref Ma_5, .ref Ma_6, .int Mv_2, .int Mv_3, .int Mv_4, .int Mv_5, .int Mv_6, .int Mv_7, .int Mv_8, .ref Ma_7, .int Mv_9, .ref Ma_8, .int Mv_10, .ref Ma_9, .ref Ma_10, .int Mv_11, .int Mv_12, .int Mv_13, .ref Ma_11, .int Mv_14, .ref Ma_12, .ref Ma_13, .ref Ma_14, .ref Ma_15, .ref Ma_16, .long Mj_0, .ref Ma_17, .ref Ma_18, .ref Ma_19, .ref Ma_20])), (Ma_1, .inl (tc 2, 400, .inl Mf_1)), (Ma_2, .inl (tc 0, 2400, .inl Mf_2)), (Ma_3, .inl (tc 0, 7, .inl Mf_3))] (fun (v : Option Value) (u : (Int32) × (Int32) × (Int32) × (Int32) × (Nat → Int32) × (Nat → Int32)) => match u with | (oo0x1, oo0x2, oo0x3, oo0x4, oo0x5, oo0x6) => ∃ r : Int32, v = some (.int r) ∧ (((r.toInt = 0 ∧ ¬ (oo0x2 : Int32).toInt = 0) ∨ (r.toInt = 1 ∧ (Mf_3 Mv_5.toNatClampNeg).toInt + 1 ≤ (oo0x6 Mv_5.toNatClampNeg).toInt ∧ (oo0x6 Mv_5.toNatClampNeg).toInt + (Mv_2 : Int32).toInt ≤ (Mf_3 Mv_5.toNatClampNeg).toInt + (oo0x1 : Int32).toInt ∧ (Mv_2 : Int32).toInt + 1 ≤ (oo0x1 : Int32).toInt))) ∧ ((Mv_2 : Int32).toInt ≤ (oo0x1 : Int32).toInt ∧ (oo0x1 : Int32).toInt ≤ (Mv_0 : Int32).toInt) ∧ ((Mv_6 : Int32).toInt ≤ (oo0x4 : Int32).toInt ∧ (oo0x4 : Int32).toInt ≤ 60) ∧ (Agr Mf_2 oo0x5 (400 * (Mv_5 : Int32).toInt + (Mf_3 Mv_5.toNatClampNeg).toInt)) ∧ (r.toInt = 1 → (Cd oo0x5 oo0x6 Mv_5 b oo0x4 (d + 1)) ∧ (TmO (pz_sum (rB Mf_1 Mv_0) (St0 (rB Mf_1 Mv_0) Mv_2 Mv_6)) (rB Mf_1 Mv_0) oo0x2 oo0x1 oo0x4) ∧ (TmC ll (rB Mf_1 Mv_0) (St0 (rB Mf_1 Mv_0) Mv_2 Mv_6) oo0x5 oo0x6 Mv_5 oo0x1)) ∧ (r.toInt = 0 → (RfE (pz_sum (rB Mf_1 Mv_0) (St0 (rB Mf_1 Mv_0) Mv_2 Mv_6)) oo0x2))) (fun (u : (Int32) × (Int32) × (Int32) × (Int32) × (Nat → Int32) × (Nat → Int32)) => match u with | (oo0x1, oo0x2, oo0x3, oo0x4, oo0x5, oo0x6) => [(Ma_0, .inr (12, [.ref Ma_1, .int Mv_0, .int Mv_1, .ref Ma_2, .ref Ma_3, .ref Ma_4, .ref Ma_5, .ref Ma_6, .int oo0x1, .int oo0x2, .int oo0x3, .int Mv_5, .int oo0x4, .int Mv_7, .int Mv_8, .ref Ma_7, .int Mv_9, .ref Ma_8, .int Mv_10, .ref Ma_9, .ref Ma_10, .int Mv_11, .int Mv_12, .int Mv_13, .ref Ma_11, .int Mv_14, .ref Ma_12, .ref Ma_13, .ref Ma_14, .ref Ma_15, .ref Ma_16, .long Mj_0, .ref Ma_17, .ref Ma_18, .ref Ma_19, .ref Ma_20])), (Ma_1, .inl (tc 2, 400, .inl Mf_1)), (Ma_2, .inl (tc 0, 2400, .inl oo0x5)), (Ma_3, .inl (tc 0, 7, .inl oo0x6))]) 0 0 :=
  ct_kX12_term l D tc sk (fun k => ([Ma_0, Ma_1, Ma_2, Ma_3, Ma_4, Ma_5, Ma_6, Ma_7, Ma_8, Ma_9, Ma_10, Ma_11, Ma_12, Ma_13, Ma_14, Ma_15, Ma_16, Ma_17, Ma_18, Ma_19, Ma_20] : List (Nat)).getD k 0) (fun k => ([Mv_0, Mv_1, Mv_2, Mv_3, Mv_4, Mv_5, Mv_6, Mv_7, Mv_8, Mv_9, Mv_10, Mv_11, Mv_12, Mv_13, Mv_14] : List (Int32)).getD k 0) (fun k => ([(fun _ => 0), Mf_1, Mf_2, Mf_3] : List (Nat → Int32)).getD k (fun _ => 0)) (fun k => ([Mj_0] : List (Int64)).getD k 0) b d ll h_nx h_cd h_L h_md h_bs h_w h_sg
set_option maxHeartbeats 4000000 in
set_option maxRecDepth 100000 in
theorem ct_kX12_sum (l : Launch) (D : va_G) (tc : Nat → ClassId) (sk : (Nat → Nat) × (Nat → Nat)) (Ma : Nat → Nat) (Mv : Nat → Int32) (Mf : Nat → Nat → Int32) (Mj : Nat → Int64) (b : Int32) (d : Nat) (ll : List Int) (h_nx : 0 ≤ ((Mv 2) : Int32).toInt ∧ ((Mv 2) : Int32).toInt ≤ ((Mv 0) : Int32).toInt ∧ ((Mv 0) : Int32).toInt ≤ 400) (h_cd : Cd (Mf 2) (Mf 3) (Mv 5) b (Mv 6) d) (h_L : ((Mf 3) (Mv 5).toNatClampNeg).toInt ≤ ((Mv 2) : Int32).toInt) (h_md : 0 ≤ ((Mv 6) : Int32).toInt ∧ ((Mv 6) : Int32).toInt ≤ 60) (h_bs : ByS (Mf 1)) (h_w : ((Mv 3) : Int32).toInt = 0) (h_sg : SgC (Mf 2) (Mf 3) (Mv 5) ll) : Ct l yX12_sum cX12_sum 2 (some .boolean) { frames := 5, cells := 0, slots := 0, locals := 109 } D tc sk [.ref (Ma 0)] [((Ma 0), .inr (12, [.ref (Ma 1), .int (Mv 0), .int (Mv 1), .ref (Ma 2), .ref (Ma 3), .ref (Ma 4), .ref (Ma 5), .ref (Ma 6), .int (Mv 2), .int (Mv 3), .int (Mv 4), .int (Mv 5), .int (Mv 6), .int (Mv 7), .int (Mv 8), .ref (Ma 7), .int (Mv 9), .ref (Ma 8), .int (Mv 10), .ref (Ma 9), .ref (Ma 10), .int (Mv 11), .int (Mv 12), .int (Mv 13), .ref (Ma 11), .int (Mv 14), .ref (Ma 12), .ref (Ma 13), .ref (Ma 14), .ref (Ma 15), .ref (Ma 16), .long (Mj 0), .ref (Ma 17), .ref (Ma 18), .ref (Ma 19), .ref (Ma 20)])), ((Ma 1), .inl (tc 2, 400, .inl (Mf 1))), ((Ma 2), .inl (tc 0, 2400, .inl (Mf 2))), ((Ma 3), .inl (tc 0, 7, .inl (Mf 3)))] (fun (v : Option Value) (u : (Int32) × (Int32) × (Int32) × (Int32) × (Nat → Int32) × (Nat → Int32)) => match u with | (oo0x1, oo0x2, oo0x3, oo0x4, oo0x5, oo0x6) => ∃ r : Int32, v = some (.int r) ∧ (((r.toInt = 0 ∧ ¬ (oo0x2 : Int32).toInt = 0) ∨ (r.toInt = 1 ∧ ((Mf 3) (Mv 5).toNatClampNeg).toInt + 1 ≤ (oo0x6 (Mv 5).toNatClampNeg).toInt ∧ (oo0x6 (Mv 5).toNatClampNeg).toInt + ((Mv 2) : Int32).toInt ≤ ((Mf 3) (Mv 5).toNatClampNeg).toInt + (oo0x1 : Int32).toInt ∧ ((Mv 2) : Int32).toInt + 1 ≤ (oo0x1 : Int32).toInt))) ∧ (((Mv 2) : Int32).toInt ≤ (oo0x1 : Int32).toInt ∧ (oo0x1 : Int32).toInt ≤ ((Mv 0) : Int32).toInt) ∧ (((Mv 6) : Int32).toInt ≤ (oo0x4 : Int32).toInt ∧ (oo0x4 : Int32).toInt ≤ 60) ∧ (Agr (Mf 2) oo0x5 (400 * ((Mv 5) : Int32).toInt + ((Mf 3) (Mv 5).toNatClampNeg).toInt)) ∧ (r.toInt = 1 → (Cd oo0x5 oo0x6 (Mv 5) b oo0x4 (d + 1)) ∧ (RfO (pz_sum (rB (Mf 1) (Mv 0)) (St0 (rB (Mf 1) (Mv 0)) (Mv 2) (Mv 6))) (rB (Mf 1) (Mv 0)) oo0x2 oo0x1 oo0x4) ∧ (SgC oo0x5 oo0x6 (Mv 5) (ll ++ lsum (rB (Mf 1) (Mv 0)) (St0 (rB (Mf 1) (Mv 0)) (Mv 2) (Mv 6))))) ∧ (r.toInt = 0 → (RfE (pz_sum (rB (Mf 1) (Mv 0)) (St0 (rB (Mf 1) (Mv 0)) (Mv 2) (Mv 6))) oo0x2))) (fun (u : (Int32) × (Int32) × (Int32) × (Int32) × (Nat → Int32) × (Nat → Int32)) => match u with | (oo0x1, oo0x2, oo0x3, oo0x4, oo0x5, oo0x6) => [((Ma 0), .inr (12, [.ref (Ma 1), .int (Mv 0), .int (Mv 1), .ref (Ma 2), .ref (Ma 3), .ref (Ma 4), .ref (Ma 5), .ref (Ma 6), .int oo0x1, .int oo0x2, .int oo0x3, .int (Mv 5), .int oo0x4, .int (Mv 7), .int (Mv 8), .ref (Ma 7), .int (Mv 9), .ref (Ma 8), .int (Mv 10), .ref (Ma 9), .ref (Ma 10), .int (Mv 11), .int (Mv 12), .int (Mv 13), .ref (Ma 11), .int (Mv 14), .ref (Ma 12), .ref (Ma 13), .ref (Ma 14), .ref (Ma 15), .ref (Ma 16), .long (Mj 0), .ref (Ma 17), .ref (Ma 18), .ref (Ma 19), .ref (Ma 20)])), ((Ma 1), .inl (tc 2, 400, .inl (Mf 1))), ((Ma 2), .inl (tc 0, 2400, .inl oo0x5)), ((Ma 3), .inl (tc 0, 7, .inl oo0x6))]) 0 0 := by
  refine Ct.start (by decide) (Nat.le_of_ble_eq_true rfl) (fun p e s m below meth c A ls hx hb hr hlk hin hml hown hts hK hX hP hD hA hl hS => ?_)
  have hl : lv_has ls 2 [(0, .ref (Ma 0))] := hl
  have ar_h_cd := Cd.ar h_cd
  refine lv_aload_n hx hb dX12_sum_0 rfl (lv_at hl 0 rfl) ?_
  refine cV (a := (Ma 0)) (As := []) (rest := []) (wr := []) ⟨hx, hb, hml, hown, hts⟩ hK hX hA (cu_kX12_term l D tc sk (Ma 0) (Ma 1) (Ma 2) (Ma 3) (Ma 4) (Ma 5) (Ma 6) (Ma 7) (Ma 8) (Ma 9) (Ma 10) (Ma 11) (Ma 12) (Ma 13) (Ma 14) (Ma 15) (Ma 16) (Ma 17) (Ma 18) (Ma 19) (Ma 20) (Mv 0) (Mv 1) (Mv 2) (Mv 3) (Mv 4) (Mv 5) (Mv 6) (Mv 7) (Mv 8) (Mv 9) (Mv 10) (Mv 11) (Mv 12) (Mv 13) (Mv 14) (Mf 1) (Mf 2) (Mf 3) (Mj 0) b d ll h_nx h_cd h_L h_md h_bs h_w h_sg) k_1283 k_1280 k_1282 k_43 k_106 pl_X12_term ⟨Nat.le_of_ble_eq_true rfl, Nat.le_of_ble_eq_true rfl⟩ rfl rfl (va_recv hK hP (ci := 12) (q0 := 0) rfl rfl) hP hD hS [0, 1, 2, 3] [] rfl rfl rfl rfl rfl (by decide) rfl hl.1 rfl (Nat.le_of_ble_eq_true rfl) dX12_sum_1 ⟨Nat.le_of_ble_eq_true rfl, Nat.le_of_ble_eq_true rfl⟩ (fun v_1 u_2 H locs hv_3 hP₀ hD₀ hS₀ => ?_)
  obtain ⟨sv_4, sv_5, sv_6, sv_7, sv_8, sv_9⟩ := u_2
  obtain ⟨r_13, rfl, he_14, pf_10, pf_11, pf_12, hm_16, hm_17⟩ := hv_3
  have he_14 : ((r_13.toInt = 0 ∧ ¬ (sv_5 : Int32).toInt = 0) ∨ (r_13.toInt = 1 ∧ ((Mf 3) (Mv 5).toNatClampNeg).toInt + 1 ≤ (sv_9 (Mv 5).toNatClampNeg).toInt ∧ (sv_9 (Mv 5).toNatClampNeg).toInt + ((Mv 2) : Int32).toInt ≤ ((Mf 3) (Mv 5).toNatClampNeg).toInt + (sv_4 : Int32).toInt ∧ ((Mv 2) : Int32).toInt + 1 ≤ (sv_4 : Int32).toInt)) := he_14
  have pf_10 : ((Mv 2) : Int32).toInt ≤ (sv_4 : Int32).toInt ∧ (sv_4 : Int32).toInt ≤ ((Mv 0) : Int32).toInt := pf_10
  have pf_11 : ((Mv 6) : Int32).toInt ≤ (sv_7 : Int32).toInt ∧ (sv_7 : Int32).toInt ≤ 60 := pf_11
  have pf_12 : Agr (Mf 2) sv_8 (400 * ((Mv 5) : Int32).toInt + ((Mf 3) (Mv 5).toNatClampNeg).toInt) := pf_12
  refine W.eq (g2 := F0 m 4 ls [.int r_13]) rfl ?_
  replace hP : va_P D classes [((Ma 0), .inr (12, [.ref (Ma 1), .int (Mv 0), .int (Mv 1), .ref (Ma 2), .ref (Ma 3), .ref (Ma 4), .ref (Ma 5), .ref (Ma 6), .int sv_4, .int sv_5, .int sv_6, .int (Mv 5), .int sv_7, .int (Mv 7), .int (Mv 8), .ref (Ma 7), .int (Mv 9), .ref (Ma 8), .int (Mv 10), .ref (Ma 9), .ref (Ma 10), .int (Mv 11), .int (Mv 12), .int (Mv 13), .ref (Ma 11), .int (Mv 14), .ref (Ma 12), .ref (Ma 13), .ref (Ma 14), .ref (Ma 15), .ref (Ma 16), .long (Mj 0), .ref (Ma 17), .ref (Ma 18), .ref (Ma 19), .ref (Ma 20)])), ((Ma 1), .inl (tc 2, 400, .inl (Mf 1))), ((Ma 2), .inl (tc 0, 2400, .inl sv_8)), ((Ma 3), .inl (tc 0, 7, .inl sv_9))] H := hP₀
  replace hD : va_D A [((Ma 0), .inr (12, [.ref (Ma 1), .int (Mv 0), .int (Mv 1), .ref (Ma 2), .ref (Ma 3), .ref (Ma 4), .ref (Ma 5), .ref (Ma 6), .int sv_4, .int sv_5, .int sv_6, .int (Mv 5), .int sv_7, .int (Mv 7), .int (Mv 8), .ref (Ma 7), .int (Mv 9), .ref (Ma 8), .int (Mv 10), .ref (Ma 9), .ref (Ma 10), .int (Mv 11), .int (Mv 12), .int (Mv 13), .ref (Ma 11), .int (Mv 14), .ref (Ma 12), .ref (Ma 13), .ref (Ma 14), .ref (Ma 15), .ref (Ma 16), .long (Mj 0), .ref (Ma 17), .ref (Ma 18), .ref (Ma 19), .ref (Ma 20)])), ((Ma 1), .inl (tc 2, 400, .inl (Mf 1))), ((Ma 2), .inl (tc 0, 2400, .inl sv_8)), ((Ma 3), .inl (tc 0, 7, .inl sv_9))] := hD₀
  replace hS := hS₀
  clear hP₀ hD₀ hS₀
  refine lv_if_ne (tgt := 9) hx hb dX12_sum_4 (by decide) (fun c_18 => ?_) (fun c_18 => ?_)
  · skip
    have hz_22 : (r_13 : Int32).toInt = 1 := by
      have z_1 : ¬ (r_13 : Int32).toInt = (0 : Int32).toInt := fun z => c_18 (Int32.toInt_inj.mp z)
      have y_0 : (0 : Int32).toInt = 0 := by decide
      omega
    obtain ⟨pf_19, pf_20, pf_21⟩ := hm_16 hz_22
    have pf_19 : Cd sv_8 sv_9 (Mv 5) b sv_7 (d + 1) := pf_19
    have ar_pf_19 := Cd.ar pf_19
    have pf_20 : TmO (pz_sum (rB (Mf 1) (Mv 0)) (St0 (rB (Mf 1) (Mv 0)) (Mv 2) (Mv 6))) (rB (Mf 1) (Mv 0)) sv_5 sv_4 sv_7 := pf_20
    have ar_pf_20 := pf_20.1.1
    have pf_21 : TmC ll (rB (Mf 1) (Mv 0)) (St0 (rB (Mf 1) (Mv 0)) (Mv 2) (Mv 6)) sv_8 sv_9 (Mv 5) sv_4 := pf_21
    obtain ⟨xq_23, pf_24, pf_25⟩ := id pf_21
    obtain ⟨lo_26, elo_26⟩ : ∃ z : List Int, z = (ll ++ xq_23) := ⟨_, rfl⟩
    rw [← elo_26] at pf_24
    have loop_41 : ∀ (n_39 : Nat) (vy_33 : Int32) (vy_34 : Int32) (vy_35 : Int32) (vy_36 : Int32) (vy_37 : Nat → Int32) (vy_38 : Nat → Int32) (H : Heap) (locs : List Loc) (ls : Array Slot), (400 - (vy_33 : Int32).toInt).toNat < n_39 → (0 ≤ (vy_33 : Int32).toInt ∧ (vy_33 : Int32).toInt ≤ ((Mv 0) : Int32).toInt ∧ ((Mv 0) : Int32).toInt ≤ 400) → ((Mv 6).toInt ≤ (vy_36 : Int32).toInt ∧ (vy_36 : Int32).toInt ≤ 60) → (((Mf 3) (Mv 5).toNatClampNeg).toInt + 1 ≤ (vy_38 (Mv 5).toNatClampNeg).toInt ∧ (vy_38 (Mv 5).toNatClampNeg).toInt + ((Mv 2) : Int32).toInt ≤ ((Mf 3) (Mv 5).toNatClampNeg).toInt + (vy_33 : Int32).toInt ∧ ((Mv 2) : Int32).toInt + 1 ≤ (vy_33 : Int32).toInt) → (Agr (Mf 2) vy_37 (400 * ((Mv 5) : Int32).toInt + ((Mf 3) (Mv 5).toNatClampNeg).toInt)) → (Cd vy_37 vy_38 (Mv 5) b vy_36 (d + 1)) → (TmO (pz_sum (rB (Mf 1) (Mv 0)) (St0 (rB (Mf 1) (Mv 0)) (Mv 2) (Mv 6))) (rB (Mf 1) (Mv 0)) vy_34 vy_33 vy_36) → (SmD ll (rB (Mf 1) (Mv 0)) (St0 (rB (Mf 1) (Mv 0)) (Mv 2) (Mv 6)) vy_37 vy_38 (Mv 5) vy_33) → va_P D classes [((Ma 0), .inr (12, [.ref (Ma 1), .int (Mv 0), .int (Mv 1), .ref (Ma 2), .ref (Ma 3), .ref (Ma 4), .ref (Ma 5), .ref (Ma 6), .int vy_33, .int vy_34, .int vy_35, .int (Mv 5), .int vy_36, .int (Mv 7), .int (Mv 8), .ref (Ma 7), .int (Mv 9), .ref (Ma 8), .int (Mv 10), .ref (Ma 9), .ref (Ma 10), .int (Mv 11), .int (Mv 12), .int (Mv 13), .ref (Ma 11), .int (Mv 14), .ref (Ma 12), .ref (Ma 13), .ref (Ma 14), .ref (Ma 15), .ref (Ma 16), .long (Mj 0), .ref (Ma 17), .ref (Ma 18), .ref (Ma 19), .ref (Ma 20)])), ((Ma 1), .inl (tc 2, 400, .inl (Mf 1))), ((Ma 2), .inl (tc 0, 2400, .inl vy_37)), ((Ma 3), .inl (tc 0, 7, .inl vy_38))] H → va_D A [((Ma 0), .inr (12, [.ref (Ma 1), .int (Mv 0), .int (Mv 1), .ref (Ma 2), .ref (Ma 3), .ref (Ma 4), .ref (Ma 5), .ref (Ma 6), .int vy_33, .int vy_34, .int vy_35, .int (Mv 5), .int vy_36, .int (Mv 7), .int (Mv 8), .ref (Ma 7), .int (Mv 9), .ref (Ma 8), .int (Mv 10), .ref (Ma 9), .ref (Ma 10), .int (Mv 11), .int (Mv 12), .int (Mv 13), .ref (Ma 11), .int (Mv 14), .ref (Ma 12), .ref (Ma 13), .ref (Ma 14), .ref (Ma 15), .ref (Ma 16), .long (Mj 0), .ref (Ma 17), .ref (Ma 18), .ref (Ma 19), .ref (Ma 20)])), ((Ma 1), .inl (tc 2, 400, .inl (Mf 1))), ((Ma 2), .inl (tc 0, 2400, .inl vy_37)), ((Ma 3), .inl (tc 0, 7, .inl vy_38))] → va_S A s.heap H locs → lv_has ls 2 [(0, .ref (Ma 0))] → W p l e ({ frames := 5, cells := 0, slots := 0, locals := 109 }) s m ([.ref (Ma 0)].toArray) below meth c H locs 0 0 (MQ below (QW (fun (v : Option Value) (u : (Int32) × (Int32) × (Int32) × (Int32) × (Nat → Int32) × (Nat → Int32)) => match u with | (oo0x1, oo0x2, oo0x3, oo0x4, oo0x5, oo0x6) => ∃ r : Int32, v = some (.int r) ∧ (((r.toInt = 0 ∧ ¬ (oo0x2 : Int32).toInt = 0) ∨ (r.toInt = 1 ∧ ((Mf 3) (Mv 5).toNatClampNeg).toInt + 1 ≤ (oo0x6 (Mv 5).toNatClampNeg).toInt ∧ (oo0x6 (Mv 5).toNatClampNeg).toInt + ((Mv 2) : Int32).toInt ≤ ((Mf 3) (Mv 5).toNatClampNeg).toInt + (oo0x1 : Int32).toInt ∧ ((Mv 2) : Int32).toInt + 1 ≤ (oo0x1 : Int32).toInt))) ∧ (((Mv 2) : Int32).toInt ≤ (oo0x1 : Int32).toInt ∧ (oo0x1 : Int32).toInt ≤ ((Mv 0) : Int32).toInt) ∧ (((Mv 6) : Int32).toInt ≤ (oo0x4 : Int32).toInt ∧ (oo0x4 : Int32).toInt ≤ 60) ∧ (Agr (Mf 2) oo0x5 (400 * ((Mv 5) : Int32).toInt + ((Mf 3) (Mv 5).toNatClampNeg).toInt)) ∧ (r.toInt = 1 → (Cd oo0x5 oo0x6 (Mv 5) b oo0x4 (d + 1)) ∧ (RfO (pz_sum (rB (Mf 1) (Mv 0)) (St0 (rB (Mf 1) (Mv 0)) (Mv 2) (Mv 6))) (rB (Mf 1) (Mv 0)) oo0x2 oo0x1 oo0x4) ∧ (SgC oo0x5 oo0x6 (Mv 5) (ll ++ lsum (rB (Mf 1) (Mv 0)) (St0 (rB (Mf 1) (Mv 0)) (Mv 2) (Mv 6))))) ∧ (r.toInt = 0 → (RfE (pz_sum (rB (Mf 1) (Mv 0)) (St0 (rB (Mf 1) (Mv 0)) (Mv 2) (Mv 6))) oo0x2))) (BW D (fun (u : (Int32) × (Int32) × (Int32) × (Int32) × (Nat → Int32) × (Nat → Int32)) => match u with | (oo0x1, oo0x2, oo0x3, oo0x4, oo0x5, oo0x6) => [((Ma 0), .inr (12, [.ref (Ma 1), .int (Mv 0), .int (Mv 1), .ref (Ma 2), .ref (Ma 3), .ref (Ma 4), .ref (Ma 5), .ref (Ma 6), .int oo0x1, .int oo0x2, .int oo0x3, .int (Mv 5), .int oo0x4, .int (Mv 7), .int (Mv 8), .ref (Ma 7), .int (Mv 9), .ref (Ma 8), .int (Mv 10), .ref (Ma 9), .ref (Ma 10), .int (Mv 11), .int (Mv 12), .int (Mv 13), .ref (Ma 11), .int (Mv 14), .ref (Ma 12), .ref (Ma 13), .ref (Ma 14), .ref (Ma 15), .ref (Ma 16), .long (Mj 0), .ref (Ma 17), .ref (Ma 18), .ref (Ma 19), .ref (Ma 20)])), ((Ma 1), .inl (tc 2, 400, .inl (Mf 1))), ((Ma 2), .inl (tc 0, 2400, .inl oo0x5)), ((Ma 3), .inl (tc 0, 7, .inl oo0x6))]) A) A) ([.ref (Ma 0)].toArray) s 0 0 A) (F0 m 9 ls []) := by
      clear hP hD hS hl
      intro n_39
      induction n_39 with
      | zero =>
        intro vy_33 vy_34 vy_35 vy_36 vy_37 vy_38 H locs ls h1
        exact absurd h1 (Nat.not_lt_zero _)
      | succ n_39 ih_40 =>
        intro vy_33 vy_34 vy_35 vy_36 vy_37 vy_38 H locs ls hn_49 pf_42 pf_43 pf_44 pf_45 pf_46 pf_47 pf_48 hP hD hS hl
        have ar_pf_46 := Cd.ar pf_46
        have ar_pf_47 := pf_47.1.1
        obtain ⟨xq_50, pf_51, pf_52⟩ := id pf_48
        obtain ⟨lo_53, elo_53⟩ : ∃ z : List Int, z = (ll ++ xq_50) := ⟨_, rfl⟩
        rw [← elo_53] at pf_51
        refine lv_aload_n hx hb dX12_sum_9 rfl (lv_at hl 0 rfl) ?_
        refine cV (a := (Ma 0)) (As := []) (rest := []) (wr := [((Ma 2), .inl (tc 0, 2400, .inl vy_37)), ((Ma 3), .inl (tc 0, 7, .inl vy_38))]) ⟨hx, hb, hml, hown, hts⟩ hK hX hA (cu_fX12_see l D tc sk (Ma 0) (Ma 1) (Ma 2) (Ma 3) (Ma 4) (Ma 5) (Ma 6) (Ma 7) (Ma 8) (Ma 9) (Ma 10) (Ma 11) (Ma 12) (Ma 13) (Ma 14) (Ma 15) (Ma 16) (Ma 17) (Ma 18) (Ma 19) (Ma 20) (Mv 0) (Mv 1) vy_33 vy_34 vy_35 (Mv 5) vy_36 (Mv 7) (Mv 8) (Mv 9) (Mv 10) (Mv 11) (Mv 12) (Mv 13) (Mv 14) (Mf 1) (Mj 0) pf_42 h_bs) k_1211 k_1208 k_1210 k_27 k_106 pl_X12_see ⟨Nat.le_of_ble_eq_true rfl, Nat.le_of_ble_eq_true rfl⟩ rfl rfl (va_recv hK hP (ci := 12) (q0 := 0) rfl rfl) hP hD hS [0, 1] [2, 3] rfl rfl rfl rfl rfl (by decide) rfl hl.1 rfl (Nat.le_of_ble_eq_true rfl) dX12_sum_10 ⟨Nat.le_of_ble_eq_true rfl, Nat.le_of_ble_eq_true rfl⟩ (fun v_54 u_55 H locs hv_56 hP₀ hD₀ hS₀ => ?_)
        obtain ⟨sv_57, rfl⟩ : ∃ z, z = u_55 := ⟨_, rfl⟩
        obtain ⟨r_62, rfl, he_63, pf_58, pf_59, pf_60, pf_61⟩ := hv_56
        have he_63 : (r_62.toInt = rB (Mf 1) (Mv 0) (sv_57 : Int32).toInt.toNat ∧ (r_62.toInt = -1 ∨ (sv_57 : Int32).toInt < (Mv 0).toInt)) := he_63
        have pf_58 : (vy_33 : Int32).toInt ≤ (sv_57 : Int32).toInt ∧ (sv_57 : Int32).toInt ≤ ((Mv 0) : Int32).toInt := pf_58
        have pf_59 : NSq (Mf 1) (Mv 0) sv_57 := pf_59
        have pf_60 : Stl (Mf 1) (Mv 0) vy_33 sv_57 := pf_60
        have pf_61 : SkR (rB (Mf 1) (Mv 0)) vy_33 sv_57 := pf_61
        refine W.eq (g2 := F0 m 13 ls [.int r_62]) rfl ?_
        replace hP : va_P D classes [((Ma 2), .inl (tc 0, 2400, .inl vy_37)), ((Ma 3), .inl (tc 0, 7, .inl vy_38)), ((Ma 0), .inr (12, [.ref (Ma 1), .int (Mv 0), .int (Mv 1), .ref (Ma 2), .ref (Ma 3), .ref (Ma 4), .ref (Ma 5), .ref (Ma 6), .int sv_57, .int vy_34, .int vy_35, .int (Mv 5), .int vy_36, .int (Mv 7), .int (Mv 8), .ref (Ma 7), .int (Mv 9), .ref (Ma 8), .int (Mv 10), .ref (Ma 9), .ref (Ma 10), .int (Mv 11), .int (Mv 12), .int (Mv 13), .ref (Ma 11), .int (Mv 14), .ref (Ma 12), .ref (Ma 13), .ref (Ma 14), .ref (Ma 15), .ref (Ma 16), .long (Mj 0), .ref (Ma 17), .ref (Ma 18), .ref (Ma 19), .ref (Ma 20)])), ((Ma 1), .inl (tc 2, 400, .inl (Mf 1)))] H := hP₀
        replace hD : va_D A [((Ma 2), .inl (tc 0, 2400, .inl vy_37)), ((Ma 3), .inl (tc 0, 7, .inl vy_38)), ((Ma 0), .inr (12, [.ref (Ma 1), .int (Mv 0), .int (Mv 1), .ref (Ma 2), .ref (Ma 3), .ref (Ma 4), .ref (Ma 5), .ref (Ma 6), .int sv_57, .int vy_34, .int vy_35, .int (Mv 5), .int vy_36, .int (Mv 7), .int (Mv 8), .ref (Ma 7), .int (Mv 9), .ref (Ma 8), .int (Mv 10), .ref (Ma 9), .ref (Ma 10), .int (Mv 11), .int (Mv 12), .int (Mv 13), .ref (Ma 11), .int (Mv 14), .ref (Ma 12), .ref (Ma 13), .ref (Ma 14), .ref (Ma 15), .ref (Ma 16), .long (Mj 0), .ref (Ma 17), .ref (Ma 18), .ref (Ma 19), .ref (Ma 20)])), ((Ma 1), .inl (tc 2, 400, .inl (Mf 1)))] := hD₀
        replace hS := hS₀
        clear hP₀ hD₀ hS₀
        refine lv_bipush (v := 43) hx hb dX12_sum_13 (by decide) ?_
        refine lv_icmp_eq (tgt := 27) hx hb dX12_sum_15 (by decide) (fun c_65 => ?_) (fun c_65 => ?_)
        · skip
          refine lv_aload_n hx hb dX12_sum_27 rfl (lv_at hl 0 rfl) ?_
          refine gf_X12_7 hx hb hts hown hK hP 2 rfl rfl dX12_sum_28 ?_
          refine lv_aload_n hx hb dX12_sum_31 rfl (lv_at hl 0 rfl) ?_
          refine gf_X12_87 hx hb hts hown hK hP 2 rfl rfl dX12_sum_32 ?_
          have hi_66 : vp_in sv_57 400 := by
            have z_1 : ¬ (r_13 : Int32).toInt = (0 : Int32).toInt := fun z => c_18 (Int32.toInt_inj.mp z)
            have z_2 := congrArg Int32.toInt c_65
            have y_0 : (0 : Int32).toInt = 0 := by decide
            have y_43 : (43 : Int32).toInt = 43 := by decide
            refine vp_in_iff.mpr ⟨?_, ?_⟩ <;> omega
          refine va_bald hx hb hK hP 3 2 rfl rfl hi_66 dX12_sum_35 ?_
          refine lv_topi (fun x_67 ex_67 => ?_)
          have kx_67 : x_67.toInt = ((Mf 1) (sv_57 : Int32).toInt.toNat).toInt := congrArg Int32.toInt ex_67
          have kcx_67 : x_67.toInt = ((Mf 1) (sv_57 : Int32).toNatClampNeg).toInt := congrArg Int32.toInt ex_67
          refine lv_bipush (v := 43) hx hb dX12_sum_36 (by decide) ?_
          refine lv_icmp_ne (tgt := 45) hx hb dX12_sum_38 (by decide) (fun c_68 => ?_) (fun c_68 => ?_)
          · skip
            refine lv_iconst (v := 3) hx hb dX12_sum_45 (by decide) ?_
            refine lv_istore_n (lv' := [(1, .int 3), (0, .ref (Ma 0))]) hx hb dX12_sum_46 rfl hl (by decide) rfl (fun ls hl₀ => ?_)
            replace hl := hl₀
            clear hl₀
            refine lv_aload_n hx hb dX12_sum_47 rfl (lv_at hl 1 rfl) ?_
            refine lv_dup hx hb dX12_sum_48 rfl ?_
            refine gf_X12_87 hx hb hts hown hK hP 2 rfl rfl dX12_sum_49 ?_
            refine lv_iconst (v := 1) hx hb dX12_sum_52 (by decide) ?_
            refine lv_iadd hx hb dX12_sum_53 ?_
            refine lv_topi (fun x_69 ex_69 => ?_)
            refine pf_X12_87 hx hb hts hown hK hP hD hS 2 rfl (Nat.le_of_ble_eq_true rfl) rfl rfl dX12_sum_54 (fun H locs hP₀ hD₀ hS₀ => ?_)
            replace hP : va_P D classes [((Ma 2), .inl (tc 0, 2400, .inl vy_37)), ((Ma 3), .inl (tc 0, 7, .inl vy_38)), ((Ma 0), .inr (12, [.ref (Ma 1), .int (Mv 0), .int (Mv 1), .ref (Ma 2), .ref (Ma 3), .ref (Ma 4), .ref (Ma 5), .ref (Ma 6), .int x_69, .int vy_34, .int vy_35, .int (Mv 5), .int vy_36, .int (Mv 7), .int (Mv 8), .ref (Ma 7), .int (Mv 9), .ref (Ma 8), .int (Mv 10), .ref (Ma 9), .ref (Ma 10), .int (Mv 11), .int (Mv 12), .int (Mv 13), .ref (Ma 11), .int (Mv 14), .ref (Ma 12), .ref (Ma 13), .ref (Ma 14), .ref (Ma 15), .ref (Ma 16), .long (Mj 0), .ref (Ma 17), .ref (Ma 18), .ref (Ma 19), .ref (Ma 20)])), ((Ma 1), .inl (tc 2, 400, .inl (Mf 1)))] H := hP₀
            replace hD : va_D A [((Ma 2), .inl (tc 0, 2400, .inl vy_37)), ((Ma 3), .inl (tc 0, 7, .inl vy_38)), ((Ma 0), .inr (12, [.ref (Ma 1), .int (Mv 0), .int (Mv 1), .ref (Ma 2), .ref (Ma 3), .ref (Ma 4), .ref (Ma 5), .ref (Ma 6), .int x_69, .int vy_34, .int vy_35, .int (Mv 5), .int vy_36, .int (Mv 7), .int (Mv 8), .ref (Ma 7), .int (Mv 9), .ref (Ma 8), .int (Mv 10), .ref (Ma 9), .ref (Ma 10), .int (Mv 11), .int (Mv 12), .int (Mv 13), .ref (Ma 11), .int (Mv 14), .ref (Ma 12), .ref (Ma 13), .ref (Ma 14), .ref (Ma 15), .ref (Ma 16), .long (Mj 0), .ref (Ma 17), .ref (Ma 18), .ref (Ma 19), .ref (Ma 20)])), ((Ma 1), .inl (tc 2, 400, .inl (Mf 1)))] := hD₀
            replace hS := hS₀
            clear hP₀ hD₀ hS₀
            have tp_x_69 : (x_69 : Int32).toInt = (sv_57 : Int32).toInt + 1 := by
              have z_1 : ¬ (r_13 : Int32).toInt = (0 : Int32).toInt := fun z => c_18 (Int32.toInt_inj.mp z)
              have z_2 := congrArg Int32.toInt c_65
              have z_3 : ¬ (x_67 : Int32).toInt = (43 : Int32).toInt := fun z => c_68 (Int32.toInt_inj.mp z)
              have y_0 : (0 : Int32).toInt = 0 := by decide
              have y_43 : (43 : Int32).toInt = 43 := by decide
              have y_1 : (1 : Int32).toInt = 1 := by decide
              have t_x_69 : x_69.toInt = (sv_57 : Int32).toInt + (1 : Int32).toInt := by rw [ex_69]; exact add_toInt (by omega) (by omega)
              omega
            refine lv_aload_n hx hb dX12_sum_57 rfl (lv_at hl 1 rfl) ?_
            have ha_70 : 0 ≤ (x_69 : Int32).toInt ∧ (x_69 : Int32).toInt ≤ ((Mv 0) : Int32).toInt ∧ ((Mv 0) : Int32).toInt ≤ 400 := by
              have z_1 : ¬ (r_13 : Int32).toInt = (0 : Int32).toInt := fun z => c_18 (Int32.toInt_inj.mp z)
              have z_2 := congrArg Int32.toInt c_65
              have z_3 : ¬ (x_67 : Int32).toInt = (43 : Int32).toInt := fun z => c_68 (Int32.toInt_inj.mp z)
              have y_0 : (0 : Int32).toInt = 0 := by decide
              have y_43 : (43 : Int32).toInt = 43 := by decide
              have y_1 : (1 : Int32).toInt = 1 := by decide
              have t_x_69 : x_69.toInt = (sv_57 : Int32).toInt + (1 : Int32).toInt := by rw [ex_69]; exact add_toInt (by omega) (by omega)
              omega
            have ha_71 : (vy_38 (Mv 5).toNatClampNeg).toInt ≤ (x_69 : Int32).toInt := by
              have z_1 : ¬ (r_13 : Int32).toInt = (0 : Int32).toInt := fun z => c_18 (Int32.toInt_inj.mp z)
              have z_2 := congrArg Int32.toInt c_65
              have z_3 : ¬ (x_67 : Int32).toInt = (43 : Int32).toInt := fun z => c_68 (Int32.toInt_inj.mp z)
              have y_0 : (0 : Int32).toInt = 0 := by decide
              have y_43 : (43 : Int32).toInt = 43 := by decide
              have y_1 : (1 : Int32).toInt = 1 := by decide
              have t_x_69 : x_69.toInt = (sv_57 : Int32).toInt + (1 : Int32).toInt := by rw [ex_69]; exact add_toInt (by omega) (by omega)
              omega
            have ha_72 : 0 ≤ (vy_36 : Int32).toInt ∧ (vy_36 : Int32).toInt ≤ 60 := by
              have z_1 : ¬ (r_13 : Int32).toInt = (0 : Int32).toInt := fun z => c_18 (Int32.toInt_inj.mp z)
              have z_2 := congrArg Int32.toInt c_65
              have z_3 : ¬ (x_67 : Int32).toInt = (43 : Int32).toInt := fun z => c_68 (Int32.toInt_inj.mp z)
              have y_0 : (0 : Int32).toInt = 0 := by decide
              have y_43 : (43 : Int32).toInt = 43 := by decide
              omega
            have ha_73 : (vy_34 : Int32).toInt = 0 := by
              have z_1 : ¬ (r_13 : Int32).toInt = (0 : Int32).toInt := fun z => c_18 (Int32.toInt_inj.mp z)
              have z_2 := congrArg Int32.toInt c_65
              have z_3 : ¬ (x_67 : Int32).toInt = (43 : Int32).toInt := fun z => c_68 (Int32.toInt_inj.mp z)
              have y_0 : (0 : Int32).toInt = 0 := by decide
              have y_43 : (43 : Int32).toInt = 43 := by decide
              omega
            refine cV (a := (Ma 0)) (As := []) (rest := []) (wr := []) ⟨hx, hb, hml, hown, hts⟩ hK hX hA (cu_kX12_term l D tc sk (Ma 0) (Ma 1) (Ma 2) (Ma 3) (Ma 4) (Ma 5) (Ma 6) (Ma 7) (Ma 8) (Ma 9) (Ma 10) (Ma 11) (Ma 12) (Ma 13) (Ma 14) (Ma 15) (Ma 16) (Ma 17) (Ma 18) (Ma 19) (Ma 20) (Mv 0) (Mv 1) x_69 vy_34 vy_35 (Mv 5) vy_36 (Mv 7) (Mv 8) (Mv 9) (Mv 10) (Mv 11) (Mv 12) (Mv 13) (Mv 14) (Mf 1) vy_37 vy_38 (Mj 0) b (d + 1) lo_53 ha_70 pf_46 ha_71 ha_72 h_bs ha_73 pf_51) k_1283 k_1280 k_1282 k_43 k_106 pl_X12_term ⟨Nat.le_of_ble_eq_true rfl, Nat.le_of_ble_eq_true rfl⟩ rfl rfl (va_recv hK hP (ci := 12) (q0 := 2) rfl rfl) hP hD hS [2, 3, 0, 1] [] rfl rfl rfl rfl rfl (by decide) rfl hl.1 rfl (Nat.le_of_ble_eq_true rfl) dX12_sum_58 ⟨Nat.le_of_ble_eq_true rfl, Nat.le_of_ble_eq_true rfl⟩ (fun v_74 u_75 H locs hv_76 hP₀ hD₀ hS₀ => ?_)
            obtain ⟨sv_77, sv_78, sv_79, sv_80, sv_81, sv_82⟩ := u_75
            obtain ⟨r_86, rfl, he_87, pf_83, pf_84, pf_85, hm_89, hm_90⟩ := hv_76
            have he_87 : ((r_86.toInt = 0 ∧ ¬ (sv_78 : Int32).toInt = 0) ∨ (r_86.toInt = 1 ∧ (vy_38 (Mv 5).toNatClampNeg).toInt + 1 ≤ (sv_82 (Mv 5).toNatClampNeg).toInt ∧ (sv_82 (Mv 5).toNatClampNeg).toInt + (x_69 : Int32).toInt ≤ (vy_38 (Mv 5).toNatClampNeg).toInt + (sv_77 : Int32).toInt ∧ (x_69 : Int32).toInt + 1 ≤ (sv_77 : Int32).toInt)) := he_87
            have pf_83 : (x_69 : Int32).toInt ≤ (sv_77 : Int32).toInt ∧ (sv_77 : Int32).toInt ≤ ((Mv 0) : Int32).toInt := pf_83
            have pf_84 : (vy_36 : Int32).toInt ≤ (sv_80 : Int32).toInt ∧ (sv_80 : Int32).toInt ≤ 60 := pf_84
            have pf_85 : Agr vy_37 sv_81 (400 * ((Mv 5) : Int32).toInt + (vy_38 (Mv 5).toNatClampNeg).toInt) := pf_85
            refine W.eq (g2 := F0 m 61 ls [.int r_86]) rfl ?_
            replace hP : va_P D classes [((Ma 0), .inr (12, [.ref (Ma 1), .int (Mv 0), .int (Mv 1), .ref (Ma 2), .ref (Ma 3), .ref (Ma 4), .ref (Ma 5), .ref (Ma 6), .int sv_77, .int sv_78, .int sv_79, .int (Mv 5), .int sv_80, .int (Mv 7), .int (Mv 8), .ref (Ma 7), .int (Mv 9), .ref (Ma 8), .int (Mv 10), .ref (Ma 9), .ref (Ma 10), .int (Mv 11), .int (Mv 12), .int (Mv 13), .ref (Ma 11), .int (Mv 14), .ref (Ma 12), .ref (Ma 13), .ref (Ma 14), .ref (Ma 15), .ref (Ma 16), .long (Mj 0), .ref (Ma 17), .ref (Ma 18), .ref (Ma 19), .ref (Ma 20)])), ((Ma 1), .inl (tc 2, 400, .inl (Mf 1))), ((Ma 2), .inl (tc 0, 2400, .inl sv_81)), ((Ma 3), .inl (tc 0, 7, .inl sv_82))] H := hP₀
            replace hD : va_D A [((Ma 0), .inr (12, [.ref (Ma 1), .int (Mv 0), .int (Mv 1), .ref (Ma 2), .ref (Ma 3), .ref (Ma 4), .ref (Ma 5), .ref (Ma 6), .int sv_77, .int sv_78, .int sv_79, .int (Mv 5), .int sv_80, .int (Mv 7), .int (Mv 8), .ref (Ma 7), .int (Mv 9), .ref (Ma 8), .int (Mv 10), .ref (Ma 9), .ref (Ma 10), .int (Mv 11), .int (Mv 12), .int (Mv 13), .ref (Ma 11), .int (Mv 14), .ref (Ma 12), .ref (Ma 13), .ref (Ma 14), .ref (Ma 15), .ref (Ma 16), .long (Mj 0), .ref (Ma 17), .ref (Ma 18), .ref (Ma 19), .ref (Ma 20)])), ((Ma 1), .inl (tc 2, 400, .inl (Mf 1))), ((Ma 2), .inl (tc 0, 2400, .inl sv_81)), ((Ma 3), .inl (tc 0, 7, .inl sv_82))] := hD₀
            replace hS := hS₀
            clear hP₀ hD₀ hS₀
            refine lv_if_ne (tgt := 66) hx hb dX12_sum_61 (by decide) (fun c_91 => ?_) (fun c_91 => ?_)
            · skip
              have hz_95 : (r_86 : Int32).toInt = 1 := by
                have z_1 : ¬ (r_13 : Int32).toInt = (0 : Int32).toInt := fun z => c_18 (Int32.toInt_inj.mp z)
                have z_2 := congrArg Int32.toInt c_65
                have z_3 : ¬ (x_67 : Int32).toInt = (43 : Int32).toInt := fun z => c_68 (Int32.toInt_inj.mp z)
                have z_4 : ¬ (r_86 : Int32).toInt = (0 : Int32).toInt := fun z => c_91 (Int32.toInt_inj.mp z)
                have y_0 : (0 : Int32).toInt = 0 := by decide
                have y_43 : (43 : Int32).toInt = 43 := by decide
                omega
              obtain ⟨pf_92, pf_93, pf_94⟩ := hm_89 hz_95
              have pf_92 : Cd sv_81 sv_82 (Mv 5) b sv_80 ((d + 1) + 1) := pf_92
              have ar_pf_92 := Cd.ar pf_92
              have pf_93 : TmO (pz_sum (rB (Mf 1) (Mv 0)) (St0 (rB (Mf 1) (Mv 0)) x_69 vy_36)) (rB (Mf 1) (Mv 0)) sv_78 sv_77 sv_80 := pf_93
              have ar_pf_93 := pf_93.1.1
              have pf_94 : TmC lo_53 (rB (Mf 1) (Mv 0)) (St0 (rB (Mf 1) (Mv 0)) x_69 vy_36) sv_81 sv_82 (Mv 5) sv_77 := pf_94
              obtain ⟨xq_96, pf_97, pf_98⟩ := id pf_94
              obtain ⟨lo_99, elo_99⟩ : ∃ z : List Int, z = (lo_53 ++ xq_96) := ⟨_, rfl⟩
              rw [← elo_99] at pf_97
              refine lv_aload_n hx hb dX12_sum_66 rfl (lv_at hl 1 rfl) ?_
              refine lv_iload_n hx hb dX12_sum_67 rfl (lv_at hl 0 rfl) ?_
              refine lv_iconst (v := 0) hx hb dX12_sum_68 (by decide) ?_
              have ha_100 : ((d + 1) : Int) ≤ sv_80.toInt := by
                have z_1 : ¬ (r_13 : Int32).toInt = (0 : Int32).toInt := fun z => c_18 (Int32.toInt_inj.mp z)
                have z_2 := congrArg Int32.toInt c_65
                have z_3 : ¬ (x_67 : Int32).toInt = (43 : Int32).toInt := fun z => c_68 (Int32.toInt_inj.mp z)
                have z_4 : ¬ (r_86 : Int32).toInt = (0 : Int32).toInt := fun z => c_91 (Int32.toInt_inj.mp z)
                have y_0 : (0 : Int32).toInt = 0 := by decide
                have y_43 : (43 : Int32).toInt = 43 := by decide
                omega
              have ha_101 : (sv_82 (Mv 5).toNatClampNeg).toInt < 400 := by
                have z_1 : ¬ (r_13 : Int32).toInt = (0 : Int32).toInt := fun z => c_18 (Int32.toInt_inj.mp z)
                have z_2 := congrArg Int32.toInt c_65
                have z_3 : ¬ (x_67 : Int32).toInt = (43 : Int32).toInt := fun z => c_68 (Int32.toInt_inj.mp z)
                have z_4 : ¬ (r_86 : Int32).toInt = (0 : Int32).toInt := fun z => c_91 (Int32.toInt_inj.mp z)
                have y_0 : (0 : Int32).toInt = 0 := by decide
                have y_43 : (43 : Int32).toInt = 43 := by decide
                omega
              have ha_102 : 0 ≤ (3 : Int32).toInt ∧ (3 : Int32).toInt ≤ 15 := by
                have z_1 : ¬ (r_13 : Int32).toInt = (0 : Int32).toInt := fun z => c_18 (Int32.toInt_inj.mp z)
                have z_2 := congrArg Int32.toInt c_65
                have z_3 : ¬ (x_67 : Int32).toInt = (43 : Int32).toInt := fun z => c_68 (Int32.toInt_inj.mp z)
                have z_4 : ¬ (r_86 : Int32).toInt = (0 : Int32).toInt := fun z => c_91 (Int32.toInt_inj.mp z)
                have y_0 : (0 : Int32).toInt = 0 := by decide
                have y_43 : (43 : Int32).toInt = 43 := by decide
                have y_3 : (3 : Int32).toInt = 3 := by decide
                omega
              have ha_103 : 0 ≤ (0 : Int32).toInt ∧ (0 : Int32).toInt ≤ 100000 := by
                have z_1 : ¬ (r_13 : Int32).toInt = (0 : Int32).toInt := fun z => c_18 (Int32.toInt_inj.mp z)
                have z_2 := congrArg Int32.toInt c_65
                have z_3 : ¬ (x_67 : Int32).toInt = (43 : Int32).toInt := fun z => c_68 (Int32.toInt_inj.mp z)
                have z_4 : ¬ (r_86 : Int32).toInt = (0 : Int32).toInt := fun z => c_91 (Int32.toInt_inj.mp z)
                have y_0 : (0 : Int32).toInt = 0 := by decide
                have y_43 : (43 : Int32).toInt = 43 := by decide
                omega
              have ha_104 : 0 ≤ (Mv 5).toInt := by
                have z_1 : ¬ (r_13 : Int32).toInt = (0 : Int32).toInt := fun z => c_18 (Int32.toInt_inj.mp z)
                have z_2 := congrArg Int32.toInt c_65
                have z_3 : ¬ (x_67 : Int32).toInt = (43 : Int32).toInt := fun z => c_68 (Int32.toInt_inj.mp z)
                have z_4 : ¬ (r_86 : Int32).toInt = (0 : Int32).toInt := fun z => c_91 (Int32.toInt_inj.mp z)
                have y_0 : (0 : Int32).toInt = 0 := by decide
                have y_43 : (43 : Int32).toInt = 43 := by decide
                omega
              refine cV (a := (Ma 0)) (As := [.int 3, .int 0]) (rest := []) (wr := [((Ma 1), .inl (tc 2, 400, .inl (Mf 1)))]) ⟨hx, hb, hml, hown, hts⟩ hK hX hA (cu_kX12_puts l D tc sk (Ma 0) (Ma 1) (Ma 2) (Ma 3) (Ma 4) (Ma 5) (Ma 6) (Ma 7) (Ma 8) (Ma 9) (Ma 10) (Ma 11) (Ma 12) (Ma 13) (Ma 14) (Ma 15) (Ma 16) (Ma 17) (Ma 18) (Ma 19) (Ma 20) (Mv 0) (Mv 1) sv_77 sv_78 sv_79 (Mv 5) sv_80 (Mv 7) (Mv 8) (Mv 9) (Mv 10) (Mv 11) (Mv 12) (Mv 13) (Mv 14) sv_81 sv_82 (Mj 0) 3 0 b sv_80 ((d + 1) + 1) (d + 1) lo_99 (-13) pf_92 (StpR.op (by decide) rfl (by omega)) ha_100 ha_101 pf_97 (by decide) ha_102 ha_103 ha_104) k_1296 k_1293 k_1295 k_46 k_106 pl_X12_puts ⟨Nat.le_of_ble_eq_true rfl, Nat.le_of_ble_eq_true rfl⟩ rfl rfl (va_recv hK hP (ci := 12) (q0 := 0) rfl rfl) hP hD hS [0, 2, 3] [1] rfl rfl rfl rfl rfl (by decide) rfl hl.1 rfl (Nat.le_of_ble_eq_true rfl) dX12_sum_69 ⟨Nat.le_of_ble_eq_true rfl, Nat.le_of_ble_eq_true rfl⟩ (fun v_105 u_106 H locs hv_107 hP₀ hD₀ hS₀ => ?_)
              obtain ⟨sv_108, sv_109⟩ := u_106
              obtain ⟨rfl, pf_110, pf_111, pf_112, pf_113⟩ := hv_107
              have pf_110 : Cd sv_108 sv_109 (Mv 5) b sv_80 (d + 1) := pf_110
              have ar_pf_110 := Cd.ar pf_110
              have pf_111 : Agr sv_81 sv_108 (400 * ((Mv 5) : Int32).toInt + (sv_82 (Mv 5).toNatClampNeg).toInt) := pf_111
              have pf_112 : (sv_109 (Mv 5).toNatClampNeg).toInt = (sv_82 (Mv 5).toNatClampNeg).toInt + 1 := pf_112
              have pf_113 : SgC sv_108 sv_109 (Mv 5) (lo_99 ++ [((-13) : Int)]) := pf_113
              obtain ⟨lo_114, elo_114⟩ : ∃ z : List Int, z = (lo_99 ++ [(-13)]) := ⟨_, rfl⟩
              rw [← elo_114] at pf_113
              refine W.eq (g2 := F0 m 72 ls []) rfl ?_
              replace hP : va_P D classes [((Ma 1), .inl (tc 2, 400, .inl (Mf 1))), ((Ma 0), .inr (12, [.ref (Ma 1), .int (Mv 0), .int (Mv 1), .ref (Ma 2), .ref (Ma 3), .ref (Ma 4), .ref (Ma 5), .ref (Ma 6), .int sv_77, .int sv_78, .int sv_79, .int (Mv 5), .int sv_80, .int (Mv 7), .int (Mv 8), .ref (Ma 7), .int (Mv 9), .ref (Ma 8), .int (Mv 10), .ref (Ma 9), .ref (Ma 10), .int (Mv 11), .int (Mv 12), .int (Mv 13), .ref (Ma 11), .int (Mv 14), .ref (Ma 12), .ref (Ma 13), .ref (Ma 14), .ref (Ma 15), .ref (Ma 16), .long (Mj 0), .ref (Ma 17), .ref (Ma 18), .ref (Ma 19), .ref (Ma 20)])), ((Ma 2), .inl (tc 0, 2400, .inl sv_108)), ((Ma 3), .inl (tc 0, 7, .inl sv_109))] H := hP₀
              replace hD : va_D A [((Ma 1), .inl (tc 2, 400, .inl (Mf 1))), ((Ma 0), .inr (12, [.ref (Ma 1), .int (Mv 0), .int (Mv 1), .ref (Ma 2), .ref (Ma 3), .ref (Ma 4), .ref (Ma 5), .ref (Ma 6), .int sv_77, .int sv_78, .int sv_79, .int (Mv 5), .int sv_80, .int (Mv 7), .int (Mv 8), .ref (Ma 7), .int (Mv 9), .ref (Ma 8), .int (Mv 10), .ref (Ma 9), .ref (Ma 10), .int (Mv 11), .int (Mv 12), .int (Mv 13), .ref (Ma 11), .int (Mv 14), .ref (Ma 12), .ref (Ma 13), .ref (Ma 14), .ref (Ma 15), .ref (Ma 16), .long (Mj 0), .ref (Ma 17), .ref (Ma 18), .ref (Ma 19), .ref (Ma 20)])), ((Ma 2), .inl (tc 0, 2400, .inl sv_108)), ((Ma 3), .inl (tc 0, 7, .inl sv_109))] := hD₀
              replace hS := hS₀
              clear hP₀ hD₀ hS₀
              refine lv_goto (tgt := 9) hx hb dX12_sum_72 (by decide) ?_
              have hb_115 : 400 - (sv_77 : Int32).toInt < 400 - (vy_33 : Int32).toInt ∧ 1 ≤ 400 - (vy_33 : Int32).toInt := by
                have z_1 : ¬ (r_13 : Int32).toInt = (0 : Int32).toInt := fun z => c_18 (Int32.toInt_inj.mp z)
                have z_2 := congrArg Int32.toInt c_65
                have z_3 : ¬ (x_67 : Int32).toInt = (43 : Int32).toInt := fun z => c_68 (Int32.toInt_inj.mp z)
                have z_4 : ¬ (r_86 : Int32).toInt = (0 : Int32).toInt := fun z => c_91 (Int32.toInt_inj.mp z)
                have y_0 : (0 : Int32).toInt = 0 := by decide
                have y_43 : (43 : Int32).toInt = 43 := by decide
                omega
              have ha_116 : 0 ≤ (sv_77 : Int32).toInt ∧ (sv_77 : Int32).toInt ≤ ((Mv 0) : Int32).toInt ∧ ((Mv 0) : Int32).toInt ≤ 400 := by
                have z_1 : ¬ (r_13 : Int32).toInt = (0 : Int32).toInt := fun z => c_18 (Int32.toInt_inj.mp z)
                have z_2 := congrArg Int32.toInt c_65
                have z_3 : ¬ (x_67 : Int32).toInt = (43 : Int32).toInt := fun z => c_68 (Int32.toInt_inj.mp z)
                have z_4 : ¬ (r_86 : Int32).toInt = (0 : Int32).toInt := fun z => c_91 (Int32.toInt_inj.mp z)
                have y_0 : (0 : Int32).toInt = 0 := by decide
                have y_43 : (43 : Int32).toInt = 43 := by decide
                omega
              have ha_117 : (Mv 6).toInt ≤ (sv_80 : Int32).toInt ∧ (sv_80 : Int32).toInt ≤ 60 := by
                have z_1 : ¬ (r_13 : Int32).toInt = (0 : Int32).toInt := fun z => c_18 (Int32.toInt_inj.mp z)
                have z_2 := congrArg Int32.toInt c_65
                have z_3 : ¬ (x_67 : Int32).toInt = (43 : Int32).toInt := fun z => c_68 (Int32.toInt_inj.mp z)
                have z_4 : ¬ (r_86 : Int32).toInt = (0 : Int32).toInt := fun z => c_91 (Int32.toInt_inj.mp z)
                have y_0 : (0 : Int32).toInt = 0 := by decide
                have y_43 : (43 : Int32).toInt = 43 := by decide
                omega
              have ha_118 : ((Mf 3) (Mv 5).toNatClampNeg).toInt + 1 ≤ (sv_109 (Mv 5).toNatClampNeg).toInt ∧ (sv_109 (Mv 5).toNatClampNeg).toInt + ((Mv 2) : Int32).toInt ≤ ((Mf 3) (Mv 5).toNatClampNeg).toInt + (sv_77 : Int32).toInt ∧ ((Mv 2) : Int32).toInt + 1 ≤ (sv_77 : Int32).toInt := by
                have z_1 : ¬ (r_13 : Int32).toInt = (0 : Int32).toInt := fun z => c_18 (Int32.toInt_inj.mp z)
                have z_2 := congrArg Int32.toInt c_65
                have z_3 : ¬ (x_67 : Int32).toInt = (43 : Int32).toInt := fun z => c_68 (Int32.toInt_inj.mp z)
                have z_4 : ¬ (r_86 : Int32).toInt = (0 : Int32).toInt := fun z => c_91 (Int32.toInt_inj.mp z)
                have y_0 : (0 : Int32).toInt = 0 := by decide
                have y_43 : (43 : Int32).toInt = 43 := by decide
                omega
              have hr_119 : (400 * ((Mv 5) : Int32).toInt + ((Mf 3) (Mv 5).toNatClampNeg).toInt) ≤ (400 * ((Mv 5) : Int32).toInt + ((Mf 3) (Mv 5).toNatClampNeg).toInt) := by
                have z_1 : ¬ (r_13 : Int32).toInt = (0 : Int32).toInt := fun z => c_18 (Int32.toInt_inj.mp z)
                have z_2 := congrArg Int32.toInt c_65
                have z_3 : ¬ (x_67 : Int32).toInt = (43 : Int32).toInt := fun z => c_68 (Int32.toInt_inj.mp z)
                have z_4 : ¬ (r_86 : Int32).toInt = (0 : Int32).toInt := fun z => c_91 (Int32.toInt_inj.mp z)
                have y_0 : (0 : Int32).toInt = 0 := by decide
                have y_43 : (43 : Int32).toInt = 43 := by decide
                omega
              have hr_120 : (400 * ((Mv 5) : Int32).toInt + ((Mf 3) (Mv 5).toNatClampNeg).toInt) ≤ (400 * ((Mv 5) : Int32).toInt + (vy_38 (Mv 5).toNatClampNeg).toInt) := by
                have z_1 : ¬ (r_13 : Int32).toInt = (0 : Int32).toInt := fun z => c_18 (Int32.toInt_inj.mp z)
                have z_2 := congrArg Int32.toInt c_65
                have z_3 : ¬ (x_67 : Int32).toInt = (43 : Int32).toInt := fun z => c_68 (Int32.toInt_inj.mp z)
                have z_4 : ¬ (r_86 : Int32).toInt = (0 : Int32).toInt := fun z => c_91 (Int32.toInt_inj.mp z)
                have y_0 : (0 : Int32).toInt = 0 := by decide
                have y_43 : (43 : Int32).toInt = 43 := by decide
                omega
              have hr_121 : (400 * ((Mv 5) : Int32).toInt + ((Mf 3) (Mv 5).toNatClampNeg).toInt) ≤ (400 * ((Mv 5) : Int32).toInt + (sv_82 (Mv 5).toNatClampNeg).toInt) := by
                have z_1 : ¬ (r_13 : Int32).toInt = (0 : Int32).toInt := fun z => c_18 (Int32.toInt_inj.mp z)
                have z_2 := congrArg Int32.toInt c_65
                have z_3 : ¬ (x_67 : Int32).toInt = (43 : Int32).toInt := fun z => c_68 (Int32.toInt_inj.mp z)
                have z_4 : ¬ (r_86 : Int32).toInt = (0 : Int32).toInt := fun z => c_91 (Int32.toInt_inj.mp z)
                have y_0 : (0 : Int32).toInt = 0 := by decide
                have y_43 : (43 : Int32).toInt = 43 := by decide
                omega
              have hr_122 : (rB (Mf 1) (Mv 0) (sv_57 : Int32).toInt.toNat = 43 ∨ rB (Mf 1) (Mv 0) (sv_57 : Int32).toInt.toNat = 45) := by
                have z_1 : ¬ (r_13 : Int32).toInt = (0 : Int32).toInt := fun z => c_18 (Int32.toInt_inj.mp z)
                have z_2 := congrArg Int32.toInt c_65
                have z_3 : ¬ (x_67 : Int32).toInt = (43 : Int32).toInt := fun z => c_68 (Int32.toInt_inj.mp z)
                have z_4 : ¬ (r_86 : Int32).toInt = (0 : Int32).toInt := fun z => c_91 (Int32.toInt_inj.mp z)
                have y_0 : (0 : Int32).toInt = 0 := by decide
                have y_43 : (43 : Int32).toInt = 43 := by decide
                omega
              have hi_123 : (x_69 : Int32).toInt = (sv_57 : Int32).toInt + 1 := by
                have z_1 : ¬ (r_13 : Int32).toInt = (0 : Int32).toInt := fun z => c_18 (Int32.toInt_inj.mp z)
                have z_2 := congrArg Int32.toInt c_65
                have z_3 : ¬ (x_67 : Int32).toInt = (43 : Int32).toInt := fun z => c_68 (Int32.toInt_inj.mp z)
                have z_4 : ¬ (r_86 : Int32).toInt = (0 : Int32).toInt := fun z => c_91 (Int32.toInt_inj.mp z)
                have y_0 : (0 : Int32).toInt = 0 := by decide
                have y_43 : (43 : Int32).toInt = 43 := by decide
                have y_1 : (1 : Int32).toInt = 1 := by decide
                have t_x_69 : x_69.toInt = (sv_57 : Int32).toInt + (1 : Int32).toInt := by rw [ex_69]; exact add_toInt (by omega) (by omega)
                omega
              have hr_124 : (rB (Mf 1) (Mv 0) (sv_57 : Int32).toInt.toNat = 43 ∨ rB (Mf 1) (Mv 0) (sv_57 : Int32).toInt.toNat = 45) := by
                have z_1 : ¬ (r_13 : Int32).toInt = (0 : Int32).toInt := fun z => c_18 (Int32.toInt_inj.mp z)
                have z_2 := congrArg Int32.toInt c_65
                have z_3 : ¬ (x_67 : Int32).toInt = (43 : Int32).toInt := fun z => c_68 (Int32.toInt_inj.mp z)
                have z_4 : ¬ (r_86 : Int32).toInt = (0 : Int32).toInt := fun z => c_91 (Int32.toInt_inj.mp z)
                have y_0 : (0 : Int32).toInt = 0 := by decide
                have y_43 : (43 : Int32).toInt = 43 := by decide
                omega
              have rg_125 := rB_rg (n := (Mv 0)) h_bs (sv_57 : Int32).toInt.toNat
              have hr_126 : rB (Mf 1) (Mv 0) (sv_57 : Int32).toInt.toNat = 45 := by
                have z_1 : ¬ (r_13 : Int32).toInt = (0 : Int32).toInt := fun z => c_18 (Int32.toInt_inj.mp z)
                have z_2 := congrArg Int32.toInt c_65
                have z_3 : ¬ (x_67 : Int32).toInt = (43 : Int32).toInt := fun z => c_68 (Int32.toInt_inj.mp z)
                have z_4 : ¬ (r_86 : Int32).toInt = (0 : Int32).toInt := fun z => c_91 (Int32.toInt_inj.mp z)
                have y_0 : (0 : Int32).toInt = 0 := by decide
                have y_43 : (43 : Int32).toInt = 43 := by decide
                omega
              have ho_127 : (-13 : Int) = ec_o (rB (Mf 1) (Mv 0) (sv_57 : Int32).toInt.toNat) := by rw [hr_126]; decide
              have hi_128 : (x_69 : Int32).toInt = (sv_57 : Int32).toInt + 1 := by
                have z_1 : ¬ (r_13 : Int32).toInt = (0 : Int32).toInt := fun z => c_18 (Int32.toInt_inj.mp z)
                have z_2 := congrArg Int32.toInt c_65
                have z_3 : ¬ (x_67 : Int32).toInt = (43 : Int32).toInt := fun z => c_68 (Int32.toInt_inj.mp z)
                have z_4 : ¬ (r_86 : Int32).toInt = (0 : Int32).toInt := fun z => c_91 (Int32.toInt_inj.mp z)
                have y_0 : (0 : Int32).toInt = 0 := by decide
                have y_43 : (43 : Int32).toInt = 43 := by decide
                have y_1 : (1 : Int32).toInt = 1 := by decide
                have t_x_69 : x_69.toInt = (sv_57 : Int32).toInt + (1 : Int32).toInt := by rw [ex_69]; exact add_toInt (by omega) (by omega)
                omega
              have hu_129 : SgC sv_108 sv_109 (Mv 5) (((ll ++ xq_50) ++ xq_96) ++ [(-13)]) := by
                rw [← elo_53, ← elo_99, ← elo_114]
                exact pf_113
              exact ih_40 sv_77 sv_78 sv_79 sv_80 sv_108 sv_109 _ _ _ (by omega) ha_116 ha_117 ha_118 (Agr.trans (k' := (400 * ((Mv 5) : Int32).toInt + ((Mf 3) (Mv 5).toNatClampNeg).toInt)) (Agr.trans (k' := (400 * ((Mv 5) : Int32).toInt + ((Mf 3) (Mv 5).toNatClampNeg).toInt)) (Agr.mono pf_45 hr_119) pf_85 ⟨Int.le_refl _, hr_120⟩) pf_111 ⟨Int.le_refl _, hr_121⟩) pf_110 (TmO.next (rB_fi h_nx.2.2) pf_47 pf_61 hr_122 hi_123 pf_93) (SmD.next (rB_fi h_nx.2.2) pf_52 pf_61 hr_124 ho_127 hi_128 pf_98 pf_93.2 hu_129) (hP.sub [1, 0, 2, 3] rfl) (hD.sub [1, 0, 2, 3] rfl rfl) hS (lv_sub hl [1] rfl)
            · skip
              have hz_131 : (r_86 : Int32).toInt = 0 := by
                have z_1 : ¬ (r_13 : Int32).toInt = (0 : Int32).toInt := fun z => c_18 (Int32.toInt_inj.mp z)
                have z_2 := congrArg Int32.toInt c_65
                have z_3 : ¬ (x_67 : Int32).toInt = (43 : Int32).toInt := fun z => c_68 (Int32.toInt_inj.mp z)
                have z_4 := congrArg Int32.toInt c_91
                have y_0 : (0 : Int32).toInt = 0 := by decide
                have y_43 : (43 : Int32).toInt = 43 := by decide
                omega
              obtain pf_130 := hm_90 hz_131
              have pf_130 : RfE (pz_sum (rB (Mf 1) (Mv 0)) (St0 (rB (Mf 1) (Mv 0)) x_69 vy_36)) sv_78 := pf_130
              refine lv_iconst (v := 0) hx hb dX12_sum_64 (by decide) ?_
              have ha_132 : ((Mv 2) : Int32).toInt ≤ (sv_77 : Int32).toInt ∧ (sv_77 : Int32).toInt ≤ ((Mv 0) : Int32).toInt := by
                have z_1 : ¬ (r_13 : Int32).toInt = (0 : Int32).toInt := fun z => c_18 (Int32.toInt_inj.mp z)
                have z_2 := congrArg Int32.toInt c_65
                have z_3 : ¬ (x_67 : Int32).toInt = (43 : Int32).toInt := fun z => c_68 (Int32.toInt_inj.mp z)
                have z_4 := congrArg Int32.toInt c_91
                have y_0 : (0 : Int32).toInt = 0 := by decide
                have y_43 : (43 : Int32).toInt = 43 := by decide
                omega
              have ha_133 : ((Mv 6) : Int32).toInt ≤ (sv_80 : Int32).toInt ∧ (sv_80 : Int32).toInt ≤ 60 := by
                have z_1 : ¬ (r_13 : Int32).toInt = (0 : Int32).toInt := fun z => c_18 (Int32.toInt_inj.mp z)
                have z_2 := congrArg Int32.toInt c_65
                have z_3 : ¬ (x_67 : Int32).toInt = (43 : Int32).toInt := fun z => c_68 (Int32.toInt_inj.mp z)
                have z_4 := congrArg Int32.toInt c_91
                have y_0 : (0 : Int32).toInt = 0 := by decide
                have y_43 : (43 : Int32).toInt = 43 := by decide
                omega
              have hr_134 : (400 * ((Mv 5) : Int32).toInt + ((Mf 3) (Mv 5).toNatClampNeg).toInt) ≤ (400 * ((Mv 5) : Int32).toInt + ((Mf 3) (Mv 5).toNatClampNeg).toInt) := by
                have z_1 : ¬ (r_13 : Int32).toInt = (0 : Int32).toInt := fun z => c_18 (Int32.toInt_inj.mp z)
                have z_2 := congrArg Int32.toInt c_65
                have z_3 : ¬ (x_67 : Int32).toInt = (43 : Int32).toInt := fun z => c_68 (Int32.toInt_inj.mp z)
                have z_4 := congrArg Int32.toInt c_91
                have y_0 : (0 : Int32).toInt = 0 := by decide
                have y_43 : (43 : Int32).toInt = 43 := by decide
                omega
              have hr_135 : (400 * ((Mv 5) : Int32).toInt + ((Mf 3) (Mv 5).toNatClampNeg).toInt) ≤ (400 * ((Mv 5) : Int32).toInt + (vy_38 (Mv 5).toNatClampNeg).toInt) := by
                have z_1 : ¬ (r_13 : Int32).toInt = (0 : Int32).toInt := fun z => c_18 (Int32.toInt_inj.mp z)
                have z_2 := congrArg Int32.toInt c_65
                have z_3 : ¬ (x_67 : Int32).toInt = (43 : Int32).toInt := fun z => c_68 (Int32.toInt_inj.mp z)
                have z_4 := congrArg Int32.toInt c_91
                have y_0 : (0 : Int32).toInt = 0 := by decide
                have y_43 : (43 : Int32).toInt = 43 := by decide
                omega
              have hp_136 : (((0 : Int32).toInt = 0 ∧ ¬ (sv_78 : Int32).toInt = 0) ∨ ((0 : Int32).toInt = 1 ∧ ((Mf 3) (Mv 5).toNatClampNeg).toInt + 1 ≤ (sv_82 (Mv 5).toNatClampNeg).toInt ∧ (sv_82 (Mv 5).toNatClampNeg).toInt + ((Mv 2) : Int32).toInt ≤ ((Mf 3) (Mv 5).toNatClampNeg).toInt + (sv_77 : Int32).toInt ∧ ((Mv 2) : Int32).toInt + 1 ≤ (sv_77 : Int32).toInt)) := by
                have z_1 : ¬ (r_13 : Int32).toInt = (0 : Int32).toInt := fun z => c_18 (Int32.toInt_inj.mp z)
                have z_2 := congrArg Int32.toInt c_65
                have z_3 : ¬ (x_67 : Int32).toInt = (43 : Int32).toInt := fun z => c_68 (Int32.toInt_inj.mp z)
                have z_4 := congrArg Int32.toInt c_91
                have y_0 : (0 : Int32).toInt = 0 := by decide
                have y_43 : (43 : Int32).toInt = 43 := by decide
                omega
              have hm_137 : (0 : Int32).toInt = 0 → (RfE (pz_sum (rB (Mf 1) (Mv 0)) (St0 (rB (Mf 1) (Mv 0)) (Mv 2) (Mv 6))) sv_78) := by
                intro h1r
                have hr_138 : (rB (Mf 1) (Mv 0) (sv_57 : Int32).toInt.toNat = 43 ∨ rB (Mf 1) (Mv 0) (sv_57 : Int32).toInt.toNat = 45) := by
                  have z_1 : ¬ (r_13 : Int32).toInt = (0 : Int32).toInt := fun z => c_18 (Int32.toInt_inj.mp z)
                  have z_2 := congrArg Int32.toInt c_65
                  have z_3 : ¬ (x_67 : Int32).toInt = (43 : Int32).toInt := fun z => c_68 (Int32.toInt_inj.mp z)
                  have z_4 := congrArg Int32.toInt c_91
                  have y_0 : (0 : Int32).toInt = 0 := by decide
                  have y_43 : (43 : Int32).toInt = 43 := by decide
                  omega
                have hi_139 : (x_69 : Int32).toInt = (sv_57 : Int32).toInt + 1 := by
                  have z_1 : ¬ (r_13 : Int32).toInt = (0 : Int32).toInt := fun z => c_18 (Int32.toInt_inj.mp z)
                  have z_2 := congrArg Int32.toInt c_65
                  have z_3 : ¬ (x_67 : Int32).toInt = (43 : Int32).toInt := fun z => c_68 (Int32.toInt_inj.mp z)
                  have z_4 := congrArg Int32.toInt c_91
                  have y_0 : (0 : Int32).toInt = 0 := by decide
                  have y_43 : (43 : Int32).toInt = 43 := by decide
                  have y_1 : (1 : Int32).toInt = 1 := by decide
                  have t_x_69 : x_69.toInt = (sv_57 : Int32).toInt + (1 : Int32).toInt := by rw [ex_69]; exact add_toInt (by omega) (by omega)
                  omega
                exact (TmO.er (rB_fi h_nx.2.2) pf_47 pf_61 hr_138 hi_139 pf_130)
              exact retI (v := 0) hx hb hr hlk (rfl) hP hD hS (sv_77, sv_78, sv_79, sv_80, sv_81, sv_82) ⟨_, rfl, hp_136, ha_132, ha_133, (Agr.trans (k' := (400 * ((Mv 5) : Int32).toInt + ((Mf 3) (Mv 5).toNatClampNeg).toInt)) (Agr.mono pf_45 hr_134) pf_85 ⟨Int.le_refl _, hr_135⟩), (fun h => absurd h (by decide)), hm_137⟩ [0, 1, 2, 3] rfl rfl dX12_sum_65 (Nat.le_of_ble_eq_true rfl) (Nat.le_of_ble_eq_true rfl) rfl
          · skip
            refine lv_iconst (v := 2) hx hb dX12_sum_41 (by decide) ?_
            refine lv_goto (tgt := 46) hx hb dX12_sum_42 (by decide) ?_
            refine lv_istore_n (lv' := [(1, .int 2), (0, .ref (Ma 0))]) hx hb dX12_sum_46 rfl hl (by decide) rfl (fun ls hl₀ => ?_)
            replace hl := hl₀
            clear hl₀
            refine lv_aload_n hx hb dX12_sum_47 rfl (lv_at hl 1 rfl) ?_
            refine lv_dup hx hb dX12_sum_48 rfl ?_
            refine gf_X12_87 hx hb hts hown hK hP 2 rfl rfl dX12_sum_49 ?_
            refine lv_iconst (v := 1) hx hb dX12_sum_52 (by decide) ?_
            refine lv_iadd hx hb dX12_sum_53 ?_
            refine lv_topi (fun x_140 ex_140 => ?_)
            refine pf_X12_87 hx hb hts hown hK hP hD hS 2 rfl (Nat.le_of_ble_eq_true rfl) rfl rfl dX12_sum_54 (fun H locs hP₀ hD₀ hS₀ => ?_)
            replace hP : va_P D classes [((Ma 2), .inl (tc 0, 2400, .inl vy_37)), ((Ma 3), .inl (tc 0, 7, .inl vy_38)), ((Ma 0), .inr (12, [.ref (Ma 1), .int (Mv 0), .int (Mv 1), .ref (Ma 2), .ref (Ma 3), .ref (Ma 4), .ref (Ma 5), .ref (Ma 6), .int x_140, .int vy_34, .int vy_35, .int (Mv 5), .int vy_36, .int (Mv 7), .int (Mv 8), .ref (Ma 7), .int (Mv 9), .ref (Ma 8), .int (Mv 10), .ref (Ma 9), .ref (Ma 10), .int (Mv 11), .int (Mv 12), .int (Mv 13), .ref (Ma 11), .int (Mv 14), .ref (Ma 12), .ref (Ma 13), .ref (Ma 14), .ref (Ma 15), .ref (Ma 16), .long (Mj 0), .ref (Ma 17), .ref (Ma 18), .ref (Ma 19), .ref (Ma 20)])), ((Ma 1), .inl (tc 2, 400, .inl (Mf 1)))] H := hP₀
            replace hD : va_D A [((Ma 2), .inl (tc 0, 2400, .inl vy_37)), ((Ma 3), .inl (tc 0, 7, .inl vy_38)), ((Ma 0), .inr (12, [.ref (Ma 1), .int (Mv 0), .int (Mv 1), .ref (Ma 2), .ref (Ma 3), .ref (Ma 4), .ref (Ma 5), .ref (Ma 6), .int x_140, .int vy_34, .int vy_35, .int (Mv 5), .int vy_36, .int (Mv 7), .int (Mv 8), .ref (Ma 7), .int (Mv 9), .ref (Ma 8), .int (Mv 10), .ref (Ma 9), .ref (Ma 10), .int (Mv 11), .int (Mv 12), .int (Mv 13), .ref (Ma 11), .int (Mv 14), .ref (Ma 12), .ref (Ma 13), .ref (Ma 14), .ref (Ma 15), .ref (Ma 16), .long (Mj 0), .ref (Ma 17), .ref (Ma 18), .ref (Ma 19), .ref (Ma 20)])), ((Ma 1), .inl (tc 2, 400, .inl (Mf 1)))] := hD₀
            replace hS := hS₀
            clear hP₀ hD₀ hS₀
            have tp_x_140 : (x_140 : Int32).toInt = (sv_57 : Int32).toInt + 1 := by
              have z_1 : ¬ (r_13 : Int32).toInt = (0 : Int32).toInt := fun z => c_18 (Int32.toInt_inj.mp z)
              have z_2 := congrArg Int32.toInt c_65
              have z_3 := congrArg Int32.toInt c_68
              have y_0 : (0 : Int32).toInt = 0 := by decide
              have y_43 : (43 : Int32).toInt = 43 := by decide
              have y_1 : (1 : Int32).toInt = 1 := by decide
              have t_x_140 : x_140.toInt = (sv_57 : Int32).toInt + (1 : Int32).toInt := by rw [ex_140]; exact add_toInt (by omega) (by omega)
              omega
            refine lv_aload_n hx hb dX12_sum_57 rfl (lv_at hl 1 rfl) ?_
            have ha_141 : 0 ≤ (x_140 : Int32).toInt ∧ (x_140 : Int32).toInt ≤ ((Mv 0) : Int32).toInt ∧ ((Mv 0) : Int32).toInt ≤ 400 := by
              have z_1 : ¬ (r_13 : Int32).toInt = (0 : Int32).toInt := fun z => c_18 (Int32.toInt_inj.mp z)
              have z_2 := congrArg Int32.toInt c_65
              have z_3 := congrArg Int32.toInt c_68
              have y_0 : (0 : Int32).toInt = 0 := by decide
              have y_43 : (43 : Int32).toInt = 43 := by decide
              have y_1 : (1 : Int32).toInt = 1 := by decide
              have t_x_140 : x_140.toInt = (sv_57 : Int32).toInt + (1 : Int32).toInt := by rw [ex_140]; exact add_toInt (by omega) (by omega)
              omega
            have ha_142 : (vy_38 (Mv 5).toNatClampNeg).toInt ≤ (x_140 : Int32).toInt := by
              have z_1 : ¬ (r_13 : Int32).toInt = (0 : Int32).toInt := fun z => c_18 (Int32.toInt_inj.mp z)
              have z_2 := congrArg Int32.toInt c_65
              have z_3 := congrArg Int32.toInt c_68
              have y_0 : (0 : Int32).toInt = 0 := by decide
              have y_43 : (43 : Int32).toInt = 43 := by decide
              have y_1 : (1 : Int32).toInt = 1 := by decide
              have t_x_140 : x_140.toInt = (sv_57 : Int32).toInt + (1 : Int32).toInt := by rw [ex_140]; exact add_toInt (by omega) (by omega)
              omega
            have ha_143 : 0 ≤ (vy_36 : Int32).toInt ∧ (vy_36 : Int32).toInt ≤ 60 := by
              have z_1 : ¬ (r_13 : Int32).toInt = (0 : Int32).toInt := fun z => c_18 (Int32.toInt_inj.mp z)
              have z_2 := congrArg Int32.toInt c_65
              have z_3 := congrArg Int32.toInt c_68
              have y_0 : (0 : Int32).toInt = 0 := by decide
              have y_43 : (43 : Int32).toInt = 43 := by decide
              omega
            have ha_144 : (vy_34 : Int32).toInt = 0 := by
              have z_1 : ¬ (r_13 : Int32).toInt = (0 : Int32).toInt := fun z => c_18 (Int32.toInt_inj.mp z)
              have z_2 := congrArg Int32.toInt c_65
              have z_3 := congrArg Int32.toInt c_68
              have y_0 : (0 : Int32).toInt = 0 := by decide
              have y_43 : (43 : Int32).toInt = 43 := by decide
              omega
            refine cV (a := (Ma 0)) (As := []) (rest := []) (wr := []) ⟨hx, hb, hml, hown, hts⟩ hK hX hA (cu_kX12_term l D tc sk (Ma 0) (Ma 1) (Ma 2) (Ma 3) (Ma 4) (Ma 5) (Ma 6) (Ma 7) (Ma 8) (Ma 9) (Ma 10) (Ma 11) (Ma 12) (Ma 13) (Ma 14) (Ma 15) (Ma 16) (Ma 17) (Ma 18) (Ma 19) (Ma 20) (Mv 0) (Mv 1) x_140 vy_34 vy_35 (Mv 5) vy_36 (Mv 7) (Mv 8) (Mv 9) (Mv 10) (Mv 11) (Mv 12) (Mv 13) (Mv 14) (Mf 1) vy_37 vy_38 (Mj 0) b (d + 1) lo_53 ha_141 pf_46 ha_142 ha_143 h_bs ha_144 pf_51) k_1283 k_1280 k_1282 k_43 k_106 pl_X12_term ⟨Nat.le_of_ble_eq_true rfl, Nat.le_of_ble_eq_true rfl⟩ rfl rfl (va_recv hK hP (ci := 12) (q0 := 2) rfl rfl) hP hD hS [2, 3, 0, 1] [] rfl rfl rfl rfl rfl (by decide) rfl hl.1 rfl (Nat.le_of_ble_eq_true rfl) dX12_sum_58 ⟨Nat.le_of_ble_eq_true rfl, Nat.le_of_ble_eq_true rfl⟩ (fun v_145 u_146 H locs hv_147 hP₀ hD₀ hS₀ => ?_)
            obtain ⟨sv_148, sv_149, sv_150, sv_151, sv_152, sv_153⟩ := u_146
            obtain ⟨r_157, rfl, he_158, pf_154, pf_155, pf_156, hm_160, hm_161⟩ := hv_147
            have he_158 : ((r_157.toInt = 0 ∧ ¬ (sv_149 : Int32).toInt = 0) ∨ (r_157.toInt = 1 ∧ (vy_38 (Mv 5).toNatClampNeg).toInt + 1 ≤ (sv_153 (Mv 5).toNatClampNeg).toInt ∧ (sv_153 (Mv 5).toNatClampNeg).toInt + (x_140 : Int32).toInt ≤ (vy_38 (Mv 5).toNatClampNeg).toInt + (sv_148 : Int32).toInt ∧ (x_140 : Int32).toInt + 1 ≤ (sv_148 : Int32).toInt)) := he_158
            have pf_154 : (x_140 : Int32).toInt ≤ (sv_148 : Int32).toInt ∧ (sv_148 : Int32).toInt ≤ ((Mv 0) : Int32).toInt := pf_154
            have pf_155 : (vy_36 : Int32).toInt ≤ (sv_151 : Int32).toInt ∧ (sv_151 : Int32).toInt ≤ 60 := pf_155
            have pf_156 : Agr vy_37 sv_152 (400 * ((Mv 5) : Int32).toInt + (vy_38 (Mv 5).toNatClampNeg).toInt) := pf_156
            refine W.eq (g2 := F0 m 61 ls [.int r_157]) rfl ?_
            replace hP : va_P D classes [((Ma 0), .inr (12, [.ref (Ma 1), .int (Mv 0), .int (Mv 1), .ref (Ma 2), .ref (Ma 3), .ref (Ma 4), .ref (Ma 5), .ref (Ma 6), .int sv_148, .int sv_149, .int sv_150, .int (Mv 5), .int sv_151, .int (Mv 7), .int (Mv 8), .ref (Ma 7), .int (Mv 9), .ref (Ma 8), .int (Mv 10), .ref (Ma 9), .ref (Ma 10), .int (Mv 11), .int (Mv 12), .int (Mv 13), .ref (Ma 11), .int (Mv 14), .ref (Ma 12), .ref (Ma 13), .ref (Ma 14), .ref (Ma 15), .ref (Ma 16), .long (Mj 0), .ref (Ma 17), .ref (Ma 18), .ref (Ma 19), .ref (Ma 20)])), ((Ma 1), .inl (tc 2, 400, .inl (Mf 1))), ((Ma 2), .inl (tc 0, 2400, .inl sv_152)), ((Ma 3), .inl (tc 0, 7, .inl sv_153))] H := hP₀
            replace hD : va_D A [((Ma 0), .inr (12, [.ref (Ma 1), .int (Mv 0), .int (Mv 1), .ref (Ma 2), .ref (Ma 3), .ref (Ma 4), .ref (Ma 5), .ref (Ma 6), .int sv_148, .int sv_149, .int sv_150, .int (Mv 5), .int sv_151, .int (Mv 7), .int (Mv 8), .ref (Ma 7), .int (Mv 9), .ref (Ma 8), .int (Mv 10), .ref (Ma 9), .ref (Ma 10), .int (Mv 11), .int (Mv 12), .int (Mv 13), .ref (Ma 11), .int (Mv 14), .ref (Ma 12), .ref (Ma 13), .ref (Ma 14), .ref (Ma 15), .ref (Ma 16), .long (Mj 0), .ref (Ma 17), .ref (Ma 18), .ref (Ma 19), .ref (Ma 20)])), ((Ma 1), .inl (tc 2, 400, .inl (Mf 1))), ((Ma 2), .inl (tc 0, 2400, .inl sv_152)), ((Ma 3), .inl (tc 0, 7, .inl sv_153))] := hD₀
            replace hS := hS₀
            clear hP₀ hD₀ hS₀
            refine lv_if_ne (tgt := 66) hx hb dX12_sum_61 (by decide) (fun c_162 => ?_) (fun c_162 => ?_)
            · skip
              have hz_166 : (r_157 : Int32).toInt = 1 := by
                have z_1 : ¬ (r_13 : Int32).toInt = (0 : Int32).toInt := fun z => c_18 (Int32.toInt_inj.mp z)
                have z_2 := congrArg Int32.toInt c_65
                have z_3 := congrArg Int32.toInt c_68
                have z_4 : ¬ (r_157 : Int32).toInt = (0 : Int32).toInt := fun z => c_162 (Int32.toInt_inj.mp z)
                have y_0 : (0 : Int32).toInt = 0 := by decide
                have y_43 : (43 : Int32).toInt = 43 := by decide
                omega
              obtain ⟨pf_163, pf_164, pf_165⟩ := hm_160 hz_166
              have pf_163 : Cd sv_152 sv_153 (Mv 5) b sv_151 ((d + 1) + 1) := pf_163
              have ar_pf_163 := Cd.ar pf_163
              have pf_164 : TmO (pz_sum (rB (Mf 1) (Mv 0)) (St0 (rB (Mf 1) (Mv 0)) x_140 vy_36)) (rB (Mf 1) (Mv 0)) sv_149 sv_148 sv_151 := pf_164
              have ar_pf_164 := pf_164.1.1
              have pf_165 : TmC lo_53 (rB (Mf 1) (Mv 0)) (St0 (rB (Mf 1) (Mv 0)) x_140 vy_36) sv_152 sv_153 (Mv 5) sv_148 := pf_165
              obtain ⟨xq_167, pf_168, pf_169⟩ := id pf_165
              obtain ⟨lo_170, elo_170⟩ : ∃ z : List Int, z = (lo_53 ++ xq_167) := ⟨_, rfl⟩
              rw [← elo_170] at pf_168
              refine lv_aload_n hx hb dX12_sum_66 rfl (lv_at hl 1 rfl) ?_
              refine lv_iload_n hx hb dX12_sum_67 rfl (lv_at hl 0 rfl) ?_
              refine lv_iconst (v := 0) hx hb dX12_sum_68 (by decide) ?_
              have ha_171 : ((d + 1) : Int) ≤ sv_151.toInt := by
                have z_1 : ¬ (r_13 : Int32).toInt = (0 : Int32).toInt := fun z => c_18 (Int32.toInt_inj.mp z)
                have z_2 := congrArg Int32.toInt c_65
                have z_3 := congrArg Int32.toInt c_68
                have z_4 : ¬ (r_157 : Int32).toInt = (0 : Int32).toInt := fun z => c_162 (Int32.toInt_inj.mp z)
                have y_0 : (0 : Int32).toInt = 0 := by decide
                have y_43 : (43 : Int32).toInt = 43 := by decide
                omega
              have ha_172 : (sv_153 (Mv 5).toNatClampNeg).toInt < 400 := by
                have z_1 : ¬ (r_13 : Int32).toInt = (0 : Int32).toInt := fun z => c_18 (Int32.toInt_inj.mp z)
                have z_2 := congrArg Int32.toInt c_65
                have z_3 := congrArg Int32.toInt c_68
                have z_4 : ¬ (r_157 : Int32).toInt = (0 : Int32).toInt := fun z => c_162 (Int32.toInt_inj.mp z)
                have y_0 : (0 : Int32).toInt = 0 := by decide
                have y_43 : (43 : Int32).toInt = 43 := by decide
                omega
              have ha_173 : 0 ≤ (2 : Int32).toInt ∧ (2 : Int32).toInt ≤ 15 := by
                have z_1 : ¬ (r_13 : Int32).toInt = (0 : Int32).toInt := fun z => c_18 (Int32.toInt_inj.mp z)
                have z_2 := congrArg Int32.toInt c_65
                have z_3 := congrArg Int32.toInt c_68
                have z_4 : ¬ (r_157 : Int32).toInt = (0 : Int32).toInt := fun z => c_162 (Int32.toInt_inj.mp z)
                have y_0 : (0 : Int32).toInt = 0 := by decide
                have y_43 : (43 : Int32).toInt = 43 := by decide
                have y_2 : (2 : Int32).toInt = 2 := by decide
                omega
              have ha_174 : 0 ≤ (0 : Int32).toInt ∧ (0 : Int32).toInt ≤ 100000 := by
                have z_1 : ¬ (r_13 : Int32).toInt = (0 : Int32).toInt := fun z => c_18 (Int32.toInt_inj.mp z)
                have z_2 := congrArg Int32.toInt c_65
                have z_3 := congrArg Int32.toInt c_68
                have z_4 : ¬ (r_157 : Int32).toInt = (0 : Int32).toInt := fun z => c_162 (Int32.toInt_inj.mp z)
                have y_0 : (0 : Int32).toInt = 0 := by decide
                have y_43 : (43 : Int32).toInt = 43 := by decide
                omega
              have ha_175 : 0 ≤ (Mv 5).toInt := by
                have z_1 : ¬ (r_13 : Int32).toInt = (0 : Int32).toInt := fun z => c_18 (Int32.toInt_inj.mp z)
                have z_2 := congrArg Int32.toInt c_65
                have z_3 := congrArg Int32.toInt c_68
                have z_4 : ¬ (r_157 : Int32).toInt = (0 : Int32).toInt := fun z => c_162 (Int32.toInt_inj.mp z)
                have y_0 : (0 : Int32).toInt = 0 := by decide
                have y_43 : (43 : Int32).toInt = 43 := by decide
                omega
              refine cV (a := (Ma 0)) (As := [.int 2, .int 0]) (rest := []) (wr := [((Ma 1), .inl (tc 2, 400, .inl (Mf 1)))]) ⟨hx, hb, hml, hown, hts⟩ hK hX hA (cu_kX12_puts l D tc sk (Ma 0) (Ma 1) (Ma 2) (Ma 3) (Ma 4) (Ma 5) (Ma 6) (Ma 7) (Ma 8) (Ma 9) (Ma 10) (Ma 11) (Ma 12) (Ma 13) (Ma 14) (Ma 15) (Ma 16) (Ma 17) (Ma 18) (Ma 19) (Ma 20) (Mv 0) (Mv 1) sv_148 sv_149 sv_150 (Mv 5) sv_151 (Mv 7) (Mv 8) (Mv 9) (Mv 10) (Mv 11) (Mv 12) (Mv 13) (Mv 14) sv_152 sv_153 (Mj 0) 2 0 b sv_151 ((d + 1) + 1) (d + 1) lo_170 (-12) pf_163 (StpR.op (by decide) rfl (by omega)) ha_171 ha_172 pf_168 (by decide) ha_173 ha_174 ha_175) k_1296 k_1293 k_1295 k_46 k_106 pl_X12_puts ⟨Nat.le_of_ble_eq_true rfl, Nat.le_of_ble_eq_true rfl⟩ rfl rfl (va_recv hK hP (ci := 12) (q0 := 0) rfl rfl) hP hD hS [0, 2, 3] [1] rfl rfl rfl rfl rfl (by decide) rfl hl.1 rfl (Nat.le_of_ble_eq_true rfl) dX12_sum_69 ⟨Nat.le_of_ble_eq_true rfl, Nat.le_of_ble_eq_true rfl⟩ (fun v_176 u_177 H locs hv_178 hP₀ hD₀ hS₀ => ?_)
              obtain ⟨sv_179, sv_180⟩ := u_177
              obtain ⟨rfl, pf_181, pf_182, pf_183, pf_184⟩ := hv_178
              have pf_181 : Cd sv_179 sv_180 (Mv 5) b sv_151 (d + 1) := pf_181
              have ar_pf_181 := Cd.ar pf_181
              have pf_182 : Agr sv_152 sv_179 (400 * ((Mv 5) : Int32).toInt + (sv_153 (Mv 5).toNatClampNeg).toInt) := pf_182
              have pf_183 : (sv_180 (Mv 5).toNatClampNeg).toInt = (sv_153 (Mv 5).toNatClampNeg).toInt + 1 := pf_183
              have pf_184 : SgC sv_179 sv_180 (Mv 5) (lo_170 ++ [((-12) : Int)]) := pf_184
              obtain ⟨lo_185, elo_185⟩ : ∃ z : List Int, z = (lo_170 ++ [(-12)]) := ⟨_, rfl⟩
              rw [← elo_185] at pf_184
              refine W.eq (g2 := F0 m 72 ls []) rfl ?_
              replace hP : va_P D classes [((Ma 1), .inl (tc 2, 400, .inl (Mf 1))), ((Ma 0), .inr (12, [.ref (Ma 1), .int (Mv 0), .int (Mv 1), .ref (Ma 2), .ref (Ma 3), .ref (Ma 4), .ref (Ma 5), .ref (Ma 6), .int sv_148, .int sv_149, .int sv_150, .int (Mv 5), .int sv_151, .int (Mv 7), .int (Mv 8), .ref (Ma 7), .int (Mv 9), .ref (Ma 8), .int (Mv 10), .ref (Ma 9), .ref (Ma 10), .int (Mv 11), .int (Mv 12), .int (Mv 13), .ref (Ma 11), .int (Mv 14), .ref (Ma 12), .ref (Ma 13), .ref (Ma 14), .ref (Ma 15), .ref (Ma 16), .long (Mj 0), .ref (Ma 17), .ref (Ma 18), .ref (Ma 19), .ref (Ma 20)])), ((Ma 2), .inl (tc 0, 2400, .inl sv_179)), ((Ma 3), .inl (tc 0, 7, .inl sv_180))] H := hP₀
              replace hD : va_D A [((Ma 1), .inl (tc 2, 400, .inl (Mf 1))), ((Ma 0), .inr (12, [.ref (Ma 1), .int (Mv 0), .int (Mv 1), .ref (Ma 2), .ref (Ma 3), .ref (Ma 4), .ref (Ma 5), .ref (Ma 6), .int sv_148, .int sv_149, .int sv_150, .int (Mv 5), .int sv_151, .int (Mv 7), .int (Mv 8), .ref (Ma 7), .int (Mv 9), .ref (Ma 8), .int (Mv 10), .ref (Ma 9), .ref (Ma 10), .int (Mv 11), .int (Mv 12), .int (Mv 13), .ref (Ma 11), .int (Mv 14), .ref (Ma 12), .ref (Ma 13), .ref (Ma 14), .ref (Ma 15), .ref (Ma 16), .long (Mj 0), .ref (Ma 17), .ref (Ma 18), .ref (Ma 19), .ref (Ma 20)])), ((Ma 2), .inl (tc 0, 2400, .inl sv_179)), ((Ma 3), .inl (tc 0, 7, .inl sv_180))] := hD₀
              replace hS := hS₀
              clear hP₀ hD₀ hS₀
              refine lv_goto (tgt := 9) hx hb dX12_sum_72 (by decide) ?_
              have hb_186 : 400 - (sv_148 : Int32).toInt < 400 - (vy_33 : Int32).toInt ∧ 1 ≤ 400 - (vy_33 : Int32).toInt := by
                have z_1 : ¬ (r_13 : Int32).toInt = (0 : Int32).toInt := fun z => c_18 (Int32.toInt_inj.mp z)
                have z_2 := congrArg Int32.toInt c_65
                have z_3 := congrArg Int32.toInt c_68
                have z_4 : ¬ (r_157 : Int32).toInt = (0 : Int32).toInt := fun z => c_162 (Int32.toInt_inj.mp z)
                have y_0 : (0 : Int32).toInt = 0 := by decide
                have y_43 : (43 : Int32).toInt = 43 := by decide
                omega
              have ha_187 : 0 ≤ (sv_148 : Int32).toInt ∧ (sv_148 : Int32).toInt ≤ ((Mv 0) : Int32).toInt ∧ ((Mv 0) : Int32).toInt ≤ 400 := by
                have z_1 : ¬ (r_13 : Int32).toInt = (0 : Int32).toInt := fun z => c_18 (Int32.toInt_inj.mp z)
                have z_2 := congrArg Int32.toInt c_65
                have z_3 := congrArg Int32.toInt c_68
                have z_4 : ¬ (r_157 : Int32).toInt = (0 : Int32).toInt := fun z => c_162 (Int32.toInt_inj.mp z)
                have y_0 : (0 : Int32).toInt = 0 := by decide
                have y_43 : (43 : Int32).toInt = 43 := by decide
                omega
              have ha_188 : (Mv 6).toInt ≤ (sv_151 : Int32).toInt ∧ (sv_151 : Int32).toInt ≤ 60 := by
                have z_1 : ¬ (r_13 : Int32).toInt = (0 : Int32).toInt := fun z => c_18 (Int32.toInt_inj.mp z)
                have z_2 := congrArg Int32.toInt c_65
                have z_3 := congrArg Int32.toInt c_68
                have z_4 : ¬ (r_157 : Int32).toInt = (0 : Int32).toInt := fun z => c_162 (Int32.toInt_inj.mp z)
                have y_0 : (0 : Int32).toInt = 0 := by decide
                have y_43 : (43 : Int32).toInt = 43 := by decide
                omega
              have ha_189 : ((Mf 3) (Mv 5).toNatClampNeg).toInt + 1 ≤ (sv_180 (Mv 5).toNatClampNeg).toInt ∧ (sv_180 (Mv 5).toNatClampNeg).toInt + ((Mv 2) : Int32).toInt ≤ ((Mf 3) (Mv 5).toNatClampNeg).toInt + (sv_148 : Int32).toInt ∧ ((Mv 2) : Int32).toInt + 1 ≤ (sv_148 : Int32).toInt := by
                have z_1 : ¬ (r_13 : Int32).toInt = (0 : Int32).toInt := fun z => c_18 (Int32.toInt_inj.mp z)
                have z_2 := congrArg Int32.toInt c_65
                have z_3 := congrArg Int32.toInt c_68
                have z_4 : ¬ (r_157 : Int32).toInt = (0 : Int32).toInt := fun z => c_162 (Int32.toInt_inj.mp z)
                have y_0 : (0 : Int32).toInt = 0 := by decide
                have y_43 : (43 : Int32).toInt = 43 := by decide
                omega
              have hr_190 : (400 * ((Mv 5) : Int32).toInt + ((Mf 3) (Mv 5).toNatClampNeg).toInt) ≤ (400 * ((Mv 5) : Int32).toInt + ((Mf 3) (Mv 5).toNatClampNeg).toInt) := by
                have z_1 : ¬ (r_13 : Int32).toInt = (0 : Int32).toInt := fun z => c_18 (Int32.toInt_inj.mp z)
                have z_2 := congrArg Int32.toInt c_65
                have z_3 := congrArg Int32.toInt c_68
                have z_4 : ¬ (r_157 : Int32).toInt = (0 : Int32).toInt := fun z => c_162 (Int32.toInt_inj.mp z)
                have y_0 : (0 : Int32).toInt = 0 := by decide
                have y_43 : (43 : Int32).toInt = 43 := by decide
                omega
              have hr_191 : (400 * ((Mv 5) : Int32).toInt + ((Mf 3) (Mv 5).toNatClampNeg).toInt) ≤ (400 * ((Mv 5) : Int32).toInt + (vy_38 (Mv 5).toNatClampNeg).toInt) := by
                have z_1 : ¬ (r_13 : Int32).toInt = (0 : Int32).toInt := fun z => c_18 (Int32.toInt_inj.mp z)
                have z_2 := congrArg Int32.toInt c_65
                have z_3 := congrArg Int32.toInt c_68
                have z_4 : ¬ (r_157 : Int32).toInt = (0 : Int32).toInt := fun z => c_162 (Int32.toInt_inj.mp z)
                have y_0 : (0 : Int32).toInt = 0 := by decide
                have y_43 : (43 : Int32).toInt = 43 := by decide
                omega
              have hr_192 : (400 * ((Mv 5) : Int32).toInt + ((Mf 3) (Mv 5).toNatClampNeg).toInt) ≤ (400 * ((Mv 5) : Int32).toInt + (sv_153 (Mv 5).toNatClampNeg).toInt) := by
                have z_1 : ¬ (r_13 : Int32).toInt = (0 : Int32).toInt := fun z => c_18 (Int32.toInt_inj.mp z)
                have z_2 := congrArg Int32.toInt c_65
                have z_3 := congrArg Int32.toInt c_68
                have z_4 : ¬ (r_157 : Int32).toInt = (0 : Int32).toInt := fun z => c_162 (Int32.toInt_inj.mp z)
                have y_0 : (0 : Int32).toInt = 0 := by decide
                have y_43 : (43 : Int32).toInt = 43 := by decide
                omega
              have hr_193 : (rB (Mf 1) (Mv 0) (sv_57 : Int32).toInt.toNat = 43 ∨ rB (Mf 1) (Mv 0) (sv_57 : Int32).toInt.toNat = 45) := by
                have z_1 : ¬ (r_13 : Int32).toInt = (0 : Int32).toInt := fun z => c_18 (Int32.toInt_inj.mp z)
                have z_2 := congrArg Int32.toInt c_65
                have z_3 := congrArg Int32.toInt c_68
                have z_4 : ¬ (r_157 : Int32).toInt = (0 : Int32).toInt := fun z => c_162 (Int32.toInt_inj.mp z)
                have y_0 : (0 : Int32).toInt = 0 := by decide
                have y_43 : (43 : Int32).toInt = 43 := by decide
                omega
              have hi_194 : (x_140 : Int32).toInt = (sv_57 : Int32).toInt + 1 := by
                have z_1 : ¬ (r_13 : Int32).toInt = (0 : Int32).toInt := fun z => c_18 (Int32.toInt_inj.mp z)
                have z_2 := congrArg Int32.toInt c_65
                have z_3 := congrArg Int32.toInt c_68
                have z_4 : ¬ (r_157 : Int32).toInt = (0 : Int32).toInt := fun z => c_162 (Int32.toInt_inj.mp z)
                have y_0 : (0 : Int32).toInt = 0 := by decide
                have y_43 : (43 : Int32).toInt = 43 := by decide
                have y_1 : (1 : Int32).toInt = 1 := by decide
                have t_x_140 : x_140.toInt = (sv_57 : Int32).toInt + (1 : Int32).toInt := by rw [ex_140]; exact add_toInt (by omega) (by omega)
                omega
              have hr_195 : (rB (Mf 1) (Mv 0) (sv_57 : Int32).toInt.toNat = 43 ∨ rB (Mf 1) (Mv 0) (sv_57 : Int32).toInt.toNat = 45) := by
                have z_1 : ¬ (r_13 : Int32).toInt = (0 : Int32).toInt := fun z => c_18 (Int32.toInt_inj.mp z)
                have z_2 := congrArg Int32.toInt c_65
                have z_3 := congrArg Int32.toInt c_68
                have z_4 : ¬ (r_157 : Int32).toInt = (0 : Int32).toInt := fun z => c_162 (Int32.toInt_inj.mp z)
                have y_0 : (0 : Int32).toInt = 0 := by decide
                have y_43 : (43 : Int32).toInt = 43 := by decide
                omega
              have rg_196 := rB_rg (n := (Mv 0)) h_bs (sv_57 : Int32).toInt.toNat
              have hr_197 : rB (Mf 1) (Mv 0) (sv_57 : Int32).toInt.toNat = 43 := by
                have z_1 : ¬ (r_13 : Int32).toInt = (0 : Int32).toInt := fun z => c_18 (Int32.toInt_inj.mp z)
                have z_2 := congrArg Int32.toInt c_65
                have z_3 := congrArg Int32.toInt c_68
                have z_4 : ¬ (r_157 : Int32).toInt = (0 : Int32).toInt := fun z => c_162 (Int32.toInt_inj.mp z)
                have y_0 : (0 : Int32).toInt = 0 := by decide
                have y_43 : (43 : Int32).toInt = 43 := by decide
                omega
              have ho_198 : (-12 : Int) = ec_o (rB (Mf 1) (Mv 0) (sv_57 : Int32).toInt.toNat) := by rw [hr_197]; decide
              have hi_199 : (x_140 : Int32).toInt = (sv_57 : Int32).toInt + 1 := by
                have z_1 : ¬ (r_13 : Int32).toInt = (0 : Int32).toInt := fun z => c_18 (Int32.toInt_inj.mp z)
                have z_2 := congrArg Int32.toInt c_65
                have z_3 := congrArg Int32.toInt c_68
                have z_4 : ¬ (r_157 : Int32).toInt = (0 : Int32).toInt := fun z => c_162 (Int32.toInt_inj.mp z)
                have y_0 : (0 : Int32).toInt = 0 := by decide
                have y_43 : (43 : Int32).toInt = 43 := by decide
                have y_1 : (1 : Int32).toInt = 1 := by decide
                have t_x_140 : x_140.toInt = (sv_57 : Int32).toInt + (1 : Int32).toInt := by rw [ex_140]; exact add_toInt (by omega) (by omega)
                omega
              have hu_200 : SgC sv_179 sv_180 (Mv 5) (((ll ++ xq_50) ++ xq_167) ++ [(-12)]) := by
                rw [← elo_53, ← elo_170, ← elo_185]
                exact pf_184
              exact ih_40 sv_148 sv_149 sv_150 sv_151 sv_179 sv_180 _ _ _ (by omega) ha_187 ha_188 ha_189 (Agr.trans (k' := (400 * ((Mv 5) : Int32).toInt + ((Mf 3) (Mv 5).toNatClampNeg).toInt)) (Agr.trans (k' := (400 * ((Mv 5) : Int32).toInt + ((Mf 3) (Mv 5).toNatClampNeg).toInt)) (Agr.mono pf_45 hr_190) pf_156 ⟨Int.le_refl _, hr_191⟩) pf_182 ⟨Int.le_refl _, hr_192⟩) pf_181 (TmO.next (rB_fi h_nx.2.2) pf_47 pf_61 hr_193 hi_194 pf_164) (SmD.next (rB_fi h_nx.2.2) pf_52 pf_61 hr_195 ho_198 hi_199 pf_169 pf_164.2 hu_200) (hP.sub [1, 0, 2, 3] rfl) (hD.sub [1, 0, 2, 3] rfl rfl) hS (lv_sub hl [1] rfl)
            · skip
              have hz_202 : (r_157 : Int32).toInt = 0 := by
                have z_1 : ¬ (r_13 : Int32).toInt = (0 : Int32).toInt := fun z => c_18 (Int32.toInt_inj.mp z)
                have z_2 := congrArg Int32.toInt c_65
                have z_3 := congrArg Int32.toInt c_68
                have z_4 := congrArg Int32.toInt c_162
                have y_0 : (0 : Int32).toInt = 0 := by decide
                have y_43 : (43 : Int32).toInt = 43 := by decide
                omega
              obtain pf_201 := hm_161 hz_202
              have pf_201 : RfE (pz_sum (rB (Mf 1) (Mv 0)) (St0 (rB (Mf 1) (Mv 0)) x_140 vy_36)) sv_149 := pf_201
              refine lv_iconst (v := 0) hx hb dX12_sum_64 (by decide) ?_
              have ha_203 : ((Mv 2) : Int32).toInt ≤ (sv_148 : Int32).toInt ∧ (sv_148 : Int32).toInt ≤ ((Mv 0) : Int32).toInt := by
                have z_1 : ¬ (r_13 : Int32).toInt = (0 : Int32).toInt := fun z => c_18 (Int32.toInt_inj.mp z)
                have z_2 := congrArg Int32.toInt c_65
                have z_3 := congrArg Int32.toInt c_68
                have z_4 := congrArg Int32.toInt c_162
                have y_0 : (0 : Int32).toInt = 0 := by decide
                have y_43 : (43 : Int32).toInt = 43 := by decide
                omega
              have ha_204 : ((Mv 6) : Int32).toInt ≤ (sv_151 : Int32).toInt ∧ (sv_151 : Int32).toInt ≤ 60 := by
                have z_1 : ¬ (r_13 : Int32).toInt = (0 : Int32).toInt := fun z => c_18 (Int32.toInt_inj.mp z)
                have z_2 := congrArg Int32.toInt c_65
                have z_3 := congrArg Int32.toInt c_68
                have z_4 := congrArg Int32.toInt c_162
                have y_0 : (0 : Int32).toInt = 0 := by decide
                have y_43 : (43 : Int32).toInt = 43 := by decide
                omega
              have hr_205 : (400 * ((Mv 5) : Int32).toInt + ((Mf 3) (Mv 5).toNatClampNeg).toInt) ≤ (400 * ((Mv 5) : Int32).toInt + ((Mf 3) (Mv 5).toNatClampNeg).toInt) := by
                have z_1 : ¬ (r_13 : Int32).toInt = (0 : Int32).toInt := fun z => c_18 (Int32.toInt_inj.mp z)
                have z_2 := congrArg Int32.toInt c_65
                have z_3 := congrArg Int32.toInt c_68
                have z_4 := congrArg Int32.toInt c_162
                have y_0 : (0 : Int32).toInt = 0 := by decide
                have y_43 : (43 : Int32).toInt = 43 := by decide
                omega
              have hr_206 : (400 * ((Mv 5) : Int32).toInt + ((Mf 3) (Mv 5).toNatClampNeg).toInt) ≤ (400 * ((Mv 5) : Int32).toInt + (vy_38 (Mv 5).toNatClampNeg).toInt) := by
                have z_1 : ¬ (r_13 : Int32).toInt = (0 : Int32).toInt := fun z => c_18 (Int32.toInt_inj.mp z)
                have z_2 := congrArg Int32.toInt c_65
                have z_3 := congrArg Int32.toInt c_68
                have z_4 := congrArg Int32.toInt c_162
                have y_0 : (0 : Int32).toInt = 0 := by decide
                have y_43 : (43 : Int32).toInt = 43 := by decide
                omega
              have hp_207 : (((0 : Int32).toInt = 0 ∧ ¬ (sv_149 : Int32).toInt = 0) ∨ ((0 : Int32).toInt = 1 ∧ ((Mf 3) (Mv 5).toNatClampNeg).toInt + 1 ≤ (sv_153 (Mv 5).toNatClampNeg).toInt ∧ (sv_153 (Mv 5).toNatClampNeg).toInt + ((Mv 2) : Int32).toInt ≤ ((Mf 3) (Mv 5).toNatClampNeg).toInt + (sv_148 : Int32).toInt ∧ ((Mv 2) : Int32).toInt + 1 ≤ (sv_148 : Int32).toInt)) := by
                have z_1 : ¬ (r_13 : Int32).toInt = (0 : Int32).toInt := fun z => c_18 (Int32.toInt_inj.mp z)
                have z_2 := congrArg Int32.toInt c_65
                have z_3 := congrArg Int32.toInt c_68
                have z_4 := congrArg Int32.toInt c_162
                have y_0 : (0 : Int32).toInt = 0 := by decide
                have y_43 : (43 : Int32).toInt = 43 := by decide
                omega
              have hm_208 : (0 : Int32).toInt = 0 → (RfE (pz_sum (rB (Mf 1) (Mv 0)) (St0 (rB (Mf 1) (Mv 0)) (Mv 2) (Mv 6))) sv_149) := by
                intro h1r
                have hr_209 : (rB (Mf 1) (Mv 0) (sv_57 : Int32).toInt.toNat = 43 ∨ rB (Mf 1) (Mv 0) (sv_57 : Int32).toInt.toNat = 45) := by
                  have z_1 : ¬ (r_13 : Int32).toInt = (0 : Int32).toInt := fun z => c_18 (Int32.toInt_inj.mp z)
                  have z_2 := congrArg Int32.toInt c_65
                  have z_3 := congrArg Int32.toInt c_68
                  have z_4 := congrArg Int32.toInt c_162
                  have y_0 : (0 : Int32).toInt = 0 := by decide
                  have y_43 : (43 : Int32).toInt = 43 := by decide
                  omega
                have hi_210 : (x_140 : Int32).toInt = (sv_57 : Int32).toInt + 1 := by
                  have z_1 : ¬ (r_13 : Int32).toInt = (0 : Int32).toInt := fun z => c_18 (Int32.toInt_inj.mp z)
                  have z_2 := congrArg Int32.toInt c_65
                  have z_3 := congrArg Int32.toInt c_68
                  have z_4 := congrArg Int32.toInt c_162
                  have y_0 : (0 : Int32).toInt = 0 := by decide
                  have y_43 : (43 : Int32).toInt = 43 := by decide
                  have y_1 : (1 : Int32).toInt = 1 := by decide
                  have t_x_140 : x_140.toInt = (sv_57 : Int32).toInt + (1 : Int32).toInt := by rw [ex_140]; exact add_toInt (by omega) (by omega)
                  omega
                exact (TmO.er (rB_fi h_nx.2.2) pf_47 pf_61 hr_209 hi_210 pf_201)
              exact retI (v := 0) hx hb hr hlk (rfl) hP hD hS (sv_148, sv_149, sv_150, sv_151, sv_152, sv_153) ⟨_, rfl, hp_207, ha_203, ha_204, (Agr.trans (k' := (400 * ((Mv 5) : Int32).toInt + ((Mf 3) (Mv 5).toNatClampNeg).toInt)) (Agr.mono pf_45 hr_205) pf_156 ⟨Int.le_refl _, hr_206⟩), (fun h => absurd h (by decide)), hm_208⟩ [0, 1, 2, 3] rfl rfl dX12_sum_65 (Nat.le_of_ble_eq_true rfl) (Nat.le_of_ble_eq_true rfl) rfl
        · skip
          refine lv_aload_n hx hb dX12_sum_18 rfl (lv_at hl 0 rfl) ?_
          have ha_211 : 0 ≤ (sv_57 : Int32).toInt ∧ (sv_57 : Int32).toInt ≤ ((Mv 0) : Int32).toInt ∧ ((Mv 0) : Int32).toInt ≤ 400 := by
            have z_1 : ¬ (r_13 : Int32).toInt = (0 : Int32).toInt := fun z => c_18 (Int32.toInt_inj.mp z)
            have z_2 : ¬ (r_62 : Int32).toInt = (43 : Int32).toInt := fun z => c_65 (Int32.toInt_inj.mp z)
            have y_0 : (0 : Int32).toInt = 0 := by decide
            have y_43 : (43 : Int32).toInt = 43 := by decide
            omega
          refine cV (a := (Ma 0)) (As := []) (rest := []) (wr := [((Ma 2), .inl (tc 0, 2400, .inl vy_37)), ((Ma 3), .inl (tc 0, 7, .inl vy_38))]) ⟨hx, hb, hml, hown, hts⟩ hK hX hA (cu_fX12_see l D tc sk (Ma 0) (Ma 1) (Ma 2) (Ma 3) (Ma 4) (Ma 5) (Ma 6) (Ma 7) (Ma 8) (Ma 9) (Ma 10) (Ma 11) (Ma 12) (Ma 13) (Ma 14) (Ma 15) (Ma 16) (Ma 17) (Ma 18) (Ma 19) (Ma 20) (Mv 0) (Mv 1) sv_57 vy_34 vy_35 (Mv 5) vy_36 (Mv 7) (Mv 8) (Mv 9) (Mv 10) (Mv 11) (Mv 12) (Mv 13) (Mv 14) (Mf 1) (Mj 0) ha_211 h_bs) k_1211 k_1208 k_1210 k_27 k_106 pl_X12_see ⟨Nat.le_of_ble_eq_true rfl, Nat.le_of_ble_eq_true rfl⟩ rfl rfl (va_recv hK hP (ci := 12) (q0 := 2) rfl rfl) hP hD hS [2, 3] [0, 1] rfl rfl rfl rfl rfl (by decide) rfl hl.1 rfl (Nat.le_of_ble_eq_true rfl) dX12_sum_19 ⟨Nat.le_of_ble_eq_true rfl, Nat.le_of_ble_eq_true rfl⟩ (fun v_212 u_213 H locs hv_214 hP₀ hD₀ hS₀ => ?_)
          obtain ⟨sv_215, rfl⟩ : ∃ z, z = u_213 := ⟨_, rfl⟩
          obtain ⟨r_220, rfl, he_221, pf_216, pf_217, pf_218, pf_219⟩ := hv_214
          have he_221 : (r_220.toInt = rB (Mf 1) (Mv 0) (sv_215 : Int32).toInt.toNat ∧ (r_220.toInt = -1 ∨ (sv_215 : Int32).toInt < (Mv 0).toInt)) := he_221
          have pf_216 : (sv_57 : Int32).toInt ≤ (sv_215 : Int32).toInt ∧ (sv_215 : Int32).toInt ≤ ((Mv 0) : Int32).toInt := pf_216
          have pf_217 : NSq (Mf 1) (Mv 0) sv_215 := pf_217
          have pf_218 : Stl (Mf 1) (Mv 0) sv_57 sv_215 := pf_218
          have ar_pf_218 := Stl.or pf_218 pf_59
          have pf_219 : SkR (rB (Mf 1) (Mv 0)) sv_57 sv_215 := pf_219
          refine W.eq (g2 := F0 m 22 ls [.int r_220]) rfl ?_
          replace hP : va_P D classes [((Ma 2), .inl (tc 0, 2400, .inl vy_37)), ((Ma 3), .inl (tc 0, 7, .inl vy_38)), ((Ma 0), .inr (12, [.ref (Ma 1), .int (Mv 0), .int (Mv 1), .ref (Ma 2), .ref (Ma 3), .ref (Ma 4), .ref (Ma 5), .ref (Ma 6), .int sv_215, .int vy_34, .int vy_35, .int (Mv 5), .int vy_36, .int (Mv 7), .int (Mv 8), .ref (Ma 7), .int (Mv 9), .ref (Ma 8), .int (Mv 10), .ref (Ma 9), .ref (Ma 10), .int (Mv 11), .int (Mv 12), .int (Mv 13), .ref (Ma 11), .int (Mv 14), .ref (Ma 12), .ref (Ma 13), .ref (Ma 14), .ref (Ma 15), .ref (Ma 16), .long (Mj 0), .ref (Ma 17), .ref (Ma 18), .ref (Ma 19), .ref (Ma 20)])), ((Ma 1), .inl (tc 2, 400, .inl (Mf 1)))] H := hP₀
          replace hD : va_D A [((Ma 2), .inl (tc 0, 2400, .inl vy_37)), ((Ma 3), .inl (tc 0, 7, .inl vy_38)), ((Ma 0), .inr (12, [.ref (Ma 1), .int (Mv 0), .int (Mv 1), .ref (Ma 2), .ref (Ma 3), .ref (Ma 4), .ref (Ma 5), .ref (Ma 6), .int sv_215, .int vy_34, .int vy_35, .int (Mv 5), .int vy_36, .int (Mv 7), .int (Mv 8), .ref (Ma 7), .int (Mv 9), .ref (Ma 8), .int (Mv 10), .ref (Ma 9), .ref (Ma 10), .int (Mv 11), .int (Mv 12), .int (Mv 13), .ref (Ma 11), .int (Mv 14), .ref (Ma 12), .ref (Ma 13), .ref (Ma 14), .ref (Ma 15), .ref (Ma 16), .long (Mj 0), .ref (Ma 17), .ref (Ma 18), .ref (Ma 19), .ref (Ma 20)])), ((Ma 1), .inl (tc 2, 400, .inl (Mf 1)))] := hD₀
          replace hS := hS₀
          clear hP₀ hD₀ hS₀
          have hE_223 := SkR.eqB pf_61 pf_219
          refine lv_bipush (v := 45) hx hb dX12_sum_22 (by decide) ?_
          refine lv_icmp_ne (tgt := 75) hx hb dX12_sum_24 (by decide) (fun c_224 => ?_) (fun c_224 => ?_)
          · skip
            refine lv_iconst (v := 1) hx hb dX12_sum_75 (by decide) ?_
            have ha_225 : ((Mv 2) : Int32).toInt ≤ (sv_215 : Int32).toInt ∧ (sv_215 : Int32).toInt ≤ ((Mv 0) : Int32).toInt := by
              have z_1 : ¬ (r_13 : Int32).toInt = (0 : Int32).toInt := fun z => c_18 (Int32.toInt_inj.mp z)
              have z_2 : ¬ (r_62 : Int32).toInt = (43 : Int32).toInt := fun z => c_65 (Int32.toInt_inj.mp z)
              have z_3 : ¬ (r_220 : Int32).toInt = (45 : Int32).toInt := fun z => c_224 (Int32.toInt_inj.mp z)
              have y_0 : (0 : Int32).toInt = 0 := by decide
              have y_43 : (43 : Int32).toInt = 43 := by decide
              have y_45 : (45 : Int32).toInt = 45 := by decide
              omega
            have ha_226 : ((Mv 6) : Int32).toInt ≤ (vy_36 : Int32).toInt ∧ (vy_36 : Int32).toInt ≤ 60 := by
              have z_1 : ¬ (r_13 : Int32).toInt = (0 : Int32).toInt := fun z => c_18 (Int32.toInt_inj.mp z)
              have z_2 : ¬ (r_62 : Int32).toInt = (43 : Int32).toInt := fun z => c_65 (Int32.toInt_inj.mp z)
              have z_3 : ¬ (r_220 : Int32).toInt = (45 : Int32).toInt := fun z => c_224 (Int32.toInt_inj.mp z)
              have y_0 : (0 : Int32).toInt = 0 := by decide
              have y_43 : (43 : Int32).toInt = 43 := by decide
              have y_45 : (45 : Int32).toInt = 45 := by decide
              omega
            have hp_227 : (((1 : Int32).toInt = 0 ∧ ¬ (vy_34 : Int32).toInt = 0) ∨ ((1 : Int32).toInt = 1 ∧ ((Mf 3) (Mv 5).toNatClampNeg).toInt + 1 ≤ (vy_38 (Mv 5).toNatClampNeg).toInt ∧ (vy_38 (Mv 5).toNatClampNeg).toInt + ((Mv 2) : Int32).toInt ≤ ((Mf 3) (Mv 5).toNatClampNeg).toInt + (sv_215 : Int32).toInt ∧ ((Mv 2) : Int32).toInt + 1 ≤ (sv_215 : Int32).toInt)) := by
              have z_1 : ¬ (r_13 : Int32).toInt = (0 : Int32).toInt := fun z => c_18 (Int32.toInt_inj.mp z)
              have z_2 : ¬ (r_62 : Int32).toInt = (43 : Int32).toInt := fun z => c_65 (Int32.toInt_inj.mp z)
              have z_3 : ¬ (r_220 : Int32).toInt = (45 : Int32).toInt := fun z => c_224 (Int32.toInt_inj.mp z)
              have y_0 : (0 : Int32).toInt = 0 := by decide
              have y_43 : (43 : Int32).toInt = 43 := by decide
              have y_45 : (45 : Int32).toInt = 45 := by decide
              have y_1 : (1 : Int32).toInt = 1 := by decide
              have yr : (1 : Int32).toInt = 1 := by decide
              omega
            have hm_228 : (1 : Int32).toInt = 1 → (Cd vy_37 vy_38 (Mv 5) b vy_36 (d + 1)) ∧ (RfO (pz_sum (rB (Mf 1) (Mv 0)) (St0 (rB (Mf 1) (Mv 0)) (Mv 2) (Mv 6))) (rB (Mf 1) (Mv 0)) vy_34 sv_215 vy_36) ∧ (SgC vy_37 vy_38 (Mv 5) (ll ++ lsum (rB (Mf 1) (Mv 0)) (St0 (rB (Mf 1) (Mv 0)) (Mv 2) (Mv 6)))) := by
              intro h1r
              have hr_229 : ¬ (rB (Mf 1) (Mv 0) (sv_215 : Int32).toInt.toNat = 43 ∨ rB (Mf 1) (Mv 0) (sv_215 : Int32).toInt.toNat = 45) := by
                have z_1 : ¬ (r_13 : Int32).toInt = (0 : Int32).toInt := fun z => c_18 (Int32.toInt_inj.mp z)
                have z_2 : ¬ (r_62 : Int32).toInt = (43 : Int32).toInt := fun z => c_65 (Int32.toInt_inj.mp z)
                have z_3 : ¬ (r_220 : Int32).toInt = (45 : Int32).toInt := fun z => c_224 (Int32.toInt_inj.mp z)
                have y_0 : (0 : Int32).toInt = 0 := by decide
                have y_43 : (43 : Int32).toInt = 43 := by decide
                have y_45 : (45 : Int32).toInt = 45 := by decide
                omega
              have hr_230 : 0 ≤ (vy_36 : Int32).toInt := by
                have z_1 : ¬ (r_13 : Int32).toInt = (0 : Int32).toInt := fun z => c_18 (Int32.toInt_inj.mp z)
                have z_2 : ¬ (r_62 : Int32).toInt = (43 : Int32).toInt := fun z => c_65 (Int32.toInt_inj.mp z)
                have z_3 : ¬ (r_220 : Int32).toInt = (45 : Int32).toInt := fun z => c_224 (Int32.toInt_inj.mp z)
                have y_0 : (0 : Int32).toInt = 0 := by decide
                have y_43 : (43 : Int32).toInt = 43 := by decide
                have y_45 : (45 : Int32).toInt = 45 := by decide
                omega
              have hr_231 : ¬ (rB (Mf 1) (Mv 0) (sv_215 : Int32).toInt.toNat = 43 ∨ rB (Mf 1) (Mv 0) (sv_215 : Int32).toInt.toNat = 45) := by
                have z_1 : ¬ (r_13 : Int32).toInt = (0 : Int32).toInt := fun z => c_18 (Int32.toInt_inj.mp z)
                have z_2 : ¬ (r_62 : Int32).toInt = (43 : Int32).toInt := fun z => c_65 (Int32.toInt_inj.mp z)
                have z_3 : ¬ (r_220 : Int32).toInt = (45 : Int32).toInt := fun z => c_224 (Int32.toInt_inj.mp z)
                have y_0 : (0 : Int32).toInt = 0 := by decide
                have y_43 : (43 : Int32).toInt = 43 := by decide
                have y_45 : (45 : Int32).toInt = 45 := by decide
                omega
              exact ⟨pf_46, (TmO.fin pf_47 (SkR.trans pf_61 pf_219) hr_229 hr_230), (SmD.fin pf_48 (SkR.trans pf_61 pf_219) pf_47.2 hr_231)⟩
            exact retI (v := 1) hx hb hr hlk (rfl) hP hD hS (sv_215, vy_34, vy_35, vy_36, vy_37, vy_38) ⟨_, rfl, hp_227, ha_225, ha_226, pf_45, hm_228, (fun h => absurd h (by decide))⟩ [2, 3, 0, 1] rfl rfl dX12_sum_76 (Nat.le_of_ble_eq_true rfl) (Nat.le_of_ble_eq_true rfl) rfl
          · skip
            refine lv_aload_n hx hb dX12_sum_27 rfl (lv_at hl 0 rfl) ?_
            refine gf_X12_7 hx hb hts hown hK hP 2 rfl rfl dX12_sum_28 ?_
            refine lv_aload_n hx hb dX12_sum_31 rfl (lv_at hl 0 rfl) ?_
            refine gf_X12_87 hx hb hts hown hK hP 2 rfl rfl dX12_sum_32 ?_
            have hi_232 : vp_in sv_215 400 := by
              have z_1 : ¬ (r_13 : Int32).toInt = (0 : Int32).toInt := fun z => c_18 (Int32.toInt_inj.mp z)
              have z_2 : ¬ (r_62 : Int32).toInt = (43 : Int32).toInt := fun z => c_65 (Int32.toInt_inj.mp z)
              have z_3 := congrArg Int32.toInt c_224
              have y_0 : (0 : Int32).toInt = 0 := by decide
              have y_43 : (43 : Int32).toInt = 43 := by decide
              have y_45 : (45 : Int32).toInt = 45 := by decide
              refine vp_in_iff.mpr ⟨?_, ?_⟩ <;> omega
            refine va_bald hx hb hK hP 3 2 rfl rfl hi_232 dX12_sum_35 ?_
            refine lv_topi (fun x_233 ex_233 => ?_)
            have kx_233 : x_233.toInt = ((Mf 1) (sv_215 : Int32).toInt.toNat).toInt := congrArg Int32.toInt ex_233
            have kcx_233 : x_233.toInt = ((Mf 1) (sv_215 : Int32).toNatClampNeg).toInt := congrArg Int32.toInt ex_233
            refine lv_bipush (v := 43) hx hb dX12_sum_36 (by decide) ?_
            refine lv_icmp_ne (tgt := 45) hx hb dX12_sum_38 (by decide) (fun c_234 => ?_) (fun c_234 => ?_)
            · skip
              refine lv_iconst (v := 3) hx hb dX12_sum_45 (by decide) ?_
              refine lv_istore_n (lv' := [(1, .int 3), (0, .ref (Ma 0))]) hx hb dX12_sum_46 rfl hl (by decide) rfl (fun ls hl₀ => ?_)
              replace hl := hl₀
              clear hl₀
              refine lv_aload_n hx hb dX12_sum_47 rfl (lv_at hl 1 rfl) ?_
              refine lv_dup hx hb dX12_sum_48 rfl ?_
              refine gf_X12_87 hx hb hts hown hK hP 2 rfl rfl dX12_sum_49 ?_
              refine lv_iconst (v := 1) hx hb dX12_sum_52 (by decide) ?_
              refine lv_iadd hx hb dX12_sum_53 ?_
              refine lv_topi (fun x_235 ex_235 => ?_)
              refine pf_X12_87 hx hb hts hown hK hP hD hS 2 rfl (Nat.le_of_ble_eq_true rfl) rfl rfl dX12_sum_54 (fun H locs hP₀ hD₀ hS₀ => ?_)
              replace hP : va_P D classes [((Ma 2), .inl (tc 0, 2400, .inl vy_37)), ((Ma 3), .inl (tc 0, 7, .inl vy_38)), ((Ma 0), .inr (12, [.ref (Ma 1), .int (Mv 0), .int (Mv 1), .ref (Ma 2), .ref (Ma 3), .ref (Ma 4), .ref (Ma 5), .ref (Ma 6), .int x_235, .int vy_34, .int vy_35, .int (Mv 5), .int vy_36, .int (Mv 7), .int (Mv 8), .ref (Ma 7), .int (Mv 9), .ref (Ma 8), .int (Mv 10), .ref (Ma 9), .ref (Ma 10), .int (Mv 11), .int (Mv 12), .int (Mv 13), .ref (Ma 11), .int (Mv 14), .ref (Ma 12), .ref (Ma 13), .ref (Ma 14), .ref (Ma 15), .ref (Ma 16), .long (Mj 0), .ref (Ma 17), .ref (Ma 18), .ref (Ma 19), .ref (Ma 20)])), ((Ma 1), .inl (tc 2, 400, .inl (Mf 1)))] H := hP₀
              replace hD : va_D A [((Ma 2), .inl (tc 0, 2400, .inl vy_37)), ((Ma 3), .inl (tc 0, 7, .inl vy_38)), ((Ma 0), .inr (12, [.ref (Ma 1), .int (Mv 0), .int (Mv 1), .ref (Ma 2), .ref (Ma 3), .ref (Ma 4), .ref (Ma 5), .ref (Ma 6), .int x_235, .int vy_34, .int vy_35, .int (Mv 5), .int vy_36, .int (Mv 7), .int (Mv 8), .ref (Ma 7), .int (Mv 9), .ref (Ma 8), .int (Mv 10), .ref (Ma 9), .ref (Ma 10), .int (Mv 11), .int (Mv 12), .int (Mv 13), .ref (Ma 11), .int (Mv 14), .ref (Ma 12), .ref (Ma 13), .ref (Ma 14), .ref (Ma 15), .ref (Ma 16), .long (Mj 0), .ref (Ma 17), .ref (Ma 18), .ref (Ma 19), .ref (Ma 20)])), ((Ma 1), .inl (tc 2, 400, .inl (Mf 1)))] := hD₀
              replace hS := hS₀
              clear hP₀ hD₀ hS₀
              have tp_x_235 : (x_235 : Int32).toInt = (sv_215 : Int32).toInt + 1 := by
                have z_1 : ¬ (r_13 : Int32).toInt = (0 : Int32).toInt := fun z => c_18 (Int32.toInt_inj.mp z)
                have z_2 : ¬ (r_62 : Int32).toInt = (43 : Int32).toInt := fun z => c_65 (Int32.toInt_inj.mp z)
                have z_3 := congrArg Int32.toInt c_224
                have z_4 : ¬ (x_233 : Int32).toInt = (43 : Int32).toInt := fun z => c_234 (Int32.toInt_inj.mp z)
                have y_0 : (0 : Int32).toInt = 0 := by decide
                have y_43 : (43 : Int32).toInt = 43 := by decide
                have y_45 : (45 : Int32).toInt = 45 := by decide
                have y_1 : (1 : Int32).toInt = 1 := by decide
                have t_x_235 : x_235.toInt = (sv_215 : Int32).toInt + (1 : Int32).toInt := by rw [ex_235]; exact add_toInt (by omega) (by omega)
                omega
              refine lv_aload_n hx hb dX12_sum_57 rfl (lv_at hl 1 rfl) ?_
              have ha_236 : 0 ≤ (x_235 : Int32).toInt ∧ (x_235 : Int32).toInt ≤ ((Mv 0) : Int32).toInt ∧ ((Mv 0) : Int32).toInt ≤ 400 := by
                have z_1 : ¬ (r_13 : Int32).toInt = (0 : Int32).toInt := fun z => c_18 (Int32.toInt_inj.mp z)
                have z_2 : ¬ (r_62 : Int32).toInt = (43 : Int32).toInt := fun z => c_65 (Int32.toInt_inj.mp z)
                have z_3 := congrArg Int32.toInt c_224
                have z_4 : ¬ (x_233 : Int32).toInt = (43 : Int32).toInt := fun z => c_234 (Int32.toInt_inj.mp z)
                have y_0 : (0 : Int32).toInt = 0 := by decide
                have y_43 : (43 : Int32).toInt = 43 := by decide
                have y_45 : (45 : Int32).toInt = 45 := by decide
                have y_1 : (1 : Int32).toInt = 1 := by decide
                have t_x_235 : x_235.toInt = (sv_215 : Int32).toInt + (1 : Int32).toInt := by rw [ex_235]; exact add_toInt (by omega) (by omega)
                omega
              have ha_237 : (vy_38 (Mv 5).toNatClampNeg).toInt ≤ (x_235 : Int32).toInt := by
                have z_1 : ¬ (r_13 : Int32).toInt = (0 : Int32).toInt := fun z => c_18 (Int32.toInt_inj.mp z)
                have z_2 : ¬ (r_62 : Int32).toInt = (43 : Int32).toInt := fun z => c_65 (Int32.toInt_inj.mp z)
                have z_3 := congrArg Int32.toInt c_224
                have z_4 : ¬ (x_233 : Int32).toInt = (43 : Int32).toInt := fun z => c_234 (Int32.toInt_inj.mp z)
                have y_0 : (0 : Int32).toInt = 0 := by decide
                have y_43 : (43 : Int32).toInt = 43 := by decide
                have y_45 : (45 : Int32).toInt = 45 := by decide
                have y_1 : (1 : Int32).toInt = 1 := by decide
                have t_x_235 : x_235.toInt = (sv_215 : Int32).toInt + (1 : Int32).toInt := by rw [ex_235]; exact add_toInt (by omega) (by omega)
                omega
              have ha_238 : 0 ≤ (vy_36 : Int32).toInt ∧ (vy_36 : Int32).toInt ≤ 60 := by
                have z_1 : ¬ (r_13 : Int32).toInt = (0 : Int32).toInt := fun z => c_18 (Int32.toInt_inj.mp z)
                have z_2 : ¬ (r_62 : Int32).toInt = (43 : Int32).toInt := fun z => c_65 (Int32.toInt_inj.mp z)
                have z_3 := congrArg Int32.toInt c_224
                have z_4 : ¬ (x_233 : Int32).toInt = (43 : Int32).toInt := fun z => c_234 (Int32.toInt_inj.mp z)
                have y_0 : (0 : Int32).toInt = 0 := by decide
                have y_43 : (43 : Int32).toInt = 43 := by decide
                have y_45 : (45 : Int32).toInt = 45 := by decide
                omega
              have ha_239 : (vy_34 : Int32).toInt = 0 := by
                have z_1 : ¬ (r_13 : Int32).toInt = (0 : Int32).toInt := fun z => c_18 (Int32.toInt_inj.mp z)
                have z_2 : ¬ (r_62 : Int32).toInt = (43 : Int32).toInt := fun z => c_65 (Int32.toInt_inj.mp z)
                have z_3 := congrArg Int32.toInt c_224
                have z_4 : ¬ (x_233 : Int32).toInt = (43 : Int32).toInt := fun z => c_234 (Int32.toInt_inj.mp z)
                have y_0 : (0 : Int32).toInt = 0 := by decide
                have y_43 : (43 : Int32).toInt = 43 := by decide
                have y_45 : (45 : Int32).toInt = 45 := by decide
                omega
              refine cV (a := (Ma 0)) (As := []) (rest := []) (wr := []) ⟨hx, hb, hml, hown, hts⟩ hK hX hA (cu_kX12_term l D tc sk (Ma 0) (Ma 1) (Ma 2) (Ma 3) (Ma 4) (Ma 5) (Ma 6) (Ma 7) (Ma 8) (Ma 9) (Ma 10) (Ma 11) (Ma 12) (Ma 13) (Ma 14) (Ma 15) (Ma 16) (Ma 17) (Ma 18) (Ma 19) (Ma 20) (Mv 0) (Mv 1) x_235 vy_34 vy_35 (Mv 5) vy_36 (Mv 7) (Mv 8) (Mv 9) (Mv 10) (Mv 11) (Mv 12) (Mv 13) (Mv 14) (Mf 1) vy_37 vy_38 (Mj 0) b (d + 1) lo_53 ha_236 pf_46 ha_237 ha_238 h_bs ha_239 pf_51) k_1283 k_1280 k_1282 k_43 k_106 pl_X12_term ⟨Nat.le_of_ble_eq_true rfl, Nat.le_of_ble_eq_true rfl⟩ rfl rfl (va_recv hK hP (ci := 12) (q0 := 2) rfl rfl) hP hD hS [2, 3, 0, 1] [] rfl rfl rfl rfl rfl (by decide) rfl hl.1 rfl (Nat.le_of_ble_eq_true rfl) dX12_sum_58 ⟨Nat.le_of_ble_eq_true rfl, Nat.le_of_ble_eq_true rfl⟩ (fun v_240 u_241 H locs hv_242 hP₀ hD₀ hS₀ => ?_)
              obtain ⟨sv_243, sv_244, sv_245, sv_246, sv_247, sv_248⟩ := u_241
              obtain ⟨r_252, rfl, he_253, pf_249, pf_250, pf_251, hm_255, hm_256⟩ := hv_242
              have he_253 : ((r_252.toInt = 0 ∧ ¬ (sv_244 : Int32).toInt = 0) ∨ (r_252.toInt = 1 ∧ (vy_38 (Mv 5).toNatClampNeg).toInt + 1 ≤ (sv_248 (Mv 5).toNatClampNeg).toInt ∧ (sv_248 (Mv 5).toNatClampNeg).toInt + (x_235 : Int32).toInt ≤ (vy_38 (Mv 5).toNatClampNeg).toInt + (sv_243 : Int32).toInt ∧ (x_235 : Int32).toInt + 1 ≤ (sv_243 : Int32).toInt)) := he_253
              have pf_249 : (x_235 : Int32).toInt ≤ (sv_243 : Int32).toInt ∧ (sv_243 : Int32).toInt ≤ ((Mv 0) : Int32).toInt := pf_249
              have pf_250 : (vy_36 : Int32).toInt ≤ (sv_246 : Int32).toInt ∧ (sv_246 : Int32).toInt ≤ 60 := pf_250
              have pf_251 : Agr vy_37 sv_247 (400 * ((Mv 5) : Int32).toInt + (vy_38 (Mv 5).toNatClampNeg).toInt) := pf_251
              refine W.eq (g2 := F0 m 61 ls [.int r_252]) rfl ?_
              replace hP : va_P D classes [((Ma 0), .inr (12, [.ref (Ma 1), .int (Mv 0), .int (Mv 1), .ref (Ma 2), .ref (Ma 3), .ref (Ma 4), .ref (Ma 5), .ref (Ma 6), .int sv_243, .int sv_244, .int sv_245, .int (Mv 5), .int sv_246, .int (Mv 7), .int (Mv 8), .ref (Ma 7), .int (Mv 9), .ref (Ma 8), .int (Mv 10), .ref (Ma 9), .ref (Ma 10), .int (Mv 11), .int (Mv 12), .int (Mv 13), .ref (Ma 11), .int (Mv 14), .ref (Ma 12), .ref (Ma 13), .ref (Ma 14), .ref (Ma 15), .ref (Ma 16), .long (Mj 0), .ref (Ma 17), .ref (Ma 18), .ref (Ma 19), .ref (Ma 20)])), ((Ma 1), .inl (tc 2, 400, .inl (Mf 1))), ((Ma 2), .inl (tc 0, 2400, .inl sv_247)), ((Ma 3), .inl (tc 0, 7, .inl sv_248))] H := hP₀
              replace hD : va_D A [((Ma 0), .inr (12, [.ref (Ma 1), .int (Mv 0), .int (Mv 1), .ref (Ma 2), .ref (Ma 3), .ref (Ma 4), .ref (Ma 5), .ref (Ma 6), .int sv_243, .int sv_244, .int sv_245, .int (Mv 5), .int sv_246, .int (Mv 7), .int (Mv 8), .ref (Ma 7), .int (Mv 9), .ref (Ma 8), .int (Mv 10), .ref (Ma 9), .ref (Ma 10), .int (Mv 11), .int (Mv 12), .int (Mv 13), .ref (Ma 11), .int (Mv 14), .ref (Ma 12), .ref (Ma 13), .ref (Ma 14), .ref (Ma 15), .ref (Ma 16), .long (Mj 0), .ref (Ma 17), .ref (Ma 18), .ref (Ma 19), .ref (Ma 20)])), ((Ma 1), .inl (tc 2, 400, .inl (Mf 1))), ((Ma 2), .inl (tc 0, 2400, .inl sv_247)), ((Ma 3), .inl (tc 0, 7, .inl sv_248))] := hD₀
              replace hS := hS₀
              clear hP₀ hD₀ hS₀
              refine lv_if_ne (tgt := 66) hx hb dX12_sum_61 (by decide) (fun c_257 => ?_) (fun c_257 => ?_)
              · skip
                have hz_261 : (r_252 : Int32).toInt = 1 := by
                  have z_1 : ¬ (r_13 : Int32).toInt = (0 : Int32).toInt := fun z => c_18 (Int32.toInt_inj.mp z)
                  have z_2 : ¬ (r_62 : Int32).toInt = (43 : Int32).toInt := fun z => c_65 (Int32.toInt_inj.mp z)
                  have z_3 := congrArg Int32.toInt c_224
                  have z_4 : ¬ (x_233 : Int32).toInt = (43 : Int32).toInt := fun z => c_234 (Int32.toInt_inj.mp z)
                  have z_5 : ¬ (r_252 : Int32).toInt = (0 : Int32).toInt := fun z => c_257 (Int32.toInt_inj.mp z)
                  have y_0 : (0 : Int32).toInt = 0 := by decide
                  have y_43 : (43 : Int32).toInt = 43 := by decide
                  have y_45 : (45 : Int32).toInt = 45 := by decide
                  omega
                obtain ⟨pf_258, pf_259, pf_260⟩ := hm_255 hz_261
                have pf_258 : Cd sv_247 sv_248 (Mv 5) b sv_246 ((d + 1) + 1) := pf_258
                have ar_pf_258 := Cd.ar pf_258
                have pf_259 : TmO (pz_sum (rB (Mf 1) (Mv 0)) (St0 (rB (Mf 1) (Mv 0)) x_235 vy_36)) (rB (Mf 1) (Mv 0)) sv_244 sv_243 sv_246 := pf_259
                have ar_pf_259 := pf_259.1.1
                have pf_260 : TmC lo_53 (rB (Mf 1) (Mv 0)) (St0 (rB (Mf 1) (Mv 0)) x_235 vy_36) sv_247 sv_248 (Mv 5) sv_243 := pf_260
                obtain ⟨xq_262, pf_263, pf_264⟩ := id pf_260
                obtain ⟨lo_265, elo_265⟩ : ∃ z : List Int, z = (lo_53 ++ xq_262) := ⟨_, rfl⟩
                rw [← elo_265] at pf_263
                refine lv_aload_n hx hb dX12_sum_66 rfl (lv_at hl 1 rfl) ?_
                refine lv_iload_n hx hb dX12_sum_67 rfl (lv_at hl 0 rfl) ?_
                refine lv_iconst (v := 0) hx hb dX12_sum_68 (by decide) ?_
                have ha_266 : ((d + 1) : Int) ≤ sv_246.toInt := by
                  have z_1 : ¬ (r_13 : Int32).toInt = (0 : Int32).toInt := fun z => c_18 (Int32.toInt_inj.mp z)
                  have z_2 : ¬ (r_62 : Int32).toInt = (43 : Int32).toInt := fun z => c_65 (Int32.toInt_inj.mp z)
                  have z_3 := congrArg Int32.toInt c_224
                  have z_4 : ¬ (x_233 : Int32).toInt = (43 : Int32).toInt := fun z => c_234 (Int32.toInt_inj.mp z)
                  have z_5 : ¬ (r_252 : Int32).toInt = (0 : Int32).toInt := fun z => c_257 (Int32.toInt_inj.mp z)
                  have y_0 : (0 : Int32).toInt = 0 := by decide
                  have y_43 : (43 : Int32).toInt = 43 := by decide
                  have y_45 : (45 : Int32).toInt = 45 := by decide
                  omega
                have ha_267 : (sv_248 (Mv 5).toNatClampNeg).toInt < 400 := by
                  have z_1 : ¬ (r_13 : Int32).toInt = (0 : Int32).toInt := fun z => c_18 (Int32.toInt_inj.mp z)
                  have z_2 : ¬ (r_62 : Int32).toInt = (43 : Int32).toInt := fun z => c_65 (Int32.toInt_inj.mp z)
                  have z_3 := congrArg Int32.toInt c_224
                  have z_4 : ¬ (x_233 : Int32).toInt = (43 : Int32).toInt := fun z => c_234 (Int32.toInt_inj.mp z)
                  have z_5 : ¬ (r_252 : Int32).toInt = (0 : Int32).toInt := fun z => c_257 (Int32.toInt_inj.mp z)
                  have y_0 : (0 : Int32).toInt = 0 := by decide
                  have y_43 : (43 : Int32).toInt = 43 := by decide
                  have y_45 : (45 : Int32).toInt = 45 := by decide
                  omega
                have ha_268 : 0 ≤ (3 : Int32).toInt ∧ (3 : Int32).toInt ≤ 15 := by
                  have z_1 : ¬ (r_13 : Int32).toInt = (0 : Int32).toInt := fun z => c_18 (Int32.toInt_inj.mp z)
                  have z_2 : ¬ (r_62 : Int32).toInt = (43 : Int32).toInt := fun z => c_65 (Int32.toInt_inj.mp z)
                  have z_3 := congrArg Int32.toInt c_224
                  have z_4 : ¬ (x_233 : Int32).toInt = (43 : Int32).toInt := fun z => c_234 (Int32.toInt_inj.mp z)
                  have z_5 : ¬ (r_252 : Int32).toInt = (0 : Int32).toInt := fun z => c_257 (Int32.toInt_inj.mp z)
                  have y_0 : (0 : Int32).toInt = 0 := by decide
                  have y_43 : (43 : Int32).toInt = 43 := by decide
                  have y_45 : (45 : Int32).toInt = 45 := by decide
                  have y_3 : (3 : Int32).toInt = 3 := by decide
                  omega
                have ha_269 : 0 ≤ (0 : Int32).toInt ∧ (0 : Int32).toInt ≤ 100000 := by
                  have z_1 : ¬ (r_13 : Int32).toInt = (0 : Int32).toInt := fun z => c_18 (Int32.toInt_inj.mp z)
                  have z_2 : ¬ (r_62 : Int32).toInt = (43 : Int32).toInt := fun z => c_65 (Int32.toInt_inj.mp z)
                  have z_3 := congrArg Int32.toInt c_224
                  have z_4 : ¬ (x_233 : Int32).toInt = (43 : Int32).toInt := fun z => c_234 (Int32.toInt_inj.mp z)
                  have z_5 : ¬ (r_252 : Int32).toInt = (0 : Int32).toInt := fun z => c_257 (Int32.toInt_inj.mp z)
                  have y_0 : (0 : Int32).toInt = 0 := by decide
                  have y_43 : (43 : Int32).toInt = 43 := by decide
                  have y_45 : (45 : Int32).toInt = 45 := by decide
                  omega
                have ha_270 : 0 ≤ (Mv 5).toInt := by
                  have z_1 : ¬ (r_13 : Int32).toInt = (0 : Int32).toInt := fun z => c_18 (Int32.toInt_inj.mp z)
                  have z_2 : ¬ (r_62 : Int32).toInt = (43 : Int32).toInt := fun z => c_65 (Int32.toInt_inj.mp z)
                  have z_3 := congrArg Int32.toInt c_224
                  have z_4 : ¬ (x_233 : Int32).toInt = (43 : Int32).toInt := fun z => c_234 (Int32.toInt_inj.mp z)
                  have z_5 : ¬ (r_252 : Int32).toInt = (0 : Int32).toInt := fun z => c_257 (Int32.toInt_inj.mp z)
                  have y_0 : (0 : Int32).toInt = 0 := by decide
                  have y_43 : (43 : Int32).toInt = 43 := by decide
                  have y_45 : (45 : Int32).toInt = 45 := by decide
                  omega
                refine cV (a := (Ma 0)) (As := [.int 3, .int 0]) (rest := []) (wr := [((Ma 1), .inl (tc 2, 400, .inl (Mf 1)))]) ⟨hx, hb, hml, hown, hts⟩ hK hX hA (cu_kX12_puts l D tc sk (Ma 0) (Ma 1) (Ma 2) (Ma 3) (Ma 4) (Ma 5) (Ma 6) (Ma 7) (Ma 8) (Ma 9) (Ma 10) (Ma 11) (Ma 12) (Ma 13) (Ma 14) (Ma 15) (Ma 16) (Ma 17) (Ma 18) (Ma 19) (Ma 20) (Mv 0) (Mv 1) sv_243 sv_244 sv_245 (Mv 5) sv_246 (Mv 7) (Mv 8) (Mv 9) (Mv 10) (Mv 11) (Mv 12) (Mv 13) (Mv 14) sv_247 sv_248 (Mj 0) 3 0 b sv_246 ((d + 1) + 1) (d + 1) lo_265 (-13) pf_258 (StpR.op (by decide) rfl (by omega)) ha_266 ha_267 pf_263 (by decide) ha_268 ha_269 ha_270) k_1296 k_1293 k_1295 k_46 k_106 pl_X12_puts ⟨Nat.le_of_ble_eq_true rfl, Nat.le_of_ble_eq_true rfl⟩ rfl rfl (va_recv hK hP (ci := 12) (q0 := 0) rfl rfl) hP hD hS [0, 2, 3] [1] rfl rfl rfl rfl rfl (by decide) rfl hl.1 rfl (Nat.le_of_ble_eq_true rfl) dX12_sum_69 ⟨Nat.le_of_ble_eq_true rfl, Nat.le_of_ble_eq_true rfl⟩ (fun v_271 u_272 H locs hv_273 hP₀ hD₀ hS₀ => ?_)
                obtain ⟨sv_274, sv_275⟩ := u_272
                obtain ⟨rfl, pf_276, pf_277, pf_278, pf_279⟩ := hv_273
                have pf_276 : Cd sv_274 sv_275 (Mv 5) b sv_246 (d + 1) := pf_276
                have ar_pf_276 := Cd.ar pf_276
                have pf_277 : Agr sv_247 sv_274 (400 * ((Mv 5) : Int32).toInt + (sv_248 (Mv 5).toNatClampNeg).toInt) := pf_277
                have pf_278 : (sv_275 (Mv 5).toNatClampNeg).toInt = (sv_248 (Mv 5).toNatClampNeg).toInt + 1 := pf_278
                have pf_279 : SgC sv_274 sv_275 (Mv 5) (lo_265 ++ [((-13) : Int)]) := pf_279
                obtain ⟨lo_280, elo_280⟩ : ∃ z : List Int, z = (lo_265 ++ [(-13)]) := ⟨_, rfl⟩
                rw [← elo_280] at pf_279
                refine W.eq (g2 := F0 m 72 ls []) rfl ?_
                replace hP : va_P D classes [((Ma 1), .inl (tc 2, 400, .inl (Mf 1))), ((Ma 0), .inr (12, [.ref (Ma 1), .int (Mv 0), .int (Mv 1), .ref (Ma 2), .ref (Ma 3), .ref (Ma 4), .ref (Ma 5), .ref (Ma 6), .int sv_243, .int sv_244, .int sv_245, .int (Mv 5), .int sv_246, .int (Mv 7), .int (Mv 8), .ref (Ma 7), .int (Mv 9), .ref (Ma 8), .int (Mv 10), .ref (Ma 9), .ref (Ma 10), .int (Mv 11), .int (Mv 12), .int (Mv 13), .ref (Ma 11), .int (Mv 14), .ref (Ma 12), .ref (Ma 13), .ref (Ma 14), .ref (Ma 15), .ref (Ma 16), .long (Mj 0), .ref (Ma 17), .ref (Ma 18), .ref (Ma 19), .ref (Ma 20)])), ((Ma 2), .inl (tc 0, 2400, .inl sv_274)), ((Ma 3), .inl (tc 0, 7, .inl sv_275))] H := hP₀
                replace hD : va_D A [((Ma 1), .inl (tc 2, 400, .inl (Mf 1))), ((Ma 0), .inr (12, [.ref (Ma 1), .int (Mv 0), .int (Mv 1), .ref (Ma 2), .ref (Ma 3), .ref (Ma 4), .ref (Ma 5), .ref (Ma 6), .int sv_243, .int sv_244, .int sv_245, .int (Mv 5), .int sv_246, .int (Mv 7), .int (Mv 8), .ref (Ma 7), .int (Mv 9), .ref (Ma 8), .int (Mv 10), .ref (Ma 9), .ref (Ma 10), .int (Mv 11), .int (Mv 12), .int (Mv 13), .ref (Ma 11), .int (Mv 14), .ref (Ma 12), .ref (Ma 13), .ref (Ma 14), .ref (Ma 15), .ref (Ma 16), .long (Mj 0), .ref (Ma 17), .ref (Ma 18), .ref (Ma 19), .ref (Ma 20)])), ((Ma 2), .inl (tc 0, 2400, .inl sv_274)), ((Ma 3), .inl (tc 0, 7, .inl sv_275))] := hD₀
                replace hS := hS₀
                clear hP₀ hD₀ hS₀
                refine lv_goto (tgt := 9) hx hb dX12_sum_72 (by decide) ?_
                have hb_281 : 400 - (sv_243 : Int32).toInt < 400 - (vy_33 : Int32).toInt ∧ 1 ≤ 400 - (vy_33 : Int32).toInt := by
                  have z_1 : ¬ (r_13 : Int32).toInt = (0 : Int32).toInt := fun z => c_18 (Int32.toInt_inj.mp z)
                  have z_2 : ¬ (r_62 : Int32).toInt = (43 : Int32).toInt := fun z => c_65 (Int32.toInt_inj.mp z)
                  have z_3 := congrArg Int32.toInt c_224
                  have z_4 : ¬ (x_233 : Int32).toInt = (43 : Int32).toInt := fun z => c_234 (Int32.toInt_inj.mp z)
                  have z_5 : ¬ (r_252 : Int32).toInt = (0 : Int32).toInt := fun z => c_257 (Int32.toInt_inj.mp z)
                  have y_0 : (0 : Int32).toInt = 0 := by decide
                  have y_43 : (43 : Int32).toInt = 43 := by decide
                  have y_45 : (45 : Int32).toInt = 45 := by decide
                  omega
                have ha_282 : 0 ≤ (sv_243 : Int32).toInt ∧ (sv_243 : Int32).toInt ≤ ((Mv 0) : Int32).toInt ∧ ((Mv 0) : Int32).toInt ≤ 400 := by
                  have z_1 : ¬ (r_13 : Int32).toInt = (0 : Int32).toInt := fun z => c_18 (Int32.toInt_inj.mp z)
                  have z_2 : ¬ (r_62 : Int32).toInt = (43 : Int32).toInt := fun z => c_65 (Int32.toInt_inj.mp z)
                  have z_3 := congrArg Int32.toInt c_224
                  have z_4 : ¬ (x_233 : Int32).toInt = (43 : Int32).toInt := fun z => c_234 (Int32.toInt_inj.mp z)
                  have z_5 : ¬ (r_252 : Int32).toInt = (0 : Int32).toInt := fun z => c_257 (Int32.toInt_inj.mp z)
                  have y_0 : (0 : Int32).toInt = 0 := by decide
                  have y_43 : (43 : Int32).toInt = 43 := by decide
                  have y_45 : (45 : Int32).toInt = 45 := by decide
                  omega
                have ha_283 : (Mv 6).toInt ≤ (sv_246 : Int32).toInt ∧ (sv_246 : Int32).toInt ≤ 60 := by
                  have z_1 : ¬ (r_13 : Int32).toInt = (0 : Int32).toInt := fun z => c_18 (Int32.toInt_inj.mp z)
                  have z_2 : ¬ (r_62 : Int32).toInt = (43 : Int32).toInt := fun z => c_65 (Int32.toInt_inj.mp z)
                  have z_3 := congrArg Int32.toInt c_224
                  have z_4 : ¬ (x_233 : Int32).toInt = (43 : Int32).toInt := fun z => c_234 (Int32.toInt_inj.mp z)
                  have z_5 : ¬ (r_252 : Int32).toInt = (0 : Int32).toInt := fun z => c_257 (Int32.toInt_inj.mp z)
                  have y_0 : (0 : Int32).toInt = 0 := by decide
                  have y_43 : (43 : Int32).toInt = 43 := by decide
                  have y_45 : (45 : Int32).toInt = 45 := by decide
                  omega
                have ha_284 : ((Mf 3) (Mv 5).toNatClampNeg).toInt + 1 ≤ (sv_275 (Mv 5).toNatClampNeg).toInt ∧ (sv_275 (Mv 5).toNatClampNeg).toInt + ((Mv 2) : Int32).toInt ≤ ((Mf 3) (Mv 5).toNatClampNeg).toInt + (sv_243 : Int32).toInt ∧ ((Mv 2) : Int32).toInt + 1 ≤ (sv_243 : Int32).toInt := by
                  have z_1 : ¬ (r_13 : Int32).toInt = (0 : Int32).toInt := fun z => c_18 (Int32.toInt_inj.mp z)
                  have z_2 : ¬ (r_62 : Int32).toInt = (43 : Int32).toInt := fun z => c_65 (Int32.toInt_inj.mp z)
                  have z_3 := congrArg Int32.toInt c_224
                  have z_4 : ¬ (x_233 : Int32).toInt = (43 : Int32).toInt := fun z => c_234 (Int32.toInt_inj.mp z)
                  have z_5 : ¬ (r_252 : Int32).toInt = (0 : Int32).toInt := fun z => c_257 (Int32.toInt_inj.mp z)
                  have y_0 : (0 : Int32).toInt = 0 := by decide
                  have y_43 : (43 : Int32).toInt = 43 := by decide
                  have y_45 : (45 : Int32).toInt = 45 := by decide
                  omega
                have hr_285 : (400 * ((Mv 5) : Int32).toInt + ((Mf 3) (Mv 5).toNatClampNeg).toInt) ≤ (400 * ((Mv 5) : Int32).toInt + ((Mf 3) (Mv 5).toNatClampNeg).toInt) := by
                  have z_1 : ¬ (r_13 : Int32).toInt = (0 : Int32).toInt := fun z => c_18 (Int32.toInt_inj.mp z)
                  have z_2 : ¬ (r_62 : Int32).toInt = (43 : Int32).toInt := fun z => c_65 (Int32.toInt_inj.mp z)
                  have z_3 := congrArg Int32.toInt c_224
                  have z_4 : ¬ (x_233 : Int32).toInt = (43 : Int32).toInt := fun z => c_234 (Int32.toInt_inj.mp z)
                  have z_5 : ¬ (r_252 : Int32).toInt = (0 : Int32).toInt := fun z => c_257 (Int32.toInt_inj.mp z)
                  have y_0 : (0 : Int32).toInt = 0 := by decide
                  have y_43 : (43 : Int32).toInt = 43 := by decide
                  have y_45 : (45 : Int32).toInt = 45 := by decide
                  omega
                have hr_286 : (400 * ((Mv 5) : Int32).toInt + ((Mf 3) (Mv 5).toNatClampNeg).toInt) ≤ (400 * ((Mv 5) : Int32).toInt + (vy_38 (Mv 5).toNatClampNeg).toInt) := by
                  have z_1 : ¬ (r_13 : Int32).toInt = (0 : Int32).toInt := fun z => c_18 (Int32.toInt_inj.mp z)
                  have z_2 : ¬ (r_62 : Int32).toInt = (43 : Int32).toInt := fun z => c_65 (Int32.toInt_inj.mp z)
                  have z_3 := congrArg Int32.toInt c_224
                  have z_4 : ¬ (x_233 : Int32).toInt = (43 : Int32).toInt := fun z => c_234 (Int32.toInt_inj.mp z)
                  have z_5 : ¬ (r_252 : Int32).toInt = (0 : Int32).toInt := fun z => c_257 (Int32.toInt_inj.mp z)
                  have y_0 : (0 : Int32).toInt = 0 := by decide
                  have y_43 : (43 : Int32).toInt = 43 := by decide
                  have y_45 : (45 : Int32).toInt = 45 := by decide
                  omega
                have hr_287 : (400 * ((Mv 5) : Int32).toInt + ((Mf 3) (Mv 5).toNatClampNeg).toInt) ≤ (400 * ((Mv 5) : Int32).toInt + (sv_248 (Mv 5).toNatClampNeg).toInt) := by
                  have z_1 : ¬ (r_13 : Int32).toInt = (0 : Int32).toInt := fun z => c_18 (Int32.toInt_inj.mp z)
                  have z_2 : ¬ (r_62 : Int32).toInt = (43 : Int32).toInt := fun z => c_65 (Int32.toInt_inj.mp z)
                  have z_3 := congrArg Int32.toInt c_224
                  have z_4 : ¬ (x_233 : Int32).toInt = (43 : Int32).toInt := fun z => c_234 (Int32.toInt_inj.mp z)
                  have z_5 : ¬ (r_252 : Int32).toInt = (0 : Int32).toInt := fun z => c_257 (Int32.toInt_inj.mp z)
                  have y_0 : (0 : Int32).toInt = 0 := by decide
                  have y_43 : (43 : Int32).toInt = 43 := by decide
                  have y_45 : (45 : Int32).toInt = 45 := by decide
                  omega
                have hr_288 : (rB (Mf 1) (Mv 0) (sv_215 : Int32).toInt.toNat = 43 ∨ rB (Mf 1) (Mv 0) (sv_215 : Int32).toInt.toNat = 45) := by
                  have z_1 : ¬ (r_13 : Int32).toInt = (0 : Int32).toInt := fun z => c_18 (Int32.toInt_inj.mp z)
                  have z_2 : ¬ (r_62 : Int32).toInt = (43 : Int32).toInt := fun z => c_65 (Int32.toInt_inj.mp z)
                  have z_3 := congrArg Int32.toInt c_224
                  have z_4 : ¬ (x_233 : Int32).toInt = (43 : Int32).toInt := fun z => c_234 (Int32.toInt_inj.mp z)
                  have z_5 : ¬ (r_252 : Int32).toInt = (0 : Int32).toInt := fun z => c_257 (Int32.toInt_inj.mp z)
                  have y_0 : (0 : Int32).toInt = 0 := by decide
                  have y_43 : (43 : Int32).toInt = 43 := by decide
                  have y_45 : (45 : Int32).toInt = 45 := by decide
                  omega
                have hi_289 : (x_235 : Int32).toInt = (sv_215 : Int32).toInt + 1 := by
                  have z_1 : ¬ (r_13 : Int32).toInt = (0 : Int32).toInt := fun z => c_18 (Int32.toInt_inj.mp z)
                  have z_2 : ¬ (r_62 : Int32).toInt = (43 : Int32).toInt := fun z => c_65 (Int32.toInt_inj.mp z)
                  have z_3 := congrArg Int32.toInt c_224
                  have z_4 : ¬ (x_233 : Int32).toInt = (43 : Int32).toInt := fun z => c_234 (Int32.toInt_inj.mp z)
                  have z_5 : ¬ (r_252 : Int32).toInt = (0 : Int32).toInt := fun z => c_257 (Int32.toInt_inj.mp z)
                  have y_0 : (0 : Int32).toInt = 0 := by decide
                  have y_43 : (43 : Int32).toInt = 43 := by decide
                  have y_45 : (45 : Int32).toInt = 45 := by decide
                  have y_1 : (1 : Int32).toInt = 1 := by decide
                  have t_x_235 : x_235.toInt = (sv_215 : Int32).toInt + (1 : Int32).toInt := by rw [ex_235]; exact add_toInt (by omega) (by omega)
                  omega
                have hr_290 : (rB (Mf 1) (Mv 0) (sv_215 : Int32).toInt.toNat = 43 ∨ rB (Mf 1) (Mv 0) (sv_215 : Int32).toInt.toNat = 45) := by
                  have z_1 : ¬ (r_13 : Int32).toInt = (0 : Int32).toInt := fun z => c_18 (Int32.toInt_inj.mp z)
                  have z_2 : ¬ (r_62 : Int32).toInt = (43 : Int32).toInt := fun z => c_65 (Int32.toInt_inj.mp z)
                  have z_3 := congrArg Int32.toInt c_224
                  have z_4 : ¬ (x_233 : Int32).toInt = (43 : Int32).toInt := fun z => c_234 (Int32.toInt_inj.mp z)
                  have z_5 : ¬ (r_252 : Int32).toInt = (0 : Int32).toInt := fun z => c_257 (Int32.toInt_inj.mp z)
                  have y_0 : (0 : Int32).toInt = 0 := by decide
                  have y_43 : (43 : Int32).toInt = 43 := by decide
                  have y_45 : (45 : Int32).toInt = 45 := by decide
                  omega
                have rg_291 := rB_rg (n := (Mv 0)) h_bs (sv_215 : Int32).toInt.toNat
                have hr_292 : rB (Mf 1) (Mv 0) (sv_215 : Int32).toInt.toNat = 45 := by
                  have z_1 : ¬ (r_13 : Int32).toInt = (0 : Int32).toInt := fun z => c_18 (Int32.toInt_inj.mp z)
                  have z_2 : ¬ (r_62 : Int32).toInt = (43 : Int32).toInt := fun z => c_65 (Int32.toInt_inj.mp z)
                  have z_3 := congrArg Int32.toInt c_224
                  have z_4 : ¬ (x_233 : Int32).toInt = (43 : Int32).toInt := fun z => c_234 (Int32.toInt_inj.mp z)
                  have z_5 : ¬ (r_252 : Int32).toInt = (0 : Int32).toInt := fun z => c_257 (Int32.toInt_inj.mp z)
                  have y_0 : (0 : Int32).toInt = 0 := by decide
                  have y_43 : (43 : Int32).toInt = 43 := by decide
                  have y_45 : (45 : Int32).toInt = 45 := by decide
                  omega
                have ho_293 : (-13 : Int) = ec_o (rB (Mf 1) (Mv 0) (sv_215 : Int32).toInt.toNat) := by rw [hr_292]; decide
                have hi_294 : (x_235 : Int32).toInt = (sv_215 : Int32).toInt + 1 := by
                  have z_1 : ¬ (r_13 : Int32).toInt = (0 : Int32).toInt := fun z => c_18 (Int32.toInt_inj.mp z)
                  have z_2 : ¬ (r_62 : Int32).toInt = (43 : Int32).toInt := fun z => c_65 (Int32.toInt_inj.mp z)
                  have z_3 := congrArg Int32.toInt c_224
                  have z_4 : ¬ (x_233 : Int32).toInt = (43 : Int32).toInt := fun z => c_234 (Int32.toInt_inj.mp z)
                  have z_5 : ¬ (r_252 : Int32).toInt = (0 : Int32).toInt := fun z => c_257 (Int32.toInt_inj.mp z)
                  have y_0 : (0 : Int32).toInt = 0 := by decide
                  have y_43 : (43 : Int32).toInt = 43 := by decide
                  have y_45 : (45 : Int32).toInt = 45 := by decide
                  have y_1 : (1 : Int32).toInt = 1 := by decide
                  have t_x_235 : x_235.toInt = (sv_215 : Int32).toInt + (1 : Int32).toInt := by rw [ex_235]; exact add_toInt (by omega) (by omega)
                  omega
                have hu_295 : SgC sv_274 sv_275 (Mv 5) (((ll ++ xq_50) ++ xq_262) ++ [(-13)]) := by
                  rw [← elo_53, ← elo_265, ← elo_280]
                  exact pf_279
                exact ih_40 sv_243 sv_244 sv_245 sv_246 sv_274 sv_275 _ _ _ (by omega) ha_282 ha_283 ha_284 (Agr.trans (k' := (400 * ((Mv 5) : Int32).toInt + ((Mf 3) (Mv 5).toNatClampNeg).toInt)) (Agr.trans (k' := (400 * ((Mv 5) : Int32).toInt + ((Mf 3) (Mv 5).toNatClampNeg).toInt)) (Agr.mono pf_45 hr_285) pf_251 ⟨Int.le_refl _, hr_286⟩) pf_277 ⟨Int.le_refl _, hr_287⟩) pf_276 (TmO.next (rB_fi h_nx.2.2) pf_47 (SkR.trans pf_61 pf_219) hr_288 hi_289 pf_259) (SmD.next (rB_fi h_nx.2.2) pf_52 (SkR.trans pf_61 pf_219) hr_290 ho_293 hi_294 pf_264 pf_259.2 hu_295) (hP.sub [1, 0, 2, 3] rfl) (hD.sub [1, 0, 2, 3] rfl rfl) hS (lv_sub hl [1] rfl)
              · skip
                have hz_297 : (r_252 : Int32).toInt = 0 := by
                  have z_1 : ¬ (r_13 : Int32).toInt = (0 : Int32).toInt := fun z => c_18 (Int32.toInt_inj.mp z)
                  have z_2 : ¬ (r_62 : Int32).toInt = (43 : Int32).toInt := fun z => c_65 (Int32.toInt_inj.mp z)
                  have z_3 := congrArg Int32.toInt c_224
                  have z_4 : ¬ (x_233 : Int32).toInt = (43 : Int32).toInt := fun z => c_234 (Int32.toInt_inj.mp z)
                  have z_5 := congrArg Int32.toInt c_257
                  have y_0 : (0 : Int32).toInt = 0 := by decide
                  have y_43 : (43 : Int32).toInt = 43 := by decide
                  have y_45 : (45 : Int32).toInt = 45 := by decide
                  omega
                obtain pf_296 := hm_256 hz_297
                have pf_296 : RfE (pz_sum (rB (Mf 1) (Mv 0)) (St0 (rB (Mf 1) (Mv 0)) x_235 vy_36)) sv_244 := pf_296
                refine lv_iconst (v := 0) hx hb dX12_sum_64 (by decide) ?_
                have ha_298 : ((Mv 2) : Int32).toInt ≤ (sv_243 : Int32).toInt ∧ (sv_243 : Int32).toInt ≤ ((Mv 0) : Int32).toInt := by
                  have z_1 : ¬ (r_13 : Int32).toInt = (0 : Int32).toInt := fun z => c_18 (Int32.toInt_inj.mp z)
                  have z_2 : ¬ (r_62 : Int32).toInt = (43 : Int32).toInt := fun z => c_65 (Int32.toInt_inj.mp z)
                  have z_3 := congrArg Int32.toInt c_224
                  have z_4 : ¬ (x_233 : Int32).toInt = (43 : Int32).toInt := fun z => c_234 (Int32.toInt_inj.mp z)
                  have z_5 := congrArg Int32.toInt c_257
                  have y_0 : (0 : Int32).toInt = 0 := by decide
                  have y_43 : (43 : Int32).toInt = 43 := by decide
                  have y_45 : (45 : Int32).toInt = 45 := by decide
                  omega
                have ha_299 : ((Mv 6) : Int32).toInt ≤ (sv_246 : Int32).toInt ∧ (sv_246 : Int32).toInt ≤ 60 := by
                  have z_1 : ¬ (r_13 : Int32).toInt = (0 : Int32).toInt := fun z => c_18 (Int32.toInt_inj.mp z)
                  have z_2 : ¬ (r_62 : Int32).toInt = (43 : Int32).toInt := fun z => c_65 (Int32.toInt_inj.mp z)
                  have z_3 := congrArg Int32.toInt c_224
                  have z_4 : ¬ (x_233 : Int32).toInt = (43 : Int32).toInt := fun z => c_234 (Int32.toInt_inj.mp z)
                  have z_5 := congrArg Int32.toInt c_257
                  have y_0 : (0 : Int32).toInt = 0 := by decide
                  have y_43 : (43 : Int32).toInt = 43 := by decide
                  have y_45 : (45 : Int32).toInt = 45 := by decide
                  omega
                have hr_300 : (400 * ((Mv 5) : Int32).toInt + ((Mf 3) (Mv 5).toNatClampNeg).toInt) ≤ (400 * ((Mv 5) : Int32).toInt + ((Mf 3) (Mv 5).toNatClampNeg).toInt) := by
                  have z_1 : ¬ (r_13 : Int32).toInt = (0 : Int32).toInt := fun z => c_18 (Int32.toInt_inj.mp z)
                  have z_2 : ¬ (r_62 : Int32).toInt = (43 : Int32).toInt := fun z => c_65 (Int32.toInt_inj.mp z)
                  have z_3 := congrArg Int32.toInt c_224
                  have z_4 : ¬ (x_233 : Int32).toInt = (43 : Int32).toInt := fun z => c_234 (Int32.toInt_inj.mp z)
                  have z_5 := congrArg Int32.toInt c_257
                  have y_0 : (0 : Int32).toInt = 0 := by decide
                  have y_43 : (43 : Int32).toInt = 43 := by decide
                  have y_45 : (45 : Int32).toInt = 45 := by decide
                  omega
                have hr_301 : (400 * ((Mv 5) : Int32).toInt + ((Mf 3) (Mv 5).toNatClampNeg).toInt) ≤ (400 * ((Mv 5) : Int32).toInt + (vy_38 (Mv 5).toNatClampNeg).toInt) := by
                  have z_1 : ¬ (r_13 : Int32).toInt = (0 : Int32).toInt := fun z => c_18 (Int32.toInt_inj.mp z)
                  have z_2 : ¬ (r_62 : Int32).toInt = (43 : Int32).toInt := fun z => c_65 (Int32.toInt_inj.mp z)
                  have z_3 := congrArg Int32.toInt c_224
                  have z_4 : ¬ (x_233 : Int32).toInt = (43 : Int32).toInt := fun z => c_234 (Int32.toInt_inj.mp z)
                  have z_5 := congrArg Int32.toInt c_257
                  have y_0 : (0 : Int32).toInt = 0 := by decide
                  have y_43 : (43 : Int32).toInt = 43 := by decide
                  have y_45 : (45 : Int32).toInt = 45 := by decide
                  omega
                have hp_302 : (((0 : Int32).toInt = 0 ∧ ¬ (sv_244 : Int32).toInt = 0) ∨ ((0 : Int32).toInt = 1 ∧ ((Mf 3) (Mv 5).toNatClampNeg).toInt + 1 ≤ (sv_248 (Mv 5).toNatClampNeg).toInt ∧ (sv_248 (Mv 5).toNatClampNeg).toInt + ((Mv 2) : Int32).toInt ≤ ((Mf 3) (Mv 5).toNatClampNeg).toInt + (sv_243 : Int32).toInt ∧ ((Mv 2) : Int32).toInt + 1 ≤ (sv_243 : Int32).toInt)) := by
                  have z_1 : ¬ (r_13 : Int32).toInt = (0 : Int32).toInt := fun z => c_18 (Int32.toInt_inj.mp z)
                  have z_2 : ¬ (r_62 : Int32).toInt = (43 : Int32).toInt := fun z => c_65 (Int32.toInt_inj.mp z)
                  have z_3 := congrArg Int32.toInt c_224
                  have z_4 : ¬ (x_233 : Int32).toInt = (43 : Int32).toInt := fun z => c_234 (Int32.toInt_inj.mp z)
                  have z_5 := congrArg Int32.toInt c_257
                  have y_0 : (0 : Int32).toInt = 0 := by decide
                  have y_43 : (43 : Int32).toInt = 43 := by decide
                  have y_45 : (45 : Int32).toInt = 45 := by decide
                  omega
                have hm_303 : (0 : Int32).toInt = 0 → (RfE (pz_sum (rB (Mf 1) (Mv 0)) (St0 (rB (Mf 1) (Mv 0)) (Mv 2) (Mv 6))) sv_244) := by
                  intro h1r
                  have hr_304 : (rB (Mf 1) (Mv 0) (sv_215 : Int32).toInt.toNat = 43 ∨ rB (Mf 1) (Mv 0) (sv_215 : Int32).toInt.toNat = 45) := by
                    have z_1 : ¬ (r_13 : Int32).toInt = (0 : Int32).toInt := fun z => c_18 (Int32.toInt_inj.mp z)
                    have z_2 : ¬ (r_62 : Int32).toInt = (43 : Int32).toInt := fun z => c_65 (Int32.toInt_inj.mp z)
                    have z_3 := congrArg Int32.toInt c_224
                    have z_4 : ¬ (x_233 : Int32).toInt = (43 : Int32).toInt := fun z => c_234 (Int32.toInt_inj.mp z)
                    have z_5 := congrArg Int32.toInt c_257
                    have y_0 : (0 : Int32).toInt = 0 := by decide
                    have y_43 : (43 : Int32).toInt = 43 := by decide
                    have y_45 : (45 : Int32).toInt = 45 := by decide
                    omega
                  have hi_305 : (x_235 : Int32).toInt = (sv_215 : Int32).toInt + 1 := by
                    have z_1 : ¬ (r_13 : Int32).toInt = (0 : Int32).toInt := fun z => c_18 (Int32.toInt_inj.mp z)
                    have z_2 : ¬ (r_62 : Int32).toInt = (43 : Int32).toInt := fun z => c_65 (Int32.toInt_inj.mp z)
                    have z_3 := congrArg Int32.toInt c_224
                    have z_4 : ¬ (x_233 : Int32).toInt = (43 : Int32).toInt := fun z => c_234 (Int32.toInt_inj.mp z)
                    have z_5 := congrArg Int32.toInt c_257
                    have y_0 : (0 : Int32).toInt = 0 := by decide
                    have y_43 : (43 : Int32).toInt = 43 := by decide
                    have y_45 : (45 : Int32).toInt = 45 := by decide
                    have y_1 : (1 : Int32).toInt = 1 := by decide
                    have t_x_235 : x_235.toInt = (sv_215 : Int32).toInt + (1 : Int32).toInt := by rw [ex_235]; exact add_toInt (by omega) (by omega)
                    omega
                  exact (TmO.er (rB_fi h_nx.2.2) pf_47 (SkR.trans pf_61 pf_219) hr_304 hi_305 pf_296)
                exact retI (v := 0) hx hb hr hlk (rfl) hP hD hS (sv_243, sv_244, sv_245, sv_246, sv_247, sv_248) ⟨_, rfl, hp_302, ha_298, ha_299, (Agr.trans (k' := (400 * ((Mv 5) : Int32).toInt + ((Mf 3) (Mv 5).toNatClampNeg).toInt)) (Agr.mono pf_45 hr_300) pf_251 ⟨Int.le_refl _, hr_301⟩), (fun h => absurd h (by decide)), hm_303⟩ [0, 1, 2, 3] rfl rfl dX12_sum_65 (Nat.le_of_ble_eq_true rfl) (Nat.le_of_ble_eq_true rfl) rfl
            · skip
              refine lv_iconst (v := 2) hx hb dX12_sum_41 (by decide) ?_
              refine lv_goto (tgt := 46) hx hb dX12_sum_42 (by decide) ?_
              refine lv_istore_n (lv' := [(1, .int 2), (0, .ref (Ma 0))]) hx hb dX12_sum_46 rfl hl (by decide) rfl (fun ls hl₀ => ?_)
              replace hl := hl₀
              clear hl₀
              refine lv_aload_n hx hb dX12_sum_47 rfl (lv_at hl 1 rfl) ?_
              refine lv_dup hx hb dX12_sum_48 rfl ?_
              refine gf_X12_87 hx hb hts hown hK hP 2 rfl rfl dX12_sum_49 ?_
              refine lv_iconst (v := 1) hx hb dX12_sum_52 (by decide) ?_
              refine lv_iadd hx hb dX12_sum_53 ?_
              refine lv_topi (fun x_306 ex_306 => ?_)
              refine pf_X12_87 hx hb hts hown hK hP hD hS 2 rfl (Nat.le_of_ble_eq_true rfl) rfl rfl dX12_sum_54 (fun H locs hP₀ hD₀ hS₀ => ?_)
              replace hP : va_P D classes [((Ma 2), .inl (tc 0, 2400, .inl vy_37)), ((Ma 3), .inl (tc 0, 7, .inl vy_38)), ((Ma 0), .inr (12, [.ref (Ma 1), .int (Mv 0), .int (Mv 1), .ref (Ma 2), .ref (Ma 3), .ref (Ma 4), .ref (Ma 5), .ref (Ma 6), .int x_306, .int vy_34, .int vy_35, .int (Mv 5), .int vy_36, .int (Mv 7), .int (Mv 8), .ref (Ma 7), .int (Mv 9), .ref (Ma 8), .int (Mv 10), .ref (Ma 9), .ref (Ma 10), .int (Mv 11), .int (Mv 12), .int (Mv 13), .ref (Ma 11), .int (Mv 14), .ref (Ma 12), .ref (Ma 13), .ref (Ma 14), .ref (Ma 15), .ref (Ma 16), .long (Mj 0), .ref (Ma 17), .ref (Ma 18), .ref (Ma 19), .ref (Ma 20)])), ((Ma 1), .inl (tc 2, 400, .inl (Mf 1)))] H := hP₀
              replace hD : va_D A [((Ma 2), .inl (tc 0, 2400, .inl vy_37)), ((Ma 3), .inl (tc 0, 7, .inl vy_38)), ((Ma 0), .inr (12, [.ref (Ma 1), .int (Mv 0), .int (Mv 1), .ref (Ma 2), .ref (Ma 3), .ref (Ma 4), .ref (Ma 5), .ref (Ma 6), .int x_306, .int vy_34, .int vy_35, .int (Mv 5), .int vy_36, .int (Mv 7), .int (Mv 8), .ref (Ma 7), .int (Mv 9), .ref (Ma 8), .int (Mv 10), .ref (Ma 9), .ref (Ma 10), .int (Mv 11), .int (Mv 12), .int (Mv 13), .ref (Ma 11), .int (Mv 14), .ref (Ma 12), .ref (Ma 13), .ref (Ma 14), .ref (Ma 15), .ref (Ma 16), .long (Mj 0), .ref (Ma 17), .ref (Ma 18), .ref (Ma 19), .ref (Ma 20)])), ((Ma 1), .inl (tc 2, 400, .inl (Mf 1)))] := hD₀
              replace hS := hS₀
              clear hP₀ hD₀ hS₀
              have tp_x_306 : (x_306 : Int32).toInt = (sv_215 : Int32).toInt + 1 := by
                have z_1 : ¬ (r_13 : Int32).toInt = (0 : Int32).toInt := fun z => c_18 (Int32.toInt_inj.mp z)
                have z_2 : ¬ (r_62 : Int32).toInt = (43 : Int32).toInt := fun z => c_65 (Int32.toInt_inj.mp z)
                have z_3 := congrArg Int32.toInt c_224
                have z_4 := congrArg Int32.toInt c_234
                have y_0 : (0 : Int32).toInt = 0 := by decide
                have y_43 : (43 : Int32).toInt = 43 := by decide
                have y_45 : (45 : Int32).toInt = 45 := by decide
                have y_1 : (1 : Int32).toInt = 1 := by decide
                have t_x_306 : x_306.toInt = (sv_215 : Int32).toInt + (1 : Int32).toInt := by rw [ex_306]; exact add_toInt (by omega) (by omega)
                omega
              refine lv_aload_n hx hb dX12_sum_57 rfl (lv_at hl 1 rfl) ?_
              have ha_307 : 0 ≤ (x_306 : Int32).toInt ∧ (x_306 : Int32).toInt ≤ ((Mv 0) : Int32).toInt ∧ ((Mv 0) : Int32).toInt ≤ 400 := by
                have z_1 : ¬ (r_13 : Int32).toInt = (0 : Int32).toInt := fun z => c_18 (Int32.toInt_inj.mp z)
                have z_2 : ¬ (r_62 : Int32).toInt = (43 : Int32).toInt := fun z => c_65 (Int32.toInt_inj.mp z)
                have z_3 := congrArg Int32.toInt c_224
                have z_4 := congrArg Int32.toInt c_234
                have y_0 : (0 : Int32).toInt = 0 := by decide
                have y_43 : (43 : Int32).toInt = 43 := by decide
                have y_45 : (45 : Int32).toInt = 45 := by decide
                have y_1 : (1 : Int32).toInt = 1 := by decide
                have t_x_306 : x_306.toInt = (sv_215 : Int32).toInt + (1 : Int32).toInt := by rw [ex_306]; exact add_toInt (by omega) (by omega)
                omega
              have ha_308 : (vy_38 (Mv 5).toNatClampNeg).toInt ≤ (x_306 : Int32).toInt := by
                have z_1 : ¬ (r_13 : Int32).toInt = (0 : Int32).toInt := fun z => c_18 (Int32.toInt_inj.mp z)
                have z_2 : ¬ (r_62 : Int32).toInt = (43 : Int32).toInt := fun z => c_65 (Int32.toInt_inj.mp z)
                have z_3 := congrArg Int32.toInt c_224
                have z_4 := congrArg Int32.toInt c_234
                have y_0 : (0 : Int32).toInt = 0 := by decide
                have y_43 : (43 : Int32).toInt = 43 := by decide
                have y_45 : (45 : Int32).toInt = 45 := by decide
                have y_1 : (1 : Int32).toInt = 1 := by decide
                have t_x_306 : x_306.toInt = (sv_215 : Int32).toInt + (1 : Int32).toInt := by rw [ex_306]; exact add_toInt (by omega) (by omega)
                omega
              have ha_309 : 0 ≤ (vy_36 : Int32).toInt ∧ (vy_36 : Int32).toInt ≤ 60 := by
                have z_1 : ¬ (r_13 : Int32).toInt = (0 : Int32).toInt := fun z => c_18 (Int32.toInt_inj.mp z)
                have z_2 : ¬ (r_62 : Int32).toInt = (43 : Int32).toInt := fun z => c_65 (Int32.toInt_inj.mp z)
                have z_3 := congrArg Int32.toInt c_224
                have z_4 := congrArg Int32.toInt c_234
                have y_0 : (0 : Int32).toInt = 0 := by decide
                have y_43 : (43 : Int32).toInt = 43 := by decide
                have y_45 : (45 : Int32).toInt = 45 := by decide
                omega
              have ha_310 : (vy_34 : Int32).toInt = 0 := by
                have z_1 : ¬ (r_13 : Int32).toInt = (0 : Int32).toInt := fun z => c_18 (Int32.toInt_inj.mp z)
                have z_2 : ¬ (r_62 : Int32).toInt = (43 : Int32).toInt := fun z => c_65 (Int32.toInt_inj.mp z)
                have z_3 := congrArg Int32.toInt c_224
                have z_4 := congrArg Int32.toInt c_234
                have y_0 : (0 : Int32).toInt = 0 := by decide
                have y_43 : (43 : Int32).toInt = 43 := by decide
                have y_45 : (45 : Int32).toInt = 45 := by decide
                omega
              refine cV (a := (Ma 0)) (As := []) (rest := []) (wr := []) ⟨hx, hb, hml, hown, hts⟩ hK hX hA (cu_kX12_term l D tc sk (Ma 0) (Ma 1) (Ma 2) (Ma 3) (Ma 4) (Ma 5) (Ma 6) (Ma 7) (Ma 8) (Ma 9) (Ma 10) (Ma 11) (Ma 12) (Ma 13) (Ma 14) (Ma 15) (Ma 16) (Ma 17) (Ma 18) (Ma 19) (Ma 20) (Mv 0) (Mv 1) x_306 vy_34 vy_35 (Mv 5) vy_36 (Mv 7) (Mv 8) (Mv 9) (Mv 10) (Mv 11) (Mv 12) (Mv 13) (Mv 14) (Mf 1) vy_37 vy_38 (Mj 0) b (d + 1) lo_53 ha_307 pf_46 ha_308 ha_309 h_bs ha_310 pf_51) k_1283 k_1280 k_1282 k_43 k_106 pl_X12_term ⟨Nat.le_of_ble_eq_true rfl, Nat.le_of_ble_eq_true rfl⟩ rfl rfl (va_recv hK hP (ci := 12) (q0 := 2) rfl rfl) hP hD hS [2, 3, 0, 1] [] rfl rfl rfl rfl rfl (by decide) rfl hl.1 rfl (Nat.le_of_ble_eq_true rfl) dX12_sum_58 ⟨Nat.le_of_ble_eq_true rfl, Nat.le_of_ble_eq_true rfl⟩ (fun v_311 u_312 H locs hv_313 hP₀ hD₀ hS₀ => ?_)
              obtain ⟨sv_314, sv_315, sv_316, sv_317, sv_318, sv_319⟩ := u_312
              obtain ⟨r_323, rfl, he_324, pf_320, pf_321, pf_322, hm_326, hm_327⟩ := hv_313
              have he_324 : ((r_323.toInt = 0 ∧ ¬ (sv_315 : Int32).toInt = 0) ∨ (r_323.toInt = 1 ∧ (vy_38 (Mv 5).toNatClampNeg).toInt + 1 ≤ (sv_319 (Mv 5).toNatClampNeg).toInt ∧ (sv_319 (Mv 5).toNatClampNeg).toInt + (x_306 : Int32).toInt ≤ (vy_38 (Mv 5).toNatClampNeg).toInt + (sv_314 : Int32).toInt ∧ (x_306 : Int32).toInt + 1 ≤ (sv_314 : Int32).toInt)) := he_324
              have pf_320 : (x_306 : Int32).toInt ≤ (sv_314 : Int32).toInt ∧ (sv_314 : Int32).toInt ≤ ((Mv 0) : Int32).toInt := pf_320
              have pf_321 : (vy_36 : Int32).toInt ≤ (sv_317 : Int32).toInt ∧ (sv_317 : Int32).toInt ≤ 60 := pf_321
              have pf_322 : Agr vy_37 sv_318 (400 * ((Mv 5) : Int32).toInt + (vy_38 (Mv 5).toNatClampNeg).toInt) := pf_322
              refine W.eq (g2 := F0 m 61 ls [.int r_323]) rfl ?_
              replace hP : va_P D classes [((Ma 0), .inr (12, [.ref (Ma 1), .int (Mv 0), .int (Mv 1), .ref (Ma 2), .ref (Ma 3), .ref (Ma 4), .ref (Ma 5), .ref (Ma 6), .int sv_314, .int sv_315, .int sv_316, .int (Mv 5), .int sv_317, .int (Mv 7), .int (Mv 8), .ref (Ma 7), .int (Mv 9), .ref (Ma 8), .int (Mv 10), .ref (Ma 9), .ref (Ma 10), .int (Mv 11), .int (Mv 12), .int (Mv 13), .ref (Ma 11), .int (Mv 14), .ref (Ma 12), .ref (Ma 13), .ref (Ma 14), .ref (Ma 15), .ref (Ma 16), .long (Mj 0), .ref (Ma 17), .ref (Ma 18), .ref (Ma 19), .ref (Ma 20)])), ((Ma 1), .inl (tc 2, 400, .inl (Mf 1))), ((Ma 2), .inl (tc 0, 2400, .inl sv_318)), ((Ma 3), .inl (tc 0, 7, .inl sv_319))] H := hP₀
              replace hD : va_D A [((Ma 0), .inr (12, [.ref (Ma 1), .int (Mv 0), .int (Mv 1), .ref (Ma 2), .ref (Ma 3), .ref (Ma 4), .ref (Ma 5), .ref (Ma 6), .int sv_314, .int sv_315, .int sv_316, .int (Mv 5), .int sv_317, .int (Mv 7), .int (Mv 8), .ref (Ma 7), .int (Mv 9), .ref (Ma 8), .int (Mv 10), .ref (Ma 9), .ref (Ma 10), .int (Mv 11), .int (Mv 12), .int (Mv 13), .ref (Ma 11), .int (Mv 14), .ref (Ma 12), .ref (Ma 13), .ref (Ma 14), .ref (Ma 15), .ref (Ma 16), .long (Mj 0), .ref (Ma 17), .ref (Ma 18), .ref (Ma 19), .ref (Ma 20)])), ((Ma 1), .inl (tc 2, 400, .inl (Mf 1))), ((Ma 2), .inl (tc 0, 2400, .inl sv_318)), ((Ma 3), .inl (tc 0, 7, .inl sv_319))] := hD₀
              replace hS := hS₀
              clear hP₀ hD₀ hS₀
              refine lv_if_ne (tgt := 66) hx hb dX12_sum_61 (by decide) (fun c_328 => ?_) (fun c_328 => ?_)
              · skip
                have hz_332 : (r_323 : Int32).toInt = 1 := by
                  have z_1 : ¬ (r_13 : Int32).toInt = (0 : Int32).toInt := fun z => c_18 (Int32.toInt_inj.mp z)
                  have z_2 : ¬ (r_62 : Int32).toInt = (43 : Int32).toInt := fun z => c_65 (Int32.toInt_inj.mp z)
                  have z_3 := congrArg Int32.toInt c_224
                  have z_4 := congrArg Int32.toInt c_234
                  have z_5 : ¬ (r_323 : Int32).toInt = (0 : Int32).toInt := fun z => c_328 (Int32.toInt_inj.mp z)
                  have y_0 : (0 : Int32).toInt = 0 := by decide
                  have y_43 : (43 : Int32).toInt = 43 := by decide
                  have y_45 : (45 : Int32).toInt = 45 := by decide
                  omega
                obtain ⟨pf_329, pf_330, pf_331⟩ := hm_326 hz_332
                have pf_329 : Cd sv_318 sv_319 (Mv 5) b sv_317 ((d + 1) + 1) := pf_329
                have ar_pf_329 := Cd.ar pf_329
                have pf_330 : TmO (pz_sum (rB (Mf 1) (Mv 0)) (St0 (rB (Mf 1) (Mv 0)) x_306 vy_36)) (rB (Mf 1) (Mv 0)) sv_315 sv_314 sv_317 := pf_330
                have ar_pf_330 := pf_330.1.1
                have pf_331 : TmC lo_53 (rB (Mf 1) (Mv 0)) (St0 (rB (Mf 1) (Mv 0)) x_306 vy_36) sv_318 sv_319 (Mv 5) sv_314 := pf_331
                obtain ⟨xq_333, pf_334, pf_335⟩ := id pf_331
                obtain ⟨lo_336, elo_336⟩ : ∃ z : List Int, z = (lo_53 ++ xq_333) := ⟨_, rfl⟩
                rw [← elo_336] at pf_334
                refine lv_aload_n hx hb dX12_sum_66 rfl (lv_at hl 1 rfl) ?_
                refine lv_iload_n hx hb dX12_sum_67 rfl (lv_at hl 0 rfl) ?_
                refine lv_iconst (v := 0) hx hb dX12_sum_68 (by decide) ?_
                have ha_337 : ((d + 1) : Int) ≤ sv_317.toInt := by
                  have z_1 : ¬ (r_13 : Int32).toInt = (0 : Int32).toInt := fun z => c_18 (Int32.toInt_inj.mp z)
                  have z_2 : ¬ (r_62 : Int32).toInt = (43 : Int32).toInt := fun z => c_65 (Int32.toInt_inj.mp z)
                  have z_3 := congrArg Int32.toInt c_224
                  have z_4 := congrArg Int32.toInt c_234
                  have z_5 : ¬ (r_323 : Int32).toInt = (0 : Int32).toInt := fun z => c_328 (Int32.toInt_inj.mp z)
                  have y_0 : (0 : Int32).toInt = 0 := by decide
                  have y_43 : (43 : Int32).toInt = 43 := by decide
                  have y_45 : (45 : Int32).toInt = 45 := by decide
                  omega
                have ha_338 : (sv_319 (Mv 5).toNatClampNeg).toInt < 400 := by
                  have z_1 : ¬ (r_13 : Int32).toInt = (0 : Int32).toInt := fun z => c_18 (Int32.toInt_inj.mp z)
                  have z_2 : ¬ (r_62 : Int32).toInt = (43 : Int32).toInt := fun z => c_65 (Int32.toInt_inj.mp z)
                  have z_3 := congrArg Int32.toInt c_224
                  have z_4 := congrArg Int32.toInt c_234
                  have z_5 : ¬ (r_323 : Int32).toInt = (0 : Int32).toInt := fun z => c_328 (Int32.toInt_inj.mp z)
                  have y_0 : (0 : Int32).toInt = 0 := by decide
                  have y_43 : (43 : Int32).toInt = 43 := by decide
                  have y_45 : (45 : Int32).toInt = 45 := by decide
                  omega
                have ha_339 : 0 ≤ (2 : Int32).toInt ∧ (2 : Int32).toInt ≤ 15 := by
                  have z_1 : ¬ (r_13 : Int32).toInt = (0 : Int32).toInt := fun z => c_18 (Int32.toInt_inj.mp z)
                  have z_2 : ¬ (r_62 : Int32).toInt = (43 : Int32).toInt := fun z => c_65 (Int32.toInt_inj.mp z)
                  have z_3 := congrArg Int32.toInt c_224
                  have z_4 := congrArg Int32.toInt c_234
                  have z_5 : ¬ (r_323 : Int32).toInt = (0 : Int32).toInt := fun z => c_328 (Int32.toInt_inj.mp z)
                  have y_0 : (0 : Int32).toInt = 0 := by decide
                  have y_43 : (43 : Int32).toInt = 43 := by decide
                  have y_45 : (45 : Int32).toInt = 45 := by decide
                  have y_2 : (2 : Int32).toInt = 2 := by decide
                  omega
                have ha_340 : 0 ≤ (0 : Int32).toInt ∧ (0 : Int32).toInt ≤ 100000 := by
                  have z_1 : ¬ (r_13 : Int32).toInt = (0 : Int32).toInt := fun z => c_18 (Int32.toInt_inj.mp z)
                  have z_2 : ¬ (r_62 : Int32).toInt = (43 : Int32).toInt := fun z => c_65 (Int32.toInt_inj.mp z)
                  have z_3 := congrArg Int32.toInt c_224
                  have z_4 := congrArg Int32.toInt c_234
                  have z_5 : ¬ (r_323 : Int32).toInt = (0 : Int32).toInt := fun z => c_328 (Int32.toInt_inj.mp z)
                  have y_0 : (0 : Int32).toInt = 0 := by decide
                  have y_43 : (43 : Int32).toInt = 43 := by decide
                  have y_45 : (45 : Int32).toInt = 45 := by decide
                  omega
                have ha_341 : 0 ≤ (Mv 5).toInt := by
                  have z_1 : ¬ (r_13 : Int32).toInt = (0 : Int32).toInt := fun z => c_18 (Int32.toInt_inj.mp z)
                  have z_2 : ¬ (r_62 : Int32).toInt = (43 : Int32).toInt := fun z => c_65 (Int32.toInt_inj.mp z)
                  have z_3 := congrArg Int32.toInt c_224
                  have z_4 := congrArg Int32.toInt c_234
                  have z_5 : ¬ (r_323 : Int32).toInt = (0 : Int32).toInt := fun z => c_328 (Int32.toInt_inj.mp z)
                  have y_0 : (0 : Int32).toInt = 0 := by decide
                  have y_43 : (43 : Int32).toInt = 43 := by decide
                  have y_45 : (45 : Int32).toInt = 45 := by decide
                  omega
                refine cV (a := (Ma 0)) (As := [.int 2, .int 0]) (rest := []) (wr := [((Ma 1), .inl (tc 2, 400, .inl (Mf 1)))]) ⟨hx, hb, hml, hown, hts⟩ hK hX hA (cu_kX12_puts l D tc sk (Ma 0) (Ma 1) (Ma 2) (Ma 3) (Ma 4) (Ma 5) (Ma 6) (Ma 7) (Ma 8) (Ma 9) (Ma 10) (Ma 11) (Ma 12) (Ma 13) (Ma 14) (Ma 15) (Ma 16) (Ma 17) (Ma 18) (Ma 19) (Ma 20) (Mv 0) (Mv 1) sv_314 sv_315 sv_316 (Mv 5) sv_317 (Mv 7) (Mv 8) (Mv 9) (Mv 10) (Mv 11) (Mv 12) (Mv 13) (Mv 14) sv_318 sv_319 (Mj 0) 2 0 b sv_317 ((d + 1) + 1) (d + 1) lo_336 (-12) pf_329 (StpR.op (by decide) rfl (by omega)) ha_337 ha_338 pf_334 (by decide) ha_339 ha_340 ha_341) k_1296 k_1293 k_1295 k_46 k_106 pl_X12_puts ⟨Nat.le_of_ble_eq_true rfl, Nat.le_of_ble_eq_true rfl⟩ rfl rfl (va_recv hK hP (ci := 12) (q0 := 0) rfl rfl) hP hD hS [0, 2, 3] [1] rfl rfl rfl rfl rfl (by decide) rfl hl.1 rfl (Nat.le_of_ble_eq_true rfl) dX12_sum_69 ⟨Nat.le_of_ble_eq_true rfl, Nat.le_of_ble_eq_true rfl⟩ (fun v_342 u_343 H locs hv_344 hP₀ hD₀ hS₀ => ?_)
                obtain ⟨sv_345, sv_346⟩ := u_343
                obtain ⟨rfl, pf_347, pf_348, pf_349, pf_350⟩ := hv_344
                have pf_347 : Cd sv_345 sv_346 (Mv 5) b sv_317 (d + 1) := pf_347
                have ar_pf_347 := Cd.ar pf_347
                have pf_348 : Agr sv_318 sv_345 (400 * ((Mv 5) : Int32).toInt + (sv_319 (Mv 5).toNatClampNeg).toInt) := pf_348
                have pf_349 : (sv_346 (Mv 5).toNatClampNeg).toInt = (sv_319 (Mv 5).toNatClampNeg).toInt + 1 := pf_349
                have pf_350 : SgC sv_345 sv_346 (Mv 5) (lo_336 ++ [((-12) : Int)]) := pf_350
                obtain ⟨lo_351, elo_351⟩ : ∃ z : List Int, z = (lo_336 ++ [(-12)]) := ⟨_, rfl⟩
                rw [← elo_351] at pf_350
                refine W.eq (g2 := F0 m 72 ls []) rfl ?_
                replace hP : va_P D classes [((Ma 1), .inl (tc 2, 400, .inl (Mf 1))), ((Ma 0), .inr (12, [.ref (Ma 1), .int (Mv 0), .int (Mv 1), .ref (Ma 2), .ref (Ma 3), .ref (Ma 4), .ref (Ma 5), .ref (Ma 6), .int sv_314, .int sv_315, .int sv_316, .int (Mv 5), .int sv_317, .int (Mv 7), .int (Mv 8), .ref (Ma 7), .int (Mv 9), .ref (Ma 8), .int (Mv 10), .ref (Ma 9), .ref (Ma 10), .int (Mv 11), .int (Mv 12), .int (Mv 13), .ref (Ma 11), .int (Mv 14), .ref (Ma 12), .ref (Ma 13), .ref (Ma 14), .ref (Ma 15), .ref (Ma 16), .long (Mj 0), .ref (Ma 17), .ref (Ma 18), .ref (Ma 19), .ref (Ma 20)])), ((Ma 2), .inl (tc 0, 2400, .inl sv_345)), ((Ma 3), .inl (tc 0, 7, .inl sv_346))] H := hP₀
                replace hD : va_D A [((Ma 1), .inl (tc 2, 400, .inl (Mf 1))), ((Ma 0), .inr (12, [.ref (Ma 1), .int (Mv 0), .int (Mv 1), .ref (Ma 2), .ref (Ma 3), .ref (Ma 4), .ref (Ma 5), .ref (Ma 6), .int sv_314, .int sv_315, .int sv_316, .int (Mv 5), .int sv_317, .int (Mv 7), .int (Mv 8), .ref (Ma 7), .int (Mv 9), .ref (Ma 8), .int (Mv 10), .ref (Ma 9), .ref (Ma 10), .int (Mv 11), .int (Mv 12), .int (Mv 13), .ref (Ma 11), .int (Mv 14), .ref (Ma 12), .ref (Ma 13), .ref (Ma 14), .ref (Ma 15), .ref (Ma 16), .long (Mj 0), .ref (Ma 17), .ref (Ma 18), .ref (Ma 19), .ref (Ma 20)])), ((Ma 2), .inl (tc 0, 2400, .inl sv_345)), ((Ma 3), .inl (tc 0, 7, .inl sv_346))] := hD₀
                replace hS := hS₀
                clear hP₀ hD₀ hS₀
                refine lv_goto (tgt := 9) hx hb dX12_sum_72 (by decide) ?_
                have hb_352 : 400 - (sv_314 : Int32).toInt < 400 - (vy_33 : Int32).toInt ∧ 1 ≤ 400 - (vy_33 : Int32).toInt := by
                  have z_1 : ¬ (r_13 : Int32).toInt = (0 : Int32).toInt := fun z => c_18 (Int32.toInt_inj.mp z)
                  have z_2 : ¬ (r_62 : Int32).toInt = (43 : Int32).toInt := fun z => c_65 (Int32.toInt_inj.mp z)
                  have z_3 := congrArg Int32.toInt c_224
                  have z_4 := congrArg Int32.toInt c_234
                  have z_5 : ¬ (r_323 : Int32).toInt = (0 : Int32).toInt := fun z => c_328 (Int32.toInt_inj.mp z)
                  have y_0 : (0 : Int32).toInt = 0 := by decide
                  have y_43 : (43 : Int32).toInt = 43 := by decide
                  have y_45 : (45 : Int32).toInt = 45 := by decide
                  omega
                have ha_353 : 0 ≤ (sv_314 : Int32).toInt ∧ (sv_314 : Int32).toInt ≤ ((Mv 0) : Int32).toInt ∧ ((Mv 0) : Int32).toInt ≤ 400 := by
                  have z_1 : ¬ (r_13 : Int32).toInt = (0 : Int32).toInt := fun z => c_18 (Int32.toInt_inj.mp z)
                  have z_2 : ¬ (r_62 : Int32).toInt = (43 : Int32).toInt := fun z => c_65 (Int32.toInt_inj.mp z)
                  have z_3 := congrArg Int32.toInt c_224
                  have z_4 := congrArg Int32.toInt c_234
                  have z_5 : ¬ (r_323 : Int32).toInt = (0 : Int32).toInt := fun z => c_328 (Int32.toInt_inj.mp z)
                  have y_0 : (0 : Int32).toInt = 0 := by decide
                  have y_43 : (43 : Int32).toInt = 43 := by decide
                  have y_45 : (45 : Int32).toInt = 45 := by decide
                  omega
                have ha_354 : (Mv 6).toInt ≤ (sv_317 : Int32).toInt ∧ (sv_317 : Int32).toInt ≤ 60 := by
                  have z_1 : ¬ (r_13 : Int32).toInt = (0 : Int32).toInt := fun z => c_18 (Int32.toInt_inj.mp z)
                  have z_2 : ¬ (r_62 : Int32).toInt = (43 : Int32).toInt := fun z => c_65 (Int32.toInt_inj.mp z)
                  have z_3 := congrArg Int32.toInt c_224
                  have z_4 := congrArg Int32.toInt c_234
                  have z_5 : ¬ (r_323 : Int32).toInt = (0 : Int32).toInt := fun z => c_328 (Int32.toInt_inj.mp z)
                  have y_0 : (0 : Int32).toInt = 0 := by decide
                  have y_43 : (43 : Int32).toInt = 43 := by decide
                  have y_45 : (45 : Int32).toInt = 45 := by decide
                  omega
                have ha_355 : ((Mf 3) (Mv 5).toNatClampNeg).toInt + 1 ≤ (sv_346 (Mv 5).toNatClampNeg).toInt ∧ (sv_346 (Mv 5).toNatClampNeg).toInt + ((Mv 2) : Int32).toInt ≤ ((Mf 3) (Mv 5).toNatClampNeg).toInt + (sv_314 : Int32).toInt ∧ ((Mv 2) : Int32).toInt + 1 ≤ (sv_314 : Int32).toInt := by
                  have z_1 : ¬ (r_13 : Int32).toInt = (0 : Int32).toInt := fun z => c_18 (Int32.toInt_inj.mp z)
                  have z_2 : ¬ (r_62 : Int32).toInt = (43 : Int32).toInt := fun z => c_65 (Int32.toInt_inj.mp z)
                  have z_3 := congrArg Int32.toInt c_224
                  have z_4 := congrArg Int32.toInt c_234
                  have z_5 : ¬ (r_323 : Int32).toInt = (0 : Int32).toInt := fun z => c_328 (Int32.toInt_inj.mp z)
                  have y_0 : (0 : Int32).toInt = 0 := by decide
                  have y_43 : (43 : Int32).toInt = 43 := by decide
                  have y_45 : (45 : Int32).toInt = 45 := by decide
                  omega
                have hr_356 : (400 * ((Mv 5) : Int32).toInt + ((Mf 3) (Mv 5).toNatClampNeg).toInt) ≤ (400 * ((Mv 5) : Int32).toInt + ((Mf 3) (Mv 5).toNatClampNeg).toInt) := by
                  have z_1 : ¬ (r_13 : Int32).toInt = (0 : Int32).toInt := fun z => c_18 (Int32.toInt_inj.mp z)
                  have z_2 : ¬ (r_62 : Int32).toInt = (43 : Int32).toInt := fun z => c_65 (Int32.toInt_inj.mp z)
                  have z_3 := congrArg Int32.toInt c_224
                  have z_4 := congrArg Int32.toInt c_234
                  have z_5 : ¬ (r_323 : Int32).toInt = (0 : Int32).toInt := fun z => c_328 (Int32.toInt_inj.mp z)
                  have y_0 : (0 : Int32).toInt = 0 := by decide
                  have y_43 : (43 : Int32).toInt = 43 := by decide
                  have y_45 : (45 : Int32).toInt = 45 := by decide
                  omega
                have hr_357 : (400 * ((Mv 5) : Int32).toInt + ((Mf 3) (Mv 5).toNatClampNeg).toInt) ≤ (400 * ((Mv 5) : Int32).toInt + (vy_38 (Mv 5).toNatClampNeg).toInt) := by
                  have z_1 : ¬ (r_13 : Int32).toInt = (0 : Int32).toInt := fun z => c_18 (Int32.toInt_inj.mp z)
                  have z_2 : ¬ (r_62 : Int32).toInt = (43 : Int32).toInt := fun z => c_65 (Int32.toInt_inj.mp z)
                  have z_3 := congrArg Int32.toInt c_224
                  have z_4 := congrArg Int32.toInt c_234
                  have z_5 : ¬ (r_323 : Int32).toInt = (0 : Int32).toInt := fun z => c_328 (Int32.toInt_inj.mp z)
                  have y_0 : (0 : Int32).toInt = 0 := by decide
                  have y_43 : (43 : Int32).toInt = 43 := by decide
                  have y_45 : (45 : Int32).toInt = 45 := by decide
                  omega
                have hr_358 : (400 * ((Mv 5) : Int32).toInt + ((Mf 3) (Mv 5).toNatClampNeg).toInt) ≤ (400 * ((Mv 5) : Int32).toInt + (sv_319 (Mv 5).toNatClampNeg).toInt) := by
                  have z_1 : ¬ (r_13 : Int32).toInt = (0 : Int32).toInt := fun z => c_18 (Int32.toInt_inj.mp z)
                  have z_2 : ¬ (r_62 : Int32).toInt = (43 : Int32).toInt := fun z => c_65 (Int32.toInt_inj.mp z)
                  have z_3 := congrArg Int32.toInt c_224
                  have z_4 := congrArg Int32.toInt c_234
                  have z_5 : ¬ (r_323 : Int32).toInt = (0 : Int32).toInt := fun z => c_328 (Int32.toInt_inj.mp z)
                  have y_0 : (0 : Int32).toInt = 0 := by decide
                  have y_43 : (43 : Int32).toInt = 43 := by decide
                  have y_45 : (45 : Int32).toInt = 45 := by decide
                  omega
                have hr_359 : (rB (Mf 1) (Mv 0) (sv_215 : Int32).toInt.toNat = 43 ∨ rB (Mf 1) (Mv 0) (sv_215 : Int32).toInt.toNat = 45) := by
                  have z_1 : ¬ (r_13 : Int32).toInt = (0 : Int32).toInt := fun z => c_18 (Int32.toInt_inj.mp z)
                  have z_2 : ¬ (r_62 : Int32).toInt = (43 : Int32).toInt := fun z => c_65 (Int32.toInt_inj.mp z)
                  have z_3 := congrArg Int32.toInt c_224
                  have z_4 := congrArg Int32.toInt c_234
                  have z_5 : ¬ (r_323 : Int32).toInt = (0 : Int32).toInt := fun z => c_328 (Int32.toInt_inj.mp z)
                  have y_0 : (0 : Int32).toInt = 0 := by decide
                  have y_43 : (43 : Int32).toInt = 43 := by decide
                  have y_45 : (45 : Int32).toInt = 45 := by decide
                  omega
                have hi_360 : (x_306 : Int32).toInt = (sv_215 : Int32).toInt + 1 := by
                  have z_1 : ¬ (r_13 : Int32).toInt = (0 : Int32).toInt := fun z => c_18 (Int32.toInt_inj.mp z)
                  have z_2 : ¬ (r_62 : Int32).toInt = (43 : Int32).toInt := fun z => c_65 (Int32.toInt_inj.mp z)
                  have z_3 := congrArg Int32.toInt c_224
                  have z_4 := congrArg Int32.toInt c_234
                  have z_5 : ¬ (r_323 : Int32).toInt = (0 : Int32).toInt := fun z => c_328 (Int32.toInt_inj.mp z)
                  have y_0 : (0 : Int32).toInt = 0 := by decide
                  have y_43 : (43 : Int32).toInt = 43 := by decide
                  have y_45 : (45 : Int32).toInt = 45 := by decide
                  have y_1 : (1 : Int32).toInt = 1 := by decide
                  have t_x_306 : x_306.toInt = (sv_215 : Int32).toInt + (1 : Int32).toInt := by rw [ex_306]; exact add_toInt (by omega) (by omega)
                  omega
                have hr_361 : (rB (Mf 1) (Mv 0) (sv_215 : Int32).toInt.toNat = 43 ∨ rB (Mf 1) (Mv 0) (sv_215 : Int32).toInt.toNat = 45) := by
                  have z_1 : ¬ (r_13 : Int32).toInt = (0 : Int32).toInt := fun z => c_18 (Int32.toInt_inj.mp z)
                  have z_2 : ¬ (r_62 : Int32).toInt = (43 : Int32).toInt := fun z => c_65 (Int32.toInt_inj.mp z)
                  have z_3 := congrArg Int32.toInt c_224
                  have z_4 := congrArg Int32.toInt c_234
                  have z_5 : ¬ (r_323 : Int32).toInt = (0 : Int32).toInt := fun z => c_328 (Int32.toInt_inj.mp z)
                  have y_0 : (0 : Int32).toInt = 0 := by decide
                  have y_43 : (43 : Int32).toInt = 43 := by decide
                  have y_45 : (45 : Int32).toInt = 45 := by decide
                  omega
                have rg_362 := rB_rg (n := (Mv 0)) h_bs (sv_215 : Int32).toInt.toNat
                have hr_363 : rB (Mf 1) (Mv 0) (sv_215 : Int32).toInt.toNat = 43 := by
                  have z_1 : ¬ (r_13 : Int32).toInt = (0 : Int32).toInt := fun z => c_18 (Int32.toInt_inj.mp z)
                  have z_2 : ¬ (r_62 : Int32).toInt = (43 : Int32).toInt := fun z => c_65 (Int32.toInt_inj.mp z)
                  have z_3 := congrArg Int32.toInt c_224
                  have z_4 := congrArg Int32.toInt c_234
                  have z_5 : ¬ (r_323 : Int32).toInt = (0 : Int32).toInt := fun z => c_328 (Int32.toInt_inj.mp z)
                  have y_0 : (0 : Int32).toInt = 0 := by decide
                  have y_43 : (43 : Int32).toInt = 43 := by decide
                  have y_45 : (45 : Int32).toInt = 45 := by decide
                  omega
                have ho_364 : (-12 : Int) = ec_o (rB (Mf 1) (Mv 0) (sv_215 : Int32).toInt.toNat) := by rw [hr_363]; decide
                have hi_365 : (x_306 : Int32).toInt = (sv_215 : Int32).toInt + 1 := by
                  have z_1 : ¬ (r_13 : Int32).toInt = (0 : Int32).toInt := fun z => c_18 (Int32.toInt_inj.mp z)
                  have z_2 : ¬ (r_62 : Int32).toInt = (43 : Int32).toInt := fun z => c_65 (Int32.toInt_inj.mp z)
                  have z_3 := congrArg Int32.toInt c_224
                  have z_4 := congrArg Int32.toInt c_234
                  have z_5 : ¬ (r_323 : Int32).toInt = (0 : Int32).toInt := fun z => c_328 (Int32.toInt_inj.mp z)
                  have y_0 : (0 : Int32).toInt = 0 := by decide
                  have y_43 : (43 : Int32).toInt = 43 := by decide
                  have y_45 : (45 : Int32).toInt = 45 := by decide
                  have y_1 : (1 : Int32).toInt = 1 := by decide
                  have t_x_306 : x_306.toInt = (sv_215 : Int32).toInt + (1 : Int32).toInt := by rw [ex_306]; exact add_toInt (by omega) (by omega)
                  omega
                have hu_366 : SgC sv_345 sv_346 (Mv 5) (((ll ++ xq_50) ++ xq_333) ++ [(-12)]) := by
                  rw [← elo_53, ← elo_336, ← elo_351]
                  exact pf_350
                exact ih_40 sv_314 sv_315 sv_316 sv_317 sv_345 sv_346 _ _ _ (by omega) ha_353 ha_354 ha_355 (Agr.trans (k' := (400 * ((Mv 5) : Int32).toInt + ((Mf 3) (Mv 5).toNatClampNeg).toInt)) (Agr.trans (k' := (400 * ((Mv 5) : Int32).toInt + ((Mf 3) (Mv 5).toNatClampNeg).toInt)) (Agr.mono pf_45 hr_356) pf_322 ⟨Int.le_refl _, hr_357⟩) pf_348 ⟨Int.le_refl _, hr_358⟩) pf_347 (TmO.next (rB_fi h_nx.2.2) pf_47 (SkR.trans pf_61 pf_219) hr_359 hi_360 pf_330) (SmD.next (rB_fi h_nx.2.2) pf_52 (SkR.trans pf_61 pf_219) hr_361 ho_364 hi_365 pf_335 pf_330.2 hu_366) (hP.sub [1, 0, 2, 3] rfl) (hD.sub [1, 0, 2, 3] rfl rfl) hS (lv_sub hl [1] rfl)
              · skip
                have hz_368 : (r_323 : Int32).toInt = 0 := by
                  have z_1 : ¬ (r_13 : Int32).toInt = (0 : Int32).toInt := fun z => c_18 (Int32.toInt_inj.mp z)
                  have z_2 : ¬ (r_62 : Int32).toInt = (43 : Int32).toInt := fun z => c_65 (Int32.toInt_inj.mp z)
                  have z_3 := congrArg Int32.toInt c_224
                  have z_4 := congrArg Int32.toInt c_234
                  have z_5 := congrArg Int32.toInt c_328
                  have y_0 : (0 : Int32).toInt = 0 := by decide
                  have y_43 : (43 : Int32).toInt = 43 := by decide
                  have y_45 : (45 : Int32).toInt = 45 := by decide
                  omega
                obtain pf_367 := hm_327 hz_368
                have pf_367 : RfE (pz_sum (rB (Mf 1) (Mv 0)) (St0 (rB (Mf 1) (Mv 0)) x_306 vy_36)) sv_315 := pf_367
                refine lv_iconst (v := 0) hx hb dX12_sum_64 (by decide) ?_
                have ha_369 : ((Mv 2) : Int32).toInt ≤ (sv_314 : Int32).toInt ∧ (sv_314 : Int32).toInt ≤ ((Mv 0) : Int32).toInt := by
                  have z_1 : ¬ (r_13 : Int32).toInt = (0 : Int32).toInt := fun z => c_18 (Int32.toInt_inj.mp z)
                  have z_2 : ¬ (r_62 : Int32).toInt = (43 : Int32).toInt := fun z => c_65 (Int32.toInt_inj.mp z)
                  have z_3 := congrArg Int32.toInt c_224
                  have z_4 := congrArg Int32.toInt c_234
                  have z_5 := congrArg Int32.toInt c_328
                  have y_0 : (0 : Int32).toInt = 0 := by decide
                  have y_43 : (43 : Int32).toInt = 43 := by decide
                  have y_45 : (45 : Int32).toInt = 45 := by decide
                  omega
                have ha_370 : ((Mv 6) : Int32).toInt ≤ (sv_317 : Int32).toInt ∧ (sv_317 : Int32).toInt ≤ 60 := by
                  have z_1 : ¬ (r_13 : Int32).toInt = (0 : Int32).toInt := fun z => c_18 (Int32.toInt_inj.mp z)
                  have z_2 : ¬ (r_62 : Int32).toInt = (43 : Int32).toInt := fun z => c_65 (Int32.toInt_inj.mp z)
                  have z_3 := congrArg Int32.toInt c_224
                  have z_4 := congrArg Int32.toInt c_234
                  have z_5 := congrArg Int32.toInt c_328
                  have y_0 : (0 : Int32).toInt = 0 := by decide
                  have y_43 : (43 : Int32).toInt = 43 := by decide
                  have y_45 : (45 : Int32).toInt = 45 := by decide
                  omega
                have hr_371 : (400 * ((Mv 5) : Int32).toInt + ((Mf 3) (Mv 5).toNatClampNeg).toInt) ≤ (400 * ((Mv 5) : Int32).toInt + ((Mf 3) (Mv 5).toNatClampNeg).toInt) := by
                  have z_1 : ¬ (r_13 : Int32).toInt = (0 : Int32).toInt := fun z => c_18 (Int32.toInt_inj.mp z)
                  have z_2 : ¬ (r_62 : Int32).toInt = (43 : Int32).toInt := fun z => c_65 (Int32.toInt_inj.mp z)
                  have z_3 := congrArg Int32.toInt c_224
                  have z_4 := congrArg Int32.toInt c_234
                  have z_5 := congrArg Int32.toInt c_328
                  have y_0 : (0 : Int32).toInt = 0 := by decide
                  have y_43 : (43 : Int32).toInt = 43 := by decide
                  have y_45 : (45 : Int32).toInt = 45 := by decide
                  omega
                have hr_372 : (400 * ((Mv 5) : Int32).toInt + ((Mf 3) (Mv 5).toNatClampNeg).toInt) ≤ (400 * ((Mv 5) : Int32).toInt + (vy_38 (Mv 5).toNatClampNeg).toInt) := by
                  have z_1 : ¬ (r_13 : Int32).toInt = (0 : Int32).toInt := fun z => c_18 (Int32.toInt_inj.mp z)
                  have z_2 : ¬ (r_62 : Int32).toInt = (43 : Int32).toInt := fun z => c_65 (Int32.toInt_inj.mp z)
                  have z_3 := congrArg Int32.toInt c_224
                  have z_4 := congrArg Int32.toInt c_234
                  have z_5 := congrArg Int32.toInt c_328
                  have y_0 : (0 : Int32).toInt = 0 := by decide
                  have y_43 : (43 : Int32).toInt = 43 := by decide
                  have y_45 : (45 : Int32).toInt = 45 := by decide
                  omega
                have hp_373 : (((0 : Int32).toInt = 0 ∧ ¬ (sv_315 : Int32).toInt = 0) ∨ ((0 : Int32).toInt = 1 ∧ ((Mf 3) (Mv 5).toNatClampNeg).toInt + 1 ≤ (sv_319 (Mv 5).toNatClampNeg).toInt ∧ (sv_319 (Mv 5).toNatClampNeg).toInt + ((Mv 2) : Int32).toInt ≤ ((Mf 3) (Mv 5).toNatClampNeg).toInt + (sv_314 : Int32).toInt ∧ ((Mv 2) : Int32).toInt + 1 ≤ (sv_314 : Int32).toInt)) := by
                  have z_1 : ¬ (r_13 : Int32).toInt = (0 : Int32).toInt := fun z => c_18 (Int32.toInt_inj.mp z)
                  have z_2 : ¬ (r_62 : Int32).toInt = (43 : Int32).toInt := fun z => c_65 (Int32.toInt_inj.mp z)
                  have z_3 := congrArg Int32.toInt c_224
                  have z_4 := congrArg Int32.toInt c_234
                  have z_5 := congrArg Int32.toInt c_328
                  have y_0 : (0 : Int32).toInt = 0 := by decide
                  have y_43 : (43 : Int32).toInt = 43 := by decide
                  have y_45 : (45 : Int32).toInt = 45 := by decide
                  omega
                have hm_374 : (0 : Int32).toInt = 0 → (RfE (pz_sum (rB (Mf 1) (Mv 0)) (St0 (rB (Mf 1) (Mv 0)) (Mv 2) (Mv 6))) sv_315) := by
                  intro h1r
                  have hr_375 : (rB (Mf 1) (Mv 0) (sv_215 : Int32).toInt.toNat = 43 ∨ rB (Mf 1) (Mv 0) (sv_215 : Int32).toInt.toNat = 45) := by
                    have z_1 : ¬ (r_13 : Int32).toInt = (0 : Int32).toInt := fun z => c_18 (Int32.toInt_inj.mp z)
                    have z_2 : ¬ (r_62 : Int32).toInt = (43 : Int32).toInt := fun z => c_65 (Int32.toInt_inj.mp z)
                    have z_3 := congrArg Int32.toInt c_224
                    have z_4 := congrArg Int32.toInt c_234
                    have z_5 := congrArg Int32.toInt c_328
                    have y_0 : (0 : Int32).toInt = 0 := by decide
                    have y_43 : (43 : Int32).toInt = 43 := by decide
                    have y_45 : (45 : Int32).toInt = 45 := by decide
                    omega
                  have hi_376 : (x_306 : Int32).toInt = (sv_215 : Int32).toInt + 1 := by
                    have z_1 : ¬ (r_13 : Int32).toInt = (0 : Int32).toInt := fun z => c_18 (Int32.toInt_inj.mp z)
                    have z_2 : ¬ (r_62 : Int32).toInt = (43 : Int32).toInt := fun z => c_65 (Int32.toInt_inj.mp z)
                    have z_3 := congrArg Int32.toInt c_224
                    have z_4 := congrArg Int32.toInt c_234
                    have z_5 := congrArg Int32.toInt c_328
                    have y_0 : (0 : Int32).toInt = 0 := by decide
                    have y_43 : (43 : Int32).toInt = 43 := by decide
                    have y_45 : (45 : Int32).toInt = 45 := by decide
                    have y_1 : (1 : Int32).toInt = 1 := by decide
                    have t_x_306 : x_306.toInt = (sv_215 : Int32).toInt + (1 : Int32).toInt := by rw [ex_306]; exact add_toInt (by omega) (by omega)
                    omega
                  exact (TmO.er (rB_fi h_nx.2.2) pf_47 (SkR.trans pf_61 pf_219) hr_375 hi_376 pf_367)
                exact retI (v := 0) hx hb hr hlk (rfl) hP hD hS (sv_314, sv_315, sv_316, sv_317, sv_318, sv_319) ⟨_, rfl, hp_373, ha_369, ha_370, (Agr.trans (k' := (400 * ((Mv 5) : Int32).toInt + ((Mf 3) (Mv 5).toNatClampNeg).toInt)) (Agr.mono pf_45 hr_371) pf_322 ⟨Int.le_refl _, hr_372⟩), (fun h => absurd h (by decide)), hm_374⟩ [0, 1, 2, 3] rfl rfl dX12_sum_65 (Nat.le_of_ble_eq_true rfl) (Nat.le_of_ble_eq_true rfl) rfl
    have ha_377 : 0 ≤ (sv_4 : Int32).toInt ∧ (sv_4 : Int32).toInt ≤ ((Mv 0) : Int32).toInt ∧ ((Mv 0) : Int32).toInt ≤ 400 := by
      have z_1 : ¬ (r_13 : Int32).toInt = (0 : Int32).toInt := fun z => c_18 (Int32.toInt_inj.mp z)
      have y_0 : (0 : Int32).toInt = 0 := by decide
      omega
    have ha_378 : (Mv 6).toInt ≤ (sv_7 : Int32).toInt ∧ (sv_7 : Int32).toInt ≤ 60 := by
      have z_1 : ¬ (r_13 : Int32).toInt = (0 : Int32).toInt := fun z => c_18 (Int32.toInt_inj.mp z)
      have y_0 : (0 : Int32).toInt = 0 := by decide
      omega
    have ha_379 : ((Mf 3) (Mv 5).toNatClampNeg).toInt + 1 ≤ (sv_9 (Mv 5).toNatClampNeg).toInt ∧ (sv_9 (Mv 5).toNatClampNeg).toInt + ((Mv 2) : Int32).toInt ≤ ((Mf 3) (Mv 5).toNatClampNeg).toInt + (sv_4 : Int32).toInt ∧ ((Mv 2) : Int32).toInt + 1 ≤ (sv_4 : Int32).toInt := by
      have z_1 : ¬ (r_13 : Int32).toInt = (0 : Int32).toInt := fun z => c_18 (Int32.toInt_inj.mp z)
      have y_0 : (0 : Int32).toInt = 0 := by decide
      omega
    exact loop_41 _ sv_4 sv_5 sv_6 sv_7 sv_8 sv_9 _ _ _ (Nat.lt_succ_self _) ha_377 ha_378 ha_379 pf_12 pf_19 pf_20 (SmD.first pf_21) hP hD hS hl
  · skip
    have hz_381 : (r_13 : Int32).toInt = 0 := by
      have z_1 := congrArg Int32.toInt c_18
      have y_0 : (0 : Int32).toInt = 0 := by decide
      omega
    obtain pf_380 := hm_17 hz_381
    have pf_380 : RfE (pz_sum (rB (Mf 1) (Mv 0)) (St0 (rB (Mf 1) (Mv 0)) (Mv 2) (Mv 6))) sv_5 := pf_380
    refine lv_iconst (v := 0) hx hb dX12_sum_7 (by decide) ?_
    have hp_382 : (((0 : Int32).toInt = 0 ∧ ¬ (sv_5 : Int32).toInt = 0) ∨ ((0 : Int32).toInt = 1 ∧ ((Mf 3) (Mv 5).toNatClampNeg).toInt + 1 ≤ (sv_9 (Mv 5).toNatClampNeg).toInt ∧ (sv_9 (Mv 5).toNatClampNeg).toInt + ((Mv 2) : Int32).toInt ≤ ((Mf 3) (Mv 5).toNatClampNeg).toInt + (sv_4 : Int32).toInt ∧ ((Mv 2) : Int32).toInt + 1 ≤ (sv_4 : Int32).toInt)) := by
      have z_1 := congrArg Int32.toInt c_18
      have y_0 : (0 : Int32).toInt = 0 := by decide
      omega
    have hm_383 : (0 : Int32).toInt = 0 → (RfE (pz_sum (rB (Mf 1) (Mv 0)) (St0 (rB (Mf 1) (Mv 0)) (Mv 2) (Mv 6))) sv_5) := by
      intro h1r
      exact pf_380
    exact retI (v := 0) hx hb hr hlk (rfl) hP hD hS (sv_4, sv_5, sv_6, sv_7, sv_8, sv_9) ⟨_, rfl, hp_382, pf_10, pf_11, pf_12, (fun h => absurd h (by decide)), hm_383⟩ [0, 1, 2, 3] rfl rfl dX12_sum_8 (Nat.le_of_ble_eq_true rfl) (Nat.le_of_ble_eq_true rfl) rfl
set_option maxRecDepth 100000 in
theorem cu_kX12_sum (l : Launch) (D : va_G) (tc : Nat → ClassId) (sk : (Nat → Nat) × (Nat → Nat)) (Ma_0 : Nat) (Ma_1 : Nat) (Ma_2 : Nat) (Ma_3 : Nat) (Ma_4 : Nat) (Ma_5 : Nat) (Ma_6 : Nat) (Ma_7 : Nat) (Ma_8 : Nat) (Ma_9 : Nat) (Ma_10 : Nat) (Ma_11 : Nat) (Ma_12 : Nat) (Ma_13 : Nat) (Ma_14 : Nat) (Ma_15 : Nat) (Ma_16 : Nat) (Ma_17 : Nat) (Ma_18 : Nat) (Ma_19 : Nat) (Ma_20 : Nat) (Mv_0 : Int32) (Mv_1 : Int32) (Mv_2 : Int32) (Mv_3 : Int32) (Mv_4 : Int32) (Mv_5 : Int32) (Mv_6 : Int32) (Mv_7 : Int32) (Mv_8 : Int32) (Mv_9 : Int32) (Mv_10 : Int32) (Mv_11 : Int32) (Mv_12 : Int32) (Mv_13 : Int32) (Mv_14 : Int32) (Mf_1 : Nat → Int32) (Mf_2 : Nat → Int32) (Mf_3 : Nat → Int32) (Mj_0 : Int64) (b : Int32) (d : Nat) (ll : List Int) (h_nx : 0 ≤ (Mv_2 : Int32).toInt ∧ (Mv_2 : Int32).toInt ≤ (Mv_0 : Int32).toInt ∧ (Mv_0 : Int32).toInt ≤ 400) (h_cd : Cd Mf_2 Mf_3 Mv_5 b Mv_6 d) (h_L : (Mf_3 Mv_5.toNatClampNeg).toInt ≤ (Mv_2 : Int32).toInt) (h_md : 0 ≤ (Mv_6 : Int32).toInt ∧ (Mv_6 : Int32).toInt ≤ 60) (h_bs : ByS Mf_1) (h_w : (Mv_3 : Int32).toInt = 0) (h_sg : SgC Mf_2 Mf_3 Mv_5 ll) : Ct l yX12_sum cX12_sum 2 (some .boolean) { frames := 5, cells := 0, slots := 0, locals := 109 } D tc sk [.ref Ma_0] [(Ma_0, .inr (12, [.ref Ma_1, .int Mv_0, .int Mv_1, .ref Ma_2, .ref Ma_3, .ref Ma_4, .ref Ma_5, .ref Ma_6, .int Mv_2, .int Mv_3, .int Mv_4, .int Mv_5, .int Mv_6, .int Mv_7, .int Mv_8, .ref Ma_7, .int Mv_9, .ref Ma_8, .int Mv_10, .ref Ma_9, .ref Ma_10, .int Mv_11, .int Mv_12, .int Mv_13, .ref Ma_11, .int Mv_14, .ref Ma_12, .ref Ma_13, .ref Ma_14, .ref Ma_15, .ref Ma_16, .long Mj_0, .ref Ma_17, .ref Ma_18, .ref Ma_19, .ref Ma_20])), (Ma_1, .inl (tc 2, 400, .inl Mf_1)), (Ma_2, .inl (tc 0, 2400, .inl Mf_2)), (Ma_3, .inl (tc 0, 7, .inl Mf_3))] (fun (v : Option Value) (u : (Int32) × (Int32) × (Int32) × (Int32) × (Nat → Int32) × (Nat → Int32)) => match u with | (oo0x1, oo0x2, oo0x3, oo0x4, oo0x5, oo0x6) => ∃ r : Int32, v = some (.int r) ∧ (((r.toInt = 0 ∧ ¬ (oo0x2 : Int32).toInt = 0) ∨ (r.toInt = 1 ∧ (Mf_3 Mv_5.toNatClampNeg).toInt + 1 ≤ (oo0x6 Mv_5.toNatClampNeg).toInt ∧ (oo0x6 Mv_5.toNatClampNeg).toInt + (Mv_2 : Int32).toInt ≤ (Mf_3 Mv_5.toNatClampNeg).toInt + (oo0x1 : Int32).toInt ∧ (Mv_2 : Int32).toInt + 1 ≤ (oo0x1 : Int32).toInt))) ∧ ((Mv_2 : Int32).toInt ≤ (oo0x1 : Int32).toInt ∧ (oo0x1 : Int32).toInt ≤ (Mv_0 : Int32).toInt) ∧ ((Mv_6 : Int32).toInt ≤ (oo0x4 : Int32).toInt ∧ (oo0x4 : Int32).toInt ≤ 60) ∧ (Agr Mf_2 oo0x5 (400 * (Mv_5 : Int32).toInt + (Mf_3 Mv_5.toNatClampNeg).toInt)) ∧ (r.toInt = 1 → (Cd oo0x5 oo0x6 Mv_5 b oo0x4 (d + 1)) ∧ (RfO (pz_sum (rB Mf_1 Mv_0) (St0 (rB Mf_1 Mv_0) Mv_2 Mv_6)) (rB Mf_1 Mv_0) oo0x2 oo0x1 oo0x4) ∧ (SgC oo0x5 oo0x6 Mv_5 (ll ++ lsum (rB Mf_1 Mv_0) (St0 (rB Mf_1 Mv_0) Mv_2 Mv_6)))) ∧ (r.toInt = 0 → (RfE (pz_sum (rB Mf_1 Mv_0) (St0 (rB Mf_1 Mv_0) Mv_2 Mv_6)) oo0x2))) (fun (u : (Int32) × (Int32) × (Int32) × (Int32) × (Nat → Int32) × (Nat → Int32)) => match u with | (oo0x1, oo0x2, oo0x3, oo0x4, oo0x5, oo0x6) => [(Ma_0, .inr (12, [.ref Ma_1, .int Mv_0, .int Mv_1, .ref Ma_2, .ref Ma_3, .ref Ma_4, .ref Ma_5, .ref Ma_6, .int oo0x1, .int oo0x2, .int oo0x3, .int Mv_5, .int oo0x4, .int Mv_7, .int Mv_8, .ref Ma_7, .int Mv_9, .ref Ma_8, .int Mv_10, .ref Ma_9, .ref Ma_10, .int Mv_11, .int Mv_12, .int Mv_13, .ref Ma_11, .int Mv_14, .ref Ma_12, .ref Ma_13, .ref Ma_14, .ref Ma_15, .ref Ma_16, .long Mj_0, .ref Ma_17, .ref Ma_18, .ref Ma_19, .ref Ma_20])), (Ma_1, .inl (tc 2, 400, .inl Mf_1)), (Ma_2, .inl (tc 0, 2400, .inl oo0x5)), (Ma_3, .inl (tc 0, 7, .inl oo0x6))]) 0 0 :=
  ct_kX12_sum l D tc sk (fun k => ([Ma_0, Ma_1, Ma_2, Ma_3, Ma_4, Ma_5, Ma_6, Ma_7, Ma_8, Ma_9, Ma_10, Ma_11, Ma_12, Ma_13, Ma_14, Ma_15, Ma_16, Ma_17, Ma_18, Ma_19, Ma_20] : List (Nat)).getD k 0) (fun k => ([Mv_0, Mv_1, Mv_2, Mv_3, Mv_4, Mv_5, Mv_6, Mv_7, Mv_8, Mv_9, Mv_10, Mv_11, Mv_12, Mv_13, Mv_14] : List (Int32)).getD k 0) (fun k => ([(fun _ => 0), Mf_1, Mf_2, Mf_3] : List (Nat → Int32)).getD k (fun _ => 0)) (fun k => ([Mj_0] : List (Int64)).getD k 0) b d ll h_nx h_cd h_L h_md h_bs h_w h_sg
