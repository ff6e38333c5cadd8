set_option maxRecDepth 16384
set_option maxHeartbeats 4000000 in
set_option maxRecDepth 100000 in
theorem ct_kX12_term (l : Launch) (D : va_G) (tc : Nat → ClassId) (sk : (Nat → Nat) × (Nat → Nat)) (Ma : Nat → Nat) (Mv : Nat → Int32) (Mf : Nat → Nat → Int32) (Mj : Nat → Int64) (b : Int32) (d : Nat) (ll : List Int) (h_nx : 0 ≤ ((Mv 2) : Int32).toInt ∧ ((Mv 2) : Int32).toInt ≤ ((Mv 0) : Int32).toInt ∧ ((Mv 0) : Int32).toInt ≤ 400) (h_cd : Cd (Mf 2) (Mf 3) (Mv 5) b (Mv 6) d) (h_L : ((Mf 3) (Mv 5).toNatClampNeg).toInt ≤ ((Mv 2) : Int32).toInt) (h_md : 0 ≤ ((Mv 6) : Int32).toInt ∧ ((Mv 6) : Int32).toInt ≤ 60) (h_bs : ByS (Mf 1)) (h_w : ((Mv 3) : Int32).toInt = 0) (h_sg : SgC (Mf 2) (Mf 3) (Mv 5) ll) : Ct l yX12_term cX12_term 2 (some .boolean) { frames := 4, cells := 0, slots := 0, locals := 88 } D tc sk [.ref (Ma 0)] [((Ma 0), .inr (12, [.ref (Ma 1), .int (Mv 0), .int (Mv 1), .ref (Ma 2), .ref (Ma 3), .ref (Ma 4), .ref (Ma 5), .ref (Ma 6), .int (Mv 2), .int (Mv 3), .int (Mv 4), .int (Mv 5), .int (Mv 6), .int (Mv 7), .int (Mv 8), .ref (Ma 7), .int (Mv 9), .ref (Ma 8), .int (Mv 10), .ref (Ma 9), .ref (Ma 10), .int (Mv 11), .int (Mv 12), .int (Mv 13), .ref (Ma 11), .int (Mv 14), .ref (Ma 12), .ref (Ma 13), .ref (Ma 14), .ref (Ma 15), .ref (Ma 16), .long (Mj 0), .ref (Ma 17), .ref (Ma 18), .ref (Ma 19), .ref (Ma 20)])), ((Ma 1), .inl (tc 2, 400, .inl (Mf 1))), ((Ma 2), .inl (tc 0, 2400, .inl (Mf 2))), ((Ma 3), .inl (tc 0, 7, .inl (Mf 3)))] (fun (v : Option Value) (u : (Int32) × (Int32) × (Int32) × (Int32) × (Nat → Int32) × (Nat → Int32)) => match u with | (oo0x1, oo0x2, oo0x3, oo0x4, oo0x5, oo0x6) => ∃ r : Int32, v = some (.int r) ∧ (((r.toInt = 0 ∧ ¬ (oo0x2 : Int32).toInt = 0) ∨ (r.toInt = 1 ∧ ((Mf 3) (Mv 5).toNatClampNeg).toInt + 1 ≤ (oo0x6 (Mv 5).toNatClampNeg).toInt ∧ (oo0x6 (Mv 5).toNatClampNeg).toInt + ((Mv 2) : Int32).toInt ≤ ((Mf 3) (Mv 5).toNatClampNeg).toInt + (oo0x1 : Int32).toInt ∧ ((Mv 2) : Int32).toInt + 1 ≤ (oo0x1 : Int32).toInt))) ∧ (((Mv 2) : Int32).toInt ≤ (oo0x1 : Int32).toInt ∧ (oo0x1 : Int32).toInt ≤ ((Mv 0) : Int32).toInt) ∧ (((Mv 6) : Int32).toInt ≤ (oo0x4 : Int32).toInt ∧ (oo0x4 : Int32).toInt ≤ 60) ∧ (Agr (Mf 2) oo0x5 (400 * ((Mv 5) : Int32).toInt + ((Mf 3) (Mv 5).toNatClampNeg).toInt)) ∧ (r.toInt = 1 → (Cd oo0x5 oo0x6 (Mv 5) b oo0x4 (d + 1)) ∧ (TmO (pz_sum (rB (Mf 1) (Mv 0)) (St0 (rB (Mf 1) (Mv 0)) (Mv 2) (Mv 6))) (rB (Mf 1) (Mv 0)) oo0x2 oo0x1 oo0x4) ∧ (TmC ll (rB (Mf 1) (Mv 0)) (St0 (rB (Mf 1) (Mv 0)) (Mv 2) (Mv 6)) oo0x5 oo0x6 (Mv 5) oo0x1)) ∧ (r.toInt = 0 → (RfE (pz_sum (rB (Mf 1) (Mv 0)) (St0 (rB (Mf 1) (Mv 0)) (Mv 2) (Mv 6))) oo0x2))) (fun (u : (Int32) × (Int32) × (Int32) × (Int32) × (Nat → Int32) × (Nat → Int32)) => match u with | (oo0x1, oo0x2, oo0x3, oo0x4, oo0x5, oo0x6) => [((Ma 0), .inr (12, [.ref (Ma 1), .int (Mv 0), .int (Mv 1), .ref (Ma 2), .ref (Ma 3), .ref (Ma 4), .ref (Ma 5), .ref (Ma 6), .int oo0x1, .int oo0x2, .int oo0x3, .int (Mv 5), .int oo0x4, .int (Mv 7), .int (Mv 8), .ref (Ma 7), .int (Mv 9), .ref (Ma 8), .int (Mv 10), .ref (Ma 9), .ref (Ma 10), .int (Mv 11), .int (Mv 12), .int (Mv 13), .ref (Ma 11), .int (Mv 14), .ref (Ma 12), .ref (Ma 13), .ref (Ma 14), .ref (Ma 15), .ref (Ma 16), .long (Mj 0), .ref (Ma 17), .ref (Ma 18), .ref (Ma 19), .ref (Ma 20)])), ((Ma 1), .inl (tc 2, 400, .inl (Mf 1))), ((Ma 2), .inl (tc 0, 2400, .inl oo0x5)), ((Ma 3), .inl (tc 0, 7, .inl oo0x6))]) 0 0 := by
  refine Ct.start (by decide) (Nat.le_of_ble_eq_true rfl) (fun p e s m below meth c A ls hx hb hr hlk hin hml hown hts hK hX hP hD hA hl hS => ?_)
  have hl : lv_has ls 2 [(0, .ref (Ma 0))] := hl
  have ar_h_cd := Cd.ar h_cd
  refine lv_aload_n hx hb dX12_term_0 rfl (lv_at hl 0 rfl) ?_
  refine cV (a := (Ma 0)) (As := []) (rest := []) (wr := []) ⟨hx, hb, hml, hown, hts⟩ hK hX hA (cu_kX12_value l D tc sk (Ma 0) (Ma 1) (Ma 2) (Ma 3) (Ma 4) (Ma 5) (Ma 6) (Ma 7) (Ma 8) (Ma 9) (Ma 10) (Ma 11) (Ma 12) (Ma 13) (Ma 14) (Ma 15) (Ma 16) (Ma 17) (Ma 18) (Ma 19) (Ma 20) (Mv 0) (Mv 1) (Mv 2) (Mv 3) (Mv 4) (Mv 5) (Mv 6) (Mv 7) (Mv 8) (Mv 9) (Mv 10) (Mv 11) (Mv 12) (Mv 13) (Mv 14) (Mf 1) (Mf 2) (Mf 3) (Mj 0) b d ll h_nx h_cd h_L h_md h_bs h_w h_sg) k_1287 k_1284 k_1286 k_44 k_106 pl_X12_value ⟨Nat.le_of_ble_eq_true rfl, Nat.le_of_ble_eq_true rfl⟩ rfl rfl (va_recv hK hP (ci := 12) (q0 := 0) rfl rfl) hP hD hS [0, 1, 2, 3] [] rfl rfl rfl rfl rfl (by decide) rfl hl.1 rfl (Nat.le_of_ble_eq_true rfl) dX12_term_1 ⟨Nat.le_of_ble_eq_true rfl, Nat.le_of_ble_eq_true rfl⟩ (fun v_1 u_2 H locs hv_3 hP₀ hD₀ hS₀ => ?_)
  obtain ⟨sv_4, sv_5, sv_6, sv_7, sv_8, sv_9⟩ := u_2
  obtain ⟨r_13, rfl, he_14, pf_10, pf_11, pf_12, hm_16, hm_17⟩ := hv_3
  have he_14 : ((r_13.toInt = 0 ∧ ¬ (sv_5 : Int32).toInt = 0) ∨ (r_13.toInt = 1 ∧ ((Mf 3) (Mv 5).toNatClampNeg).toInt + 1 ≤ (sv_9 (Mv 5).toNatClampNeg).toInt ∧ (sv_9 (Mv 5).toNatClampNeg).toInt + ((Mv 2) : Int32).toInt ≤ ((Mf 3) (Mv 5).toNatClampNeg).toInt + (sv_4 : Int32).toInt ∧ ((Mv 2) : Int32).toInt + 1 ≤ (sv_4 : Int32).toInt)) := he_14
  have pf_10 : ((Mv 2) : Int32).toInt ≤ (sv_4 : Int32).toInt ∧ (sv_4 : Int32).toInt ≤ ((Mv 0) : Int32).toInt := pf_10
  have pf_11 : ((Mv 6) : Int32).toInt ≤ (sv_7 : Int32).toInt ∧ (sv_7 : Int32).toInt ≤ 60 := pf_11
  have pf_12 : Agr (Mf 2) sv_8 (400 * ((Mv 5) : Int32).toInt + ((Mf 3) (Mv 5).toNatClampNeg).toInt) := pf_12
  refine W.eq (g2 := F0 m 4 ls [.int r_13]) rfl ?_
  replace hP : va_P D classes [((Ma 0), .inr (12, [.ref (Ma 1), .int (Mv 0), .int (Mv 1), .ref (Ma 2), .ref (Ma 3), .ref (Ma 4), .ref (Ma 5), .ref (Ma 6), .int sv_4, .int sv_5, .int sv_6, .int (Mv 5), .int sv_7, .int (Mv 7), .int (Mv 8), .ref (Ma 7), .int (Mv 9), .ref (Ma 8), .int (Mv 10), .ref (Ma 9), .ref (Ma 10), .int (Mv 11), .int (Mv 12), .int (Mv 13), .ref (Ma 11), .int (Mv 14), .ref (Ma 12), .ref (Ma 13), .ref (Ma 14), .ref (Ma 15), .ref (Ma 16), .long (Mj 0), .ref (Ma 17), .ref (Ma 18), .ref (Ma 19), .ref (Ma 20)])), ((Ma 1), .inl (tc 2, 400, .inl (Mf 1))), ((Ma 2), .inl (tc 0, 2400, .inl sv_8)), ((Ma 3), .inl (tc 0, 7, .inl sv_9))] H := hP₀
  replace hD : va_D A [((Ma 0), .inr (12, [.ref (Ma 1), .int (Mv 0), .int (Mv 1), .ref (Ma 2), .ref (Ma 3), .ref (Ma 4), .ref (Ma 5), .ref (Ma 6), .int sv_4, .int sv_5, .int sv_6, .int (Mv 5), .int sv_7, .int (Mv 7), .int (Mv 8), .ref (Ma 7), .int (Mv 9), .ref (Ma 8), .int (Mv 10), .ref (Ma 9), .ref (Ma 10), .int (Mv 11), .int (Mv 12), .int (Mv 13), .ref (Ma 11), .int (Mv 14), .ref (Ma 12), .ref (Ma 13), .ref (Ma 14), .ref (Ma 15), .ref (Ma 16), .long (Mj 0), .ref (Ma 17), .ref (Ma 18), .ref (Ma 19), .ref (Ma 20)])), ((Ma 1), .inl (tc 2, 400, .inl (Mf 1))), ((Ma 2), .inl (tc 0, 2400, .inl sv_8)), ((Ma 3), .inl (tc 0, 7, .inl sv_9))] := hD₀
  replace hS := hS₀
  clear hP₀ hD₀ hS₀
  refine lv_if_ne (tgt := 9) hx hb dX12_term_4 (by decide) (fun c_18 => ?_) (fun c_18 => ?_)
  · skip
    have hz_22 : (r_13 : Int32).toInt = 1 := by
      have z_1 : ¬ (r_13 : Int32).toInt = (0 : Int32).toInt := fun z => c_18 (Int32.toInt_inj.mp z)
      have y_0 : (0 : Int32).toInt = 0 := by decide
      omega
    obtain ⟨pf_19, pf_20, pf_21⟩ := hm_16 hz_22
    have pf_19 : Cd sv_8 sv_9 (Mv 5) b sv_7 (d + 1) := pf_19
    have ar_pf_19 := Cd.ar pf_19
    have pf_20 : RfO (pz_val (rB (Mf 1) (Mv 0)) (St0 (rB (Mf 1) (Mv 0)) (Mv 2) (Mv 6))) (rB (Mf 1) (Mv 0)) sv_5 sv_4 sv_7 := pf_20
    have ar_pf_20 := RfO.wr pf_20
    have pf_21 : SgC sv_8 sv_9 (Mv 5) (ll ++ lval (rB (Mf 1) (Mv 0)) (St0 (rB (Mf 1) (Mv 0)) (Mv 2) (Mv 6))) := pf_21
    obtain ⟨lo_23, elo_23⟩ : ∃ z : List Int, z = (ll ++ lval (rB (Mf 1) (Mv 0)) (St0 (rB (Mf 1) (Mv 0)) (Mv 2) (Mv 6))) := ⟨_, rfl⟩
    rw [← elo_23] at pf_21
    have loop_38 : ∀ (n_36 : Nat) (vy_30 : Int32) (vy_31 : Int32) (vy_32 : Int32) (vy_33 : Int32) (vy_34 : Nat → Int32) (vy_35 : Nat → Int32) (H : Heap) (locs : List Loc) (ls : Array Slot), (400 - (vy_30 : Int32).toInt).toNat < n_36 → (0 ≤ (vy_30 : Int32).toInt ∧ (vy_30 : Int32).toInt ≤ ((Mv 0) : Int32).toInt ∧ ((Mv 0) : Int32).toInt ≤ 400) → ((Mv 6).toInt ≤ (vy_33 : Int32).toInt ∧ (vy_33 : Int32).toInt ≤ 60) → (((Mf 3) (Mv 5).toNatClampNeg).toInt + 1 ≤ (vy_35 (Mv 5).toNatClampNeg).toInt ∧ (vy_35 (Mv 5).toNatClampNeg).toInt + ((Mv 2) : Int32).toInt ≤ ((Mf 3) (Mv 5).toNatClampNeg).toInt + (vy_30 : Int32).toInt ∧ ((Mv 2) : Int32).toInt + 1 ≤ (vy_30 : Int32).toInt) → (Agr (Mf 2) vy_34 (400 * ((Mv 5) : Int32).toInt + ((Mf 3) (Mv 5).toNatClampNeg).toInt)) → (Cd vy_34 vy_35 (Mv 5) b vy_33 (d + 1)) → (TmL (pz_sum (rB (Mf 1) (Mv 0)) (St0 (rB (Mf 1) (Mv 0)) (Mv 2) (Mv 6))) (rB (Mf 1) (Mv 0)) vy_31 vy_30 vy_33) → (TmC ll (rB (Mf 1) (Mv 0)) (St0 (rB (Mf 1) (Mv 0)) (Mv 2) (Mv 6)) vy_34 vy_35 (Mv 5) vy_30) → va_P D classes [((Ma 0), .inr (12, [.ref (Ma 1), .int (Mv 0), .int (Mv 1), .ref (Ma 2), .ref (Ma 3), .ref (Ma 4), .ref (Ma 5), .ref (Ma 6), .int vy_30, .int vy_31, .int vy_32, .int (Mv 5), .int vy_33, .int (Mv 7), .int (Mv 8), .ref (Ma 7), .int (Mv 9), .ref (Ma 8), .int (Mv 10), .ref (Ma 9), .ref (Ma 10), .int (Mv 11), .int (Mv 12), .int (Mv 13), .ref (Ma 11), .int (Mv 14), .ref (Ma 12), .ref (Ma 13), .ref (Ma 14), .ref (Ma 15), .ref (Ma 16), .long (Mj 0), .ref (Ma 17), .ref (Ma 18), .ref (Ma 19), .ref (Ma 20)])), ((Ma 1), .inl (tc 2, 400, .inl (Mf 1))), ((Ma 2), .inl (tc 0, 2400, .inl vy_34)), ((Ma 3), .inl (tc 0, 7, .inl vy_35))] H → va_D A [((Ma 0), .inr (12, [.ref (Ma 1), .int (Mv 0), .int (Mv 1), .ref (Ma 2), .ref (Ma 3), .ref (Ma 4), .ref (Ma 5), .ref (Ma 6), .int vy_30, .int vy_31, .int vy_32, .int (Mv 5), .int vy_33, .int (Mv 7), .int (Mv 8), .ref (Ma 7), .int (Mv 9), .ref (Ma 8), .int (Mv 10), .ref (Ma 9), .ref (Ma 10), .int (Mv 11), .int (Mv 12), .int (Mv 13), .ref (Ma 11), .int (Mv 14), .ref (Ma 12), .ref (Ma 13), .ref (Ma 14), .ref (Ma 15), .ref (Ma 16), .long (Mj 0), .ref (Ma 17), .ref (Ma 18), .ref (Ma 19), .ref (Ma 20)])), ((Ma 1), .inl (tc 2, 400, .inl (Mf 1))), ((Ma 2), .inl (tc 0, 2400, .inl vy_34)), ((Ma 3), .inl (tc 0, 7, .inl vy_35))] → va_S A s.heap H locs → lv_has ls 2 [(0, .ref (Ma 0))] → W p l e ({ frames := 4, cells := 0, slots := 0, locals := 88 }) s m ([.ref (Ma 0)].toArray) below meth c H locs 0 0 (MQ below (QW (fun (v : Option Value) (u : (Int32) × (Int32) × (Int32) × (Int32) × (Nat → Int32) × (Nat → Int32)) => match u with | (oo0x1, oo0x2, oo0x3, oo0x4, oo0x5, oo0x6) => ∃ r : Int32, v = some (.int r) ∧ (((r.toInt = 0 ∧ ¬ (oo0x2 : Int32).toInt = 0) ∨ (r.toInt = 1 ∧ ((Mf 3) (Mv 5).toNatClampNeg).toInt + 1 ≤ (oo0x6 (Mv 5).toNatClampNeg).toInt ∧ (oo0x6 (Mv 5).toNatClampNeg).toInt + ((Mv 2) : Int32).toInt ≤ ((Mf 3) (Mv 5).toNatClampNeg).toInt + (oo0x1 : Int32).toInt ∧ ((Mv 2) : Int32).toInt + 1 ≤ (oo0x1 : Int32).toInt))) ∧ (((Mv 2) : Int32).toInt ≤ (oo0x1 : Int32).toInt ∧ (oo0x1 : Int32).toInt ≤ ((Mv 0) : Int32).toInt) ∧ (((Mv 6) : Int32).toInt ≤ (oo0x4 : Int32).toInt ∧ (oo0x4 : Int32).toInt ≤ 60) ∧ (Agr (Mf 2) oo0x5 (400 * ((Mv 5) : Int32).toInt + ((Mf 3) (Mv 5).toNatClampNeg).toInt)) ∧ (r.toInt = 1 → (Cd oo0x5 oo0x6 (Mv 5) b oo0x4 (d + 1)) ∧ (TmO (pz_sum (rB (Mf 1) (Mv 0)) (St0 (rB (Mf 1) (Mv 0)) (Mv 2) (Mv 6))) (rB (Mf 1) (Mv 0)) oo0x2 oo0x1 oo0x4) ∧ (TmC ll (rB (Mf 1) (Mv 0)) (St0 (rB (Mf 1) (Mv 0)) (Mv 2) (Mv 6)) oo0x5 oo0x6 (Mv 5) oo0x1)) ∧ (r.toInt = 0 → (RfE (pz_sum (rB (Mf 1) (Mv 0)) (St0 (rB (Mf 1) (Mv 0)) (Mv 2) (Mv 6))) oo0x2))) (BW D (fun (u : (Int32) × (Int32) × (Int32) × (Int32) × (Nat → Int32) × (Nat → Int32)) => match u with | (oo0x1, oo0x2, oo0x3, oo0x4, oo0x5, oo0x6) => [((Ma 0), .inr (12, [.ref (Ma 1), .int (Mv 0), .int (Mv 1), .ref (Ma 2), .ref (Ma 3), .ref (Ma 4), .ref (Ma 5), .ref (Ma 6), .int oo0x1, .int oo0x2, .int oo0x3, .int (Mv 5), .int oo0x4, .int (Mv 7), .int (Mv 8), .ref (Ma 7), .int (Mv 9), .ref (Ma 8), .int (Mv 10), .ref (Ma 9), .ref (Ma 10), .int (Mv 11), .int (Mv 12), .int (Mv 13), .ref (Ma 11), .int (Mv 14), .ref (Ma 12), .ref (Ma 13), .ref (Ma 14), .ref (Ma 15), .ref (Ma 16), .long (Mj 0), .ref (Ma 17), .ref (Ma 18), .ref (Ma 19), .ref (Ma 20)])), ((Ma 1), .inl (tc 2, 400, .inl (Mf 1))), ((Ma 2), .inl (tc 0, 2400, .inl oo0x5)), ((Ma 3), .inl (tc 0, 7, .inl oo0x6))]) A) A) ([.ref (Ma 0)].toArray) s 0 0 A) (F0 m 9 ls []) := by
      clear hP hD hS hl
      intro n_36
      induction n_36 with
      | zero =>
        intro vy_30 vy_31 vy_32 vy_33 vy_34 vy_35 H locs ls h1
        exact absurd h1 (Nat.not_lt_zero _)
      | succ n_36 ih_37 =>
        intro vy_30 vy_31 vy_32 vy_33 vy_34 vy_35 H locs ls hn_46 pf_39 pf_40 pf_41 pf_42 pf_43 pf_44 pf_45 hP hD hS hl
        have ar_pf_43 := Cd.ar pf_43
        have ar_pf_44 := pf_44.1
        obtain ⟨xq_47, pf_48, pf_49⟩ := id pf_45
        obtain ⟨lo_50, elo_50⟩ : ∃ z : List Int, z = (ll ++ xq_47) := ⟨_, rfl⟩
        rw [← elo_50] at pf_48
        refine lv_aload_n hx hb dX12_term_9 rfl (lv_at hl 0 rfl) ?_
        refine cV (a := (Ma 0)) (As := []) (rest := []) (wr := [((Ma 2), .inl (tc 0, 2400, .inl vy_34)), ((Ma 3), .inl (tc 0, 7, .inl vy_35))]) ⟨hx, hb, hml, hown, hts⟩ hK hX hA (cu_fX12_see l D tc sk (Ma 0) (Ma 1) (Ma 2) (Ma 3) (Ma 4) (Ma 5) (Ma 6) (Ma 7) (Ma 8) (Ma 9) (Ma 10) (Ma 11) (Ma 12) (Ma 13) (Ma 14) (Ma 15) (Ma 16) (Ma 17) (Ma 18) (Ma 19) (Ma 20) (Mv 0) (Mv 1) vy_30 vy_31 vy_32 (Mv 5) vy_33 (Mv 7) (Mv 8) (Mv 9) (Mv 10) (Mv 11) (Mv 12) (Mv 13) (Mv 14) (Mf 1) (Mj 0) pf_39 h_bs) k_1211 k_1208 k_1210 k_27 k_106 pl_X12_see ⟨Nat.le_of_ble_eq_true rfl, Nat.le_of_ble_eq_true rfl⟩ rfl rfl (va_recv hK hP (ci := 12) (q0 := 0) rfl rfl) hP hD hS [0, 1] [2, 3] rfl rfl rfl rfl rfl (by decide) rfl hl.1 rfl (Nat.le_of_ble_eq_true rfl) dX12_term_10 ⟨Nat.le_of_ble_eq_true rfl, Nat.le_of_ble_eq_true rfl⟩ (fun v_51 u_52 H locs hv_53 hP₀ hD₀ hS₀ => ?_)
        obtain ⟨sv_54, rfl⟩ : ∃ z, z = u_52 := ⟨_, rfl⟩
        obtain ⟨r_59, rfl, he_60, pf_55, pf_56, pf_57, pf_58⟩ := hv_53
        have he_60 : (r_59.toInt = rB (Mf 1) (Mv 0) (sv_54 : Int32).toInt.toNat ∧ (r_59.toInt = -1 ∨ (sv_54 : Int32).toInt < (Mv 0).toInt)) := he_60
        have pf_55 : (vy_30 : Int32).toInt ≤ (sv_54 : Int32).toInt ∧ (sv_54 : Int32).toInt ≤ ((Mv 0) : Int32).toInt := pf_55
        have pf_56 : NSq (Mf 1) (Mv 0) sv_54 := pf_56
        have pf_57 : Stl (Mf 1) (Mv 0) vy_30 sv_54 := pf_57
        have pf_58 : SkR (rB (Mf 1) (Mv 0)) vy_30 sv_54 := pf_58
        refine W.eq (g2 := F0 m 13 ls [.int r_59]) rfl ?_
        replace hP : va_P D classes [((Ma 2), .inl (tc 0, 2400, .inl vy_34)), ((Ma 3), .inl (tc 0, 7, .inl vy_35)), ((Ma 0), .inr (12, [.ref (Ma 1), .int (Mv 0), .int (Mv 1), .ref (Ma 2), .ref (Ma 3), .ref (Ma 4), .ref (Ma 5), .ref (Ma 6), .int sv_54, .int vy_31, .int vy_32, .int (Mv 5), .int vy_33, .int (Mv 7), .int (Mv 8), .ref (Ma 7), .int (Mv 9), .ref (Ma 8), .int (Mv 10), .ref (Ma 9), .ref (Ma 10), .int (Mv 11), .int (Mv 12), .int (Mv 13), .ref (Ma 11), .int (Mv 14), .ref (Ma 12), .ref (Ma 13), .ref (Ma 14), .ref (Ma 15), .ref (Ma 16), .long (Mj 0), .ref (Ma 17), .ref (Ma 18), .ref (Ma 19), .ref (Ma 20)])), ((Ma 1), .inl (tc 2, 400, .inl (Mf 1)))] H := hP₀
        replace hD : va_D A [((Ma 2), .inl (tc 0, 2400, .inl vy_34)), ((Ma 3), .inl (tc 0, 7, .inl vy_35)), ((Ma 0), .inr (12, [.ref (Ma 1), .int (Mv 0), .int (Mv 1), .ref (Ma 2), .ref (Ma 3), .ref (Ma 4), .ref (Ma 5), .ref (Ma 6), .int sv_54, .int vy_31, .int vy_32, .int (Mv 5), .int vy_33, .int (Mv 7), .int (Mv 8), .ref (Ma 7), .int (Mv 9), .ref (Ma 8), .int (Mv 10), .ref (Ma 9), .ref (Ma 10), .int (Mv 11), .int (Mv 12), .int (Mv 13), .ref (Ma 11), .int (Mv 14), .ref (Ma 12), .ref (Ma 13), .ref (Ma 14), .ref (Ma 15), .ref (Ma 16), .long (Mj 0), .ref (Ma 17), .ref (Ma 18), .ref (Ma 19), .ref (Ma 20)])), ((Ma 1), .inl (tc 2, 400, .inl (Mf 1)))] := hD₀
        replace hS := hS₀
        clear hP₀ hD₀ hS₀
        refine lv_bipush (v := 42) hx hb dX12_term_13 (by decide) ?_
        refine lv_icmp_eq (tgt := 36) hx hb dX12_term_15 (by decide) (fun c_62 => ?_) (fun c_62 => ?_)
        · skip
          refine lv_aload_n hx hb dX12_term_36 rfl (lv_at hl 0 rfl) ?_
          refine gf_X12_7 hx hb hts hown hK hP 2 rfl rfl dX12_term_37 ?_
          refine lv_aload_n hx hb dX12_term_40 rfl (lv_at hl 0 rfl) ?_
          refine gf_X12_87 hx hb hts hown hK hP 2 rfl rfl dX12_term_41 ?_
          have hi_63 : vp_in sv_54 400 := by
            have z_1 : ¬ (r_13 : Int32).toInt = (0 : Int32).toInt := fun z => c_18 (Int32.toInt_inj.mp z)
            have z_2 := congrArg Int32.toInt c_62
            have y_0 : (0 : Int32).toInt = 0 := by decide
            have y_42 : (42 : Int32).toInt = 42 := by decide
            refine vp_in_iff.mpr ⟨?_, ?_⟩ <;> omega
          refine va_bald hx hb hK hP 3 2 rfl rfl hi_63 dX12_term_44 ?_
          refine lv_topi (fun x_64 ex_64 => ?_)
          have kx_64 : x_64.toInt = ((Mf 1) (sv_54 : Int32).toInt.toNat).toInt := congrArg Int32.toInt ex_64
          have kcx_64 : x_64.toInt = ((Mf 1) (sv_54 : Int32).toNatClampNeg).toInt := congrArg Int32.toInt ex_64
          refine lv_bipush (v := 42) hx hb dX12_term_45 (by decide) ?_
          refine lv_icmp_ne (tgt := 54) hx hb dX12_term_47 (by decide) (fun c_65 => ?_) (fun c_65 => ?_)
          · skip
            refine lv_aload_n hx hb dX12_term_54 rfl (lv_at hl 0 rfl) ?_
            refine gf_X12_7 hx hb hts hown hK hP 2 rfl rfl dX12_term_55 ?_
            refine lv_aload_n hx hb dX12_term_58 rfl (lv_at hl 0 rfl) ?_
            refine gf_X12_87 hx hb hts hown hK hP 2 rfl rfl dX12_term_59 ?_
            have hi_66 : vp_in sv_54 400 := by
              have z_1 : ¬ (r_13 : Int32).toInt = (0 : Int32).toInt := fun z => c_18 (Int32.toInt_inj.mp z)
              have z_2 := congrArg Int32.toInt c_62
              have z_3 : ¬ (x_64 : Int32).toInt = (42 : Int32).toInt := fun z => c_65 (Int32.toInt_inj.mp z)
              have y_0 : (0 : Int32).toInt = 0 := by decide
              have y_42 : (42 : Int32).toInt = 42 := by decide
              refine vp_in_iff.mpr ⟨?_, ?_⟩ <;> omega
            refine va_bald hx hb hK hP 3 2 rfl rfl hi_66 dX12_term_62 ?_
            refine lv_topi (fun x_67 ex_67 => ?_)
            have kx_67 : x_67.toInt = ((Mf 1) (sv_54 : Int32).toInt.toNat).toInt := congrArg Int32.toInt ex_67
            have kcx_67 : x_67.toInt = ((Mf 1) (sv_54 : Int32).toNatClampNeg).toInt := congrArg Int32.toInt ex_67
            refine lv_bipush (v := 47) hx hb dX12_term_63 (by decide) ?_
            refine lv_icmp_ne (tgt := 72) hx hb dX12_term_65 (by decide) (fun c_68 => ?_) (fun c_68 => ?_)
            · skip
              refine lv_bipush (v := 14) hx hb dX12_term_72 (by decide) ?_
              refine lv_istore_n (lv' := [(1, .int 14), (0, .ref (Ma 0))]) hx hb dX12_term_74 rfl hl (by decide) rfl (fun ls hl₀ => ?_)
              replace hl := hl₀
              clear hl₀
              refine lv_aload_n hx hb dX12_term_75 rfl (lv_at hl 1 rfl) ?_
              refine lv_dup hx hb dX12_term_76 rfl ?_
              refine gf_X12_87 hx hb hts hown hK hP 2 rfl rfl dX12_term_77 ?_
              refine lv_iconst (v := 1) hx hb dX12_term_80 (by decide) ?_
              refine lv_iadd hx hb dX12_term_81 ?_
              refine lv_topi (fun x_69 ex_69 => ?_)
              refine pf_X12_87 hx hb hts hown hK hP hD hS 2 rfl (Nat.le_of_ble_eq_true rfl) rfl rfl dX12_term_82 (fun H locs hP₀ hD₀ hS₀ => ?_)
              replace hP : va_P D classes [((Ma 2), .inl (tc 0, 2400, .inl vy_34)), ((Ma 3), .inl (tc 0, 7, .inl vy_35)), ((Ma 0), .inr (12, [.ref (Ma 1), .int (Mv 0), .int (Mv 1), .ref (Ma 2), .ref (Ma 3), .ref (Ma 4), .ref (Ma 5), .ref (Ma 6), .int x_69, .int vy_31, .int vy_32, .int (Mv 5), .int vy_33, .int (Mv 7), .int (Mv 8), .ref (Ma 7), .int (Mv 9), .ref (Ma 8), .int (Mv 10), .ref (Ma 9), .ref (Ma 10), .int (Mv 11), .int (Mv 12), .int (Mv 13), .ref (Ma 11), .int (Mv 14), .ref (Ma 12), .ref (Ma 13), .ref (Ma 14), .ref (Ma 15), .ref (Ma 16), .long (Mj 0), .ref (Ma 17), .ref (Ma 18), .ref (Ma 19), .ref (Ma 20)])), ((Ma 1), .inl (tc 2, 400, .inl (Mf 1)))] H := hP₀
              replace hD : va_D A [((Ma 2), .inl (tc 0, 2400, .inl vy_34)), ((Ma 3), .inl (tc 0, 7, .inl vy_35)), ((Ma 0), .inr (12, [.ref (Ma 1), .int (Mv 0), .int (Mv 1), .ref (Ma 2), .ref (Ma 3), .ref (Ma 4), .ref (Ma 5), .ref (Ma 6), .int x_69, .int vy_31, .int vy_32, .int (Mv 5), .int vy_33, .int (Mv 7), .int (Mv 8), .ref (Ma 7), .int (Mv 9), .ref (Ma 8), .int (Mv 10), .ref (Ma 9), .ref (Ma 10), .int (Mv 11), .int (Mv 12), .int (Mv 13), .ref (Ma 11), .int (Mv 14), .ref (Ma 12), .ref (Ma 13), .ref (Ma 14), .ref (Ma 15), .ref (Ma 16), .long (Mj 0), .ref (Ma 17), .ref (Ma 18), .ref (Ma 19), .ref (Ma 20)])), ((Ma 1), .inl (tc 2, 400, .inl (Mf 1)))] := hD₀
              replace hS := hS₀
              clear hP₀ hD₀ hS₀
              have tp_x_69 : (x_69 : Int32).toInt = (sv_54 : Int32).toInt + 1 := by
                have z_1 : ¬ (r_13 : Int32).toInt = (0 : Int32).toInt := fun z => c_18 (Int32.toInt_inj.mp z)
                have z_2 := congrArg Int32.toInt c_62
                have z_3 : ¬ (x_64 : Int32).toInt = (42 : Int32).toInt := fun z => c_65 (Int32.toInt_inj.mp z)
                have z_4 : ¬ (x_67 : Int32).toInt = (47 : Int32).toInt := fun z => c_68 (Int32.toInt_inj.mp z)
                have y_0 : (0 : Int32).toInt = 0 := by decide
                have y_42 : (42 : Int32).toInt = 42 := by decide
                have y_47 : (47 : Int32).toInt = 47 := by decide
                have y_1 : (1 : Int32).toInt = 1 := by decide
                have t_x_69 : x_69.toInt = (sv_54 : Int32).toInt + (1 : Int32).toInt := by rw [ex_69]; exact add_toInt (by omega) (by omega)
                omega
              refine lv_aload_n hx hb dX12_term_85 rfl (lv_at hl 1 rfl) ?_
              have ha_70 : 0 ≤ (x_69 : Int32).toInt ∧ (x_69 : Int32).toInt ≤ ((Mv 0) : Int32).toInt ∧ ((Mv 0) : Int32).toInt ≤ 400 := by
                have z_1 : ¬ (r_13 : Int32).toInt = (0 : Int32).toInt := fun z => c_18 (Int32.toInt_inj.mp z)
                have z_2 := congrArg Int32.toInt c_62
                have z_3 : ¬ (x_64 : Int32).toInt = (42 : Int32).toInt := fun z => c_65 (Int32.toInt_inj.mp z)
                have z_4 : ¬ (x_67 : Int32).toInt = (47 : Int32).toInt := fun z => c_68 (Int32.toInt_inj.mp z)
                have y_0 : (0 : Int32).toInt = 0 := by decide
                have y_42 : (42 : Int32).toInt = 42 := by decide
                have y_47 : (47 : Int32).toInt = 47 := by decide
                have y_1 : (1 : Int32).toInt = 1 := by decide
                have t_x_69 : x_69.toInt = (sv_54 : Int32).toInt + (1 : Int32).toInt := by rw [ex_69]; exact add_toInt (by omega) (by omega)
                omega
              have ha_71 : (vy_35 (Mv 5).toNatClampNeg).toInt ≤ (x_69 : Int32).toInt := by
                have z_1 : ¬ (r_13 : Int32).toInt = (0 : Int32).toInt := fun z => c_18 (Int32.toInt_inj.mp z)
                have z_2 := congrArg Int32.toInt c_62
                have z_3 : ¬ (x_64 : Int32).toInt = (42 : Int32).toInt := fun z => c_65 (Int32.toInt_inj.mp z)
                have z_4 : ¬ (x_67 : Int32).toInt = (47 : Int32).toInt := fun z => c_68 (Int32.toInt_inj.mp z)
                have y_0 : (0 : Int32).toInt = 0 := by decide
                have y_42 : (42 : Int32).toInt = 42 := by decide
                have y_47 : (47 : Int32).toInt = 47 := by decide
                have y_1 : (1 : Int32).toInt = 1 := by decide
                have t_x_69 : x_69.toInt = (sv_54 : Int32).toInt + (1 : Int32).toInt := by rw [ex_69]; exact add_toInt (by omega) (by omega)
                omega
              have ha_72 : 0 ≤ (vy_33 : Int32).toInt ∧ (vy_33 : Int32).toInt ≤ 60 := by
                have z_1 : ¬ (r_13 : Int32).toInt = (0 : Int32).toInt := fun z => c_18 (Int32.toInt_inj.mp z)
                have z_2 := congrArg Int32.toInt c_62
                have z_3 : ¬ (x_64 : Int32).toInt = (42 : Int32).toInt := fun z => c_65 (Int32.toInt_inj.mp z)
                have z_4 : ¬ (x_67 : Int32).toInt = (47 : Int32).toInt := fun z => c_68 (Int32.toInt_inj.mp z)
                have y_0 : (0 : Int32).toInt = 0 := by decide
                have y_42 : (42 : Int32).toInt = 42 := by decide
                have y_47 : (47 : Int32).toInt = 47 := by decide
                omega
              have ha_73 : (vy_31 : Int32).toInt = 0 := by
                have z_1 : ¬ (r_13 : Int32).toInt = (0 : Int32).toInt := fun z => c_18 (Int32.toInt_inj.mp z)
                have z_2 := congrArg Int32.toInt c_62
                have z_3 : ¬ (x_64 : Int32).toInt = (42 : Int32).toInt := fun z => c_65 (Int32.toInt_inj.mp z)
                have z_4 : ¬ (x_67 : Int32).toInt = (47 : Int32).toInt := fun z => c_68 (Int32.toInt_inj.mp z)
                have y_0 : (0 : Int32).toInt = 0 := by decide
                have y_42 : (42 : Int32).toInt = 42 := by decide
                have y_47 : (47 : Int32).toInt = 47 := by decide
                omega
              refine cV (a := (Ma 0)) (As := []) (rest := []) (wr := []) ⟨hx, hb, hml, hown, hts⟩ hK hX hA (cu_kX12_value l D tc sk (Ma 0) (Ma 1) (Ma 2) (Ma 3) (Ma 4) (Ma 5) (Ma 6) (Ma 7) (Ma 8) (Ma 9) (Ma 10) (Ma 11) (Ma 12) (Ma 13) (Ma 14) (Ma 15) (Ma 16) (Ma 17) (Ma 18) (Ma 19) (Ma 20) (Mv 0) (Mv 1) x_69 vy_31 vy_32 (Mv 5) vy_33 (Mv 7) (Mv 8) (Mv 9) (Mv 10) (Mv 11) (Mv 12) (Mv 13) (Mv 14) (Mf 1) vy_34 vy_35 (Mj 0) b (d + 1) lo_50 ha_70 pf_43 ha_71 ha_72 h_bs ha_73 pf_48) k_1287 k_1284 k_1286 k_44 k_106 pl_X12_value ⟨Nat.le_of_ble_eq_true rfl, Nat.le_of_ble_eq_true rfl⟩ rfl rfl (va_recv hK hP (ci := 12) (q0 := 2) rfl rfl) hP hD hS [2, 3, 0, 1] [] rfl rfl rfl rfl rfl (by decide) rfl hl.1 rfl (Nat.le_of_ble_eq_true rfl) dX12_term_86 ⟨Nat.le_of_ble_eq_true rfl, Nat.le_of_ble_eq_true rfl⟩ (fun v_74 u_75 H locs hv_76 hP₀ hD₀ hS₀ => ?_)
              obtain ⟨sv_77, sv_78, sv_79, sv_80, sv_81, sv_82⟩ := u_75
              obtain ⟨r_86, rfl, he_87, pf_83, pf_84, pf_85, hm_89, hm_90⟩ := hv_76
              have he_87 : ((r_86.toInt = 0 ∧ ¬ (sv_78 : Int32).toInt = 0) ∨ (r_86.toInt = 1 ∧ (vy_35 (Mv 5).toNatClampNeg).toInt + 1 ≤ (sv_82 (Mv 5).toNatClampNeg).toInt ∧ (sv_82 (Mv 5).toNatClampNeg).toInt + (x_69 : Int32).toInt ≤ (vy_35 (Mv 5).toNatClampNeg).toInt + (sv_77 : Int32).toInt ∧ (x_69 : Int32).toInt + 1 ≤ (sv_77 : Int32).toInt)) := he_87
              have pf_83 : (x_69 : Int32).toInt ≤ (sv_77 : Int32).toInt ∧ (sv_77 : Int32).toInt ≤ ((Mv 0) : Int32).toInt := pf_83
              have pf_84 : (vy_33 : Int32).toInt ≤ (sv_80 : Int32).toInt ∧ (sv_80 : Int32).toInt ≤ 60 := pf_84
              have pf_85 : Agr vy_34 sv_81 (400 * ((Mv 5) : Int32).toInt + (vy_35 (Mv 5).toNatClampNeg).toInt) := pf_85
              refine W.eq (g2 := F0 m 89 ls [.int r_86]) rfl ?_
              replace hP : va_P D classes [((Ma 0), .inr (12, [.ref (Ma 1), .int (Mv 0), .int (Mv 1), .ref (Ma 2), .ref (Ma 3), .ref (Ma 4), .ref (Ma 5), .ref (Ma 6), .int sv_77, .int sv_78, .int sv_79, .int (Mv 5), .int sv_80, .int (Mv 7), .int (Mv 8), .ref (Ma 7), .int (Mv 9), .ref (Ma 8), .int (Mv 10), .ref (Ma 9), .ref (Ma 10), .int (Mv 11), .int (Mv 12), .int (Mv 13), .ref (Ma 11), .int (Mv 14), .ref (Ma 12), .ref (Ma 13), .ref (Ma 14), .ref (Ma 15), .ref (Ma 16), .long (Mj 0), .ref (Ma 17), .ref (Ma 18), .ref (Ma 19), .ref (Ma 20)])), ((Ma 1), .inl (tc 2, 400, .inl (Mf 1))), ((Ma 2), .inl (tc 0, 2400, .inl sv_81)), ((Ma 3), .inl (tc 0, 7, .inl sv_82))] H := hP₀
              replace hD : va_D A [((Ma 0), .inr (12, [.ref (Ma 1), .int (Mv 0), .int (Mv 1), .ref (Ma 2), .ref (Ma 3), .ref (Ma 4), .ref (Ma 5), .ref (Ma 6), .int sv_77, .int sv_78, .int sv_79, .int (Mv 5), .int sv_80, .int (Mv 7), .int (Mv 8), .ref (Ma 7), .int (Mv 9), .ref (Ma 8), .int (Mv 10), .ref (Ma 9), .ref (Ma 10), .int (Mv 11), .int (Mv 12), .int (Mv 13), .ref (Ma 11), .int (Mv 14), .ref (Ma 12), .ref (Ma 13), .ref (Ma 14), .ref (Ma 15), .ref (Ma 16), .long (Mj 0), .ref (Ma 17), .ref (Ma 18), .ref (Ma 19), .ref (Ma 20)])), ((Ma 1), .inl (tc 2, 400, .inl (Mf 1))), ((Ma 2), .inl (tc 0, 2400, .inl sv_81)), ((Ma 3), .inl (tc 0, 7, .inl sv_82))] := hD₀
              replace hS := hS₀
              clear hP₀ hD₀ hS₀
              refine lv_if_ne (tgt := 94) hx hb dX12_term_89 (by decide) (fun c_91 => ?_) (fun c_91 => ?_)
              · skip
                have hz_95 : (r_86 : Int32).toInt = 1 := by
                  have z_1 : ¬ (r_13 : Int32).toInt = (0 : Int32).toInt := fun z => c_18 (Int32.toInt_inj.mp z)
                  have z_2 := congrArg Int32.toInt c_62
                  have z_3 : ¬ (x_64 : Int32).toInt = (42 : Int32).toInt := fun z => c_65 (Int32.toInt_inj.mp z)
                  have z_4 : ¬ (x_67 : Int32).toInt = (47 : Int32).toInt := fun z => c_68 (Int32.toInt_inj.mp z)
                  have z_5 : ¬ (r_86 : Int32).toInt = (0 : Int32).toInt := fun z => c_91 (Int32.toInt_inj.mp z)
                  have y_0 : (0 : Int32).toInt = 0 := by decide
                  have y_42 : (42 : Int32).toInt = 42 := by decide
                  have y_47 : (47 : Int32).toInt = 47 := by decide
                  omega
                obtain ⟨pf_92, pf_93, pf_94⟩ := hm_89 hz_95
                have pf_92 : Cd sv_81 sv_82 (Mv 5) b sv_80 ((d + 1) + 1) := pf_92
                have ar_pf_92 := Cd.ar pf_92
                have pf_93 : RfO (pz_val (rB (Mf 1) (Mv 0)) (St0 (rB (Mf 1) (Mv 0)) x_69 vy_33)) (rB (Mf 1) (Mv 0)) sv_78 sv_77 sv_80 := pf_93
                have ar_pf_93 := RfO.wr pf_93
                have pf_94 : SgC sv_81 sv_82 (Mv 5) (lo_50 ++ lval (rB (Mf 1) (Mv 0)) (St0 (rB (Mf 1) (Mv 0)) x_69 vy_33)) := pf_94
                obtain ⟨lo_96, elo_96⟩ : ∃ z : List Int, z = (lo_50 ++ lval (rB (Mf 1) (Mv 0)) (St0 (rB (Mf 1) (Mv 0)) x_69 vy_33)) := ⟨_, rfl⟩
                rw [← elo_96] at pf_94
                refine lv_aload_n hx hb dX12_term_94 rfl (lv_at hl 1 rfl) ?_
                refine lv_iload_n hx hb dX12_term_95 rfl (lv_at hl 0 rfl) ?_
                refine lv_iconst (v := 0) hx hb dX12_term_96 (by decide) ?_
                have ha_97 : ((d + 1) : Int) ≤ sv_80.toInt := by
                  have z_1 : ¬ (r_13 : Int32).toInt = (0 : Int32).toInt := fun z => c_18 (Int32.toInt_inj.mp z)
                  have z_2 := congrArg Int32.toInt c_62
                  have z_3 : ¬ (x_64 : Int32).toInt = (42 : Int32).toInt := fun z => c_65 (Int32.toInt_inj.mp z)
                  have z_4 : ¬ (x_67 : Int32).toInt = (47 : Int32).toInt := fun z => c_68 (Int32.toInt_inj.mp z)
                  have z_5 : ¬ (r_86 : Int32).toInt = (0 : Int32).toInt := fun z => c_91 (Int32.toInt_inj.mp z)
                  have y_0 : (0 : Int32).toInt = 0 := by decide
                  have y_42 : (42 : Int32).toInt = 42 := by decide
                  have y_47 : (47 : Int32).toInt = 47 := by decide
                  omega
                have ha_98 : (sv_82 (Mv 5).toNatClampNeg).toInt < 400 := by
                  have z_1 : ¬ (r_13 : Int32).toInt = (0 : Int32).toInt := fun z => c_18 (Int32.toInt_inj.mp z)
                  have z_2 := congrArg Int32.toInt c_62
                  have z_3 : ¬ (x_64 : Int32).toInt = (42 : Int32).toInt := fun z => c_65 (Int32.toInt_inj.mp z)
                  have z_4 : ¬ (x_67 : Int32).toInt = (47 : Int32).toInt := fun z => c_68 (Int32.toInt_inj.mp z)
                  have z_5 : ¬ (r_86 : Int32).toInt = (0 : Int32).toInt := fun z => c_91 (Int32.toInt_inj.mp z)
                  have y_0 : (0 : Int32).toInt = 0 := by decide
                  have y_42 : (42 : Int32).toInt = 42 := by decide
                  have y_47 : (47 : Int32).toInt = 47 := by decide
                  omega
                have ha_99 : 0 ≤ (14 : Int32).toInt ∧ (14 : Int32).toInt ≤ 15 := by
                  have z_1 : ¬ (r_13 : Int32).toInt = (0 : Int32).toInt := fun z => c_18 (Int32.toInt_inj.mp z)
                  have z_2 := congrArg Int32.toInt c_62
                  have z_3 : ¬ (x_64 : Int32).toInt = (42 : Int32).toInt := fun z => c_65 (Int32.toInt_inj.mp z)
                  have z_4 : ¬ (x_67 : Int32).toInt = (47 : Int32).toInt := fun z => c_68 (Int32.toInt_inj.mp z)
                  have z_5 : ¬ (r_86 : Int32).toInt = (0 : Int32).toInt := fun z => c_91 (Int32.toInt_inj.mp z)
                  have y_0 : (0 : Int32).toInt = 0 := by decide
                  have y_42 : (42 : Int32).toInt = 42 := by decide
                  have y_47 : (47 : Int32).toInt = 47 := by decide
                  have y_14 : (14 : Int32).toInt = 14 := by decide
                  omega
                have ha_100 : 0 ≤ (0 : Int32).toInt ∧ (0 : Int32).toInt ≤ 100000 := by
                  have z_1 : ¬ (r_13 : Int32).toInt = (0 : Int32).toInt := fun z => c_18 (Int32.toInt_inj.mp z)
                  have z_2 := congrArg Int32.toInt c_62
                  have z_3 : ¬ (x_64 : Int32).toInt = (42 : Int32).toInt := fun z => c_65 (Int32.toInt_inj.mp z)
                  have z_4 : ¬ (x_67 : Int32).toInt = (47 : Int32).toInt := fun z => c_68 (Int32.toInt_inj.mp z)
                  have z_5 : ¬ (r_86 : Int32).toInt = (0 : Int32).toInt := fun z => c_91 (Int32.toInt_inj.mp z)
                  have y_0 : (0 : Int32).toInt = 0 := by decide
                  have y_42 : (42 : Int32).toInt = 42 := by decide
                  have y_47 : (47 : Int32).toInt = 47 := by decide
                  omega
                have ha_101 : 0 ≤ (Mv 5).toInt := by
                  have z_1 : ¬ (r_13 : Int32).toInt = (0 : Int32).toInt := fun z => c_18 (Int32.toInt_inj.mp z)
                  have z_2 := congrArg Int32.toInt c_62
                  have z_3 : ¬ (x_64 : Int32).toInt = (42 : Int32).toInt := fun z => c_65 (Int32.toInt_inj.mp z)
                  have z_4 : ¬ (x_67 : Int32).toInt = (47 : Int32).toInt := fun z => c_68 (Int32.toInt_inj.mp z)
                  have z_5 : ¬ (r_86 : Int32).toInt = (0 : Int32).toInt := fun z => c_91 (Int32.toInt_inj.mp z)
                  have y_0 : (0 : Int32).toInt = 0 := by decide
                  have y_42 : (42 : Int32).toInt = 42 := by decide
                  have y_47 : (47 : Int32).toInt = 47 := by decide
                  omega
                refine cV (a := (Ma 0)) (As := [.int 14, .int 0]) (rest := []) (wr := [((Ma 1), .inl (tc 2, 400, .inl (Mf 1)))]) ⟨hx, hb, hml, hown, hts⟩ hK hX hA (cu_kX12_puts l D tc sk (Ma 0) (Ma 1) (Ma 2) (Ma 3) (Ma 4) (Ma 5) (Ma 6) (Ma 7) (Ma 8) (Ma 9) (Ma 10) (Ma 11) (Ma 12) (Ma 13) (Ma 14) (Ma 15) (Ma 16) (Ma 17) (Ma 18) (Ma 19) (Ma 20) (Mv 0) (Mv 1) sv_77 sv_78 sv_79 (Mv 5) sv_80 (Mv 7) (Mv 8) (Mv 9) (Mv 10) (Mv 11) (Mv 12) (Mv 13) (Mv 14) sv_81 sv_82 (Mj 0) 14 0 b sv_80 ((d + 1) + 1) (d + 1) lo_96 (-16) pf_92 (StpR.op (by decide) rfl (by omega)) ha_97 ha_98 pf_94 (by decide) ha_99 ha_100 ha_101) k_1296 k_1293 k_1295 k_46 k_106 pl_X12_puts ⟨Nat.le_of_ble_eq_true rfl, Nat.le_of_ble_eq_true rfl⟩ rfl rfl (va_recv hK hP (ci := 12) (q0 := 0) rfl rfl) hP hD hS [0, 2, 3] [1] rfl rfl rfl rfl rfl (by decide) rfl hl.1 rfl (Nat.le_of_ble_eq_true rfl) dX12_term_97 ⟨Nat.le_of_ble_eq_true rfl, Nat.le_of_ble_eq_true rfl⟩ (fun v_102 u_103 H locs hv_104 hP₀ hD₀ hS₀ => ?_)
                obtain ⟨sv_105, sv_106⟩ := u_103
                obtain ⟨rfl, pf_107, pf_108, pf_109, pf_110⟩ := hv_104
                have pf_107 : Cd sv_105 sv_106 (Mv 5) b sv_80 (d + 1) := pf_107
                have ar_pf_107 := Cd.ar pf_107
                have pf_108 : Agr sv_81 sv_105 (400 * ((Mv 5) : Int32).toInt + (sv_82 (Mv 5).toNatClampNeg).toInt) := pf_108
                have pf_109 : (sv_106 (Mv 5).toNatClampNeg).toInt = (sv_82 (Mv 5).toNatClampNeg).toInt + 1 := pf_109
                have pf_110 : SgC sv_105 sv_106 (Mv 5) (lo_96 ++ [((-16) : Int)]) := pf_110
                obtain ⟨lo_111, elo_111⟩ : ∃ z : List Int, z = (lo_96 ++ [(-16)]) := ⟨_, rfl⟩
                rw [← elo_111] at pf_110
                refine W.eq (g2 := F0 m 100 ls []) rfl ?_
                replace hP : va_P D classes [((Ma 1), .inl (tc 2, 400, .inl (Mf 1))), ((Ma 0), .inr (12, [.ref (Ma 1), .int (Mv 0), .int (Mv 1), .ref (Ma 2), .ref (Ma 3), .ref (Ma 4), .ref (Ma 5), .ref (Ma 6), .int sv_77, .int sv_78, .int sv_79, .int (Mv 5), .int sv_80, .int (Mv 7), .int (Mv 8), .ref (Ma 7), .int (Mv 9), .ref (Ma 8), .int (Mv 10), .ref (Ma 9), .ref (Ma 10), .int (Mv 11), .int (Mv 12), .int (Mv 13), .ref (Ma 11), .int (Mv 14), .ref (Ma 12), .ref (Ma 13), .ref (Ma 14), .ref (Ma 15), .ref (Ma 16), .long (Mj 0), .ref (Ma 17), .ref (Ma 18), .ref (Ma 19), .ref (Ma 20)])), ((Ma 2), .inl (tc 0, 2400, .inl sv_105)), ((Ma 3), .inl (tc 0, 7, .inl sv_106))] H := hP₀
                replace hD : va_D A [((Ma 1), .inl (tc 2, 400, .inl (Mf 1))), ((Ma 0), .inr (12, [.ref (Ma 1), .int (Mv 0), .int (Mv 1), .ref (Ma 2), .ref (Ma 3), .ref (Ma 4), .ref (Ma 5), .ref (Ma 6), .int sv_77, .int sv_78, .int sv_79, .int (Mv 5), .int sv_80, .int (Mv 7), .int (Mv 8), .ref (Ma 7), .int (Mv 9), .ref (Ma 8), .int (Mv 10), .ref (Ma 9), .ref (Ma 10), .int (Mv 11), .int (Mv 12), .int (Mv 13), .ref (Ma 11), .int (Mv 14), .ref (Ma 12), .ref (Ma 13), .ref (Ma 14), .ref (Ma 15), .ref (Ma 16), .long (Mj 0), .ref (Ma 17), .ref (Ma 18), .ref (Ma 19), .ref (Ma 20)])), ((Ma 2), .inl (tc 0, 2400, .inl sv_105)), ((Ma 3), .inl (tc 0, 7, .inl sv_106))] := hD₀
                replace hS := hS₀
                clear hP₀ hD₀ hS₀
                refine lv_goto (tgt := 9) hx hb dX12_term_100 (by decide) ?_
                have hb_112 : 400 - (sv_77 : Int32).toInt < 400 - (vy_30 : Int32).toInt ∧ 1 ≤ 400 - (vy_30 : Int32).toInt := by
                  have z_1 : ¬ (r_13 : Int32).toInt = (0 : Int32).toInt := fun z => c_18 (Int32.toInt_inj.mp z)
                  have z_2 := congrArg Int32.toInt c_62
                  have z_3 : ¬ (x_64 : Int32).toInt = (42 : Int32).toInt := fun z => c_65 (Int32.toInt_inj.mp z)
                  have z_4 : ¬ (x_67 : Int32).toInt = (47 : Int32).toInt := fun z => c_68 (Int32.toInt_inj.mp z)
                  have z_5 : ¬ (r_86 : Int32).toInt = (0 : Int32).toInt := fun z => c_91 (Int32.toInt_inj.mp z)
                  have y_0 : (0 : Int32).toInt = 0 := by decide
                  have y_42 : (42 : Int32).toInt = 42 := by decide
                  have y_47 : (47 : Int32).toInt = 47 := by decide
                  omega
                have ha_113 : 0 ≤ (sv_77 : Int32).toInt ∧ (sv_77 : Int32).toInt ≤ ((Mv 0) : Int32).toInt ∧ ((Mv 0) : Int32).toInt ≤ 400 := by
                  have z_1 : ¬ (r_13 : Int32).toInt = (0 : Int32).toInt := fun z => c_18 (Int32.toInt_inj.mp z)
                  have z_2 := congrArg Int32.toInt c_62
                  have z_3 : ¬ (x_64 : Int32).toInt = (42 : Int32).toInt := fun z => c_65 (Int32.toInt_inj.mp z)
                  have z_4 : ¬ (x_67 : Int32).toInt = (47 : Int32).toInt := fun z => c_68 (Int32.toInt_inj.mp z)
                  have z_5 : ¬ (r_86 : Int32).toInt = (0 : Int32).toInt := fun z => c_91 (Int32.toInt_inj.mp z)
                  have y_0 : (0 : Int32).toInt = 0 := by decide
                  have y_42 : (42 : Int32).toInt = 42 := by decide
                  have y_47 : (47 : Int32).toInt = 47 := by decide
                  omega
                have ha_114 : (Mv 6).toInt ≤ (sv_80 : Int32).toInt ∧ (sv_80 : Int32).toInt ≤ 60 := by
                  have z_1 : ¬ (r_13 : Int32).toInt = (0 : Int32).toInt := fun z => c_18 (Int32.toInt_inj.mp z)
                  have z_2 := congrArg Int32.toInt c_62
                  have z_3 : ¬ (x_64 : Int32).toInt = (42 : Int32).toInt := fun z => c_65 (Int32.toInt_inj.mp z)
                  have z_4 : ¬ (x_67 : Int32).toInt = (47 : Int32).toInt := fun z => c_68 (Int32.toInt_inj.mp z)
                  have z_5 : ¬ (r_86 : Int32).toInt = (0 : Int32).toInt := fun z => c_91 (Int32.toInt_inj.mp z)
                  have y_0 : (0 : Int32).toInt = 0 := by decide
                  have y_42 : (42 : Int32).toInt = 42 := by decide
                  have y_47 : (47 : Int32).toInt = 47 := by decide
                  omega
                have ha_115 : ((Mf 3) (Mv 5).toNatClampNeg).toInt + 1 ≤ (sv_106 (Mv 5).toNatClampNeg).toInt ∧ (sv_106 (Mv 5).toNatClampNeg).toInt + ((Mv 2) : Int32).toInt ≤ ((Mf 3) (Mv 5).toNatClampNeg).toInt + (sv_77 : Int32).toInt ∧ ((Mv 2) : Int32).toInt + 1 ≤ (sv_77 : Int32).toInt := by
                  have z_1 : ¬ (r_13 : Int32).toInt = (0 : Int32).toInt := fun z => c_18 (Int32.toInt_inj.mp z)
                  have z_2 := congrArg Int32.toInt c_62
                  have z_3 : ¬ (x_64 : Int32).toInt = (42 : Int32).toInt := fun z => c_65 (Int32.toInt_inj.mp z)
                  have z_4 : ¬ (x_67 : Int32).toInt = (47 : Int32).toInt := fun z => c_68 (Int32.toInt_inj.mp z)
                  have z_5 : ¬ (r_86 : Int32).toInt = (0 : Int32).toInt := fun z => c_91 (Int32.toInt_inj.mp z)
                  have y_0 : (0 : Int32).toInt = 0 := by decide
                  have y_42 : (42 : Int32).toInt = 42 := by decide
                  have y_47 : (47 : Int32).toInt = 47 := by decide
                  omega
                have hr_116 : (400 * ((Mv 5) : Int32).toInt + ((Mf 3) (Mv 5).toNatClampNeg).toInt) ≤ (400 * ((Mv 5) : Int32).toInt + ((Mf 3) (Mv 5).toNatClampNeg).toInt) := by
                  have z_1 : ¬ (r_13 : Int32).toInt = (0 : Int32).toInt := fun z => c_18 (Int32.toInt_inj.mp z)
                  have z_2 := congrArg Int32.toInt c_62
                  have z_3 : ¬ (x_64 : Int32).toInt = (42 : Int32).toInt := fun z => c_65 (Int32.toInt_inj.mp z)
                  have z_4 : ¬ (x_67 : Int32).toInt = (47 : Int32).toInt := fun z => c_68 (Int32.toInt_inj.mp z)
                  have z_5 : ¬ (r_86 : Int32).toInt = (0 : Int32).toInt := fun z => c_91 (Int32.toInt_inj.mp z)
                  have y_0 : (0 : Int32).toInt = 0 := by decide
                  have y_42 : (42 : Int32).toInt = 42 := by decide
                  have y_47 : (47 : Int32).toInt = 47 := by decide
                  omega
                have hr_117 : (400 * ((Mv 5) : Int32).toInt + ((Mf 3) (Mv 5).toNatClampNeg).toInt) ≤ (400 * ((Mv 5) : Int32).toInt + (vy_35 (Mv 5).toNatClampNeg).toInt) := by
                  have z_1 : ¬ (r_13 : Int32).toInt = (0 : Int32).toInt := fun z => c_18 (Int32.toInt_inj.mp z)
                  have z_2 := congrArg Int32.toInt c_62
                  have z_3 : ¬ (x_64 : Int32).toInt = (42 : Int32).toInt := fun z => c_65 (Int32.toInt_inj.mp z)
                  have z_4 : ¬ (x_67 : Int32).toInt = (47 : Int32).toInt := fun z => c_68 (Int32.toInt_inj.mp z)
                  have z_5 : ¬ (r_86 : Int32).toInt = (0 : Int32).toInt := fun z => c_91 (Int32.toInt_inj.mp z)
                  have y_0 : (0 : Int32).toInt = 0 := by decide
                  have y_42 : (42 : Int32).toInt = 42 := by decide
                  have y_47 : (47 : Int32).toInt = 47 := by decide
                  omega
                have hr_118 : (400 * ((Mv 5) : Int32).toInt + ((Mf 3) (Mv 5).toNatClampNeg).toInt) ≤ (400 * ((Mv 5) : Int32).toInt + (sv_82 (Mv 5).toNatClampNeg).toInt) := by
                  have z_1 : ¬ (r_13 : Int32).toInt = (0 : Int32).toInt := fun z => c_18 (Int32.toInt_inj.mp z)
                  have z_2 := congrArg Int32.toInt c_62
                  have z_3 : ¬ (x_64 : Int32).toInt = (42 : Int32).toInt := fun z => c_65 (Int32.toInt_inj.mp z)
                  have z_4 : ¬ (x_67 : Int32).toInt = (47 : Int32).toInt := fun z => c_68 (Int32.toInt_inj.mp z)
                  have z_5 : ¬ (r_86 : Int32).toInt = (0 : Int32).toInt := fun z => c_91 (Int32.toInt_inj.mp z)
                  have y_0 : (0 : Int32).toInt = 0 := by decide
                  have y_42 : (42 : Int32).toInt = 42 := by decide
                  have y_47 : (47 : Int32).toInt = 47 := by decide
                  omega
                have hr_119 : (rB (Mf 1) (Mv 0) (sv_54 : Int32).toInt.toNat = 43 ∨ rB (Mf 1) (Mv 0) (sv_54 : Int32).toInt.toNat = 45 ∨ rB (Mf 1) (Mv 0) (sv_54 : Int32).toInt.toNat = 42 ∨ rB (Mf 1) (Mv 0) (sv_54 : Int32).toInt.toNat = 47 ∨ rB (Mf 1) (Mv 0) (sv_54 : Int32).toInt.toNat = 37) := by
                  have z_1 : ¬ (r_13 : Int32).toInt = (0 : Int32).toInt := fun z => c_18 (Int32.toInt_inj.mp z)
                  have z_2 := congrArg Int32.toInt c_62
                  have z_3 : ¬ (x_64 : Int32).toInt = (42 : Int32).toInt := fun z => c_65 (Int32.toInt_inj.mp z)
                  have z_4 : ¬ (x_67 : Int32).toInt = (47 : Int32).toInt := fun z => c_68 (Int32.toInt_inj.mp z)
                  have z_5 : ¬ (r_86 : Int32).toInt = (0 : Int32).toInt := fun z => c_91 (Int32.toInt_inj.mp z)
                  have y_0 : (0 : Int32).toInt = 0 := by decide
                  have y_42 : (42 : Int32).toInt = 42 := by decide
                  have y_47 : (47 : Int32).toInt = 47 := by decide
                  omega
                have hi_120 : (x_69 : Int32).toInt = (sv_54 : Int32).toInt + 1 := by
                  have z_1 : ¬ (r_13 : Int32).toInt = (0 : Int32).toInt := fun z => c_18 (Int32.toInt_inj.mp z)
                  have z_2 := congrArg Int32.toInt c_62
                  have z_3 : ¬ (x_64 : Int32).toInt = (42 : Int32).toInt := fun z => c_65 (Int32.toInt_inj.mp z)
                  have z_4 : ¬ (x_67 : Int32).toInt = (47 : Int32).toInt := fun z => c_68 (Int32.toInt_inj.mp z)
                  have z_5 : ¬ (r_86 : Int32).toInt = (0 : Int32).toInt := fun z => c_91 (Int32.toInt_inj.mp z)
                  have y_0 : (0 : Int32).toInt = 0 := by decide
                  have y_42 : (42 : Int32).toInt = 42 := by decide
                  have y_47 : (47 : Int32).toInt = 47 := by decide
                  have y_1 : (1 : Int32).toInt = 1 := by decide
                  have t_x_69 : x_69.toInt = (sv_54 : Int32).toInt + (1 : Int32).toInt := by rw [ex_69]; exact add_toInt (by omega) (by omega)
                  omega
                have hr_121 : (rB (Mf 1) (Mv 0) (sv_54 : Int32).toInt.toNat = 42 ∨ rB (Mf 1) (Mv 0) (sv_54 : Int32).toInt.toNat = 47 ∨ rB (Mf 1) (Mv 0) (sv_54 : Int32).toInt.toNat = 37) := by
                  have z_1 : ¬ (r_13 : Int32).toInt = (0 : Int32).toInt := fun z => c_18 (Int32.toInt_inj.mp z)
                  have z_2 := congrArg Int32.toInt c_62
                  have z_3 : ¬ (x_64 : Int32).toInt = (42 : Int32).toInt := fun z => c_65 (Int32.toInt_inj.mp z)
                  have z_4 : ¬ (x_67 : Int32).toInt = (47 : Int32).toInt := fun z => c_68 (Int32.toInt_inj.mp z)
                  have z_5 : ¬ (r_86 : Int32).toInt = (0 : Int32).toInt := fun z => c_91 (Int32.toInt_inj.mp z)
                  have y_0 : (0 : Int32).toInt = 0 := by decide
                  have y_42 : (42 : Int32).toInt = 42 := by decide
                  have y_47 : (47 : Int32).toInt = 47 := by decide
                  omega
                have rg_122 := rB_rg (n := (Mv 0)) h_bs (sv_54 : Int32).toInt.toNat
                have hr_123 : rB (Mf 1) (Mv 0) (sv_54 : Int32).toInt.toNat = 37 := by
                  have z_1 : ¬ (r_13 : Int32).toInt = (0 : Int32).toInt := fun z => c_18 (Int32.toInt_inj.mp z)
                  have z_2 := congrArg Int32.toInt c_62
                  have z_3 : ¬ (x_64 : Int32).toInt = (42 : Int32).toInt := fun z => c_65 (Int32.toInt_inj.mp z)
                  have z_4 : ¬ (x_67 : Int32).toInt = (47 : Int32).toInt := fun z => c_68 (Int32.toInt_inj.mp z)
                  have z_5 : ¬ (r_86 : Int32).toInt = (0 : Int32).toInt := fun z => c_91 (Int32.toInt_inj.mp z)
                  have y_0 : (0 : Int32).toInt = 0 := by decide
                  have y_42 : (42 : Int32).toInt = 42 := by decide
                  have y_47 : (47 : Int32).toInt = 47 := by decide
                  omega
                have ho_124 : (-16 : Int) = ec_o (rB (Mf 1) (Mv 0) (sv_54 : Int32).toInt.toNat) := by rw [hr_123]; decide
                have hi_125 : (x_69 : Int32).toInt = (sv_54 : Int32).toInt + 1 := by
                  have z_1 : ¬ (r_13 : Int32).toInt = (0 : Int32).toInt := fun z => c_18 (Int32.toInt_inj.mp z)
                  have z_2 := congrArg Int32.toInt c_62
                  have z_3 : ¬ (x_64 : Int32).toInt = (42 : Int32).toInt := fun z => c_65 (Int32.toInt_inj.mp z)
                  have z_4 : ¬ (x_67 : Int32).toInt = (47 : Int32).toInt := fun z => c_68 (Int32.toInt_inj.mp z)
                  have z_5 : ¬ (r_86 : Int32).toInt = (0 : Int32).toInt := fun z => c_91 (Int32.toInt_inj.mp z)
                  have y_0 : (0 : Int32).toInt = 0 := by decide
                  have y_42 : (42 : Int32).toInt = 42 := by decide
                  have y_47 : (47 : Int32).toInt = 47 := by decide
                  have y_1 : (1 : Int32).toInt = 1 := by decide
                  have t_x_69 : x_69.toInt = (sv_54 : Int32).toInt + (1 : Int32).toInt := by rw [ex_69]; exact add_toInt (by omega) (by omega)
                  omega
                have hu_126 : SgC sv_105 sv_106 (Mv 5) (((ll ++ xq_47) ++ lval (rB (Mf 1) (Mv 0)) (St0 (rB (Mf 1) (Mv 0)) x_69 vy_33)) ++ [(-16)]) := by
                  rw [← elo_50, ← elo_96, ← elo_111]
                  exact pf_110
                exact ih_37 sv_77 sv_78 sv_79 sv_80 sv_105 sv_106 _ _ _ (by omega) ha_113 ha_114 ha_115 (Agr.trans (k' := (400 * ((Mv 5) : Int32).toInt + ((Mf 3) (Mv 5).toNatClampNeg).toInt)) (Agr.trans (k' := (400 * ((Mv 5) : Int32).toInt + ((Mf 3) (Mv 5).toNatClampNeg).toInt)) (Agr.mono pf_42 hr_116) pf_85 ⟨Int.le_refl _, hr_117⟩) pf_108 ⟨Int.le_refl _, hr_118⟩) pf_107 (TmL.next (rB_fi h_nx.2.2) pf_44 pf_58 hr_119 hi_120 pf_93) (TmC.next (rB_fi h_nx.2.2) pf_49 pf_58 hr_121 ho_124 hi_125 pf_93 hu_126) (hP.sub [1, 0, 2, 3] rfl) (hD.sub [1, 0, 2, 3] rfl rfl) hS (lv_sub hl [1] rfl)
              · skip
                have hz_128 : (r_86 : Int32).toInt = 0 := by
                  have z_1 : ¬ (r_13 : Int32).toInt = (0 : Int32).toInt := fun z => c_18 (Int32.toInt_inj.mp z)
                  have z_2 := congrArg Int32.toInt c_62
                  have z_3 : ¬ (x_64 : Int32).toInt = (42 : Int32).toInt := fun z => c_65 (Int32.toInt_inj.mp z)
                  have z_4 : ¬ (x_67 : Int32).toInt = (47 : Int32).toInt := fun z => c_68 (Int32.toInt_inj.mp z)
                  have z_5 := congrArg Int32.toInt c_91
                  have y_0 : (0 : Int32).toInt = 0 := by decide
                  have y_42 : (42 : Int32).toInt = 42 := by decide
                  have y_47 : (47 : Int32).toInt = 47 := by decide
                  omega
                obtain pf_127 := hm_90 hz_128
                have pf_127 : RfE (pz_val (rB (Mf 1) (Mv 0)) (St0 (rB (Mf 1) (Mv 0)) x_69 vy_33)) sv_78 := pf_127
                refine lv_iconst (v := 0) hx hb dX12_term_92 (by decide) ?_
                have ha_129 : ((Mv 2) : Int32).toInt ≤ (sv_77 : Int32).toInt ∧ (sv_77 : Int32).toInt ≤ ((Mv 0) : Int32).toInt := by
                  have z_1 : ¬ (r_13 : Int32).toInt = (0 : Int32).toInt := fun z => c_18 (Int32.toInt_inj.mp z)
                  have z_2 := congrArg Int32.toInt c_62
                  have z_3 : ¬ (x_64 : Int32).toInt = (42 : Int32).toInt := fun z => c_65 (Int32.toInt_inj.mp z)
                  have z_4 : ¬ (x_67 : Int32).toInt = (47 : Int32).toInt := fun z => c_68 (Int32.toInt_inj.mp z)
                  have z_5 := congrArg Int32.toInt c_91
                  have y_0 : (0 : Int32).toInt = 0 := by decide
                  have y_42 : (42 : Int32).toInt = 42 := by decide
                  have y_47 : (47 : Int32).toInt = 47 := by decide
                  omega
                have ha_130 : ((Mv 6) : Int32).toInt ≤ (sv_80 : Int32).toInt ∧ (sv_80 : Int32).toInt ≤ 60 := by
                  have z_1 : ¬ (r_13 : Int32).toInt = (0 : Int32).toInt := fun z => c_18 (Int32.toInt_inj.mp z)
                  have z_2 := congrArg Int32.toInt c_62
                  have z_3 : ¬ (x_64 : Int32).toInt = (42 : Int32).toInt := fun z => c_65 (Int32.toInt_inj.mp z)
                  have z_4 : ¬ (x_67 : Int32).toInt = (47 : Int32).toInt := fun z => c_68 (Int32.toInt_inj.mp z)
                  have z_5 := congrArg Int32.toInt c_91
                  have y_0 : (0 : Int32).toInt = 0 := by decide
                  have y_42 : (42 : Int32).toInt = 42 := by decide
                  have y_47 : (47 : Int32).toInt = 47 := by decide
                  omega
                have hr_131 : (400 * ((Mv 5) : Int32).toInt + ((Mf 3) (Mv 5).toNatClampNeg).toInt) ≤ (400 * ((Mv 5) : Int32).toInt + ((Mf 3) (Mv 5).toNatClampNeg).toInt) := by
                  have z_1 : ¬ (r_13 : Int32).toInt = (0 : Int32).toInt := fun z => c_18 (Int32.toInt_inj.mp z)
                  have z_2 := congrArg Int32.toInt c_62
                  have z_3 : ¬ (x_64 : Int32).toInt = (42 : Int32).toInt := fun z => c_65 (Int32.toInt_inj.mp z)
                  have z_4 : ¬ (x_67 : Int32).toInt = (47 : Int32).toInt := fun z => c_68 (Int32.toInt_inj.mp z)
                  have z_5 := congrArg Int32.toInt c_91
                  have y_0 : (0 : Int32).toInt = 0 := by decide
                  have y_42 : (42 : Int32).toInt = 42 := by decide
                  have y_47 : (47 : Int32).toInt = 47 := by decide
                  omega
                have hr_132 : (400 * ((Mv 5) : Int32).toInt + ((Mf 3) (Mv 5).toNatClampNeg).toInt) ≤ (400 * ((Mv 5) : Int32).toInt + (vy_35 (Mv 5).toNatClampNeg).toInt) := by
                  have z_1 : ¬ (r_13 : Int32).toInt = (0 : Int32).toInt := fun z => c_18 (Int32.toInt_inj.mp z)
                  have z_2 := congrArg Int32.toInt c_62
                  have z_3 : ¬ (x_64 : Int32).toInt = (42 : Int32).toInt := fun z => c_65 (Int32.toInt_inj.mp z)
                  have z_4 : ¬ (x_67 : Int32).toInt = (47 : Int32).toInt := fun z => c_68 (Int32.toInt_inj.mp z)
                  have z_5 := congrArg Int32.toInt c_91
                  have y_0 : (0 : Int32).toInt = 0 := by decide
                  have y_42 : (42 : Int32).toInt = 42 := by decide
                  have y_47 : (47 : Int32).toInt = 47 := by decide
                  omega
                have hp_133 : (((0 : Int32).toInt = 0 ∧ ¬ (sv_78 : Int32).toInt = 0) ∨ ((0 : Int32).toInt = 1 ∧ ((Mf 3) (Mv 5).toNatClampNeg).toInt + 1 ≤ (sv_82 (Mv 5).toNatClampNeg).toInt ∧ (sv_82 (Mv 5).toNatClampNeg).toInt + ((Mv 2) : Int32).toInt ≤ ((Mf 3) (Mv 5).toNatClampNeg).toInt + (sv_77 : Int32).toInt ∧ ((Mv 2) : Int32).toInt + 1 ≤ (sv_77 : Int32).toInt)) := by
                  have z_1 : ¬ (r_13 : Int32).toInt = (0 : Int32).toInt := fun z => c_18 (Int32.toInt_inj.mp z)
                  have z_2 := congrArg Int32.toInt c_62
                  have z_3 : ¬ (x_64 : Int32).toInt = (42 : Int32).toInt := fun z => c_65 (Int32.toInt_inj.mp z)
                  have z_4 : ¬ (x_67 : Int32).toInt = (47 : Int32).toInt := fun z => c_68 (Int32.toInt_inj.mp z)
                  have z_5 := congrArg Int32.toInt c_91
                  have y_0 : (0 : Int32).toInt = 0 := by decide
                  have y_42 : (42 : Int32).toInt = 42 := by decide
                  have y_47 : (47 : Int32).toInt = 47 := by decide
                  omega
                have hm_134 : (0 : Int32).toInt = 0 → (RfE (pz_sum (rB (Mf 1) (Mv 0)) (St0 (rB (Mf 1) (Mv 0)) (Mv 2) (Mv 6))) sv_78) := by
                  intro h1r
                  have hr_135 : (rB (Mf 1) (Mv 0) (sv_54 : Int32).toInt.toNat = 43 ∨ rB (Mf 1) (Mv 0) (sv_54 : Int32).toInt.toNat = 45 ∨ rB (Mf 1) (Mv 0) (sv_54 : Int32).toInt.toNat = 42 ∨ rB (Mf 1) (Mv 0) (sv_54 : Int32).toInt.toNat = 47 ∨ rB (Mf 1) (Mv 0) (sv_54 : Int32).toInt.toNat = 37) := by
                    have z_1 : ¬ (r_13 : Int32).toInt = (0 : Int32).toInt := fun z => c_18 (Int32.toInt_inj.mp z)
                    have z_2 := congrArg Int32.toInt c_62
                    have z_3 : ¬ (x_64 : Int32).toInt = (42 : Int32).toInt := fun z => c_65 (Int32.toInt_inj.mp z)
                    have z_4 : ¬ (x_67 : Int32).toInt = (47 : Int32).toInt := fun z => c_68 (Int32.toInt_inj.mp z)
                    have z_5 := congrArg Int32.toInt c_91
                    have y_0 : (0 : Int32).toInt = 0 := by decide
                    have y_42 : (42 : Int32).toInt = 42 := by decide
                    have y_47 : (47 : Int32).toInt = 47 := by decide
                    omega
                  have hi_136 : (x_69 : Int32).toInt = (sv_54 : Int32).toInt + 1 := by
                    have z_1 : ¬ (r_13 : Int32).toInt = (0 : Int32).toInt := fun z => c_18 (Int32.toInt_inj.mp z)
                    have z_2 := congrArg Int32.toInt c_62
                    have z_3 : ¬ (x_64 : Int32).toInt = (42 : Int32).toInt := fun z => c_65 (Int32.toInt_inj.mp z)
                    have z_4 : ¬ (x_67 : Int32).toInt = (47 : Int32).toInt := fun z => c_68 (Int32.toInt_inj.mp z)
                    have z_5 := congrArg Int32.toInt c_91
                    have y_0 : (0 : Int32).toInt = 0 := by decide
                    have y_42 : (42 : Int32).toInt = 42 := by decide
                    have y_47 : (47 : Int32).toInt = 47 := by decide
                    have y_1 : (1 : Int32).toInt = 1 := by decide
                    have t_x_69 : x_69.toInt = (sv_54 : Int32).toInt + (1 : Int32).toInt := by rw [ex_69]; exact add_toInt (by omega) (by omega)
                    omega
                  exact (TmL.er (rB_fi h_nx.2.2) pf_44 pf_58 hr_135 hi_136 pf_127)
                exact retI (v := 0) hx hb hr hlk (rfl) hP hD hS (sv_77, sv_78, sv_79, sv_80, sv_81, sv_82) ⟨_, rfl, hp_133, ha_129, ha_130, (Agr.trans (k' := (400 * ((Mv 5) : Int32).toInt + ((Mf 3) (Mv 5).toNatClampNeg).toInt)) (Agr.mono pf_42 hr_131) pf_85 ⟨Int.le_refl _, hr_132⟩), (fun h => absurd h (by decide)), hm_134⟩ [0, 1, 2, 3] rfl rfl dX12_term_93 (Nat.le_of_ble_eq_true rfl) (Nat.le_of_ble_eq_true rfl) rfl
            · skip
              refine lv_iconst (v := 5) hx hb dX12_term_68 (by decide) ?_
              refine lv_goto (tgt := 74) hx hb dX12_term_69 (by decide) ?_
              refine lv_istore_n (lv' := [(1, .int 5), (0, .ref (Ma 0))]) hx hb dX12_term_74 rfl hl (by decide) rfl (fun ls hl₀ => ?_)
              replace hl := hl₀
              clear hl₀
              refine lv_aload_n hx hb dX12_term_75 rfl (lv_at hl 1 rfl) ?_
              refine lv_dup hx hb dX12_term_76 rfl ?_
              refine gf_X12_87 hx hb hts hown hK hP 2 rfl rfl dX12_term_77 ?_
              refine lv_iconst (v := 1) hx hb dX12_term_80 (by decide) ?_
              refine lv_iadd hx hb dX12_term_81 ?_
              refine lv_topi (fun x_137 ex_137 => ?_)
              refine pf_X12_87 hx hb hts hown hK hP hD hS 2 rfl (Nat.le_of_ble_eq_true rfl) rfl rfl dX12_term_82 (fun H locs hP₀ hD₀ hS₀ => ?_)
              replace hP : va_P D classes [((Ma 2), .inl (tc 0, 2400, .inl vy_34)), ((Ma 3), .inl (tc 0, 7, .inl vy_35)), ((Ma 0), .inr (12, [.ref (Ma 1), .int (Mv 0), .int (Mv 1), .ref (Ma 2), .ref (Ma 3), .ref (Ma 4), .ref (Ma 5), .ref (Ma 6), .int x_137, .int vy_31, .int vy_32, .int (Mv 5), .int vy_33, .int (Mv 7), .int (Mv 8), .ref (Ma 7), .int (Mv 9), .ref (Ma 8), .int (Mv 10), .ref (Ma 9), .ref (Ma 10), .int (Mv 11), .int (Mv 12), .int (Mv 13), .ref (Ma 11), .int (Mv 14), .ref (Ma 12), .ref (Ma 13), .ref (Ma 14), .ref (Ma 15), .ref (Ma 16), .long (Mj 0), .ref (Ma 17), .ref (Ma 18), .ref (Ma 19), .ref (Ma 20)])), ((Ma 1), .inl (tc 2, 400, .inl (Mf 1)))] H := hP₀
              replace hD : va_D A [((Ma 2), .inl (tc 0, 2400, .inl vy_34)), ((Ma 3), .inl (tc 0, 7, .inl vy_35)), ((Ma 0), .inr (12, [.ref (Ma 1), .int (Mv 0), .int (Mv 1), .ref (Ma 2), .ref (Ma 3), .ref (Ma 4), .ref (Ma 5), .ref (Ma 6), .int x_137, .int vy_31, .int vy_32, .int (Mv 5), .int vy_33, .int (Mv 7), .int (Mv 8), .ref (Ma 7), .int (Mv 9), .ref (Ma 8), .int (Mv 10), .ref (Ma 9), .ref (Ma 10), .int (Mv 11), .int (Mv 12), .int (Mv 13), .ref (Ma 11), .int (Mv 14), .ref (Ma 12), .ref (Ma 13), .ref (Ma 14), .ref (Ma 15), .ref (Ma 16), .long (Mj 0), .ref (Ma 17), .ref (Ma 18), .ref (Ma 19), .ref (Ma 20)])), ((Ma 1), .inl (tc 2, 400, .inl (Mf 1)))] := hD₀
              replace hS := hS₀
              clear hP₀ hD₀ hS₀
              have tp_x_137 : (x_137 : Int32).toInt = (sv_54 : Int32).toInt + 1 := by
                have z_1 : ¬ (r_13 : Int32).toInt = (0 : Int32).toInt := fun z => c_18 (Int32.toInt_inj.mp z)
                have z_2 := congrArg Int32.toInt c_62
                have z_3 : ¬ (x_64 : Int32).toInt = (42 : Int32).toInt := fun z => c_65 (Int32.toInt_inj.mp z)
                have z_4 := congrArg Int32.toInt c_68
                have y_0 : (0 : Int32).toInt = 0 := by decide
                have y_42 : (42 : Int32).toInt = 42 := by decide
                have y_47 : (47 : Int32).toInt = 47 := by decide
                have y_1 : (1 : Int32).toInt = 1 := by decide
                have t_x_137 : x_137.toInt = (sv_54 : Int32).toInt + (1 : Int32).toInt := by rw [ex_137]; exact add_toInt (by omega) (by omega)
                omega
              refine lv_aload_n hx hb dX12_term_85 rfl (lv_at hl 1 rfl) ?_
              have ha_138 : 0 ≤ (x_137 : Int32).toInt ∧ (x_137 : Int32).toInt ≤ ((Mv 0) : Int32).toInt ∧ ((Mv 0) : Int32).toInt ≤ 400 := by
                have z_1 : ¬ (r_13 : Int32).toInt = (0 : Int32).toInt := fun z => c_18 (Int32.toInt_inj.mp z)
                have z_2 := congrArg Int32.toInt c_62
                have z_3 : ¬ (x_64 : Int32).toInt = (42 : Int32).toInt := fun z => c_65 (Int32.toInt_inj.mp z)
                have z_4 := congrArg Int32.toInt c_68
                have y_0 : (0 : Int32).toInt = 0 := by decide
                have y_42 : (42 : Int32).toInt = 42 := by decide
                have y_47 : (47 : Int32).toInt = 47 := by decide
                have y_1 : (1 : Int32).toInt = 1 := by decide
                have t_x_137 : x_137.toInt = (sv_54 : Int32).toInt + (1 : Int32).toInt := by rw [ex_137]; exact add_toInt (by omega) (by omega)
                omega
              have ha_139 : (vy_35 (Mv 5).toNatClampNeg).toInt ≤ (x_137 : Int32).toInt := by
                have z_1 : ¬ (r_13 : Int32).toInt = (0 : Int32).toInt := fun z => c_18 (Int32.toInt_inj.mp z)
                have z_2 := congrArg Int32.toInt c_62
                have z_3 : ¬ (x_64 : Int32).toInt = (42 : Int32).toInt := fun z => c_65 (Int32.toInt_inj.mp z)
                have z_4 := congrArg Int32.toInt c_68
                have y_0 : (0 : Int32).toInt = 0 := by decide
                have y_42 : (42 : Int32).toInt = 42 := by decide
                have y_47 : (47 : Int32).toInt = 47 := by decide
                have y_1 : (1 : Int32).toInt = 1 := by decide
                have t_x_137 : x_137.toInt = (sv_54 : Int32).toInt + (1 : Int32).toInt := by rw [ex_137]; exact add_toInt (by omega) (by omega)
                omega
              have ha_140 : 0 ≤ (vy_33 : Int32).toInt ∧ (vy_33 : Int32).toInt ≤ 60 := by
                have z_1 : ¬ (r_13 : Int32).toInt = (0 : Int32).toInt := fun z => c_18 (Int32.toInt_inj.mp z)
                have z_2 := congrArg Int32.toInt c_62
                have z_3 : ¬ (x_64 : Int32).toInt = (42 : Int32).toInt := fun z => c_65 (Int32.toInt_inj.mp z)
                have z_4 := congrArg Int32.toInt c_68
                have y_0 : (0 : Int32).toInt = 0 := by decide
                have y_42 : (42 : Int32).toInt = 42 := by decide
                have y_47 : (47 : Int32).toInt = 47 := by decide
                omega
              have ha_141 : (vy_31 : Int32).toInt = 0 := by
                have z_1 : ¬ (r_13 : Int32).toInt = (0 : Int32).toInt := fun z => c_18 (Int32.toInt_inj.mp z)
                have z_2 := congrArg Int32.toInt c_62
                have z_3 : ¬ (x_64 : Int32).toInt = (42 : Int32).toInt := fun z => c_65 (Int32.toInt_inj.mp z)
                have z_4 := congrArg Int32.toInt c_68
                have y_0 : (0 : Int32).toInt = 0 := by decide
                have y_42 : (42 : Int32).toInt = 42 := by decide
                have y_47 : (47 : Int32).toInt = 47 := by decide
                omega
              refine cV (a := (Ma 0)) (As := []) (rest := []) (wr := []) ⟨hx, hb, hml, hown, hts⟩ hK hX hA (cu_kX12_value l D tc sk (Ma 0) (Ma 1) (Ma 2) (Ma 3) (Ma 4) (Ma 5) (Ma 6) (Ma 7) (Ma 8) (Ma 9) (Ma 10) (Ma 11) (Ma 12) (Ma 13) (Ma 14) (Ma 15) (Ma 16) (Ma 17) (Ma 18) (Ma 19) (Ma 20) (Mv 0) (Mv 1) x_137 vy_31 vy_32 (Mv 5) vy_33 (Mv 7) (Mv 8) (Mv 9) (Mv 10) (Mv 11) (Mv 12) (Mv 13) (Mv 14) (Mf 1) vy_34 vy_35 (Mj 0) b (d + 1) lo_50 ha_138 pf_43 ha_139 ha_140 h_bs ha_141 pf_48) k_1287 k_1284 k_1286 k_44 k_106 pl_X12_value ⟨Nat.le_of_ble_eq_true rfl, Nat.le_of_ble_eq_true rfl⟩ rfl rfl (va_recv hK hP (ci := 12) (q0 := 2) rfl rfl) hP hD hS [2, 3, 0, 1] [] rfl rfl rfl rfl rfl (by decide) rfl hl.1 rfl (Nat.le_of_ble_eq_true rfl) dX12_term_86 ⟨Nat.le_of_ble_eq_true rfl, Nat.le_of_ble_eq_true rfl⟩ (fun v_142 u_143 H locs hv_144 hP₀ hD₀ hS₀ => ?_)
              obtain ⟨sv_145, sv_146, sv_147, sv_148, sv_149, sv_150⟩ := u_143
              obtain ⟨r_154, rfl, he_155, pf_151, pf_152, pf_153, hm_157, hm_158⟩ := hv_144
              have he_155 : ((r_154.toInt = 0 ∧ ¬ (sv_146 : Int32).toInt = 0) ∨ (r_154.toInt = 1 ∧ (vy_35 (Mv 5).toNatClampNeg).toInt + 1 ≤ (sv_150 (Mv 5).toNatClampNeg).toInt ∧ (sv_150 (Mv 5).toNatClampNeg).toInt + (x_137 : Int32).toInt ≤ (vy_35 (Mv 5).toNatClampNeg).toInt + (sv_145 : Int32).toInt ∧ (x_137 : Int32).toInt + 1 ≤ (sv_145 : Int32).toInt)) := he_155
              have pf_151 : (x_137 : Int32).toInt ≤ (sv_145 : Int32).toInt ∧ (sv_145 : Int32).toInt ≤ ((Mv 0) : Int32).toInt := pf_151
              have pf_152 : (vy_33 : Int32).toInt ≤ (sv_148 : Int32).toInt ∧ (sv_148 : Int32).toInt ≤ 60 := pf_152
              have pf_153 : Agr vy_34 sv_149 (400 * ((Mv 5) : Int32).toInt + (vy_35 (Mv 5).toNatClampNeg).toInt) := pf_153
              refine W.eq (g2 := F0 m 89 ls [.int r_154]) rfl ?_
              replace hP : va_P D classes [((Ma 0), .inr (12, [.ref (Ma 1), .int (Mv 0), .int (Mv 1), .ref (Ma 2), .ref (Ma 3), .ref (Ma 4), .ref (Ma 5), .ref (Ma 6), .int sv_145, .int sv_146, .int sv_147, .int (Mv 5), .int sv_148, .int (Mv 7), .int (Mv 8), .ref (Ma 7), .int (Mv 9), .ref (Ma 8), .int (Mv 10), .ref (Ma 9), .ref (Ma 10), .int (Mv 11), .int (Mv 12), .int (Mv 13), .ref (Ma 11), .int (Mv 14), .ref (Ma 12), .ref (Ma 13), .ref (Ma 14), .ref (Ma 15), .ref (Ma 16), .long (Mj 0), .ref (Ma 17), .ref (Ma 18), .ref (Ma 19), .ref (Ma 20)])), ((Ma 1), .inl (tc 2, 400, .inl (Mf 1))), ((Ma 2), .inl (tc 0, 2400, .inl sv_149)), ((Ma 3), .inl (tc 0, 7, .inl sv_150))] H := hP₀
              replace hD : va_D A [((Ma 0), .inr (12, [.ref (Ma 1), .int (Mv 0), .int (Mv 1), .ref (Ma 2), .ref (Ma 3), .ref (Ma 4), .ref (Ma 5), .ref (Ma 6), .int sv_145, .int sv_146, .int sv_147, .int (Mv 5), .int sv_148, .int (Mv 7), .int (Mv 8), .ref (Ma 7), .int (Mv 9), .ref (Ma 8), .int (Mv 10), .ref (Ma 9), .ref (Ma 10), .int (Mv 11), .int (Mv 12), .int (Mv 13), .ref (Ma 11), .int (Mv 14), .ref (Ma 12), .ref (Ma 13), .ref (Ma 14), .ref (Ma 15), .ref (Ma 16), .long (Mj 0), .ref (Ma 17), .ref (Ma 18), .ref (Ma 19), .ref (Ma 20)])), ((Ma 1), .inl (tc 2, 400, .inl (Mf 1))), ((Ma 2), .inl (tc 0, 2400, .inl sv_149)), ((Ma 3), .inl (tc 0, 7, .inl sv_150))] := hD₀
              replace hS := hS₀
              clear hP₀ hD₀ hS₀
              refine lv_if_ne (tgt := 94) hx hb dX12_term_89 (by decide) (fun c_159 => ?_) (fun c_159 => ?_)
              · skip
                have hz_163 : (r_154 : Int32).toInt = 1 := by
                  have z_1 : ¬ (r_13 : Int32).toInt = (0 : Int32).toInt := fun z => c_18 (Int32.toInt_inj.mp z)
                  have z_2 := congrArg Int32.toInt c_62
                  have z_3 : ¬ (x_64 : Int32).toInt = (42 : Int32).toInt := fun z => c_65 (Int32.toInt_inj.mp z)
                  have z_4 := congrArg Int32.toInt c_68
                  have z_5 : ¬ (r_154 : Int32).toInt = (0 : Int32).toInt := fun z => c_159 (Int32.toInt_inj.mp z)
                  have y_0 : (0 : Int32).toInt = 0 := by decide
                  have y_42 : (42 : Int32).toInt = 42 := by decide
                  have y_47 : (47 : Int32).toInt = 47 := by decide
                  omega
                obtain ⟨pf_160, pf_161, pf_162⟩ := hm_157 hz_163
                have pf_160 : Cd sv_149 sv_150 (Mv 5) b sv_148 ((d + 1) + 1) := pf_160
                have ar_pf_160 := Cd.ar pf_160
                have pf_161 : RfO (pz_val (rB (Mf 1) (Mv 0)) (St0 (rB (Mf 1) (Mv 0)) x_137 vy_33)) (rB (Mf 1) (Mv 0)) sv_146 sv_145 sv_148 := pf_161
                have ar_pf_161 := RfO.wr pf_161
                have pf_162 : SgC sv_149 sv_150 (Mv 5) (lo_50 ++ lval (rB (Mf 1) (Mv 0)) (St0 (rB (Mf 1) (Mv 0)) x_137 vy_33)) := pf_162
                obtain ⟨lo_164, elo_164⟩ : ∃ z : List Int, z = (lo_50 ++ lval (rB (Mf 1) (Mv 0)) (St0 (rB (Mf 1) (Mv 0)) x_137 vy_33)) := ⟨_, rfl⟩
                rw [← elo_164] at pf_162
                refine lv_aload_n hx hb dX12_term_94 rfl (lv_at hl 1 rfl) ?_
                refine lv_iload_n hx hb dX12_term_95 rfl (lv_at hl 0 rfl) ?_
                refine lv_iconst (v := 0) hx hb dX12_term_96 (by decide) ?_
                have ha_165 : ((d + 1) : Int) ≤ sv_148.toInt := by
                  have z_1 : ¬ (r_13 : Int32).toInt = (0 : Int32).toInt := fun z => c_18 (Int32.toInt_inj.mp z)
                  have z_2 := congrArg Int32.toInt c_62
                  have z_3 : ¬ (x_64 : Int32).toInt = (42 : Int32).toInt := fun z => c_65 (Int32.toInt_inj.mp z)
                  have z_4 := congrArg Int32.toInt c_68
                  have z_5 : ¬ (r_154 : Int32).toInt = (0 : Int32).toInt := fun z => c_159 (Int32.toInt_inj.mp z)
                  have y_0 : (0 : Int32).toInt = 0 := by decide
                  have y_42 : (42 : Int32).toInt = 42 := by decide
                  have y_47 : (47 : Int32).toInt = 47 := by decide
                  omega
                have ha_166 : (sv_150 (Mv 5).toNatClampNeg).toInt < 400 := by
                  have z_1 : ¬ (r_13 : Int32).toInt = (0 : Int32).toInt := fun z => c_18 (Int32.toInt_inj.mp z)
                  have z_2 := congrArg Int32.toInt c_62
                  have z_3 : ¬ (x_64 : Int32).toInt = (42 : Int32).toInt := fun z => c_65 (Int32.toInt_inj.mp z)
                  have z_4 := congrArg Int32.toInt c_68
                  have z_5 : ¬ (r_154 : Int32).toInt = (0 : Int32).toInt := fun z => c_159 (Int32.toInt_inj.mp z)
                  have y_0 : (0 : Int32).toInt = 0 := by decide
                  have y_42 : (42 : Int32).toInt = 42 := by decide
                  have y_47 : (47 : Int32).toInt = 47 := by decide
                  omega
                have ha_167 : 0 ≤ (5 : Int32).toInt ∧ (5 : Int32).toInt ≤ 15 := by
                  have z_1 : ¬ (r_13 : Int32).toInt = (0 : Int32).toInt := fun z => c_18 (Int32.toInt_inj.mp z)
                  have z_2 := congrArg Int32.toInt c_62
                  have z_3 : ¬ (x_64 : Int32).toInt = (42 : Int32).toInt := fun z => c_65 (Int32.toInt_inj.mp z)
                  have z_4 := congrArg Int32.toInt c_68
                  have z_5 : ¬ (r_154 : Int32).toInt = (0 : Int32).toInt := fun z => c_159 (Int32.toInt_inj.mp z)
                  have y_0 : (0 : Int32).toInt = 0 := by decide
                  have y_42 : (42 : Int32).toInt = 42 := by decide
                  have y_47 : (47 : Int32).toInt = 47 := by decide
                  have y_5 : (5 : Int32).toInt = 5 := by decide
                  omega
                have ha_168 : 0 ≤ (0 : Int32).toInt ∧ (0 : Int32).toInt ≤ 100000 := by
                  have z_1 : ¬ (r_13 : Int32).toInt = (0 : Int32).toInt := fun z => c_18 (Int32.toInt_inj.mp z)
                  have z_2 := congrArg Int32.toInt c_62
                  have z_3 : ¬ (x_64 : Int32).toInt = (42 : Int32).toInt := fun z => c_65 (Int32.toInt_inj.mp z)
                  have z_4 := congrArg Int32.toInt c_68
                  have z_5 : ¬ (r_154 : Int32).toInt = (0 : Int32).toInt := fun z => c_159 (Int32.toInt_inj.mp z)
                  have y_0 : (0 : Int32).toInt = 0 := by decide
                  have y_42 : (42 : Int32).toInt = 42 := by decide
                  have y_47 : (47 : Int32).toInt = 47 := by decide
                  omega
                have ha_169 : 0 ≤ (Mv 5).toInt := by
                  have z_1 : ¬ (r_13 : Int32).toInt = (0 : Int32).toInt := fun z => c_18 (Int32.toInt_inj.mp z)
                  have z_2 := congrArg Int32.toInt c_62
                  have z_3 : ¬ (x_64 : Int32).toInt = (42 : Int32).toInt := fun z => c_65 (Int32.toInt_inj.mp z)
                  have z_4 := congrArg Int32.toInt c_68
                  have z_5 : ¬ (r_154 : Int32).toInt = (0 : Int32).toInt := fun z => c_159 (Int32.toInt_inj.mp z)
                  have y_0 : (0 : Int32).toInt = 0 := by decide
                  have y_42 : (42 : Int32).toInt = 42 := by decide
                  have y_47 : (47 : Int32).toInt = 47 := by decide
                  omega
                refine cV (a := (Ma 0)) (As := [.int 5, .int 0]) (rest := []) (wr := [((Ma 1), .inl (tc 2, 400, .inl (Mf 1)))]) ⟨hx, hb, hml, hown, hts⟩ hK hX hA (cu_kX12_puts l D tc sk (Ma 0) (Ma 1) (Ma 2) (Ma 3) (Ma 4) (Ma 5) (Ma 6) (Ma 7) (Ma 8) (Ma 9) (Ma 10) (Ma 11) (Ma 12) (Ma 13) (Ma 14) (Ma 15) (Ma 16) (Ma 17) (Ma 18) (Ma 19) (Ma 20) (Mv 0) (Mv 1) sv_145 sv_146 sv_147 (Mv 5) sv_148 (Mv 7) (Mv 8) (Mv 9) (Mv 10) (Mv 11) (Mv 12) (Mv 13) (Mv 14) sv_149 sv_150 (Mj 0) 5 0 b sv_148 ((d + 1) + 1) (d + 1) lo_164 (-15) pf_160 (StpR.op (by decide) rfl (by omega)) ha_165 ha_166 pf_162 (by decide) ha_167 ha_168 ha_169) k_1296 k_1293 k_1295 k_46 k_106 pl_X12_puts ⟨Nat.le_of_ble_eq_true rfl, Nat.le_of_ble_eq_true rfl⟩ rfl rfl (va_recv hK hP (ci := 12) (q0 := 0) rfl rfl) hP hD hS [0, 2, 3] [1] rfl rfl rfl rfl rfl (by decide) rfl hl.1 rfl (Nat.le_of_ble_eq_true rfl) dX12_term_97 ⟨Nat.le_of_ble_eq_true rfl, Nat.le_of_ble_eq_true rfl⟩ (fun v_170 u_171 H locs hv_172 hP₀ hD₀ hS₀ => ?_)
                obtain ⟨sv_173, sv_174⟩ := u_171
                obtain ⟨rfl, pf_175, pf_176, pf_177, pf_178⟩ := hv_172
                have pf_175 : Cd sv_173 sv_174 (Mv 5) b sv_148 (d + 1) := pf_175
                have ar_pf_175 := Cd.ar pf_175
                have pf_176 : Agr sv_149 sv_173 (400 * ((Mv 5) : Int32).toInt + (sv_150 (Mv 5).toNatClampNeg).toInt) := pf_176
                have pf_177 : (sv_174 (Mv 5).toNatClampNeg).toInt = (sv_150 (Mv 5).toNatClampNeg).toInt + 1 := pf_177
                have pf_178 : SgC sv_173 sv_174 (Mv 5) (lo_164 ++ [((-15) : Int)]) := pf_178
                obtain ⟨lo_179, elo_179⟩ : ∃ z : List Int, z = (lo_164 ++ [(-15)]) := ⟨_, rfl⟩
                rw [← elo_179] at pf_178
                refine W.eq (g2 := F0 m 100 ls []) rfl ?_
                replace hP : va_P D classes [((Ma 1), .inl (tc 2, 400, .inl (Mf 1))), ((Ma 0), .inr (12, [.ref (Ma 1), .int (Mv 0), .int (Mv 1), .ref (Ma 2), .ref (Ma 3), .ref (Ma 4), .ref (Ma 5), .ref (Ma 6), .int sv_145, .int sv_146, .int sv_147, .int (Mv 5), .int sv_148, .int (Mv 7), .int (Mv 8), .ref (Ma 7), .int (Mv 9), .ref (Ma 8), .int (Mv 10), .ref (Ma 9), .ref (Ma 10), .int (Mv 11), .int (Mv 12), .int (Mv 13), .ref (Ma 11), .int (Mv 14), .ref (Ma 12), .ref (Ma 13), .ref (Ma 14), .ref (Ma 15), .ref (Ma 16), .long (Mj 0), .ref (Ma 17), .ref (Ma 18), .ref (Ma 19), .ref (Ma 20)])), ((Ma 2), .inl (tc 0, 2400, .inl sv_173)), ((Ma 3), .inl (tc 0, 7, .inl sv_174))] H := hP₀
                replace hD : va_D A [((Ma 1), .inl (tc 2, 400, .inl (Mf 1))), ((Ma 0), .inr (12, [.ref (Ma 1), .int (Mv 0), .int (Mv 1), .ref (Ma 2), .ref (Ma 3), .ref (Ma 4), .ref (Ma 5), .ref (Ma 6), .int sv_145, .int sv_146, .int sv_147, .int (Mv 5), .int sv_148, .int (Mv 7), .int (Mv 8), .ref (Ma 7), .int (Mv 9), .ref (Ma 8), .int (Mv 10), .ref (Ma 9), .ref (Ma 10), .int (Mv 11), .int (Mv 12), .int (Mv 13), .ref (Ma 11), .int (Mv 14), .ref (Ma 12), .ref (Ma 13), .ref (Ma 14), .ref (Ma 15), .ref (Ma 16), .long (Mj 0), .ref (Ma 17), .ref (Ma 18), .ref (Ma 19), .ref (Ma 20)])), ((Ma 2), .inl (tc 0, 2400, .inl sv_173)), ((Ma 3), .inl (tc 0, 7, .inl sv_174))] := hD₀
                replace hS := hS₀
                clear hP₀ hD₀ hS₀
                refine lv_goto (tgt := 9) hx hb dX12_term_100 (by decide) ?_
                have hb_180 : 400 - (sv_145 : Int32).toInt < 400 - (vy_30 : Int32).toInt ∧ 1 ≤ 400 - (vy_30 : Int32).toInt := by
                  have z_1 : ¬ (r_13 : Int32).toInt = (0 : Int32).toInt := fun z => c_18 (Int32.toInt_inj.mp z)
                  have z_2 := congrArg Int32.toInt c_62
                  have z_3 : ¬ (x_64 : Int32).toInt = (42 : Int32).toInt := fun z => c_65 (Int32.toInt_inj.mp z)
                  have z_4 := congrArg Int32.toInt c_68
                  have z_5 : ¬ (r_154 : Int32).toInt = (0 : Int32).toInt := fun z => c_159 (Int32.toInt_inj.mp z)
                  have y_0 : (0 : Int32).toInt = 0 := by decide
                  have y_42 : (42 : Int32).toInt = 42 := by decide
                  have y_47 : (47 : Int32).toInt = 47 := by decide
                  omega
                have ha_181 : 0 ≤ (sv_145 : Int32).toInt ∧ (sv_145 : Int32).toInt ≤ ((Mv 0) : Int32).toInt ∧ ((Mv 0) : Int32).toInt ≤ 400 := by
                  have z_1 : ¬ (r_13 : Int32).toInt = (0 : Int32).toInt := fun z => c_18 (Int32.toInt_inj.mp z)
                  have z_2 := congrArg Int32.toInt c_62
                  have z_3 : ¬ (x_64 : Int32).toInt = (42 : Int32).toInt := fun z => c_65 (Int32.toInt_inj.mp z)
                  have z_4 := congrArg Int32.toInt c_68
                  have z_5 : ¬ (r_154 : Int32).toInt = (0 : Int32).toInt := fun z => c_159 (Int32.toInt_inj.mp z)
                  have y_0 : (0 : Int32).toInt = 0 := by decide
                  have y_42 : (42 : Int32).toInt = 42 := by decide
                  have y_47 : (47 : Int32).toInt = 47 := by decide
                  omega
                have ha_182 : (Mv 6).toInt ≤ (sv_148 : Int32).toInt ∧ (sv_148 : Int32).toInt ≤ 60 := by
                  have z_1 : ¬ (r_13 : Int32).toInt = (0 : Int32).toInt := fun z => c_18 (Int32.toInt_inj.mp z)
                  have z_2 := congrArg Int32.toInt c_62
                  have z_3 : ¬ (x_64 : Int32).toInt = (42 : Int32).toInt := fun z => c_65 (Int32.toInt_inj.mp z)
                  have z_4 := congrArg Int32.toInt c_68
                  have z_5 : ¬ (r_154 : Int32).toInt = (0 : Int32).toInt := fun z => c_159 (Int32.toInt_inj.mp z)
                  have y_0 : (0 : Int32).toInt = 0 := by decide
                  have y_42 : (42 : Int32).toInt = 42 := by decide
                  have y_47 : (47 : Int32).toInt = 47 := by decide
                  omega
                have ha_183 : ((Mf 3) (Mv 5).toNatClampNeg).toInt + 1 ≤ (sv_174 (Mv 5).toNatClampNeg).toInt ∧ (sv_174 (Mv 5).toNatClampNeg).toInt + ((Mv 2) : Int32).toInt ≤ ((Mf 3) (Mv 5).toNatClampNeg).toInt + (sv_145 : Int32).toInt ∧ ((Mv 2) : Int32).toInt + 1 ≤ (sv_145 : Int32).toInt := by
                  have z_1 : ¬ (r_13 : Int32).toInt = (0 : Int32).toInt := fun z => c_18 (Int32.toInt_inj.mp z)
                  have z_2 := congrArg Int32.toInt c_62
                  have z_3 : ¬ (x_64 : Int32).toInt = (42 : Int32).toInt := fun z => c_65 (Int32.toInt_inj.mp z)
                  have z_4 := congrArg Int32.toInt c_68
                  have z_5 : ¬ (r_154 : Int32).toInt = (0 : Int32).toInt := fun z => c_159 (Int32.toInt_inj.mp z)
                  have y_0 : (0 : Int32).toInt = 0 := by decide
                  have y_42 : (42 : Int32).toInt = 42 := by decide
                  have y_47 : (47 : Int32).toInt = 47 := by decide
                  omega
                have hr_184 : (400 * ((Mv 5) : Int32).toInt + ((Mf 3) (Mv 5).toNatClampNeg).toInt) ≤ (400 * ((Mv 5) : Int32).toInt + ((Mf 3) (Mv 5).toNatClampNeg).toInt) := by
                  have z_1 : ¬ (r_13 : Int32).toInt = (0 : Int32).toInt := fun z => c_18 (Int32.toInt_inj.mp z)
                  have z_2 := congrArg Int32.toInt c_62
                  have z_3 : ¬ (x_64 : Int32).toInt = (42 : Int32).toInt := fun z => c_65 (Int32.toInt_inj.mp z)
                  have z_4 := congrArg Int32.toInt c_68
                  have z_5 : ¬ (r_154 : Int32).toInt = (0 : Int32).toInt := fun z => c_159 (Int32.toInt_inj.mp z)
                  have y_0 : (0 : Int32).toInt = 0 := by decide
                  have y_42 : (42 : Int32).toInt = 42 := by decide
                  have y_47 : (47 : Int32).toInt = 47 := by decide
                  omega
                have hr_185 : (400 * ((Mv 5) : Int32).toInt + ((Mf 3) (Mv 5).toNatClampNeg).toInt) ≤ (400 * ((Mv 5) : Int32).toInt + (vy_35 (Mv 5).toNatClampNeg).toInt) := by
                  have z_1 : ¬ (r_13 : Int32).toInt = (0 : Int32).toInt := fun z => c_18 (Int32.toInt_inj.mp z)
                  have z_2 := congrArg Int32.toInt c_62
                  have z_3 : ¬ (x_64 : Int32).toInt = (42 : Int32).toInt := fun z => c_65 (Int32.toInt_inj.mp z)
                  have z_4 := congrArg Int32.toInt c_68
                  have z_5 : ¬ (r_154 : Int32).toInt = (0 : Int32).toInt := fun z => c_159 (Int32.toInt_inj.mp z)
                  have y_0 : (0 : Int32).toInt = 0 := by decide
                  have y_42 : (42 : Int32).toInt = 42 := by decide
                  have y_47 : (47 : Int32).toInt = 47 := by decide
                  omega
                have hr_186 : (400 * ((Mv 5) : Int32).toInt + ((Mf 3) (Mv 5).toNatClampNeg).toInt) ≤ (400 * ((Mv 5) : Int32).toInt + (sv_150 (Mv 5).toNatClampNeg).toInt) := by
                  have z_1 : ¬ (r_13 : Int32).toInt = (0 : Int32).toInt := fun z => c_18 (Int32.toInt_inj.mp z)
                  have z_2 := congrArg Int32.toInt c_62
                  have z_3 : ¬ (x_64 : Int32).toInt = (42 : Int32).toInt := fun z => c_65 (Int32.toInt_inj.mp z)
                  have z_4 := congrArg Int32.toInt c_68
                  have z_5 : ¬ (r_154 : Int32).toInt = (0 : Int32).toInt := fun z => c_159 (Int32.toInt_inj.mp z)
                  have y_0 : (0 : Int32).toInt = 0 := by decide
                  have y_42 : (42 : Int32).toInt = 42 := by decide
                  have y_47 : (47 : Int32).toInt = 47 := by decide
                  omega
                have hr_187 : (rB (Mf 1) (Mv 0) (sv_54 : Int32).toInt.toNat = 43 ∨ rB (Mf 1) (Mv 0) (sv_54 : Int32).toInt.toNat = 45 ∨ rB (Mf 1) (Mv 0) (sv_54 : Int32).toInt.toNat = 42 ∨ rB (Mf 1) (Mv 0) (sv_54 : Int32).toInt.toNat = 47 ∨ rB (Mf 1) (Mv 0) (sv_54 : Int32).toInt.toNat = 37) := by
                  have z_1 : ¬ (r_13 : Int32).toInt = (0 : Int32).toInt := fun z => c_18 (Int32.toInt_inj.mp z)
                  have z_2 := congrArg Int32.toInt c_62
                  have z_3 : ¬ (x_64 : Int32).toInt = (42 : Int32).toInt := fun z => c_65 (Int32.toInt_inj.mp z)
                  have z_4 := congrArg Int32.toInt c_68
                  have z_5 : ¬ (r_154 : Int32).toInt = (0 : Int32).toInt := fun z => c_159 (Int32.toInt_inj.mp z)
                  have y_0 : (0 : Int32).toInt = 0 := by decide
                  have y_42 : (42 : Int32).toInt = 42 := by decide
                  have y_47 : (47 : Int32).toInt = 47 := by decide
                  omega
                have hi_188 : (x_137 : Int32).toInt = (sv_54 : Int32).toInt + 1 := by
                  have z_1 : ¬ (r_13 : Int32).toInt = (0 : Int32).toInt := fun z => c_18 (Int32.toInt_inj.mp z)
                  have z_2 := congrArg Int32.toInt c_62
                  have z_3 : ¬ (x_64 : Int32).toInt = (42 : Int32).toInt := fun z => c_65 (Int32.toInt_inj.mp z)
                  have z_4 := congrArg Int32.toInt c_68
                  have z_5 : ¬ (r_154 : Int32).toInt = (0 : Int32).toInt := fun z => c_159 (Int32.toInt_inj.mp z)
                  have y_0 : (0 : Int32).toInt = 0 := by decide
                  have y_42 : (42 : Int32).toInt = 42 := by decide
                  have y_47 : (47 : Int32).toInt = 47 := by decide
                  have y_1 : (1 : Int32).toInt = 1 := by decide
                  have t_x_137 : x_137.toInt = (sv_54 : Int32).toInt + (1 : Int32).toInt := by rw [ex_137]; exact add_toInt (by omega) (by omega)
                  omega
                have hr_189 : (rB (Mf 1) (Mv 0) (sv_54 : Int32).toInt.toNat = 42 ∨ rB (Mf 1) (Mv 0) (sv_54 : Int32).toInt.toNat = 47 ∨ rB (Mf 1) (Mv 0) (sv_54 : Int32).toInt.toNat = 37) := by
                  have z_1 : ¬ (r_13 : Int32).toInt = (0 : Int32).toInt := fun z => c_18 (Int32.toInt_inj.mp z)
                  have z_2 := congrArg Int32.toInt c_62
                  have z_3 : ¬ (x_64 : Int32).toInt = (42 : Int32).toInt := fun z => c_65 (Int32.toInt_inj.mp z)
                  have z_4 := congrArg Int32.toInt c_68
                  have z_5 : ¬ (r_154 : Int32).toInt = (0 : Int32).toInt := fun z => c_159 (Int32.toInt_inj.mp z)
                  have y_0 : (0 : Int32).toInt = 0 := by decide
                  have y_42 : (42 : Int32).toInt = 42 := by decide
                  have y_47 : (47 : Int32).toInt = 47 := by decide
                  omega
                have rg_190 := rB_rg (n := (Mv 0)) h_bs (sv_54 : Int32).toInt.toNat
                have hr_191 : rB (Mf 1) (Mv 0) (sv_54 : Int32).toInt.toNat = 47 := by
                  have z_1 : ¬ (r_13 : Int32).toInt = (0 : Int32).toInt := fun z => c_18 (Int32.toInt_inj.mp z)
                  have z_2 := congrArg Int32.toInt c_62
                  have z_3 : ¬ (x_64 : Int32).toInt = (42 : Int32).toInt := fun z => c_65 (Int32.toInt_inj.mp z)
                  have z_4 := congrArg Int32.toInt c_68
                  have z_5 : ¬ (r_154 : Int32).toInt = (0 : Int32).toInt := fun z => c_159 (Int32.toInt_inj.mp z)
                  have y_0 : (0 : Int32).toInt = 0 := by decide
                  have y_42 : (42 : Int32).toInt = 42 := by decide
                  have y_47 : (47 : Int32).toInt = 47 := by decide
                  omega
                have ho_192 : (-15 : Int) = ec_o (rB (Mf 1) (Mv 0) (sv_54 : Int32).toInt.toNat) := by rw [hr_191]; decide
                have hi_193 : (x_137 : Int32).toInt = (sv_54 : Int32).toInt + 1 := by
                  have z_1 : ¬ (r_13 : Int32).toInt = (0 : Int32).toInt := fun z => c_18 (Int32.toInt_inj.mp z)
                  have z_2 := congrArg Int32.toInt c_62
                  have z_3 : ¬ (x_64 : Int32).toInt = (42 : Int32).toInt := fun z => c_65 (Int32.toInt_inj.mp z)
                  have z_4 := congrArg Int32.toInt c_68
                  have z_5 : ¬ (r_154 : Int32).toInt = (0 : Int32).toInt := fun z => c_159 (Int32.toInt_inj.mp z)
                  have y_0 : (0 : Int32).toInt = 0 := by decide
                  have y_42 : (42 : Int32).toInt = 42 := by decide
                  have y_47 : (47 : Int32).toInt = 47 := by decide
                  have y_1 : (1 : Int32).toInt = 1 := by decide
                  have t_x_137 : x_137.toInt = (sv_54 : Int32).toInt + (1 : Int32).toInt := by rw [ex_137]; exact add_toInt (by omega) (by omega)
                  omega
                have hu_194 : SgC sv_173 sv_174 (Mv 5) (((ll ++ xq_47) ++ lval (rB (Mf 1) (Mv 0)) (St0 (rB (Mf 1) (Mv 0)) x_137 vy_33)) ++ [(-15)]) := by
                  rw [← elo_50, ← elo_164, ← elo_179]
                  exact pf_178
                exact ih_37 sv_145 sv_146 sv_147 sv_148 sv_173 sv_174 _ _ _ (by omega) ha_181 ha_182 ha_183 (Agr.trans (k' := (400 * ((Mv 5) : Int32).toInt + ((Mf 3) (Mv 5).toNatClampNeg).toInt)) (Agr.trans (k' := (400 * ((Mv 5) : Int32).toInt + ((Mf 3) (Mv 5).toNatClampNeg).toInt)) (Agr.mono pf_42 hr_184) pf_153 ⟨Int.le_refl _, hr_185⟩) pf_176 ⟨Int.le_refl _, hr_186⟩) pf_175 (TmL.next (rB_fi h_nx.2.2) pf_44 pf_58 hr_187 hi_188 pf_161) (TmC.next (rB_fi h_nx.2.2) pf_49 pf_58 hr_189 ho_192 hi_193 pf_161 hu_194) (hP.sub [1, 0, 2, 3] rfl) (hD.sub [1, 0, 2, 3] rfl rfl) hS (lv_sub hl [1] rfl)
              · skip
                have hz_196 : (r_154 : Int32).toInt = 0 := by
                  have z_1 : ¬ (r_13 : Int32).toInt = (0 : Int32).toInt := fun z => c_18 (Int32.toInt_inj.mp z)
                  have z_2 := congrArg Int32.toInt c_62
                  have z_3 : ¬ (x_64 : Int32).toInt = (42 : Int32).toInt := fun z => c_65 (Int32.toInt_inj.mp z)
                  have z_4 := congrArg Int32.toInt c_68
                  have z_5 := congrArg Int32.toInt c_159
                  have y_0 : (0 : Int32).toInt = 0 := by decide
                  have y_42 : (42 : Int32).toInt = 42 := by decide
                  have y_47 : (47 : Int32).toInt = 47 := by decide
                  omega
                obtain pf_195 := hm_158 hz_196
                have pf_195 : RfE (pz_val (rB (Mf 1) (Mv 0)) (St0 (rB (Mf 1) (Mv 0)) x_137 vy_33)) sv_146 := pf_195
                refine lv_iconst (v := 0) hx hb dX12_term_92 (by decide) ?_
                have ha_197 : ((Mv 2) : Int32).toInt ≤ (sv_145 : Int32).toInt ∧ (sv_145 : Int32).toInt ≤ ((Mv 0) : Int32).toInt := by
                  have z_1 : ¬ (r_13 : Int32).toInt = (0 : Int32).toInt := fun z => c_18 (Int32.toInt_inj.mp z)
                  have z_2 := congrArg Int32.toInt c_62
                  have z_3 : ¬ (x_64 : Int32).toInt = (42 : Int32).toInt := fun z => c_65 (Int32.toInt_inj.mp z)
                  have z_4 := congrArg Int32.toInt c_68
                  have z_5 := congrArg Int32.toInt c_159
                  have y_0 : (0 : Int32).toInt = 0 := by decide
                  have y_42 : (42 : Int32).toInt = 42 := by decide
                  have y_47 : (47 : Int32).toInt = 47 := by decide
                  omega
                have ha_198 : ((Mv 6) : Int32).toInt ≤ (sv_148 : Int32).toInt ∧ (sv_148 : Int32).toInt ≤ 60 := by
                  have z_1 : ¬ (r_13 : Int32).toInt = (0 : Int32).toInt := fun z => c_18 (Int32.toInt_inj.mp z)
                  have z_2 := congrArg Int32.toInt c_62
                  have z_3 : ¬ (x_64 : Int32).toInt = (42 : Int32).toInt := fun z => c_65 (Int32.toInt_inj.mp z)
                  have z_4 := congrArg Int32.toInt c_68
                  have z_5 := congrArg Int32.toInt c_159
                  have y_0 : (0 : Int32).toInt = 0 := by decide
                  have y_42 : (42 : Int32).toInt = 42 := by decide
                  have y_47 : (47 : Int32).toInt = 47 := by decide
                  omega
                have hr_199 : (400 * ((Mv 5) : Int32).toInt + ((Mf 3) (Mv 5).toNatClampNeg).toInt) ≤ (400 * ((Mv 5) : Int32).toInt + ((Mf 3) (Mv 5).toNatClampNeg).toInt) := by
                  have z_1 : ¬ (r_13 : Int32).toInt = (0 : Int32).toInt := fun z => c_18 (Int32.toInt_inj.mp z)
                  have z_2 := congrArg Int32.toInt c_62
                  have z_3 : ¬ (x_64 : Int32).toInt = (42 : Int32).toInt := fun z => c_65 (Int32.toInt_inj.mp z)
                  have z_4 := congrArg Int32.toInt c_68
                  have z_5 := congrArg Int32.toInt c_159
                  have y_0 : (0 : Int32).toInt = 0 := by decide
                  have y_42 : (42 : Int32).toInt = 42 := by decide
                  have y_47 : (47 : Int32).toInt = 47 := by decide
                  omega
                have hr_200 : (400 * ((Mv 5) : Int32).toInt + ((Mf 3) (Mv 5).toNatClampNeg).toInt) ≤ (400 * ((Mv 5) : Int32).toInt + (vy_35 (Mv 5).toNatClampNeg).toInt) := by
                  have z_1 : ¬ (r_13 : Int32).toInt = (0 : Int32).toInt := fun z => c_18 (Int32.toInt_inj.mp z)
                  have z_2 := congrArg Int32.toInt c_62
                  have z_3 : ¬ (x_64 : Int32).toInt = (42 : Int32).toInt := fun z => c_65 (Int32.toInt_inj.mp z)
                  have z_4 := congrArg Int32.toInt c_68
                  have z_5 := congrArg Int32.toInt c_159
                  have y_0 : (0 : Int32).toInt = 0 := by decide
                  have y_42 : (42 : Int32).toInt = 42 := by decide
                  have y_47 : (47 : Int32).toInt = 47 := by decide
                  omega
                have hp_201 : (((0 : Int32).toInt = 0 ∧ ¬ (sv_146 : Int32).toInt = 0) ∨ ((0 : Int32).toInt = 1 ∧ ((Mf 3) (Mv 5).toNatClampNeg).toInt + 1 ≤ (sv_150 (Mv 5).toNatClampNeg).toInt ∧ (sv_150 (Mv 5).toNatClampNeg).toInt + ((Mv 2) : Int32).toInt ≤ ((Mf 3) (Mv 5).toNatClampNeg).toInt + (sv_145 : Int32).toInt ∧ ((Mv 2) : Int32).toInt + 1 ≤ (sv_145 : Int32).toInt)) := by
                  have z_1 : ¬ (r_13 : Int32).toInt = (0 : Int32).toInt := fun z => c_18 (Int32.toInt_inj.mp z)
                  have z_2 := congrArg Int32.toInt c_62
                  have z_3 : ¬ (x_64 : Int32).toInt = (42 : Int32).toInt := fun z => c_65 (Int32.toInt_inj.mp z)
                  have z_4 := congrArg Int32.toInt c_68
                  have z_5 := congrArg Int32.toInt c_159
                  have y_0 : (0 : Int32).toInt = 0 := by decide
                  have y_42 : (42 : Int32).toInt = 42 := by decide
                  have y_47 : (47 : Int32).toInt = 47 := by decide
                  omega
                have hm_202 : (0 : Int32).toInt = 0 → (RfE (pz_sum (rB (Mf 1) (Mv 0)) (St0 (rB (Mf 1) (Mv 0)) (Mv 2) (Mv 6))) sv_146) := by
                  intro h1r
                  have hr_203 : (rB (Mf 1) (Mv 0) (sv_54 : Int32).toInt.toNat = 43 ∨ rB (Mf 1) (Mv 0) (sv_54 : Int32).toInt.toNat = 45 ∨ rB (Mf 1) (Mv 0) (sv_54 : Int32).toInt.toNat = 42 ∨ rB (Mf 1) (Mv 0) (sv_54 : Int32).toInt.toNat = 47 ∨ rB (Mf 1) (Mv 0) (sv_54 : Int32).toInt.toNat = 37) := by
                    have z_1 : ¬ (r_13 : Int32).toInt = (0 : Int32).toInt := fun z => c_18 (Int32.toInt_inj.mp z)
                    have z_2 := congrArg Int32.toInt c_62
                    have z_3 : ¬ (x_64 : Int32).toInt = (42 : Int32).toInt := fun z => c_65 (Int32.toInt_inj.mp z)
                    have z_4 := congrArg Int32.toInt c_68
                    have z_5 := congrArg Int32.toInt c_159
                    have y_0 : (0 : Int32).toInt = 0 := by decide
                    have y_42 : (42 : Int32).toInt = 42 := by decide
                    have y_47 : (47 : Int32).toInt = 47 := by decide
                    omega
                  have hi_204 : (x_137 : Int32).toInt = (sv_54 : Int32).toInt + 1 := by
                    have z_1 : ¬ (r_13 : Int32).toInt = (0 : Int32).toInt := fun z => c_18 (Int32.toInt_inj.mp z)
                    have z_2 := congrArg Int32.toInt c_62
                    have z_3 : ¬ (x_64 : Int32).toInt = (42 : Int32).toInt := fun z => c_65 (Int32.toInt_inj.mp z)
                    have z_4 := congrArg Int32.toInt c_68
                    have z_5 := congrArg Int32.toInt c_159
                    have y_0 : (0 : Int32).toInt = 0 := by decide
                    have y_42 : (42 : Int32).toInt = 42 := by decide
                    have y_47 : (47 : Int32).toInt = 47 := by decide
                    have y_1 : (1 : Int32).toInt = 1 := by decide
                    have t_x_137 : x_137.toInt = (sv_54 : Int32).toInt + (1 : Int32).toInt := by rw [ex_137]; exact add_toInt (by omega) (by omega)
                    omega
                  exact (TmL.er (rB_fi h_nx.2.2) pf_44 pf_58 hr_203 hi_204 pf_195)
                exact retI (v := 0) hx hb hr hlk (rfl) hP hD hS (sv_145, sv_146, sv_147, sv_148, sv_149, sv_150) ⟨_, rfl, hp_201, ha_197, ha_198, (Agr.trans (k' := (400 * ((Mv 5) : Int32).toInt + ((Mf 3) (Mv 5).toNatClampNeg).toInt)) (Agr.mono pf_42 hr_199) pf_153 ⟨Int.le_refl _, hr_200⟩), (fun h => absurd h (by decide)), hm_202⟩ [0, 1, 2, 3] rfl rfl dX12_term_93 (Nat.le_of_ble_eq_true rfl) (Nat.le_of_ble_eq_true rfl) rfl
          · skip
            refine lv_iconst (v := 4) hx hb dX12_term_50 (by decide) ?_
            refine lv_goto (tgt := 74) hx hb dX12_term_51 (by decide) ?_
            refine lv_istore_n (lv' := [(1, .int 4), (0, .ref (Ma 0))]) hx hb dX12_term_74 rfl hl (by decide) rfl (fun ls hl₀ => ?_)
            replace hl := hl₀
            clear hl₀
            refine lv_aload_n hx hb dX12_term_75 rfl (lv_at hl 1 rfl) ?_
            refine lv_dup hx hb dX12_term_76 rfl ?_
            refine gf_X12_87 hx hb hts hown hK hP 2 rfl rfl dX12_term_77 ?_
            refine lv_iconst (v := 1) hx hb dX12_term_80 (by decide) ?_
            refine lv_iadd hx hb dX12_term_81 ?_
            refine lv_topi (fun x_205 ex_205 => ?_)
            refine pf_X12_87 hx hb hts hown hK hP hD hS 2 rfl (Nat.le_of_ble_eq_true rfl) rfl rfl dX12_term_82 (fun H locs hP₀ hD₀ hS₀ => ?_)
            replace hP : va_P D classes [((Ma 2), .inl (tc 0, 2400, .inl vy_34)), ((Ma 3), .inl (tc 0, 7, .inl vy_35)), ((Ma 0), .inr (12, [.ref (Ma 1), .int (Mv 0), .int (Mv 1), .ref (Ma 2), .ref (Ma 3), .ref (Ma 4), .ref (Ma 5), .ref (Ma 6), .int x_205, .int vy_31, .int vy_32, .int (Mv 5), .int vy_33, .int (Mv 7), .int (Mv 8), .ref (Ma 7), .int (Mv 9), .ref (Ma 8), .int (Mv 10), .ref (Ma 9), .ref (Ma 10), .int (Mv 11), .int (Mv 12), .int (Mv 13), .ref (Ma 11), .int (Mv 14), .ref (Ma 12), .ref (Ma 13), .ref (Ma 14), .ref (Ma 15), .ref (Ma 16), .long (Mj 0), .ref (Ma 17), .ref (Ma 18), .ref (Ma 19), .ref (Ma 20)])), ((Ma 1), .inl (tc 2, 400, .inl (Mf 1)))] H := hP₀
            replace hD : va_D A [((Ma 2), .inl (tc 0, 2400, .inl vy_34)), ((Ma 3), .inl (tc 0, 7, .inl vy_35)), ((Ma 0), .inr (12, [.ref (Ma 1), .int (Mv 0), .int (Mv 1), .ref (Ma 2), .ref (Ma 3), .ref (Ma 4), .ref (Ma 5), .ref (Ma 6), .int x_205, .int vy_31, .int vy_32, .int (Mv 5), .int vy_33, .int (Mv 7), .int (Mv 8), .ref (Ma 7), .int (Mv 9), .ref (Ma 8), .int (Mv 10), .ref (Ma 9), .ref (Ma 10), .int (Mv 11), .int (Mv 12), .int (Mv 13), .ref (Ma 11), .int (Mv 14), .ref (Ma 12), .ref (Ma 13), .ref (Ma 14), .ref (Ma 15), .ref (Ma 16), .long (Mj 0), .ref (Ma 17), .ref (Ma 18), .ref (Ma 19), .ref (Ma 20)])), ((Ma 1), .inl (tc 2, 400, .inl (Mf 1)))] := hD₀
            replace hS := hS₀
            clear hP₀ hD₀ hS₀
            have tp_x_205 : (x_205 : Int32).toInt = (sv_54 : Int32).toInt + 1 := by
              have z_1 : ¬ (r_13 : Int32).toInt = (0 : Int32).toInt := fun z => c_18 (Int32.toInt_inj.mp z)
              have z_2 := congrArg Int32.toInt c_62
              have z_3 := congrArg Int32.toInt c_65
              have y_0 : (0 : Int32).toInt = 0 := by decide
              have y_42 : (42 : Int32).toInt = 42 := by decide
              have y_1 : (1 : Int32).toInt = 1 := by decide
              have t_x_205 : x_205.toInt = (sv_54 : Int32).toInt + (1 : Int32).toInt := by rw [ex_205]; exact add_toInt (by omega) (by omega)
              omega
            refine lv_aload_n hx hb dX12_term_85 rfl (lv_at hl 1 rfl) ?_
            have ha_206 : 0 ≤ (x_205 : Int32).toInt ∧ (x_205 : Int32).toInt ≤ ((Mv 0) : Int32).toInt ∧ ((Mv 0) : Int32).toInt ≤ 400 := by
              have z_1 : ¬ (r_13 : Int32).toInt = (0 : Int32).toInt := fun z => c_18 (Int32.toInt_inj.mp z)
              have z_2 := congrArg Int32.toInt c_62
              have z_3 := congrArg Int32.toInt c_65
              have y_0 : (0 : Int32).toInt = 0 := by decide
              have y_42 : (42 : Int32).toInt = 42 := by decide
              have y_1 : (1 : Int32).toInt = 1 := by decide
              have t_x_205 : x_205.toInt = (sv_54 : Int32).toInt + (1 : Int32).toInt := by rw [ex_205]; exact add_toInt (by omega) (by omega)
              omega
            have ha_207 : (vy_35 (Mv 5).toNatClampNeg).toInt ≤ (x_205 : Int32).toInt := by
              have z_1 : ¬ (r_13 : Int32).toInt = (0 : Int32).toInt := fun z => c_18 (Int32.toInt_inj.mp z)
              have z_2 := congrArg Int32.toInt c_62
              have z_3 := congrArg Int32.toInt c_65
              have y_0 : (0 : Int32).toInt = 0 := by decide
              have y_42 : (42 : Int32).toInt = 42 := by decide
              have y_1 : (1 : Int32).toInt = 1 := by decide
              have t_x_205 : x_205.toInt = (sv_54 : Int32).toInt + (1 : Int32).toInt := by rw [ex_205]; exact add_toInt (by omega) (by omega)
              omega
            have ha_208 : 0 ≤ (vy_33 : Int32).toInt ∧ (vy_33 : Int32).toInt ≤ 60 := by
              have z_1 : ¬ (r_13 : Int32).toInt = (0 : Int32).toInt := fun z => c_18 (Int32.toInt_inj.mp z)
              have z_2 := congrArg Int32.toInt c_62
              have z_3 := congrArg Int32.toInt c_65
              have y_0 : (0 : Int32).toInt = 0 := by decide
              have y_42 : (42 : Int32).toInt = 42 := by decide
              omega
            have ha_209 : (vy_31 : Int32).toInt = 0 := by
              have z_1 : ¬ (r_13 : Int32).toInt = (0 : Int32).toInt := fun z => c_18 (Int32.toInt_inj.mp z)
              have z_2 := congrArg Int32.toInt c_62
              have z_3 := congrArg Int32.toInt c_65
              have y_0 : (0 : Int32).toInt = 0 := by decide
              have y_42 : (42 : Int32).toInt = 42 := by decide
              omega
            refine cV (a := (Ma 0)) (As := []) (rest := []) (wr := []) ⟨hx, hb, hml, hown, hts⟩ hK hX hA (cu_kX12_value l D tc sk (Ma 0) (Ma 1) (Ma 2) (Ma 3) (Ma 4) (Ma 5) (Ma 6) (Ma 7) (Ma 8) (Ma 9) (Ma 10) (Ma 11) (Ma 12) (Ma 13) (Ma 14) (Ma 15) (Ma 16) (Ma 17) (Ma 18) (Ma 19) (Ma 20) (Mv 0) (Mv 1) x_205 vy_31 vy_32 (Mv 5) vy_33 (Mv 7) (Mv 8) (Mv 9) (Mv 10) (Mv 11) (Mv 12) (Mv 13) (Mv 14) (Mf 1) vy_34 vy_35 (Mj 0) b (d + 1) lo_50 ha_206 pf_43 ha_207 ha_208 h_bs ha_209 pf_48) k_1287 k_1284 k_1286 k_44 k_106 pl_X12_value ⟨Nat.le_of_ble_eq_true rfl, Nat.le_of_ble_eq_true rfl⟩ rfl rfl (va_recv hK hP (ci := 12) (q0 := 2) rfl rfl) hP hD hS [2, 3, 0, 1] [] rfl rfl rfl rfl rfl (by decide) rfl hl.1 rfl (Nat.le_of_ble_eq_true rfl) dX12_term_86 ⟨Nat.le_of_ble_eq_true rfl, Nat.le_of_ble_eq_true rfl⟩ (fun v_210 u_211 H locs hv_212 hP₀ hD₀ hS₀ => ?_)
            obtain ⟨sv_213, sv_214, sv_215, sv_216, sv_217, sv_218⟩ := u_211
            obtain ⟨r_222, rfl, he_223, pf_219, pf_220, pf_221, hm_225, hm_226⟩ := hv_212
            have he_223 : ((r_222.toInt = 0 ∧ ¬ (sv_214 : Int32).toInt = 0) ∨ (r_222.toInt = 1 ∧ (vy_35 (Mv 5).toNatClampNeg).toInt + 1 ≤ (sv_218 (Mv 5).toNatClampNeg).toInt ∧ (sv_218 (Mv 5).toNatClampNeg).toInt + (x_205 : Int32).toInt ≤ (vy_35 (Mv 5).toNatClampNeg).toInt + (sv_213 : Int32).toInt ∧ (x_205 : Int32).toInt + 1 ≤ (sv_213 : Int32).toInt)) := he_223
            have pf_219 : (x_205 : Int32).toInt ≤ (sv_213 : Int32).toInt ∧ (sv_213 : Int32).toInt ≤ ((Mv 0) : Int32).toInt := pf_219
            have pf_220 : (vy_33 : Int32).toInt ≤ (sv_216 : Int32).toInt ∧ (sv_216 : Int32).toInt ≤ 60 := pf_220
            have pf_221 : Agr vy_34 sv_217 (400 * ((Mv 5) : Int32).toInt + (vy_35 (Mv 5).toNatClampNeg).toInt) := pf_221
            refine W.eq (g2 := F0 m 89 ls [.int r_222]) rfl ?_
            replace hP : va_P D classes [((Ma 0), .inr (12, [.ref (Ma 1), .int (Mv 0), .int (Mv 1), .ref (Ma 2), .ref (Ma 3), .ref (Ma 4), .ref (Ma 5), .ref (Ma 6), .int sv_213, .int sv_214, .int sv_215, .int (Mv 5), .int sv_216, .int (Mv 7), .int (Mv 8), .ref (Ma 7), .int (Mv 9), .ref (Ma 8), .int (Mv 10), .ref (Ma 9), .ref (Ma 10), .int (Mv 11), .int (Mv 12), .int (Mv 13), .ref (Ma 11), .int (Mv 14), .ref (Ma 12), .ref (Ma 13), .ref (Ma 14), .ref (Ma 15), .ref (Ma 16), .long (Mj 0), .ref (Ma 17), .ref (Ma 18), .ref (Ma 19), .ref (Ma 20)])), ((Ma 1), .inl (tc 2, 400, .inl (Mf 1))), ((Ma 2), .inl (tc 0, 2400, .inl sv_217)), ((Ma 3), .inl (tc 0, 7, .inl sv_218))] H := hP₀
            replace hD : va_D A [((Ma 0), .inr (12, [.ref (Ma 1), .int (Mv 0), .int (Mv 1), .ref (Ma 2), .ref (Ma 3), .ref (Ma 4), .ref (Ma 5), .ref (Ma 6), .int sv_213, .int sv_214, .int sv_215, .int (Mv 5), .int sv_216, .int (Mv 7), .int (Mv 8), .ref (Ma 7), .int (Mv 9), .ref (Ma 8), .int (Mv 10), .ref (Ma 9), .ref (Ma 10), .int (Mv 11), .int (Mv 12), .int (Mv 13), .ref (Ma 11), .int (Mv 14), .ref (Ma 12), .ref (Ma 13), .ref (Ma 14), .ref (Ma 15), .ref (Ma 16), .long (Mj 0), .ref (Ma 17), .ref (Ma 18), .ref (Ma 19), .ref (Ma 20)])), ((Ma 1), .inl (tc 2, 400, .inl (Mf 1))), ((Ma 2), .inl (tc 0, 2400, .inl sv_217)), ((Ma 3), .inl (tc 0, 7, .inl sv_218))] := hD₀
            replace hS := hS₀
            clear hP₀ hD₀ hS₀
            refine lv_if_ne (tgt := 94) hx hb dX12_term_89 (by decide) (fun c_227 => ?_) (fun c_227 => ?_)
            · skip
              have hz_231 : (r_222 : Int32).toInt = 1 := by
                have z_1 : ¬ (r_13 : Int32).toInt = (0 : Int32).toInt := fun z => c_18 (Int32.toInt_inj.mp z)
                have z_2 := congrArg Int32.toInt c_62
                have z_3 := congrArg Int32.toInt c_65
                have z_4 : ¬ (r_222 : Int32).toInt = (0 : Int32).toInt := fun z => c_227 (Int32.toInt_inj.mp z)
                have y_0 : (0 : Int32).toInt = 0 := by decide
                have y_42 : (42 : Int32).toInt = 42 := by decide
                omega
              obtain ⟨pf_228, pf_229, pf_230⟩ := hm_225 hz_231
              have pf_228 : Cd sv_217 sv_218 (Mv 5) b sv_216 ((d + 1) + 1) := pf_228
              have ar_pf_228 := Cd.ar pf_228
              have pf_229 : RfO (pz_val (rB (Mf 1) (Mv 0)) (St0 (rB (Mf 1) (Mv 0)) x_205 vy_33)) (rB (Mf 1) (Mv 0)) sv_214 sv_213 sv_216 := pf_229
              have ar_pf_229 := RfO.wr pf_229
              have pf_230 : SgC sv_217 sv_218 (Mv 5) (lo_50 ++ lval (rB (Mf 1) (Mv 0)) (St0 (rB (Mf 1) (Mv 0)) x_205 vy_33)) := pf_230
              obtain ⟨lo_232, elo_232⟩ : ∃ z : List Int, z = (lo_50 ++ lval (rB (Mf 1) (Mv 0)) (St0 (rB (Mf 1) (Mv 0)) x_205 vy_33)) := ⟨_, rfl⟩
              rw [← elo_232] at pf_230
              refine lv_aload_n hx hb dX12_term_94 rfl (lv_at hl 1 rfl) ?_
              refine lv_iload_n hx hb dX12_term_95 rfl (lv_at hl 0 rfl) ?_
              refine lv_iconst (v := 0) hx hb dX12_term_96 (by decide) ?_
              have ha_233 : ((d + 1) : Int) ≤ sv_216.toInt := by
                have z_1 : ¬ (r_13 : Int32).toInt = (0 : Int32).toInt := fun z => c_18 (Int32.toInt_inj.mp z)
                have z_2 := congrArg Int32.toInt c_62
                have z_3 := congrArg Int32.toInt c_65
                have z_4 : ¬ (r_222 : Int32).toInt = (0 : Int32).toInt := fun z => c_227 (Int32.toInt_inj.mp z)
                have y_0 : (0 : Int32).toInt = 0 := by decide
                have y_42 : (42 : Int32).toInt = 42 := by decide
                omega
              have ha_234 : (sv_218 (Mv 5).toNatClampNeg).toInt < 400 := by
                have z_1 : ¬ (r_13 : Int32).toInt = (0 : Int32).toInt := fun z => c_18 (Int32.toInt_inj.mp z)
                have z_2 := congrArg Int32.toInt c_62
                have z_3 := congrArg Int32.toInt c_65
                have z_4 : ¬ (r_222 : Int32).toInt = (0 : Int32).toInt := fun z => c_227 (Int32.toInt_inj.mp z)
                have y_0 : (0 : Int32).toInt = 0 := by decide
                have y_42 : (42 : Int32).toInt = 42 := by decide
                omega
              have ha_235 : 0 ≤ (4 : Int32).toInt ∧ (4 : Int32).toInt ≤ 15 := by
                have z_1 : ¬ (r_13 : Int32).toInt = (0 : Int32).toInt := fun z => c_18 (Int32.toInt_inj.mp z)
                have z_2 := congrArg Int32.toInt c_62
                have z_3 := congrArg Int32.toInt c_65
                have z_4 : ¬ (r_222 : Int32).toInt = (0 : Int32).toInt := fun z => c_227 (Int32.toInt_inj.mp z)
                have y_0 : (0 : Int32).toInt = 0 := by decide
                have y_42 : (42 : Int32).toInt = 42 := by decide
                have y_4 : (4 : Int32).toInt = 4 := by decide
                omega
              have ha_236 : 0 ≤ (0 : Int32).toInt ∧ (0 : Int32).toInt ≤ 100000 := by
                have z_1 : ¬ (r_13 : Int32).toInt = (0 : Int32).toInt := fun z => c_18 (Int32.toInt_inj.mp z)
                have z_2 := congrArg Int32.toInt c_62
                have z_3 := congrArg Int32.toInt c_65
                have z_4 : ¬ (r_222 : Int32).toInt = (0 : Int32).toInt := fun z => c_227 (Int32.toInt_inj.mp z)
                have y_0 : (0 : Int32).toInt = 0 := by decide
                have y_42 : (42 : Int32).toInt = 42 := by decide
                omega
              have ha_237 : 0 ≤ (Mv 5).toInt := by
                have z_1 : ¬ (r_13 : Int32).toInt = (0 : Int32).toInt := fun z => c_18 (Int32.toInt_inj.mp z)
                have z_2 := congrArg Int32.toInt c_62
                have z_3 := congrArg Int32.toInt c_65
                have z_4 : ¬ (r_222 : Int32).toInt = (0 : Int32).toInt := fun z => c_227 (Int32.toInt_inj.mp z)
                have y_0 : (0 : Int32).toInt = 0 := by decide
                have y_42 : (42 : Int32).toInt = 42 := by decide
                omega
              refine cV (a := (Ma 0)) (As := [.int 4, .int 0]) (rest := []) (wr := [((Ma 1), .inl (tc 2, 400, .inl (Mf 1)))]) ⟨hx, hb, hml, hown, hts⟩ hK hX hA (cu_kX12_puts l D tc sk (Ma 0) (Ma 1) (Ma 2) (Ma 3) (Ma 4) (Ma 5) (Ma 6) (Ma 7) (Ma 8) (Ma 9) (Ma 10) (Ma 11) (Ma 12) (Ma 13) (Ma 14) (Ma 15) (Ma 16) (Ma 17) (Ma 18) (Ma 19) (Ma 20) (Mv 0) (Mv 1) sv_213 sv_214 sv_215 (Mv 5) sv_216 (Mv 7) (Mv 8) (Mv 9) (Mv 10) (Mv 11) (Mv 12) (Mv 13) (Mv 14) sv_217 sv_218 (Mj 0) 4 0 b sv_216 ((d + 1) + 1) (d + 1) lo_232 (-14) pf_228 (StpR.op (by decide) rfl (by omega)) ha_233 ha_234 pf_230 (by decide) ha_235 ha_236 ha_237) k_1296 k_1293 k_1295 k_46 k_106 pl_X12_puts ⟨Nat.le_of_ble_eq_true rfl, Nat.le_of_ble_eq_true rfl⟩ rfl rfl (va_recv hK hP (ci := 12) (q0 := 0) rfl rfl) hP hD hS [0, 2, 3] [1] rfl rfl rfl rfl rfl (by decide) rfl hl.1 rfl (Nat.le_of_ble_eq_true rfl) dX12_term_97 ⟨Nat.le_of_ble_eq_true rfl, Nat.le_of_ble_eq_true rfl⟩ (fun v_238 u_239 H locs hv_240 hP₀ hD₀ hS₀ => ?_)
              obtain ⟨sv_241, sv_242⟩ := u_239
              obtain ⟨rfl, pf_243, pf_244, pf_245, pf_246⟩ := hv_240
              have pf_243 : Cd sv_241 sv_242 (Mv 5) b sv_216 (d + 1) := pf_243
              have ar_pf_243 := Cd.ar pf_243
              have pf_244 : Agr sv_217 sv_241 (400 * ((Mv 5) : Int32).toInt + (sv_218 (Mv 5).toNatClampNeg).toInt) := pf_244
              have pf_245 : (sv_242 (Mv 5).toNatClampNeg).toInt = (sv_218 (Mv 5).toNatClampNeg).toInt + 1 := pf_245
              have pf_246 : SgC sv_241 sv_242 (Mv 5) (lo_232 ++ [((-14) : Int)]) := pf_246
              obtain ⟨lo_247, elo_247⟩ : ∃ z : List Int, z = (lo_232 ++ [(-14)]) := ⟨_, rfl⟩
              rw [← elo_247] at pf_246
              refine W.eq (g2 := F0 m 100 ls []) rfl ?_
              replace hP : va_P D classes [((Ma 1), .inl (tc 2, 400, .inl (Mf 1))), ((Ma 0), .inr (12, [.ref (Ma 1), .int (Mv 0), .int (Mv 1), .ref (Ma 2), .ref (Ma 3), .ref (Ma 4), .ref (Ma 5), .ref (Ma 6), .int sv_213, .int sv_214, .int sv_215, .int (Mv 5), .int sv_216, .int (Mv 7), .int (Mv 8), .ref (Ma 7), .int (Mv 9), .ref (Ma 8), .int (Mv 10), .ref (Ma 9), .ref (Ma 10), .int (Mv 11), .int (Mv 12), .int (Mv 13), .ref (Ma 11), .int (Mv 14), .ref (Ma 12), .ref (Ma 13), .ref (Ma 14), .ref (Ma 15), .ref (Ma 16), .long (Mj 0), .ref (Ma 17), .ref (Ma 18), .ref (Ma 19), .ref (Ma 20)])), ((Ma 2), .inl (tc 0, 2400, .inl sv_241)), ((Ma 3), .inl (tc 0, 7, .inl sv_242))] H := hP₀
              replace hD : va_D A [((Ma 1), .inl (tc 2, 400, .inl (Mf 1))), ((Ma 0), .inr (12, [.ref (Ma 1), .int (Mv 0), .int (Mv 1), .ref (Ma 2), .ref (Ma 3), .ref (Ma 4), .ref (Ma 5), .ref (Ma 6), .int sv_213, .int sv_214, .int sv_215, .int (Mv 5), .int sv_216, .int (Mv 7), .int (Mv 8), .ref (Ma 7), .int (Mv 9), .ref (Ma 8), .int (Mv 10), .ref (Ma 9), .ref (Ma 10), .int (Mv 11), .int (Mv 12), .int (Mv 13), .ref (Ma 11), .int (Mv 14), .ref (Ma 12), .ref (Ma 13), .ref (Ma 14), .ref (Ma 15), .ref (Ma 16), .long (Mj 0), .ref (Ma 17), .ref (Ma 18), .ref (Ma 19), .ref (Ma 20)])), ((Ma 2), .inl (tc 0, 2400, .inl sv_241)), ((Ma 3), .inl (tc 0, 7, .inl sv_242))] := hD₀
              replace hS := hS₀
              clear hP₀ hD₀ hS₀
              refine lv_goto (tgt := 9) hx hb dX12_term_100 (by decide) ?_
              have hb_248 : 400 - (sv_213 : Int32).toInt < 400 - (vy_30 : Int32).toInt ∧ 1 ≤ 400 - (vy_30 : Int32).toInt := by
                have z_1 : ¬ (r_13 : Int32).toInt = (0 : Int32).toInt := fun z => c_18 (Int32.toInt_inj.mp z)
                have z_2 := congrArg Int32.toInt c_62
                have z_3 := congrArg Int32.toInt c_65
                have z_4 : ¬ (r_222 : Int32).toInt = (0 : Int32).toInt := fun z => c_227 (Int32.toInt_inj.mp z)
                have y_0 : (0 : Int32).toInt = 0 := by decide
                have y_42 : (42 : Int32).toInt = 42 := by decide
                omega
              have ha_249 : 0 ≤ (sv_213 : Int32).toInt ∧ (sv_213 : Int32).toInt ≤ ((Mv 0) : Int32).toInt ∧ ((Mv 0) : Int32).toInt ≤ 400 := by
                have z_1 : ¬ (r_13 : Int32).toInt = (0 : Int32).toInt := fun z => c_18 (Int32.toInt_inj.mp z)
                have z_2 := congrArg Int32.toInt c_62
                have z_3 := congrArg Int32.toInt c_65
                have z_4 : ¬ (r_222 : Int32).toInt = (0 : Int32).toInt := fun z => c_227 (Int32.toInt_inj.mp z)
                have y_0 : (0 : Int32).toInt = 0 := by decide
                have y_42 : (42 : Int32).toInt = 42 := by decide
                omega
              have ha_250 : (Mv 6).toInt ≤ (sv_216 : Int32).toInt ∧ (sv_216 : Int32).toInt ≤ 60 := by
                have z_1 : ¬ (r_13 : Int32).toInt = (0 : Int32).toInt := fun z => c_18 (Int32.toInt_inj.mp z)
                have z_2 := congrArg Int32.toInt c_62
                have z_3 := congrArg Int32.toInt c_65
                have z_4 : ¬ (r_222 : Int32).toInt = (0 : Int32).toInt := fun z => c_227 (Int32.toInt_inj.mp z)
                have y_0 : (0 : Int32).toInt = 0 := by decide
                have y_42 : (42 : Int32).toInt = 42 := by decide
                omega
              have ha_251 : ((Mf 3) (Mv 5).toNatClampNeg).toInt + 1 ≤ (sv_242 (Mv 5).toNatClampNeg).toInt ∧ (sv_242 (Mv 5).toNatClampNeg).toInt + ((Mv 2) : Int32).toInt ≤ ((Mf 3) (Mv 5).toNatClampNeg).toInt + (sv_213 : Int32).toInt ∧ ((Mv 2) : Int32).toInt + 1 ≤ (sv_213 : Int32).toInt := by
                have z_1 : ¬ (r_13 : Int32).toInt = (0 : Int32).toInt := fun z => c_18 (Int32.toInt_inj.mp z)
                have z_2 := congrArg Int32.toInt c_62
                have z_3 := congrArg Int32.toInt c_65
                have z_4 : ¬ (r_222 : Int32).toInt = (0 : Int32).toInt := fun z => c_227 (Int32.toInt_inj.mp z)
                have y_0 : (0 : Int32).toInt = 0 := by decide
                have y_42 : (42 : Int32).toInt = 42 := by decide
                omega
              have hr_252 : (400 * ((Mv 5) : Int32).toInt + ((Mf 3) (Mv 5).toNatClampNeg).toInt) ≤ (400 * ((Mv 5) : Int32).toInt + ((Mf 3) (Mv 5).toNatClampNeg).toInt) := by
                have z_1 : ¬ (r_13 : Int32).toInt = (0 : Int32).toInt := fun z => c_18 (Int32.toInt_inj.mp z)
                have z_2 := congrArg Int32.toInt c_62
                have z_3 := congrArg Int32.toInt c_65
                have z_4 : ¬ (r_222 : Int32).toInt = (0 : Int32).toInt := fun z => c_227 (Int32.toInt_inj.mp z)
                have y_0 : (0 : Int32).toInt = 0 := by decide
                have y_42 : (42 : Int32).toInt = 42 := by decide
                omega
              have hr_253 : (400 * ((Mv 5) : Int32).toInt + ((Mf 3) (Mv 5).toNatClampNeg).toInt) ≤ (400 * ((Mv 5) : Int32).toInt + (vy_35 (Mv 5).toNatClampNeg).toInt) := by
                have z_1 : ¬ (r_13 : Int32).toInt = (0 : Int32).toInt := fun z => c_18 (Int32.toInt_inj.mp z)
                have z_2 := congrArg Int32.toInt c_62
                have z_3 := congrArg Int32.toInt c_65
                have z_4 : ¬ (r_222 : Int32).toInt = (0 : Int32).toInt := fun z => c_227 (Int32.toInt_inj.mp z)
                have y_0 : (0 : Int32).toInt = 0 := by decide
                have y_42 : (42 : Int32).toInt = 42 := by decide
                omega
              have hr_254 : (400 * ((Mv 5) : Int32).toInt + ((Mf 3) (Mv 5).toNatClampNeg).toInt) ≤ (400 * ((Mv 5) : Int32).toInt + (sv_218 (Mv 5).toNatClampNeg).toInt) := by
                have z_1 : ¬ (r_13 : Int32).toInt = (0 : Int32).toInt := fun z => c_18 (Int32.toInt_inj.mp z)
                have z_2 := congrArg Int32.toInt c_62
                have z_3 := congrArg Int32.toInt c_65
                have z_4 : ¬ (r_222 : Int32).toInt = (0 : Int32).toInt := fun z => c_227 (Int32.toInt_inj.mp z)
                have y_0 : (0 : Int32).toInt = 0 := by decide
                have y_42 : (42 : Int32).toInt = 42 := by decide
                omega
              have hr_255 : (rB (Mf 1) (Mv 0) (sv_54 : Int32).toInt.toNat = 43 ∨ rB (Mf 1) (Mv 0) (sv_54 : Int32).toInt.toNat = 45 ∨ rB (Mf 1) (Mv 0) (sv_54 : Int32).toInt.toNat = 42 ∨ rB (Mf 1) (Mv 0) (sv_54 : Int32).toInt.toNat = 47 ∨ rB (Mf 1) (Mv 0) (sv_54 : Int32).toInt.toNat = 37) := by
                have z_1 : ¬ (r_13 : Int32).toInt = (0 : Int32).toInt := fun z => c_18 (Int32.toInt_inj.mp z)
                have z_2 := congrArg Int32.toInt c_62
                have z_3 := congrArg Int32.toInt c_65
                have z_4 : ¬ (r_222 : Int32).toInt = (0 : Int32).toInt := fun z => c_227 (Int32.toInt_inj.mp z)
                have y_0 : (0 : Int32).toInt = 0 := by decide
                have y_42 : (42 : Int32).toInt = 42 := by decide
                omega
              have hi_256 : (x_205 : Int32).toInt = (sv_54 : Int32).toInt + 1 := by
                have z_1 : ¬ (r_13 : Int32).toInt = (0 : Int32).toInt := fun z => c_18 (Int32.toInt_inj.mp z)
                have z_2 := congrArg Int32.toInt c_62
                have z_3 := congrArg Int32.toInt c_65
                have z_4 : ¬ (r_222 : Int32).toInt = (0 : Int32).toInt := fun z => c_227 (Int32.toInt_inj.mp z)
                have y_0 : (0 : Int32).toInt = 0 := by decide
                have y_42 : (42 : Int32).toInt = 42 := by decide
                have y_1 : (1 : Int32).toInt = 1 := by decide
                have t_x_205 : x_205.toInt = (sv_54 : Int32).toInt + (1 : Int32).toInt := by rw [ex_205]; exact add_toInt (by omega) (by omega)
                omega
              have hr_257 : (rB (Mf 1) (Mv 0) (sv_54 : Int32).toInt.toNat = 42 ∨ rB (Mf 1) (Mv 0) (sv_54 : Int32).toInt.toNat = 47 ∨ rB (Mf 1) (Mv 0) (sv_54 : Int32).toInt.toNat = 37) := by
                have z_1 : ¬ (r_13 : Int32).toInt = (0 : Int32).toInt := fun z => c_18 (Int32.toInt_inj.mp z)
                have z_2 := congrArg Int32.toInt c_62
                have z_3 := congrArg Int32.toInt c_65
                have z_4 : ¬ (r_222 : Int32).toInt = (0 : Int32).toInt := fun z => c_227 (Int32.toInt_inj.mp z)
                have y_0 : (0 : Int32).toInt = 0 := by decide
                have y_42 : (42 : Int32).toInt = 42 := by decide
                omega
              have rg_258 := rB_rg (n := (Mv 0)) h_bs (sv_54 : Int32).toInt.toNat
              have hr_259 : rB (Mf 1) (Mv 0) (sv_54 : Int32).toInt.toNat = 42 := by
                have z_1 : ¬ (r_13 : Int32).toInt = (0 : Int32).toInt := fun z => c_18 (Int32.toInt_inj.mp z)
                have z_2 := congrArg Int32.toInt c_62
                have z_3 := congrArg Int32.toInt c_65
                have z_4 : ¬ (r_222 : Int32).toInt = (0 : Int32).toInt := fun z => c_227 (Int32.toInt_inj.mp z)
                have y_0 : (0 : Int32).toInt = 0 := by decide
                have y_42 : (42 : Int32).toInt = 42 := by decide
                omega
              have ho_260 : (-14 : Int) = ec_o (rB (Mf 1) (Mv 0) (sv_54 : Int32).toInt.toNat) := by rw [hr_259]; decide
              have hi_261 : (x_205 : Int32).toInt = (sv_54 : Int32).toInt + 1 := by
                have z_1 : ¬ (r_13 : Int32).toInt = (0 : Int32).toInt := fun z => c_18 (Int32.toInt_inj.mp z)
                have z_2 := congrArg Int32.toInt c_62
                have z_3 := congrArg Int32.toInt c_65
                have z_4 : ¬ (r_222 : Int32).toInt = (0 : Int32).toInt := fun z => c_227 (Int32.toInt_inj.mp z)
                have y_0 : (0 : Int32).toInt = 0 := by decide
                have y_42 : (42 : Int32).toInt = 42 := by decide
                have y_1 : (1 : Int32).toInt = 1 := by decide
                have t_x_205 : x_205.toInt = (sv_54 : Int32).toInt + (1 : Int32).toInt := by rw [ex_205]; exact add_toInt (by omega) (by omega)
                omega
              have hu_262 : SgC sv_241 sv_242 (Mv 5) (((ll ++ xq_47) ++ lval (rB (Mf 1) (Mv 0)) (St0 (rB (Mf 1) (Mv 0)) x_205 vy_33)) ++ [(-14)]) := by
                rw [← elo_50, ← elo_232, ← elo_247]
                exact pf_246
              exact ih_37 sv_213 sv_214 sv_215 sv_216 sv_241 sv_242 _ _ _ (by omega) ha_249 ha_250 ha_251 (Agr.trans (k' := (400 * ((Mv 5) : Int32).toInt + ((Mf 3) (Mv 5).toNatClampNeg).toInt)) (Agr.trans (k' := (400 * ((Mv 5) : Int32).toInt + ((Mf 3) (Mv 5).toNatClampNeg).toInt)) (Agr.mono pf_42 hr_252) pf_221 ⟨Int.le_refl _, hr_253⟩) pf_244 ⟨Int.le_refl _, hr_254⟩) pf_243 (TmL.next (rB_fi h_nx.2.2) pf_44 pf_58 hr_255 hi_256 pf_229) (TmC.next (rB_fi h_nx.2.2) pf_49 pf_58 hr_257 ho_260 hi_261 pf_229 hu_262) (hP.sub [1, 0, 2, 3] rfl) (hD.sub [1, 0, 2, 3] rfl rfl) hS (lv_sub hl [1] rfl)
            · skip
              have hz_264 : (r_222 : Int32).toInt = 0 := by
                have z_1 : ¬ (r_13 : Int32).toInt = (0 : Int32).toInt := fun z => c_18 (Int32.toInt_inj.mp z)
                have z_2 := congrArg Int32.toInt c_62
                have z_3 := congrArg Int32.toInt c_65
                have z_4 := congrArg Int32.toInt c_227
                have y_0 : (0 : Int32).toInt = 0 := by decide
                have y_42 : (42 : Int32).toInt = 42 := by decide
                omega
              obtain pf_263 := hm_226 hz_264
              have pf_263 : RfE (pz_val (rB (Mf 1) (Mv 0)) (St0 (rB (Mf 1) (Mv 0)) x_205 vy_33)) sv_214 := pf_263
              refine lv_iconst (v := 0) hx hb dX12_term_92 (by decide) ?_
              have ha_265 : ((Mv 2) : Int32).toInt ≤ (sv_213 : Int32).toInt ∧ (sv_213 : Int32).toInt ≤ ((Mv 0) : Int32).toInt := by
                have z_1 : ¬ (r_13 : Int32).toInt = (0 : Int32).toInt := fun z => c_18 (Int32.toInt_inj.mp z)
                have z_2 := congrArg Int32.toInt c_62
                have z_3 := congrArg Int32.toInt c_65
                have z_4 := congrArg Int32.toInt c_227
                have y_0 : (0 : Int32).toInt = 0 := by decide
                have y_42 : (42 : Int32).toInt = 42 := by decide
                omega
              have ha_266 : ((Mv 6) : Int32).toInt ≤ (sv_216 : Int32).toInt ∧ (sv_216 : Int32).toInt ≤ 60 := by
                have z_1 : ¬ (r_13 : Int32).toInt = (0 : Int32).toInt := fun z => c_18 (Int32.toInt_inj.mp z)
                have z_2 := congrArg Int32.toInt c_62
                have z_3 := congrArg Int32.toInt c_65
                have z_4 := congrArg Int32.toInt c_227
                have y_0 : (0 : Int32).toInt = 0 := by decide
                have y_42 : (42 : Int32).toInt = 42 := by decide
                omega
              have hr_267 : (400 * ((Mv 5) : Int32).toInt + ((Mf 3) (Mv 5).toNatClampNeg).toInt) ≤ (400 * ((Mv 5) : Int32).toInt + ((Mf 3) (Mv 5).toNatClampNeg).toInt) := by
                have z_1 : ¬ (r_13 : Int32).toInt = (0 : Int32).toInt := fun z => c_18 (Int32.toInt_inj.mp z)
                have z_2 := congrArg Int32.toInt c_62
                have z_3 := congrArg Int32.toInt c_65
                have z_4 := congrArg Int32.toInt c_227
                have y_0 : (0 : Int32).toInt = 0 := by decide
                have y_42 : (42 : Int32).toInt = 42 := by decide
                omega
              have hr_268 : (400 * ((Mv 5) : Int32).toInt + ((Mf 3) (Mv 5).toNatClampNeg).toInt) ≤ (400 * ((Mv 5) : Int32).toInt + (vy_35 (Mv 5).toNatClampNeg).toInt) := by
                have z_1 : ¬ (r_13 : Int32).toInt = (0 : Int32).toInt := fun z => c_18 (Int32.toInt_inj.mp z)
                have z_2 := congrArg Int32.toInt c_62
                have z_3 := congrArg Int32.toInt c_65
                have z_4 := congrArg Int32.toInt c_227
                have y_0 : (0 : Int32).toInt = 0 := by decide
                have y_42 : (42 : Int32).toInt = 42 := by decide
                omega
              have hp_269 : (((0 : Int32).toInt = 0 ∧ ¬ (sv_214 : Int32).toInt = 0) ∨ ((0 : Int32).toInt = 1 ∧ ((Mf 3) (Mv 5).toNatClampNeg).toInt + 1 ≤ (sv_218 (Mv 5).toNatClampNeg).toInt ∧ (sv_218 (Mv 5).toNatClampNeg).toInt + ((Mv 2) : Int32).toInt ≤ ((Mf 3) (Mv 5).toNatClampNeg).toInt + (sv_213 : Int32).toInt ∧ ((Mv 2) : Int32).toInt + 1 ≤ (sv_213 : Int32).toInt)) := by
                have z_1 : ¬ (r_13 : Int32).toInt = (0 : Int32).toInt := fun z => c_18 (Int32.toInt_inj.mp z)
                have z_2 := congrArg Int32.toInt c_62
                have z_3 := congrArg Int32.toInt c_65
                have z_4 := congrArg Int32.toInt c_227
                have y_0 : (0 : Int32).toInt = 0 := by decide
                have y_42 : (42 : Int32).toInt = 42 := by decide
                omega
              have hm_270 : (0 : Int32).toInt = 0 → (RfE (pz_sum (rB (Mf 1) (Mv 0)) (St0 (rB (Mf 1) (Mv 0)) (Mv 2) (Mv 6))) sv_214) := by
                intro h1r
                have hr_271 : (rB (Mf 1) (Mv 0) (sv_54 : Int32).toInt.toNat = 43 ∨ rB (Mf 1) (Mv 0) (sv_54 : Int32).toInt.toNat = 45 ∨ rB (Mf 1) (Mv 0) (sv_54 : Int32).toInt.toNat = 42 ∨ rB (Mf 1) (Mv 0) (sv_54 : Int32).toInt.toNat = 47 ∨ rB (Mf 1) (Mv 0) (sv_54 : Int32).toInt.toNat = 37) := by
                  have z_1 : ¬ (r_13 : Int32).toInt = (0 : Int32).toInt := fun z => c_18 (Int32.toInt_inj.mp z)
                  have z_2 := congrArg Int32.toInt c_62
                  have z_3 := congrArg Int32.toInt c_65
                  have z_4 := congrArg Int32.toInt c_227
                  have y_0 : (0 : Int32).toInt = 0 := by decide
                  have y_42 : (42 : Int32).toInt = 42 := by decide
                  omega
                have hi_272 : (x_205 : Int32).toInt = (sv_54 : Int32).toInt + 1 := by
                  have z_1 : ¬ (r_13 : Int32).toInt = (0 : Int32).toInt := fun z => c_18 (Int32.toInt_inj.mp z)
                  have z_2 := congrArg Int32.toInt c_62
                  have z_3 := congrArg Int32.toInt c_65
                  have z_4 := congrArg Int32.toInt c_227
                  have y_0 : (0 : Int32).toInt = 0 := by decide
                  have y_42 : (42 : Int32).toInt = 42 := by decide
                  have y_1 : (1 : Int32).toInt = 1 := by decide
                  have t_x_205 : x_205.toInt = (sv_54 : Int32).toInt + (1 : Int32).toInt := by rw [ex_205]; exact add_toInt (by omega) (by omega)
                  omega
                exact (TmL.er (rB_fi h_nx.2.2) pf_44 pf_58 hr_271 hi_272 pf_263)
              exact retI (v := 0) hx hb hr hlk (rfl) hP hD hS (sv_213, sv_214, sv_215, sv_216, sv_217, sv_218) ⟨_, rfl, hp_269, ha_265, ha_266, (Agr.trans (k' := (400 * ((Mv 5) : Int32).toInt + ((Mf 3) (Mv 5).toNatClampNeg).toInt)) (Agr.mono pf_42 hr_267) pf_221 ⟨Int.le_refl _, hr_268⟩), (fun h => absurd h (by decide)), hm_270⟩ [0, 1, 2, 3] rfl rfl dX12_term_93 (Nat.le_of_ble_eq_true rfl) (Nat.le_of_ble_eq_true rfl) rfl
        · skip
          refine lv_aload_n hx hb dX12_term_18 rfl (lv_at hl 0 rfl) ?_
          have ha_273 : 0 ≤ (sv_54 : Int32).toInt ∧ (sv_54 : Int32).toInt ≤ ((Mv 0) : Int32).toInt ∧ ((Mv 0) : Int32).toInt ≤ 400 := by
            have z_1 : ¬ (r_13 : Int32).toInt = (0 : Int32).toInt := fun z => c_18 (Int32.toInt_inj.mp z)
            have z_2 : ¬ (r_59 : Int32).toInt = (42 : Int32).toInt := fun z => c_62 (Int32.toInt_inj.mp z)
            have y_0 : (0 : Int32).toInt = 0 := by decide
            have y_42 : (42 : Int32).toInt = 42 := by decide
            omega
          refine cV (a := (Ma 0)) (As := []) (rest := []) (wr := [((Ma 2), .inl (tc 0, 2400, .inl vy_34)), ((Ma 3), .inl (tc 0, 7, .inl vy_35))]) ⟨hx, hb, hml, hown, hts⟩ hK hX hA (cu_fX12_see l D tc sk (Ma 0) (Ma 1) (Ma 2) (Ma 3) (Ma 4) (Ma 5) (Ma 6) (Ma 7) (Ma 8) (Ma 9) (Ma 10) (Ma 11) (Ma 12) (Ma 13) (Ma 14) (Ma 15) (Ma 16) (Ma 17) (Ma 18) (Ma 19) (Ma 20) (Mv 0) (Mv 1) sv_54 vy_31 vy_32 (Mv 5) vy_33 (Mv 7) (Mv 8) (Mv 9) (Mv 10) (Mv 11) (Mv 12) (Mv 13) (Mv 14) (Mf 1) (Mj 0) ha_273 h_bs) k_1211 k_1208 k_1210 k_27 k_106 pl_X12_see ⟨Nat.le_of_ble_eq_true rfl, Nat.le_of_ble_eq_true rfl⟩ rfl rfl (va_recv hK hP (ci := 12) (q0 := 2) rfl rfl) hP hD hS [2, 3] [0, 1] rfl rfl rfl rfl rfl (by decide) rfl hl.1 rfl (Nat.le_of_ble_eq_true rfl) dX12_term_19 ⟨Nat.le_of_ble_eq_true rfl, Nat.le_of_ble_eq_true rfl⟩ (fun v_274 u_275 H locs hv_276 hP₀ hD₀ hS₀ => ?_)
          obtain ⟨sv_277, rfl⟩ : ∃ z, z = u_275 := ⟨_, rfl⟩
          obtain ⟨r_282, rfl, he_283, pf_278, pf_279, pf_280, pf_281⟩ := hv_276
          have he_283 : (r_282.toInt = rB (Mf 1) (Mv 0) (sv_277 : Int32).toInt.toNat ∧ (r_282.toInt = -1 ∨ (sv_277 : Int32).toInt < (Mv 0).toInt)) := he_283
          have pf_278 : (sv_54 : Int32).toInt ≤ (sv_277 : Int32).toInt ∧ (sv_277 : Int32).toInt ≤ ((Mv 0) : Int32).toInt := pf_278
          have pf_279 : NSq (Mf 1) (Mv 0) sv_277 := pf_279
          have pf_280 : Stl (Mf 1) (Mv 0) sv_54 sv_277 := pf_280
          have ar_pf_280 := Stl.or pf_280 pf_56
          have pf_281 : SkR (rB (Mf 1) (Mv 0)) sv_54 sv_277 := pf_281
          refine W.eq (g2 := F0 m 22 ls [.int r_282]) rfl ?_
          replace hP : va_P D classes [((Ma 2), .inl (tc 0, 2400, .inl vy_34)), ((Ma 3), .inl (tc 0, 7, .inl vy_35)), ((Ma 0), .inr (12, [.ref (Ma 1), .int (Mv 0), .int (Mv 1), .ref (Ma 2), .ref (Ma 3), .ref (Ma 4), .ref (Ma 5), .ref (Ma 6), .int sv_277, .int vy_31, .int vy_32, .int (Mv 5), .int vy_33, .int (Mv 7), .int (Mv 8), .ref (Ma 7), .int (Mv 9), .ref (Ma 8), .int (Mv 10), .ref (Ma 9), .ref (Ma 10), .int (Mv 11), .int (Mv 12), .int (Mv 13), .ref (Ma 11), .int (Mv 14), .ref (Ma 12), .ref (Ma 13), .ref (Ma 14), .ref (Ma 15), .ref (Ma 16), .long (Mj 0), .ref (Ma 17), .ref (Ma 18), .ref (Ma 19), .ref (Ma 20)])), ((Ma 1), .inl (tc 2, 400, .inl (Mf 1)))] H := hP₀
          replace hD : va_D A [((Ma 2), .inl (tc 0, 2400, .inl vy_34)), ((Ma 3), .inl (tc 0, 7, .inl vy_35)), ((Ma 0), .inr (12, [.ref (Ma 1), .int (Mv 0), .int (Mv 1), .ref (Ma 2), .ref (Ma 3), .ref (Ma 4), .ref (Ma 5), .ref (Ma 6), .int sv_277, .int vy_31, .int vy_32, .int (Mv 5), .int vy_33, .int (Mv 7), .int (Mv 8), .ref (Ma 7), .int (Mv 9), .ref (Ma 8), .int (Mv 10), .ref (Ma 9), .ref (Ma 10), .int (Mv 11), .int (Mv 12), .int (Mv 13), .ref (Ma 11), .int (Mv 14), .ref (Ma 12), .ref (Ma 13), .ref (Ma 14), .ref (Ma 15), .ref (Ma 16), .long (Mj 0), .ref (Ma 17), .ref (Ma 18), .ref (Ma 19), .ref (Ma 20)])), ((Ma 1), .inl (tc 2, 400, .inl (Mf 1)))] := hD₀
          replace hS := hS₀
          clear hP₀ hD₀ hS₀
          have hE_285 := SkR.eqB pf_58 pf_281
          refine lv_bipush (v := 47) hx hb dX12_term_22 (by decide) ?_
          refine lv_icmp_eq (tgt := 36) hx hb dX12_term_24 (by decide) (fun c_286 => ?_) (fun c_286 => ?_)
          · skip
            refine lv_aload_n hx hb dX12_term_36 rfl (lv_at hl 0 rfl) ?_
            refine gf_X12_7 hx hb hts hown hK hP 2 rfl rfl dX12_term_37 ?_
            refine lv_aload_n hx hb dX12_term_40 rfl (lv_at hl 0 rfl) ?_
            refine gf_X12_87 hx hb hts hown hK hP 2 rfl rfl dX12_term_41 ?_
            have hi_287 : vp_in sv_277 400 := by
              have z_1 : ¬ (r_13 : Int32).toInt = (0 : Int32).toInt := fun z => c_18 (Int32.toInt_inj.mp z)
              have z_2 : ¬ (r_59 : Int32).toInt = (42 : Int32).toInt := fun z => c_62 (Int32.toInt_inj.mp z)
              have z_3 := congrArg Int32.toInt c_286
              have y_0 : (0 : Int32).toInt = 0 := by decide
              have y_42 : (42 : Int32).toInt = 42 := by decide
              have y_47 : (47 : Int32).toInt = 47 := by decide
              refine vp_in_iff.mpr ⟨?_, ?_⟩ <;> omega
            refine va_bald hx hb hK hP 3 2 rfl rfl hi_287 dX12_term_44 ?_
            refine lv_topi (fun x_288 ex_288 => ?_)
            have kx_288 : x_288.toInt = ((Mf 1) (sv_277 : Int32).toInt.toNat).toInt := congrArg Int32.toInt ex_288
            have kcx_288 : x_288.toInt = ((Mf 1) (sv_277 : Int32).toNatClampNeg).toInt := congrArg Int32.toInt ex_288
            refine lv_bipush (v := 42) hx hb dX12_term_45 (by decide) ?_
            refine lv_icmp_ne (tgt := 54) hx hb dX12_term_47 (by decide) (fun c_289 => ?_) (fun c_289 => ?_)
            · skip
              refine lv_aload_n hx hb dX12_term_54 rfl (lv_at hl 0 rfl) ?_
              refine gf_X12_7 hx hb hts hown hK hP 2 rfl rfl dX12_term_55 ?_
              refine lv_aload_n hx hb dX12_term_58 rfl (lv_at hl 0 rfl) ?_
              refine gf_X12_87 hx hb hts hown hK hP 2 rfl rfl dX12_term_59 ?_
              have hi_290 : vp_in sv_277 400 := by
                have z_1 : ¬ (r_13 : Int32).toInt = (0 : Int32).toInt := fun z => c_18 (Int32.toInt_inj.mp z)
                have z_2 : ¬ (r_59 : Int32).toInt = (42 : Int32).toInt := fun z => c_62 (Int32.toInt_inj.mp z)
                have z_3 := congrArg Int32.toInt c_286
                have z_4 : ¬ (x_288 : Int32).toInt = (42 : Int32).toInt := fun z => c_289 (Int32.toInt_inj.mp z)
                have y_0 : (0 : Int32).toInt = 0 := by decide
                have y_42 : (42 : Int32).toInt = 42 := by decide
                have y_47 : (47 : Int32).toInt = 47 := by decide
                refine vp_in_iff.mpr ⟨?_, ?_⟩ <;> omega
              refine va_bald hx hb hK hP 3 2 rfl rfl hi_290 dX12_term_62 ?_
              refine lv_topi (fun x_291 ex_291 => ?_)
              have kx_291 : x_291.toInt = ((Mf 1) (sv_277 : Int32).toInt.toNat).toInt := congrArg Int32.toInt ex_291
              have kcx_291 : x_291.toInt = ((Mf 1) (sv_277 : Int32).toNatClampNeg).toInt := congrArg Int32.toInt ex_291
              refine lv_bipush (v := 47) hx hb dX12_term_63 (by decide) ?_
              refine lv_icmp_ne (tgt := 72) hx hb dX12_term_65 (by decide) (fun c_292 => ?_) (fun c_292 => ?_)
              · skip
                refine lv_bipush (v := 14) hx hb dX12_term_72 (by decide) ?_
                refine lv_istore_n (lv' := [(1, .int 14), (0, .ref (Ma 0))]) hx hb dX12_term_74 rfl hl (by decide) rfl (fun ls hl₀ => ?_)
                replace hl := hl₀
                clear hl₀
                refine lv_aload_n hx hb dX12_term_75 rfl (lv_at hl 1 rfl) ?_
                refine lv_dup hx hb dX12_term_76 rfl ?_
                refine gf_X12_87 hx hb hts hown hK hP 2 rfl rfl dX12_term_77 ?_
                refine lv_iconst (v := 1) hx hb dX12_term_80 (by decide) ?_
                refine lv_iadd hx hb dX12_term_81 ?_
                refine lv_topi (fun x_293 ex_293 => ?_)
                refine pf_X12_87 hx hb hts hown hK hP hD hS 2 rfl (Nat.le_of_ble_eq_true rfl) rfl rfl dX12_term_82 (fun H locs hP₀ hD₀ hS₀ => ?_)
                replace hP : va_P D classes [((Ma 2), .inl (tc 0, 2400, .inl vy_34)), ((Ma 3), .inl (tc 0, 7, .inl vy_35)), ((Ma 0), .inr (12, [.ref (Ma 1), .int (Mv 0), .int (Mv 1), .ref (Ma 2), .ref (Ma 3), .ref (Ma 4), .ref (Ma 5), .ref (Ma 6), .int x_293, .int vy_31, .int vy_32, .int (Mv 5), .int vy_33, .int (Mv 7), .int (Mv 8), .ref (Ma 7), .int (Mv 9), .ref (Ma 8), .int (Mv 10), .ref (Ma 9), .ref (Ma 10), .int (Mv 11), .int (Mv 12), .int (Mv 13), .ref (Ma 11), .int (Mv 14), .ref (Ma 12), .ref (Ma 13), .ref (Ma 14), .ref (Ma 15), .ref (Ma 16), .long (Mj 0), .ref (Ma 17), .ref (Ma 18), .ref (Ma 19), .ref (Ma 20)])), ((Ma 1), .inl (tc 2, 400, .inl (Mf 1)))] H := hP₀
                replace hD : va_D A [((Ma 2), .inl (tc 0, 2400, .inl vy_34)), ((Ma 3), .inl (tc 0, 7, .inl vy_35)), ((Ma 0), .inr (12, [.ref (Ma 1), .int (Mv 0), .int (Mv 1), .ref (Ma 2), .ref (Ma 3), .ref (Ma 4), .ref (Ma 5), .ref (Ma 6), .int x_293, .int vy_31, .int vy_32, .int (Mv 5), .int vy_33, .int (Mv 7), .int (Mv 8), .ref (Ma 7), .int (Mv 9), .ref (Ma 8), .int (Mv 10), .ref (Ma 9), .ref (Ma 10), .int (Mv 11), .int (Mv 12), .int (Mv 13), .ref (Ma 11), .int (Mv 14), .ref (Ma 12), .ref (Ma 13), .ref (Ma 14), .ref (Ma 15), .ref (Ma 16), .long (Mj 0), .ref (Ma 17), .ref (Ma 18), .ref (Ma 19), .ref (Ma 20)])), ((Ma 1), .inl (tc 2, 400, .inl (Mf 1)))] := hD₀
                replace hS := hS₀
                clear hP₀ hD₀ hS₀
                have tp_x_293 : (x_293 : Int32).toInt = (sv_277 : Int32).toInt + 1 := by
                  have z_1 : ¬ (r_13 : Int32).toInt = (0 : Int32).toInt := fun z => c_18 (Int32.toInt_inj.mp z)
                  have z_2 : ¬ (r_59 : Int32).toInt = (42 : Int32).toInt := fun z => c_62 (Int32.toInt_inj.mp z)
                  have z_3 := congrArg Int32.toInt c_286
                  have z_4 : ¬ (x_288 : Int32).toInt = (42 : Int32).toInt := fun z => c_289 (Int32.toInt_inj.mp z)
                  have z_5 : ¬ (x_291 : Int32).toInt = (47 : Int32).toInt := fun z => c_292 (Int32.toInt_inj.mp z)
                  have y_0 : (0 : Int32).toInt = 0 := by decide
                  have y_42 : (42 : Int32).toInt = 42 := by decide
                  have y_47 : (47 : Int32).toInt = 47 := by decide
                  have y_1 : (1 : Int32).toInt = 1 := by decide
                  have t_x_293 : x_293.toInt = (sv_277 : Int32).toInt + (1 : Int32).toInt := by rw [ex_293]; exact add_toInt (by omega) (by omega)
                  omega
                refine lv_aload_n hx hb dX12_term_85 rfl (lv_at hl 1 rfl) ?_
                have ha_294 : 0 ≤ (x_293 : Int32).toInt ∧ (x_293 : Int32).toInt ≤ ((Mv 0) : Int32).toInt ∧ ((Mv 0) : Int32).toInt ≤ 400 := by
                  have z_1 : ¬ (r_13 : Int32).toInt = (0 : Int32).toInt := fun z => c_18 (Int32.toInt_inj.mp z)
                  have z_2 : ¬ (r_59 : Int32).toInt = (42 : Int32).toInt := fun z => c_62 (Int32.toInt_inj.mp z)
                  have z_3 := congrArg Int32.toInt c_286
                  have z_4 : ¬ (x_288 : Int32).toInt = (42 : Int32).toInt := fun z => c_289 (Int32.toInt_inj.mp z)
                  have z_5 : ¬ (x_291 : Int32).toInt = (47 : Int32).toInt := fun z => c_292 (Int32.toInt_inj.mp z)
                  have y_0 : (0 : Int32).toInt = 0 := by decide
                  have y_42 : (42 : Int32).toInt = 42 := by decide
                  have y_47 : (47 : Int32).toInt = 47 := by decide
                  have y_1 : (1 : Int32).toInt = 1 := by decide
                  have t_x_293 : x_293.toInt = (sv_277 : Int32).toInt + (1 : Int32).toInt := by rw [ex_293]; exact add_toInt (by omega) (by omega)
                  omega
                have ha_295 : (vy_35 (Mv 5).toNatClampNeg).toInt ≤ (x_293 : Int32).toInt := by
                  have z_1 : ¬ (r_13 : Int32).toInt = (0 : Int32).toInt := fun z => c_18 (Int32.toInt_inj.mp z)
                  have z_2 : ¬ (r_59 : Int32).toInt = (42 : Int32).toInt := fun z => c_62 (Int32.toInt_inj.mp z)
                  have z_3 := congrArg Int32.toInt c_286
                  have z_4 : ¬ (x_288 : Int32).toInt = (42 : Int32).toInt := fun z => c_289 (Int32.toInt_inj.mp z)
                  have z_5 : ¬ (x_291 : Int32).toInt = (47 : Int32).toInt := fun z => c_292 (Int32.toInt_inj.mp z)
                  have y_0 : (0 : Int32).toInt = 0 := by decide
                  have y_42 : (42 : Int32).toInt = 42 := by decide
                  have y_47 : (47 : Int32).toInt = 47 := by decide
                  have y_1 : (1 : Int32).toInt = 1 := by decide
                  have t_x_293 : x_293.toInt = (sv_277 : Int32).toInt + (1 : Int32).toInt := by rw [ex_293]; exact add_toInt (by omega) (by omega)
                  omega
                have ha_296 : 0 ≤ (vy_33 : Int32).toInt ∧ (vy_33 : Int32).toInt ≤ 60 := by
                  have z_1 : ¬ (r_13 : Int32).toInt = (0 : Int32).toInt := fun z => c_18 (Int32.toInt_inj.mp z)
                  have z_2 : ¬ (r_59 : Int32).toInt = (42 : Int32).toInt := fun z => c_62 (Int32.toInt_inj.mp z)
                  have z_3 := congrArg Int32.toInt c_286
                  have z_4 : ¬ (x_288 : Int32).toInt = (42 : Int32).toInt := fun z => c_289 (Int32.toInt_inj.mp z)
                  have z_5 : ¬ (x_291 : Int32).toInt = (47 : Int32).toInt := fun z => c_292 (Int32.toInt_inj.mp z)
                  have y_0 : (0 : Int32).toInt = 0 := by decide
                  have y_42 : (42 : Int32).toInt = 42 := by decide
                  have y_47 : (47 : Int32).toInt = 47 := by decide
                  omega
                have ha_297 : (vy_31 : Int32).toInt = 0 := by
                  have z_1 : ¬ (r_13 : Int32).toInt = (0 : Int32).toInt := fun z => c_18 (Int32.toInt_inj.mp z)
                  have z_2 : ¬ (r_59 : Int32).toInt = (42 : Int32).toInt := fun z => c_62 (Int32.toInt_inj.mp z)
                  have z_3 := congrArg Int32.toInt c_286
                  have z_4 : ¬ (x_288 : Int32).toInt = (42 : Int32).toInt := fun z => c_289 (Int32.toInt_inj.mp z)
                  have z_5 : ¬ (x_291 : Int32).toInt = (47 : Int32).toInt := fun z => c_292 (Int32.toInt_inj.mp z)
                  have y_0 : (0 : Int32).toInt = 0 := by decide
                  have y_42 : (42 : Int32).toInt = 42 := by decide
                  have y_47 : (47 : Int32).toInt = 47 := by decide
                  omega
                refine cV (a := (Ma 0)) (As := []) (rest := []) (wr := []) ⟨hx, hb, hml, hown, hts⟩ hK hX hA (cu_kX12_value l D tc sk (Ma 0) (Ma 1) (Ma 2) (Ma 3) (Ma 4) (Ma 5) (Ma 6) (Ma 7) (Ma 8) (Ma 9) (Ma 10) (Ma 11) (Ma 12) (Ma 13) (Ma 14) (Ma 15) (Ma 16) (Ma 17) (Ma 18) (Ma 19) (Ma 20) (Mv 0) (Mv 1) x_293 vy_31 vy_32 (Mv 5) vy_33 (Mv 7) (Mv 8) (Mv 9) (Mv 10) (Mv 11) (Mv 12) (Mv 13) (Mv 14) (Mf 1) vy_34 vy_35 (Mj 0) b (d + 1) lo_50 ha_294 pf_43 ha_295 ha_296 h_bs ha_297 pf_48) k_1287 k_1284 k_1286 k_44 k_106 pl_X12_value ⟨Nat.le_of_ble_eq_true rfl, Nat.le_of_ble_eq_true rfl⟩ rfl rfl (va_recv hK hP (ci := 12) (q0 := 2) rfl rfl) hP hD hS [2, 3, 0, 1] [] rfl rfl rfl rfl rfl (by decide) rfl hl.1 rfl (Nat.le_of_ble_eq_true rfl) dX12_term_86 ⟨Nat.le_of_ble_eq_true rfl, Nat.le_of_ble_eq_true rfl⟩ (fun v_298 u_299 H locs hv_300 hP₀ hD₀ hS₀ => ?_)
                obtain ⟨sv_301, sv_302, sv_303, sv_304, sv_305, sv_306⟩ := u_299
                obtain ⟨r_310, rfl, he_311, pf_307, pf_308, pf_309, hm_313, hm_314⟩ := hv_300
                have he_311 : ((r_310.toInt = 0 ∧ ¬ (sv_302 : Int32).toInt = 0) ∨ (r_310.toInt = 1 ∧ (vy_35 (Mv 5).toNatClampNeg).toInt + 1 ≤ (sv_306 (Mv 5).toNatClampNeg).toInt ∧ (sv_306 (Mv 5).toNatClampNeg).toInt + (x_293 : Int32).toInt ≤ (vy_35 (Mv 5).toNatClampNeg).toInt + (sv_301 : Int32).toInt ∧ (x_293 : Int32).toInt + 1 ≤ (sv_301 : Int32).toInt)) := he_311
                have pf_307 : (x_293 : Int32).toInt ≤ (sv_301 : Int32).toInt ∧ (sv_301 : Int32).toInt ≤ ((Mv 0) : Int32).toInt := pf_307
                have pf_308 : (vy_33 : Int32).toInt ≤ (sv_304 : Int32).toInt ∧ (sv_304 : Int32).toInt ≤ 60 := pf_308
                have pf_309 : Agr vy_34 sv_305 (400 * ((Mv 5) : Int32).toInt + (vy_35 (Mv 5).toNatClampNeg).toInt) := pf_309
                refine W.eq (g2 := F0 m 89 ls [.int r_310]) rfl ?_
                replace hP : va_P D classes [((Ma 0), .inr (12, [.ref (Ma 1), .int (Mv 0), .int (Mv 1), .ref (Ma 2), .ref (Ma 3), .ref (Ma 4), .ref (Ma 5), .ref (Ma 6), .int sv_301, .int sv_302, .int sv_303, .int (Mv 5), .int sv_304, .int (Mv 7), .int (Mv 8), .ref (Ma 7), .int (Mv 9), .ref (Ma 8), .int (Mv 10), .ref (Ma 9), .ref (Ma 10), .int (Mv 11), .int (Mv 12), .int (Mv 13), .ref (Ma 11), .int (Mv 14), .ref (Ma 12), .ref (Ma 13), .ref (Ma 14), .ref (Ma 15), .ref (Ma 16), .long (Mj 0), .ref (Ma 17), .ref (Ma 18), .ref (Ma 19), .ref (Ma 20)])), ((Ma 1), .inl (tc 2, 400, .inl (Mf 1))), ((Ma 2), .inl (tc 0, 2400, .inl sv_305)), ((Ma 3), .inl (tc 0, 7, .inl sv_306))] H := hP₀
                replace hD : va_D A [((Ma 0), .inr (12, [.ref (Ma 1), .int (Mv 0), .int (Mv 1), .ref (Ma 2), .ref (Ma 3), .ref (Ma 4), .ref (Ma 5), .ref (Ma 6), .int sv_301, .int sv_302, .int sv_303, .int (Mv 5), .int sv_304, .int (Mv 7), .int (Mv 8), .ref (Ma 7), .int (Mv 9), .ref (Ma 8), .int (Mv 10), .ref (Ma 9), .ref (Ma 10), .int (Mv 11), .int (Mv 12), .int (Mv 13), .ref (Ma 11), .int (Mv 14), .ref (Ma 12), .ref (Ma 13), .ref (Ma 14), .ref (Ma 15), .ref (Ma 16), .long (Mj 0), .ref (Ma 17), .ref (Ma 18), .ref (Ma 19), .ref (Ma 20)])), ((Ma 1), .inl (tc 2, 400, .inl (Mf 1))), ((Ma 2), .inl (tc 0, 2400, .inl sv_305)), ((Ma 3), .inl (tc 0, 7, .inl sv_306))] := hD₀
                replace hS := hS₀
                clear hP₀ hD₀ hS₀
                refine lv_if_ne (tgt := 94) hx hb dX12_term_89 (by decide) (fun c_315 => ?_) (fun c_315 => ?_)
                · skip
                  have hz_319 : (r_310 : Int32).toInt = 1 := by
                    have z_1 : ¬ (r_13 : Int32).toInt = (0 : Int32).toInt := fun z => c_18 (Int32.toInt_inj.mp z)
                    have z_2 : ¬ (r_59 : Int32).toInt = (42 : Int32).toInt := fun z => c_62 (Int32.toInt_inj.mp z)
                    have z_3 := congrArg Int32.toInt c_286
                    have z_4 : ¬ (x_288 : Int32).toInt = (42 : Int32).toInt := fun z => c_289 (Int32.toInt_inj.mp z)
                    have z_5 : ¬ (x_291 : Int32).toInt = (47 : Int32).toInt := fun z => c_292 (Int32.toInt_inj.mp z)
                    have z_6 : ¬ (r_310 : Int32).toInt = (0 : Int32).toInt := fun z => c_315 (Int32.toInt_inj.mp z)
                    have y_0 : (0 : Int32).toInt = 0 := by decide
                    have y_42 : (42 : Int32).toInt = 42 := by decide
                    have y_47 : (47 : Int32).toInt = 47 := by decide
                    omega
                  obtain ⟨pf_316, pf_317, pf_318⟩ := hm_313 hz_319
                  have pf_316 : Cd sv_305 sv_306 (Mv 5) b sv_304 ((d + 1) + 1) := pf_316
                  have ar_pf_316 := Cd.ar pf_316
                  have pf_317 : RfO (pz_val (rB (Mf 1) (Mv 0)) (St0 (rB (Mf 1) (Mv 0)) x_293 vy_33)) (rB (Mf 1) (Mv 0)) sv_302 sv_301 sv_304 := pf_317
                  have ar_pf_317 := RfO.wr pf_317
                  have pf_318 : SgC sv_305 sv_306 (Mv 5) (lo_50 ++ lval (rB (Mf 1) (Mv 0)) (St0 (rB (Mf 1) (Mv 0)) x_293 vy_33)) := pf_318
                  obtain ⟨lo_320, elo_320⟩ : ∃ z : List Int, z = (lo_50 ++ lval (rB (Mf 1) (Mv 0)) (St0 (rB (Mf 1) (Mv 0)) x_293 vy_33)) := ⟨_, rfl⟩
                  rw [← elo_320] at pf_318
                  refine lv_aload_n hx hb dX12_term_94 rfl (lv_at hl 1 rfl) ?_
                  refine lv_iload_n hx hb dX12_term_95 rfl (lv_at hl 0 rfl) ?_
                  refine lv_iconst (v := 0) hx hb dX12_term_96 (by decide) ?_
                  have ha_321 : ((d + 1) : Int) ≤ sv_304.toInt := by
                    have z_1 : ¬ (r_13 : Int32).toInt = (0 : Int32).toInt := fun z => c_18 (Int32.toInt_inj.mp z)
                    have z_2 : ¬ (r_59 : Int32).toInt = (42 : Int32).toInt := fun z => c_62 (Int32.toInt_inj.mp z)
                    have z_3 := congrArg Int32.toInt c_286
                    have z_4 : ¬ (x_288 : Int32).toInt = (42 : Int32).toInt := fun z => c_289 (Int32.toInt_inj.mp z)
                    have z_5 : ¬ (x_291 : Int32).toInt = (47 : Int32).toInt := fun z => c_292 (Int32.toInt_inj.mp z)
                    have z_6 : ¬ (r_310 : Int32).toInt = (0 : Int32).toInt := fun z => c_315 (Int32.toInt_inj.mp z)
                    have y_0 : (0 : Int32).toInt = 0 := by decide
                    have y_42 : (42 : Int32).toInt = 42 := by decide
                    have y_47 : (47 : Int32).toInt = 47 := by decide
                    omega
                  have ha_322 : (sv_306 (Mv 5).toNatClampNeg).toInt < 400 := by
                    have z_1 : ¬ (r_13 : Int32).toInt = (0 : Int32).toInt := fun z => c_18 (Int32.toInt_inj.mp z)
                    have z_2 : ¬ (r_59 : Int32).toInt = (42 : Int32).toInt := fun z => c_62 (Int32.toInt_inj.mp z)
                    have z_3 := congrArg Int32.toInt c_286
                    have z_4 : ¬ (x_288 : Int32).toInt = (42 : Int32).toInt := fun z => c_289 (Int32.toInt_inj.mp z)
                    have z_5 : ¬ (x_291 : Int32).toInt = (47 : Int32).toInt := fun z => c_292 (Int32.toInt_inj.mp z)
                    have z_6 : ¬ (r_310 : Int32).toInt = (0 : Int32).toInt := fun z => c_315 (Int32.toInt_inj.mp z)
                    have y_0 : (0 : Int32).toInt = 0 := by decide
                    have y_42 : (42 : Int32).toInt = 42 := by decide
                    have y_47 : (47 : Int32).toInt = 47 := by decide
                    omega
                  have ha_323 : 0 ≤ (14 : Int32).toInt ∧ (14 : Int32).toInt ≤ 15 := by
                    have z_1 : ¬ (r_13 : Int32).toInt = (0 : Int32).toInt := fun z => c_18 (Int32.toInt_inj.mp z)
                    have z_2 : ¬ (r_59 : Int32).toInt = (42 : Int32).toInt := fun z => c_62 (Int32.toInt_inj.mp z)
                    have z_3 := congrArg Int32.toInt c_286
                    have z_4 : ¬ (x_288 : Int32).toInt = (42 : Int32).toInt := fun z => c_289 (Int32.toInt_inj.mp z)
                    have z_5 : ¬ (x_291 : Int32).toInt = (47 : Int32).toInt := fun z => c_292 (Int32.toInt_inj.mp z)
                    have z_6 : ¬ (r_310 : Int32).toInt = (0 : Int32).toInt := fun z => c_315 (Int32.toInt_inj.mp z)
                    have y_0 : (0 : Int32).toInt = 0 := by decide
                    have y_42 : (42 : Int32).toInt = 42 := by decide
                    have y_47 : (47 : Int32).toInt = 47 := by decide
                    have y_14 : (14 : Int32).toInt = 14 := by decide
                    omega
                  have ha_324 : 0 ≤ (0 : Int32).toInt ∧ (0 : Int32).toInt ≤ 100000 := by
                    have z_1 : ¬ (r_13 : Int32).toInt = (0 : Int32).toInt := fun z => c_18 (Int32.toInt_inj.mp z)
                    have z_2 : ¬ (r_59 : Int32).toInt = (42 : Int32).toInt := fun z => c_62 (Int32.toInt_inj.mp z)
                    have z_3 := congrArg Int32.toInt c_286
                    have z_4 : ¬ (x_288 : Int32).toInt = (42 : Int32).toInt := fun z => c_289 (Int32.toInt_inj.mp z)
                    have z_5 : ¬ (x_291 : Int32).toInt = (47 : Int32).toInt := fun z => c_292 (Int32.toInt_inj.mp z)
                    have z_6 : ¬ (r_310 : Int32).toInt = (0 : Int32).toInt := fun z => c_315 (Int32.toInt_inj.mp z)
                    have y_0 : (0 : Int32).toInt = 0 := by decide
                    have y_42 : (42 : Int32).toInt = 42 := by decide
                    have y_47 : (47 : Int32).toInt = 47 := by decide
                    omega
                  have ha_325 : 0 ≤ (Mv 5).toInt := by
                    have z_1 : ¬ (r_13 : Int32).toInt = (0 : Int32).toInt := fun z => c_18 (Int32.toInt_inj.mp z)
                    have z_2 : ¬ (r_59 : Int32).toInt = (42 : Int32).toInt := fun z => c_62 (Int32.toInt_inj.mp z)
                    have z_3 := congrArg Int32.toInt c_286
                    have z_4 : ¬ (x_288 : Int32).toInt = (42 : Int32).toInt := fun z => c_289 (Int32.toInt_inj.mp z)
                    have z_5 : ¬ (x_291 : Int32).toInt = (47 : Int32).toInt := fun z => c_292 (Int32.toInt_inj.mp z)
                    have z_6 : ¬ (r_310 : Int32).toInt = (0 : Int32).toInt := fun z => c_315 (Int32.toInt_inj.mp z)
                    have y_0 : (0 : Int32).toInt = 0 := by decide
                    have y_42 : (42 : Int32).toInt = 42 := by decide
                    have y_47 : (47 : Int32).toInt = 47 := by decide
                    omega
                  refine cV (a := (Ma 0)) (As := [.int 14, .int 0]) (rest := []) (wr := [((Ma 1), .inl (tc 2, 400, .inl (Mf 1)))]) ⟨hx, hb, hml, hown, hts⟩ hK hX hA (cu_kX12_puts l D tc sk (Ma 0) (Ma 1) (Ma 2) (Ma 3) (Ma 4) (Ma 5) (Ma 6) (Ma 7) (Ma 8) (Ma 9) (Ma 10) (Ma 11) (Ma 12) (Ma 13) (Ma 14) (Ma 15) (Ma 16) (Ma 17) (Ma 18) (Ma 19) (Ma 20) (Mv 0) (Mv 1) sv_301 sv_302 sv_303 (Mv 5) sv_304 (Mv 7) (Mv 8) (Mv 9) (Mv 10) (Mv 11) (Mv 12) (Mv 13) (Mv 14) sv_305 sv_306 (Mj 0) 14 0 b sv_304 ((d + 1) + 1) (d + 1) lo_320 (-16) pf_316 (StpR.op (by decide) rfl (by omega)) ha_321 ha_322 pf_318 (by decide) ha_323 ha_324 ha_325) k_1296 k_1293 k_1295 k_46 k_106 pl_X12_puts ⟨Nat.le_of_ble_eq_true rfl, Nat.le_of_ble_eq_true rfl⟩ rfl rfl (va_recv hK hP (ci := 12) (q0 := 0) rfl rfl) hP hD hS [0, 2, 3] [1] rfl rfl rfl rfl rfl (by decide) rfl hl.1 rfl (Nat.le_of_ble_eq_true rfl) dX12_term_97 ⟨Nat.le_of_ble_eq_true rfl, Nat.le_of_ble_eq_true rfl⟩ (fun v_326 u_327 H locs hv_328 hP₀ hD₀ hS₀ => ?_)
                  obtain ⟨sv_329, sv_330⟩ := u_327
                  obtain ⟨rfl, pf_331, pf_332, pf_333, pf_334⟩ := hv_328
                  have pf_331 : Cd sv_329 sv_330 (Mv 5) b sv_304 (d + 1) := pf_331
                  have ar_pf_331 := Cd.ar pf_331
                  have pf_332 : Agr sv_305 sv_329 (400 * ((Mv 5) : Int32).toInt + (sv_306 (Mv 5).toNatClampNeg).toInt) := pf_332
                  have pf_333 : (sv_330 (Mv 5).toNatClampNeg).toInt = (sv_306 (Mv 5).toNatClampNeg).toInt + 1 := pf_333
                  have pf_334 : SgC sv_329 sv_330 (Mv 5) (lo_320 ++ [((-16) : Int)]) := pf_334
                  obtain ⟨lo_335, elo_335⟩ : ∃ z : List Int, z = (lo_320 ++ [(-16)]) := ⟨_, rfl⟩
                  rw [← elo_335] at pf_334
                  refine W.eq (g2 := F0 m 100 ls []) rfl ?_
                  replace hP : va_P D classes [((Ma 1), .inl (tc 2, 400, .inl (Mf 1))), ((Ma 0), .inr (12, [.ref (Ma 1), .int (Mv 0), .int (Mv 1), .ref (Ma 2), .ref (Ma 3), .ref (Ma 4), .ref (Ma 5), .ref (Ma 6), .int sv_301, .int sv_302, .int sv_303, .int (Mv 5), .int sv_304, .int (Mv 7), .int (Mv 8), .ref (Ma 7), .int (Mv 9), .ref (Ma 8), .int (Mv 10), .ref (Ma 9), .ref (Ma 10), .int (Mv 11), .int (Mv 12), .int (Mv 13), .ref (Ma 11), .int (Mv 14), .ref (Ma 12), .ref (Ma 13), .ref (Ma 14), .ref (Ma 15), .ref (Ma 16), .long (Mj 0), .ref (Ma 17), .ref (Ma 18), .ref (Ma 19), .ref (Ma 20)])), ((Ma 2), .inl (tc 0, 2400, .inl sv_329)), ((Ma 3), .inl (tc 0, 7, .inl sv_330))] H := hP₀
                  replace hD : va_D A [((Ma 1), .inl (tc 2, 400, .inl (Mf 1))), ((Ma 0), .inr (12, [.ref (Ma 1), .int (Mv 0), .int (Mv 1), .ref (Ma 2), .ref (Ma 3), .ref (Ma 4), .ref (Ma 5), .ref (Ma 6), .int sv_301, .int sv_302, .int sv_303, .int (Mv 5), .int sv_304, .int (Mv 7), .int (Mv 8), .ref (Ma 7), .int (Mv 9), .ref (Ma 8), .int (Mv 10), .ref (Ma 9), .ref (Ma 10), .int (Mv 11), .int (Mv 12), .int (Mv 13), .ref (Ma 11), .int (Mv 14), .ref (Ma 12), .ref (Ma 13), .ref (Ma 14), .ref (Ma 15), .ref (Ma 16), .long (Mj 0), .ref (Ma 17), .ref (Ma 18), .ref (Ma 19), .ref (Ma 20)])), ((Ma 2), .inl (tc 0, 2400, .inl sv_329)), ((Ma 3), .inl (tc 0, 7, .inl sv_330))] := hD₀
                  replace hS := hS₀
                  clear hP₀ hD₀ hS₀
                  refine lv_goto (tgt := 9) hx hb dX12_term_100 (by decide) ?_
                  have hb_336 : 400 - (sv_301 : Int32).toInt < 400 - (vy_30 : Int32).toInt ∧ 1 ≤ 400 - (vy_30 : Int32).toInt := by
                    have z_1 : ¬ (r_13 : Int32).toInt = (0 : Int32).toInt := fun z => c_18 (Int32.toInt_inj.mp z)
                    have z_2 : ¬ (r_59 : Int32).toInt = (42 : Int32).toInt := fun z => c_62 (Int32.toInt_inj.mp z)
                    have z_3 := congrArg Int32.toInt c_286
                    have z_4 : ¬ (x_288 : Int32).toInt = (42 : Int32).toInt := fun z => c_289 (Int32.toInt_inj.mp z)
                    have z_5 : ¬ (x_291 : Int32).toInt = (47 : Int32).toInt := fun z => c_292 (Int32.toInt_inj.mp z)
                    have z_6 : ¬ (r_310 : Int32).toInt = (0 : Int32).toInt := fun z => c_315 (Int32.toInt_inj.mp z)
                    have y_0 : (0 : Int32).toInt = 0 := by decide
                    have y_42 : (42 : Int32).toInt = 42 := by decide
                    have y_47 : (47 : Int32).toInt = 47 := by decide
                    omega
                  have ha_337 : 0 ≤ (sv_301 : Int32).toInt ∧ (sv_301 : Int32).toInt ≤ ((Mv 0) : Int32).toInt ∧ ((Mv 0) : Int32).toInt ≤ 400 := by
                    have z_1 : ¬ (r_13 : Int32).toInt = (0 : Int32).toInt := fun z => c_18 (Int32.toInt_inj.mp z)
                    have z_2 : ¬ (r_59 : Int32).toInt = (42 : Int32).toInt := fun z => c_62 (Int32.toInt_inj.mp z)
                    have z_3 := congrArg Int32.toInt c_286
                    have z_4 : ¬ (x_288 : Int32).toInt = (42 : Int32).toInt := fun z => c_289 (Int32.toInt_inj.mp z)
                    have z_5 : ¬ (x_291 : Int32).toInt = (47 : Int32).toInt := fun z => c_292 (Int32.toInt_inj.mp z)
                    have z_6 : ¬ (r_310 : Int32).toInt = (0 : Int32).toInt := fun z => c_315 (Int32.toInt_inj.mp z)
                    have y_0 : (0 : Int32).toInt = 0 := by decide
                    have y_42 : (42 : Int32).toInt = 42 := by decide
                    have y_47 : (47 : Int32).toInt = 47 := by decide
                    omega
                  have ha_338 : (Mv 6).toInt ≤ (sv_304 : Int32).toInt ∧ (sv_304 : Int32).toInt ≤ 60 := by
                    have z_1 : ¬ (r_13 : Int32).toInt = (0 : Int32).toInt := fun z => c_18 (Int32.toInt_inj.mp z)
                    have z_2 : ¬ (r_59 : Int32).toInt = (42 : Int32).toInt := fun z => c_62 (Int32.toInt_inj.mp z)
                    have z_3 := congrArg Int32.toInt c_286
                    have z_4 : ¬ (x_288 : Int32).toInt = (42 : Int32).toInt := fun z => c_289 (Int32.toInt_inj.mp z)
                    have z_5 : ¬ (x_291 : Int32).toInt = (47 : Int32).toInt := fun z => c_292 (Int32.toInt_inj.mp z)
                    have z_6 : ¬ (r_310 : Int32).toInt = (0 : Int32).toInt := fun z => c_315 (Int32.toInt_inj.mp z)
                    have y_0 : (0 : Int32).toInt = 0 := by decide
                    have y_42 : (42 : Int32).toInt = 42 := by decide
                    have y_47 : (47 : Int32).toInt = 47 := by decide
                    omega
                  have ha_339 : ((Mf 3) (Mv 5).toNatClampNeg).toInt + 1 ≤ (sv_330 (Mv 5).toNatClampNeg).toInt ∧ (sv_330 (Mv 5).toNatClampNeg).toInt + ((Mv 2) : Int32).toInt ≤ ((Mf 3) (Mv 5).toNatClampNeg).toInt + (sv_301 : Int32).toInt ∧ ((Mv 2) : Int32).toInt + 1 ≤ (sv_301 : Int32).toInt := by
                    have z_1 : ¬ (r_13 : Int32).toInt = (0 : Int32).toInt := fun z => c_18 (Int32.toInt_inj.mp z)
                    have z_2 : ¬ (r_59 : Int32).toInt = (42 : Int32).toInt := fun z => c_62 (Int32.toInt_inj.mp z)
                    have z_3 := congrArg Int32.toInt c_286
                    have z_4 : ¬ (x_288 : Int32).toInt = (42 : Int32).toInt := fun z => c_289 (Int32.toInt_inj.mp z)
                    have z_5 : ¬ (x_291 : Int32).toInt = (47 : Int32).toInt := fun z => c_292 (Int32.toInt_inj.mp z)
                    have z_6 : ¬ (r_310 : Int32).toInt = (0 : Int32).toInt := fun z => c_315 (Int32.toInt_inj.mp z)
                    have y_0 : (0 : Int32).toInt = 0 := by decide
                    have y_42 : (42 : Int32).toInt = 42 := by decide
                    have y_47 : (47 : Int32).toInt = 47 := by decide
                    omega
                  have hr_340 : (400 * ((Mv 5) : Int32).toInt + ((Mf 3) (Mv 5).toNatClampNeg).toInt) ≤ (400 * ((Mv 5) : Int32).toInt + ((Mf 3) (Mv 5).toNatClampNeg).toInt) := by
                    have z_1 : ¬ (r_13 : Int32).toInt = (0 : Int32).toInt := fun z => c_18 (Int32.toInt_inj.mp z)
                    have z_2 : ¬ (r_59 : Int32).toInt = (42 : Int32).toInt := fun z => c_62 (Int32.toInt_inj.mp z)
                    have z_3 := congrArg Int32.toInt c_286
                    have z_4 : ¬ (x_288 : Int32).toInt = (42 : Int32).toInt := fun z => c_289 (Int32.toInt_inj.mp z)
                    have z_5 : ¬ (x_291 : Int32).toInt = (47 : Int32).toInt := fun z => c_292 (Int32.toInt_inj.mp z)
                    have z_6 : ¬ (r_310 : Int32).toInt = (0 : Int32).toInt := fun z => c_315 (Int32.toInt_inj.mp z)
                    have y_0 : (0 : Int32).toInt = 0 := by decide
                    have y_42 : (42 : Int32).toInt = 42 := by decide
                    have y_47 : (47 : Int32).toInt = 47 := by decide
                    omega
                  have hr_341 : (400 * ((Mv 5) : Int32).toInt + ((Mf 3) (Mv 5).toNatClampNeg).toInt) ≤ (400 * ((Mv 5) : Int32).toInt + (vy_35 (Mv 5).toNatClampNeg).toInt) := by
                    have z_1 : ¬ (r_13 : Int32).toInt = (0 : Int32).toInt := fun z => c_18 (Int32.toInt_inj.mp z)
                    have z_2 : ¬ (r_59 : Int32).toInt = (42 : Int32).toInt := fun z => c_62 (Int32.toInt_inj.mp z)
                    have z_3 := congrArg Int32.toInt c_286
                    have z_4 : ¬ (x_288 : Int32).toInt = (42 : Int32).toInt := fun z => c_289 (Int32.toInt_inj.mp z)
                    have z_5 : ¬ (x_291 : Int32).toInt = (47 : Int32).toInt := fun z => c_292 (Int32.toInt_inj.mp z)
                    have z_6 : ¬ (r_310 : Int32).toInt = (0 : Int32).toInt := fun z => c_315 (Int32.toInt_inj.mp z)
                    have y_0 : (0 : Int32).toInt = 0 := by decide
                    have y_42 : (42 : Int32).toInt = 42 := by decide
                    have y_47 : (47 : Int32).toInt = 47 := by decide
                    omega
                  have hr_342 : (400 * ((Mv 5) : Int32).toInt + ((Mf 3) (Mv 5).toNatClampNeg).toInt) ≤ (400 * ((Mv 5) : Int32).toInt + (sv_306 (Mv 5).toNatClampNeg).toInt) := by
                    have z_1 : ¬ (r_13 : Int32).toInt = (0 : Int32).toInt := fun z => c_18 (Int32.toInt_inj.mp z)
                    have z_2 : ¬ (r_59 : Int32).toInt = (42 : Int32).toInt := fun z => c_62 (Int32.toInt_inj.mp z)
                    have z_3 := congrArg Int32.toInt c_286
                    have z_4 : ¬ (x_288 : Int32).toInt = (42 : Int32).toInt := fun z => c_289 (Int32.toInt_inj.mp z)
                    have z_5 : ¬ (x_291 : Int32).toInt = (47 : Int32).toInt := fun z => c_292 (Int32.toInt_inj.mp z)
                    have z_6 : ¬ (r_310 : Int32).toInt = (0 : Int32).toInt := fun z => c_315 (Int32.toInt_inj.mp z)
                    have y_0 : (0 : Int32).toInt = 0 := by decide
                    have y_42 : (42 : Int32).toInt = 42 := by decide
                    have y_47 : (47 : Int32).toInt = 47 := by decide
                    omega
                  have hr_343 : (rB (Mf 1) (Mv 0) (sv_277 : Int32).toInt.toNat = 43 ∨ rB (Mf 1) (Mv 0) (sv_277 : Int32).toInt.toNat = 45 ∨ rB (Mf 1) (Mv 0) (sv_277 : Int32).toInt.toNat = 42 ∨ rB (Mf 1) (Mv 0) (sv_277 : Int32).toInt.toNat = 47 ∨ rB (Mf 1) (Mv 0) (sv_277 : Int32).toInt.toNat = 37) := by
                    have z_1 : ¬ (r_13 : Int32).toInt = (0 : Int32).toInt := fun z => c_18 (Int32.toInt_inj.mp z)
                    have z_2 : ¬ (r_59 : Int32).toInt = (42 : Int32).toInt := fun z => c_62 (Int32.toInt_inj.mp z)
                    have z_3 := congrArg Int32.toInt c_286
                    have z_4 : ¬ (x_288 : Int32).toInt = (42 : Int32).toInt := fun z => c_289 (Int32.toInt_inj.mp z)
                    have z_5 : ¬ (x_291 : Int32).toInt = (47 : Int32).toInt := fun z => c_292 (Int32.toInt_inj.mp z)
                    have z_6 : ¬ (r_310 : Int32).toInt = (0 : Int32).toInt := fun z => c_315 (Int32.toInt_inj.mp z)
                    have y_0 : (0 : Int32).toInt = 0 := by decide
                    have y_42 : (42 : Int32).toInt = 42 := by decide
                    have y_47 : (47 : Int32).toInt = 47 := by decide
                    omega
                  have hi_344 : (x_293 : Int32).toInt = (sv_277 : Int32).toInt + 1 := by
                    have z_1 : ¬ (r_13 : Int32).toInt = (0 : Int32).toInt := fun z => c_18 (Int32.toInt_inj.mp z)
                    have z_2 : ¬ (r_59 : Int32).toInt = (42 : Int32).toInt := fun z => c_62 (Int32.toInt_inj.mp z)
                    have z_3 := congrArg Int32.toInt c_286
                    have z_4 : ¬ (x_288 : Int32).toInt = (42 : Int32).toInt := fun z => c_289 (Int32.toInt_inj.mp z)
                    have z_5 : ¬ (x_291 : Int32).toInt = (47 : Int32).toInt := fun z => c_292 (Int32.toInt_inj.mp z)
                    have z_6 : ¬ (r_310 : Int32).toInt = (0 : Int32).toInt := fun z => c_315 (Int32.toInt_inj.mp z)
                    have y_0 : (0 : Int32).toInt = 0 := by decide
                    have y_42 : (42 : Int32).toInt = 42 := by decide
                    have y_47 : (47 : Int32).toInt = 47 := by decide
                    have y_1 : (1 : Int32).toInt = 1 := by decide
                    have t_x_293 : x_293.toInt = (sv_277 : Int32).toInt + (1 : Int32).toInt := by rw [ex_293]; exact add_toInt (by omega) (by omega)
                    omega
                  have hr_345 : (rB (Mf 1) (Mv 0) (sv_277 : Int32).toInt.toNat = 42 ∨ rB (Mf 1) (Mv 0) (sv_277 : Int32).toInt.toNat = 47 ∨ rB (Mf 1) (Mv 0) (sv_277 : Int32).toInt.toNat = 37) := by
                    have z_1 : ¬ (r_13 : Int32).toInt = (0 : Int32).toInt := fun z => c_18 (Int32.toInt_inj.mp z)
                    have z_2 : ¬ (r_59 : Int32).toInt = (42 : Int32).toInt := fun z => c_62 (Int32.toInt_inj.mp z)
                    have z_3 := congrArg Int32.toInt c_286
                    have z_4 : ¬ (x_288 : Int32).toInt = (42 : Int32).toInt := fun z => c_289 (Int32.toInt_inj.mp z)
                    have z_5 : ¬ (x_291 : Int32).toInt = (47 : Int32).toInt := fun z => c_292 (Int32.toInt_inj.mp z)
                    have z_6 : ¬ (r_310 : Int32).toInt = (0 : Int32).toInt := fun z => c_315 (Int32.toInt_inj.mp z)
                    have y_0 : (0 : Int32).toInt = 0 := by decide
                    have y_42 : (42 : Int32).toInt = 42 := by decide
                    have y_47 : (47 : Int32).toInt = 47 := by decide
                    omega
                  have rg_346 := rB_rg (n := (Mv 0)) h_bs (sv_277 : Int32).toInt.toNat
                  have hr_347 : rB (Mf 1) (Mv 0) (sv_277 : Int32).toInt.toNat = 37 := by
                    have z_1 : ¬ (r_13 : Int32).toInt = (0 : Int32).toInt := fun z => c_18 (Int32.toInt_inj.mp z)
                    have z_2 : ¬ (r_59 : Int32).toInt = (42 : Int32).toInt := fun z => c_62 (Int32.toInt_inj.mp z)
                    have z_3 := congrArg Int32.toInt c_286
                    have z_4 : ¬ (x_288 : Int32).toInt = (42 : Int32).toInt := fun z => c_289 (Int32.toInt_inj.mp z)
                    have z_5 : ¬ (x_291 : Int32).toInt = (47 : Int32).toInt := fun z => c_292 (Int32.toInt_inj.mp z)
                    have z_6 : ¬ (r_310 : Int32).toInt = (0 : Int32).toInt := fun z => c_315 (Int32.toInt_inj.mp z)
                    have y_0 : (0 : Int32).toInt = 0 := by decide
                    have y_42 : (42 : Int32).toInt = 42 := by decide
                    have y_47 : (47 : Int32).toInt = 47 := by decide
                    omega
                  have ho_348 : (-16 : Int) = ec_o (rB (Mf 1) (Mv 0) (sv_277 : Int32).toInt.toNat) := by rw [hr_347]; decide
                  have hi_349 : (x_293 : Int32).toInt = (sv_277 : Int32).toInt + 1 := by
                    have z_1 : ¬ (r_13 : Int32).toInt = (0 : Int32).toInt := fun z => c_18 (Int32.toInt_inj.mp z)
                    have z_2 : ¬ (r_59 : Int32).toInt = (42 : Int32).toInt := fun z => c_62 (Int32.toInt_inj.mp z)
                    have z_3 := congrArg Int32.toInt c_286
                    have z_4 : ¬ (x_288 : Int32).toInt = (42 : Int32).toInt := fun z => c_289 (Int32.toInt_inj.mp z)
                    have z_5 : ¬ (x_291 : Int32).toInt = (47 : Int32).toInt := fun z => c_292 (Int32.toInt_inj.mp z)
                    have z_6 : ¬ (r_310 : Int32).toInt = (0 : Int32).toInt := fun z => c_315 (Int32.toInt_inj.mp z)
                    have y_0 : (0 : Int32).toInt = 0 := by decide
                    have y_42 : (42 : Int32).toInt = 42 := by decide
                    have y_47 : (47 : Int32).toInt = 47 := by decide
                    have y_1 : (1 : Int32).toInt = 1 := by decide
                    have t_x_293 : x_293.toInt = (sv_277 : Int32).toInt + (1 : Int32).toInt := by rw [ex_293]; exact add_toInt (by omega) (by omega)
                    omega
                  have hu_350 : SgC sv_329 sv_330 (Mv 5) (((ll ++ xq_47) ++ lval (rB (Mf 1) (Mv 0)) (St0 (rB (Mf 1) (Mv 0)) x_293 vy_33)) ++ [(-16)]) := by
                    rw [← elo_50, ← elo_320, ← elo_335]
                    exact pf_334
                  exact ih_37 sv_301 sv_302 sv_303 sv_304 sv_329 sv_330 _ _ _ (by omega) ha_337 ha_338 ha_339 (Agr.trans (k' := (400 * ((Mv 5) : Int32).toInt + ((Mf 3) (Mv 5).toNatClampNeg).toInt)) (Agr.trans (k' := (400 * ((Mv 5) : Int32).toInt + ((Mf 3) (Mv 5).toNatClampNeg).toInt)) (Agr.mono pf_42 hr_340) pf_309 ⟨Int.le_refl _, hr_341⟩) pf_332 ⟨Int.le_refl _, hr_342⟩) pf_331 (TmL.next (rB_fi h_nx.2.2) pf_44 (SkR.trans pf_58 pf_281) hr_343 hi_344 pf_317) (TmC.next (rB_fi h_nx.2.2) pf_49 (SkR.trans pf_58 pf_281) hr_345 ho_348 hi_349 pf_317 hu_350) (hP.sub [1, 0, 2, 3] rfl) (hD.sub [1, 0, 2, 3] rfl rfl) hS (lv_sub hl [1] rfl)
                · skip
                  have hz_352 : (r_310 : Int32).toInt = 0 := by
                    have z_1 : ¬ (r_13 : Int32).toInt = (0 : Int32).toInt := fun z => c_18 (Int32.toInt_inj.mp z)
                    have z_2 : ¬ (r_59 : Int32).toInt = (42 : Int32).toInt := fun z => c_62 (Int32.toInt_inj.mp z)
                    have z_3 := congrArg Int32.toInt c_286
                    have z_4 : ¬ (x_288 : Int32).toInt = (42 : Int32).toInt := fun z => c_289 (Int32.toInt_inj.mp z)
                    have z_5 : ¬ (x_291 : Int32).toInt = (47 : Int32).toInt := fun z => c_292 (Int32.toInt_inj.mp z)
                    have z_6 := congrArg Int32.toInt c_315
                    have y_0 : (0 : Int32).toInt = 0 := by decide
                    have y_42 : (42 : Int32).toInt = 42 := by decide
                    have y_47 : (47 : Int32).toInt = 47 := by decide
                    omega
                  obtain pf_351 := hm_314 hz_352
                  have pf_351 : RfE (pz_val (rB (Mf 1) (Mv 0)) (St0 (rB (Mf 1) (Mv 0)) x_293 vy_33)) sv_302 := pf_351
                  refine lv_iconst (v := 0) hx hb dX12_term_92 (by decide) ?_
                  have ha_353 : ((Mv 2) : Int32).toInt ≤ (sv_301 : Int32).toInt ∧ (sv_301 : Int32).toInt ≤ ((Mv 0) : Int32).toInt := by
                    have z_1 : ¬ (r_13 : Int32).toInt = (0 : Int32).toInt := fun z => c_18 (Int32.toInt_inj.mp z)
                    have z_2 : ¬ (r_59 : Int32).toInt = (42 : Int32).toInt := fun z => c_62 (Int32.toInt_inj.mp z)
                    have z_3 := congrArg Int32.toInt c_286
                    have z_4 : ¬ (x_288 : Int32).toInt = (42 : Int32).toInt := fun z => c_289 (Int32.toInt_inj.mp z)
                    have z_5 : ¬ (x_291 : Int32).toInt = (47 : Int32).toInt := fun z => c_292 (Int32.toInt_inj.mp z)
                    have z_6 := congrArg Int32.toInt c_315
                    have y_0 : (0 : Int32).toInt = 0 := by decide
                    have y_42 : (42 : Int32).toInt = 42 := by decide
                    have y_47 : (47 : Int32).toInt = 47 := by decide
                    omega
                  have ha_354 : ((Mv 6) : Int32).toInt ≤ (sv_304 : Int32).toInt ∧ (sv_304 : Int32).toInt ≤ 60 := by
                    have z_1 : ¬ (r_13 : Int32).toInt = (0 : Int32).toInt := fun z => c_18 (Int32.toInt_inj.mp z)
                    have z_2 : ¬ (r_59 : Int32).toInt = (42 : Int32).toInt := fun z => c_62 (Int32.toInt_inj.mp z)
                    have z_3 := congrArg Int32.toInt c_286
                    have z_4 : ¬ (x_288 : Int32).toInt = (42 : Int32).toInt := fun z => c_289 (Int32.toInt_inj.mp z)
                    have z_5 : ¬ (x_291 : Int32).toInt = (47 : Int32).toInt := fun z => c_292 (Int32.toInt_inj.mp z)
                    have z_6 := congrArg Int32.toInt c_315
                    have y_0 : (0 : Int32).toInt = 0 := by decide
                    have y_42 : (42 : Int32).toInt = 42 := by decide
                    have y_47 : (47 : Int32).toInt = 47 := by decide
                    omega
                  have hr_355 : (400 * ((Mv 5) : Int32).toInt + ((Mf 3) (Mv 5).toNatClampNeg).toInt) ≤ (400 * ((Mv 5) : Int32).toInt + ((Mf 3) (Mv 5).toNatClampNeg).toInt) := by
                    have z_1 : ¬ (r_13 : Int32).toInt = (0 : Int32).toInt := fun z => c_18 (Int32.toInt_inj.mp z)
                    have z_2 : ¬ (r_59 : Int32).toInt = (42 : Int32).toInt := fun z => c_62 (Int32.toInt_inj.mp z)
                    have z_3 := congrArg Int32.toInt c_286
                    have z_4 : ¬ (x_288 : Int32).toInt = (42 : Int32).toInt := fun z => c_289 (Int32.toInt_inj.mp z)
                    have z_5 : ¬ (x_291 : Int32).toInt = (47 : Int32).toInt := fun z => c_292 (Int32.toInt_inj.mp z)
                    have z_6 := congrArg Int32.toInt c_315
                    have y_0 : (0 : Int32).toInt = 0 := by decide
                    have y_42 : (42 : Int32).toInt = 42 := by decide
                    have y_47 : (47 : Int32).toInt = 47 := by decide
                    omega
                  have hr_356 : (400 * ((Mv 5) : Int32).toInt + ((Mf 3) (Mv 5).toNatClampNeg).toInt) ≤ (400 * ((Mv 5) : Int32).toInt + (vy_35 (Mv 5).toNatClampNeg).toInt) := by
                    have z_1 : ¬ (r_13 : Int32).toInt = (0 : Int32).toInt := fun z => c_18 (Int32.toInt_inj.mp z)
                    have z_2 : ¬ (r_59 : Int32).toInt = (42 : Int32).toInt := fun z => c_62 (Int32.toInt_inj.mp z)
                    have z_3 := congrArg Int32.toInt c_286
                    have z_4 : ¬ (x_288 : Int32).toInt = (42 : Int32).toInt := fun z => c_289 (Int32.toInt_inj.mp z)
                    have z_5 : ¬ (x_291 : Int32).toInt = (47 : Int32).toInt := fun z => c_292 (Int32.toInt_inj.mp z)
                    have z_6 := congrArg Int32.toInt c_315
                    have y_0 : (0 : Int32).toInt = 0 := by decide
                    have y_42 : (42 : Int32).toInt = 42 := by decide
                    have y_47 : (47 : Int32).toInt = 47 := by decide
                    omega
                  have hp_357 : (((0 : Int32).toInt = 0 ∧ ¬ (sv_302 : Int32).toInt = 0) ∨ ((0 : Int32).toInt = 1 ∧ ((Mf 3) (Mv 5).toNatClampNeg).toInt + 1 ≤ (sv_306 (Mv 5).toNatClampNeg).toInt ∧ (sv_306 (Mv 5).toNatClampNeg).toInt + ((Mv 2) : Int32).toInt ≤ ((Mf 3) (Mv 5).toNatClampNeg).toInt + (sv_301 : Int32).toInt ∧ ((Mv 2) : Int32).toInt + 1 ≤ (sv_301 : Int32).toInt)) := by
                    have z_1 : ¬ (r_13 : Int32).toInt = (0 : Int32).toInt := fun z => c_18 (Int32.toInt_inj.mp z)
                    have z_2 : ¬ (r_59 : Int32).toInt = (42 : Int32).toInt := fun z => c_62 (Int32.toInt_inj.mp z)
                    have z_3 := congrArg Int32.toInt c_286
                    have z_4 : ¬ (x_288 : Int32).toInt = (42 : Int32).toInt := fun z => c_289 (Int32.toInt_inj.mp z)
                    have z_5 : ¬ (x_291 : Int32).toInt = (47 : Int32).toInt := fun z => c_292 (Int32.toInt_inj.mp z)
                    have z_6 := congrArg Int32.toInt c_315
                    have y_0 : (0 : Int32).toInt = 0 := by decide
                    have y_42 : (42 : Int32).toInt = 42 := by decide
                    have y_47 : (47 : Int32).toInt = 47 := by decide
                    omega
                  have hm_358 : (0 : Int32).toInt = 0 → (RfE (pz_sum (rB (Mf 1) (Mv 0)) (St0 (rB (Mf 1) (Mv 0)) (Mv 2) (Mv 6))) sv_302) := by
                    intro h1r
                    have hr_359 : (rB (Mf 1) (Mv 0) (sv_277 : Int32).toInt.toNat = 43 ∨ rB (Mf 1) (Mv 0) (sv_277 : Int32).toInt.toNat = 45 ∨ rB (Mf 1) (Mv 0) (sv_277 : Int32).toInt.toNat = 42 ∨ rB (Mf 1) (Mv 0) (sv_277 : Int32).toInt.toNat = 47 ∨ rB (Mf 1) (Mv 0) (sv_277 : Int32).toInt.toNat = 37) := by
                      have z_1 : ¬ (r_13 : Int32).toInt = (0 : Int32).toInt := fun z => c_18 (Int32.toInt_inj.mp z)
                      have z_2 : ¬ (r_59 : Int32).toInt = (42 : Int32).toInt := fun z => c_62 (Int32.toInt_inj.mp z)
                      have z_3 := congrArg Int32.toInt c_286
                      have z_4 : ¬ (x_288 : Int32).toInt = (42 : Int32).toInt := fun z => c_289 (Int32.toInt_inj.mp z)
                      have z_5 : ¬ (x_291 : Int32).toInt = (47 : Int32).toInt := fun z => c_292 (Int32.toInt_inj.mp z)
                      have z_6 := congrArg Int32.toInt c_315
                      have y_0 : (0 : Int32).toInt = 0 := by decide
                      have y_42 : (42 : Int32).toInt = 42 := by decide
                      have y_47 : (47 : Int32).toInt = 47 := by decide
                      omega
                    have hi_360 : (x_293 : Int32).toInt = (sv_277 : Int32).toInt + 1 := by
                      have z_1 : ¬ (r_13 : Int32).toInt = (0 : Int32).toInt := fun z => c_18 (Int32.toInt_inj.mp z)
                      have z_2 : ¬ (r_59 : Int32).toInt = (42 : Int32).toInt := fun z => c_62 (Int32.toInt_inj.mp z)
                      have z_3 := congrArg Int32.toInt c_286
                      have z_4 : ¬ (x_288 : Int32).toInt = (42 : Int32).toInt := fun z => c_289 (Int32.toInt_inj.mp z)
                      have z_5 : ¬ (x_291 : Int32).toInt = (47 : Int32).toInt := fun z => c_292 (Int32.toInt_inj.mp z)
                      have z_6 := congrArg Int32.toInt c_315
                      have y_0 : (0 : Int32).toInt = 0 := by decide
                      have y_42 : (42 : Int32).toInt = 42 := by decide
                      have y_47 : (47 : Int32).toInt = 47 := by decide
                      have y_1 : (1 : Int32).toInt = 1 := by decide
                      have t_x_293 : x_293.toInt = (sv_277 : Int32).toInt + (1 : Int32).toInt := by rw [ex_293]; exact add_toInt (by omega) (by omega)
                      omega
                    exact (TmL.er (rB_fi h_nx.2.2) pf_44 (SkR.trans pf_58 pf_281) hr_359 hi_360 pf_351)
                  exact retI (v := 0) hx hb hr hlk (rfl) hP hD hS (sv_301, sv_302, sv_303, sv_304, sv_305, sv_306) ⟨_, rfl, hp_357, ha_353, ha_354, (Agr.trans (k' := (400 * ((Mv 5) : Int32).toInt + ((Mf 3) (Mv 5).toNatClampNeg).toInt)) (Agr.mono pf_42 hr_355) pf_309 ⟨Int.le_refl _, hr_356⟩), (fun h => absurd h (by decide)), hm_358⟩ [0, 1, 2, 3] rfl rfl dX12_term_93 (Nat.le_of_ble_eq_true rfl) (Nat.le_of_ble_eq_true rfl) rfl
              · skip
                refine lv_iconst (v := 5) hx hb dX12_term_68 (by decide) ?_
                refine lv_goto (tgt := 74) hx hb dX12_term_69 (by decide) ?_
                refine lv_istore_n (lv' := [(1, .int 5), (0, .ref (Ma 0))]) hx hb dX12_term_74 rfl hl (by decide) rfl (fun ls hl₀ => ?_)
                replace hl := hl₀
                clear hl₀
                refine lv_aload_n hx hb dX12_term_75 rfl (lv_at hl 1 rfl) ?_
                refine lv_dup hx hb dX12_term_76 rfl ?_
                refine gf_X12_87 hx hb hts hown hK hP 2 rfl rfl dX12_term_77 ?_
                refine lv_iconst (v := 1) hx hb dX12_term_80 (by decide) ?_
                refine lv_iadd hx hb dX12_term_81 ?_
                refine lv_topi (fun x_361 ex_361 => ?_)
                refine pf_X12_87 hx hb hts hown hK hP hD hS 2 rfl (Nat.le_of_ble_eq_true rfl) rfl rfl dX12_term_82 (fun H locs hP₀ hD₀ hS₀ => ?_)
                replace hP : va_P D classes [((Ma 2), .inl (tc 0, 2400, .inl vy_34)), ((Ma 3), .inl (tc 0, 7, .inl vy_35)), ((Ma 0), .inr (12, [.ref (Ma 1), .int (Mv 0), .int (Mv 1), .ref (Ma 2), .ref (Ma 3), .ref (Ma 4), .ref (Ma 5), .ref (Ma 6), .int x_361, .int vy_31, .int vy_32, .int (Mv 5), .int vy_33, .int (Mv 7), .int (Mv 8), .ref (Ma 7), .int (Mv 9), .ref (Ma 8), .int (Mv 10), .ref (Ma 9), .ref (Ma 10), .int (Mv 11), .int (Mv 12), .int (Mv 13), .ref (Ma 11), .int (Mv 14), .ref (Ma 12), .ref (Ma 13), .ref (Ma 14), .ref (Ma 15), .ref (Ma 16), .long (Mj 0), .ref (Ma 17), .ref (Ma 18), .ref (Ma 19), .ref (Ma 20)])), ((Ma 1), .inl (tc 2, 400, .inl (Mf 1)))] H := hP₀
                replace hD : va_D A [((Ma 2), .inl (tc 0, 2400, .inl vy_34)), ((Ma 3), .inl (tc 0, 7, .inl vy_35)), ((Ma 0), .inr (12, [.ref (Ma 1), .int (Mv 0), .int (Mv 1), .ref (Ma 2), .ref (Ma 3), .ref (Ma 4), .ref (Ma 5), .ref (Ma 6), .int x_361, .int vy_31, .int vy_32, .int (Mv 5), .int vy_33, .int (Mv 7), .int (Mv 8), .ref (Ma 7), .int (Mv 9), .ref (Ma 8), .int (Mv 10), .ref (Ma 9), .ref (Ma 10), .int (Mv 11), .int (Mv 12), .int (Mv 13), .ref (Ma 11), .int (Mv 14), .ref (Ma 12), .ref (Ma 13), .ref (Ma 14), .ref (Ma 15), .ref (Ma 16), .long (Mj 0), .ref (Ma 17), .ref (Ma 18), .ref (Ma 19), .ref (Ma 20)])), ((Ma 1), .inl (tc 2, 400, .inl (Mf 1)))] := hD₀
                replace hS := hS₀
                clear hP₀ hD₀ hS₀
                have tp_x_361 : (x_361 : Int32).toInt = (sv_277 : Int32).toInt + 1 := by
                  have z_1 : ¬ (r_13 : Int32).toInt = (0 : Int32).toInt := fun z => c_18 (Int32.toInt_inj.mp z)
                  have z_2 : ¬ (r_59 : Int32).toInt = (42 : Int32).toInt := fun z => c_62 (Int32.toInt_inj.mp z)
                  have z_3 := congrArg Int32.toInt c_286
                  have z_4 : ¬ (x_288 : Int32).toInt = (42 : Int32).toInt := fun z => c_289 (Int32.toInt_inj.mp z)
                  have z_5 := congrArg Int32.toInt c_292
                  have y_0 : (0 : Int32).toInt = 0 := by decide
                  have y_42 : (42 : Int32).toInt = 42 := by decide
                  have y_47 : (47 : Int32).toInt = 47 := by decide
                  have y_1 : (1 : Int32).toInt = 1 := by decide
                  have t_x_361 : x_361.toInt = (sv_277 : Int32).toInt + (1 : Int32).toInt := by rw [ex_361]; exact add_toInt (by omega) (by omega)
                  omega
                refine lv_aload_n hx hb dX12_term_85 rfl (lv_at hl 1 rfl) ?_
                have ha_362 : 0 ≤ (x_361 : Int32).toInt ∧ (x_361 : Int32).toInt ≤ ((Mv 0) : Int32).toInt ∧ ((Mv 0) : Int32).toInt ≤ 400 := by
                  have z_1 : ¬ (r_13 : Int32).toInt = (0 : Int32).toInt := fun z => c_18 (Int32.toInt_inj.mp z)
                  have z_2 : ¬ (r_59 : Int32).toInt = (42 : Int32).toInt := fun z => c_62 (Int32.toInt_inj.mp z)
                  have z_3 := congrArg Int32.toInt c_286
                  have z_4 : ¬ (x_288 : Int32).toInt = (42 : Int32).toInt := fun z => c_289 (Int32.toInt_inj.mp z)
                  have z_5 := congrArg Int32.toInt c_292
                  have y_0 : (0 : Int32).toInt = 0 := by decide
                  have y_42 : (42 : Int32).toInt = 42 := by decide
                  have y_47 : (47 : Int32).toInt = 47 := by decide
                  have y_1 : (1 : Int32).toInt = 1 := by decide
                  have t_x_361 : x_361.toInt = (sv_277 : Int32).toInt + (1 : Int32).toInt := by rw [ex_361]; exact add_toInt (by omega) (by omega)
                  omega
                have ha_363 : (vy_35 (Mv 5).toNatClampNeg).toInt ≤ (x_361 : Int32).toInt := by
                  have z_1 : ¬ (r_13 : Int32).toInt = (0 : Int32).toInt := fun z => c_18 (Int32.toInt_inj.mp z)
                  have z_2 : ¬ (r_59 : Int32).toInt = (42 : Int32).toInt := fun z => c_62 (Int32.toInt_inj.mp z)
                  have z_3 := congrArg Int32.toInt c_286
                  have z_4 : ¬ (x_288 : Int32).toInt = (42 : Int32).toInt := fun z => c_289 (Int32.toInt_inj.mp z)
                  have z_5 := congrArg Int32.toInt c_292
                  have y_0 : (0 : Int32).toInt = 0 := by decide
                  have y_42 : (42 : Int32).toInt = 42 := by decide
                  have y_47 : (47 : Int32).toInt = 47 := by decide
                  have y_1 : (1 : Int32).toInt = 1 := by decide
                  have t_x_361 : x_361.toInt = (sv_277 : Int32).toInt + (1 : Int32).toInt := by rw [ex_361]; exact add_toInt (by omega) (by omega)
                  omega
                have ha_364 : 0 ≤ (vy_33 : Int32).toInt ∧ (vy_33 : Int32).toInt ≤ 60 := by
                  have z_1 : ¬ (r_13 : Int32).toInt = (0 : Int32).toInt := fun z => c_18 (Int32.toInt_inj.mp z)
                  have z_2 : ¬ (r_59 : Int32).toInt = (42 : Int32).toInt := fun z => c_62 (Int32.toInt_inj.mp z)
                  have z_3 := congrArg Int32.toInt c_286
                  have z_4 : ¬ (x_288 : Int32).toInt = (42 : Int32).toInt := fun z => c_289 (Int32.toInt_inj.mp z)
                  have z_5 := congrArg Int32.toInt c_292
                  have y_0 : (0 : Int32).toInt = 0 := by decide
                  have y_42 : (42 : Int32).toInt = 42 := by decide
                  have y_47 : (47 : Int32).toInt = 47 := by decide
                  omega
                have ha_365 : (vy_31 : Int32).toInt = 0 := by
                  have z_1 : ¬ (r_13 : Int32).toInt = (0 : Int32).toInt := fun z => c_18 (Int32.toInt_inj.mp z)
                  have z_2 : ¬ (r_59 : Int32).toInt = (42 : Int32).toInt := fun z => c_62 (Int32.toInt_inj.mp z)
                  have z_3 := congrArg Int32.toInt c_286
                  have z_4 : ¬ (x_288 : Int32).toInt = (42 : Int32).toInt := fun z => c_289 (Int32.toInt_inj.mp z)
                  have z_5 := congrArg Int32.toInt c_292
                  have y_0 : (0 : Int32).toInt = 0 := by decide
                  have y_42 : (42 : Int32).toInt = 42 := by decide
                  have y_47 : (47 : Int32).toInt = 47 := by decide
                  omega
                refine cV (a := (Ma 0)) (As := []) (rest := []) (wr := []) ⟨hx, hb, hml, hown, hts⟩ hK hX hA (cu_kX12_value l D tc sk (Ma 0) (Ma 1) (Ma 2) (Ma 3) (Ma 4) (Ma 5) (Ma 6) (Ma 7) (Ma 8) (Ma 9) (Ma 10) (Ma 11) (Ma 12) (Ma 13) (Ma 14) (Ma 15) (Ma 16) (Ma 17) (Ma 18) (Ma 19) (Ma 20) (Mv 0) (Mv 1) x_361 vy_31 vy_32 (Mv 5) vy_33 (Mv 7) (Mv 8) (Mv 9) (Mv 10) (Mv 11) (Mv 12) (Mv 13) (Mv 14) (Mf 1) vy_34 vy_35 (Mj 0) b (d + 1) lo_50 ha_362 pf_43 ha_363 ha_364 h_bs ha_365 pf_48) k_1287 k_1284 k_1286 k_44 k_106 pl_X12_value ⟨Nat.le_of_ble_eq_true rfl, Nat.le_of_ble_eq_true rfl⟩ rfl rfl (va_recv hK hP (ci := 12) (q0 := 2) rfl rfl) hP hD hS [2, 3, 0, 1] [] rfl rfl rfl rfl rfl (by decide) rfl hl.1 rfl (Nat.le_of_ble_eq_true rfl) dX12_term_86 ⟨Nat.le_of_ble_eq_true rfl, Nat.le_of_ble_eq_true rfl⟩ (fun v_366 u_367 H locs hv_368 hP₀ hD₀ hS₀ => ?_)
                obtain ⟨sv_369, sv_370, sv_371, sv_372, sv_373, sv_374⟩ := u_367
                obtain ⟨r_378, rfl, he_379, pf_375, pf_376, pf_377, hm_381, hm_382⟩ := hv_368
                have he_379 : ((r_378.toInt = 0 ∧ ¬ (sv_370 : Int32).toInt = 0) ∨ (r_378.toInt = 1 ∧ (vy_35 (Mv 5).toNatClampNeg).toInt + 1 ≤ (sv_374 (Mv 5).toNatClampNeg).toInt ∧ (sv_374 (Mv 5).toNatClampNeg).toInt + (x_361 : Int32).toInt ≤ (vy_35 (Mv 5).toNatClampNeg).toInt + (sv_369 : Int32).toInt ∧ (x_361 : Int32).toInt + 1 ≤ (sv_369 : Int32).toInt)) := he_379
                have pf_375 : (x_361 : Int32).toInt ≤ (sv_369 : Int32).toInt ∧ (sv_369 : Int32).toInt ≤ ((Mv 0) : Int32).toInt := pf_375
                have pf_376 : (vy_33 : Int32).toInt ≤ (sv_372 : Int32).toInt ∧ (sv_372 : Int32).toInt ≤ 60 := pf_376
                have pf_377 : Agr vy_34 sv_373 (400 * ((Mv 5) : Int32).toInt + (vy_35 (Mv 5).toNatClampNeg).toInt) := pf_377
                refine W.eq (g2 := F0 m 89 ls [.int r_378]) rfl ?_
                replace hP : va_P D classes [((Ma 0), .inr (12, [.ref (Ma 1), .int (Mv 0), .int (Mv 1), .ref (Ma 2), .ref (Ma 3), .ref (Ma 4), .ref (Ma 5), .ref (Ma 6), .int sv_369, .int sv_370, .int sv_371, .int (Mv 5), .int sv_372, .int (Mv 7), .int (Mv 8), .ref (Ma 7), .int (Mv 9), .ref (Ma 8), .int (Mv 10), .ref (Ma 9), .ref (Ma 10), .int (Mv 11), .int (Mv 12), .int (Mv 13), .ref (Ma 11), .int (Mv 14), .ref (Ma 12), .ref (Ma 13), .ref (Ma 14), .ref (Ma 15), .ref (Ma 16), .long (Mj 0), .ref (Ma 17), .ref (Ma 18), .ref (Ma 19), .ref (Ma 20)])), ((Ma 1), .inl (tc 2, 400, .inl (Mf 1))), ((Ma 2), .inl (tc 0, 2400, .inl sv_373)), ((Ma 3), .inl (tc 0, 7, .inl sv_374))] H := hP₀
                replace hD : va_D A [((Ma 0), .inr (12, [.ref (Ma 1), .int (Mv 0), .int (Mv 1), .ref (Ma 2), .ref (Ma 3), .ref (Ma 4), .ref (Ma 5), .ref (Ma 6), .int sv_369, .int sv_370, .int sv_371, .int (Mv 5), .int sv_372, .int (Mv 7), .int (Mv 8), .ref (Ma 7), .int (Mv 9), .ref (Ma 8), .int (Mv 10), .ref (Ma 9), .ref (Ma 10), .int (Mv 11), .int (Mv 12), .int (Mv 13), .ref (Ma 11), .int (Mv 14), .ref (Ma 12), .ref (Ma 13), .ref (Ma 14), .ref (Ma 15), .ref (Ma 16), .long (Mj 0), .ref (Ma 17), .ref (Ma 18), .ref (Ma 19), .ref (Ma 20)])), ((Ma 1), .inl (tc 2, 400, .inl (Mf 1))), ((Ma 2), .inl (tc 0, 2400, .inl sv_373)), ((Ma 3), .inl (tc 0, 7, .inl sv_374))] := hD₀
                replace hS := hS₀
                clear hP₀ hD₀ hS₀
                refine lv_if_ne (tgt := 94) hx hb dX12_term_89 (by decide) (fun c_383 => ?_) (fun c_383 => ?_)
                · skip
                  have hz_387 : (r_378 : Int32).toInt = 1 := by
                    have z_1 : ¬ (r_13 : Int32).toInt = (0 : Int32).toInt := fun z => c_18 (Int32.toInt_inj.mp z)
                    have z_2 : ¬ (r_59 : Int32).toInt = (42 : Int32).toInt := fun z => c_62 (Int32.toInt_inj.mp z)
                    have z_3 := congrArg Int32.toInt c_286
                    have z_4 : ¬ (x_288 : Int32).toInt = (42 : Int32).toInt := fun z => c_289 (Int32.toInt_inj.mp z)
                    have z_5 := congrArg Int32.toInt c_292
                    have z_6 : ¬ (r_378 : Int32).toInt = (0 : Int32).toInt := fun z => c_383 (Int32.toInt_inj.mp z)
                    have y_0 : (0 : Int32).toInt = 0 := by decide
                    have y_42 : (42 : Int32).toInt = 42 := by decide
                    have y_47 : (47 : Int32).toInt = 47 := by decide
                    omega
                  obtain ⟨pf_384, pf_385, pf_386⟩ := hm_381 hz_387
                  have pf_384 : Cd sv_373 sv_374 (Mv 5) b sv_372 ((d + 1) + 1) := pf_384
                  have ar_pf_384 := Cd.ar pf_384
                  have pf_385 : RfO (pz_val (rB (Mf 1) (Mv 0)) (St0 (rB (Mf 1) (Mv 0)) x_361 vy_33)) (rB (Mf 1) (Mv 0)) sv_370 sv_369 sv_372 := pf_385
                  have ar_pf_385 := RfO.wr pf_385
                  have pf_386 : SgC sv_373 sv_374 (Mv 5) (lo_50 ++ lval (rB (Mf 1) (Mv 0)) (St0 (rB (Mf 1) (Mv 0)) x_361 vy_33)) := pf_386
                  obtain ⟨lo_388, elo_388⟩ : ∃ z : List Int, z = (lo_50 ++ lval (rB (Mf 1) (Mv 0)) (St0 (rB (Mf 1) (Mv 0)) x_361 vy_33)) := ⟨_, rfl⟩
                  rw [← elo_388] at pf_386
                  refine lv_aload_n hx hb dX12_term_94 rfl (lv_at hl 1 rfl) ?_
                  refine lv_iload_n hx hb dX12_term_95 rfl (lv_at hl 0 rfl) ?_
                  refine lv_iconst (v := 0) hx hb dX12_term_96 (by decide) ?_
                  have ha_389 : ((d + 1) : Int) ≤ sv_372.toInt := by
                    have z_1 : ¬ (r_13 : Int32).toInt = (0 : Int32).toInt := fun z => c_18 (Int32.toInt_inj.mp z)
                    have z_2 : ¬ (r_59 : Int32).toInt = (42 : Int32).toInt := fun z => c_62 (Int32.toInt_inj.mp z)
                    have z_3 := congrArg Int32.toInt c_286
                    have z_4 : ¬ (x_288 : Int32).toInt = (42 : Int32).toInt := fun z => c_289 (Int32.toInt_inj.mp z)
                    have z_5 := congrArg Int32.toInt c_292
                    have z_6 : ¬ (r_378 : Int32).toInt = (0 : Int32).toInt := fun z => c_383 (Int32.toInt_inj.mp z)
                    have y_0 : (0 : Int32).toInt = 0 := by decide
                    have y_42 : (42 : Int32).toInt = 42 := by decide
                    have y_47 : (47 : Int32).toInt = 47 := by decide
                    omega
                  have ha_390 : (sv_374 (Mv 5).toNatClampNeg).toInt < 400 := by
                    have z_1 : ¬ (r_13 : Int32).toInt = (0 : Int32).toInt := fun z => c_18 (Int32.toInt_inj.mp z)
                    have z_2 : ¬ (r_59 : Int32).toInt = (42 : Int32).toInt := fun z => c_62 (Int32.toInt_inj.mp z)
                    have z_3 := congrArg Int32.toInt c_286
                    have z_4 : ¬ (x_288 : Int32).toInt = (42 : Int32).toInt := fun z => c_289 (Int32.toInt_inj.mp z)
                    have z_5 := congrArg Int32.toInt c_292
                    have z_6 : ¬ (r_378 : Int32).toInt = (0 : Int32).toInt := fun z => c_383 (Int32.toInt_inj.mp z)
                    have y_0 : (0 : Int32).toInt = 0 := by decide
                    have y_42 : (42 : Int32).toInt = 42 := by decide
                    have y_47 : (47 : Int32).toInt = 47 := by decide
                    omega
                  have ha_391 : 0 ≤ (5 : Int32).toInt ∧ (5 : Int32).toInt ≤ 15 := by
                    have z_1 : ¬ (r_13 : Int32).toInt = (0 : Int32).toInt := fun z => c_18 (Int32.toInt_inj.mp z)
                    have z_2 : ¬ (r_59 : Int32).toInt = (42 : Int32).toInt := fun z => c_62 (Int32.toInt_inj.mp z)
                    have z_3 := congrArg Int32.toInt c_286
                    have z_4 : ¬ (x_288 : Int32).toInt = (42 : Int32).toInt := fun z => c_289 (Int32.toInt_inj.mp z)
                    have z_5 := congrArg Int32.toInt c_292
                    have z_6 : ¬ (r_378 : Int32).toInt = (0 : Int32).toInt := fun z => c_383 (Int32.toInt_inj.mp z)
                    have y_0 : (0 : Int32).toInt = 0 := by decide
                    have y_42 : (42 : Int32).toInt = 42 := by decide
                    have y_47 : (47 : Int32).toInt = 47 := by decide
                    have y_5 : (5 : Int32).toInt = 5 := by decide
                    omega
                  have ha_392 : 0 ≤ (0 : Int32).toInt ∧ (0 : Int32).toInt ≤ 100000 := by
                    have z_1 : ¬ (r_13 : Int32).toInt = (0 : Int32).toInt := fun z => c_18 (Int32.toInt_inj.mp z)
                    have z_2 : ¬ (r_59 : Int32).toInt = (42 : Int32).toInt := fun z => c_62 (Int32.toInt_inj.mp z)
                    have z_3 := congrArg Int32.toInt c_286
                    have z_4 : ¬ (x_288 : Int32).toInt = (42 : Int32).toInt := fun z => c_289 (Int32.toInt_inj.mp z)
                    have z_5 := congrArg Int32.toInt c_292
                    have z_6 : ¬ (r_378 : Int32).toInt = (0 : Int32).toInt := fun z => c_383 (Int32.toInt_inj.mp z)
                    have y_0 : (0 : Int32).toInt = 0 := by decide
                    have y_42 : (42 : Int32).toInt = 42 := by decide
                    have y_47 : (47 : Int32).toInt = 47 := by decide
                    omega
                  have ha_393 : 0 ≤ (Mv 5).toInt := by
                    have z_1 : ¬ (r_13 : Int32).toInt = (0 : Int32).toInt := fun z => c_18 (Int32.toInt_inj.mp z)
                    have z_2 : ¬ (r_59 : Int32).toInt = (42 : Int32).toInt := fun z => c_62 (Int32.toInt_inj.mp z)
                    have z_3 := congrArg Int32.toInt c_286
                    have z_4 : ¬ (x_288 : Int32).toInt = (42 : Int32).toInt := fun z => c_289 (Int32.toInt_inj.mp z)
                    have z_5 := congrArg Int32.toInt c_292
                    have z_6 : ¬ (r_378 : Int32).toInt = (0 : Int32).toInt := fun z => c_383 (Int32.toInt_inj.mp z)
                    have y_0 : (0 : Int32).toInt = 0 := by decide
                    have y_42 : (42 : Int32).toInt = 42 := by decide
                    have y_47 : (47 : Int32).toInt = 47 := by decide
                    omega
                  refine cV (a := (Ma 0)) (As := [.int 5, .int 0]) (rest := []) (wr := [((Ma 1), .inl (tc 2, 400, .inl (Mf 1)))]) ⟨hx, hb, hml, hown, hts⟩ hK hX hA (cu_kX12_puts l D tc sk (Ma 0) (Ma 1) (Ma 2) (Ma 3) (Ma 4) (Ma 5) (Ma 6) (Ma 7) (Ma 8) (Ma 9) (Ma 10) (Ma 11) (Ma 12) (Ma 13) (Ma 14) (Ma 15) (Ma 16) (Ma 17) (Ma 18) (Ma 19) (Ma 20) (Mv 0) (Mv 1) sv_369 sv_370 sv_371 (Mv 5) sv_372 (Mv 7) (Mv 8) (Mv 9) (Mv 10) (Mv 11) (Mv 12) (Mv 13) (Mv 14) sv_373 sv_374 (Mj 0) 5 0 b sv_372 ((d + 1) + 1) (d + 1) lo_388 (-15) pf_384 (StpR.op (by decide) rfl (by omega)) ha_389 ha_390 pf_386 (by decide) ha_391 ha_392 ha_393) k_1296 k_1293 k_1295 k_46 k_106 pl_X12_puts ⟨Nat.le_of_ble_eq_true rfl, Nat.le_of_ble_eq_true rfl⟩ rfl rfl (va_recv hK hP (ci := 12) (q0 := 0) rfl rfl) hP hD hS [0, 2, 3] [1] rfl rfl rfl rfl rfl (by decide) rfl hl.1 rfl (Nat.le_of_ble_eq_true rfl) dX12_term_97 ⟨Nat.le_of_ble_eq_true rfl, Nat.le_of_ble_eq_true rfl⟩ (fun v_394 u_395 H locs hv_396 hP₀ hD₀ hS₀ => ?_)
                  obtain ⟨sv_397, sv_398⟩ := u_395
                  obtain ⟨rfl, pf_399, pf_400, pf_401, pf_402⟩ := hv_396
                  have pf_399 : Cd sv_397 sv_398 (Mv 5) b sv_372 (d + 1) := pf_399
                  have ar_pf_399 := Cd.ar pf_399
                  have pf_400 : Agr sv_373 sv_397 (400 * ((Mv 5) : Int32).toInt + (sv_374 (Mv 5).toNatClampNeg).toInt) := pf_400
                  have pf_401 : (sv_398 (Mv 5).toNatClampNeg).toInt = (sv_374 (Mv 5).toNatClampNeg).toInt + 1 := pf_401
                  have pf_402 : SgC sv_397 sv_398 (Mv 5) (lo_388 ++ [((-15) : Int)]) := pf_402
                  obtain ⟨lo_403, elo_403⟩ : ∃ z : List Int, z = (lo_388 ++ [(-15)]) := ⟨_, rfl⟩
                  rw [← elo_403] at pf_402
                  refine W.eq (g2 := F0 m 100 ls []) rfl ?_
                  replace hP : va_P D classes [((Ma 1), .inl (tc 2, 400, .inl (Mf 1))), ((Ma 0), .inr (12, [.ref (Ma 1), .int (Mv 0), .int (Mv 1), .ref (Ma 2), .ref (Ma 3), .ref (Ma 4), .ref (Ma 5), .ref (Ma 6), .int sv_369, .int sv_370, .int sv_371, .int (Mv 5), .int sv_372, .int (Mv 7), .int (Mv 8), .ref (Ma 7), .int (Mv 9), .ref (Ma 8), .int (Mv 10), .ref (Ma 9), .ref (Ma 10), .int (Mv 11), .int (Mv 12), .int (Mv 13), .ref (Ma 11), .int (Mv 14), .ref (Ma 12), .ref (Ma 13), .ref (Ma 14), .ref (Ma 15), .ref (Ma 16), .long (Mj 0), .ref (Ma 17), .ref (Ma 18), .ref (Ma 19), .ref (Ma 20)])), ((Ma 2), .inl (tc 0, 2400, .inl sv_397)), ((Ma 3), .inl (tc 0, 7, .inl sv_398))] H := hP₀
                  replace hD : va_D A [((Ma 1), .inl (tc 2, 400, .inl (Mf 1))), ((Ma 0), .inr (12, [.ref (Ma 1), .int (Mv 0), .int (Mv 1), .ref (Ma 2), .ref (Ma 3), .ref (Ma 4), .ref (Ma 5), .ref (Ma 6), .int sv_369, .int sv_370, .int sv_371, .int (Mv 5), .int sv_372, .int (Mv 7), .int (Mv 8), .ref (Ma 7), .int (Mv 9), .ref (Ma 8), .int (Mv 10), .ref (Ma 9), .ref (Ma 10), .int (Mv 11), .int (Mv 12), .int (Mv 13), .ref (Ma 11), .int (Mv 14), .ref (Ma 12), .ref (Ma 13), .ref (Ma 14), .ref (Ma 15), .ref (Ma 16), .long (Mj 0), .ref (Ma 17), .ref (Ma 18), .ref (Ma 19), .ref (Ma 20)])), ((Ma 2), .inl (tc 0, 2400, .inl sv_397)), ((Ma 3), .inl (tc 0, 7, .inl sv_398))] := hD₀
                  replace hS := hS₀
                  clear hP₀ hD₀ hS₀
                  refine lv_goto (tgt := 9) hx hb dX12_term_100 (by decide) ?_
                  have hb_404 : 400 - (sv_369 : Int32).toInt < 400 - (vy_30 : Int32).toInt ∧ 1 ≤ 400 - (vy_30 : Int32).toInt := by
                    have z_1 : ¬ (r_13 : Int32).toInt = (0 : Int32).toInt := fun z => c_18 (Int32.toInt_inj.mp z)
                    have z_2 : ¬ (r_59 : Int32).toInt = (42 : Int32).toInt := fun z => c_62 (Int32.toInt_inj.mp z)
                    have z_3 := congrArg Int32.toInt c_286
                    have z_4 : ¬ (x_288 : Int32).toInt = (42 : Int32).toInt := fun z => c_289 (Int32.toInt_inj.mp z)
                    have z_5 := congrArg Int32.toInt c_292
                    have z_6 : ¬ (r_378 : Int32).toInt = (0 : Int32).toInt := fun z => c_383 (Int32.toInt_inj.mp z)
                    have y_0 : (0 : Int32).toInt = 0 := by decide
                    have y_42 : (42 : Int32).toInt = 42 := by decide
                    have y_47 : (47 : Int32).toInt = 47 := by decide
                    omega
                  have ha_405 : 0 ≤ (sv_369 : Int32).toInt ∧ (sv_369 : Int32).toInt ≤ ((Mv 0) : Int32).toInt ∧ ((Mv 0) : Int32).toInt ≤ 400 := by
                    have z_1 : ¬ (r_13 : Int32).toInt = (0 : Int32).toInt := fun z => c_18 (Int32.toInt_inj.mp z)
                    have z_2 : ¬ (r_59 : Int32).toInt = (42 : Int32).toInt := fun z => c_62 (Int32.toInt_inj.mp z)
                    have z_3 := congrArg Int32.toInt c_286
                    have z_4 : ¬ (x_288 : Int32).toInt = (42 : Int32).toInt := fun z => c_289 (Int32.toInt_inj.mp z)
                    have z_5 := congrArg Int32.toInt c_292
                    have z_6 : ¬ (r_378 : Int32).toInt = (0 : Int32).toInt := fun z => c_383 (Int32.toInt_inj.mp z)
                    have y_0 : (0 : Int32).toInt = 0 := by decide
                    have y_42 : (42 : Int32).toInt = 42 := by decide
                    have y_47 : (47 : Int32).toInt = 47 := by decide
                    omega
                  have ha_406 : (Mv 6).toInt ≤ (sv_372 : Int32).toInt ∧ (sv_372 : Int32).toInt ≤ 60 := by
                    have z_1 : ¬ (r_13 : Int32).toInt = (0 : Int32).toInt := fun z => c_18 (Int32.toInt_inj.mp z)
                    have z_2 : ¬ (r_59 : Int32).toInt = (42 : Int32).toInt := fun z => c_62 (Int32.toInt_inj.mp z)
                    have z_3 := congrArg Int32.toInt c_286
                    have z_4 : ¬ (x_288 : Int32).toInt = (42 : Int32).toInt := fun z => c_289 (Int32.toInt_inj.mp z)
                    have z_5 := congrArg Int32.toInt c_292
                    have z_6 : ¬ (r_378 : Int32).toInt = (0 : Int32).toInt := fun z => c_383 (Int32.toInt_inj.mp z)
                    have y_0 : (0 : Int32).toInt = 0 := by decide
                    have y_42 : (42 : Int32).toInt = 42 := by decide
                    have y_47 : (47 : Int32).toInt = 47 := by decide
                    omega
                  have ha_407 : ((Mf 3) (Mv 5).toNatClampNeg).toInt + 1 ≤ (sv_398 (Mv 5).toNatClampNeg).toInt ∧ (sv_398 (Mv 5).toNatClampNeg).toInt + ((Mv 2) : Int32).toInt ≤ ((Mf 3) (Mv 5).toNatClampNeg).toInt + (sv_369 : Int32).toInt ∧ ((Mv 2) : Int32).toInt + 1 ≤ (sv_369 : Int32).toInt := by
                    have z_1 : ¬ (r_13 : Int32).toInt = (0 : Int32).toInt := fun z => c_18 (Int32.toInt_inj.mp z)
                    have z_2 : ¬ (r_59 : Int32).toInt = (42 : Int32).toInt := fun z => c_62 (Int32.toInt_inj.mp z)
                    have z_3 := congrArg Int32.toInt c_286
                    have z_4 : ¬ (x_288 : Int32).toInt = (42 : Int32).toInt := fun z => c_289 (Int32.toInt_inj.mp z)
                    have z_5 := congrArg Int32.toInt c_292
                    have z_6 : ¬ (r_378 : Int32).toInt = (0 : Int32).toInt := fun z => c_383 (Int32.toInt_inj.mp z)
                    have y_0 : (0 : Int32).toInt = 0 := by decide
                    have y_42 : (42 : Int32).toInt = 42 := by decide
                    have y_47 : (47 : Int32).toInt = 47 := by decide
                    omega
                  have hr_408 : (400 * ((Mv 5) : Int32).toInt + ((Mf 3) (Mv 5).toNatClampNeg).toInt) ≤ (400 * ((Mv 5) : Int32).toInt + ((Mf 3) (Mv 5).toNatClampNeg).toInt) := by
                    have z_1 : ¬ (r_13 : Int32).toInt = (0 : Int32).toInt := fun z => c_18 (Int32.toInt_inj.mp z)
                    have z_2 : ¬ (r_59 : Int32).toInt = (42 : Int32).toInt := fun z => c_62 (Int32.toInt_inj.mp z)
                    have z_3 := congrArg Int32.toInt c_286
                    have z_4 : ¬ (x_288 : Int32).toInt = (42 : Int32).toInt := fun z => c_289 (Int32.toInt_inj.mp z)
                    have z_5 := congrArg Int32.toInt c_292
                    have z_6 : ¬ (r_378 : Int32).toInt = (0 : Int32).toInt := fun z => c_383 (Int32.toInt_inj.mp z)
                    have y_0 : (0 : Int32).toInt = 0 := by decide
                    have y_42 : (42 : Int32).toInt = 42 := by decide
                    have y_47 : (47 : Int32).toInt = 47 := by decide
                    omega
                  have hr_409 : (400 * ((Mv 5) : Int32).toInt + ((Mf 3) (Mv 5).toNatClampNeg).toInt) ≤ (400 * ((Mv 5) : Int32).toInt + (vy_35 (Mv 5).toNatClampNeg).toInt) := by
                    have z_1 : ¬ (r_13 : Int32).toInt = (0 : Int32).toInt := fun z => c_18 (Int32.toInt_inj.mp z)
                    have z_2 : ¬ (r_59 : Int32).toInt = (42 : Int32).toInt := fun z => c_62 (Int32.toInt_inj.mp z)
                    have z_3 := congrArg Int32.toInt c_286
                    have z_4 : ¬ (x_288 : Int32).toInt = (42 : Int32).toInt := fun z => c_289 (Int32.toInt_inj.mp z)
                    have z_5 := congrArg Int32.toInt c_292
                    have z_6 : ¬ (r_378 : Int32).toInt = (0 : Int32).toInt := fun z => c_383 (Int32.toInt_inj.mp z)
                    have y_0 : (0 : Int32).toInt = 0 := by decide
                    have y_42 : (42 : Int32).toInt = 42 := by decide
                    have y_47 : (47 : Int32).toInt = 47 := by decide
                    omega
                  have hr_410 : (400 * ((Mv 5) : Int32).toInt + ((Mf 3) (Mv 5).toNatClampNeg).toInt) ≤ (400 * ((Mv 5) : Int32).toInt + (sv_374 (Mv 5).toNatClampNeg).toInt) := by
                    have z_1 : ¬ (r_13 : Int32).toInt = (0 : Int32).toInt := fun z => c_18 (Int32.toInt_inj.mp z)
                    have z_2 : ¬ (r_59 : Int32).toInt = (42 : Int32).toInt := fun z => c_62 (Int32.toInt_inj.mp z)
                    have z_3 := congrArg Int32.toInt c_286
                    have z_4 : ¬ (x_288 : Int32).toInt = (42 : Int32).toInt := fun z => c_289 (Int32.toInt_inj.mp z)
                    have z_5 := congrArg Int32.toInt c_292
                    have z_6 : ¬ (r_378 : Int32).toInt = (0 : Int32).toInt := fun z => c_383 (Int32.toInt_inj.mp z)
                    have y_0 : (0 : Int32).toInt = 0 := by decide
                    have y_42 : (42 : Int32).toInt = 42 := by decide
                    have y_47 : (47 : Int32).toInt = 47 := by decide
                    omega
                  have hr_411 : (rB (Mf 1) (Mv 0) (sv_277 : Int32).toInt.toNat = 43 ∨ rB (Mf 1) (Mv 0) (sv_277 : Int32).toInt.toNat = 45 ∨ rB (Mf 1) (Mv 0) (sv_277 : Int32).toInt.toNat = 42 ∨ rB (Mf 1) (Mv 0) (sv_277 : Int32).toInt.toNat = 47 ∨ rB (Mf 1) (Mv 0) (sv_277 : Int32).toInt.toNat = 37) := by
                    have z_1 : ¬ (r_13 : Int32).toInt = (0 : Int32).toInt := fun z => c_18 (Int32.toInt_inj.mp z)
                    have z_2 : ¬ (r_59 : Int32).toInt = (42 : Int32).toInt := fun z => c_62 (Int32.toInt_inj.mp z)
                    have z_3 := congrArg Int32.toInt c_286
                    have z_4 : ¬ (x_288 : Int32).toInt = (42 : Int32).toInt := fun z => c_289 (Int32.toInt_inj.mp z)
                    have z_5 := congrArg Int32.toInt c_292
                    have z_6 : ¬ (r_378 : Int32).toInt = (0 : Int32).toInt := fun z => c_383 (Int32.toInt_inj.mp z)
                    have y_0 : (0 : Int32).toInt = 0 := by decide
                    have y_42 : (42 : Int32).toInt = 42 := by decide
                    have y_47 : (47 : Int32).toInt = 47 := by decide
                    omega
                  have hi_412 : (x_361 : Int32).toInt = (sv_277 : Int32).toInt + 1 := by
                    have z_1 : ¬ (r_13 : Int32).toInt = (0 : Int32).toInt := fun z => c_18 (Int32.toInt_inj.mp z)
                    have z_2 : ¬ (r_59 : Int32).toInt = (42 : Int32).toInt := fun z => c_62 (Int32.toInt_inj.mp z)
                    have z_3 := congrArg Int32.toInt c_286
                    have z_4 : ¬ (x_288 : Int32).toInt = (42 : Int32).toInt := fun z => c_289 (Int32.toInt_inj.mp z)
                    have z_5 := congrArg Int32.toInt c_292
                    have z_6 : ¬ (r_378 : Int32).toInt = (0 : Int32).toInt := fun z => c_383 (Int32.toInt_inj.mp z)
                    have y_0 : (0 : Int32).toInt = 0 := by decide
                    have y_42 : (42 : Int32).toInt = 42 := by decide
                    have y_47 : (47 : Int32).toInt = 47 := by decide
                    have y_1 : (1 : Int32).toInt = 1 := by decide
                    have t_x_361 : x_361.toInt = (sv_277 : Int32).toInt + (1 : Int32).toInt := by rw [ex_361]; exact add_toInt (by omega) (by omega)
                    omega
                  have hr_413 : (rB (Mf 1) (Mv 0) (sv_277 : Int32).toInt.toNat = 42 ∨ rB (Mf 1) (Mv 0) (sv_277 : Int32).toInt.toNat = 47 ∨ rB (Mf 1) (Mv 0) (sv_277 : Int32).toInt.toNat = 37) := by
                    have z_1 : ¬ (r_13 : Int32).toInt = (0 : Int32).toInt := fun z => c_18 (Int32.toInt_inj.mp z)
                    have z_2 : ¬ (r_59 : Int32).toInt = (42 : Int32).toInt := fun z => c_62 (Int32.toInt_inj.mp z)
                    have z_3 := congrArg Int32.toInt c_286
                    have z_4 : ¬ (x_288 : Int32).toInt = (42 : Int32).toInt := fun z => c_289 (Int32.toInt_inj.mp z)
                    have z_5 := congrArg Int32.toInt c_292
                    have z_6 : ¬ (r_378 : Int32).toInt = (0 : Int32).toInt := fun z => c_383 (Int32.toInt_inj.mp z)
                    have y_0 : (0 : Int32).toInt = 0 := by decide
                    have y_42 : (42 : Int32).toInt = 42 := by decide
                    have y_47 : (47 : Int32).toInt = 47 := by decide
                    omega
                  have rg_414 := rB_rg (n := (Mv 0)) h_bs (sv_277 : Int32).toInt.toNat
                  have hr_415 : rB (Mf 1) (Mv 0) (sv_277 : Int32).toInt.toNat = 47 := by
                    have z_1 : ¬ (r_13 : Int32).toInt = (0 : Int32).toInt := fun z => c_18 (Int32.toInt_inj.mp z)
                    have z_2 : ¬ (r_59 : Int32).toInt = (42 : Int32).toInt := fun z => c_62 (Int32.toInt_inj.mp z)
                    have z_3 := congrArg Int32.toInt c_286
                    have z_4 : ¬ (x_288 : Int32).toInt = (42 : Int32).toInt := fun z => c_289 (Int32.toInt_inj.mp z)
                    have z_5 := congrArg Int32.toInt c_292
                    have z_6 : ¬ (r_378 : Int32).toInt = (0 : Int32).toInt := fun z => c_383 (Int32.toInt_inj.mp z)
                    have y_0 : (0 : Int32).toInt = 0 := by decide
                    have y_42 : (42 : Int32).toInt = 42 := by decide
                    have y_47 : (47 : Int32).toInt = 47 := by decide
                    omega
                  have ho_416 : (-15 : Int) = ec_o (rB (Mf 1) (Mv 0) (sv_277 : Int32).toInt.toNat) := by rw [hr_415]; decide
                  have hi_417 : (x_361 : Int32).toInt = (sv_277 : Int32).toInt + 1 := by
                    have z_1 : ¬ (r_13 : Int32).toInt = (0 : Int32).toInt := fun z => c_18 (Int32.toInt_inj.mp z)
                    have z_2 : ¬ (r_59 : Int32).toInt = (42 : Int32).toInt := fun z => c_62 (Int32.toInt_inj.mp z)
                    have z_3 := congrArg Int32.toInt c_286
                    have z_4 : ¬ (x_288 : Int32).toInt = (42 : Int32).toInt := fun z => c_289 (Int32.toInt_inj.mp z)
                    have z_5 := congrArg Int32.toInt c_292
                    have z_6 : ¬ (r_378 : Int32).toInt = (0 : Int32).toInt := fun z => c_383 (Int32.toInt_inj.mp z)
                    have y_0 : (0 : Int32).toInt = 0 := by decide
                    have y_42 : (42 : Int32).toInt = 42 := by decide
                    have y_47 : (47 : Int32).toInt = 47 := by decide
                    have y_1 : (1 : Int32).toInt = 1 := by decide
                    have t_x_361 : x_361.toInt = (sv_277 : Int32).toInt + (1 : Int32).toInt := by rw [ex_361]; exact add_toInt (by omega) (by omega)
                    omega
                  have hu_418 : SgC sv_397 sv_398 (Mv 5) (((ll ++ xq_47) ++ lval (rB (Mf 1) (Mv 0)) (St0 (rB (Mf 1) (Mv 0)) x_361 vy_33)) ++ [(-15)]) := by
                    rw [← elo_50, ← elo_388, ← elo_403]
                    exact pf_402
                  exact ih_37 sv_369 sv_370 sv_371 sv_372 sv_397 sv_398 _ _ _ (by omega) ha_405 ha_406 ha_407 (Agr.trans (k' := (400 * ((Mv 5) : Int32).toInt + ((Mf 3) (Mv 5).toNatClampNeg).toInt)) (Agr.trans (k' := (400 * ((Mv 5) : Int32).toInt + ((Mf 3) (Mv 5).toNatClampNeg).toInt)) (Agr.mono pf_42 hr_408) pf_377 ⟨Int.le_refl _, hr_409⟩) pf_400 ⟨Int.le_refl _, hr_410⟩) pf_399 (TmL.next (rB_fi h_nx.2.2) pf_44 (SkR.trans pf_58 pf_281) hr_411 hi_412 pf_385) (TmC.next (rB_fi h_nx.2.2) pf_49 (SkR.trans pf_58 pf_281) hr_413 ho_416 hi_417 pf_385 hu_418) (hP.sub [1, 0, 2, 3] rfl) (hD.sub [1, 0, 2, 3] rfl rfl) hS (lv_sub hl [1] rfl)
                · skip
                  have hz_420 : (r_378 : Int32).toInt = 0 := by
                    have z_1 : ¬ (r_13 : Int32).toInt = (0 : Int32).toInt := fun z => c_18 (Int32.toInt_inj.mp z)
                    have z_2 : ¬ (r_59 : Int32).toInt = (42 : Int32).toInt := fun z => c_62 (Int32.toInt_inj.mp z)
                    have z_3 := congrArg Int32.toInt c_286
                    have z_4 : ¬ (x_288 : Int32).toInt = (42 : Int32).toInt := fun z => c_289 (Int32.toInt_inj.mp z)
                    have z_5 := congrArg Int32.toInt c_292
                    have z_6 := congrArg Int32.toInt c_383
                    have y_0 : (0 : Int32).toInt = 0 := by decide
                    have y_42 : (42 : Int32).toInt = 42 := by decide
                    have y_47 : (47 : Int32).toInt = 47 := by decide
                    omega
                  obtain pf_419 := hm_382 hz_420
                  have pf_419 : RfE (pz_val (rB (Mf 1) (Mv 0)) (St0 (rB (Mf 1) (Mv 0)) x_361 vy_33)) sv_370 := pf_419
                  refine lv_iconst (v := 0) hx hb dX12_term_92 (by decide) ?_
                  have ha_421 : ((Mv 2) : Int32).toInt ≤ (sv_369 : Int32).toInt ∧ (sv_369 : Int32).toInt ≤ ((Mv 0) : Int32).toInt := by
                    have z_1 : ¬ (r_13 : Int32).toInt = (0 : Int32).toInt := fun z => c_18 (Int32.toInt_inj.mp z)
                    have z_2 : ¬ (r_59 : Int32).toInt = (42 : Int32).toInt := fun z => c_62 (Int32.toInt_inj.mp z)
                    have z_3 := congrArg Int32.toInt c_286
                    have z_4 : ¬ (x_288 : Int32).toInt = (42 : Int32).toInt := fun z => c_289 (Int32.toInt_inj.mp z)
                    have z_5 := congrArg Int32.toInt c_292
                    have z_6 := congrArg Int32.toInt c_383
                    have y_0 : (0 : Int32).toInt = 0 := by decide
                    have y_42 : (42 : Int32).toInt = 42 := by decide
                    have y_47 : (47 : Int32).toInt = 47 := by decide
                    omega
                  have ha_422 : ((Mv 6) : Int32).toInt ≤ (sv_372 : Int32).toInt ∧ (sv_372 : Int32).toInt ≤ 60 := by
                    have z_1 : ¬ (r_13 : Int32).toInt = (0 : Int32).toInt := fun z => c_18 (Int32.toInt_inj.mp z)
                    have z_2 : ¬ (r_59 : Int32).toInt = (42 : Int32).toInt := fun z => c_62 (Int32.toInt_inj.mp z)
                    have z_3 := congrArg Int32.toInt c_286
                    have z_4 : ¬ (x_288 : Int32).toInt = (42 : Int32).toInt := fun z => c_289 (Int32.toInt_inj.mp z)
                    have z_5 := congrArg Int32.toInt c_292
                    have z_6 := congrArg Int32.toInt c_383
                    have y_0 : (0 : Int32).toInt = 0 := by decide
                    have y_42 : (42 : Int32).toInt = 42 := by decide
                    have y_47 : (47 : Int32).toInt = 47 := by decide
                    omega
                  have hr_423 : (400 * ((Mv 5) : Int32).toInt + ((Mf 3) (Mv 5).toNatClampNeg).toInt) ≤ (400 * ((Mv 5) : Int32).toInt + ((Mf 3) (Mv 5).toNatClampNeg).toInt) := by
                    have z_1 : ¬ (r_13 : Int32).toInt = (0 : Int32).toInt := fun z => c_18 (Int32.toInt_inj.mp z)
                    have z_2 : ¬ (r_59 : Int32).toInt = (42 : Int32).toInt := fun z => c_62 (Int32.toInt_inj.mp z)
                    have z_3 := congrArg Int32.toInt c_286
                    have z_4 : ¬ (x_288 : Int32).toInt = (42 : Int32).toInt := fun z => c_289 (Int32.toInt_inj.mp z)
                    have z_5 := congrArg Int32.toInt c_292
                    have z_6 := congrArg Int32.toInt c_383
                    have y_0 : (0 : Int32).toInt = 0 := by decide
                    have y_42 : (42 : Int32).toInt = 42 := by decide
                    have y_47 : (47 : Int32).toInt = 47 := by decide
                    omega
                  have hr_424 : (400 * ((Mv 5) : Int32).toInt + ((Mf 3) (Mv 5).toNatClampNeg).toInt) ≤ (400 * ((Mv 5) : Int32).toInt + (vy_35 (Mv 5).toNatClampNeg).toInt) := by
                    have z_1 : ¬ (r_13 : Int32).toInt = (0 : Int32).toInt := fun z => c_18 (Int32.toInt_inj.mp z)
                    have z_2 : ¬ (r_59 : Int32).toInt = (42 : Int32).toInt := fun z => c_62 (Int32.toInt_inj.mp z)
                    have z_3 := congrArg Int32.toInt c_286
                    have z_4 : ¬ (x_288 : Int32).toInt = (42 : Int32).toInt := fun z => c_289 (Int32.toInt_inj.mp z)
                    have z_5 := congrArg Int32.toInt c_292
                    have z_6 := congrArg Int32.toInt c_383
                    have y_0 : (0 : Int32).toInt = 0 := by decide
                    have y_42 : (42 : Int32).toInt = 42 := by decide
                    have y_47 : (47 : Int32).toInt = 47 := by decide
                    omega
                  have hp_425 : (((0 : Int32).toInt = 0 ∧ ¬ (sv_370 : Int32).toInt = 0) ∨ ((0 : Int32).toInt = 1 ∧ ((Mf 3) (Mv 5).toNatClampNeg).toInt + 1 ≤ (sv_374 (Mv 5).toNatClampNeg).toInt ∧ (sv_374 (Mv 5).toNatClampNeg).toInt + ((Mv 2) : Int32).toInt ≤ ((Mf 3) (Mv 5).toNatClampNeg).toInt + (sv_369 : Int32).toInt ∧ ((Mv 2) : Int32).toInt + 1 ≤ (sv_369 : Int32).toInt)) := by
                    have z_1 : ¬ (r_13 : Int32).toInt = (0 : Int32).toInt := fun z => c_18 (Int32.toInt_inj.mp z)
                    have z_2 : ¬ (r_59 : Int32).toInt = (42 : Int32).toInt := fun z => c_62 (Int32.toInt_inj.mp z)
                    have z_3 := congrArg Int32.toInt c_286
                    have z_4 : ¬ (x_288 : Int32).toInt = (42 : Int32).toInt := fun z => c_289 (Int32.toInt_inj.mp z)
                    have z_5 := congrArg Int32.toInt c_292
                    have z_6 := congrArg Int32.toInt c_383
                    have y_0 : (0 : Int32).toInt = 0 := by decide
                    have y_42 : (42 : Int32).toInt = 42 := by decide
                    have y_47 : (47 : Int32).toInt = 47 := by decide
                    omega
                  have hm_426 : (0 : Int32).toInt = 0 → (RfE (pz_sum (rB (Mf 1) (Mv 0)) (St0 (rB (Mf 1) (Mv 0)) (Mv 2) (Mv 6))) sv_370) := by
                    intro h1r
                    have hr_427 : (rB (Mf 1) (Mv 0) (sv_277 : Int32).toInt.toNat = 43 ∨ rB (Mf 1) (Mv 0) (sv_277 : Int32).toInt.toNat = 45 ∨ rB (Mf 1) (Mv 0) (sv_277 : Int32).toInt.toNat = 42 ∨ rB (Mf 1) (Mv 0) (sv_277 : Int32).toInt.toNat = 47 ∨ rB (Mf 1) (Mv 0) (sv_277 : Int32).toInt.toNat = 37) := by
                      have z_1 : ¬ (r_13 : Int32).toInt = (0 : Int32).toInt := fun z => c_18 (Int32.toInt_inj.mp z)
                      have z_2 : ¬ (r_59 : Int32).toInt = (42 : Int32).toInt := fun z => c_62 (Int32.toInt_inj.mp z)
                      have z_3 := congrArg Int32.toInt c_286
                      have z_4 : ¬ (x_288 : Int32).toInt = (42 : Int32).toInt := fun z => c_289 (Int32.toInt_inj.mp z)
                      have z_5 := congrArg Int32.toInt c_292
                      have z_6 := congrArg Int32.toInt c_383
                      have y_0 : (0 : Int32).toInt = 0 := by decide
                      have y_42 : (42 : Int32).toInt = 42 := by decide
                      have y_47 : (47 : Int32).toInt = 47 := by decide
                      omega
                    have hi_428 : (x_361 : Int32).toInt = (sv_277 : Int32).toInt + 1 := by
                      have z_1 : ¬ (r_13 : Int32).toInt = (0 : Int32).toInt := fun z => c_18 (Int32.toInt_inj.mp z)
                      have z_2 : ¬ (r_59 : Int32).toInt = (42 : Int32).toInt := fun z => c_62 (Int32.toInt_inj.mp z)
                      have z_3 := congrArg Int32.toInt c_286
                      have z_4 : ¬ (x_288 : Int32).toInt = (42 : Int32).toInt := fun z => c_289 (Int32.toInt_inj.mp z)
                      have z_5 := congrArg Int32.toInt c_292
                      have z_6 := congrArg Int32.toInt c_383
                      have y_0 : (0 : Int32).toInt = 0 := by decide
                      have y_42 : (42 : Int32).toInt = 42 := by decide
                      have y_47 : (47 : Int32).toInt = 47 := by decide
                      have y_1 : (1 : Int32).toInt = 1 := by decide
                      have t_x_361 : x_361.toInt = (sv_277 : Int32).toInt + (1 : Int32).toInt := by rw [ex_361]; exact add_toInt (by omega) (by omega)
                      omega
                    exact (TmL.er (rB_fi h_nx.2.2) pf_44 (SkR.trans pf_58 pf_281) hr_427 hi_428 pf_419)
                  exact retI (v := 0) hx hb hr hlk (rfl) hP hD hS (sv_369, sv_370, sv_371, sv_372, sv_373, sv_374) ⟨_, rfl, hp_425, ha_421, ha_422, (Agr.trans (k' := (400 * ((Mv 5) : Int32).toInt + ((Mf 3) (Mv 5).toNatClampNeg).toInt)) (Agr.mono pf_42 hr_423) pf_377 ⟨Int.le_refl _, hr_424⟩), (fun h => absurd h (by decide)), hm_426⟩ [0, 1, 2, 3] rfl rfl dX12_term_93 (Nat.le_of_ble_eq_true rfl) (Nat.le_of_ble_eq_true rfl) rfl
            · skip
              refine lv_iconst (v := 4) hx hb dX12_term_50 (by decide) ?_
              refine lv_goto (tgt := 74) hx hb dX12_term_51 (by decide) ?_
              refine lv_istore_n (lv' := [(1, .int 4), (0, .ref (Ma 0))]) hx hb dX12_term_74 rfl hl (by decide) rfl (fun ls hl₀ => ?_)
              replace hl := hl₀
              clear hl₀
              refine lv_aload_n hx hb dX12_term_75 rfl (lv_at hl 1 rfl) ?_
              refine lv_dup hx hb dX12_term_76 rfl ?_
              refine gf_X12_87 hx hb hts hown hK hP 2 rfl rfl dX12_term_77 ?_
              refine lv_iconst (v := 1) hx hb dX12_term_80 (by decide) ?_
              refine lv_iadd hx hb dX12_term_81 ?_
              refine lv_topi (fun x_429 ex_429 => ?_)
              refine pf_X12_87 hx hb hts hown hK hP hD hS 2 rfl (Nat.le_of_ble_eq_true rfl) rfl rfl dX12_term_82 (fun H locs hP₀ hD₀ hS₀ => ?_)
              replace hP : va_P D classes [((Ma 2), .inl (tc 0, 2400, .inl vy_34)), ((Ma 3), .inl (tc 0, 7, .inl vy_35)), ((Ma 0), .inr (12, [.ref (Ma 1), .int (Mv 0), .int (Mv 1), .ref (Ma 2), .ref (Ma 3), .ref (Ma 4), .ref (Ma 5), .ref (Ma 6), .int x_429, .int vy_31, .int vy_32, .int (Mv 5), .int vy_33, .int (Mv 7), .int (Mv 8), .ref (Ma 7), .int (Mv 9), .ref (Ma 8), .int (Mv 10), .ref (Ma 9), .ref (Ma 10), .int (Mv 11), .int (Mv 12), .int (Mv 13), .ref (Ma 11), .int (Mv 14), .ref (Ma 12), .ref (Ma 13), .ref (Ma 14), .ref (Ma 15), .ref (Ma 16), .long (Mj 0), .ref (Ma 17), .ref (Ma 18), .ref (Ma 19), .ref (Ma 20)])), ((Ma 1), .inl (tc 2, 400, .inl (Mf 1)))] H := hP₀
              replace hD : va_D A [((Ma 2), .inl (tc 0, 2400, .inl vy_34)), ((Ma 3), .inl (tc 0, 7, .inl vy_35)), ((Ma 0), .inr (12, [.ref (Ma 1), .int (Mv 0), .int (Mv 1), .ref (Ma 2), .ref (Ma 3), .ref (Ma 4), .ref (Ma 5), .ref (Ma 6), .int x_429, .int vy_31, .int vy_32, .int (Mv 5), .int vy_33, .int (Mv 7), .int (Mv 8), .ref (Ma 7), .int (Mv 9), .ref (Ma 8), .int (Mv 10), .ref (Ma 9), .ref (Ma 10), .int (Mv 11), .int (Mv 12), .int (Mv 13), .ref (Ma 11), .int (Mv 14), .ref (Ma 12), .ref (Ma 13), .ref (Ma 14), .ref (Ma 15), .ref (Ma 16), .long (Mj 0), .ref (Ma 17), .ref (Ma 18), .ref (Ma 19), .ref (Ma 20)])), ((Ma 1), .inl (tc 2, 400, .inl (Mf 1)))] := hD₀
              replace hS := hS₀
              clear hP₀ hD₀ hS₀
              have tp_x_429 : (x_429 : Int32).toInt = (sv_277 : Int32).toInt + 1 := by
                have z_1 : ¬ (r_13 : Int32).toInt = (0 : Int32).toInt := fun z => c_18 (Int32.toInt_inj.mp z)
                have z_2 : ¬ (r_59 : Int32).toInt = (42 : Int32).toInt := fun z => c_62 (Int32.toInt_inj.mp z)
                have z_3 := congrArg Int32.toInt c_286
                have z_4 := congrArg Int32.toInt c_289
                have y_0 : (0 : Int32).toInt = 0 := by decide
                have y_42 : (42 : Int32).toInt = 42 := by decide
                have y_47 : (47 : Int32).toInt = 47 := by decide
                have y_1 : (1 : Int32).toInt = 1 := by decide
                have t_x_429 : x_429.toInt = (sv_277 : Int32).toInt + (1 : Int32).toInt := by rw [ex_429]; exact add_toInt (by omega) (by omega)
                omega
              refine lv_aload_n hx hb dX12_term_85 rfl (lv_at hl 1 rfl) ?_
              have ha_430 : 0 ≤ (x_429 : Int32).toInt ∧ (x_429 : Int32).toInt ≤ ((Mv 0) : Int32).toInt ∧ ((Mv 0) : Int32).toInt ≤ 400 := by
                have z_1 : ¬ (r_13 : Int32).toInt = (0 : Int32).toInt := fun z => c_18 (Int32.toInt_inj.mp z)
                have z_2 : ¬ (r_59 : Int32).toInt = (42 : Int32).toInt := fun z => c_62 (Int32.toInt_inj.mp z)
                have z_3 := congrArg Int32.toInt c_286
                have z_4 := congrArg Int32.toInt c_289
                have y_0 : (0 : Int32).toInt = 0 := by decide
                have y_42 : (42 : Int32).toInt = 42 := by decide
                have y_47 : (47 : Int32).toInt = 47 := by decide
                have y_1 : (1 : Int32).toInt = 1 := by decide
                have t_x_429 : x_429.toInt = (sv_277 : Int32).toInt + (1 : Int32).toInt := by rw [ex_429]; exact add_toInt (by omega) (by omega)
                omega
              have ha_431 : (vy_35 (Mv 5).toNatClampNeg).toInt ≤ (x_429 : Int32).toInt := by
                have z_1 : ¬ (r_13 : Int32).toInt = (0 : Int32).toInt := fun z => c_18 (Int32.toInt_inj.mp z)
                have z_2 : ¬ (r_59 : Int32).toInt = (42 : Int32).toInt := fun z => c_62 (Int32.toInt_inj.mp z)
                have z_3 := congrArg Int32.toInt c_286
                have z_4 := congrArg Int32.toInt c_289
                have y_0 : (0 : Int32).toInt = 0 := by decide
                have y_42 : (42 : Int32).toInt = 42 := by decide
                have y_47 : (47 : Int32).toInt = 47 := by decide
                have y_1 : (1 : Int32).toInt = 1 := by decide
                have t_x_429 : x_429.toInt = (sv_277 : Int32).toInt + (1 : Int32).toInt := by rw [ex_429]; exact add_toInt (by omega) (by omega)
                omega
              have ha_432 : 0 ≤ (vy_33 : Int32).toInt ∧ (vy_33 : Int32).toInt ≤ 60 := by
                have z_1 : ¬ (r_13 : Int32).toInt = (0 : Int32).toInt := fun z => c_18 (Int32.toInt_inj.mp z)
                have z_2 : ¬ (r_59 : Int32).toInt = (42 : Int32).toInt := fun z => c_62 (Int32.toInt_inj.mp z)
                have z_3 := congrArg Int32.toInt c_286
                have z_4 := congrArg Int32.toInt c_289
                have y_0 : (0 : Int32).toInt = 0 := by decide
                have y_42 : (42 : Int32).toInt = 42 := by decide
                have y_47 : (47 : Int32).toInt = 47 := by decide
                omega
              have ha_433 : (vy_31 : Int32).toInt = 0 := by
                have z_1 : ¬ (r_13 : Int32).toInt = (0 : Int32).toInt := fun z => c_18 (Int32.toInt_inj.mp z)
                have z_2 : ¬ (r_59 : Int32).toInt = (42 : Int32).toInt := fun z => c_62 (Int32.toInt_inj.mp z)
                have z_3 := congrArg Int32.toInt c_286
                have z_4 := congrArg Int32.toInt c_289
                have y_0 : (0 : Int32).toInt = 0 := by decide
                have y_42 : (42 : Int32).toInt = 42 := by decide
                have y_47 : (47 : Int32).toInt = 47 := by decide
                omega
              refine cV (a := (Ma 0)) (As := []) (rest := []) (wr := []) ⟨hx, hb, hml, hown, hts⟩ hK hX hA (cu_kX12_value l D tc sk (Ma 0) (Ma 1) (Ma 2) (Ma 3) (Ma 4) (Ma 5) (Ma 6) (Ma 7) (Ma 8) (Ma 9) (Ma 10) (Ma 11) (Ma 12) (Ma 13) (Ma 14) (Ma 15) (Ma 16) (Ma 17) (Ma 18) (Ma 19) (Ma 20) (Mv 0) (Mv 1) x_429 vy_31 vy_32 (Mv 5) vy_33 (Mv 7) (Mv 8) (Mv 9) (Mv 10) (Mv 11) (Mv 12) (Mv 13) (Mv 14) (Mf 1) vy_34 vy_35 (Mj 0) b (d + 1) lo_50 ha_430 pf_43 ha_431 ha_432 h_bs ha_433 pf_48) k_1287 k_1284 k_1286 k_44 k_106 pl_X12_value ⟨Nat.le_of_ble_eq_true rfl, Nat.le_of_ble_eq_true rfl⟩ rfl rfl (va_recv hK hP (ci := 12) (q0 := 2) rfl rfl) hP hD hS [2, 3, 0, 1] [] rfl rfl rfl rfl rfl (by decide) rfl hl.1 rfl (Nat.le_of_ble_eq_true rfl) dX12_term_86 ⟨Nat.le_of_ble_eq_true rfl, Nat.le_of_ble_eq_true rfl⟩ (fun v_434 u_435 H locs hv_436 hP₀ hD₀ hS₀ => ?_)
              obtain ⟨sv_437, sv_438, sv_439, sv_440, sv_441, sv_442⟩ := u_435
              obtain ⟨r_446, rfl, he_447, pf_443, pf_444, pf_445, hm_449, hm_450⟩ := hv_436
              have he_447 : ((r_446.toInt = 0 ∧ ¬ (sv_438 : Int32).toInt = 0) ∨ (r_446.toInt = 1 ∧ (vy_35 (Mv 5).toNatClampNeg).toInt + 1 ≤ (sv_442 (Mv 5).toNatClampNeg).toInt ∧ (sv_442 (Mv 5).toNatClampNeg).toInt + (x_429 : Int32).toInt ≤ (vy_35 (Mv 5).toNatClampNeg).toInt + (sv_437 : Int32).toInt ∧ (x_429 : Int32).toInt + 1 ≤ (sv_437 : Int32).toInt)) := he_447
              have pf_443 : (x_429 : Int32).toInt ≤ (sv_437 : Int32).toInt ∧ (sv_437 : Int32).toInt ≤ ((Mv 0) : Int32).toInt := pf_443
              have pf_444 : (vy_33 : Int32).toInt ≤ (sv_440 : Int32).toInt ∧ (sv_440 : Int32).toInt ≤ 60 := pf_444
              have pf_445 : Agr vy_34 sv_441 (400 * ((Mv 5) : Int32).toInt + (vy_35 (Mv 5).toNatClampNeg).toInt) := pf_445
              refine W.eq (g2 := F0 m 89 ls [.int r_446]) rfl ?_
              replace hP : va_P D classes [((Ma 0), .inr (12, [.ref (Ma 1), .int (Mv 0), .int (Mv 1), .ref (Ma 2), .ref (Ma 3), .ref (Ma 4), .ref (Ma 5), .ref (Ma 6), .int sv_437, .int sv_438, .int sv_439, .int (Mv 5), .int sv_440, .int (Mv 7), .int (Mv 8), .ref (Ma 7), .int (Mv 9), .ref (Ma 8), .int (Mv 10), .ref (Ma 9), .ref (Ma 10), .int (Mv 11), .int (Mv 12), .int (Mv 13), .ref (Ma 11), .int (Mv 14), .ref (Ma 12), .ref (Ma 13), .ref (Ma 14), .ref (Ma 15), .ref (Ma 16), .long (Mj 0), .ref (Ma 17), .ref (Ma 18), .ref (Ma 19), .ref (Ma 20)])), ((Ma 1), .inl (tc 2, 400, .inl (Mf 1))), ((Ma 2), .inl (tc 0, 2400, .inl sv_441)), ((Ma 3), .inl (tc 0, 7, .inl sv_442))] H := hP₀
              replace hD : va_D A [((Ma 0), .inr (12, [.ref (Ma 1), .int (Mv 0), .int (Mv 1), .ref (Ma 2), .ref (Ma 3), .ref (Ma 4), .ref (Ma 5), .ref (Ma 6), .int sv_437, .int sv_438, .int sv_439, .int (Mv 5), .int sv_440, .int (Mv 7), .int (Mv 8), .ref (Ma 7), .int (Mv 9), .ref (Ma 8), .int (Mv 10), .ref (Ma 9), .ref (Ma 10), .int (Mv 11), .int (Mv 12), .int (Mv 13), .ref (Ma 11), .int (Mv 14), .ref (Ma 12), .ref (Ma 13), .ref (Ma 14), .ref (Ma 15), .ref (Ma 16), .long (Mj 0), .ref (Ma 17), .ref (Ma 18), .ref (Ma 19), .ref (Ma 20)])), ((Ma 1), .inl (tc 2, 400, .inl (Mf 1))), ((Ma 2), .inl (tc 0, 2400, .inl sv_441)), ((Ma 3), .inl (tc 0, 7, .inl sv_442))] := hD₀
              replace hS := hS₀
              clear hP₀ hD₀ hS₀
              refine lv_if_ne (tgt := 94) hx hb dX12_term_89 (by decide) (fun c_451 => ?_) (fun c_451 => ?_)
              · skip
                have hz_455 : (r_446 : Int32).toInt = 1 := by
                  have z_1 : ¬ (r_13 : Int32).toInt = (0 : Int32).toInt := fun z => c_18 (Int32.toInt_inj.mp z)
                  have z_2 : ¬ (r_59 : Int32).toInt = (42 : Int32).toInt := fun z => c_62 (Int32.toInt_inj.mp z)
                  have z_3 := congrArg Int32.toInt c_286
                  have z_4 := congrArg Int32.toInt c_289
                  have z_5 : ¬ (r_446 : Int32).toInt = (0 : Int32).toInt := fun z => c_451 (Int32.toInt_inj.mp z)
                  have y_0 : (0 : Int32).toInt = 0 := by decide
                  have y_42 : (42 : Int32).toInt = 42 := by decide
                  have y_47 : (47 : Int32).toInt = 47 := by decide
                  omega
                obtain ⟨pf_452, pf_453, pf_454⟩ := hm_449 hz_455
                have pf_452 : Cd sv_441 sv_442 (Mv 5) b sv_440 ((d + 1) + 1) := pf_452
                have ar_pf_452 := Cd.ar pf_452
                have pf_453 : RfO (pz_val (rB (Mf 1) (Mv 0)) (St0 (rB (Mf 1) (Mv 0)) x_429 vy_33)) (rB (Mf 1) (Mv 0)) sv_438 sv_437 sv_440 := pf_453
                have ar_pf_453 := RfO.wr pf_453
                have pf_454 : SgC sv_441 sv_442 (Mv 5) (lo_50 ++ lval (rB (Mf 1) (Mv 0)) (St0 (rB (Mf 1) (Mv 0)) x_429 vy_33)) := pf_454
                obtain ⟨lo_456, elo_456⟩ : ∃ z : List Int, z = (lo_50 ++ lval (rB (Mf 1) (Mv 0)) (St0 (rB (Mf 1) (Mv 0)) x_429 vy_33)) := ⟨_, rfl⟩
                rw [← elo_456] at pf_454
                refine lv_aload_n hx hb dX12_term_94 rfl (lv_at hl 1 rfl) ?_
                refine lv_iload_n hx hb dX12_term_95 rfl (lv_at hl 0 rfl) ?_
                refine lv_iconst (v := 0) hx hb dX12_term_96 (by decide) ?_
                have ha_457 : ((d + 1) : Int) ≤ sv_440.toInt := by
                  have z_1 : ¬ (r_13 : Int32).toInt = (0 : Int32).toInt := fun z => c_18 (Int32.toInt_inj.mp z)
                  have z_2 : ¬ (r_59 : Int32).toInt = (42 : Int32).toInt := fun z => c_62 (Int32.toInt_inj.mp z)
                  have z_3 := congrArg Int32.toInt c_286
                  have z_4 := congrArg Int32.toInt c_289
                  have z_5 : ¬ (r_446 : Int32).toInt = (0 : Int32).toInt := fun z => c_451 (Int32.toInt_inj.mp z)
                  have y_0 : (0 : Int32).toInt = 0 := by decide
                  have y_42 : (42 : Int32).toInt = 42 := by decide
                  have y_47 : (47 : Int32).toInt = 47 := by decide
                  omega
                have ha_458 : (sv_442 (Mv 5).toNatClampNeg).toInt < 400 := by
                  have z_1 : ¬ (r_13 : Int32).toInt = (0 : Int32).toInt := fun z => c_18 (Int32.toInt_inj.mp z)
                  have z_2 : ¬ (r_59 : Int32).toInt = (42 : Int32).toInt := fun z => c_62 (Int32.toInt_inj.mp z)
                  have z_3 := congrArg Int32.toInt c_286
                  have z_4 := congrArg Int32.toInt c_289
                  have z_5 : ¬ (r_446 : Int32).toInt = (0 : Int32).toInt := fun z => c_451 (Int32.toInt_inj.mp z)
                  have y_0 : (0 : Int32).toInt = 0 := by decide
                  have y_42 : (42 : Int32).toInt = 42 := by decide
                  have y_47 : (47 : Int32).toInt = 47 := by decide
                  omega
                have ha_459 : 0 ≤ (4 : Int32).toInt ∧ (4 : Int32).toInt ≤ 15 := by
                  have z_1 : ¬ (r_13 : Int32).toInt = (0 : Int32).toInt := fun z => c_18 (Int32.toInt_inj.mp z)
                  have z_2 : ¬ (r_59 : Int32).toInt = (42 : Int32).toInt := fun z => c_62 (Int32.toInt_inj.mp z)
                  have z_3 := congrArg Int32.toInt c_286
                  have z_4 := congrArg Int32.toInt c_289
                  have z_5 : ¬ (r_446 : Int32).toInt = (0 : Int32).toInt := fun z => c_451 (Int32.toInt_inj.mp z)
                  have y_0 : (0 : Int32).toInt = 0 := by decide
                  have y_42 : (42 : Int32).toInt = 42 := by decide
                  have y_47 : (47 : Int32).toInt = 47 := by decide
                  have y_4 : (4 : Int32).toInt = 4 := by decide
                  omega
                have ha_460 : 0 ≤ (0 : Int32).toInt ∧ (0 : Int32).toInt ≤ 100000 := by
                  have z_1 : ¬ (r_13 : Int32).toInt = (0 : Int32).toInt := fun z => c_18 (Int32.toInt_inj.mp z)
                  have z_2 : ¬ (r_59 : Int32).toInt = (42 : Int32).toInt := fun z => c_62 (Int32.toInt_inj.mp z)
                  have z_3 := congrArg Int32.toInt c_286
                  have z_4 := congrArg Int32.toInt c_289
                  have z_5 : ¬ (r_446 : Int32).toInt = (0 : Int32).toInt := fun z => c_451 (Int32.toInt_inj.mp z)
                  have y_0 : (0 : Int32).toInt = 0 := by decide
                  have y_42 : (42 : Int32).toInt = 42 := by decide
                  have y_47 : (47 : Int32).toInt = 47 := by decide
                  omega
                have ha_461 : 0 ≤ (Mv 5).toInt := by
                  have z_1 : ¬ (r_13 : Int32).toInt = (0 : Int32).toInt := fun z => c_18 (Int32.toInt_inj.mp z)
                  have z_2 : ¬ (r_59 : Int32).toInt = (42 : Int32).toInt := fun z => c_62 (Int32.toInt_inj.mp z)
                  have z_3 := congrArg Int32.toInt c_286
                  have z_4 := congrArg Int32.toInt c_289
                  have z_5 : ¬ (r_446 : Int32).toInt = (0 : Int32).toInt := fun z => c_451 (Int32.toInt_inj.mp z)
                  have y_0 : (0 : Int32).toInt = 0 := by decide
                  have y_42 : (42 : Int32).toInt = 42 := by decide
                  have y_47 : (47 : Int32).toInt = 47 := by decide
                  omega
                refine cV (a := (Ma 0)) (As := [.int 4, .int 0]) (rest := []) (wr := [((Ma 1), .inl (tc 2, 400, .inl (Mf 1)))]) ⟨hx, hb, hml, hown, hts⟩ hK hX hA (cu_kX12_puts l D tc sk (Ma 0) (Ma 1) (Ma 2) (Ma 3) (Ma 4) (Ma 5) (Ma 6) (Ma 7) (Ma 8) (Ma 9) (Ma 10) (Ma 11) (Ma 12) (Ma 13) (Ma 14) (Ma 15) (Ma 16) (Ma 17) (Ma 18) (Ma 19) (Ma 20) (Mv 0) (Mv 1) sv_437 sv_438 sv_439 (Mv 5) sv_440 (Mv 7) (Mv 8) (Mv 9) (Mv 10) (Mv 11) (Mv 12) (Mv 13) (Mv 14) sv_441 sv_442 (Mj 0) 4 0 b sv_440 ((d + 1) + 1) (d + 1) lo_456 (-14) pf_452 (StpR.op (by decide) rfl (by omega)) ha_457 ha_458 pf_454 (by decide) ha_459 ha_460 ha_461) k_1296 k_1293 k_1295 k_46 k_106 pl_X12_puts ⟨Nat.le_of_ble_eq_true rfl, Nat.le_of_ble_eq_true rfl⟩ rfl rfl (va_recv hK hP (ci := 12) (q0 := 0) rfl rfl) hP hD hS [0, 2, 3] [1] rfl rfl rfl rfl rfl (by decide) rfl hl.1 rfl (Nat.le_of_ble_eq_true rfl) dX12_term_97 ⟨Nat.le_of_ble_eq_true rfl, Nat.le_of_ble_eq_true rfl⟩ (fun v_462 u_463 H locs hv_464 hP₀ hD₀ hS₀ => ?_)
                obtain ⟨sv_465, sv_466⟩ := u_463
                obtain ⟨rfl, pf_467, pf_468, pf_469, pf_470⟩ := hv_464
                have pf_467 : Cd sv_465 sv_466 (Mv 5) b sv_440 (d + 1) := pf_467
                have ar_pf_467 := Cd.ar pf_467
                have pf_468 : Agr sv_441 sv_465 (400 * ((Mv 5) : Int32).toInt + (sv_442 (Mv 5).toNatClampNeg).toInt) := pf_468
                have pf_469 : (sv_466 (Mv 5).toNatClampNeg).toInt = (sv_442 (Mv 5).toNatClampNeg).toInt + 1 := pf_469
                have pf_470 : SgC sv_465 sv_466 (Mv 5) (lo_456 ++ [((-14) : Int)]) := pf_470
                obtain ⟨lo_471, elo_471⟩ : ∃ z : List Int, z = (lo_456 ++ [(-14)]) := ⟨_, rfl⟩
                rw [← elo_471] at pf_470
                refine W.eq (g2 := F0 m 100 ls []) rfl ?_
                replace hP : va_P D classes [((Ma 1), .inl (tc 2, 400, .inl (Mf 1))), ((Ma 0), .inr (12, [.ref (Ma 1), .int (Mv 0), .int (Mv 1), .ref (Ma 2), .ref (Ma 3), .ref (Ma 4), .ref (Ma 5), .ref (Ma 6), .int sv_437, .int sv_438, .int sv_439, .int (Mv 5), .int sv_440, .int (Mv 7), .int (Mv 8), .ref (Ma 7), .int (Mv 9), .ref (Ma 8), .int (Mv 10), .ref (Ma 9), .ref (Ma 10), .int (Mv 11), .int (Mv 12), .int (Mv 13), .ref (Ma 11), .int (Mv 14), .ref (Ma 12), .ref (Ma 13), .ref (Ma 14), .ref (Ma 15), .ref (Ma 16), .long (Mj 0), .ref (Ma 17), .ref (Ma 18), .ref (Ma 19), .ref (Ma 20)])), ((Ma 2), .inl (tc 0, 2400, .inl sv_465)), ((Ma 3), .inl (tc 0, 7, .inl sv_466))] H := hP₀
                replace hD : va_D A [((Ma 1), .inl (tc 2, 400, .inl (Mf 1))), ((Ma 0), .inr (12, [.ref (Ma 1), .int (Mv 0), .int (Mv 1), .ref (Ma 2), .ref (Ma 3), .ref (Ma 4), .ref (Ma 5), .ref (Ma 6), .int sv_437, .int sv_438, .int sv_439, .int (Mv 5), .int sv_440, .int (Mv 7), .int (Mv 8), .ref (Ma 7), .int (Mv 9), .ref (Ma 8), .int (Mv 10), .ref (Ma 9), .ref (Ma 10), .int (Mv 11), .int (Mv 12), .int (Mv 13), .ref (Ma 11), .int (Mv 14), .ref (Ma 12), .ref (Ma 13), .ref (Ma 14), .ref (Ma 15), .ref (Ma 16), .long (Mj 0), .ref (Ma 17), .ref (Ma 18), .ref (Ma 19), .ref (Ma 20)])), ((Ma 2), .inl (tc 0, 2400, .inl sv_465)), ((Ma 3), .inl (tc 0, 7, .inl sv_466))] := hD₀
                replace hS := hS₀
                clear hP₀ hD₀ hS₀
                refine lv_goto (tgt := 9) hx hb dX12_term_100 (by decide) ?_
                have hb_472 : 400 - (sv_437 : Int32).toInt < 400 - (vy_30 : Int32).toInt ∧ 1 ≤ 400 - (vy_30 : Int32).toInt := by
                  have z_1 : ¬ (r_13 : Int32).toInt = (0 : Int32).toInt := fun z => c_18 (Int32.toInt_inj.mp z)
                  have z_2 : ¬ (r_59 : Int32).toInt = (42 : Int32).toInt := fun z => c_62 (Int32.toInt_inj.mp z)
                  have z_3 := congrArg Int32.toInt c_286
                  have z_4 := congrArg Int32.toInt c_289
                  have z_5 : ¬ (r_446 : Int32).toInt = (0 : Int32).toInt := fun z => c_451 (Int32.toInt_inj.mp z)
                  have y_0 : (0 : Int32).toInt = 0 := by decide
                  have y_42 : (42 : Int32).toInt = 42 := by decide
                  have y_47 : (47 : Int32).toInt = 47 := by decide
                  omega
                have ha_473 : 0 ≤ (sv_437 : Int32).toInt ∧ (sv_437 : Int32).toInt ≤ ((Mv 0) : Int32).toInt ∧ ((Mv 0) : Int32).toInt ≤ 400 := by
                  have z_1 : ¬ (r_13 : Int32).toInt = (0 : Int32).toInt := fun z => c_18 (Int32.toInt_inj.mp z)
                  have z_2 : ¬ (r_59 : Int32).toInt = (42 : Int32).toInt := fun z => c_62 (Int32.toInt_inj.mp z)
                  have z_3 := congrArg Int32.toInt c_286
                  have z_4 := congrArg Int32.toInt c_289
                  have z_5 : ¬ (r_446 : Int32).toInt = (0 : Int32).toInt := fun z => c_451 (Int32.toInt_inj.mp z)
                  have y_0 : (0 : Int32).toInt = 0 := by decide
                  have y_42 : (42 : Int32).toInt = 42 := by decide
                  have y_47 : (47 : Int32).toInt = 47 := by decide
                  omega
                have ha_474 : (Mv 6).toInt ≤ (sv_440 : Int32).toInt ∧ (sv_440 : Int32).toInt ≤ 60 := by
                  have z_1 : ¬ (r_13 : Int32).toInt = (0 : Int32).toInt := fun z => c_18 (Int32.toInt_inj.mp z)
                  have z_2 : ¬ (r_59 : Int32).toInt = (42 : Int32).toInt := fun z => c_62 (Int32.toInt_inj.mp z)
                  have z_3 := congrArg Int32.toInt c_286
                  have z_4 := congrArg Int32.toInt c_289
                  have z_5 : ¬ (r_446 : Int32).toInt = (0 : Int32).toInt := fun z => c_451 (Int32.toInt_inj.mp z)
                  have y_0 : (0 : Int32).toInt = 0 := by decide
                  have y_42 : (42 : Int32).toInt = 42 := by decide
                  have y_47 : (47 : Int32).toInt = 47 := by decide
                  omega
                have ha_475 : ((Mf 3) (Mv 5).toNatClampNeg).toInt + 1 ≤ (sv_466 (Mv 5).toNatClampNeg).toInt ∧ (sv_466 (Mv 5).toNatClampNeg).toInt + ((Mv 2) : Int32).toInt ≤ ((Mf 3) (Mv 5).toNatClampNeg).toInt + (sv_437 : Int32).toInt ∧ ((Mv 2) : Int32).toInt + 1 ≤ (sv_437 : Int32).toInt := by
                  have z_1 : ¬ (r_13 : Int32).toInt = (0 : Int32).toInt := fun z => c_18 (Int32.toInt_inj.mp z)
                  have z_2 : ¬ (r_59 : Int32).toInt = (42 : Int32).toInt := fun z => c_62 (Int32.toInt_inj.mp z)
                  have z_3 := congrArg Int32.toInt c_286
                  have z_4 := congrArg Int32.toInt c_289
                  have z_5 : ¬ (r_446 : Int32).toInt = (0 : Int32).toInt := fun z => c_451 (Int32.toInt_inj.mp z)
                  have y_0 : (0 : Int32).toInt = 0 := by decide
                  have y_42 : (42 : Int32).toInt = 42 := by decide
                  have y_47 : (47 : Int32).toInt = 47 := by decide
                  omega
                have hr_476 : (400 * ((Mv 5) : Int32).toInt + ((Mf 3) (Mv 5).toNatClampNeg).toInt) ≤ (400 * ((Mv 5) : Int32).toInt + ((Mf 3) (Mv 5).toNatClampNeg).toInt) := by
                  have z_1 : ¬ (r_13 : Int32).toInt = (0 : Int32).toInt := fun z => c_18 (Int32.toInt_inj.mp z)
                  have z_2 : ¬ (r_59 : Int32).toInt = (42 : Int32).toInt := fun z => c_62 (Int32.toInt_inj.mp z)
                  have z_3 := congrArg Int32.toInt c_286
                  have z_4 := congrArg Int32.toInt c_289
                  have z_5 : ¬ (r_446 : Int32).toInt = (0 : Int32).toInt := fun z => c_451 (Int32.toInt_inj.mp z)
                  have y_0 : (0 : Int32).toInt = 0 := by decide
                  have y_42 : (42 : Int32).toInt = 42 := by decide
                  have y_47 : (47 : Int32).toInt = 47 := by decide
                  omega
                have hr_477 : (400 * ((Mv 5) : Int32).toInt + ((Mf 3) (Mv 5).toNatClampNeg).toInt) ≤ (400 * ((Mv 5) : Int32).toInt + (vy_35 (Mv 5).toNatClampNeg).toInt) := by
                  have z_1 : ¬ (r_13 : Int32).toInt = (0 : Int32).toInt := fun z => c_18 (Int32.toInt_inj.mp z)
                  have z_2 : ¬ (r_59 : Int32).toInt = (42 : Int32).toInt := fun z => c_62 (Int32.toInt_inj.mp z)
                  have z_3 := congrArg Int32.toInt c_286
                  have z_4 := congrArg Int32.toInt c_289
                  have z_5 : ¬ (r_446 : Int32).toInt = (0 : Int32).toInt := fun z => c_451 (Int32.toInt_inj.mp z)
                  have y_0 : (0 : Int32).toInt = 0 := by decide
                  have y_42 : (42 : Int32).toInt = 42 := by decide
                  have y_47 : (47 : Int32).toInt = 47 := by decide
                  omega
                have hr_478 : (400 * ((Mv 5) : Int32).toInt + ((Mf 3) (Mv 5).toNatClampNeg).toInt) ≤ (400 * ((Mv 5) : Int32).toInt + (sv_442 (Mv 5).toNatClampNeg).toInt) := by
                  have z_1 : ¬ (r_13 : Int32).toInt = (0 : Int32).toInt := fun z => c_18 (Int32.toInt_inj.mp z)
                  have z_2 : ¬ (r_59 : Int32).toInt = (42 : Int32).toInt := fun z => c_62 (Int32.toInt_inj.mp z)
                  have z_3 := congrArg Int32.toInt c_286
                  have z_4 := congrArg Int32.toInt c_289
                  have z_5 : ¬ (r_446 : Int32).toInt = (0 : Int32).toInt := fun z => c_451 (Int32.toInt_inj.mp z)
                  have y_0 : (0 : Int32).toInt = 0 := by decide
                  have y_42 : (42 : Int32).toInt = 42 := by decide
                  have y_47 : (47 : Int32).toInt = 47 := by decide
                  omega
                have hr_479 : (rB (Mf 1) (Mv 0) (sv_277 : Int32).toInt.toNat = 43 ∨ rB (Mf 1) (Mv 0) (sv_277 : Int32).toInt.toNat = 45 ∨ rB (Mf 1) (Mv 0) (sv_277 : Int32).toInt.toNat = 42 ∨ rB (Mf 1) (Mv 0) (sv_277 : Int32).toInt.toNat = 47 ∨ rB (Mf 1) (Mv 0) (sv_277 : Int32).toInt.toNat = 37) := by
                  have z_1 : ¬ (r_13 : Int32).toInt = (0 : Int32).toInt := fun z => c_18 (Int32.toInt_inj.mp z)
                  have z_2 : ¬ (r_59 : Int32).toInt = (42 : Int32).toInt := fun z => c_62 (Int32.toInt_inj.mp z)
                  have z_3 := congrArg Int32.toInt c_286
                  have z_4 := congrArg Int32.toInt c_289
                  have z_5 : ¬ (r_446 : Int32).toInt = (0 : Int32).toInt := fun z => c_451 (Int32.toInt_inj.mp z)
                  have y_0 : (0 : Int32).toInt = 0 := by decide
                  have y_42 : (42 : Int32).toInt = 42 := by decide
                  have y_47 : (47 : Int32).toInt = 47 := by decide
                  omega
                have hi_480 : (x_429 : Int32).toInt = (sv_277 : Int32).toInt + 1 := by
                  have z_1 : ¬ (r_13 : Int32).toInt = (0 : Int32).toInt := fun z => c_18 (Int32.toInt_inj.mp z)
                  have z_2 : ¬ (r_59 : Int32).toInt = (42 : Int32).toInt := fun z => c_62 (Int32.toInt_inj.mp z)
                  have z_3 := congrArg Int32.toInt c_286
                  have z_4 := congrArg Int32.toInt c_289
                  have z_5 : ¬ (r_446 : Int32).toInt = (0 : Int32).toInt := fun z => c_451 (Int32.toInt_inj.mp z)
                  have y_0 : (0 : Int32).toInt = 0 := by decide
                  have y_42 : (42 : Int32).toInt = 42 := by decide
                  have y_47 : (47 : Int32).toInt = 47 := by decide
                  have y_1 : (1 : Int32).toInt = 1 := by decide
                  have t_x_429 : x_429.toInt = (sv_277 : Int32).toInt + (1 : Int32).toInt := by rw [ex_429]; exact add_toInt (by omega) (by omega)
                  omega
                have hr_481 : (rB (Mf 1) (Mv 0) (sv_277 : Int32).toInt.toNat = 42 ∨ rB (Mf 1) (Mv 0) (sv_277 : Int32).toInt.toNat = 47 ∨ rB (Mf 1) (Mv 0) (sv_277 : Int32).toInt.toNat = 37) := by
                  have z_1 : ¬ (r_13 : Int32).toInt = (0 : Int32).toInt := fun z => c_18 (Int32.toInt_inj.mp z)
                  have z_2 : ¬ (r_59 : Int32).toInt = (42 : Int32).toInt := fun z => c_62 (Int32.toInt_inj.mp z)
                  have z_3 := congrArg Int32.toInt c_286
                  have z_4 := congrArg Int32.toInt c_289
                  have z_5 : ¬ (r_446 : Int32).toInt = (0 : Int32).toInt := fun z => c_451 (Int32.toInt_inj.mp z)
                  have y_0 : (0 : Int32).toInt = 0 := by decide
                  have y_42 : (42 : Int32).toInt = 42 := by decide
                  have y_47 : (47 : Int32).toInt = 47 := by decide
                  omega
                have rg_482 := rB_rg (n := (Mv 0)) h_bs (sv_277 : Int32).toInt.toNat
                have hr_483 : rB (Mf 1) (Mv 0) (sv_277 : Int32).toInt.toNat = 42 := by
                  have z_1 : ¬ (r_13 : Int32).toInt = (0 : Int32).toInt := fun z => c_18 (Int32.toInt_inj.mp z)
                  have z_2 : ¬ (r_59 : Int32).toInt = (42 : Int32).toInt := fun z => c_62 (Int32.toInt_inj.mp z)
                  have z_3 := congrArg Int32.toInt c_286
                  have z_4 := congrArg Int32.toInt c_289
                  have z_5 : ¬ (r_446 : Int32).toInt = (0 : Int32).toInt := fun z => c_451 (Int32.toInt_inj.mp z)
                  have y_0 : (0 : Int32).toInt = 0 := by decide
                  have y_42 : (42 : Int32).toInt = 42 := by decide
                  have y_47 : (47 : Int32).toInt = 47 := by decide
                  omega
                have ho_484 : (-14 : Int) = ec_o (rB (Mf 1) (Mv 0) (sv_277 : Int32).toInt.toNat) := by rw [hr_483]; decide
                have hi_485 : (x_429 : Int32).toInt = (sv_277 : Int32).toInt + 1 := by
                  have z_1 : ¬ (r_13 : Int32).toInt = (0 : Int32).toInt := fun z => c_18 (Int32.toInt_inj.mp z)
                  have z_2 : ¬ (r_59 : Int32).toInt = (42 : Int32).toInt := fun z => c_62 (Int32.toInt_inj.mp z)
                  have z_3 := congrArg Int32.toInt c_286
                  have z_4 := congrArg Int32.toInt c_289
                  have z_5 : ¬ (r_446 : Int32).toInt = (0 : Int32).toInt := fun z => c_451 (Int32.toInt_inj.mp z)
                  have y_0 : (0 : Int32).toInt = 0 := by decide
                  have y_42 : (42 : Int32).toInt = 42 := by decide
                  have y_47 : (47 : Int32).toInt = 47 := by decide
                  have y_1 : (1 : Int32).toInt = 1 := by decide
                  have t_x_429 : x_429.toInt = (sv_277 : Int32).toInt + (1 : Int32).toInt := by rw [ex_429]; exact add_toInt (by omega) (by omega)
                  omega
                have hu_486 : SgC sv_465 sv_466 (Mv 5) (((ll ++ xq_47) ++ lval (rB (Mf 1) (Mv 0)) (St0 (rB (Mf 1) (Mv 0)) x_429 vy_33)) ++ [(-14)]) := by
                  rw [← elo_50, ← elo_456, ← elo_471]
                  exact pf_470
                exact ih_37 sv_437 sv_438 sv_439 sv_440 sv_465 sv_466 _ _ _ (by omega) ha_473 ha_474 ha_475 (Agr.trans (k' := (400 * ((Mv 5) : Int32).toInt + ((Mf 3) (Mv 5).toNatClampNeg).toInt)) (Agr.trans (k' := (400 * ((Mv 5) : Int32).toInt + ((Mf 3) (Mv 5).toNatClampNeg).toInt)) (Agr.mono pf_42 hr_476) pf_445 ⟨Int.le_refl _, hr_477⟩) pf_468 ⟨Int.le_refl _, hr_478⟩) pf_467 (TmL.next (rB_fi h_nx.2.2) pf_44 (SkR.trans pf_58 pf_281) hr_479 hi_480 pf_453) (TmC.next (rB_fi h_nx.2.2) pf_49 (SkR.trans pf_58 pf_281) hr_481 ho_484 hi_485 pf_453 hu_486) (hP.sub [1, 0, 2, 3] rfl) (hD.sub [1, 0, 2, 3] rfl rfl) hS (lv_sub hl [1] rfl)
              · skip
                have hz_488 : (r_446 : Int32).toInt = 0 := by
                  have z_1 : ¬ (r_13 : Int32).toInt = (0 : Int32).toInt := fun z => c_18 (Int32.toInt_inj.mp z)
                  have z_2 : ¬ (r_59 : Int32).toInt = (42 : Int32).toInt := fun z => c_62 (Int32.toInt_inj.mp z)
                  have z_3 := congrArg Int32.toInt c_286
                  have z_4 := congrArg Int32.toInt c_289
                  have z_5 := congrArg Int32.toInt c_451
                  have y_0 : (0 : Int32).toInt = 0 := by decide
                  have y_42 : (42 : Int32).toInt = 42 := by decide
                  have y_47 : (47 : Int32).toInt = 47 := by decide
                  omega
                obtain pf_487 := hm_450 hz_488
                have pf_487 : RfE (pz_val (rB (Mf 1) (Mv 0)) (St0 (rB (Mf 1) (Mv 0)) x_429 vy_33)) sv_438 := pf_487
                refine lv_iconst (v := 0) hx hb dX12_term_92 (by decide) ?_
                have ha_489 : ((Mv 2) : Int32).toInt ≤ (sv_437 : Int32).toInt ∧ (sv_437 : Int32).toInt ≤ ((Mv 0) : Int32).toInt := by
                  have z_1 : ¬ (r_13 : Int32).toInt = (0 : Int32).toInt := fun z => c_18 (Int32.toInt_inj.mp z)
                  have z_2 : ¬ (r_59 : Int32).toInt = (42 : Int32).toInt := fun z => c_62 (Int32.toInt_inj.mp z)
                  have z_3 := congrArg Int32.toInt c_286
                  have z_4 := congrArg Int32.toInt c_289
                  have z_5 := congrArg Int32.toInt c_451
                  have y_0 : (0 : Int32).toInt = 0 := by decide
                  have y_42 : (42 : Int32).toInt = 42 := by decide
                  have y_47 : (47 : Int32).toInt = 47 := by decide
                  omega
                have ha_490 : ((Mv 6) : Int32).toInt ≤ (sv_440 : Int32).toInt ∧ (sv_440 : Int32).toInt ≤ 60 := by
                  have z_1 : ¬ (r_13 : Int32).toInt = (0 : Int32).toInt := fun z => c_18 (Int32.toInt_inj.mp z)
                  have z_2 : ¬ (r_59 : Int32).toInt = (42 : Int32).toInt := fun z => c_62 (Int32.toInt_inj.mp z)
                  have z_3 := congrArg Int32.toInt c_286
                  have z_4 := congrArg Int32.toInt c_289
                  have z_5 := congrArg Int32.toInt c_451
                  have y_0 : (0 : Int32).toInt = 0 := by decide
                  have y_42 : (42 : Int32).toInt = 42 := by decide
                  have y_47 : (47 : Int32).toInt = 47 := by decide
                  omega
                have hr_491 : (400 * ((Mv 5) : Int32).toInt + ((Mf 3) (Mv 5).toNatClampNeg).toInt) ≤ (400 * ((Mv 5) : Int32).toInt + ((Mf 3) (Mv 5).toNatClampNeg).toInt) := by
                  have z_1 : ¬ (r_13 : Int32).toInt = (0 : Int32).toInt := fun z => c_18 (Int32.toInt_inj.mp z)
                  have z_2 : ¬ (r_59 : Int32).toInt = (42 : Int32).toInt := fun z => c_62 (Int32.toInt_inj.mp z)
                  have z_3 := congrArg Int32.toInt c_286
                  have z_4 := congrArg Int32.toInt c_289
                  have z_5 := congrArg Int32.toInt c_451
                  have y_0 : (0 : Int32).toInt = 0 := by decide
                  have y_42 : (42 : Int32).toInt = 42 := by decide
                  have y_47 : (47 : Int32).toInt = 47 := by decide
                  omega
                have hr_492 : (400 * ((Mv 5) : Int32).toInt + ((Mf 3) (Mv 5).toNatClampNeg).toInt) ≤ (400 * ((Mv 5) : Int32).toInt + (vy_35 (Mv 5).toNatClampNeg).toInt) := by
                  have z_1 : ¬ (r_13 : Int32).toInt = (0 : Int32).toInt := fun z => c_18 (Int32.toInt_inj.mp z)
                  have z_2 : ¬ (r_59 : Int32).toInt = (42 : Int32).toInt := fun z => c_62 (Int32.toInt_inj.mp z)
                  have z_3 := congrArg Int32.toInt c_286
                  have z_4 := congrArg Int32.toInt c_289
                  have z_5 := congrArg Int32.toInt c_451
                  have y_0 : (0 : Int32).toInt = 0 := by decide
                  have y_42 : (42 : Int32).toInt = 42 := by decide
                  have y_47 : (47 : Int32).toInt = 47 := by decide
                  omega
                have hp_493 : (((0 : Int32).toInt = 0 ∧ ¬ (sv_438 : Int32).toInt = 0) ∨ ((0 : Int32).toInt = 1 ∧ ((Mf 3) (Mv 5).toNatClampNeg).toInt + 1 ≤ (sv_442 (Mv 5).toNatClampNeg).toInt ∧ (sv_442 (Mv 5).toNatClampNeg).toInt + ((Mv 2) : Int32).toInt ≤ ((Mf 3) (Mv 5).toNatClampNeg).toInt + (sv_437 : Int32).toInt ∧ ((Mv 2) : Int32).toInt + 1 ≤ (sv_437 : Int32).toInt)) := by
                  have z_1 : ¬ (r_13 : Int32).toInt = (0 : Int32).toInt := fun z => c_18 (Int32.toInt_inj.mp z)
                  have z_2 : ¬ (r_59 : Int32).toInt = (42 : Int32).toInt := fun z => c_62 (Int32.toInt_inj.mp z)
                  have z_3 := congrArg Int32.toInt c_286
                  have z_4 := congrArg Int32.toInt c_289
                  have z_5 := congrArg Int32.toInt c_451
                  have y_0 : (0 : Int32).toInt = 0 := by decide
                  have y_42 : (42 : Int32).toInt = 42 := by decide
                  have y_47 : (47 : Int32).toInt = 47 := by decide
                  omega
                have hm_494 : (0 : Int32).toInt = 0 → (RfE (pz_sum (rB (Mf 1) (Mv 0)) (St0 (rB (Mf 1) (Mv 0)) (Mv 2) (Mv 6))) sv_438) := by
                  intro h1r
                  have hr_495 : (rB (Mf 1) (Mv 0) (sv_277 : Int32).toInt.toNat = 43 ∨ rB (Mf 1) (Mv 0) (sv_277 : Int32).toInt.toNat = 45 ∨ rB (Mf 1) (Mv 0) (sv_277 : Int32).toInt.toNat = 42 ∨ rB (Mf 1) (Mv 0) (sv_277 : Int32).toInt.toNat = 47 ∨ rB (Mf 1) (Mv 0) (sv_277 : Int32).toInt.toNat = 37) := by
                    have z_1 : ¬ (r_13 : Int32).toInt = (0 : Int32).toInt := fun z => c_18 (Int32.toInt_inj.mp z)
                    have z_2 : ¬ (r_59 : Int32).toInt = (42 : Int32).toInt := fun z => c_62 (Int32.toInt_inj.mp z)
                    have z_3 := congrArg Int32.toInt c_286
                    have z_4 := congrArg Int32.toInt c_289
                    have z_5 := congrArg Int32.toInt c_451
                    have y_0 : (0 : Int32).toInt = 0 := by decide
                    have y_42 : (42 : Int32).toInt = 42 := by decide
                    have y_47 : (47 : Int32).toInt = 47 := by decide
                    omega
                  have hi_496 : (x_429 : Int32).toInt = (sv_277 : Int32).toInt + 1 := by
                    have z_1 : ¬ (r_13 : Int32).toInt = (0 : Int32).toInt := fun z => c_18 (Int32.toInt_inj.mp z)
                    have z_2 : ¬ (r_59 : Int32).toInt = (42 : Int32).toInt := fun z => c_62 (Int32.toInt_inj.mp z)
                    have z_3 := congrArg Int32.toInt c_286
                    have z_4 := congrArg Int32.toInt c_289
                    have z_5 := congrArg Int32.toInt c_451
                    have y_0 : (0 : Int32).toInt = 0 := by decide
                    have y_42 : (42 : Int32).toInt = 42 := by decide
                    have y_47 : (47 : Int32).toInt = 47 := by decide
                    have y_1 : (1 : Int32).toInt = 1 := by decide
                    have t_x_429 : x_429.toInt = (sv_277 : Int32).toInt + (1 : Int32).toInt := by rw [ex_429]; exact add_toInt (by omega) (by omega)
                    omega
                  exact (TmL.er (rB_fi h_nx.2.2) pf_44 (SkR.trans pf_58 pf_281) hr_495 hi_496 pf_487)
                exact retI (v := 0) hx hb hr hlk (rfl) hP hD hS (sv_437, sv_438, sv_439, sv_440, sv_441, sv_442) ⟨_, rfl, hp_493, ha_489, ha_490, (Agr.trans (k' := (400 * ((Mv 5) : Int32).toInt + ((Mf 3) (Mv 5).toNatClampNeg).toInt)) (Agr.mono pf_42 hr_491) pf_445 ⟨Int.le_refl _, hr_492⟩), (fun h => absurd h (by decide)), hm_494⟩ [0, 1, 2, 3] rfl rfl dX12_term_93 (Nat.le_of_ble_eq_true rfl) (Nat.le_of_ble_eq_true rfl) rfl
          · skip
            refine lv_aload_n hx hb dX12_term_27 rfl (lv_at hl 0 rfl) ?_
            have ha_497 : 0 ≤ (sv_277 : Int32).toInt ∧ (sv_277 : Int32).toInt ≤ ((Mv 0) : Int32).toInt ∧ ((Mv 0) : Int32).toInt ≤ 400 := by
              have z_1 : ¬ (r_13 : Int32).toInt = (0 : Int32).toInt := fun z => c_18 (Int32.toInt_inj.mp z)
              have z_2 : ¬ (r_59 : Int32).toInt = (42 : Int32).toInt := fun z => c_62 (Int32.toInt_inj.mp z)
              have z_3 : ¬ (r_282 : Int32).toInt = (47 : Int32).toInt := fun z => c_286 (Int32.toInt_inj.mp z)
              have y_0 : (0 : Int32).toInt = 0 := by decide
              have y_42 : (42 : Int32).toInt = 42 := by decide
              have y_47 : (47 : Int32).toInt = 47 := by decide
              omega
            refine cV (a := (Ma 0)) (As := []) (rest := []) (wr := [((Ma 2), .inl (tc 0, 2400, .inl vy_34)), ((Ma 3), .inl (tc 0, 7, .inl vy_35))]) ⟨hx, hb, hml, hown, hts⟩ hK hX hA (cu_fX12_see l D tc sk (Ma 0) (Ma 1) (Ma 2) (Ma 3) (Ma 4) (Ma 5) (Ma 6) (Ma 7) (Ma 8) (Ma 9) (Ma 10) (Ma 11) (Ma 12) (Ma 13) (Ma 14) (Ma 15) (Ma 16) (Ma 17) (Ma 18) (Ma 19) (Ma 20) (Mv 0) (Mv 1) sv_277 vy_31 vy_32 (Mv 5) vy_33 (Mv 7) (Mv 8) (Mv 9) (Mv 10) (Mv 11) (Mv 12) (Mv 13) (Mv 14) (Mf 1) (Mj 0) ha_497 h_bs) k_1211 k_1208 k_1210 k_27 k_106 pl_X12_see ⟨Nat.le_of_ble_eq_true rfl, Nat.le_of_ble_eq_true rfl⟩ rfl rfl (va_recv hK hP (ci := 12) (q0 := 2) rfl rfl) hP hD hS [2, 3] [0, 1] rfl rfl rfl rfl rfl (by decide) rfl hl.1 rfl (Nat.le_of_ble_eq_true rfl) dX12_term_28 ⟨Nat.le_of_ble_eq_true rfl, Nat.le_of_ble_eq_true rfl⟩ (fun v_498 u_499 H locs hv_500 hP₀ hD₀ hS₀ => ?_)
            obtain ⟨sv_501, rfl⟩ : ∃ z, z = u_499 := ⟨_, rfl⟩
            obtain ⟨r_506, rfl, he_507, pf_502, pf_503, pf_504, pf_505⟩ := hv_500
            have he_507 : (r_506.toInt = rB (Mf 1) (Mv 0) (sv_501 : Int32).toInt.toNat ∧ (r_506.toInt = -1 ∨ (sv_501 : Int32).toInt < (Mv 0).toInt)) := he_507
            have pf_502 : (sv_277 : Int32).toInt ≤ (sv_501 : Int32).toInt ∧ (sv_501 : Int32).toInt ≤ ((Mv 0) : Int32).toInt := pf_502
            have pf_503 : NSq (Mf 1) (Mv 0) sv_501 := pf_503
            have pf_504 : Stl (Mf 1) (Mv 0) sv_277 sv_501 := pf_504
            have ar_pf_504 := Stl.or pf_504 pf_279
            have pf_505 : SkR (rB (Mf 1) (Mv 0)) sv_277 sv_501 := pf_505
            refine W.eq (g2 := F0 m 31 ls [.int r_506]) rfl ?_
            replace hP : va_P D classes [((Ma 2), .inl (tc 0, 2400, .inl vy_34)), ((Ma 3), .inl (tc 0, 7, .inl vy_35)), ((Ma 0), .inr (12, [.ref (Ma 1), .int (Mv 0), .int (Mv 1), .ref (Ma 2), .ref (Ma 3), .ref (Ma 4), .ref (Ma 5), .ref (Ma 6), .int sv_501, .int vy_31, .int vy_32, .int (Mv 5), .int vy_33, .int (Mv 7), .int (Mv 8), .ref (Ma 7), .int (Mv 9), .ref (Ma 8), .int (Mv 10), .ref (Ma 9), .ref (Ma 10), .int (Mv 11), .int (Mv 12), .int (Mv 13), .ref (Ma 11), .int (Mv 14), .ref (Ma 12), .ref (Ma 13), .ref (Ma 14), .ref (Ma 15), .ref (Ma 16), .long (Mj 0), .ref (Ma 17), .ref (Ma 18), .ref (Ma 19), .ref (Ma 20)])), ((Ma 1), .inl (tc 2, 400, .inl (Mf 1)))] H := hP₀
            replace hD : va_D A [((Ma 2), .inl (tc 0, 2400, .inl vy_34)), ((Ma 3), .inl (tc 0, 7, .inl vy_35)), ((Ma 0), .inr (12, [.ref (Ma 1), .int (Mv 0), .int (Mv 1), .ref (Ma 2), .ref (Ma 3), .ref (Ma 4), .ref (Ma 5), .ref (Ma 6), .int sv_501, .int vy_31, .int vy_32, .int (Mv 5), .int vy_33, .int (Mv 7), .int (Mv 8), .ref (Ma 7), .int (Mv 9), .ref (Ma 8), .int (Mv 10), .ref (Ma 9), .ref (Ma 10), .int (Mv 11), .int (Mv 12), .int (Mv 13), .ref (Ma 11), .int (Mv 14), .ref (Ma 12), .ref (Ma 13), .ref (Ma 14), .ref (Ma 15), .ref (Ma 16), .long (Mj 0), .ref (Ma 17), .ref (Ma 18), .ref (Ma 19), .ref (Ma 20)])), ((Ma 1), .inl (tc 2, 400, .inl (Mf 1)))] := hD₀
            replace hS := hS₀
            clear hP₀ hD₀ hS₀
            have hE_509 := SkR.eqB pf_281 pf_505
            refine lv_bipush (v := 37) hx hb dX12_term_31 (by decide) ?_
            refine lv_icmp_ne (tgt := 103) hx hb dX12_term_33 (by decide) (fun c_510 => ?_) (fun c_510 => ?_)
            · skip
              refine lv_iconst (v := 1) hx hb dX12_term_103 (by decide) ?_
              have ha_511 : ((Mv 2) : Int32).toInt ≤ (sv_501 : Int32).toInt ∧ (sv_501 : Int32).toInt ≤ ((Mv 0) : Int32).toInt := by
                have z_1 : ¬ (r_13 : Int32).toInt = (0 : Int32).toInt := fun z => c_18 (Int32.toInt_inj.mp z)
                have z_2 : ¬ (r_59 : Int32).toInt = (42 : Int32).toInt := fun z => c_62 (Int32.toInt_inj.mp z)
                have z_3 : ¬ (r_282 : Int32).toInt = (47 : Int32).toInt := fun z => c_286 (Int32.toInt_inj.mp z)
                have z_4 : ¬ (r_506 : Int32).toInt = (37 : Int32).toInt := fun z => c_510 (Int32.toInt_inj.mp z)
                have y_0 : (0 : Int32).toInt = 0 := by decide
                have y_37 : (37 : Int32).toInt = 37 := by decide
                have y_42 : (42 : Int32).toInt = 42 := by decide
                have y_47 : (47 : Int32).toInt = 47 := by decide
                omega
              have ha_512 : ((Mv 6) : Int32).toInt ≤ (vy_33 : Int32).toInt ∧ (vy_33 : Int32).toInt ≤ 60 := by
                have z_1 : ¬ (r_13 : Int32).toInt = (0 : Int32).toInt := fun z => c_18 (Int32.toInt_inj.mp z)
                have z_2 : ¬ (r_59 : Int32).toInt = (42 : Int32).toInt := fun z => c_62 (Int32.toInt_inj.mp z)
                have z_3 : ¬ (r_282 : Int32).toInt = (47 : Int32).toInt := fun z => c_286 (Int32.toInt_inj.mp z)
                have z_4 : ¬ (r_506 : Int32).toInt = (37 : Int32).toInt := fun z => c_510 (Int32.toInt_inj.mp z)
                have y_0 : (0 : Int32).toInt = 0 := by decide
                have y_37 : (37 : Int32).toInt = 37 := by decide
                have y_42 : (42 : Int32).toInt = 42 := by decide
                have y_47 : (47 : Int32).toInt = 47 := by decide
                omega
              have hp_513 : (((1 : Int32).toInt = 0 ∧ ¬ (vy_31 : Int32).toInt = 0) ∨ ((1 : Int32).toInt = 1 ∧ ((Mf 3) (Mv 5).toNatClampNeg).toInt + 1 ≤ (vy_35 (Mv 5).toNatClampNeg).toInt ∧ (vy_35 (Mv 5).toNatClampNeg).toInt + ((Mv 2) : Int32).toInt ≤ ((Mf 3) (Mv 5).toNatClampNeg).toInt + (sv_501 : Int32).toInt ∧ ((Mv 2) : Int32).toInt + 1 ≤ (sv_501 : Int32).toInt)) := by
                have z_1 : ¬ (r_13 : Int32).toInt = (0 : Int32).toInt := fun z => c_18 (Int32.toInt_inj.mp z)
                have z_2 : ¬ (r_59 : Int32).toInt = (42 : Int32).toInt := fun z => c_62 (Int32.toInt_inj.mp z)
                have z_3 : ¬ (r_282 : Int32).toInt = (47 : Int32).toInt := fun z => c_286 (Int32.toInt_inj.mp z)
                have z_4 : ¬ (r_506 : Int32).toInt = (37 : Int32).toInt := fun z => c_510 (Int32.toInt_inj.mp z)
                have y_0 : (0 : Int32).toInt = 0 := by decide
                have y_37 : (37 : Int32).toInt = 37 := by decide
                have y_42 : (42 : Int32).toInt = 42 := by decide
                have y_47 : (47 : Int32).toInt = 47 := by decide
                have y_1 : (1 : Int32).toInt = 1 := by decide
                have yr : (1 : Int32).toInt = 1 := by decide
                omega
              have hm_514 : (1 : Int32).toInt = 1 → (Cd vy_34 vy_35 (Mv 5) b vy_33 (d + 1)) ∧ (TmO (pz_sum (rB (Mf 1) (Mv 0)) (St0 (rB (Mf 1) (Mv 0)) (Mv 2) (Mv 6))) (rB (Mf 1) (Mv 0)) vy_31 sv_501 vy_33) ∧ (TmC ll (rB (Mf 1) (Mv 0)) (St0 (rB (Mf 1) (Mv 0)) (Mv 2) (Mv 6)) vy_34 vy_35 (Mv 5) sv_501) := by
                intro h1r
                have hr_515 : ¬ (rB (Mf 1) (Mv 0) (sv_501 : Int32).toInt.toNat = 42 ∨ rB (Mf 1) (Mv 0) (sv_501 : Int32).toInt.toNat = 47 ∨ rB (Mf 1) (Mv 0) (sv_501 : Int32).toInt.toNat = 37) := by
                  have z_1 : ¬ (r_13 : Int32).toInt = (0 : Int32).toInt := fun z => c_18 (Int32.toInt_inj.mp z)
                  have z_2 : ¬ (r_59 : Int32).toInt = (42 : Int32).toInt := fun z => c_62 (Int32.toInt_inj.mp z)
                  have z_3 : ¬ (r_282 : Int32).toInt = (47 : Int32).toInt := fun z => c_286 (Int32.toInt_inj.mp z)
                  have z_4 : ¬ (r_506 : Int32).toInt = (37 : Int32).toInt := fun z => c_510 (Int32.toInt_inj.mp z)
                  have y_0 : (0 : Int32).toInt = 0 := by decide
                  have y_37 : (37 : Int32).toInt = 37 := by decide
                  have y_42 : (42 : Int32).toInt = 42 := by decide
                  have y_47 : (47 : Int32).toInt = 47 := by decide
                  omega
                exact ⟨pf_43, (TmO.of pf_44 (SkR.trans (SkR.trans pf_58 pf_281) pf_505) hr_515), (TmC.sk pf_45 (SkR.trans (SkR.trans pf_58 pf_281) pf_505))⟩
              exact retI (v := 1) hx hb hr hlk (rfl) hP hD hS (sv_501, vy_31, vy_32, vy_33, vy_34, vy_35) ⟨_, rfl, hp_513, ha_511, ha_512, pf_42, hm_514, (fun h => absurd h (by decide))⟩ [2, 3, 0, 1] rfl rfl dX12_term_104 (Nat.le_of_ble_eq_true rfl) (Nat.le_of_ble_eq_true rfl) rfl
            · skip
              refine lv_aload_n hx hb dX12_term_36 rfl (lv_at hl 0 rfl) ?_
              refine gf_X12_7 hx hb hts hown hK hP 2 rfl rfl dX12_term_37 ?_
              refine lv_aload_n hx hb dX12_term_40 rfl (lv_at hl 0 rfl) ?_
              refine gf_X12_87 hx hb hts hown hK hP 2 rfl rfl dX12_term_41 ?_
              have hi_516 : vp_in sv_501 400 := by
                have z_1 : ¬ (r_13 : Int32).toInt = (0 : Int32).toInt := fun z => c_18 (Int32.toInt_inj.mp z)
                have z_2 : ¬ (r_59 : Int32).toInt = (42 : Int32).toInt := fun z => c_62 (Int32.toInt_inj.mp z)
                have z_3 : ¬ (r_282 : Int32).toInt = (47 : Int32).toInt := fun z => c_286 (Int32.toInt_inj.mp z)
                have z_4 := congrArg Int32.toInt c_510
                have y_0 : (0 : Int32).toInt = 0 := by decide
                have y_37 : (37 : Int32).toInt = 37 := by decide
                have y_42 : (42 : Int32).toInt = 42 := by decide
                have y_47 : (47 : Int32).toInt = 47 := by decide
                refine vp_in_iff.mpr ⟨?_, ?_⟩ <;> omega
              refine va_bald hx hb hK hP 3 2 rfl rfl hi_516 dX12_term_44 ?_
              refine lv_topi (fun x_517 ex_517 => ?_)
              have kx_517 : x_517.toInt = ((Mf 1) (sv_501 : Int32).toInt.toNat).toInt := congrArg Int32.toInt ex_517
              have kcx_517 : x_517.toInt = ((Mf 1) (sv_501 : Int32).toNatClampNeg).toInt := congrArg Int32.toInt ex_517
              refine lv_bipush (v := 42) hx hb dX12_term_45 (by decide) ?_
              refine lv_icmp_ne (tgt := 54) hx hb dX12_term_47 (by decide) (fun c_518 => ?_) (fun c_518 => ?_)
              · skip
                refine lv_aload_n hx hb dX12_term_54 rfl (lv_at hl 0 rfl) ?_
                refine gf_X12_7 hx hb hts hown hK hP 2 rfl rfl dX12_term_55 ?_
                refine lv_aload_n hx hb dX12_term_58 rfl (lv_at hl 0 rfl) ?_
                refine gf_X12_87 hx hb hts hown hK hP 2 rfl rfl dX12_term_59 ?_
                have hi_519 : vp_in sv_501 400 := by
                  have z_1 : ¬ (r_13 : Int32).toInt = (0 : Int32).toInt := fun z => c_18 (Int32.toInt_inj.mp z)
                  have z_2 : ¬ (r_59 : Int32).toInt = (42 : Int32).toInt := fun z => c_62 (Int32.toInt_inj.mp z)
                  have z_3 : ¬ (r_282 : Int32).toInt = (47 : Int32).toInt := fun z => c_286 (Int32.toInt_inj.mp z)
                  have z_4 := congrArg Int32.toInt c_510
                  have z_5 : ¬ (x_517 : Int32).toInt = (42 : Int32).toInt := fun z => c_518 (Int32.toInt_inj.mp z)
                  have y_0 : (0 : Int32).toInt = 0 := by decide
                  have y_37 : (37 : Int32).toInt = 37 := by decide
                  have y_42 : (42 : Int32).toInt = 42 := by decide
                  have y_47 : (47 : Int32).toInt = 47 := by decide
                  refine vp_in_iff.mpr ⟨?_, ?_⟩ <;> omega
                refine va_bald hx hb hK hP 3 2 rfl rfl hi_519 dX12_term_62 ?_
                refine lv_topi (fun x_520 ex_520 => ?_)
                have kx_520 : x_520.toInt = ((Mf 1) (sv_501 : Int32).toInt.toNat).toInt := congrArg Int32.toInt ex_520
                have kcx_520 : x_520.toInt = ((Mf 1) (sv_501 : Int32).toNatClampNeg).toInt := congrArg Int32.toInt ex_520
                refine lv_bipush (v := 47) hx hb dX12_term_63 (by decide) ?_
                refine lv_icmp_ne (tgt := 72) hx hb dX12_term_65 (by decide) (fun c_521 => ?_) (fun c_521 => ?_)
                · skip
                  refine lv_bipush (v := 14) hx hb dX12_term_72 (by decide) ?_
                  refine lv_istore_n (lv' := [(1, .int 14), (0, .ref (Ma 0))]) hx hb dX12_term_74 rfl hl (by decide) rfl (fun ls hl₀ => ?_)
                  replace hl := hl₀
                  clear hl₀
                  refine lv_aload_n hx hb dX12_term_75 rfl (lv_at hl 1 rfl) ?_
                  refine lv_dup hx hb dX12_term_76 rfl ?_
                  refine gf_X12_87 hx hb hts hown hK hP 2 rfl rfl dX12_term_77 ?_
                  refine lv_iconst (v := 1) hx hb dX12_term_80 (by decide) ?_
                  refine lv_iadd hx hb dX12_term_81 ?_
                  refine lv_topi (fun x_522 ex_522 => ?_)
                  refine pf_X12_87 hx hb hts hown hK hP hD hS 2 rfl (Nat.le_of_ble_eq_true rfl) rfl rfl dX12_term_82 (fun H locs hP₀ hD₀ hS₀ => ?_)
                  replace hP : va_P D classes [((Ma 2), .inl (tc 0, 2400, .inl vy_34)), ((Ma 3), .inl (tc 0, 7, .inl vy_35)), ((Ma 0), .inr (12, [.ref (Ma 1), .int (Mv 0), .int (Mv 1), .ref (Ma 2), .ref (Ma 3), .ref (Ma 4), .ref (Ma 5), .ref (Ma 6), .int x_522, .int vy_31, .int vy_32, .int (Mv 5), .int vy_33, .int (Mv 7), .int (Mv 8), .ref (Ma 7), .int (Mv 9), .ref (Ma 8), .int (Mv 10), .ref (Ma 9), .ref (Ma 10), .int (Mv 11), .int (Mv 12), .int (Mv 13), .ref (Ma 11), .int (Mv 14), .ref (Ma 12), .ref (Ma 13), .ref (Ma 14), .ref (Ma 15), .ref (Ma 16), .long (Mj 0), .ref (Ma 17), .ref (Ma 18), .ref (Ma 19), .ref (Ma 20)])), ((Ma 1), .inl (tc 2, 400, .inl (Mf 1)))] H := hP₀
                  replace hD : va_D A [((Ma 2), .inl (tc 0, 2400, .inl vy_34)), ((Ma 3), .inl (tc 0, 7, .inl vy_35)), ((Ma 0), .inr (12, [.ref (Ma 1), .int (Mv 0), .int (Mv 1), .ref (Ma 2), .ref (Ma 3), .ref (Ma 4), .ref (Ma 5), .ref (Ma 6), .int x_522, .int vy_31, .int vy_32, .int (Mv 5), .int vy_33, .int (Mv 7), .int (Mv 8), .ref (Ma 7), .int (Mv 9), .ref (Ma 8), .int (Mv 10), .ref (Ma 9), .ref (Ma 10), .int (Mv 11), .int (Mv 12), .int (Mv 13), .ref (Ma 11), .int (Mv 14), .ref (Ma 12), .ref (Ma 13), .ref (Ma 14), .ref (Ma 15), .ref (Ma 16), .long (Mj 0), .ref (Ma 17), .ref (Ma 18), .ref (Ma 19), .ref (Ma 20)])), ((Ma 1), .inl (tc 2, 400, .inl (Mf 1)))] := hD₀
                  replace hS := hS₀
                  clear hP₀ hD₀ hS₀
                  have tp_x_522 : (x_522 : Int32).toInt = (sv_501 : Int32).toInt + 1 := by
                    have z_1 : ¬ (r_13 : Int32).toInt = (0 : Int32).toInt := fun z => c_18 (Int32.toInt_inj.mp z)
                    have z_2 : ¬ (r_59 : Int32).toInt = (42 : Int32).toInt := fun z => c_62 (Int32.toInt_inj.mp z)
                    have z_3 : ¬ (r_282 : Int32).toInt = (47 : Int32).toInt := fun z => c_286 (Int32.toInt_inj.mp z)
                    have z_4 := congrArg Int32.toInt c_510
                    have z_5 : ¬ (x_517 : Int32).toInt = (42 : Int32).toInt := fun z => c_518 (Int32.toInt_inj.mp z)
                    have z_6 : ¬ (x_520 : Int32).toInt = (47 : Int32).toInt := fun z => c_521 (Int32.toInt_inj.mp z)
                    have y_0 : (0 : Int32).toInt = 0 := by decide
                    have y_37 : (37 : Int32).toInt = 37 := by decide
                    have y_42 : (42 : Int32).toInt = 42 := by decide
                    have y_47 : (47 : Int32).toInt = 47 := by decide
                    have y_1 : (1 : Int32).toInt = 1 := by decide
                    have t_x_522 : x_522.toInt = (sv_501 : Int32).toInt + (1 : Int32).toInt := by rw [ex_522]; exact add_toInt (by omega) (by omega)
                    omega
                  refine lv_aload_n hx hb dX12_term_85 rfl (lv_at hl 1 rfl) ?_
                  have ha_523 : 0 ≤ (x_522 : Int32).toInt ∧ (x_522 : Int32).toInt ≤ ((Mv 0) : Int32).toInt ∧ ((Mv 0) : Int32).toInt ≤ 400 := by
                    have z_1 : ¬ (r_13 : Int32).toInt = (0 : Int32).toInt := fun z => c_18 (Int32.toInt_inj.mp z)
                    have z_2 : ¬ (r_59 : Int32).toInt = (42 : Int32).toInt := fun z => c_62 (Int32.toInt_inj.mp z)
                    have z_3 : ¬ (r_282 : Int32).toInt = (47 : Int32).toInt := fun z => c_286 (Int32.toInt_inj.mp z)
                    have z_4 := congrArg Int32.toInt c_510
                    have z_5 : ¬ (x_517 : Int32).toInt = (42 : Int32).toInt := fun z => c_518 (Int32.toInt_inj.mp z)
                    have z_6 : ¬ (x_520 : Int32).toInt = (47 : Int32).toInt := fun z => c_521 (Int32.toInt_inj.mp z)
                    have y_0 : (0 : Int32).toInt = 0 := by decide
                    have y_37 : (37 : Int32).toInt = 37 := by decide
                    have y_42 : (42 : Int32).toInt = 42 := by decide
                    have y_47 : (47 : Int32).toInt = 47 := by decide
                    have y_1 : (1 : Int32).toInt = 1 := by decide
                    have t_x_522 : x_522.toInt = (sv_501 : Int32).toInt + (1 : Int32).toInt := by rw [ex_522]; exact add_toInt (by omega) (by omega)
                    omega
                  have ha_524 : (vy_35 (Mv 5).toNatClampNeg).toInt ≤ (x_522 : Int32).toInt := by
                    have z_1 : ¬ (r_13 : Int32).toInt = (0 : Int32).toInt := fun z => c_18 (Int32.toInt_inj.mp z)
                    have z_2 : ¬ (r_59 : Int32).toInt = (42 : Int32).toInt := fun z => c_62 (Int32.toInt_inj.mp z)
                    have z_3 : ¬ (r_282 : Int32).toInt = (47 : Int32).toInt := fun z => c_286 (Int32.toInt_inj.mp z)
                    have z_4 := congrArg Int32.toInt c_510
                    have z_5 : ¬ (x_517 : Int32).toInt = (42 : Int32).toInt := fun z => c_518 (Int32.toInt_inj.mp z)
                    have z_6 : ¬ (x_520 : Int32).toInt = (47 : Int32).toInt := fun z => c_521 (Int32.toInt_inj.mp z)
                    have y_0 : (0 : Int32).toInt = 0 := by decide
                    have y_37 : (37 : Int32).toInt = 37 := by decide
                    have y_42 : (42 : Int32).toInt = 42 := by decide
                    have y_47 : (47 : Int32).toInt = 47 := by decide
                    have y_1 : (1 : Int32).toInt = 1 := by decide
                    have t_x_522 : x_522.toInt = (sv_501 : Int32).toInt + (1 : Int32).toInt := by rw [ex_522]; exact add_toInt (by omega) (by omega)
                    omega
                  have ha_525 : 0 ≤ (vy_33 : Int32).toInt ∧ (vy_33 : Int32).toInt ≤ 60 := by
                    have z_1 : ¬ (r_13 : Int32).toInt = (0 : Int32).toInt := fun z => c_18 (Int32.toInt_inj.mp z)
                    have z_2 : ¬ (r_59 : Int32).toInt = (42 : Int32).toInt := fun z => c_62 (Int32.toInt_inj.mp z)
                    have z_3 : ¬ (r_282 : Int32).toInt = (47 : Int32).toInt := fun z => c_286 (Int32.toInt_inj.mp z)
                    have z_4 := congrArg Int32.toInt c_510
                    have z_5 : ¬ (x_517 : Int32).toInt = (42 : Int32).toInt := fun z => c_518 (Int32.toInt_inj.mp z)
                    have z_6 : ¬ (x_520 : Int32).toInt = (47 : Int32).toInt := fun z => c_521 (Int32.toInt_inj.mp z)
                    have y_0 : (0 : Int32).toInt = 0 := by decide
                    have y_37 : (37 : Int32).toInt = 37 := by decide
                    have y_42 : (42 : Int32).toInt = 42 := by decide
                    have y_47 : (47 : Int32).toInt = 47 := by decide
                    omega
                  have ha_526 : (vy_31 : Int32).toInt = 0 := by
                    have z_1 : ¬ (r_13 : Int32).toInt = (0 : Int32).toInt := fun z => c_18 (Int32.toInt_inj.mp z)
                    have z_2 : ¬ (r_59 : Int32).toInt = (42 : Int32).toInt := fun z => c_62 (Int32.toInt_inj.mp z)
                    have z_3 : ¬ (r_282 : Int32).toInt = (47 : Int32).toInt := fun z => c_286 (Int32.toInt_inj.mp z)
                    have z_4 := congrArg Int32.toInt c_510
                    have z_5 : ¬ (x_517 : Int32).toInt = (42 : Int32).toInt := fun z => c_518 (Int32.toInt_inj.mp z)
                    have z_6 : ¬ (x_520 : Int32).toInt = (47 : Int32).toInt := fun z => c_521 (Int32.toInt_inj.mp z)
                    have y_0 : (0 : Int32).toInt = 0 := by decide
                    have y_37 : (37 : Int32).toInt = 37 := by decide
                    have y_42 : (42 : Int32).toInt = 42 := by decide
                    have y_47 : (47 : Int32).toInt = 47 := by decide
                    omega
                  refine cV (a := (Ma 0)) (As := []) (rest := []) (wr := []) ⟨hx, hb, hml, hown, hts⟩ hK hX hA (cu_kX12_value l D tc sk (Ma 0) (Ma 1) (Ma 2) (Ma 3) (Ma 4) (Ma 5) (Ma 6) (Ma 7) (Ma 8) (Ma 9) (Ma 10) (Ma 11) (Ma 12) (Ma 13) (Ma 14) (Ma 15) (Ma 16) (Ma 17) (Ma 18) (Ma 19) (Ma 20) (Mv 0) (Mv 1) x_522 vy_31 vy_32 (Mv 5) vy_33 (Mv 7) (Mv 8) (Mv 9) (Mv 10) (Mv 11) (Mv 12) (Mv 13) (Mv 14) (Mf 1) vy_34 vy_35 (Mj 0) b (d + 1) lo_50 ha_523 pf_43 ha_524 ha_525 h_bs ha_526 pf_48) k_1287 k_1284 k_1286 k_44 k_106 pl_X12_value ⟨Nat.le_of_ble_eq_true rfl, Nat.le_of_ble_eq_true rfl⟩ rfl rfl (va_recv hK hP (ci := 12) (q0 := 2) rfl rfl) hP hD hS [2, 3, 0, 1] [] rfl rfl rfl rfl rfl (by decide) rfl hl.1 rfl (Nat.le_of_ble_eq_true rfl) dX12_term_86 ⟨Nat.le_of_ble_eq_true rfl, Nat.le_of_ble_eq_true rfl⟩ (fun v_527 u_528 H locs hv_529 hP₀ hD₀ hS₀ => ?_)
                  obtain ⟨sv_530, sv_531, sv_532, sv_533, sv_534, sv_535⟩ := u_528
                  obtain ⟨r_539, rfl, he_540, pf_536, pf_537, pf_538, hm_542, hm_543⟩ := hv_529
                  have he_540 : ((r_539.toInt = 0 ∧ ¬ (sv_531 : Int32).toInt = 0) ∨ (r_539.toInt = 1 ∧ (vy_35 (Mv 5).toNatClampNeg).toInt + 1 ≤ (sv_535 (Mv 5).toNatClampNeg).toInt ∧ (sv_535 (Mv 5).toNatClampNeg).toInt + (x_522 : Int32).toInt ≤ (vy_35 (Mv 5).toNatClampNeg).toInt + (sv_530 : Int32).toInt ∧ (x_522 : Int32).toInt + 1 ≤ (sv_530 : Int32).toInt)) := he_540
                  have pf_536 : (x_522 : Int32).toInt ≤ (sv_530 : Int32).toInt ∧ (sv_530 : Int32).toInt ≤ ((Mv 0) : Int32).toInt := pf_536
                  have pf_537 : (vy_33 : Int32).toInt ≤ (sv_533 : Int32).toInt ∧ (sv_533 : Int32).toInt ≤ 60 := pf_537
                  have pf_538 : Agr vy_34 sv_534 (400 * ((Mv 5) : Int32).toInt + (vy_35 (Mv 5).toNatClampNeg).toInt) := pf_538
                  refine W.eq (g2 := F0 m 89 ls [.int r_539]) rfl ?_
                  replace hP : va_P D classes [((Ma 0), .inr (12, [.ref (Ma 1), .int (Mv 0), .int (Mv 1), .ref (Ma 2), .ref (Ma 3), .ref (Ma 4), .ref (Ma 5), .ref (Ma 6), .int sv_530, .int sv_531, .int sv_532, .int (Mv 5), .int sv_533, .int (Mv 7), .int (Mv 8), .ref (Ma 7), .int (Mv 9), .ref (Ma 8), .int (Mv 10), .ref (Ma 9), .ref (Ma 10), .int (Mv 11), .int (Mv 12), .int (Mv 13), .ref (Ma 11), .int (Mv 14), .ref (Ma 12), .ref (Ma 13), .ref (Ma 14), .ref (Ma 15), .ref (Ma 16), .long (Mj 0), .ref (Ma 17), .ref (Ma 18), .ref (Ma 19), .ref (Ma 20)])), ((Ma 1), .inl (tc 2, 400, .inl (Mf 1))), ((Ma 2), .inl (tc 0, 2400, .inl sv_534)), ((Ma 3), .inl (tc 0, 7, .inl sv_535))] H := hP₀
                  replace hD : va_D A [((Ma 0), .inr (12, [.ref (Ma 1), .int (Mv 0), .int (Mv 1), .ref (Ma 2), .ref (Ma 3), .ref (Ma 4), .ref (Ma 5), .ref (Ma 6), .int sv_530, .int sv_531, .int sv_532, .int (Mv 5), .int sv_533, .int (Mv 7), .int (Mv 8), .ref (Ma 7), .int (Mv 9), .ref (Ma 8), .int (Mv 10), .ref (Ma 9), .ref (Ma 10), .int (Mv 11), .int (Mv 12), .int (Mv 13), .ref (Ma 11), .int (Mv 14), .ref (Ma 12), .ref (Ma 13), .ref (Ma 14), .ref (Ma 15), .ref (Ma 16), .long (Mj 0), .ref (Ma 17), .ref (Ma 18), .ref (Ma 19), .ref (Ma 20)])), ((Ma 1), .inl (tc 2, 400, .inl (Mf 1))), ((Ma 2), .inl (tc 0, 2400, .inl sv_534)), ((Ma 3), .inl (tc 0, 7, .inl sv_535))] := hD₀
                  replace hS := hS₀
                  clear hP₀ hD₀ hS₀
                  refine lv_if_ne (tgt := 94) hx hb dX12_term_89 (by decide) (fun c_544 => ?_) (fun c_544 => ?_)
                  · skip
                    have hz_548 : (r_539 : Int32).toInt = 1 := by
                      have z_1 : ¬ (r_13 : Int32).toInt = (0 : Int32).toInt := fun z => c_18 (Int32.toInt_inj.mp z)
                      have z_2 : ¬ (r_59 : Int32).toInt = (42 : Int32).toInt := fun z => c_62 (Int32.toInt_inj.mp z)
                      have z_3 : ¬ (r_282 : Int32).toInt = (47 : Int32).toInt := fun z => c_286 (Int32.toInt_inj.mp z)
                      have z_4 := congrArg Int32.toInt c_510
                      have z_5 : ¬ (x_517 : Int32).toInt = (42 : Int32).toInt := fun z => c_518 (Int32.toInt_inj.mp z)
                      have z_6 : ¬ (x_520 : Int32).toInt = (47 : Int32).toInt := fun z => c_521 (Int32.toInt_inj.mp z)
                      have z_7 : ¬ (r_539 : Int32).toInt = (0 : Int32).toInt := fun z => c_544 (Int32.toInt_inj.mp z)
                      have y_0 : (0 : Int32).toInt = 0 := by decide
                      have y_37 : (37 : Int32).toInt = 37 := by decide
                      have y_42 : (42 : Int32).toInt = 42 := by decide
                      have y_47 : (47 : Int32).toInt = 47 := by decide
                      omega
                    obtain ⟨pf_545, pf_546, pf_547⟩ := hm_542 hz_548
                    have pf_545 : Cd sv_534 sv_535 (Mv 5) b sv_533 ((d + 1) + 1) := pf_545
                    have ar_pf_545 := Cd.ar pf_545
                    have pf_546 : RfO (pz_val (rB (Mf 1) (Mv 0)) (St0 (rB (Mf 1) (Mv 0)) x_522 vy_33)) (rB (Mf 1) (Mv 0)) sv_531 sv_530 sv_533 := pf_546
                    have ar_pf_546 := RfO.wr pf_546
                    have pf_547 : SgC sv_534 sv_535 (Mv 5) (lo_50 ++ lval (rB (Mf 1) (Mv 0)) (St0 (rB (Mf 1) (Mv 0)) x_522 vy_33)) := pf_547
                    obtain ⟨lo_549, elo_549⟩ : ∃ z : List Int, z = (lo_50 ++ lval (rB (Mf 1) (Mv 0)) (St0 (rB (Mf 1) (Mv 0)) x_522 vy_33)) := ⟨_, rfl⟩
                    rw [← elo_549] at pf_547
                    refine lv_aload_n hx hb dX12_term_94 rfl (lv_at hl 1 rfl) ?_
                    refine lv_iload_n hx hb dX12_term_95 rfl (lv_at hl 0 rfl) ?_
                    refine lv_iconst (v := 0) hx hb dX12_term_96 (by decide) ?_
                    have ha_550 : ((d + 1) : Int) ≤ sv_533.toInt := by
                      have z_1 : ¬ (r_13 : Int32).toInt = (0 : Int32).toInt := fun z => c_18 (Int32.toInt_inj.mp z)
                      have z_2 : ¬ (r_59 : Int32).toInt = (42 : Int32).toInt := fun z => c_62 (Int32.toInt_inj.mp z)
                      have z_3 : ¬ (r_282 : Int32).toInt = (47 : Int32).toInt := fun z => c_286 (Int32.toInt_inj.mp z)
                      have z_4 := congrArg Int32.toInt c_510
                      have z_5 : ¬ (x_517 : Int32).toInt = (42 : Int32).toInt := fun z => c_518 (Int32.toInt_inj.mp z)
                      have z_6 : ¬ (x_520 : Int32).toInt = (47 : Int32).toInt := fun z => c_521 (Int32.toInt_inj.mp z)
                      have z_7 : ¬ (r_539 : Int32).toInt = (0 : Int32).toInt := fun z => c_544 (Int32.toInt_inj.mp z)
                      have y_0 : (0 : Int32).toInt = 0 := by decide
                      have y_37 : (37 : Int32).toInt = 37 := by decide
                      have y_42 : (42 : Int32).toInt = 42 := by decide
                      have y_47 : (47 : Int32).toInt = 47 := by decide
                      omega
                    have ha_551 : (sv_535 (Mv 5).toNatClampNeg).toInt < 400 := by
                      have z_1 : ¬ (r_13 : Int32).toInt = (0 : Int32).toInt := fun z => c_18 (Int32.toInt_inj.mp z)
                      have z_2 : ¬ (r_59 : Int32).toInt = (42 : Int32).toInt := fun z => c_62 (Int32.toInt_inj.mp z)
                      have z_3 : ¬ (r_282 : Int32).toInt = (47 : Int32).toInt := fun z => c_286 (Int32.toInt_inj.mp z)
                      have z_4 := congrArg Int32.toInt c_510
                      have z_5 : ¬ (x_517 : Int32).toInt = (42 : Int32).toInt := fun z => c_518 (Int32.toInt_inj.mp z)
                      have z_6 : ¬ (x_520 : Int32).toInt = (47 : Int32).toInt := fun z => c_521 (Int32.toInt_inj.mp z)
                      have z_7 : ¬ (r_539 : Int32).toInt = (0 : Int32).toInt := fun z => c_544 (Int32.toInt_inj.mp z)
                      have y_0 : (0 : Int32).toInt = 0 := by decide
                      have y_37 : (37 : Int32).toInt = 37 := by decide
                      have y_42 : (42 : Int32).toInt = 42 := by decide
                      have y_47 : (47 : Int32).toInt = 47 := by decide
                      omega
                    have ha_552 : 0 ≤ (14 : Int32).toInt ∧ (14 : Int32).toInt ≤ 15 := by
                      have z_1 : ¬ (r_13 : Int32).toInt = (0 : Int32).toInt := fun z => c_18 (Int32.toInt_inj.mp z)
                      have z_2 : ¬ (r_59 : Int32).toInt = (42 : Int32).toInt := fun z => c_62 (Int32.toInt_inj.mp z)
                      have z_3 : ¬ (r_282 : Int32).toInt = (47 : Int32).toInt := fun z => c_286 (Int32.toInt_inj.mp z)
                      have z_4 := congrArg Int32.toInt c_510
                      have z_5 : ¬ (x_517 : Int32).toInt = (42 : Int32).toInt := fun z => c_518 (Int32.toInt_inj.mp z)
                      have z_6 : ¬ (x_520 : Int32).toInt = (47 : Int32).toInt := fun z => c_521 (Int32.toInt_inj.mp z)
                      have z_7 : ¬ (r_539 : Int32).toInt = (0 : Int32).toInt := fun z => c_544 (Int32.toInt_inj.mp z)
                      have y_0 : (0 : Int32).toInt = 0 := by decide
                      have y_37 : (37 : Int32).toInt = 37 := by decide
                      have y_42 : (42 : Int32).toInt = 42 := by decide
                      have y_47 : (47 : Int32).toInt = 47 := by decide
                      have y_14 : (14 : Int32).toInt = 14 := by decide
                      omega
                    have ha_553 : 0 ≤ (0 : Int32).toInt ∧ (0 : Int32).toInt ≤ 100000 := by
                      have z_1 : ¬ (r_13 : Int32).toInt = (0 : Int32).toInt := fun z => c_18 (Int32.toInt_inj.mp z)
                      have z_2 : ¬ (r_59 : Int32).toInt = (42 : Int32).toInt := fun z => c_62 (Int32.toInt_inj.mp z)
                      have z_3 : ¬ (r_282 : Int32).toInt = (47 : Int32).toInt := fun z => c_286 (Int32.toInt_inj.mp z)
                      have z_4 := congrArg Int32.toInt c_510
                      have z_5 : ¬ (x_517 : Int32).toInt = (42 : Int32).toInt := fun z => c_518 (Int32.toInt_inj.mp z)
                      have z_6 : ¬ (x_520 : Int32).toInt = (47 : Int32).toInt := fun z => c_521 (Int32.toInt_inj.mp z)
                      have z_7 : ¬ (r_539 : Int32).toInt = (0 : Int32).toInt := fun z => c_544 (Int32.toInt_inj.mp z)
                      have y_0 : (0 : Int32).toInt = 0 := by decide
                      have y_37 : (37 : Int32).toInt = 37 := by decide
                      have y_42 : (42 : Int32).toInt = 42 := by decide
                      have y_47 : (47 : Int32).toInt = 47 := by decide
                      omega
                    have ha_554 : 0 ≤ (Mv 5).toInt := by
                      have z_1 : ¬ (r_13 : Int32).toInt = (0 : Int32).toInt := fun z => c_18 (Int32.toInt_inj.mp z)
                      have z_2 : ¬ (r_59 : Int32).toInt = (42 : Int32).toInt := fun z => c_62 (Int32.toInt_inj.mp z)
                      have z_3 : ¬ (r_282 : Int32).toInt = (47 : Int32).toInt := fun z => c_286 (Int32.toInt_inj.mp z)
                      have z_4 := congrArg Int32.toInt c_510
                      have z_5 : ¬ (x_517 : Int32).toInt = (42 : Int32).toInt := fun z => c_518 (Int32.toInt_inj.mp z)
                      have z_6 : ¬ (x_520 : Int32).toInt = (47 : Int32).toInt := fun z => c_521 (Int32.toInt_inj.mp z)
                      have z_7 : ¬ (r_539 : Int32).toInt = (0 : Int32).toInt := fun z => c_544 (Int32.toInt_inj.mp z)
                      have y_0 : (0 : Int32).toInt = 0 := by decide
                      have y_37 : (37 : Int32).toInt = 37 := by decide
                      have y_42 : (42 : Int32).toInt = 42 := by decide
                      have y_47 : (47 : Int32).toInt = 47 := by decide
                      omega
                    refine cV (a := (Ma 0)) (As := [.int 14, .int 0]) (rest := []) (wr := [((Ma 1), .inl (tc 2, 400, .inl (Mf 1)))]) ⟨hx, hb, hml, hown, hts⟩ hK hX hA (cu_kX12_puts l D tc sk (Ma 0) (Ma 1) (Ma 2) (Ma 3) (Ma 4) (Ma 5) (Ma 6) (Ma 7) (Ma 8) (Ma 9) (Ma 10) (Ma 11) (Ma 12) (Ma 13) (Ma 14) (Ma 15) (Ma 16) (Ma 17) (Ma 18) (Ma 19) (Ma 20) (Mv 0) (Mv 1) sv_530 sv_531 sv_532 (Mv 5) sv_533 (Mv 7) (Mv 8) (Mv 9) (Mv 10) (Mv 11) (Mv 12) (Mv 13) (Mv 14) sv_534 sv_535 (Mj 0) 14 0 b sv_533 ((d + 1) + 1) (d + 1) lo_549 (-16) pf_545 (StpR.op (by decide) rfl (by omega)) ha_550 ha_551 pf_547 (by decide) ha_552 ha_553 ha_554) k_1296 k_1293 k_1295 k_46 k_106 pl_X12_puts ⟨Nat.le_of_ble_eq_true rfl, Nat.le_of_ble_eq_true rfl⟩ rfl rfl (va_recv hK hP (ci := 12) (q0 := 0) rfl rfl) hP hD hS [0, 2, 3] [1] rfl rfl rfl rfl rfl (by decide) rfl hl.1 rfl (Nat.le_of_ble_eq_true rfl) dX12_term_97 ⟨Nat.le_of_ble_eq_true rfl, Nat.le_of_ble_eq_true rfl⟩ (fun v_555 u_556 H locs hv_557 hP₀ hD₀ hS₀ => ?_)
                    obtain ⟨sv_558, sv_559⟩ := u_556
                    obtain ⟨rfl, pf_560, pf_561, pf_562, pf_563⟩ := hv_557
                    have pf_560 : Cd sv_558 sv_559 (Mv 5) b sv_533 (d + 1) := pf_560
                    have ar_pf_560 := Cd.ar pf_560
                    have pf_561 : Agr sv_534 sv_558 (400 * ((Mv 5) : Int32).toInt + (sv_535 (Mv 5).toNatClampNeg).toInt) := pf_561
                    have pf_562 : (sv_559 (Mv 5).toNatClampNeg).toInt = (sv_535 (Mv 5).toNatClampNeg).toInt + 1 := pf_562
                    have pf_563 : SgC sv_558 sv_559 (Mv 5) (lo_549 ++ [((-16) : Int)]) := pf_563
                    obtain ⟨lo_564, elo_564⟩ : ∃ z : List Int, z = (lo_549 ++ [(-16)]) := ⟨_, rfl⟩
                    rw [← elo_564] at pf_563
                    refine W.eq (g2 := F0 m 100 ls []) rfl ?_
                    replace hP : va_P D classes [((Ma 1), .inl (tc 2, 400, .inl (Mf 1))), ((Ma 0), .inr (12, [.ref (Ma 1), .int (Mv 0), .int (Mv 1), .ref (Ma 2), .ref (Ma 3), .ref (Ma 4), .ref (Ma 5), .ref (Ma 6), .int sv_530, .int sv_531, .int sv_532, .int (Mv 5), .int sv_533, .int (Mv 7), .int (Mv 8), .ref (Ma 7), .int (Mv 9), .ref (Ma 8), .int (Mv 10), .ref (Ma 9), .ref (Ma 10), .int (Mv 11), .int (Mv 12), .int (Mv 13), .ref (Ma 11), .int (Mv 14), .ref (Ma 12), .ref (Ma 13), .ref (Ma 14), .ref (Ma 15), .ref (Ma 16), .long (Mj 0), .ref (Ma 17), .ref (Ma 18), .ref (Ma 19), .ref (Ma 20)])), ((Ma 2), .inl (tc 0, 2400, .inl sv_558)), ((Ma 3), .inl (tc 0, 7, .inl sv_559))] H := hP₀
                    replace hD : va_D A [((Ma 1), .inl (tc 2, 400, .inl (Mf 1))), ((Ma 0), .inr (12, [.ref (Ma 1), .int (Mv 0), .int (Mv 1), .ref (Ma 2), .ref (Ma 3), .ref (Ma 4), .ref (Ma 5), .ref (Ma 6), .int sv_530, .int sv_531, .int sv_532, .int (Mv 5), .int sv_533, .int (Mv 7), .int (Mv 8), .ref (Ma 7), .int (Mv 9), .ref (Ma 8), .int (Mv 10), .ref (Ma 9), .ref (Ma 10), .int (Mv 11), .int (Mv 12), .int (Mv 13), .ref (Ma 11), .int (Mv 14), .ref (Ma 12), .ref (Ma 13), .ref (Ma 14), .ref (Ma 15), .ref (Ma 16), .long (Mj 0), .ref (Ma 17), .ref (Ma 18), .ref (Ma 19), .ref (Ma 20)])), ((Ma 2), .inl (tc 0, 2400, .inl sv_558)), ((Ma 3), .inl (tc 0, 7, .inl sv_559))] := hD₀
                    replace hS := hS₀
                    clear hP₀ hD₀ hS₀
                    refine lv_goto (tgt := 9) hx hb dX12_term_100 (by decide) ?_
                    have hb_565 : 400 - (sv_530 : Int32).toInt < 400 - (vy_30 : Int32).toInt ∧ 1 ≤ 400 - (vy_30 : Int32).toInt := by
                      have z_1 : ¬ (r_13 : Int32).toInt = (0 : Int32).toInt := fun z => c_18 (Int32.toInt_inj.mp z)
                      have z_2 : ¬ (r_59 : Int32).toInt = (42 : Int32).toInt := fun z => c_62 (Int32.toInt_inj.mp z)
                      have z_3 : ¬ (r_282 : Int32).toInt = (47 : Int32).toInt := fun z => c_286 (Int32.toInt_inj.mp z)
                      have z_4 := congrArg Int32.toInt c_510
                      have z_5 : ¬ (x_517 : Int32).toInt = (42 : Int32).toInt := fun z => c_518 (Int32.toInt_inj.mp z)
                      have z_6 : ¬ (x_520 : Int32).toInt = (47 : Int32).toInt := fun z => c_521 (Int32.toInt_inj.mp z)
                      have z_7 : ¬ (r_539 : Int32).toInt = (0 : Int32).toInt := fun z => c_544 (Int32.toInt_inj.mp z)
                      have y_0 : (0 : Int32).toInt = 0 := by decide
                      have y_37 : (37 : Int32).toInt = 37 := by decide
                      have y_42 : (42 : Int32).toInt = 42 := by decide
                      have y_47 : (47 : Int32).toInt = 47 := by decide
                      omega
                    have ha_566 : 0 ≤ (sv_530 : Int32).toInt ∧ (sv_530 : Int32).toInt ≤ ((Mv 0) : Int32).toInt ∧ ((Mv 0) : Int32).toInt ≤ 400 := by
                      have z_1 : ¬ (r_13 : Int32).toInt = (0 : Int32).toInt := fun z => c_18 (Int32.toInt_inj.mp z)
                      have z_2 : ¬ (r_59 : Int32).toInt = (42 : Int32).toInt := fun z => c_62 (Int32.toInt_inj.mp z)
                      have z_3 : ¬ (r_282 : Int32).toInt = (47 : Int32).toInt := fun z => c_286 (Int32.toInt_inj.mp z)
                      have z_4 := congrArg Int32.toInt c_510
                      have z_5 : ¬ (x_517 : Int32).toInt = (42 : Int32).toInt := fun z => c_518 (Int32.toInt_inj.mp z)
                      have z_6 : ¬ (x_520 : Int32).toInt = (47 : Int32).toInt := fun z => c_521 (Int32.toInt_inj.mp z)
                      have z_7 : ¬ (r_539 : Int32).toInt = (0 : Int32).toInt := fun z => c_544 (Int32.toInt_inj.mp z)
                      have y_0 : (0 : Int32).toInt = 0 := by decide
                      have y_37 : (37 : Int32).toInt = 37 := by decide
                      have y_42 : (42 : Int32).toInt = 42 := by decide
                      have y_47 : (47 : Int32).toInt = 47 := by decide
                      omega
                    have ha_567 : (Mv 6).toInt ≤ (sv_533 : Int32).toInt ∧ (sv_533 : Int32).toInt ≤ 60 := by
                      have z_1 : ¬ (r_13 : Int32).toInt = (0 : Int32).toInt := fun z => c_18 (Int32.toInt_inj.mp z)
                      have z_2 : ¬ (r_59 : Int32).toInt = (42 : Int32).toInt := fun z => c_62 (Int32.toInt_inj.mp z)
                      have z_3 : ¬ (r_282 : Int32).toInt = (47 : Int32).toInt := fun z => c_286 (Int32.toInt_inj.mp z)
                      have z_4 := congrArg Int32.toInt c_510
                      have z_5 : ¬ (x_517 : Int32).toInt = (42 : Int32).toInt := fun z => c_518 (Int32.toInt_inj.mp z)
                      have z_6 : ¬ (x_520 : Int32).toInt = (47 : Int32).toInt := fun z => c_521 (Int32.toInt_inj.mp z)
                      have z_7 : ¬ (r_539 : Int32).toInt = (0 : Int32).toInt := fun z => c_544 (Int32.toInt_inj.mp z)
                      have y_0 : (0 : Int32).toInt = 0 := by decide
                      have y_37 : (37 : Int32).toInt = 37 := by decide
                      have y_42 : (42 : Int32).toInt = 42 := by decide
                      have y_47 : (47 : Int32).toInt = 47 := by decide
                      omega
                    have ha_568 : ((Mf 3) (Mv 5).toNatClampNeg).toInt + 1 ≤ (sv_559 (Mv 5).toNatClampNeg).toInt ∧ (sv_559 (Mv 5).toNatClampNeg).toInt + ((Mv 2) : Int32).toInt ≤ ((Mf 3) (Mv 5).toNatClampNeg).toInt + (sv_530 : Int32).toInt ∧ ((Mv 2) : Int32).toInt + 1 ≤ (sv_530 : Int32).toInt := by
                      have z_1 : ¬ (r_13 : Int32).toInt = (0 : Int32).toInt := fun z => c_18 (Int32.toInt_inj.mp z)
                      have z_2 : ¬ (r_59 : Int32).toInt = (42 : Int32).toInt := fun z => c_62 (Int32.toInt_inj.mp z)
                      have z_3 : ¬ (r_282 : Int32).toInt = (47 : Int32).toInt := fun z => c_286 (Int32.toInt_inj.mp z)
                      have z_4 := congrArg Int32.toInt c_510
                      have z_5 : ¬ (x_517 : Int32).toInt = (42 : Int32).toInt := fun z => c_518 (Int32.toInt_inj.mp z)
                      have z_6 : ¬ (x_520 : Int32).toInt = (47 : Int32).toInt := fun z => c_521 (Int32.toInt_inj.mp z)
                      have z_7 : ¬ (r_539 : Int32).toInt = (0 : Int32).toInt := fun z => c_544 (Int32.toInt_inj.mp z)
                      have y_0 : (0 : Int32).toInt = 0 := by decide
                      have y_37 : (37 : Int32).toInt = 37 := by decide
                      have y_42 : (42 : Int32).toInt = 42 := by decide
                      have y_47 : (47 : Int32).toInt = 47 := by decide
                      omega
                    have hr_569 : (400 * ((Mv 5) : Int32).toInt + ((Mf 3) (Mv 5).toNatClampNeg).toInt) ≤ (400 * ((Mv 5) : Int32).toInt + ((Mf 3) (Mv 5).toNatClampNeg).toInt) := by
                      have z_1 : ¬ (r_13 : Int32).toInt = (0 : Int32).toInt := fun z => c_18 (Int32.toInt_inj.mp z)
                      have z_2 : ¬ (r_59 : Int32).toInt = (42 : Int32).toInt := fun z => c_62 (Int32.toInt_inj.mp z)
                      have z_3 : ¬ (r_282 : Int32).toInt = (47 : Int32).toInt := fun z => c_286 (Int32.toInt_inj.mp z)
                      have z_4 := congrArg Int32.toInt c_510
                      have z_5 : ¬ (x_517 : Int32).toInt = (42 : Int32).toInt := fun z => c_518 (Int32.toInt_inj.mp z)
                      have z_6 : ¬ (x_520 : Int32).toInt = (47 : Int32).toInt := fun z => c_521 (Int32.toInt_inj.mp z)
                      have z_7 : ¬ (r_539 : Int32).toInt = (0 : Int32).toInt := fun z => c_544 (Int32.toInt_inj.mp z)
                      have y_0 : (0 : Int32).toInt = 0 := by decide
                      have y_37 : (37 : Int32).toInt = 37 := by decide
                      have y_42 : (42 : Int32).toInt = 42 := by decide
                      have y_47 : (47 : Int32).toInt = 47 := by decide
                      omega
                    have hr_570 : (400 * ((Mv 5) : Int32).toInt + ((Mf 3) (Mv 5).toNatClampNeg).toInt) ≤ (400 * ((Mv 5) : Int32).toInt + (vy_35 (Mv 5).toNatClampNeg).toInt) := by
                      have z_1 : ¬ (r_13 : Int32).toInt = (0 : Int32).toInt := fun z => c_18 (Int32.toInt_inj.mp z)
                      have z_2 : ¬ (r_59 : Int32).toInt = (42 : Int32).toInt := fun z => c_62 (Int32.toInt_inj.mp z)
                      have z_3 : ¬ (r_282 : Int32).toInt = (47 : Int32).toInt := fun z => c_286 (Int32.toInt_inj.mp z)
                      have z_4 := congrArg Int32.toInt c_510
                      have z_5 : ¬ (x_517 : Int32).toInt = (42 : Int32).toInt := fun z => c_518 (Int32.toInt_inj.mp z)
                      have z_6 : ¬ (x_520 : Int32).toInt = (47 : Int32).toInt := fun z => c_521 (Int32.toInt_inj.mp z)
                      have z_7 : ¬ (r_539 : Int32).toInt = (0 : Int32).toInt := fun z => c_544 (Int32.toInt_inj.mp z)
                      have y_0 : (0 : Int32).toInt = 0 := by decide
                      have y_37 : (37 : Int32).toInt = 37 := by decide
                      have y_42 : (42 : Int32).toInt = 42 := by decide
                      have y_47 : (47 : Int32).toInt = 47 := by decide
                      omega
                    have hr_571 : (400 * ((Mv 5) : Int32).toInt + ((Mf 3) (Mv 5).toNatClampNeg).toInt) ≤ (400 * ((Mv 5) : Int32).toInt + (sv_535 (Mv 5).toNatClampNeg).toInt) := by
                      have z_1 : ¬ (r_13 : Int32).toInt = (0 : Int32).toInt := fun z => c_18 (Int32.toInt_inj.mp z)
                      have z_2 : ¬ (r_59 : Int32).toInt = (42 : Int32).toInt := fun z => c_62 (Int32.toInt_inj.mp z)
                      have z_3 : ¬ (r_282 : Int32).toInt = (47 : Int32).toInt := fun z => c_286 (Int32.toInt_inj.mp z)
                      have z_4 := congrArg Int32.toInt c_510
                      have z_5 : ¬ (x_517 : Int32).toInt = (42 : Int32).toInt := fun z => c_518 (Int32.toInt_inj.mp z)
                      have z_6 : ¬ (x_520 : Int32).toInt = (47 : Int32).toInt := fun z => c_521 (Int32.toInt_inj.mp z)
                      have z_7 : ¬ (r_539 : Int32).toInt = (0 : Int32).toInt := fun z => c_544 (Int32.toInt_inj.mp z)
                      have y_0 : (0 : Int32).toInt = 0 := by decide
                      have y_37 : (37 : Int32).toInt = 37 := by decide
                      have y_42 : (42 : Int32).toInt = 42 := by decide
                      have y_47 : (47 : Int32).toInt = 47 := by decide
                      omega
                    have hr_572 : (rB (Mf 1) (Mv 0) (sv_501 : Int32).toInt.toNat = 43 ∨ rB (Mf 1) (Mv 0) (sv_501 : Int32).toInt.toNat = 45 ∨ rB (Mf 1) (Mv 0) (sv_501 : Int32).toInt.toNat = 42 ∨ rB (Mf 1) (Mv 0) (sv_501 : Int32).toInt.toNat = 47 ∨ rB (Mf 1) (Mv 0) (sv_501 : Int32).toInt.toNat = 37) := by
                      have z_1 : ¬ (r_13 : Int32).toInt = (0 : Int32).toInt := fun z => c_18 (Int32.toInt_inj.mp z)
                      have z_2 : ¬ (r_59 : Int32).toInt = (42 : Int32).toInt := fun z => c_62 (Int32.toInt_inj.mp z)
                      have z_3 : ¬ (r_282 : Int32).toInt = (47 : Int32).toInt := fun z => c_286 (Int32.toInt_inj.mp z)
                      have z_4 := congrArg Int32.toInt c_510
                      have z_5 : ¬ (x_517 : Int32).toInt = (42 : Int32).toInt := fun z => c_518 (Int32.toInt_inj.mp z)
                      have z_6 : ¬ (x_520 : Int32).toInt = (47 : Int32).toInt := fun z => c_521 (Int32.toInt_inj.mp z)
                      have z_7 : ¬ (r_539 : Int32).toInt = (0 : Int32).toInt := fun z => c_544 (Int32.toInt_inj.mp z)
                      have y_0 : (0 : Int32).toInt = 0 := by decide
                      have y_37 : (37 : Int32).toInt = 37 := by decide
                      have y_42 : (42 : Int32).toInt = 42 := by decide
                      have y_47 : (47 : Int32).toInt = 47 := by decide
                      omega
                    have hi_573 : (x_522 : Int32).toInt = (sv_501 : Int32).toInt + 1 := by
                      have z_1 : ¬ (r_13 : Int32).toInt = (0 : Int32).toInt := fun z => c_18 (Int32.toInt_inj.mp z)
                      have z_2 : ¬ (r_59 : Int32).toInt = (42 : Int32).toInt := fun z => c_62 (Int32.toInt_inj.mp z)
                      have z_3 : ¬ (r_282 : Int32).toInt = (47 : Int32).toInt := fun z => c_286 (Int32.toInt_inj.mp z)
                      have z_4 := congrArg Int32.toInt c_510
                      have z_5 : ¬ (x_517 : Int32).toInt = (42 : Int32).toInt := fun z => c_518 (Int32.toInt_inj.mp z)
                      have z_6 : ¬ (x_520 : Int32).toInt = (47 : Int32).toInt := fun z => c_521 (Int32.toInt_inj.mp z)
                      have z_7 : ¬ (r_539 : Int32).toInt = (0 : Int32).toInt := fun z => c_544 (Int32.toInt_inj.mp z)
                      have y_0 : (0 : Int32).toInt = 0 := by decide
                      have y_37 : (37 : Int32).toInt = 37 := by decide
                      have y_42 : (42 : Int32).toInt = 42 := by decide
                      have y_47 : (47 : Int32).toInt = 47 := by decide
                      have y_1 : (1 : Int32).toInt = 1 := by decide
                      have t_x_522 : x_522.toInt = (sv_501 : Int32).toInt + (1 : Int32).toInt := by rw [ex_522]; exact add_toInt (by omega) (by omega)
                      omega
                    have hr_574 : (rB (Mf 1) (Mv 0) (sv_501 : Int32).toInt.toNat = 42 ∨ rB (Mf 1) (Mv 0) (sv_501 : Int32).toInt.toNat = 47 ∨ rB (Mf 1) (Mv 0) (sv_501 : Int32).toInt.toNat = 37) := by
                      have z_1 : ¬ (r_13 : Int32).toInt = (0 : Int32).toInt := fun z => c_18 (Int32.toInt_inj.mp z)
                      have z_2 : ¬ (r_59 : Int32).toInt = (42 : Int32).toInt := fun z => c_62 (Int32.toInt_inj.mp z)
                      have z_3 : ¬ (r_282 : Int32).toInt = (47 : Int32).toInt := fun z => c_286 (Int32.toInt_inj.mp z)
                      have z_4 := congrArg Int32.toInt c_510
                      have z_5 : ¬ (x_517 : Int32).toInt = (42 : Int32).toInt := fun z => c_518 (Int32.toInt_inj.mp z)
                      have z_6 : ¬ (x_520 : Int32).toInt = (47 : Int32).toInt := fun z => c_521 (Int32.toInt_inj.mp z)
                      have z_7 : ¬ (r_539 : Int32).toInt = (0 : Int32).toInt := fun z => c_544 (Int32.toInt_inj.mp z)
                      have y_0 : (0 : Int32).toInt = 0 := by decide
                      have y_37 : (37 : Int32).toInt = 37 := by decide
                      have y_42 : (42 : Int32).toInt = 42 := by decide
                      have y_47 : (47 : Int32).toInt = 47 := by decide
                      omega
                    have rg_575 := rB_rg (n := (Mv 0)) h_bs (sv_501 : Int32).toInt.toNat
                    have hr_576 : rB (Mf 1) (Mv 0) (sv_501 : Int32).toInt.toNat = 37 := by
                      have z_1 : ¬ (r_13 : Int32).toInt = (0 : Int32).toInt := fun z => c_18 (Int32.toInt_inj.mp z)
                      have z_2 : ¬ (r_59 : Int32).toInt = (42 : Int32).toInt := fun z => c_62 (Int32.toInt_inj.mp z)
                      have z_3 : ¬ (r_282 : Int32).toInt = (47 : Int32).toInt := fun z => c_286 (Int32.toInt_inj.mp z)
                      have z_4 := congrArg Int32.toInt c_510
                      have z_5 : ¬ (x_517 : Int32).toInt = (42 : Int32).toInt := fun z => c_518 (Int32.toInt_inj.mp z)
                      have z_6 : ¬ (x_520 : Int32).toInt = (47 : Int32).toInt := fun z => c_521 (Int32.toInt_inj.mp z)
                      have z_7 : ¬ (r_539 : Int32).toInt = (0 : Int32).toInt := fun z => c_544 (Int32.toInt_inj.mp z)
                      have y_0 : (0 : Int32).toInt = 0 := by decide
                      have y_37 : (37 : Int32).toInt = 37 := by decide
                      have y_42 : (42 : Int32).toInt = 42 := by decide
                      have y_47 : (47 : Int32).toInt = 47 := by decide
                      omega
                    have ho_577 : (-16 : Int) = ec_o (rB (Mf 1) (Mv 0) (sv_501 : Int32).toInt.toNat) := by rw [hr_576]; decide
                    have hi_578 : (x_522 : Int32).toInt = (sv_501 : Int32).toInt + 1 := by
                      have z_1 : ¬ (r_13 : Int32).toInt = (0 : Int32).toInt := fun z => c_18 (Int32.toInt_inj.mp z)
                      have z_2 : ¬ (r_59 : Int32).toInt = (42 : Int32).toInt := fun z => c_62 (Int32.toInt_inj.mp z)
                      have z_3 : ¬ (r_282 : Int32).toInt = (47 : Int32).toInt := fun z => c_286 (Int32.toInt_inj.mp z)
                      have z_4 := congrArg Int32.toInt c_510
                      have z_5 : ¬ (x_517 : Int32).toInt = (42 : Int32).toInt := fun z => c_518 (Int32.toInt_inj.mp z)
                      have z_6 : ¬ (x_520 : Int32).toInt = (47 : Int32).toInt := fun z => c_521 (Int32.toInt_inj.mp z)
                      have z_7 : ¬ (r_539 : Int32).toInt = (0 : Int32).toInt := fun z => c_544 (Int32.toInt_inj.mp z)
                      have y_0 : (0 : Int32).toInt = 0 := by decide
                      have y_37 : (37 : Int32).toInt = 37 := by decide
                      have y_42 : (42 : Int32).toInt = 42 := by decide
                      have y_47 : (47 : Int32).toInt = 47 := by decide
                      have y_1 : (1 : Int32).toInt = 1 := by decide
                      have t_x_522 : x_522.toInt = (sv_501 : Int32).toInt + (1 : Int32).toInt := by rw [ex_522]; exact add_toInt (by omega) (by omega)
                      omega
                    have hu_579 : SgC sv_558 sv_559 (Mv 5) (((ll ++ xq_47) ++ lval (rB (Mf 1) (Mv 0)) (St0 (rB (Mf 1) (Mv 0)) x_522 vy_33)) ++ [(-16)]) := by
                      rw [← elo_50, ← elo_549, ← elo_564]
                      exact pf_563
                    exact ih_37 sv_530 sv_531 sv_532 sv_533 sv_558 sv_559 _ _ _ (by omega) ha_566 ha_567 ha_568 (Agr.trans (k' := (400 * ((Mv 5) : Int32).toInt + ((Mf 3) (Mv 5).toNatClampNeg).toInt)) (Agr.trans (k' := (400 * ((Mv 5) : Int32).toInt + ((Mf 3) (Mv 5).toNatClampNeg).toInt)) (Agr.mono pf_42 hr_569) pf_538 ⟨Int.le_refl _, hr_570⟩) pf_561 ⟨Int.le_refl _, hr_571⟩) pf_560 (TmL.next (rB_fi h_nx.2.2) pf_44 (SkR.trans (SkR.trans pf_58 pf_281) pf_505) hr_572 hi_573 pf_546) (TmC.next (rB_fi h_nx.2.2) pf_49 (SkR.trans (SkR.trans pf_58 pf_281) pf_505) hr_574 ho_577 hi_578 pf_546 hu_579) (hP.sub [1, 0, 2, 3] rfl) (hD.sub [1, 0, 2, 3] rfl rfl) hS (lv_sub hl [1] rfl)
                  · skip
                    have hz_581 : (r_539 : Int32).toInt = 0 := by
                      have z_1 : ¬ (r_13 : Int32).toInt = (0 : Int32).toInt := fun z => c_18 (Int32.toInt_inj.mp z)
                      have z_2 : ¬ (r_59 : Int32).toInt = (42 : Int32).toInt := fun z => c_62 (Int32.toInt_inj.mp z)
                      have z_3 : ¬ (r_282 : Int32).toInt = (47 : Int32).toInt := fun z => c_286 (Int32.toInt_inj.mp z)
                      have z_4 := congrArg Int32.toInt c_510
                      have z_5 : ¬ (x_517 : Int32).toInt = (42 : Int32).toInt := fun z => c_518 (Int32.toInt_inj.mp z)
                      have z_6 : ¬ (x_520 : Int32).toInt = (47 : Int32).toInt := fun z => c_521 (Int32.toInt_inj.mp z)
                      have z_7 := congrArg Int32.toInt c_544
                      have y_0 : (0 : Int32).toInt = 0 := by decide
                      have y_37 : (37 : Int32).toInt = 37 := by decide
                      have y_42 : (42 : Int32).toInt = 42 := by decide
                      have y_47 : (47 : Int32).toInt = 47 := by decide
                      omega
                    obtain pf_580 := hm_543 hz_581
                    have pf_580 : RfE (pz_val (rB (Mf 1) (Mv 0)) (St0 (rB (Mf 1) (Mv 0)) x_522 vy_33)) sv_531 := pf_580
                    refine lv_iconst (v := 0) hx hb dX12_term_92 (by decide) ?_
                    have ha_582 : ((Mv 2) : Int32).toInt ≤ (sv_530 : Int32).toInt ∧ (sv_530 : Int32).toInt ≤ ((Mv 0) : Int32).toInt := by
                      have z_1 : ¬ (r_13 : Int32).toInt = (0 : Int32).toInt := fun z => c_18 (Int32.toInt_inj.mp z)
                      have z_2 : ¬ (r_59 : Int32).toInt = (42 : Int32).toInt := fun z => c_62 (Int32.toInt_inj.mp z)
                      have z_3 : ¬ (r_282 : Int32).toInt = (47 : Int32).toInt := fun z => c_286 (Int32.toInt_inj.mp z)
                      have z_4 := congrArg Int32.toInt c_510
                      have z_5 : ¬ (x_517 : Int32).toInt = (42 : Int32).toInt := fun z => c_518 (Int32.toInt_inj.mp z)
                      have z_6 : ¬ (x_520 : Int32).toInt = (47 : Int32).toInt := fun z => c_521 (Int32.toInt_inj.mp z)
                      have z_7 := congrArg Int32.toInt c_544
                      have y_0 : (0 : Int32).toInt = 0 := by decide
                      have y_37 : (37 : Int32).toInt = 37 := by decide
                      have y_42 : (42 : Int32).toInt = 42 := by decide
                      have y_47 : (47 : Int32).toInt = 47 := by decide
                      omega
                    have ha_583 : ((Mv 6) : Int32).toInt ≤ (sv_533 : Int32).toInt ∧ (sv_533 : Int32).toInt ≤ 60 := by
                      have z_1 : ¬ (r_13 : Int32).toInt = (0 : Int32).toInt := fun z => c_18 (Int32.toInt_inj.mp z)
                      have z_2 : ¬ (r_59 : Int32).toInt = (42 : Int32).toInt := fun z => c_62 (Int32.toInt_inj.mp z)
                      have z_3 : ¬ (r_282 : Int32).toInt = (47 : Int32).toInt := fun z => c_286 (Int32.toInt_inj.mp z)
                      have z_4 := congrArg Int32.toInt c_510
                      have z_5 : ¬ (x_517 : Int32).toInt = (42 : Int32).toInt := fun z => c_518 (Int32.toInt_inj.mp z)
                      have z_6 : ¬ (x_520 : Int32).toInt = (47 : Int32).toInt := fun z => c_521 (Int32.toInt_inj.mp z)
                      have z_7 := congrArg Int32.toInt c_544
                      have y_0 : (0 : Int32).toInt = 0 := by decide
                      have y_37 : (37 : Int32).toInt = 37 := by decide
                      have y_42 : (42 : Int32).toInt = 42 := by decide
                      have y_47 : (47 : Int32).toInt = 47 := by decide
                      omega
                    have hr_584 : (400 * ((Mv 5) : Int32).toInt + ((Mf 3) (Mv 5).toNatClampNeg).toInt) ≤ (400 * ((Mv 5) : Int32).toInt + ((Mf 3) (Mv 5).toNatClampNeg).toInt) := by
                      have z_1 : ¬ (r_13 : Int32).toInt = (0 : Int32).toInt := fun z => c_18 (Int32.toInt_inj.mp z)
                      have z_2 : ¬ (r_59 : Int32).toInt = (42 : Int32).toInt := fun z => c_62 (Int32.toInt_inj.mp z)
                      have z_3 : ¬ (r_282 : Int32).toInt = (47 : Int32).toInt := fun z => c_286 (Int32.toInt_inj.mp z)
                      have z_4 := congrArg Int32.toInt c_510
                      have z_5 : ¬ (x_517 : Int32).toInt = (42 : Int32).toInt := fun z => c_518 (Int32.toInt_inj.mp z)
                      have z_6 : ¬ (x_520 : Int32).toInt = (47 : Int32).toInt := fun z => c_521 (Int32.toInt_inj.mp z)
                      have z_7 := congrArg Int32.toInt c_544
                      have y_0 : (0 : Int32).toInt = 0 := by decide
                      have y_37 : (37 : Int32).toInt = 37 := by decide
                      have y_42 : (42 : Int32).toInt = 42 := by decide
                      have y_47 : (47 : Int32).toInt = 47 := by decide
                      omega
                    have hr_585 : (400 * ((Mv 5) : Int32).toInt + ((Mf 3) (Mv 5).toNatClampNeg).toInt) ≤ (400 * ((Mv 5) : Int32).toInt + (vy_35 (Mv 5).toNatClampNeg).toInt) := by
                      have z_1 : ¬ (r_13 : Int32).toInt = (0 : Int32).toInt := fun z => c_18 (Int32.toInt_inj.mp z)
                      have z_2 : ¬ (r_59 : Int32).toInt = (42 : Int32).toInt := fun z => c_62 (Int32.toInt_inj.mp z)
                      have z_3 : ¬ (r_282 : Int32).toInt = (47 : Int32).toInt := fun z => c_286 (Int32.toInt_inj.mp z)
                      have z_4 := congrArg Int32.toInt c_510
                      have z_5 : ¬ (x_517 : Int32).toInt = (42 : Int32).toInt := fun z => c_518 (Int32.toInt_inj.mp z)
                      have z_6 : ¬ (x_520 : Int32).toInt = (47 : Int32).toInt := fun z => c_521 (Int32.toInt_inj.mp z)
                      have z_7 := congrArg Int32.toInt c_544
                      have y_0 : (0 : Int32).toInt = 0 := by decide
                      have y_37 : (37 : Int32).toInt = 37 := by decide
                      have y_42 : (42 : Int32).toInt = 42 := by decide
                      have y_47 : (47 : Int32).toInt = 47 := by decide
                      omega
                    have hp_586 : (((0 : Int32).toInt = 0 ∧ ¬ (sv_531 : Int32).toInt = 0) ∨ ((0 : Int32).toInt = 1 ∧ ((Mf 3) (Mv 5).toNatClampNeg).toInt + 1 ≤ (sv_535 (Mv 5).toNatClampNeg).toInt ∧ (sv_535 (Mv 5).toNatClampNeg).toInt + ((Mv 2) : Int32).toInt ≤ ((Mf 3) (Mv 5).toNatClampNeg).toInt + (sv_530 : Int32).toInt ∧ ((Mv 2) : Int32).toInt + 1 ≤ (sv_530 : Int32).toInt)) := by
                      have z_1 : ¬ (r_13 : Int32).toInt = (0 : Int32).toInt := fun z => c_18 (Int32.toInt_inj.mp z)
                      have z_2 : ¬ (r_59 : Int32).toInt = (42 : Int32).toInt := fun z => c_62 (Int32.toInt_inj.mp z)
                      have z_3 : ¬ (r_282 : Int32).toInt = (47 : Int32).toInt := fun z => c_286 (Int32.toInt_inj.mp z)
                      have z_4 := congrArg Int32.toInt c_510
                      have z_5 : ¬ (x_517 : Int32).toInt = (42 : Int32).toInt := fun z => c_518 (Int32.toInt_inj.mp z)
                      have z_6 : ¬ (x_520 : Int32).toInt = (47 : Int32).toInt := fun z => c_521 (Int32.toInt_inj.mp z)
                      have z_7 := congrArg Int32.toInt c_544
                      have y_0 : (0 : Int32).toInt = 0 := by decide
                      have y_37 : (37 : Int32).toInt = 37 := by decide
                      have y_42 : (42 : Int32).toInt = 42 := by decide
                      have y_47 : (47 : Int32).toInt = 47 := by decide
                      omega
                    have hm_587 : (0 : Int32).toInt = 0 → (RfE (pz_sum (rB (Mf 1) (Mv 0)) (St0 (rB (Mf 1) (Mv 0)) (Mv 2) (Mv 6))) sv_531) := by
                      intro h1r
                      have hr_588 : (rB (Mf 1) (Mv 0) (sv_501 : Int32).toInt.toNat = 43 ∨ rB (Mf 1) (Mv 0) (sv_501 : Int32).toInt.toNat = 45 ∨ rB (Mf 1) (Mv 0) (sv_501 : Int32).toInt.toNat = 42 ∨ rB (Mf 1) (Mv 0) (sv_501 : Int32).toInt.toNat = 47 ∨ rB (Mf 1) (Mv 0) (sv_501 : Int32).toInt.toNat = 37) := by
                        have z_1 : ¬ (r_13 : Int32).toInt = (0 : Int32).toInt := fun z => c_18 (Int32.toInt_inj.mp z)
                        have z_2 : ¬ (r_59 : Int32).toInt = (42 : Int32).toInt := fun z => c_62 (Int32.toInt_inj.mp z)
                        have z_3 : ¬ (r_282 : Int32).toInt = (47 : Int32).toInt := fun z => c_286 (Int32.toInt_inj.mp z)
                        have z_4 := congrArg Int32.toInt c_510
                        have z_5 : ¬ (x_517 : Int32).toInt = (42 : Int32).toInt := fun z => c_518 (Int32.toInt_inj.mp z)
                        have z_6 : ¬ (x_520 : Int32).toInt = (47 : Int32).toInt := fun z => c_521 (Int32.toInt_inj.mp z)
                        have z_7 := congrArg Int32.toInt c_544
                        have y_0 : (0 : Int32).toInt = 0 := by decide
                        have y_37 : (37 : Int32).toInt = 37 := by decide
                        have y_42 : (42 : Int32).toInt = 42 := by decide
                        have y_47 : (47 : Int32).toInt = 47 := by decide
                        omega
                      have hi_589 : (x_522 : Int32).toInt = (sv_501 : Int32).toInt + 1 := by
                        have z_1 : ¬ (r_13 : Int32).toInt = (0 : Int32).toInt := fun z => c_18 (Int32.toInt_inj.mp z)
                        have z_2 : ¬ (r_59 : Int32).toInt = (42 : Int32).toInt := fun z => c_62 (Int32.toInt_inj.mp z)
                        have z_3 : ¬ (r_282 : Int32).toInt = (47 : Int32).toInt := fun z => c_286 (Int32.toInt_inj.mp z)
                        have z_4 := congrArg Int32.toInt c_510
                        have z_5 : ¬ (x_517 : Int32).toInt = (42 : Int32).toInt := fun z => c_518 (Int32.toInt_inj.mp z)
                        have z_6 : ¬ (x_520 : Int32).toInt = (47 : Int32).toInt := fun z => c_521 (Int32.toInt_inj.mp z)
                        have z_7 := congrArg Int32.toInt c_544
                        have y_0 : (0 : Int32).toInt = 0 := by decide
                        have y_37 : (37 : Int32).toInt = 37 := by decide
                        have y_42 : (42 : Int32).toInt = 42 := by decide
                        have y_47 : (47 : Int32).toInt = 47 := by decide
                        have y_1 : (1 : Int32).toInt = 1 := by decide
                        have t_x_522 : x_522.toInt = (sv_501 : Int32).toInt + (1 : Int32).toInt := by rw [ex_522]; exact add_toInt (by omega) (by omega)
                        omega
                      exact (TmL.er (rB_fi h_nx.2.2) pf_44 (SkR.trans (SkR.trans pf_58 pf_281) pf_505) hr_588 hi_589 pf_580)
                    exact retI (v := 0) hx hb hr hlk (rfl) hP hD hS (sv_530, sv_531, sv_532, sv_533, sv_534, sv_535) ⟨_, rfl, hp_586, ha_582, ha_583, (Agr.trans (k' := (400 * ((Mv 5) : Int32).toInt + ((Mf 3) (Mv 5).toNatClampNeg).toInt)) (Agr.mono pf_42 hr_584) pf_538 ⟨Int.le_refl _, hr_585⟩), (fun h => absurd h (by decide)), hm_587⟩ [0, 1, 2, 3] rfl rfl dX12_term_93 (Nat.le_of_ble_eq_true rfl) (Nat.le_of_ble_eq_true rfl) rfl
                · skip
                  refine lv_iconst (v := 5) hx hb dX12_term_68 (by decide) ?_
                  refine lv_goto (tgt := 74) hx hb dX12_term_69 (by decide) ?_
                  refine lv_istore_n (lv' := [(1, .int 5), (0, .ref (Ma 0))]) hx hb dX12_term_74 rfl hl (by decide) rfl (fun ls hl₀ => ?_)
                  replace hl := hl₀
                  clear hl₀
                  refine lv_aload_n hx hb dX12_term_75 rfl (lv_at hl 1 rfl) ?_
                  refine lv_dup hx hb dX12_term_76 rfl ?_
                  refine gf_X12_87 hx hb hts hown hK hP 2 rfl rfl dX12_term_77 ?_
                  refine lv_iconst (v := 1) hx hb dX12_term_80 (by decide) ?_
                  refine lv_iadd hx hb dX12_term_81 ?_
                  refine lv_topi (fun x_590 ex_590 => ?_)
                  refine pf_X12_87 hx hb hts hown hK hP hD hS 2 rfl (Nat.le_of_ble_eq_true rfl) rfl rfl dX12_term_82 (fun H locs hP₀ hD₀ hS₀ => ?_)
                  replace hP : va_P D classes [((Ma 2), .inl (tc 0, 2400, .inl vy_34)), ((Ma 3), .inl (tc 0, 7, .inl vy_35)), ((Ma 0), .inr (12, [.ref (Ma 1), .int (Mv 0), .int (Mv 1), .ref (Ma 2), .ref (Ma 3), .ref (Ma 4), .ref (Ma 5), .ref (Ma 6), .int x_590, .int vy_31, .int vy_32, .int (Mv 5), .int vy_33, .int (Mv 7), .int (Mv 8), .ref (Ma 7), .int (Mv 9), .ref (Ma 8), .int (Mv 10), .ref (Ma 9), .ref (Ma 10), .int (Mv 11), .int (Mv 12), .int (Mv 13), .ref (Ma 11), .int (Mv 14), .ref (Ma 12), .ref (Ma 13), .ref (Ma 14), .ref (Ma 15), .ref (Ma 16), .long (Mj 0), .ref (Ma 17), .ref (Ma 18), .ref (Ma 19), .ref (Ma 20)])), ((Ma 1), .inl (tc 2, 400, .inl (Mf 1)))] H := hP₀
                  replace hD : va_D A [((Ma 2), .inl (tc 0, 2400, .inl vy_34)), ((Ma 3), .inl (tc 0, 7, .inl vy_35)), ((Ma 0), .inr (12, [.ref (Ma 1), .int (Mv 0), .int (Mv 1), .ref (Ma 2), .ref (Ma 3), .ref (Ma 4), .ref (Ma 5), .ref (Ma 6), .int x_590, .int vy_31, .int vy_32, .int (Mv 5), .int vy_33, .int (Mv 7), .int (Mv 8), .ref (Ma 7), .int (Mv 9), .ref (Ma 8), .int (Mv 10), .ref (Ma 9), .ref (Ma 10), .int (Mv 11), .int (Mv 12), .int (Mv 13), .ref (Ma 11), .int (Mv 14), .ref (Ma 12), .ref (Ma 13), .ref (Ma 14), .ref (Ma 15), .ref (Ma 16), .long (Mj 0), .ref (Ma 17), .ref (Ma 18), .ref (Ma 19), .ref (Ma 20)])), ((Ma 1), .inl (tc 2, 400, .inl (Mf 1)))] := hD₀
                  replace hS := hS₀
                  clear hP₀ hD₀ hS₀
                  have tp_x_590 : (x_590 : Int32).toInt = (sv_501 : Int32).toInt + 1 := by
                    have z_1 : ¬ (r_13 : Int32).toInt = (0 : Int32).toInt := fun z => c_18 (Int32.toInt_inj.mp z)
                    have z_2 : ¬ (r_59 : Int32).toInt = (42 : Int32).toInt := fun z => c_62 (Int32.toInt_inj.mp z)
                    have z_3 : ¬ (r_282 : Int32).toInt = (47 : Int32).toInt := fun z => c_286 (Int32.toInt_inj.mp z)
                    have z_4 := congrArg Int32.toInt c_510
                    have z_5 : ¬ (x_517 : Int32).toInt = (42 : Int32).toInt := fun z => c_518 (Int32.toInt_inj.mp z)
                    have z_6 := congrArg Int32.toInt c_521
                    have y_0 : (0 : Int32).toInt = 0 := by decide
                    have y_37 : (37 : Int32).toInt = 37 := by decide
                    have y_42 : (42 : Int32).toInt = 42 := by decide
                    have y_47 : (47 : Int32).toInt = 47 := by decide
                    have y_1 : (1 : Int32).toInt = 1 := by decide
                    have t_x_590 : x_590.toInt = (sv_501 : Int32).toInt + (1 : Int32).toInt := by rw [ex_590]; exact add_toInt (by omega) (by omega)
                    omega
                  refine lv_aload_n hx hb dX12_term_85 rfl (lv_at hl 1 rfl) ?_
                  have ha_591 : 0 ≤ (x_590 : Int32).toInt ∧ (x_590 : Int32).toInt ≤ ((Mv 0) : Int32).toInt ∧ ((Mv 0) : Int32).toInt ≤ 400 := by
                    have z_1 : ¬ (r_13 : Int32).toInt = (0 : Int32).toInt := fun z => c_18 (Int32.toInt_inj.mp z)
                    have z_2 : ¬ (r_59 : Int32).toInt = (42 : Int32).toInt := fun z => c_62 (Int32.toInt_inj.mp z)
                    have z_3 : ¬ (r_282 : Int32).toInt = (47 : Int32).toInt := fun z => c_286 (Int32.toInt_inj.mp z)
                    have z_4 := congrArg Int32.toInt c_510
                    have z_5 : ¬ (x_517 : Int32).toInt = (42 : Int32).toInt := fun z => c_518 (Int32.toInt_inj.mp z)
                    have z_6 := congrArg Int32.toInt c_521
                    have y_0 : (0 : Int32).toInt = 0 := by decide
                    have y_37 : (37 : Int32).toInt = 37 := by decide
                    have y_42 : (42 : Int32).toInt = 42 := by decide
                    have y_47 : (47 : Int32).toInt = 47 := by decide
                    have y_1 : (1 : Int32).toInt = 1 := by decide
                    have t_x_590 : x_590.toInt = (sv_501 : Int32).toInt + (1 : Int32).toInt := by rw [ex_590]; exact add_toInt (by omega) (by omega)
                    omega
                  have ha_592 : (vy_35 (Mv 5).toNatClampNeg).toInt ≤ (x_590 : Int32).toInt := by
                    have z_1 : ¬ (r_13 : Int32).toInt = (0 : Int32).toInt := fun z => c_18 (Int32.toInt_inj.mp z)
                    have z_2 : ¬ (r_59 : Int32).toInt = (42 : Int32).toInt := fun z => c_62 (Int32.toInt_inj.mp z)
                    have z_3 : ¬ (r_282 : Int32).toInt = (47 : Int32).toInt := fun z => c_286 (Int32.toInt_inj.mp z)
                    have z_4 := congrArg Int32.toInt c_510
                    have z_5 : ¬ (x_517 : Int32).toInt = (42 : Int32).toInt := fun z => c_518 (Int32.toInt_inj.mp z)
                    have z_6 := congrArg Int32.toInt c_521
                    have y_0 : (0 : Int32).toInt = 0 := by decide
                    have y_37 : (37 : Int32).toInt = 37 := by decide
                    have y_42 : (42 : Int32).toInt = 42 := by decide
                    have y_47 : (47 : Int32).toInt = 47 := by decide
                    have y_1 : (1 : Int32).toInt = 1 := by decide
                    have t_x_590 : x_590.toInt = (sv_501 : Int32).toInt + (1 : Int32).toInt := by rw [ex_590]; exact add_toInt (by omega) (by omega)
                    omega
                  have ha_593 : 0 ≤ (vy_33 : Int32).toInt ∧ (vy_33 : Int32).toInt ≤ 60 := by
                    have z_1 : ¬ (r_13 : Int32).toInt = (0 : Int32).toInt := fun z => c_18 (Int32.toInt_inj.mp z)
                    have z_2 : ¬ (r_59 : Int32).toInt = (42 : Int32).toInt := fun z => c_62 (Int32.toInt_inj.mp z)
                    have z_3 : ¬ (r_282 : Int32).toInt = (47 : Int32).toInt := fun z => c_286 (Int32.toInt_inj.mp z)
                    have z_4 := congrArg Int32.toInt c_510
                    have z_5 : ¬ (x_517 : Int32).toInt = (42 : Int32).toInt := fun z => c_518 (Int32.toInt_inj.mp z)
                    have z_6 := congrArg Int32.toInt c_521
                    have y_0 : (0 : Int32).toInt = 0 := by decide
                    have y_37 : (37 : Int32).toInt = 37 := by decide
                    have y_42 : (42 : Int32).toInt = 42 := by decide
                    have y_47 : (47 : Int32).toInt = 47 := by decide
                    omega
                  have ha_594 : (vy_31 : Int32).toInt = 0 := by
                    have z_1 : ¬ (r_13 : Int32).toInt = (0 : Int32).toInt := fun z => c_18 (Int32.toInt_inj.mp z)
                    have z_2 : ¬ (r_59 : Int32).toInt = (42 : Int32).toInt := fun z => c_62 (Int32.toInt_inj.mp z)
                    have z_3 : ¬ (r_282 : Int32).toInt = (47 : Int32).toInt := fun z => c_286 (Int32.toInt_inj.mp z)
                    have z_4 := congrArg Int32.toInt c_510
                    have z_5 : ¬ (x_517 : Int32).toInt = (42 : Int32).toInt := fun z => c_518 (Int32.toInt_inj.mp z)
                    have z_6 := congrArg Int32.toInt c_521
                    have y_0 : (0 : Int32).toInt = 0 := by decide
                    have y_37 : (37 : Int32).toInt = 37 := by decide
                    have y_42 : (42 : Int32).toInt = 42 := by decide
                    have y_47 : (47 : Int32).toInt = 47 := by decide
                    omega
                  refine cV (a := (Ma 0)) (As := []) (rest := []) (wr := []) ⟨hx, hb, hml, hown, hts⟩ hK hX hA (cu_kX12_value l D tc sk (Ma 0) (Ma 1) (Ma 2) (Ma 3) (Ma 4) (Ma 5) (Ma 6) (Ma 7) (Ma 8) (Ma 9) (Ma 10) (Ma 11) (Ma 12) (Ma 13) (Ma 14) (Ma 15) (Ma 16) (Ma 17) (Ma 18) (Ma 19) (Ma 20) (Mv 0) (Mv 1) x_590 vy_31 vy_32 (Mv 5) vy_33 (Mv 7) (Mv 8) (Mv 9) (Mv 10) (Mv 11) (Mv 12) (Mv 13) (Mv 14) (Mf 1) vy_34 vy_35 (Mj 0) b (d + 1) lo_50 ha_591 pf_43 ha_592 ha_593 h_bs ha_594 pf_48) k_1287 k_1284 k_1286 k_44 k_106 pl_X12_value ⟨Nat.le_of_ble_eq_true rfl, Nat.le_of_ble_eq_true rfl⟩ rfl rfl (va_recv hK hP (ci := 12) (q0 := 2) rfl rfl) hP hD hS [2, 3, 0, 1] [] rfl rfl rfl rfl rfl (by decide) rfl hl.1 rfl (Nat.le_of_ble_eq_true rfl) dX12_term_86 ⟨Nat.le_of_ble_eq_true rfl, Nat.le_of_ble_eq_true rfl⟩ (fun v_595 u_596 H locs hv_597 hP₀ hD₀ hS₀ => ?_)
                  obtain ⟨sv_598, sv_599, sv_600, sv_601, sv_602, sv_603⟩ := u_596
                  obtain ⟨r_607, rfl, he_608, pf_604, pf_605, pf_606, hm_610, hm_611⟩ := hv_597
                  have he_608 : ((r_607.toInt = 0 ∧ ¬ (sv_599 : Int32).toInt = 0) ∨ (r_607.toInt = 1 ∧ (vy_35 (Mv 5).toNatClampNeg).toInt + 1 ≤ (sv_603 (Mv 5).toNatClampNeg).toInt ∧ (sv_603 (Mv 5).toNatClampNeg).toInt + (x_590 : Int32).toInt ≤ (vy_35 (Mv 5).toNatClampNeg).toInt + (sv_598 : Int32).toInt ∧ (x_590 : Int32).toInt + 1 ≤ (sv_598 : Int32).toInt)) := he_608
                  have pf_604 : (x_590 : Int32).toInt ≤ (sv_598 : Int32).toInt ∧ (sv_598 : Int32).toInt ≤ ((Mv 0) : Int32).toInt := pf_604
                  have pf_605 : (vy_33 : Int32).toInt ≤ (sv_601 : Int32).toInt ∧ (sv_601 : Int32).toInt ≤ 60 := pf_605
                  have pf_606 : Agr vy_34 sv_602 (400 * ((Mv 5) : Int32).toInt + (vy_35 (Mv 5).toNatClampNeg).toInt) := pf_606
                  refine W.eq (g2 := F0 m 89 ls [.int r_607]) rfl ?_
                  replace hP : va_P D classes [((Ma 0), .inr (12, [.ref (Ma 1), .int (Mv 0), .int (Mv 1), .ref (Ma 2), .ref (Ma 3), .ref (Ma 4), .ref (Ma 5), .ref (Ma 6), .int sv_598, .int sv_599, .int sv_600, .int (Mv 5), .int sv_601, .int (Mv 7), .int (Mv 8), .ref (Ma 7), .int (Mv 9), .ref (Ma 8), .int (Mv 10), .ref (Ma 9), .ref (Ma 10), .int (Mv 11), .int (Mv 12), .int (Mv 13), .ref (Ma 11), .int (Mv 14), .ref (Ma 12), .ref (Ma 13), .ref (Ma 14), .ref (Ma 15), .ref (Ma 16), .long (Mj 0), .ref (Ma 17), .ref (Ma 18), .ref (Ma 19), .ref (Ma 20)])), ((Ma 1), .inl (tc 2, 400, .inl (Mf 1))), ((Ma 2), .inl (tc 0, 2400, .inl sv_602)), ((Ma 3), .inl (tc 0, 7, .inl sv_603))] H := hP₀
                  replace hD : va_D A [((Ma 0), .inr (12, [.ref (Ma 1), .int (Mv 0), .int (Mv 1), .ref (Ma 2), .ref (Ma 3), .ref (Ma 4), .ref (Ma 5), .ref (Ma 6), .int sv_598, .int sv_599, .int sv_600, .int (Mv 5), .int sv_601, .int (Mv 7), .int (Mv 8), .ref (Ma 7), .int (Mv 9), .ref (Ma 8), .int (Mv 10), .ref (Ma 9), .ref (Ma 10), .int (Mv 11), .int (Mv 12), .int (Mv 13), .ref (Ma 11), .int (Mv 14), .ref (Ma 12), .ref (Ma 13), .ref (Ma 14), .ref (Ma 15), .ref (Ma 16), .long (Mj 0), .ref (Ma 17), .ref (Ma 18), .ref (Ma 19), .ref (Ma 20)])), ((Ma 1), .inl (tc 2, 400, .inl (Mf 1))), ((Ma 2), .inl (tc 0, 2400, .inl sv_602)), ((Ma 3), .inl (tc 0, 7, .inl sv_603))] := hD₀
                  replace hS := hS₀
                  clear hP₀ hD₀ hS₀
                  refine lv_if_ne (tgt := 94) hx hb dX12_term_89 (by decide) (fun c_612 => ?_) (fun c_612 => ?_)
                  · skip
                    have hz_616 : (r_607 : Int32).toInt = 1 := by
                      have z_1 : ¬ (r_13 : Int32).toInt = (0 : Int32).toInt := fun z => c_18 (Int32.toInt_inj.mp z)
                      have z_2 : ¬ (r_59 : Int32).toInt = (42 : Int32).toInt := fun z => c_62 (Int32.toInt_inj.mp z)
                      have z_3 : ¬ (r_282 : Int32).toInt = (47 : Int32).toInt := fun z => c_286 (Int32.toInt_inj.mp z)
                      have z_4 := congrArg Int32.toInt c_510
                      have z_5 : ¬ (x_517 : Int32).toInt = (42 : Int32).toInt := fun z => c_518 (Int32.toInt_inj.mp z)
                      have z_6 := congrArg Int32.toInt c_521
                      have z_7 : ¬ (r_607 : Int32).toInt = (0 : Int32).toInt := fun z => c_612 (Int32.toInt_inj.mp z)
                      have y_0 : (0 : Int32).toInt = 0 := by decide
                      have y_37 : (37 : Int32).toInt = 37 := by decide
                      have y_42 : (42 : Int32).toInt = 42 := by decide
                      have y_47 : (47 : Int32).toInt = 47 := by decide
                      omega
                    obtain ⟨pf_613, pf_614, pf_615⟩ := hm_610 hz_616
                    have pf_613 : Cd sv_602 sv_603 (Mv 5) b sv_601 ((d + 1) + 1) := pf_613
                    have ar_pf_613 := Cd.ar pf_613
                    have pf_614 : RfO (pz_val (rB (Mf 1) (Mv 0)) (St0 (rB (Mf 1) (Mv 0)) x_590 vy_33)) (rB (Mf 1) (Mv 0)) sv_599 sv_598 sv_601 := pf_614
                    have ar_pf_614 := RfO.wr pf_614
                    have pf_615 : SgC sv_602 sv_603 (Mv 5) (lo_50 ++ lval (rB (Mf 1) (Mv 0)) (St0 (rB (Mf 1) (Mv 0)) x_590 vy_33)) := pf_615
                    obtain ⟨lo_617, elo_617⟩ : ∃ z : List Int, z = (lo_50 ++ lval (rB (Mf 1) (Mv 0)) (St0 (rB (Mf 1) (Mv 0)) x_590 vy_33)) := ⟨_, rfl⟩
                    rw [← elo_617] at pf_615
                    refine lv_aload_n hx hb dX12_term_94 rfl (lv_at hl 1 rfl) ?_
                    refine lv_iload_n hx hb dX12_term_95 rfl (lv_at hl 0 rfl) ?_
                    refine lv_iconst (v := 0) hx hb dX12_term_96 (by decide) ?_
                    have ha_618 : ((d + 1) : Int) ≤ sv_601.toInt := by
                      have z_1 : ¬ (r_13 : Int32).toInt = (0 : Int32).toInt := fun z => c_18 (Int32.toInt_inj.mp z)
                      have z_2 : ¬ (r_59 : Int32).toInt = (42 : Int32).toInt := fun z => c_62 (Int32.toInt_inj.mp z)
                      have z_3 : ¬ (r_282 : Int32).toInt = (47 : Int32).toInt := fun z => c_286 (Int32.toInt_inj.mp z)
                      have z_4 := congrArg Int32.toInt c_510
                      have z_5 : ¬ (x_517 : Int32).toInt = (42 : Int32).toInt := fun z => c_518 (Int32.toInt_inj.mp z)
                      have z_6 := congrArg Int32.toInt c_521
                      have z_7 : ¬ (r_607 : Int32).toInt = (0 : Int32).toInt := fun z => c_612 (Int32.toInt_inj.mp z)
                      have y_0 : (0 : Int32).toInt = 0 := by decide
                      have y_37 : (37 : Int32).toInt = 37 := by decide
                      have y_42 : (42 : Int32).toInt = 42 := by decide
                      have y_47 : (47 : Int32).toInt = 47 := by decide
                      omega
                    have ha_619 : (sv_603 (Mv 5).toNatClampNeg).toInt < 400 := by
                      have z_1 : ¬ (r_13 : Int32).toInt = (0 : Int32).toInt := fun z => c_18 (Int32.toInt_inj.mp z)
                      have z_2 : ¬ (r_59 : Int32).toInt = (42 : Int32).toInt := fun z => c_62 (Int32.toInt_inj.mp z)
                      have z_3 : ¬ (r_282 : Int32).toInt = (47 : Int32).toInt := fun z => c_286 (Int32.toInt_inj.mp z)
                      have z_4 := congrArg Int32.toInt c_510
                      have z_5 : ¬ (x_517 : Int32).toInt = (42 : Int32).toInt := fun z => c_518 (Int32.toInt_inj.mp z)
                      have z_6 := congrArg Int32.toInt c_521
                      have z_7 : ¬ (r_607 : Int32).toInt = (0 : Int32).toInt := fun z => c_612 (Int32.toInt_inj.mp z)
                      have y_0 : (0 : Int32).toInt = 0 := by decide
                      have y_37 : (37 : Int32).toInt = 37 := by decide
                      have y_42 : (42 : Int32).toInt = 42 := by decide
                      have y_47 : (47 : Int32).toInt = 47 := by decide
                      omega
                    have ha_620 : 0 ≤ (5 : Int32).toInt ∧ (5 : Int32).toInt ≤ 15 := by
                      have z_1 : ¬ (r_13 : Int32).toInt = (0 : Int32).toInt := fun z => c_18 (Int32.toInt_inj.mp z)
                      have z_2 : ¬ (r_59 : Int32).toInt = (42 : Int32).toInt := fun z => c_62 (Int32.toInt_inj.mp z)
                      have z_3 : ¬ (r_282 : Int32).toInt = (47 : Int32).toInt := fun z => c_286 (Int32.toInt_inj.mp z)
                      have z_4 := congrArg Int32.toInt c_510
                      have z_5 : ¬ (x_517 : Int32).toInt = (42 : Int32).toInt := fun z => c_518 (Int32.toInt_inj.mp z)
                      have z_6 := congrArg Int32.toInt c_521
                      have z_7 : ¬ (r_607 : Int32).toInt = (0 : Int32).toInt := fun z => c_612 (Int32.toInt_inj.mp z)
                      have y_0 : (0 : Int32).toInt = 0 := by decide
                      have y_37 : (37 : Int32).toInt = 37 := by decide
                      have y_42 : (42 : Int32).toInt = 42 := by decide
                      have y_47 : (47 : Int32).toInt = 47 := by decide
                      have y_5 : (5 : Int32).toInt = 5 := by decide
                      omega
                    have ha_621 : 0 ≤ (0 : Int32).toInt ∧ (0 : Int32).toInt ≤ 100000 := by
                      have z_1 : ¬ (r_13 : Int32).toInt = (0 : Int32).toInt := fun z => c_18 (Int32.toInt_inj.mp z)
                      have z_2 : ¬ (r_59 : Int32).toInt = (42 : Int32).toInt := fun z => c_62 (Int32.toInt_inj.mp z)
                      have z_3 : ¬ (r_282 : Int32).toInt = (47 : Int32).toInt := fun z => c_286 (Int32.toInt_inj.mp z)
                      have z_4 := congrArg Int32.toInt c_510
                      have z_5 : ¬ (x_517 : Int32).toInt = (42 : Int32).toInt := fun z => c_518 (Int32.toInt_inj.mp z)
                      have z_6 := congrArg Int32.toInt c_521
                      have z_7 : ¬ (r_607 : Int32).toInt = (0 : Int32).toInt := fun z => c_612 (Int32.toInt_inj.mp z)
                      have y_0 : (0 : Int32).toInt = 0 := by decide
                      have y_37 : (37 : Int32).toInt = 37 := by decide
                      have y_42 : (42 : Int32).toInt = 42 := by decide
                      have y_47 : (47 : Int32).toInt = 47 := by decide
                      omega
                    have ha_622 : 0 ≤ (Mv 5).toInt := by
                      have z_1 : ¬ (r_13 : Int32).toInt = (0 : Int32).toInt := fun z => c_18 (Int32.toInt_inj.mp z)
                      have z_2 : ¬ (r_59 : Int32).toInt = (42 : Int32).toInt := fun z => c_62 (Int32.toInt_inj.mp z)
                      have z_3 : ¬ (r_282 : Int32).toInt = (47 : Int32).toInt := fun z => c_286 (Int32.toInt_inj.mp z)
                      have z_4 := congrArg Int32.toInt c_510
                      have z_5 : ¬ (x_517 : Int32).toInt = (42 : Int32).toInt := fun z => c_518 (Int32.toInt_inj.mp z)
                      have z_6 := congrArg Int32.toInt c_521
                      have z_7 : ¬ (r_607 : Int32).toInt = (0 : Int32).toInt := fun z => c_612 (Int32.toInt_inj.mp z)
                      have y_0 : (0 : Int32).toInt = 0 := by decide
                      have y_37 : (37 : Int32).toInt = 37 := by decide
                      have y_42 : (42 : Int32).toInt = 42 := by decide
                      have y_47 : (47 : Int32).toInt = 47 := by decide
                      omega
                    refine cV (a := (Ma 0)) (As := [.int 5, .int 0]) (rest := []) (wr := [((Ma 1), .inl (tc 2, 400, .inl (Mf 1)))]) ⟨hx, hb, hml, hown, hts⟩ hK hX hA (cu_kX12_puts l D tc sk (Ma 0) (Ma 1) (Ma 2) (Ma 3) (Ma 4) (Ma 5) (Ma 6) (Ma 7) (Ma 8) (Ma 9) (Ma 10) (Ma 11) (Ma 12) (Ma 13) (Ma 14) (Ma 15) (Ma 16) (Ma 17) (Ma 18) (Ma 19) (Ma 20) (Mv 0) (Mv 1) sv_598 sv_599 sv_600 (Mv 5) sv_601 (Mv 7) (Mv 8) (Mv 9) (Mv 10) (Mv 11) (Mv 12) (Mv 13) (Mv 14) sv_602 sv_603 (Mj 0) 5 0 b sv_601 ((d + 1) + 1) (d + 1) lo_617 (-15) pf_613 (StpR.op (by decide) rfl (by omega)) ha_618 ha_619 pf_615 (by decide) ha_620 ha_621 ha_622) k_1296 k_1293 k_1295 k_46 k_106 pl_X12_puts ⟨Nat.le_of_ble_eq_true rfl, Nat.le_of_ble_eq_true rfl⟩ rfl rfl (va_recv hK hP (ci := 12) (q0 := 0) rfl rfl) hP hD hS [0, 2, 3] [1] rfl rfl rfl rfl rfl (by decide) rfl hl.1 rfl (Nat.le_of_ble_eq_true rfl) dX12_term_97 ⟨Nat.le_of_ble_eq_true rfl, Nat.le_of_ble_eq_true rfl⟩ (fun v_623 u_624 H locs hv_625 hP₀ hD₀ hS₀ => ?_)
                    obtain ⟨sv_626, sv_627⟩ := u_624
                    obtain ⟨rfl, pf_628, pf_629, pf_630, pf_631⟩ := hv_625
                    have pf_628 : Cd sv_626 sv_627 (Mv 5) b sv_601 (d + 1) := pf_628
                    have ar_pf_628 := Cd.ar pf_628
                    have pf_629 : Agr sv_602 sv_626 (400 * ((Mv 5) : Int32).toInt + (sv_603 (Mv 5).toNatClampNeg).toInt) := pf_629
                    have pf_630 : (sv_627 (Mv 5).toNatClampNeg).toInt = (sv_603 (Mv 5).toNatClampNeg).toInt + 1 := pf_630
                    have pf_631 : SgC sv_626 sv_627 (Mv 5) (lo_617 ++ [((-15) : Int)]) := pf_631
                    obtain ⟨lo_632, elo_632⟩ : ∃ z : List Int, z = (lo_617 ++ [(-15)]) := ⟨_, rfl⟩
                    rw [← elo_632] at pf_631
                    refine W.eq (g2 := F0 m 100 ls []) rfl ?_
                    replace hP : va_P D classes [((Ma 1), .inl (tc 2, 400, .inl (Mf 1))), ((Ma 0), .inr (12, [.ref (Ma 1), .int (Mv 0), .int (Mv 1), .ref (Ma 2), .ref (Ma 3), .ref (Ma 4), .ref (Ma 5), .ref (Ma 6), .int sv_598, .int sv_599, .int sv_600, .int (Mv 5), .int sv_601, .int (Mv 7), .int (Mv 8), .ref (Ma 7), .int (Mv 9), .ref (Ma 8), .int (Mv 10), .ref (Ma 9), .ref (Ma 10), .int (Mv 11), .int (Mv 12), .int (Mv 13), .ref (Ma 11), .int (Mv 14), .ref (Ma 12), .ref (Ma 13), .ref (Ma 14), .ref (Ma 15), .ref (Ma 16), .long (Mj 0), .ref (Ma 17), .ref (Ma 18), .ref (Ma 19), .ref (Ma 20)])), ((Ma 2), .inl (tc 0, 2400, .inl sv_626)), ((Ma 3), .inl (tc 0, 7, .inl sv_627))] H := hP₀
                    replace hD : va_D A [((Ma 1), .inl (tc 2, 400, .inl (Mf 1))), ((Ma 0), .inr (12, [.ref (Ma 1), .int (Mv 0), .int (Mv 1), .ref (Ma 2), .ref (Ma 3), .ref (Ma 4), .ref (Ma 5), .ref (Ma 6), .int sv_598, .int sv_599, .int sv_600, .int (Mv 5), .int sv_601, .int (Mv 7), .int (Mv 8), .ref (Ma 7), .int (Mv 9), .ref (Ma 8), .int (Mv 10), .ref (Ma 9), .ref (Ma 10), .int (Mv 11), .int (Mv 12), .int (Mv 13), .ref (Ma 11), .int (Mv 14), .ref (Ma 12), .ref (Ma 13), .ref (Ma 14), .ref (Ma 15), .ref (Ma 16), .long (Mj 0), .ref (Ma 17), .ref (Ma 18), .ref (Ma 19), .ref (Ma 20)])), ((Ma 2), .inl (tc 0, 2400, .inl sv_626)), ((Ma 3), .inl (tc 0, 7, .inl sv_627))] := hD₀
                    replace hS := hS₀
                    clear hP₀ hD₀ hS₀
                    refine lv_goto (tgt := 9) hx hb dX12_term_100 (by decide) ?_
                    have hb_633 : 400 - (sv_598 : Int32).toInt < 400 - (vy_30 : Int32).toInt ∧ 1 ≤ 400 - (vy_30 : Int32).toInt := by
                      have z_1 : ¬ (r_13 : Int32).toInt = (0 : Int32).toInt := fun z => c_18 (Int32.toInt_inj.mp z)
                      have z_2 : ¬ (r_59 : Int32).toInt = (42 : Int32).toInt := fun z => c_62 (Int32.toInt_inj.mp z)
                      have z_3 : ¬ (r_282 : Int32).toInt = (47 : Int32).toInt := fun z => c_286 (Int32.toInt_inj.mp z)
                      have z_4 := congrArg Int32.toInt c_510
                      have z_5 : ¬ (x_517 : Int32).toInt = (42 : Int32).toInt := fun z => c_518 (Int32.toInt_inj.mp z)
                      have z_6 := congrArg Int32.toInt c_521
                      have z_7 : ¬ (r_607 : Int32).toInt = (0 : Int32).toInt := fun z => c_612 (Int32.toInt_inj.mp z)
                      have y_0 : (0 : Int32).toInt = 0 := by decide
                      have y_37 : (37 : Int32).toInt = 37 := by decide
                      have y_42 : (42 : Int32).toInt = 42 := by decide
                      have y_47 : (47 : Int32).toInt = 47 := by decide
                      omega
                    have ha_634 : 0 ≤ (sv_598 : Int32).toInt ∧ (sv_598 : Int32).toInt ≤ ((Mv 0) : Int32).toInt ∧ ((Mv 0) : Int32).toInt ≤ 400 := by
                      have z_1 : ¬ (r_13 : Int32).toInt = (0 : Int32).toInt := fun z => c_18 (Int32.toInt_inj.mp z)
                      have z_2 : ¬ (r_59 : Int32).toInt = (42 : Int32).toInt := fun z => c_62 (Int32.toInt_inj.mp z)
                      have z_3 : ¬ (r_282 : Int32).toInt = (47 : Int32).toInt := fun z => c_286 (Int32.toInt_inj.mp z)
                      have z_4 := congrArg Int32.toInt c_510
                      have z_5 : ¬ (x_517 : Int32).toInt = (42 : Int32).toInt := fun z => c_518 (Int32.toInt_inj.mp z)
                      have z_6 := congrArg Int32.toInt c_521
                      have z_7 : ¬ (r_607 : Int32).toInt = (0 : Int32).toInt := fun z => c_612 (Int32.toInt_inj.mp z)
                      have y_0 : (0 : Int32).toInt = 0 := by decide
                      have y_37 : (37 : Int32).toInt = 37 := by decide
                      have y_42 : (42 : Int32).toInt = 42 := by decide
                      have y_47 : (47 : Int32).toInt = 47 := by decide
                      omega
                    have ha_635 : (Mv 6).toInt ≤ (sv_601 : Int32).toInt ∧ (sv_601 : Int32).toInt ≤ 60 := by
                      have z_1 : ¬ (r_13 : Int32).toInt = (0 : Int32).toInt := fun z => c_18 (Int32.toInt_inj.mp z)
                      have z_2 : ¬ (r_59 : Int32).toInt = (42 : Int32).toInt := fun z => c_62 (Int32.toInt_inj.mp z)
                      have z_3 : ¬ (r_282 : Int32).toInt = (47 : Int32).toInt := fun z => c_286 (Int32.toInt_inj.mp z)
                      have z_4 := congrArg Int32.toInt c_510
                      have z_5 : ¬ (x_517 : Int32).toInt = (42 : Int32).toInt := fun z => c_518 (Int32.toInt_inj.mp z)
                      have z_6 := congrArg Int32.toInt c_521
                      have z_7 : ¬ (r_607 : Int32).toInt = (0 : Int32).toInt := fun z => c_612 (Int32.toInt_inj.mp z)
                      have y_0 : (0 : Int32).toInt = 0 := by decide
                      have y_37 : (37 : Int32).toInt = 37 := by decide
                      have y_42 : (42 : Int32).toInt = 42 := by decide
                      have y_47 : (47 : Int32).toInt = 47 := by decide
                      omega
                    have ha_636 : ((Mf 3) (Mv 5).toNatClampNeg).toInt + 1 ≤ (sv_627 (Mv 5).toNatClampNeg).toInt ∧ (sv_627 (Mv 5).toNatClampNeg).toInt + ((Mv 2) : Int32).toInt ≤ ((Mf 3) (Mv 5).toNatClampNeg).toInt + (sv_598 : Int32).toInt ∧ ((Mv 2) : Int32).toInt + 1 ≤ (sv_598 : Int32).toInt := by
                      have z_1 : ¬ (r_13 : Int32).toInt = (0 : Int32).toInt := fun z => c_18 (Int32.toInt_inj.mp z)
                      have z_2 : ¬ (r_59 : Int32).toInt = (42 : Int32).toInt := fun z => c_62 (Int32.toInt_inj.mp z)
                      have z_3 : ¬ (r_282 : Int32).toInt = (47 : Int32).toInt := fun z => c_286 (Int32.toInt_inj.mp z)
                      have z_4 := congrArg Int32.toInt c_510
                      have z_5 : ¬ (x_517 : Int32).toInt = (42 : Int32).toInt := fun z => c_518 (Int32.toInt_inj.mp z)
                      have z_6 := congrArg Int32.toInt c_521
                      have z_7 : ¬ (r_607 : Int32).toInt = (0 : Int32).toInt := fun z => c_612 (Int32.toInt_inj.mp z)
                      have y_0 : (0 : Int32).toInt = 0 := by decide
                      have y_37 : (37 : Int32).toInt = 37 := by decide
                      have y_42 : (42 : Int32).toInt = 42 := by decide
                      have y_47 : (47 : Int32).toInt = 47 := by decide
                      omega
                    have hr_637 : (400 * ((Mv 5) : Int32).toInt + ((Mf 3) (Mv 5).toNatClampNeg).toInt) ≤ (400 * ((Mv 5) : Int32).toInt + ((Mf 3) (Mv 5).toNatClampNeg).toInt) := by
                      have z_1 : ¬ (r_13 : Int32).toInt = (0 : Int32).toInt := fun z => c_18 (Int32.toInt_inj.mp z)
                      have z_2 : ¬ (r_59 : Int32).toInt = (42 : Int32).toInt := fun z => c_62 (Int32.toInt_inj.mp z)
                      have z_3 : ¬ (r_282 : Int32).toInt = (47 : Int32).toInt := fun z => c_286 (Int32.toInt_inj.mp z)
                      have z_4 := congrArg Int32.toInt c_510
                      have z_5 : ¬ (x_517 : Int32).toInt = (42 : Int32).toInt := fun z => c_518 (Int32.toInt_inj.mp z)
                      have z_6 := congrArg Int32.toInt c_521
                      have z_7 : ¬ (r_607 : Int32).toInt = (0 : Int32).toInt := fun z => c_612 (Int32.toInt_inj.mp z)
                      have y_0 : (0 : Int32).toInt = 0 := by decide
                      have y_37 : (37 : Int32).toInt = 37 := by decide
                      have y_42 : (42 : Int32).toInt = 42 := by decide
                      have y_47 : (47 : Int32).toInt = 47 := by decide
                      omega
                    have hr_638 : (400 * ((Mv 5) : Int32).toInt + ((Mf 3) (Mv 5).toNatClampNeg).toInt) ≤ (400 * ((Mv 5) : Int32).toInt + (vy_35 (Mv 5).toNatClampNeg).toInt) := by
                      have z_1 : ¬ (r_13 : Int32).toInt = (0 : Int32).toInt := fun z => c_18 (Int32.toInt_inj.mp z)
                      have z_2 : ¬ (r_59 : Int32).toInt = (42 : Int32).toInt := fun z => c_62 (Int32.toInt_inj.mp z)
                      have z_3 : ¬ (r_282 : Int32).toInt = (47 : Int32).toInt := fun z => c_286 (Int32.toInt_inj.mp z)
                      have z_4 := congrArg Int32.toInt c_510
                      have z_5 : ¬ (x_517 : Int32).toInt = (42 : Int32).toInt := fun z => c_518 (Int32.toInt_inj.mp z)
                      have z_6 := congrArg Int32.toInt c_521
                      have z_7 : ¬ (r_607 : Int32).toInt = (0 : Int32).toInt := fun z => c_612 (Int32.toInt_inj.mp z)
                      have y_0 : (0 : Int32).toInt = 0 := by decide
                      have y_37 : (37 : Int32).toInt = 37 := by decide
                      have y_42 : (42 : Int32).toInt = 42 := by decide
                      have y_47 : (47 : Int32).toInt = 47 := by decide
                      omega
                    have hr_639 : (400 * ((Mv 5) : Int32).toInt + ((Mf 3) (Mv 5).toNatClampNeg).toInt) ≤ (400 * ((Mv 5) : Int32).toInt + (sv_603 (Mv 5).toNatClampNeg).toInt) := by
                      have z_1 : ¬ (r_13 : Int32).toInt = (0 : Int32).toInt := fun z => c_18 (Int32.toInt_inj.mp z)
                      have z_2 : ¬ (r_59 : Int32).toInt = (42 : Int32).toInt := fun z => c_62 (Int32.toInt_inj.mp z)
                      have z_3 : ¬ (r_282 : Int32).toInt = (47 : Int32).toInt := fun z => c_286 (Int32.toInt_inj.mp z)
                      have z_4 := congrArg Int32.toInt c_510
                      have z_5 : ¬ (x_517 : Int32).toInt = (42 : Int32).toInt := fun z => c_518 (Int32.toInt_inj.mp z)
                      have z_6 := congrArg Int32.toInt c_521
                      have z_7 : ¬ (r_607 : Int32).toInt = (0 : Int32).toInt := fun z => c_612 (Int32.toInt_inj.mp z)
                      have y_0 : (0 : Int32).toInt = 0 := by decide
                      have y_37 : (37 : Int32).toInt = 37 := by decide
                      have y_42 : (42 : Int32).toInt = 42 := by decide
                      have y_47 : (47 : Int32).toInt = 47 := by decide
                      omega
                    have hr_640 : (rB (Mf 1) (Mv 0) (sv_501 : Int32).toInt.toNat = 43 ∨ rB (Mf 1) (Mv 0) (sv_501 : Int32).toInt.toNat = 45 ∨ rB (Mf 1) (Mv 0) (sv_501 : Int32).toInt.toNat = 42 ∨ rB (Mf 1) (Mv 0) (sv_501 : Int32).toInt.toNat = 47 ∨ rB (Mf 1) (Mv 0) (sv_501 : Int32).toInt.toNat = 37) := by
                      have z_1 : ¬ (r_13 : Int32).toInt = (0 : Int32).toInt := fun z => c_18 (Int32.toInt_inj.mp z)
                      have z_2 : ¬ (r_59 : Int32).toInt = (42 : Int32).toInt := fun z => c_62 (Int32.toInt_inj.mp z)
                      have z_3 : ¬ (r_282 : Int32).toInt = (47 : Int32).toInt := fun z => c_286 (Int32.toInt_inj.mp z)
                      have z_4 := congrArg Int32.toInt c_510
                      have z_5 : ¬ (x_517 : Int32).toInt = (42 : Int32).toInt := fun z => c_518 (Int32.toInt_inj.mp z)
                      have z_6 := congrArg Int32.toInt c_521
                      have z_7 : ¬ (r_607 : Int32).toInt = (0 : Int32).toInt := fun z => c_612 (Int32.toInt_inj.mp z)
                      have y_0 : (0 : Int32).toInt = 0 := by decide
                      have y_37 : (37 : Int32).toInt = 37 := by decide
                      have y_42 : (42 : Int32).toInt = 42 := by decide
                      have y_47 : (47 : Int32).toInt = 47 := by decide
                      omega
                    have hi_641 : (x_590 : Int32).toInt = (sv_501 : Int32).toInt + 1 := by
                      have z_1 : ¬ (r_13 : Int32).toInt = (0 : Int32).toInt := fun z => c_18 (Int32.toInt_inj.mp z)
                      have z_2 : ¬ (r_59 : Int32).toInt = (42 : Int32).toInt := fun z => c_62 (Int32.toInt_inj.mp z)
                      have z_3 : ¬ (r_282 : Int32).toInt = (47 : Int32).toInt := fun z => c_286 (Int32.toInt_inj.mp z)
                      have z_4 := congrArg Int32.toInt c_510
                      have z_5 : ¬ (x_517 : Int32).toInt = (42 : Int32).toInt := fun z => c_518 (Int32.toInt_inj.mp z)
                      have z_6 := congrArg Int32.toInt c_521
                      have z_7 : ¬ (r_607 : Int32).toInt = (0 : Int32).toInt := fun z => c_612 (Int32.toInt_inj.mp z)
                      have y_0 : (0 : Int32).toInt = 0 := by decide
                      have y_37 : (37 : Int32).toInt = 37 := by decide
                      have y_42 : (42 : Int32).toInt = 42 := by decide
                      have y_47 : (47 : Int32).toInt = 47 := by decide
                      have y_1 : (1 : Int32).toInt = 1 := by decide
                      have t_x_590 : x_590.toInt = (sv_501 : Int32).toInt + (1 : Int32).toInt := by rw [ex_590]; exact add_toInt (by omega) (by omega)
                      omega
                    have hr_642 : (rB (Mf 1) (Mv 0) (sv_501 : Int32).toInt.toNat = 42 ∨ rB (Mf 1) (Mv 0) (sv_501 : Int32).toInt.toNat = 47 ∨ rB (Mf 1) (Mv 0) (sv_501 : Int32).toInt.toNat = 37) := by
                      have z_1 : ¬ (r_13 : Int32).toInt = (0 : Int32).toInt := fun z => c_18 (Int32.toInt_inj.mp z)
                      have z_2 : ¬ (r_59 : Int32).toInt = (42 : Int32).toInt := fun z => c_62 (Int32.toInt_inj.mp z)
                      have z_3 : ¬ (r_282 : Int32).toInt = (47 : Int32).toInt := fun z => c_286 (Int32.toInt_inj.mp z)
                      have z_4 := congrArg Int32.toInt c_510
                      have z_5 : ¬ (x_517 : Int32).toInt = (42 : Int32).toInt := fun z => c_518 (Int32.toInt_inj.mp z)
                      have z_6 := congrArg Int32.toInt c_521
                      have z_7 : ¬ (r_607 : Int32).toInt = (0 : Int32).toInt := fun z => c_612 (Int32.toInt_inj.mp z)
                      have y_0 : (0 : Int32).toInt = 0 := by decide
                      have y_37 : (37 : Int32).toInt = 37 := by decide
                      have y_42 : (42 : Int32).toInt = 42 := by decide
                      have y_47 : (47 : Int32).toInt = 47 := by decide
                      omega
                    have rg_643 := rB_rg (n := (Mv 0)) h_bs (sv_501 : Int32).toInt.toNat
                    have hr_644 : rB (Mf 1) (Mv 0) (sv_501 : Int32).toInt.toNat = 47 := by
                      have z_1 : ¬ (r_13 : Int32).toInt = (0 : Int32).toInt := fun z => c_18 (Int32.toInt_inj.mp z)
                      have z_2 : ¬ (r_59 : Int32).toInt = (42 : Int32).toInt := fun z => c_62 (Int32.toInt_inj.mp z)
                      have z_3 : ¬ (r_282 : Int32).toInt = (47 : Int32).toInt := fun z => c_286 (Int32.toInt_inj.mp z)
                      have z_4 := congrArg Int32.toInt c_510
                      have z_5 : ¬ (x_517 : Int32).toInt = (42 : Int32).toInt := fun z => c_518 (Int32.toInt_inj.mp z)
                      have z_6 := congrArg Int32.toInt c_521
                      have z_7 : ¬ (r_607 : Int32).toInt = (0 : Int32).toInt := fun z => c_612 (Int32.toInt_inj.mp z)
                      have y_0 : (0 : Int32).toInt = 0 := by decide
                      have y_37 : (37 : Int32).toInt = 37 := by decide
                      have y_42 : (42 : Int32).toInt = 42 := by decide
                      have y_47 : (47 : Int32).toInt = 47 := by decide
                      omega
                    have ho_645 : (-15 : Int) = ec_o (rB (Mf 1) (Mv 0) (sv_501 : Int32).toInt.toNat) := by rw [hr_644]; decide
                    have hi_646 : (x_590 : Int32).toInt = (sv_501 : Int32).toInt + 1 := by
                      have z_1 : ¬ (r_13 : Int32).toInt = (0 : Int32).toInt := fun z => c_18 (Int32.toInt_inj.mp z)
                      have z_2 : ¬ (r_59 : Int32).toInt = (42 : Int32).toInt := fun z => c_62 (Int32.toInt_inj.mp z)
                      have z_3 : ¬ (r_282 : Int32).toInt = (47 : Int32).toInt := fun z => c_286 (Int32.toInt_inj.mp z)
                      have z_4 := congrArg Int32.toInt c_510
                      have z_5 : ¬ (x_517 : Int32).toInt = (42 : Int32).toInt := fun z => c_518 (Int32.toInt_inj.mp z)
                      have z_6 := congrArg Int32.toInt c_521
                      have z_7 : ¬ (r_607 : Int32).toInt = (0 : Int32).toInt := fun z => c_612 (Int32.toInt_inj.mp z)
                      have y_0 : (0 : Int32).toInt = 0 := by decide
                      have y_37 : (37 : Int32).toInt = 37 := by decide
                      have y_42 : (42 : Int32).toInt = 42 := by decide
                      have y_47 : (47 : Int32).toInt = 47 := by decide
                      have y_1 : (1 : Int32).toInt = 1 := by decide
                      have t_x_590 : x_590.toInt = (sv_501 : Int32).toInt + (1 : Int32).toInt := by rw [ex_590]; exact add_toInt (by omega) (by omega)
                      omega
                    have hu_647 : SgC sv_626 sv_627 (Mv 5) (((ll ++ xq_47) ++ lval (rB (Mf 1) (Mv 0)) (St0 (rB (Mf 1) (Mv 0)) x_590 vy_33)) ++ [(-15)]) := by
                      rw [← elo_50, ← elo_617, ← elo_632]
                      exact pf_631
                    exact ih_37 sv_598 sv_599 sv_600 sv_601 sv_626 sv_627 _ _ _ (by omega) ha_634 ha_635 ha_636 (Agr.trans (k' := (400 * ((Mv 5) : Int32).toInt + ((Mf 3) (Mv 5).toNatClampNeg).toInt)) (Agr.trans (k' := (400 * ((Mv 5) : Int32).toInt + ((Mf 3) (Mv 5).toNatClampNeg).toInt)) (Agr.mono pf_42 hr_637) pf_606 ⟨Int.le_refl _, hr_638⟩) pf_629 ⟨Int.le_refl _, hr_639⟩) pf_628 (TmL.next (rB_fi h_nx.2.2) pf_44 (SkR.trans (SkR.trans pf_58 pf_281) pf_505) hr_640 hi_641 pf_614) (TmC.next (rB_fi h_nx.2.2) pf_49 (SkR.trans (SkR.trans pf_58 pf_281) pf_505) hr_642 ho_645 hi_646 pf_614 hu_647) (hP.sub [1, 0, 2, 3] rfl) (hD.sub [1, 0, 2, 3] rfl rfl) hS (lv_sub hl [1] rfl)
                  · skip
                    have hz_649 : (r_607 : Int32).toInt = 0 := by
                      have z_1 : ¬ (r_13 : Int32).toInt = (0 : Int32).toInt := fun z => c_18 (Int32.toInt_inj.mp z)
                      have z_2 : ¬ (r_59 : Int32).toInt = (42 : Int32).toInt := fun z => c_62 (Int32.toInt_inj.mp z)
                      have z_3 : ¬ (r_282 : Int32).toInt = (47 : Int32).toInt := fun z => c_286 (Int32.toInt_inj.mp z)
                      have z_4 := congrArg Int32.toInt c_510
                      have z_5 : ¬ (x_517 : Int32).toInt = (42 : Int32).toInt := fun z => c_518 (Int32.toInt_inj.mp z)
                      have z_6 := congrArg Int32.toInt c_521
                      have z_7 := congrArg Int32.toInt c_612
                      have y_0 : (0 : Int32).toInt = 0 := by decide
                      have y_37 : (37 : Int32).toInt = 37 := by decide
                      have y_42 : (42 : Int32).toInt = 42 := by decide
                      have y_47 : (47 : Int32).toInt = 47 := by decide
                      omega
                    obtain pf_648 := hm_611 hz_649
                    have pf_648 : RfE (pz_val (rB (Mf 1) (Mv 0)) (St0 (rB (Mf 1) (Mv 0)) x_590 vy_33)) sv_599 := pf_648
                    refine lv_iconst (v := 0) hx hb dX12_term_92 (by decide) ?_
                    have ha_650 : ((Mv 2) : Int32).toInt ≤ (sv_598 : Int32).toInt ∧ (sv_598 : Int32).toInt ≤ ((Mv 0) : Int32).toInt := by
                      have z_1 : ¬ (r_13 : Int32).toInt = (0 : Int32).toInt := fun z => c_18 (Int32.toInt_inj.mp z)
                      have z_2 : ¬ (r_59 : Int32).toInt = (42 : Int32).toInt := fun z => c_62 (Int32.toInt_inj.mp z)
                      have z_3 : ¬ (r_282 : Int32).toInt = (47 : Int32).toInt := fun z => c_286 (Int32.toInt_inj.mp z)
                      have z_4 := congrArg Int32.toInt c_510
                      have z_5 : ¬ (x_517 : Int32).toInt = (42 : Int32).toInt := fun z => c_518 (Int32.toInt_inj.mp z)
                      have z_6 := congrArg Int32.toInt c_521
                      have z_7 := congrArg Int32.toInt c_612
                      have y_0 : (0 : Int32).toInt = 0 := by decide
                      have y_37 : (37 : Int32).toInt = 37 := by decide
                      have y_42 : (42 : Int32).toInt = 42 := by decide
                      have y_47 : (47 : Int32).toInt = 47 := by decide
                      omega
                    have ha_651 : ((Mv 6) : Int32).toInt ≤ (sv_601 : Int32).toInt ∧ (sv_601 : Int32).toInt ≤ 60 := by
                      have z_1 : ¬ (r_13 : Int32).toInt = (0 : Int32).toInt := fun z => c_18 (Int32.toInt_inj.mp z)
                      have z_2 : ¬ (r_59 : Int32).toInt = (42 : Int32).toInt := fun z => c_62 (Int32.toInt_inj.mp z)
                      have z_3 : ¬ (r_282 : Int32).toInt = (47 : Int32).toInt := fun z => c_286 (Int32.toInt_inj.mp z)
                      have z_4 := congrArg Int32.toInt c_510
                      have z_5 : ¬ (x_517 : Int32).toInt = (42 : Int32).toInt := fun z => c_518 (Int32.toInt_inj.mp z)
                      have z_6 := congrArg Int32.toInt c_521
                      have z_7 := congrArg Int32.toInt c_612
                      have y_0 : (0 : Int32).toInt = 0 := by decide
                      have y_37 : (37 : Int32).toInt = 37 := by decide
                      have y_42 : (42 : Int32).toInt = 42 := by decide
                      have y_47 : (47 : Int32).toInt = 47 := by decide
                      omega
                    have hr_652 : (400 * ((Mv 5) : Int32).toInt + ((Mf 3) (Mv 5).toNatClampNeg).toInt) ≤ (400 * ((Mv 5) : Int32).toInt + ((Mf 3) (Mv 5).toNatClampNeg).toInt) := by
                      have z_1 : ¬ (r_13 : Int32).toInt = (0 : Int32).toInt := fun z => c_18 (Int32.toInt_inj.mp z)
                      have z_2 : ¬ (r_59 : Int32).toInt = (42 : Int32).toInt := fun z => c_62 (Int32.toInt_inj.mp z)
                      have z_3 : ¬ (r_282 : Int32).toInt = (47 : Int32).toInt := fun z => c_286 (Int32.toInt_inj.mp z)
                      have z_4 := congrArg Int32.toInt c_510
                      have z_5 : ¬ (x_517 : Int32).toInt = (42 : Int32).toInt := fun z => c_518 (Int32.toInt_inj.mp z)
                      have z_6 := congrArg Int32.toInt c_521
                      have z_7 := congrArg Int32.toInt c_612
                      have y_0 : (0 : Int32).toInt = 0 := by decide
                      have y_37 : (37 : Int32).toInt = 37 := by decide
                      have y_42 : (42 : Int32).toInt = 42 := by decide
                      have y_47 : (47 : Int32).toInt = 47 := by decide
                      omega
                    have hr_653 : (400 * ((Mv 5) : Int32).toInt + ((Mf 3) (Mv 5).toNatClampNeg).toInt) ≤ (400 * ((Mv 5) : Int32).toInt + (vy_35 (Mv 5).toNatClampNeg).toInt) := by
                      have z_1 : ¬ (r_13 : Int32).toInt = (0 : Int32).toInt := fun z => c_18 (Int32.toInt_inj.mp z)
                      have z_2 : ¬ (r_59 : Int32).toInt = (42 : Int32).toInt := fun z => c_62 (Int32.toInt_inj.mp z)
                      have z_3 : ¬ (r_282 : Int32).toInt = (47 : Int32).toInt := fun z => c_286 (Int32.toInt_inj.mp z)
                      have z_4 := congrArg Int32.toInt c_510
                      have z_5 : ¬ (x_517 : Int32).toInt = (42 : Int32).toInt := fun z => c_518 (Int32.toInt_inj.mp z)
                      have z_6 := congrArg Int32.toInt c_521
                      have z_7 := congrArg Int32.toInt c_612
                      have y_0 : (0 : Int32).toInt = 0 := by decide
                      have y_37 : (37 : Int32).toInt = 37 := by decide
                      have y_42 : (42 : Int32).toInt = 42 := by decide
                      have y_47 : (47 : Int32).toInt = 47 := by decide
                      omega
                    have hp_654 : (((0 : Int32).toInt = 0 ∧ ¬ (sv_599 : Int32).toInt = 0) ∨ ((0 : Int32).toInt = 1 ∧ ((Mf 3) (Mv 5).toNatClampNeg).toInt + 1 ≤ (sv_603 (Mv 5).toNatClampNeg).toInt ∧ (sv_603 (Mv 5).toNatClampNeg).toInt + ((Mv 2) : Int32).toInt ≤ ((Mf 3) (Mv 5).toNatClampNeg).toInt + (sv_598 : Int32).toInt ∧ ((Mv 2) : Int32).toInt + 1 ≤ (sv_598 : Int32).toInt)) := by
                      have z_1 : ¬ (r_13 : Int32).toInt = (0 : Int32).toInt := fun z => c_18 (Int32.toInt_inj.mp z)
                      have z_2 : ¬ (r_59 : Int32).toInt = (42 : Int32).toInt := fun z => c_62 (Int32.toInt_inj.mp z)
                      have z_3 : ¬ (r_282 : Int32).toInt = (47 : Int32).toInt := fun z => c_286 (Int32.toInt_inj.mp z)
                      have z_4 := congrArg Int32.toInt c_510
                      have z_5 : ¬ (x_517 : Int32).toInt = (42 : Int32).toInt := fun z => c_518 (Int32.toInt_inj.mp z)
                      have z_6 := congrArg Int32.toInt c_521
                      have z_7 := congrArg Int32.toInt c_612
                      have y_0 : (0 : Int32).toInt = 0 := by decide
                      have y_37 : (37 : Int32).toInt = 37 := by decide
                      have y_42 : (42 : Int32).toInt = 42 := by decide
                      have y_47 : (47 : Int32).toInt = 47 := by decide
                      omega
                    have hm_655 : (0 : Int32).toInt = 0 → (RfE (pz_sum (rB (Mf 1) (Mv 0)) (St0 (rB (Mf 1) (Mv 0)) (Mv 2) (Mv 6))) sv_599) := by
                      intro h1r
                      have hr_656 : (rB (Mf 1) (Mv 0) (sv_501 : Int32).toInt.toNat = 43 ∨ rB (Mf 1) (Mv 0) (sv_501 : Int32).toInt.toNat = 45 ∨ rB (Mf 1) (Mv 0) (sv_501 : Int32).toInt.toNat = 42 ∨ rB (Mf 1) (Mv 0) (sv_501 : Int32).toInt.toNat = 47 ∨ rB (Mf 1) (Mv 0) (sv_501 : Int32).toInt.toNat = 37) := by
                        have z_1 : ¬ (r_13 : Int32).toInt = (0 : Int32).toInt := fun z => c_18 (Int32.toInt_inj.mp z)
                        have z_2 : ¬ (r_59 : Int32).toInt = (42 : Int32).toInt := fun z => c_62 (Int32.toInt_inj.mp z)
                        have z_3 : ¬ (r_282 : Int32).toInt = (47 : Int32).toInt := fun z => c_286 (Int32.toInt_inj.mp z)
                        have z_4 := congrArg Int32.toInt c_510
                        have z_5 : ¬ (x_517 : Int32).toInt = (42 : Int32).toInt := fun z => c_518 (Int32.toInt_inj.mp z)
                        have z_6 := congrArg Int32.toInt c_521
                        have z_7 := congrArg Int32.toInt c_612
                        have y_0 : (0 : Int32).toInt = 0 := by decide
                        have y_37 : (37 : Int32).toInt = 37 := by decide
                        have y_42 : (42 : Int32).toInt = 42 := by decide
                        have y_47 : (47 : Int32).toInt = 47 := by decide
                        omega
                      have hi_657 : (x_590 : Int32).toInt = (sv_501 : Int32).toInt + 1 := by
                        have z_1 : ¬ (r_13 : Int32).toInt = (0 : Int32).toInt := fun z => c_18 (Int32.toInt_inj.mp z)
                        have z_2 : ¬ (r_59 : Int32).toInt = (42 : Int32).toInt := fun z => c_62 (Int32.toInt_inj.mp z)
                        have z_3 : ¬ (r_282 : Int32).toInt = (47 : Int32).toInt := fun z => c_286 (Int32.toInt_inj.mp z)
                        have z_4 := congrArg Int32.toInt c_510
                        have z_5 : ¬ (x_517 : Int32).toInt = (42 : Int32).toInt := fun z => c_518 (Int32.toInt_inj.mp z)
                        have z_6 := congrArg Int32.toInt c_521
                        have z_7 := congrArg Int32.toInt c_612
                        have y_0 : (0 : Int32).toInt = 0 := by decide
                        have y_37 : (37 : Int32).toInt = 37 := by decide
                        have y_42 : (42 : Int32).toInt = 42 := by decide
                        have y_47 : (47 : Int32).toInt = 47 := by decide
                        have y_1 : (1 : Int32).toInt = 1 := by decide
                        have t_x_590 : x_590.toInt = (sv_501 : Int32).toInt + (1 : Int32).toInt := by rw [ex_590]; exact add_toInt (by omega) (by omega)
                        omega
                      exact (TmL.er (rB_fi h_nx.2.2) pf_44 (SkR.trans (SkR.trans pf_58 pf_281) pf_505) hr_656 hi_657 pf_648)
                    exact retI (v := 0) hx hb hr hlk (rfl) hP hD hS (sv_598, sv_599, sv_600, sv_601, sv_602, sv_603) ⟨_, rfl, hp_654, ha_650, ha_651, (Agr.trans (k' := (400 * ((Mv 5) : Int32).toInt + ((Mf 3) (Mv 5).toNatClampNeg).toInt)) (Agr.mono pf_42 hr_652) pf_606 ⟨Int.le_refl _, hr_653⟩), (fun h => absurd h (by decide)), hm_655⟩ [0, 1, 2, 3] rfl rfl dX12_term_93 (Nat.le_of_ble_eq_true rfl) (Nat.le_of_ble_eq_true rfl) rfl
              · skip
                refine lv_iconst (v := 4) hx hb dX12_term_50 (by decide) ?_
                refine lv_goto (tgt := 74) hx hb dX12_term_51 (by decide) ?_
                refine lv_istore_n (lv' := [(1, .int 4), (0, .ref (Ma 0))]) hx hb dX12_term_74 rfl hl (by decide) rfl (fun ls hl₀ => ?_)
                replace hl := hl₀
                clear hl₀
                refine lv_aload_n hx hb dX12_term_75 rfl (lv_at hl 1 rfl) ?_
                refine lv_dup hx hb dX12_term_76 rfl ?_
                refine gf_X12_87 hx hb hts hown hK hP 2 rfl rfl dX12_term_77 ?_
                refine lv_iconst (v := 1) hx hb dX12_term_80 (by decide) ?_
                refine lv_iadd hx hb dX12_term_81 ?_
                refine lv_topi (fun x_658 ex_658 => ?_)
                refine pf_X12_87 hx hb hts hown hK hP hD hS 2 rfl (Nat.le_of_ble_eq_true rfl) rfl rfl dX12_term_82 (fun H locs hP₀ hD₀ hS₀ => ?_)
                replace hP : va_P D classes [((Ma 2), .inl (tc 0, 2400, .inl vy_34)), ((Ma 3), .inl (tc 0, 7, .inl vy_35)), ((Ma 0), .inr (12, [.ref (Ma 1), .int (Mv 0), .int (Mv 1), .ref (Ma 2), .ref (Ma 3), .ref (Ma 4), .ref (Ma 5), .ref (Ma 6), .int x_658, .int vy_31, .int vy_32, .int (Mv 5), .int vy_33, .int (Mv 7), .int (Mv 8), .ref (Ma 7), .int (Mv 9), .ref (Ma 8), .int (Mv 10), .ref (Ma 9), .ref (Ma 10), .int (Mv 11), .int (Mv 12), .int (Mv 13), .ref (Ma 11), .int (Mv 14), .ref (Ma 12), .ref (Ma 13), .ref (Ma 14), .ref (Ma 15), .ref (Ma 16), .long (Mj 0), .ref (Ma 17), .ref (Ma 18), .ref (Ma 19), .ref (Ma 20)])), ((Ma 1), .inl (tc 2, 400, .inl (Mf 1)))] H := hP₀
                replace hD : va_D A [((Ma 2), .inl (tc 0, 2400, .inl vy_34)), ((Ma 3), .inl (tc 0, 7, .inl vy_35)), ((Ma 0), .inr (12, [.ref (Ma 1), .int (Mv 0), .int (Mv 1), .ref (Ma 2), .ref (Ma 3), .ref (Ma 4), .ref (Ma 5), .ref (Ma 6), .int x_658, .int vy_31, .int vy_32, .int (Mv 5), .int vy_33, .int (Mv 7), .int (Mv 8), .ref (Ma 7), .int (Mv 9), .ref (Ma 8), .int (Mv 10), .ref (Ma 9), .ref (Ma 10), .int (Mv 11), .int (Mv 12), .int (Mv 13), .ref (Ma 11), .int (Mv 14), .ref (Ma 12), .ref (Ma 13), .ref (Ma 14), .ref (Ma 15), .ref (Ma 16), .long (Mj 0), .ref (Ma 17), .ref (Ma 18), .ref (Ma 19), .ref (Ma 20)])), ((Ma 1), .inl (tc 2, 400, .inl (Mf 1)))] := hD₀
                replace hS := hS₀
                clear hP₀ hD₀ hS₀
                have tp_x_658 : (x_658 : Int32).toInt = (sv_501 : Int32).toInt + 1 := by
                  have z_1 : ¬ (r_13 : Int32).toInt = (0 : Int32).toInt := fun z => c_18 (Int32.toInt_inj.mp z)
                  have z_2 : ¬ (r_59 : Int32).toInt = (42 : Int32).toInt := fun z => c_62 (Int32.toInt_inj.mp z)
                  have z_3 : ¬ (r_282 : Int32).toInt = (47 : Int32).toInt := fun z => c_286 (Int32.toInt_inj.mp z)
                  have z_4 := congrArg Int32.toInt c_510
                  have z_5 := congrArg Int32.toInt c_518
                  have y_0 : (0 : Int32).toInt = 0 := by decide
                  have y_37 : (37 : Int32).toInt = 37 := by decide
                  have y_42 : (42 : Int32).toInt = 42 := by decide
                  have y_47 : (47 : Int32).toInt = 47 := by decide
                  have y_1 : (1 : Int32).toInt = 1 := by decide
                  have t_x_658 : x_658.toInt = (sv_501 : Int32).toInt + (1 : Int32).toInt := by rw [ex_658]; exact add_toInt (by omega) (by omega)
                  omega
                refine lv_aload_n hx hb dX12_term_85 rfl (lv_at hl 1 rfl) ?_
                have ha_659 : 0 ≤ (x_658 : Int32).toInt ∧ (x_658 : Int32).toInt ≤ ((Mv 0) : Int32).toInt ∧ ((Mv 0) : Int32).toInt ≤ 400 := by
                  have z_1 : ¬ (r_13 : Int32).toInt = (0 : Int32).toInt := fun z => c_18 (Int32.toInt_inj.mp z)
                  have z_2 : ¬ (r_59 : Int32).toInt = (42 : Int32).toInt := fun z => c_62 (Int32.toInt_inj.mp z)
                  have z_3 : ¬ (r_282 : Int32).toInt = (47 : Int32).toInt := fun z => c_286 (Int32.toInt_inj.mp z)
                  have z_4 := congrArg Int32.toInt c_510
                  have z_5 := congrArg Int32.toInt c_518
                  have y_0 : (0 : Int32).toInt = 0 := by decide
                  have y_37 : (37 : Int32).toInt = 37 := by decide
                  have y_42 : (42 : Int32).toInt = 42 := by decide
                  have y_47 : (47 : Int32).toInt = 47 := by decide
                  have y_1 : (1 : Int32).toInt = 1 := by decide
                  have t_x_658 : x_658.toInt = (sv_501 : Int32).toInt + (1 : Int32).toInt := by rw [ex_658]; exact add_toInt (by omega) (by omega)
                  omega
                have ha_660 : (vy_35 (Mv 5).toNatClampNeg).toInt ≤ (x_658 : Int32).toInt := by
                  have z_1 : ¬ (r_13 : Int32).toInt = (0 : Int32).toInt := fun z => c_18 (Int32.toInt_inj.mp z)
                  have z_2 : ¬ (r_59 : Int32).toInt = (42 : Int32).toInt := fun z => c_62 (Int32.toInt_inj.mp z)
                  have z_3 : ¬ (r_282 : Int32).toInt = (47 : Int32).toInt := fun z => c_286 (Int32.toInt_inj.mp z)
                  have z_4 := congrArg Int32.toInt c_510
                  have z_5 := congrArg Int32.toInt c_518
                  have y_0 : (0 : Int32).toInt = 0 := by decide
                  have y_37 : (37 : Int32).toInt = 37 := by decide
                  have y_42 : (42 : Int32).toInt = 42 := by decide
                  have y_47 : (47 : Int32).toInt = 47 := by decide
                  have y_1 : (1 : Int32).toInt = 1 := by decide
                  have t_x_658 : x_658.toInt = (sv_501 : Int32).toInt + (1 : Int32).toInt := by rw [ex_658]; exact add_toInt (by omega) (by omega)
                  omega
                have ha_661 : 0 ≤ (vy_33 : Int32).toInt ∧ (vy_33 : Int32).toInt ≤ 60 := by
                  have z_1 : ¬ (r_13 : Int32).toInt = (0 : Int32).toInt := fun z => c_18 (Int32.toInt_inj.mp z)
                  have z_2 : ¬ (r_59 : Int32).toInt = (42 : Int32).toInt := fun z => c_62 (Int32.toInt_inj.mp z)
                  have z_3 : ¬ (r_282 : Int32).toInt = (47 : Int32).toInt := fun z => c_286 (Int32.toInt_inj.mp z)
                  have z_4 := congrArg Int32.toInt c_510
                  have z_5 := congrArg Int32.toInt c_518
                  have y_0 : (0 : Int32).toInt = 0 := by decide
                  have y_37 : (37 : Int32).toInt = 37 := by decide
                  have y_42 : (42 : Int32).toInt = 42 := by decide
                  have y_47 : (47 : Int32).toInt = 47 := by decide
                  omega
                have ha_662 : (vy_31 : Int32).toInt = 0 := by
                  have z_1 : ¬ (r_13 : Int32).toInt = (0 : Int32).toInt := fun z => c_18 (Int32.toInt_inj.mp z)
                  have z_2 : ¬ (r_59 : Int32).toInt = (42 : Int32).toInt := fun z => c_62 (Int32.toInt_inj.mp z)
                  have z_3 : ¬ (r_282 : Int32).toInt = (47 : Int32).toInt := fun z => c_286 (Int32.toInt_inj.mp z)
                  have z_4 := congrArg Int32.toInt c_510
                  have z_5 := congrArg Int32.toInt c_518
                  have y_0 : (0 : Int32).toInt = 0 := by decide
                  have y_37 : (37 : Int32).toInt = 37 := by decide
                  have y_42 : (42 : Int32).toInt = 42 := by decide
                  have y_47 : (47 : Int32).toInt = 47 := by decide
                  omega
                refine cV (a := (Ma 0)) (As := []) (rest := []) (wr := []) ⟨hx, hb, hml, hown, hts⟩ hK hX hA (cu_kX12_value l D tc sk (Ma 0) (Ma 1) (Ma 2) (Ma 3) (Ma 4) (Ma 5) (Ma 6) (Ma 7) (Ma 8) (Ma 9) (Ma 10) (Ma 11) (Ma 12) (Ma 13) (Ma 14) (Ma 15) (Ma 16) (Ma 17) (Ma 18) (Ma 19) (Ma 20) (Mv 0) (Mv 1) x_658 vy_31 vy_32 (Mv 5) vy_33 (Mv 7) (Mv 8) (Mv 9) (Mv 10) (Mv 11) (Mv 12) (Mv 13) (Mv 14) (Mf 1) vy_34 vy_35 (Mj 0) b (d + 1) lo_50 ha_659 pf_43 ha_660 ha_661 h_bs ha_662 pf_48) k_1287 k_1284 k_1286 k_44 k_106 pl_X12_value ⟨Nat.le_of_ble_eq_true rfl, Nat.le_of_ble_eq_true rfl⟩ rfl rfl (va_recv hK hP (ci := 12) (q0 := 2) rfl rfl) hP hD hS [2, 3, 0, 1] [] rfl rfl rfl rfl rfl (by decide) rfl hl.1 rfl (Nat.le_of_ble_eq_true rfl) dX12_term_86 ⟨Nat.le_of_ble_eq_true rfl, Nat.le_of_ble_eq_true rfl⟩ (fun v_663 u_664 H locs hv_665 hP₀ hD₀ hS₀ => ?_)
                obtain ⟨sv_666, sv_667, sv_668, sv_669, sv_670, sv_671⟩ := u_664
                obtain ⟨r_675, rfl, he_676, pf_672, pf_673, pf_674, hm_678, hm_679⟩ := hv_665
                have he_676 : ((r_675.toInt = 0 ∧ ¬ (sv_667 : Int32).toInt = 0) ∨ (r_675.toInt = 1 ∧ (vy_35 (Mv 5).toNatClampNeg).toInt + 1 ≤ (sv_671 (Mv 5).toNatClampNeg).toInt ∧ (sv_671 (Mv 5).toNatClampNeg).toInt + (x_658 : Int32).toInt ≤ (vy_35 (Mv 5).toNatClampNeg).toInt + (sv_666 : Int32).toInt ∧ (x_658 : Int32).toInt + 1 ≤ (sv_666 : Int32).toInt)) := he_676
                have pf_672 : (x_658 : Int32).toInt ≤ (sv_666 : Int32).toInt ∧ (sv_666 : Int32).toInt ≤ ((Mv 0) : Int32).toInt := pf_672
                have pf_673 : (vy_33 : Int32).toInt ≤ (sv_669 : Int32).toInt ∧ (sv_669 : Int32).toInt ≤ 60 := pf_673
                have pf_674 : Agr vy_34 sv_670 (400 * ((Mv 5) : Int32).toInt + (vy_35 (Mv 5).toNatClampNeg).toInt) := pf_674
                refine W.eq (g2 := F0 m 89 ls [.int r_675]) rfl ?_
                replace hP : va_P D classes [((Ma 0), .inr (12, [.ref (Ma 1), .int (Mv 0), .int (Mv 1), .ref (Ma 2), .ref (Ma 3), .ref (Ma 4), .ref (Ma 5), .ref (Ma 6), .int sv_666, .int sv_667, .int sv_668, .int (Mv 5), .int sv_669, .int (Mv 7), .int (Mv 8), .ref (Ma 7), .int (Mv 9), .ref (Ma 8), .int (Mv 10), .ref (Ma 9), .ref (Ma 10), .int (Mv 11), .int (Mv 12), .int (Mv 13), .ref (Ma 11), .int (Mv 14), .ref (Ma 12), .ref (Ma 13), .ref (Ma 14), .ref (Ma 15), .ref (Ma 16), .long (Mj 0), .ref (Ma 17), .ref (Ma 18), .ref (Ma 19), .ref (Ma 20)])), ((Ma 1), .inl (tc 2, 400, .inl (Mf 1))), ((Ma 2), .inl (tc 0, 2400, .inl sv_670)), ((Ma 3), .inl (tc 0, 7, .inl sv_671))] H := hP₀
                replace hD : va_D A [((Ma 0), .inr (12, [.ref (Ma 1), .int (Mv 0), .int (Mv 1), .ref (Ma 2), .ref (Ma 3), .ref (Ma 4), .ref (Ma 5), .ref (Ma 6), .int sv_666, .int sv_667, .int sv_668, .int (Mv 5), .int sv_669, .int (Mv 7), .int (Mv 8), .ref (Ma 7), .int (Mv 9), .ref (Ma 8), .int (Mv 10), .ref (Ma 9), .ref (Ma 10), .int (Mv 11), .int (Mv 12), .int (Mv 13), .ref (Ma 11), .int (Mv 14), .ref (Ma 12), .ref (Ma 13), .ref (Ma 14), .ref (Ma 15), .ref (Ma 16), .long (Mj 0), .ref (Ma 17), .ref (Ma 18), .ref (Ma 19), .ref (Ma 20)])), ((Ma 1), .inl (tc 2, 400, .inl (Mf 1))), ((Ma 2), .inl (tc 0, 2400, .inl sv_670)), ((Ma 3), .inl (tc 0, 7, .inl sv_671))] := hD₀
                replace hS := hS₀
                clear hP₀ hD₀ hS₀
                refine lv_if_ne (tgt := 94) hx hb dX12_term_89 (by decide) (fun c_680 => ?_) (fun c_680 => ?_)
                · skip
                  have hz_684 : (r_675 : Int32).toInt = 1 := by
                    have z_1 : ¬ (r_13 : Int32).toInt = (0 : Int32).toInt := fun z => c_18 (Int32.toInt_inj.mp z)
                    have z_2 : ¬ (r_59 : Int32).toInt = (42 : Int32).toInt := fun z => c_62 (Int32.toInt_inj.mp z)
                    have z_3 : ¬ (r_282 : Int32).toInt = (47 : Int32).toInt := fun z => c_286 (Int32.toInt_inj.mp z)
                    have z_4 := congrArg Int32.toInt c_510
                    have z_5 := congrArg Int32.toInt c_518
                    have z_6 : ¬ (r_675 : Int32).toInt = (0 : Int32).toInt := fun z => c_680 (Int32.toInt_inj.mp z)
                    have y_0 : (0 : Int32).toInt = 0 := by decide
                    have y_37 : (37 : Int32).toInt = 37 := by decide
                    have y_42 : (42 : Int32).toInt = 42 := by decide
                    have y_47 : (47 : Int32).toInt = 47 := by decide
                    omega
                  obtain ⟨pf_681, pf_682, pf_683⟩ := hm_678 hz_684
                  have pf_681 : Cd sv_670 sv_671 (Mv 5) b sv_669 ((d + 1) + 1) := pf_681
                  have ar_pf_681 := Cd.ar pf_681
                  have pf_682 : RfO (pz_val (rB (Mf 1) (Mv 0)) (St0 (rB (Mf 1) (Mv 0)) x_658 vy_33)) (rB (Mf 1) (Mv 0)) sv_667 sv_666 sv_669 := pf_682
                  have ar_pf_682 := RfO.wr pf_682
                  have pf_683 : SgC sv_670 sv_671 (Mv 5) (lo_50 ++ lval (rB (Mf 1) (Mv 0)) (St0 (rB (Mf 1) (Mv 0)) x_658 vy_33)) := pf_683
                  obtain ⟨lo_685, elo_685⟩ : ∃ z : List Int, z = (lo_50 ++ lval (rB (Mf 1) (Mv 0)) (St0 (rB (Mf 1) (Mv 0)) x_658 vy_33)) := ⟨_, rfl⟩
                  rw [← elo_685] at pf_683
                  refine lv_aload_n hx hb dX12_term_94 rfl (lv_at hl 1 rfl) ?_
                  refine lv_iload_n hx hb dX12_term_95 rfl (lv_at hl 0 rfl) ?_
                  refine lv_iconst (v := 0) hx hb dX12_term_96 (by decide) ?_
                  have ha_686 : ((d + 1) : Int) ≤ sv_669.toInt := by
                    have z_1 : ¬ (r_13 : Int32).toInt = (0 : Int32).toInt := fun z => c_18 (Int32.toInt_inj.mp z)
                    have z_2 : ¬ (r_59 : Int32).toInt = (42 : Int32).toInt := fun z => c_62 (Int32.toInt_inj.mp z)
                    have z_3 : ¬ (r_282 : Int32).toInt = (47 : Int32).toInt := fun z => c_286 (Int32.toInt_inj.mp z)
                    have z_4 := congrArg Int32.toInt c_510
                    have z_5 := congrArg Int32.toInt c_518
                    have z_6 : ¬ (r_675 : Int32).toInt = (0 : Int32).toInt := fun z => c_680 (Int32.toInt_inj.mp z)
                    have y_0 : (0 : Int32).toInt = 0 := by decide
                    have y_37 : (37 : Int32).toInt = 37 := by decide
                    have y_42 : (42 : Int32).toInt = 42 := by decide
                    have y_47 : (47 : Int32).toInt = 47 := by decide
                    omega
                  have ha_687 : (sv_671 (Mv 5).toNatClampNeg).toInt < 400 := by
                    have z_1 : ¬ (r_13 : Int32).toInt = (0 : Int32).toInt := fun z => c_18 (Int32.toInt_inj.mp z)
                    have z_2 : ¬ (r_59 : Int32).toInt = (42 : Int32).toInt := fun z => c_62 (Int32.toInt_inj.mp z)
                    have z_3 : ¬ (r_282 : Int32).toInt = (47 : Int32).toInt := fun z => c_286 (Int32.toInt_inj.mp z)
                    have z_4 := congrArg Int32.toInt c_510
                    have z_5 := congrArg Int32.toInt c_518
                    have z_6 : ¬ (r_675 : Int32).toInt = (0 : Int32).toInt := fun z => c_680 (Int32.toInt_inj.mp z)
                    have y_0 : (0 : Int32).toInt = 0 := by decide
                    have y_37 : (37 : Int32).toInt = 37 := by decide
                    have y_42 : (42 : Int32).toInt = 42 := by decide
                    have y_47 : (47 : Int32).toInt = 47 := by decide
                    omega
                  have ha_688 : 0 ≤ (4 : Int32).toInt ∧ (4 : Int32).toInt ≤ 15 := by
                    have z_1 : ¬ (r_13 : Int32).toInt = (0 : Int32).toInt := fun z => c_18 (Int32.toInt_inj.mp z)
                    have z_2 : ¬ (r_59 : Int32).toInt = (42 : Int32).toInt := fun z => c_62 (Int32.toInt_inj.mp z)
                    have z_3 : ¬ (r_282 : Int32).toInt = (47 : Int32).toInt := fun z => c_286 (Int32.toInt_inj.mp z)
                    have z_4 := congrArg Int32.toInt c_510
                    have z_5 := congrArg Int32.toInt c_518
                    have z_6 : ¬ (r_675 : Int32).toInt = (0 : Int32).toInt := fun z => c_680 (Int32.toInt_inj.mp z)
                    have y_0 : (0 : Int32).toInt = 0 := by decide
                    have y_37 : (37 : Int32).toInt = 37 := by decide
                    have y_42 : (42 : Int32).toInt = 42 := by decide
                    have y_47 : (47 : Int32).toInt = 47 := by decide
                    have y_4 : (4 : Int32).toInt = 4 := by decide
                    omega
                  have ha_689 : 0 ≤ (0 : Int32).toInt ∧ (0 : Int32).toInt ≤ 100000 := by
                    have z_1 : ¬ (r_13 : Int32).toInt = (0 : Int32).toInt := fun z => c_18 (Int32.toInt_inj.mp z)
                    have z_2 : ¬ (r_59 : Int32).toInt = (42 : Int32).toInt := fun z => c_62 (Int32.toInt_inj.mp z)
                    have z_3 : ¬ (r_282 : Int32).toInt = (47 : Int32).toInt := fun z => c_286 (Int32.toInt_inj.mp z)
                    have z_4 := congrArg Int32.toInt c_510
                    have z_5 := congrArg Int32.toInt c_518
                    have z_6 : ¬ (r_675 : Int32).toInt = (0 : Int32).toInt := fun z => c_680 (Int32.toInt_inj.mp z)
                    have y_0 : (0 : Int32).toInt = 0 := by decide
                    have y_37 : (37 : Int32).toInt = 37 := by decide
                    have y_42 : (42 : Int32).toInt = 42 := by decide
                    have y_47 : (47 : Int32).toInt = 47 := by decide
                    omega
                  have ha_690 : 0 ≤ (Mv 5).toInt := by
                    have z_1 : ¬ (r_13 : Int32).toInt = (0 : Int32).toInt := fun z => c_18 (Int32.toInt_inj.mp z)
                    have z_2 : ¬ (r_59 : Int32).toInt = (42 : Int32).toInt := fun z => c_62 (Int32.toInt_inj.mp z)
                    have z_3 : ¬ (r_282 : Int32).toInt = (47 : Int32).toInt := fun z => c_286 (Int32.toInt_inj.mp z)
                    have z_4 := congrArg Int32.toInt c_510
                    have z_5 := congrArg Int32.toInt c_518
                    have z_6 : ¬ (r_675 : Int32).toInt = (0 : Int32).toInt := fun z => c_680 (Int32.toInt_inj.mp z)
                    have y_0 : (0 : Int32).toInt = 0 := by decide
                    have y_37 : (37 : Int32).toInt = 37 := by decide
                    have y_42 : (42 : Int32).toInt = 42 := by decide
                    have y_47 : (47 : Int32).toInt = 47 := by decide
                    omega
                  refine cV (a := (Ma 0)) (As := [.int 4, .int 0]) (rest := []) (wr := [((Ma 1), .inl (tc 2, 400, .inl (Mf 1)))]) ⟨hx, hb, hml, hown, hts⟩ hK hX hA (cu_kX12_puts l D tc sk (Ma 0) (Ma 1) (Ma 2) (Ma 3) (Ma 4) (Ma 5) (Ma 6) (Ma 7) (Ma 8) (Ma 9) (Ma 10) (Ma 11) (Ma 12) (Ma 13) (Ma 14) (Ma 15) (Ma 16) (Ma 17) (Ma 18) (Ma 19) (Ma 20) (Mv 0) (Mv 1) sv_666 sv_667 sv_668 (Mv 5) sv_669 (Mv 7) (Mv 8) (Mv 9) (Mv 10) (Mv 11) (Mv 12) (Mv 13) (Mv 14) sv_670 sv_671 (Mj 0) 4 0 b sv_669 ((d + 1) + 1) (d + 1) lo_685 (-14) pf_681 (StpR.op (by decide) rfl (by omega)) ha_686 ha_687 pf_683 (by decide) ha_688 ha_689 ha_690) k_1296 k_1293 k_1295 k_46 k_106 pl_X12_puts ⟨Nat.le_of_ble_eq_true rfl, Nat.le_of_ble_eq_true rfl⟩ rfl rfl (va_recv hK hP (ci := 12) (q0 := 0) rfl rfl) hP hD hS [0, 2, 3] [1] rfl rfl rfl rfl rfl (by decide) rfl hl.1 rfl (Nat.le_of_ble_eq_true rfl) dX12_term_97 ⟨Nat.le_of_ble_eq_true rfl, Nat.le_of_ble_eq_true rfl⟩ (fun v_691 u_692 H locs hv_693 hP₀ hD₀ hS₀ => ?_)
                  obtain ⟨sv_694, sv_695⟩ := u_692
                  obtain ⟨rfl, pf_696, pf_697, pf_698, pf_699⟩ := hv_693
                  have pf_696 : Cd sv_694 sv_695 (Mv 5) b sv_669 (d + 1) := pf_696
                  have ar_pf_696 := Cd.ar pf_696
                  have pf_697 : Agr sv_670 sv_694 (400 * ((Mv 5) : Int32).toInt + (sv_671 (Mv 5).toNatClampNeg).toInt) := pf_697
                  have pf_698 : (sv_695 (Mv 5).toNatClampNeg).toInt = (sv_671 (Mv 5).toNatClampNeg).toInt + 1 := pf_698
                  have pf_699 : SgC sv_694 sv_695 (Mv 5) (lo_685 ++ [((-14) : Int)]) := pf_699
                  obtain ⟨lo_700, elo_700⟩ : ∃ z : List Int, z = (lo_685 ++ [(-14)]) := ⟨_, rfl⟩
                  rw [← elo_700] at pf_699
                  refine W.eq (g2 := F0 m 100 ls []) rfl ?_
                  replace hP : va_P D classes [((Ma 1), .inl (tc 2, 400, .inl (Mf 1))), ((Ma 0), .inr (12, [.ref (Ma 1), .int (Mv 0), .int (Mv 1), .ref (Ma 2), .ref (Ma 3), .ref (Ma 4), .ref (Ma 5), .ref (Ma 6), .int sv_666, .int sv_667, .int sv_668, .int (Mv 5), .int sv_669, .int (Mv 7), .int (Mv 8), .ref (Ma 7), .int (Mv 9), .ref (Ma 8), .int (Mv 10), .ref (Ma 9), .ref (Ma 10), .int (Mv 11), .int (Mv 12), .int (Mv 13), .ref (Ma 11), .int (Mv 14), .ref (Ma 12), .ref (Ma 13), .ref (Ma 14), .ref (Ma 15), .ref (Ma 16), .long (Mj 0), .ref (Ma 17), .ref (Ma 18), .ref (Ma 19), .ref (Ma 20)])), ((Ma 2), .inl (tc 0, 2400, .inl sv_694)), ((Ma 3), .inl (tc 0, 7, .inl sv_695))] H := hP₀
                  replace hD : va_D A [((Ma 1), .inl (tc 2, 400, .inl (Mf 1))), ((Ma 0), .inr (12, [.ref (Ma 1), .int (Mv 0), .int (Mv 1), .ref (Ma 2), .ref (Ma 3), .ref (Ma 4), .ref (Ma 5), .ref (Ma 6), .int sv_666, .int sv_667, .int sv_668, .int (Mv 5), .int sv_669, .int (Mv 7), .int (Mv 8), .ref (Ma 7), .int (Mv 9), .ref (Ma 8), .int (Mv 10), .ref (Ma 9), .ref (Ma 10), .int (Mv 11), .int (Mv 12), .int (Mv 13), .ref (Ma 11), .int (Mv 14), .ref (Ma 12), .ref (Ma 13), .ref (Ma 14), .ref (Ma 15), .ref (Ma 16), .long (Mj 0), .ref (Ma 17), .ref (Ma 18), .ref (Ma 19), .ref (Ma 20)])), ((Ma 2), .inl (tc 0, 2400, .inl sv_694)), ((Ma 3), .inl (tc 0, 7, .inl sv_695))] := hD₀
                  replace hS := hS₀
                  clear hP₀ hD₀ hS₀
                  refine lv_goto (tgt := 9) hx hb dX12_term_100 (by decide) ?_
                  have hb_701 : 400 - (sv_666 : Int32).toInt < 400 - (vy_30 : Int32).toInt ∧ 1 ≤ 400 - (vy_30 : Int32).toInt := by
                    have z_1 : ¬ (r_13 : Int32).toInt = (0 : Int32).toInt := fun z => c_18 (Int32.toInt_inj.mp z)
                    have z_2 : ¬ (r_59 : Int32).toInt = (42 : Int32).toInt := fun z => c_62 (Int32.toInt_inj.mp z)
                    have z_3 : ¬ (r_282 : Int32).toInt = (47 : Int32).toInt := fun z => c_286 (Int32.toInt_inj.mp z)
                    have z_4 := congrArg Int32.toInt c_510
                    have z_5 := congrArg Int32.toInt c_518
                    have z_6 : ¬ (r_675 : Int32).toInt = (0 : Int32).toInt := fun z => c_680 (Int32.toInt_inj.mp z)
                    have y_0 : (0 : Int32).toInt = 0 := by decide
                    have y_37 : (37 : Int32).toInt = 37 := by decide
                    have y_42 : (42 : Int32).toInt = 42 := by decide
                    have y_47 : (47 : Int32).toInt = 47 := by decide
                    omega
                  have ha_702 : 0 ≤ (sv_666 : Int32).toInt ∧ (sv_666 : Int32).toInt ≤ ((Mv 0) : Int32).toInt ∧ ((Mv 0) : Int32).toInt ≤ 400 := by
                    have z_1 : ¬ (r_13 : Int32).toInt = (0 : Int32).toInt := fun z => c_18 (Int32.toInt_inj.mp z)
                    have z_2 : ¬ (r_59 : Int32).toInt = (42 : Int32).toInt := fun z => c_62 (Int32.toInt_inj.mp z)
                    have z_3 : ¬ (r_282 : Int32).toInt = (47 : Int32).toInt := fun z => c_286 (Int32.toInt_inj.mp z)
                    have z_4 := congrArg Int32.toInt c_510
                    have z_5 := congrArg Int32.toInt c_518
                    have z_6 : ¬ (r_675 : Int32).toInt = (0 : Int32).toInt := fun z => c_680 (Int32.toInt_inj.mp z)
                    have y_0 : (0 : Int32).toInt = 0 := by decide
                    have y_37 : (37 : Int32).toInt = 37 := by decide
                    have y_42 : (42 : Int32).toInt = 42 := by decide
                    have y_47 : (47 : Int32).toInt = 47 := by decide
                    omega
                  have ha_703 : (Mv 6).toInt ≤ (sv_669 : Int32).toInt ∧ (sv_669 : Int32).toInt ≤ 60 := by
                    have z_1 : ¬ (r_13 : Int32).toInt = (0 : Int32).toInt := fun z => c_18 (Int32.toInt_inj.mp z)
                    have z_2 : ¬ (r_59 : Int32).toInt = (42 : Int32).toInt := fun z => c_62 (Int32.toInt_inj.mp z)
                    have z_3 : ¬ (r_282 : Int32).toInt = (47 : Int32).toInt := fun z => c_286 (Int32.toInt_inj.mp z)
                    have z_4 := congrArg Int32.toInt c_510
                    have z_5 := congrArg Int32.toInt c_518
                    have z_6 : ¬ (r_675 : Int32).toInt = (0 : Int32).toInt := fun z => c_680 (Int32.toInt_inj.mp z)
                    have y_0 : (0 : Int32).toInt = 0 := by decide
                    have y_37 : (37 : Int32).toInt = 37 := by decide
                    have y_42 : (42 : Int32).toInt = 42 := by decide
                    have y_47 : (47 : Int32).toInt = 47 := by decide
                    omega
                  have ha_704 : ((Mf 3) (Mv 5).toNatClampNeg).toInt + 1 ≤ (sv_695 (Mv 5).toNatClampNeg).toInt ∧ (sv_695 (Mv 5).toNatClampNeg).toInt + ((Mv 2) : Int32).toInt ≤ ((Mf 3) (Mv 5).toNatClampNeg).toInt + (sv_666 : Int32).toInt ∧ ((Mv 2) : Int32).toInt + 1 ≤ (sv_666 : Int32).toInt := by
                    have z_1 : ¬ (r_13 : Int32).toInt = (0 : Int32).toInt := fun z => c_18 (Int32.toInt_inj.mp z)
                    have z_2 : ¬ (r_59 : Int32).toInt = (42 : Int32).toInt := fun z => c_62 (Int32.toInt_inj.mp z)
                    have z_3 : ¬ (r_282 : Int32).toInt = (47 : Int32).toInt := fun z => c_286 (Int32.toInt_inj.mp z)
                    have z_4 := congrArg Int32.toInt c_510
                    have z_5 := congrArg Int32.toInt c_518
                    have z_6 : ¬ (r_675 : Int32).toInt = (0 : Int32).toInt := fun z => c_680 (Int32.toInt_inj.mp z)
                    have y_0 : (0 : Int32).toInt = 0 := by decide
                    have y_37 : (37 : Int32).toInt = 37 := by decide
                    have y_42 : (42 : Int32).toInt = 42 := by decide
                    have y_47 : (47 : Int32).toInt = 47 := by decide
                    omega
                  have hr_705 : (400 * ((Mv 5) : Int32).toInt + ((Mf 3) (Mv 5).toNatClampNeg).toInt) ≤ (400 * ((Mv 5) : Int32).toInt + ((Mf 3) (Mv 5).toNatClampNeg).toInt) := by
                    have z_1 : ¬ (r_13 : Int32).toInt = (0 : Int32).toInt := fun z => c_18 (Int32.toInt_inj.mp z)
                    have z_2 : ¬ (r_59 : Int32).toInt = (42 : Int32).toInt := fun z => c_62 (Int32.toInt_inj.mp z)
                    have z_3 : ¬ (r_282 : Int32).toInt = (47 : Int32).toInt := fun z => c_286 (Int32.toInt_inj.mp z)
                    have z_4 := congrArg Int32.toInt c_510
                    have z_5 := congrArg Int32.toInt c_518
                    have z_6 : ¬ (r_675 : Int32).toInt = (0 : Int32).toInt := fun z => c_680 (Int32.toInt_inj.mp z)
                    have y_0 : (0 : Int32).toInt = 0 := by decide
                    have y_37 : (37 : Int32).toInt = 37 := by decide
                    have y_42 : (42 : Int32).toInt = 42 := by decide
                    have y_47 : (47 : Int32).toInt = 47 := by decide
                    omega
                  have hr_706 : (400 * ((Mv 5) : Int32).toInt + ((Mf 3) (Mv 5).toNatClampNeg).toInt) ≤ (400 * ((Mv 5) : Int32).toInt + (vy_35 (Mv 5).toNatClampNeg).toInt) := by
                    have z_1 : ¬ (r_13 : Int32).toInt = (0 : Int32).toInt := fun z => c_18 (Int32.toInt_inj.mp z)
                    have z_2 : ¬ (r_59 : Int32).toInt = (42 : Int32).toInt := fun z => c_62 (Int32.toInt_inj.mp z)
                    have z_3 : ¬ (r_282 : Int32).toInt = (47 : Int32).toInt := fun z => c_286 (Int32.toInt_inj.mp z)
                    have z_4 := congrArg Int32.toInt c_510
                    have z_5 := congrArg Int32.toInt c_518
                    have z_6 : ¬ (r_675 : Int32).toInt = (0 : Int32).toInt := fun z => c_680 (Int32.toInt_inj.mp z)
                    have y_0 : (0 : Int32).toInt = 0 := by decide
                    have y_37 : (37 : Int32).toInt = 37 := by decide
                    have y_42 : (42 : Int32).toInt = 42 := by decide
                    have y_47 : (47 : Int32).toInt = 47 := by decide
                    omega
                  have hr_707 : (400 * ((Mv 5) : Int32).toInt + ((Mf 3) (Mv 5).toNatClampNeg).toInt) ≤ (400 * ((Mv 5) : Int32).toInt + (sv_671 (Mv 5).toNatClampNeg).toInt) := by
                    have z_1 : ¬ (r_13 : Int32).toInt = (0 : Int32).toInt := fun z => c_18 (Int32.toInt_inj.mp z)
                    have z_2 : ¬ (r_59 : Int32).toInt = (42 : Int32).toInt := fun z => c_62 (Int32.toInt_inj.mp z)
                    have z_3 : ¬ (r_282 : Int32).toInt = (47 : Int32).toInt := fun z => c_286 (Int32.toInt_inj.mp z)
                    have z_4 := congrArg Int32.toInt c_510
                    have z_5 := congrArg Int32.toInt c_518
                    have z_6 : ¬ (r_675 : Int32).toInt = (0 : Int32).toInt := fun z => c_680 (Int32.toInt_inj.mp z)
                    have y_0 : (0 : Int32).toInt = 0 := by decide
                    have y_37 : (37 : Int32).toInt = 37 := by decide
                    have y_42 : (42 : Int32).toInt = 42 := by decide
                    have y_47 : (47 : Int32).toInt = 47 := by decide
                    omega
                  have hr_708 : (rB (Mf 1) (Mv 0) (sv_501 : Int32).toInt.toNat = 43 ∨ rB (Mf 1) (Mv 0) (sv_501 : Int32).toInt.toNat = 45 ∨ rB (Mf 1) (Mv 0) (sv_501 : Int32).toInt.toNat = 42 ∨ rB (Mf 1) (Mv 0) (sv_501 : Int32).toInt.toNat = 47 ∨ rB (Mf 1) (Mv 0) (sv_501 : Int32).toInt.toNat = 37) := by
                    have z_1 : ¬ (r_13 : Int32).toInt = (0 : Int32).toInt := fun z => c_18 (Int32.toInt_inj.mp z)
                    have z_2 : ¬ (r_59 : Int32).toInt = (42 : Int32).toInt := fun z => c_62 (Int32.toInt_inj.mp z)
                    have z_3 : ¬ (r_282 : Int32).toInt = (47 : Int32).toInt := fun z => c_286 (Int32.toInt_inj.mp z)
                    have z_4 := congrArg Int32.toInt c_510
                    have z_5 := congrArg Int32.toInt c_518
                    have z_6 : ¬ (r_675 : Int32).toInt = (0 : Int32).toInt := fun z => c_680 (Int32.toInt_inj.mp z)
                    have y_0 : (0 : Int32).toInt = 0 := by decide
                    have y_37 : (37 : Int32).toInt = 37 := by decide
                    have y_42 : (42 : Int32).toInt = 42 := by decide
                    have y_47 : (47 : Int32).toInt = 47 := by decide
                    omega
                  have hi_709 : (x_658 : Int32).toInt = (sv_501 : Int32).toInt + 1 := by
                    have z_1 : ¬ (r_13 : Int32).toInt = (0 : Int32).toInt := fun z => c_18 (Int32.toInt_inj.mp z)
                    have z_2 : ¬ (r_59 : Int32).toInt = (42 : Int32).toInt := fun z => c_62 (Int32.toInt_inj.mp z)
                    have z_3 : ¬ (r_282 : Int32).toInt = (47 : Int32).toInt := fun z => c_286 (Int32.toInt_inj.mp z)
                    have z_4 := congrArg Int32.toInt c_510
                    have z_5 := congrArg Int32.toInt c_518
                    have z_6 : ¬ (r_675 : Int32).toInt = (0 : Int32).toInt := fun z => c_680 (Int32.toInt_inj.mp z)
                    have y_0 : (0 : Int32).toInt = 0 := by decide
                    have y_37 : (37 : Int32).toInt = 37 := by decide
                    have y_42 : (42 : Int32).toInt = 42 := by decide
                    have y_47 : (47 : Int32).toInt = 47 := by decide
                    have y_1 : (1 : Int32).toInt = 1 := by decide
                    have t_x_658 : x_658.toInt = (sv_501 : Int32).toInt + (1 : Int32).toInt := by rw [ex_658]; exact add_toInt (by omega) (by omega)
                    omega
                  have hr_710 : (rB (Mf 1) (Mv 0) (sv_501 : Int32).toInt.toNat = 42 ∨ rB (Mf 1) (Mv 0) (sv_501 : Int32).toInt.toNat = 47 ∨ rB (Mf 1) (Mv 0) (sv_501 : Int32).toInt.toNat = 37) := by
                    have z_1 : ¬ (r_13 : Int32).toInt = (0 : Int32).toInt := fun z => c_18 (Int32.toInt_inj.mp z)
                    have z_2 : ¬ (r_59 : Int32).toInt = (42 : Int32).toInt := fun z => c_62 (Int32.toInt_inj.mp z)
                    have z_3 : ¬ (r_282 : Int32).toInt = (47 : Int32).toInt := fun z => c_286 (Int32.toInt_inj.mp z)
                    have z_4 := congrArg Int32.toInt c_510
                    have z_5 := congrArg Int32.toInt c_518
                    have z_6 : ¬ (r_675 : Int32).toInt = (0 : Int32).toInt := fun z => c_680 (Int32.toInt_inj.mp z)
                    have y_0 : (0 : Int32).toInt = 0 := by decide
                    have y_37 : (37 : Int32).toInt = 37 := by decide
                    have y_42 : (42 : Int32).toInt = 42 := by decide
                    have y_47 : (47 : Int32).toInt = 47 := by decide
                    omega
                  have rg_711 := rB_rg (n := (Mv 0)) h_bs (sv_501 : Int32).toInt.toNat
                  have hr_712 : rB (Mf 1) (Mv 0) (sv_501 : Int32).toInt.toNat = 42 := by
                    have z_1 : ¬ (r_13 : Int32).toInt = (0 : Int32).toInt := fun z => c_18 (Int32.toInt_inj.mp z)
                    have z_2 : ¬ (r_59 : Int32).toInt = (42 : Int32).toInt := fun z => c_62 (Int32.toInt_inj.mp z)
                    have z_3 : ¬ (r_282 : Int32).toInt = (47 : Int32).toInt := fun z => c_286 (Int32.toInt_inj.mp z)
                    have z_4 := congrArg Int32.toInt c_510
                    have z_5 := congrArg Int32.toInt c_518
                    have z_6 : ¬ (r_675 : Int32).toInt = (0 : Int32).toInt := fun z => c_680 (Int32.toInt_inj.mp z)
                    have y_0 : (0 : Int32).toInt = 0 := by decide
                    have y_37 : (37 : Int32).toInt = 37 := by decide
                    have y_42 : (42 : Int32).toInt = 42 := by decide
                    have y_47 : (47 : Int32).toInt = 47 := by decide
                    omega
                  have ho_713 : (-14 : Int) = ec_o (rB (Mf 1) (Mv 0) (sv_501 : Int32).toInt.toNat) := by rw [hr_712]; decide
                  have hi_714 : (x_658 : Int32).toInt = (sv_501 : Int32).toInt + 1 := by
                    have z_1 : ¬ (r_13 : Int32).toInt = (0 : Int32).toInt := fun z => c_18 (Int32.toInt_inj.mp z)
                    have z_2 : ¬ (r_59 : Int32).toInt = (42 : Int32).toInt := fun z => c_62 (Int32.toInt_inj.mp z)
                    have z_3 : ¬ (r_282 : Int32).toInt = (47 : Int32).toInt := fun z => c_286 (Int32.toInt_inj.mp z)
                    have z_4 := congrArg Int32.toInt c_510
                    have z_5 := congrArg Int32.toInt c_518
                    have z_6 : ¬ (r_675 : Int32).toInt = (0 : Int32).toInt := fun z => c_680 (Int32.toInt_inj.mp z)
                    have y_0 : (0 : Int32).toInt = 0 := by decide
                    have y_37 : (37 : Int32).toInt = 37 := by decide
                    have y_42 : (42 : Int32).toInt = 42 := by decide
                    have y_47 : (47 : Int32).toInt = 47 := by decide
                    have y_1 : (1 : Int32).toInt = 1 := by decide
                    have t_x_658 : x_658.toInt = (sv_501 : Int32).toInt + (1 : Int32).toInt := by rw [ex_658]; exact add_toInt (by omega) (by omega)
                    omega
                  have hu_715 : SgC sv_694 sv_695 (Mv 5) (((ll ++ xq_47) ++ lval (rB (Mf 1) (Mv 0)) (St0 (rB (Mf 1) (Mv 0)) x_658 vy_33)) ++ [(-14)]) := by
                    rw [← elo_50, ← elo_685, ← elo_700]
                    exact pf_699
                  exact ih_37 sv_666 sv_667 sv_668 sv_669 sv_694 sv_695 _ _ _ (by omega) ha_702 ha_703 ha_704 (Agr.trans (k' := (400 * ((Mv 5) : Int32).toInt + ((Mf 3) (Mv 5).toNatClampNeg).toInt)) (Agr.trans (k' := (400 * ((Mv 5) : Int32).toInt + ((Mf 3) (Mv 5).toNatClampNeg).toInt)) (Agr.mono pf_42 hr_705) pf_674 ⟨Int.le_refl _, hr_706⟩) pf_697 ⟨Int.le_refl _, hr_707⟩) pf_696 (TmL.next (rB_fi h_nx.2.2) pf_44 (SkR.trans (SkR.trans pf_58 pf_281) pf_505) hr_708 hi_709 pf_682) (TmC.next (rB_fi h_nx.2.2) pf_49 (SkR.trans (SkR.trans pf_58 pf_281) pf_505) hr_710 ho_713 hi_714 pf_682 hu_715) (hP.sub [1, 0, 2, 3] rfl) (hD.sub [1, 0, 2, 3] rfl rfl) hS (lv_sub hl [1] rfl)
                · skip
                  have hz_717 : (r_675 : Int32).toInt = 0 := by
                    have z_1 : ¬ (r_13 : Int32).toInt = (0 : Int32).toInt := fun z => c_18 (Int32.toInt_inj.mp z)
                    have z_2 : ¬ (r_59 : Int32).toInt = (42 : Int32).toInt := fun z => c_62 (Int32.toInt_inj.mp z)
                    have z_3 : ¬ (r_282 : Int32).toInt = (47 : Int32).toInt := fun z => c_286 (Int32.toInt_inj.mp z)
                    have z_4 := congrArg Int32.toInt c_510
                    have z_5 := congrArg Int32.toInt c_518
                    have z_6 := congrArg Int32.toInt c_680
                    have y_0 : (0 : Int32).toInt = 0 := by decide
                    have y_37 : (37 : Int32).toInt = 37 := by decide
                    have y_42 : (42 : Int32).toInt = 42 := by decide
                    have y_47 : (47 : Int32).toInt = 47 := by decide
                    omega
                  obtain pf_716 := hm_679 hz_717
                  have pf_716 : RfE (pz_val (rB (Mf 1) (Mv 0)) (St0 (rB (Mf 1) (Mv 0)) x_658 vy_33)) sv_667 := pf_716
                  refine lv_iconst (v := 0) hx hb dX12_term_92 (by decide) ?_
                  have ha_718 : ((Mv 2) : Int32).toInt ≤ (sv_666 : Int32).toInt ∧ (sv_666 : Int32).toInt ≤ ((Mv 0) : Int32).toInt := by
                    have z_1 : ¬ (r_13 : Int32).toInt = (0 : Int32).toInt := fun z => c_18 (Int32.toInt_inj.mp z)
                    have z_2 : ¬ (r_59 : Int32).toInt = (42 : Int32).toInt := fun z => c_62 (Int32.toInt_inj.mp z)
                    have z_3 : ¬ (r_282 : Int32).toInt = (47 : Int32).toInt := fun z => c_286 (Int32.toInt_inj.mp z)
                    have z_4 := congrArg Int32.toInt c_510
                    have z_5 := congrArg Int32.toInt c_518
                    have z_6 := congrArg Int32.toInt c_680
                    have y_0 : (0 : Int32).toInt = 0 := by decide
                    have y_37 : (37 : Int32).toInt = 37 := by decide
                    have y_42 : (42 : Int32).toInt = 42 := by decide
                    have y_47 : (47 : Int32).toInt = 47 := by decide
                    omega
                  have ha_719 : ((Mv 6) : Int32).toInt ≤ (sv_669 : Int32).toInt ∧ (sv_669 : Int32).toInt ≤ 60 := by
                    have z_1 : ¬ (r_13 : Int32).toInt = (0 : Int32).toInt := fun z => c_18 (Int32.toInt_inj.mp z)
                    have z_2 : ¬ (r_59 : Int32).toInt = (42 : Int32).toInt := fun z => c_62 (Int32.toInt_inj.mp z)
                    have z_3 : ¬ (r_282 : Int32).toInt = (47 : Int32).toInt := fun z => c_286 (Int32.toInt_inj.mp z)
                    have z_4 := congrArg Int32.toInt c_510
                    have z_5 := congrArg Int32.toInt c_518
                    have z_6 := congrArg Int32.toInt c_680
                    have y_0 : (0 : Int32).toInt = 0 := by decide
                    have y_37 : (37 : Int32).toInt = 37 := by decide
                    have y_42 : (42 : Int32).toInt = 42 := by decide
                    have y_47 : (47 : Int32).toInt = 47 := by decide
                    omega
                  have hr_720 : (400 * ((Mv 5) : Int32).toInt + ((Mf 3) (Mv 5).toNatClampNeg).toInt) ≤ (400 * ((Mv 5) : Int32).toInt + ((Mf 3) (Mv 5).toNatClampNeg).toInt) := by
                    have z_1 : ¬ (r_13 : Int32).toInt = (0 : Int32).toInt := fun z => c_18 (Int32.toInt_inj.mp z)
                    have z_2 : ¬ (r_59 : Int32).toInt = (42 : Int32).toInt := fun z => c_62 (Int32.toInt_inj.mp z)
                    have z_3 : ¬ (r_282 : Int32).toInt = (47 : Int32).toInt := fun z => c_286 (Int32.toInt_inj.mp z)
                    have z_4 := congrArg Int32.toInt c_510
                    have z_5 := congrArg Int32.toInt c_518
                    have z_6 := congrArg Int32.toInt c_680
                    have y_0 : (0 : Int32).toInt = 0 := by decide
                    have y_37 : (37 : Int32).toInt = 37 := by decide
                    have y_42 : (42 : Int32).toInt = 42 := by decide
                    have y_47 : (47 : Int32).toInt = 47 := by decide
                    omega
                  have hr_721 : (400 * ((Mv 5) : Int32).toInt + ((Mf 3) (Mv 5).toNatClampNeg).toInt) ≤ (400 * ((Mv 5) : Int32).toInt + (vy_35 (Mv 5).toNatClampNeg).toInt) := by
                    have z_1 : ¬ (r_13 : Int32).toInt = (0 : Int32).toInt := fun z => c_18 (Int32.toInt_inj.mp z)
                    have z_2 : ¬ (r_59 : Int32).toInt = (42 : Int32).toInt := fun z => c_62 (Int32.toInt_inj.mp z)
                    have z_3 : ¬ (r_282 : Int32).toInt = (47 : Int32).toInt := fun z => c_286 (Int32.toInt_inj.mp z)
                    have z_4 := congrArg Int32.toInt c_510
                    have z_5 := congrArg Int32.toInt c_518
                    have z_6 := congrArg Int32.toInt c_680
                    have y_0 : (0 : Int32).toInt = 0 := by decide
                    have y_37 : (37 : Int32).toInt = 37 := by decide
                    have y_42 : (42 : Int32).toInt = 42 := by decide
                    have y_47 : (47 : Int32).toInt = 47 := by decide
                    omega
                  have hp_722 : (((0 : Int32).toInt = 0 ∧ ¬ (sv_667 : Int32).toInt = 0) ∨ ((0 : Int32).toInt = 1 ∧ ((Mf 3) (Mv 5).toNatClampNeg).toInt + 1 ≤ (sv_671 (Mv 5).toNatClampNeg).toInt ∧ (sv_671 (Mv 5).toNatClampNeg).toInt + ((Mv 2) : Int32).toInt ≤ ((Mf 3) (Mv 5).toNatClampNeg).toInt + (sv_666 : Int32).toInt ∧ ((Mv 2) : Int32).toInt + 1 ≤ (sv_666 : Int32).toInt)) := by
                    have z_1 : ¬ (r_13 : Int32).toInt = (0 : Int32).toInt := fun z => c_18 (Int32.toInt_inj.mp z)
                    have z_2 : ¬ (r_59 : Int32).toInt = (42 : Int32).toInt := fun z => c_62 (Int32.toInt_inj.mp z)
                    have z_3 : ¬ (r_282 : Int32).toInt = (47 : Int32).toInt := fun z => c_286 (Int32.toInt_inj.mp z)
                    have z_4 := congrArg Int32.toInt c_510
                    have z_5 := congrArg Int32.toInt c_518
                    have z_6 := congrArg Int32.toInt c_680
                    have y_0 : (0 : Int32).toInt = 0 := by decide
                    have y_37 : (37 : Int32).toInt = 37 := by decide
                    have y_42 : (42 : Int32).toInt = 42 := by decide
                    have y_47 : (47 : Int32).toInt = 47 := by decide
                    omega
                  have hm_723 : (0 : Int32).toInt = 0 → (RfE (pz_sum (rB (Mf 1) (Mv 0)) (St0 (rB (Mf 1) (Mv 0)) (Mv 2) (Mv 6))) sv_667) := by
                    intro h1r
                    have hr_724 : (rB (Mf 1) (Mv 0) (sv_501 : Int32).toInt.toNat = 43 ∨ rB (Mf 1) (Mv 0) (sv_501 : Int32).toInt.toNat = 45 ∨ rB (Mf 1) (Mv 0) (sv_501 : Int32).toInt.toNat = 42 ∨ rB (Mf 1) (Mv 0) (sv_501 : Int32).toInt.toNat = 47 ∨ rB (Mf 1) (Mv 0) (sv_501 : Int32).toInt.toNat = 37) := by
                      have z_1 : ¬ (r_13 : Int32).toInt = (0 : Int32).toInt := fun z => c_18 (Int32.toInt_inj.mp z)
                      have z_2 : ¬ (r_59 : Int32).toInt = (42 : Int32).toInt := fun z => c_62 (Int32.toInt_inj.mp z)
                      have z_3 : ¬ (r_282 : Int32).toInt = (47 : Int32).toInt := fun z => c_286 (Int32.toInt_inj.mp z)
                      have z_4 := congrArg Int32.toInt c_510
                      have z_5 := congrArg Int32.toInt c_518
                      have z_6 := congrArg Int32.toInt c_680
                      have y_0 : (0 : Int32).toInt = 0 := by decide
                      have y_37 : (37 : Int32).toInt = 37 := by decide
                      have y_42 : (42 : Int32).toInt = 42 := by decide
                      have y_47 : (47 : Int32).toInt = 47 := by decide
                      omega
                    have hi_725 : (x_658 : Int32).toInt = (sv_501 : Int32).toInt + 1 := by
                      have z_1 : ¬ (r_13 : Int32).toInt = (0 : Int32).toInt := fun z => c_18 (Int32.toInt_inj.mp z)
                      have z_2 : ¬ (r_59 : Int32).toInt = (42 : Int32).toInt := fun z => c_62 (Int32.toInt_inj.mp z)
                      have z_3 : ¬ (r_282 : Int32).toInt = (47 : Int32).toInt := fun z => c_286 (Int32.toInt_inj.mp z)
                      have z_4 := congrArg Int32.toInt c_510
                      have z_5 := congrArg Int32.toInt c_518
                      have z_6 := congrArg Int32.toInt c_680
                      have y_0 : (0 : Int32).toInt = 0 := by decide
                      have y_37 : (37 : Int32).toInt = 37 := by decide
                      have y_42 : (42 : Int32).toInt = 42 := by decide
                      have y_47 : (47 : Int32).toInt = 47 := by decide
                      have y_1 : (1 : Int32).toInt = 1 := by decide
                      have t_x_658 : x_658.toInt = (sv_501 : Int32).toInt + (1 : Int32).toInt := by rw [ex_658]; exact add_toInt (by omega) (by omega)
                      omega
                    exact (TmL.er (rB_fi h_nx.2.2) pf_44 (SkR.trans (SkR.trans pf_58 pf_281) pf_505) hr_724 hi_725 pf_716)
                  exact retI (v := 0) hx hb hr hlk (rfl) hP hD hS (sv_666, sv_667, sv_668, sv_669, sv_670, sv_671) ⟨_, rfl, hp_722, ha_718, ha_719, (Agr.trans (k' := (400 * ((Mv 5) : Int32).toInt + ((Mf 3) (Mv 5).toNatClampNeg).toInt)) (Agr.mono pf_42 hr_720) pf_674 ⟨Int.le_refl _, hr_721⟩), (fun h => absurd h (by decide)), hm_723⟩ [0, 1, 2, 3] rfl rfl dX12_term_93 (Nat.le_of_ble_eq_true rfl) (Nat.le_of_ble_eq_true rfl) rfl
    have ha_726 : 0 ≤ (sv_4 : Int32).toInt ∧ (sv_4 : Int32).toInt ≤ ((Mv 0) : Int32).toInt ∧ ((Mv 0) : Int32).toInt ≤ 400 := by
      have z_1 : ¬ (r_13 : Int32).toInt = (0 : Int32).toInt := fun z => c_18 (Int32.toInt_inj.mp z)
      have y_0 : (0 : Int32).toInt = 0 := by decide
      omega
    have ha_727 : (Mv 6).toInt ≤ (sv_7 : Int32).toInt ∧ (sv_7 : Int32).toInt ≤ 60 := by
      have z_1 : ¬ (r_13 : Int32).toInt = (0 : Int32).toInt := fun z => c_18 (Int32.toInt_inj.mp z)
      have y_0 : (0 : Int32).toInt = 0 := by decide
      omega
    have ha_728 : ((Mf 3) (Mv 5).toNatClampNeg).toInt + 1 ≤ (sv_9 (Mv 5).toNatClampNeg).toInt ∧ (sv_9 (Mv 5).toNatClampNeg).toInt + ((Mv 2) : Int32).toInt ≤ ((Mf 3) (Mv 5).toNatClampNeg).toInt + (sv_4 : Int32).toInt ∧ ((Mv 2) : Int32).toInt + 1 ≤ (sv_4 : Int32).toInt := by
      have z_1 : ¬ (r_13 : Int32).toInt = (0 : Int32).toInt := fun z => c_18 (Int32.toInt_inj.mp z)
      have y_0 : (0 : Int32).toInt = 0 := by decide
      omega
    have hu_729 : SgC sv_8 sv_9 (Mv 5) (ll ++ lval (rB (Mf 1) (Mv 0)) (St0 (rB (Mf 1) (Mv 0)) (Mv 2) (Mv 6))) := by
      rw [← elo_23]
      exact pf_21
    exact loop_38 _ sv_4 sv_5 sv_6 sv_7 sv_8 sv_9 _ _ _ (Nat.lt_succ_self _) ha_726 ha_727 ha_728 pf_12 pf_19 (TmL.first pf_20) (TmC.first pf_20 hu_729) hP hD hS hl
  · skip
    have hz_731 : (r_13 : Int32).toInt = 0 := by
      have z_1 := congrArg Int32.toInt c_18
      have y_0 : (0 : Int32).toInt = 0 := by decide
      omega
    obtain pf_730 := hm_17 hz_731
    have pf_730 : RfE (pz_val (rB (Mf 1) (Mv 0)) (St0 (rB (Mf 1) (Mv 0)) (Mv 2) (Mv 6))) sv_5 := pf_730
    refine lv_iconst (v := 0) hx hb dX12_term_7 (by decide) ?_
    have hp_732 : (((0 : Int32).toInt = 0 ∧ ¬ (sv_5 : Int32).toInt = 0) ∨ ((0 : Int32).toInt = 1 ∧ ((Mf 3) (Mv 5).toNatClampNeg).toInt + 1 ≤ (sv_9 (Mv 5).toNatClampNeg).toInt ∧ (sv_9 (Mv 5).toNatClampNeg).toInt + ((Mv 2) : Int32).toInt ≤ ((Mf 3) (Mv 5).toNatClampNeg).toInt + (sv_4 : Int32).toInt ∧ ((Mv 2) : Int32).toInt + 1 ≤ (sv_4 : Int32).toInt)) := by
      have z_1 := congrArg Int32.toInt c_18
      have y_0 : (0 : Int32).toInt = 0 := by decide
      omega
    have hm_733 : (0 : Int32).toInt = 0 → (RfE (pz_sum (rB (Mf 1) (Mv 0)) (St0 (rB (Mf 1) (Mv 0)) (Mv 2) (Mv 6))) sv_5) := by
      intro h1r
      exact (RfE.sum1 pf_730)
    exact retI (v := 0) hx hb hr hlk (rfl) hP hD hS (sv_4, sv_5, sv_6, sv_7, sv_8, sv_9) ⟨_, rfl, hp_732, pf_10, pf_11, pf_12, (fun h => absurd h (by decide)), hm_733⟩ [0, 1, 2, 3] rfl rfl dX12_term_8 (Nat.le_of_ble_eq_true rfl) (Nat.le_of_ble_eq_true rfl) rfl
