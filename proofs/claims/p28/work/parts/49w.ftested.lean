set_option maxHeartbeats 4000000 in
set_option maxRecDepth 100000 in
theorem ct_fX12_tested (l : Launch) (D : va_G) (tc : Nat → ClassId) (sk : (Nat → Nat) × (Nat → Nat)) (Ma : Nat → Nat) (Mv : Nat → Int32) (Mf : Nat → Nat → Int32) (Mj : Nat → Int64) (b : Int32) (h_nx : 0 ≤ ((Mv 2) : Int32).toInt ∧ ((Mv 2) : Int32).toInt ≤ ((Mv 0) : Int32).toInt ∧ ((Mv 0) : Int32).toInt ≤ 400) (h_cd : Cd (Mf 2) (Mf 3) (Mv 5) b (Mv 6) 0) (h_L : ((Mf 3) (Mv 5).toNatClampNeg).toInt ≤ ((Mv 2) : Int32).toInt) (h_md : 0 ≤ ((Mv 6) : Int32).toInt ∧ ((Mv 6) : Int32).toInt ≤ 60) (h_bs : ByS (Mf 1)) (h_w : ((Mv 3) : Int32).toInt = 0) : Ct l yX12_tested cX12_tested 3 (some .boolean) { frames := 8, cells := 0, slots := 0, locals := 176 } D tc sk [.ref (Ma 0)] [((Ma 0), .inr (12, [.ref (Ma 1), .int (Mv 0), .int (Mv 1), .ref (Ma 2), .ref (Ma 3), .ref (Ma 4), .ref (Ma 5), .ref (Ma 6), .int (Mv 2), .int (Mv 3), .int (Mv 4), .int (Mv 5), .int (Mv 6), .int (Mv 7), .int (Mv 8), .ref (Ma 7), .int (Mv 9), .ref (Ma 8), .int (Mv 10), .ref (Ma 9), .ref (Ma 10), .int (Mv 11), .int (Mv 12), .int (Mv 13), .ref (Ma 11), .int (Mv 14), .ref (Ma 12), .ref (Ma 13), .ref (Ma 14), .ref (Ma 15), .ref (Ma 16), .long (Mj 0), .ref (Ma 17), .ref (Ma 18), .ref (Ma 19), .ref (Ma 20)])), ((Ma 1), .inl (tc 2, 400, .inl (Mf 1))), ((Ma 2), .inl (tc 0, 2400, .inl (Mf 2))), ((Ma 3), .inl (tc 0, 7, .inl (Mf 3))), ((Ma 7), .inl (tc 0, 400, .inl (Mf 7)))] (fun (v : Option Value) (u : (Int32) × (Int32) × (Int32) × (Int32) × (Int32) × (Int32) × (Nat → Int32) × (Nat → Int32) × (Nat → Int32)) => match u with | (oo0x1, oo0x2, oo0x3, oo0x4, oo0x5, oo0x6, oo0x7, oo0x8, oo0x9) => ∃ r : Int32, v = some (.int r) ∧ (((r.toInt = 0 ∧ ¬ (oo0x2 : Int32).toInt = 0) ∨ (r.toInt = 1 ∧ ((Mf 3) (Mv 5).toNatClampNeg).toInt ≤ (oo0x8 (Mv 5).toNatClampNeg).toInt ∧ (oo0x8 (Mv 5).toNatClampNeg).toInt ≤ (oo0x1 : Int32).toInt))) ∧ (((Mv 2) : Int32).toInt ≤ (oo0x1 : Int32).toInt ∧ (oo0x1 : Int32).toInt ≤ ((Mv 0) : Int32).toInt) ∧ (((Mv 6) : Int32).toInt ≤ (oo0x4 : Int32).toInt ∧ (oo0x4 : Int32).toInt ≤ 60) ∧ (Agr (Mf 2) oo0x7 (400 * ((Mv 5) : Int32).toInt + ((Mf 3) (Mv 5).toNatClampNeg).toInt)) ∧ (r.toInt = 1 → (Cd oo0x7 oo0x8 (Mv 5) b oo0x4 1) ∧ (RfO (pz_tst (rB (Mf 1) (Mv 0)) (pz_fact (rB (Mf 1) (Mv 0)) 10) (St0 (rB (Mf 1) (Mv 0)) (Mv 2) (Mv 6))) (rB (Mf 1) (Mv 0)) oo0x2 oo0x1 oo0x4)) ∧ (r.toInt = 0 → (RfE (pz_tst (rB (Mf 1) (Mv 0)) (pz_fact (rB (Mf 1) (Mv 0)) 10) (St0 (rB (Mf 1) (Mv 0)) (Mv 2) (Mv 6))) oo0x2))) (fun (u : (Int32) × (Int32) × (Int32) × (Int32) × (Int32) × (Int32) × (Nat → Int32) × (Nat → Int32) × (Nat → Int32)) => match u with | (oo0x1, oo0x2, oo0x3, oo0x4, oo0x5, oo0x6, oo0x7, oo0x8, oo0x9) => [((Ma 0), .inr (12, [.ref (Ma 1), .int (Mv 0), .int (Mv 1), .ref (Ma 2), .ref (Ma 3), .ref (Ma 4), .ref (Ma 5), .ref (Ma 6), .int oo0x1, .int oo0x2, .int oo0x3, .int (Mv 5), .int oo0x4, .int oo0x5, .int (Mv 8), .ref (Ma 7), .int oo0x6, .ref (Ma 8), .int (Mv 10), .ref (Ma 9), .ref (Ma 10), .int (Mv 11), .int (Mv 12), .int (Mv 13), .ref (Ma 11), .int (Mv 14), .ref (Ma 12), .ref (Ma 13), .ref (Ma 14), .ref (Ma 15), .ref (Ma 16), .long (Mj 0), .ref (Ma 17), .ref (Ma 18), .ref (Ma 19), .ref (Ma 20)])), ((Ma 1), .inl (tc 2, 400, .inl (Mf 1))), ((Ma 2), .inl (tc 0, 2400, .inl oo0x7)), ((Ma 3), .inl (tc 0, 7, .inl oo0x8)), ((Ma 7), .inl (tc 0, 400, .inl oo0x9))]) 0 0 := by
  refine Ct.start (by decide) (Nat.le_of_ble_eq_true rfl) (fun p e s m below meth c A ls hx hb hr hlk hin hml hown hts hK hX hP hD hA hl hS => ?_)
  have hl : lv_has ls 3 [(0, .ref (Ma 0))] := hl
  have ar_h_cd := Cd.ar h_cd
  refine lv_aload_n hx hb dX12_tested_0 rfl (lv_at hl 0 rfl) ?_
  refine lv_iconst (v := 0) hx hb dX12_tested_1 (by decide) ?_
  refine pf_X12_154 hx hb hts hown hK hP hD hS 0 rfl (Nat.le_of_ble_eq_true rfl) rfl rfl dX12_tested_2 (fun H locs hP₀ hD₀ hS₀ => ?_)
  replace hP : va_P D classes [((Ma 0), .inr (12, [.ref (Ma 1), .int (Mv 0), .int (Mv 1), .ref (Ma 2), .ref (Ma 3), .ref (Ma 4), .ref (Ma 5), .ref (Ma 6), .int (Mv 2), .int (Mv 3), .int (Mv 4), .int (Mv 5), .int (Mv 6), .int (Mv 7), .int (Mv 8), .ref (Ma 7), .int 0, .ref (Ma 8), .int (Mv 10), .ref (Ma 9), .ref (Ma 10), .int (Mv 11), .int (Mv 12), .int (Mv 13), .ref (Ma 11), .int (Mv 14), .ref (Ma 12), .ref (Ma 13), .ref (Ma 14), .ref (Ma 15), .ref (Ma 16), .long (Mj 0), .ref (Ma 17), .ref (Ma 18), .ref (Ma 19), .ref (Ma 20)])), ((Ma 1), .inl (tc 2, 400, .inl (Mf 1))), ((Ma 2), .inl (tc 0, 2400, .inl (Mf 2))), ((Ma 3), .inl (tc 0, 7, .inl (Mf 3))), ((Ma 7), .inl (tc 0, 400, .inl (Mf 7)))] H := hP₀
  replace hD : va_D A [((Ma 0), .inr (12, [.ref (Ma 1), .int (Mv 0), .int (Mv 1), .ref (Ma 2), .ref (Ma 3), .ref (Ma 4), .ref (Ma 5), .ref (Ma 6), .int (Mv 2), .int (Mv 3), .int (Mv 4), .int (Mv 5), .int (Mv 6), .int (Mv 7), .int (Mv 8), .ref (Ma 7), .int 0, .ref (Ma 8), .int (Mv 10), .ref (Ma 9), .ref (Ma 10), .int (Mv 11), .int (Mv 12), .int (Mv 13), .ref (Ma 11), .int (Mv 14), .ref (Ma 12), .ref (Ma 13), .ref (Ma 14), .ref (Ma 15), .ref (Ma 16), .long (Mj 0), .ref (Ma 17), .ref (Ma 18), .ref (Ma 19), .ref (Ma 20)])), ((Ma 1), .inl (tc 2, 400, .inl (Mf 1))), ((Ma 2), .inl (tc 0, 2400, .inl (Mf 2))), ((Ma 3), .inl (tc 0, 7, .inl (Mf 3))), ((Ma 7), .inl (tc 0, 400, .inl (Mf 7)))] := hD₀
  replace hS := hS₀
  clear hP₀ hD₀ hS₀
  refine lv_aload_n hx hb dX12_tested_5 rfl (lv_at hl 0 rfl) ?_
  refine lv_iconst (v := 0) hx hb dX12_tested_6 (by decide) ?_
  refine pf_X12_151 hx hb hts hown hK hP hD hS 0 rfl (Nat.le_of_ble_eq_true rfl) rfl rfl dX12_tested_7 (fun H locs hP₀ hD₀ hS₀ => ?_)
  replace hP : va_P D classes [((Ma 0), .inr (12, [.ref (Ma 1), .int (Mv 0), .int (Mv 1), .ref (Ma 2), .ref (Ma 3), .ref (Ma 4), .ref (Ma 5), .ref (Ma 6), .int (Mv 2), .int (Mv 3), .int (Mv 4), .int (Mv 5), .int (Mv 6), .int 0, .int (Mv 8), .ref (Ma 7), .int 0, .ref (Ma 8), .int (Mv 10), .ref (Ma 9), .ref (Ma 10), .int (Mv 11), .int (Mv 12), .int (Mv 13), .ref (Ma 11), .int (Mv 14), .ref (Ma 12), .ref (Ma 13), .ref (Ma 14), .ref (Ma 15), .ref (Ma 16), .long (Mj 0), .ref (Ma 17), .ref (Ma 18), .ref (Ma 19), .ref (Ma 20)])), ((Ma 1), .inl (tc 2, 400, .inl (Mf 1))), ((Ma 2), .inl (tc 0, 2400, .inl (Mf 2))), ((Ma 3), .inl (tc 0, 7, .inl (Mf 3))), ((Ma 7), .inl (tc 0, 400, .inl (Mf 7)))] H := hP₀
  replace hD : va_D A [((Ma 0), .inr (12, [.ref (Ma 1), .int (Mv 0), .int (Mv 1), .ref (Ma 2), .ref (Ma 3), .ref (Ma 4), .ref (Ma 5), .ref (Ma 6), .int (Mv 2), .int (Mv 3), .int (Mv 4), .int (Mv 5), .int (Mv 6), .int 0, .int (Mv 8), .ref (Ma 7), .int 0, .ref (Ma 8), .int (Mv 10), .ref (Ma 9), .ref (Ma 10), .int (Mv 11), .int (Mv 12), .int (Mv 13), .ref (Ma 11), .int (Mv 14), .ref (Ma 12), .ref (Ma 13), .ref (Ma 14), .ref (Ma 15), .ref (Ma 16), .long (Mj 0), .ref (Ma 17), .ref (Ma 18), .ref (Ma 19), .ref (Ma 20)])), ((Ma 1), .inl (tc 2, 400, .inl (Mf 1))), ((Ma 2), .inl (tc 0, 2400, .inl (Mf 2))), ((Ma 3), .inl (tc 0, 7, .inl (Mf 3))), ((Ma 7), .inl (tc 0, 400, .inl (Mf 7)))] := hD₀
  replace hS := hS₀
  clear hP₀ hD₀ hS₀
  refine lv_iconst (v := 1) hx hb dX12_tested_10 (by decide) ?_
  refine lv_istore_n (lv' := [(1, .int 1), (0, .ref (Ma 0))]) hx hb dX12_tested_11 rfl hl (by decide) rfl (fun ls hl₀ => ?_)
  replace hl := hl₀
  clear hl₀
  have loop_23 : ∀ (n_21 : Nat) (vy_11 : Int32) (vy_12 : Int32) (vy_13 : Int32) (vy_14 : Int32) (vy_15 : Int32) (vy_16 : Int32) (vy_17 : Nat → Int32) (vy_18 : Nat → Int32) (vy_19 : Nat → Int32) (vy_20 : Int32) (H : Heap) (locs : List Loc) (ls : Array Slot), (2 * (401 - (vy_11 : Int32).toInt) + (vy_20 : Int32).toInt).toNat < n_21 → (0 ≤ (vy_11 : Int32).toInt ∧ (vy_11 : Int32).toInt ≤ ((Mv 0) : Int32).toInt ∧ ((Mv 0) : Int32).toInt ≤ 400) → ((Mv 2).toInt ≤ (vy_11 : Int32).toInt) → (0 ≤ (vy_20 : Int32).toInt ∧ (vy_20 : Int32).toInt ≤ 1) → ((Mv 6).toInt ≤ (vy_14 : Int32).toInt ∧ (vy_14 : Int32).toInt ≤ 60) → (LX vy_19 vy_16 vy_17 vy_18 (Mv 5) b vy_14 vy_20) → ((vy_18 (Mv 5).toNatClampNeg).toInt + (vy_16 : Int32).toInt ≤ (vy_11 : Int32).toInt ∧ ((Mf 3) (Mv 5).toNatClampNeg).toInt ≤ (vy_18 (Mv 5).toNatClampNeg).toInt ∧ 0 ≤ (vy_16 : Int32).toInt ∧ (vy_16 : Int32).toInt ≤ 400) → (Agr (Mf 2) vy_17 (400 * ((Mv 5) : Int32).toInt + ((Mf 3) (Mv 5).toNatClampNeg).toInt)) → (TsL (pz_tst (rB (Mf 1) (Mv 0)) (pz_fact (rB (Mf 1) (Mv 0)) 10) (St0 (rB (Mf 1) (Mv 0)) (Mv 2) (Mv 6))) (rB (Mf 1) (Mv 0)) vy_19 vy_16 vy_15 vy_11 vy_14 vy_12 vy_20) → va_P D classes [((Ma 0), .inr (12, [.ref (Ma 1), .int (Mv 0), .int (Mv 1), .ref (Ma 2), .ref (Ma 3), .ref (Ma 4), .ref (Ma 5), .ref (Ma 6), .int vy_11, .int vy_12, .int vy_13, .int (Mv 5), .int vy_14, .int vy_15, .int (Mv 8), .ref (Ma 7), .int vy_16, .ref (Ma 8), .int (Mv 10), .ref (Ma 9), .ref (Ma 10), .int (Mv 11), .int (Mv 12), .int (Mv 13), .ref (Ma 11), .int (Mv 14), .ref (Ma 12), .ref (Ma 13), .ref (Ma 14), .ref (Ma 15), .ref (Ma 16), .long (Mj 0), .ref (Ma 17), .ref (Ma 18), .ref (Ma 19), .ref (Ma 20)])), ((Ma 1), .inl (tc 2, 400, .inl (Mf 1))), ((Ma 2), .inl (tc 0, 2400, .inl vy_17)), ((Ma 3), .inl (tc 0, 7, .inl vy_18)), ((Ma 7), .inl (tc 0, 400, .inl vy_19))] H → va_D A [((Ma 0), .inr (12, [.ref (Ma 1), .int (Mv 0), .int (Mv 1), .ref (Ma 2), .ref (Ma 3), .ref (Ma 4), .ref (Ma 5), .ref (Ma 6), .int vy_11, .int vy_12, .int vy_13, .int (Mv 5), .int vy_14, .int vy_15, .int (Mv 8), .ref (Ma 7), .int vy_16, .ref (Ma 8), .int (Mv 10), .ref (Ma 9), .ref (Ma 10), .int (Mv 11), .int (Mv 12), .int (Mv 13), .ref (Ma 11), .int (Mv 14), .ref (Ma 12), .ref (Ma 13), .ref (Ma 14), .ref (Ma 15), .ref (Ma 16), .long (Mj 0), .ref (Ma 17), .ref (Ma 18), .ref (Ma 19), .ref (Ma 20)])), ((Ma 1), .inl (tc 2, 400, .inl (Mf 1))), ((Ma 2), .inl (tc 0, 2400, .inl vy_17)), ((Ma 3), .inl (tc 0, 7, .inl vy_18)), ((Ma 7), .inl (tc 0, 400, .inl vy_19))] → va_S A s.heap H locs → lv_has ls 3 [(1, .int vy_20), (0, .ref (Ma 0))] → W p l e ({ frames := 8, cells := 0, slots := 0, locals := 176 }) s m ([.ref (Ma 0)].toArray) below meth c H locs 0 0 (MQ below (QW (fun (v : Option Value) (u : (Int32) × (Int32) × (Int32) × (Int32) × (Int32) × (Int32) × (Nat → Int32) × (Nat → Int32) × (Nat → Int32)) => match u with | (oo0x1, oo0x2, oo0x3, oo0x4, oo0x5, oo0x6, oo0x7, oo0x8, oo0x9) => ∃ r : Int32, v = some (.int r) ∧ (((r.toInt = 0 ∧ ¬ (oo0x2 : Int32).toInt = 0) ∨ (r.toInt = 1 ∧ ((Mf 3) (Mv 5).toNatClampNeg).toInt ≤ (oo0x8 (Mv 5).toNatClampNeg).toInt ∧ (oo0x8 (Mv 5).toNatClampNeg).toInt ≤ (oo0x1 : Int32).toInt))) ∧ (((Mv 2) : Int32).toInt ≤ (oo0x1 : Int32).toInt ∧ (oo0x1 : Int32).toInt ≤ ((Mv 0) : Int32).toInt) ∧ (((Mv 6) : Int32).toInt ≤ (oo0x4 : Int32).toInt ∧ (oo0x4 : Int32).toInt ≤ 60) ∧ (Agr (Mf 2) oo0x7 (400 * ((Mv 5) : Int32).toInt + ((Mf 3) (Mv 5).toNatClampNeg).toInt)) ∧ (r.toInt = 1 → (Cd oo0x7 oo0x8 (Mv 5) b oo0x4 1) ∧ (RfO (pz_tst (rB (Mf 1) (Mv 0)) (pz_fact (rB (Mf 1) (Mv 0)) 10) (St0 (rB (Mf 1) (Mv 0)) (Mv 2) (Mv 6))) (rB (Mf 1) (Mv 0)) oo0x2 oo0x1 oo0x4)) ∧ (r.toInt = 0 → (RfE (pz_tst (rB (Mf 1) (Mv 0)) (pz_fact (rB (Mf 1) (Mv 0)) 10) (St0 (rB (Mf 1) (Mv 0)) (Mv 2) (Mv 6))) oo0x2))) (BW D (fun (u : (Int32) × (Int32) × (Int32) × (Int32) × (Int32) × (Int32) × (Nat → Int32) × (Nat → Int32) × (Nat → Int32)) => match u with | (oo0x1, oo0x2, oo0x3, oo0x4, oo0x5, oo0x6, oo0x7, oo0x8, oo0x9) => [((Ma 0), .inr (12, [.ref (Ma 1), .int (Mv 0), .int (Mv 1), .ref (Ma 2), .ref (Ma 3), .ref (Ma 4), .ref (Ma 5), .ref (Ma 6), .int oo0x1, .int oo0x2, .int oo0x3, .int (Mv 5), .int oo0x4, .int oo0x5, .int (Mv 8), .ref (Ma 7), .int oo0x6, .ref (Ma 8), .int (Mv 10), .ref (Ma 9), .ref (Ma 10), .int (Mv 11), .int (Mv 12), .int (Mv 13), .ref (Ma 11), .int (Mv 14), .ref (Ma 12), .ref (Ma 13), .ref (Ma 14), .ref (Ma 15), .ref (Ma 16), .long (Mj 0), .ref (Ma 17), .ref (Ma 18), .ref (Ma 19), .ref (Ma 20)])), ((Ma 1), .inl (tc 2, 400, .inl (Mf 1))), ((Ma 2), .inl (tc 0, 2400, .inl oo0x7)), ((Ma 3), .inl (tc 0, 7, .inl oo0x8)), ((Ma 7), .inl (tc 0, 400, .inl oo0x9))]) A) A) ([.ref (Ma 0)].toArray) s 0 0 A) (F0 m 12 ls []) := by
    clear hP hD hS hl
    intro n_21
    induction n_21 with
    | zero =>
      intro vy_11 vy_12 vy_13 vy_14 vy_15 vy_16 vy_17 vy_18 vy_19 vy_20 H locs ls h1
      exact absurd h1 (Nat.not_lt_zero _)
    | succ n_21 ih_22 =>
      intro vy_11 vy_12 vy_13 vy_14 vy_15 vy_16 vy_17 vy_18 vy_19 vy_20 H locs ls hn_32 pf_24 pf_25 pf_26 pf_27 pf_28 pf_29 pf_30 pf_31 hP hD hS hl
      have ar_pf_31 := OsP.ar pf_31.1.1
      have aw_pf_31 := pf_31.1.2
      refine lv_iload_n hx hb dX12_tested_12 rfl (lv_at hl 0 rfl) ?_
      refine lv_if_eq (tgt := 112) hx hb dX12_tested_13 (by decide) (fun c_33 => ?_) (fun c_33 => ?_)
      · skip
        have hr_35 : (vy_20 : Int32).toInt = 0 := by
          have z_1 := congrArg Int32.toInt c_33
          have y_0 : (0 : Int32).toInt = 0 := by decide
          omega
        have pf_34 : LSR vy_19 vy_16 vy_17 vy_18 (Mv 5) b vy_14 := pf_28.2 hr_35
        obtain ⟨pn_36, pf_37, pf_38⟩ := id pf_34
        have ar_pf_34 := LSR.ar pf_34
        have ar_pf_38 := Cd.ar pf_38
        refine lv_aload_n hx hb dX12_tested_112 rfl (lv_at hl 1 rfl) ?_
        have ha_39 : 0 ≤ (vy_16 : Int32).toInt ∧ (vy_16 : Int32).toInt ≤ 400 := by
          have z_1 := congrArg Int32.toInt c_33
          have y_0 : (0 : Int32).toInt = 0 := by decide
          omega
        refine cV (a := (Ma 0)) (As := []) (rest := []) (wr := [((Ma 1), .inl (tc 2, 400, .inl (Mf 1))), ((Ma 2), .inl (tc 0, 2400, .inl vy_17)), ((Ma 3), .inl (tc 0, 7, .inl vy_18))]) ⟨hx, hb, hml, hown, hts⟩ hK hX hA (cu_X12_isInside l D tc sk (Ma 0) (Ma 1) (Ma 2) (Ma 3) (Ma 4) (Ma 5) (Ma 6) (Ma 7) (Ma 8) (Ma 9) (Ma 10) (Ma 11) (Ma 12) (Ma 13) (Ma 14) (Ma 15) (Ma 16) (Ma 17) (Ma 18) (Ma 19) (Ma 20) (Mv 0) (Mv 1) vy_11 vy_12 vy_13 (Mv 5) vy_14 vy_15 (Mv 8) vy_16 (Mv 10) (Mv 11) (Mv 12) (Mv 13) (Mv 14) vy_19 (Mj 0) ha_39) k_1349 k_1346 k_1348 k_55 k_106 pl_X12_isInside ⟨Nat.le_of_ble_eq_true rfl, Nat.le_of_ble_eq_true rfl⟩ rfl rfl (va_recv hK hP (ci := 12) (q0 := 0) rfl rfl) hP hD hS [0, 4] [1, 2, 3] rfl rfl rfl rfl rfl (by decide) rfl hl.1 rfl (Nat.le_of_ble_eq_true rfl) dX12_tested_113 ⟨Nat.le_of_ble_eq_true rfl, Nat.le_of_ble_eq_true rfl⟩ (fun v_40 u_41 H locs hv_42 hP₀ hD₀ hS₀ => ?_)
        obtain ⟨r_43, rfl, he_44, hm_46, hm_47⟩ := hv_42
        have he_44 : (r_43.toInt = 0 ∨ r_43.toInt = 1) := he_44
        refine W.eq (g2 := F0 m 116 ls [.int r_43]) rfl ?_
        replace hP : va_P D classes [((Ma 1), .inl (tc 2, 400, .inl (Mf 1))), ((Ma 2), .inl (tc 0, 2400, .inl vy_17)), ((Ma 3), .inl (tc 0, 7, .inl vy_18)), ((Ma 0), .inr (12, [.ref (Ma 1), .int (Mv 0), .int (Mv 1), .ref (Ma 2), .ref (Ma 3), .ref (Ma 4), .ref (Ma 5), .ref (Ma 6), .int vy_11, .int vy_12, .int vy_13, .int (Mv 5), .int vy_14, .int vy_15, .int (Mv 8), .ref (Ma 7), .int vy_16, .ref (Ma 8), .int (Mv 10), .ref (Ma 9), .ref (Ma 10), .int (Mv 11), .int (Mv 12), .int (Mv 13), .ref (Ma 11), .int (Mv 14), .ref (Ma 12), .ref (Ma 13), .ref (Ma 14), .ref (Ma 15), .ref (Ma 16), .long (Mj 0), .ref (Ma 17), .ref (Ma 18), .ref (Ma 19), .ref (Ma 20)])), ((Ma 7), .inl (tc 0, 400, .inl vy_19))] H := hP₀
        replace hD : va_D A [((Ma 1), .inl (tc 2, 400, .inl (Mf 1))), ((Ma 2), .inl (tc 0, 2400, .inl vy_17)), ((Ma 3), .inl (tc 0, 7, .inl vy_18)), ((Ma 0), .inr (12, [.ref (Ma 1), .int (Mv 0), .int (Mv 1), .ref (Ma 2), .ref (Ma 3), .ref (Ma 4), .ref (Ma 5), .ref (Ma 6), .int vy_11, .int vy_12, .int vy_13, .int (Mv 5), .int vy_14, .int vy_15, .int (Mv 8), .ref (Ma 7), .int vy_16, .ref (Ma 8), .int (Mv 10), .ref (Ma 9), .ref (Ma 10), .int (Mv 11), .int (Mv 12), .int (Mv 13), .ref (Ma 11), .int (Mv 14), .ref (Ma 12), .ref (Ma 13), .ref (Ma 14), .ref (Ma 15), .ref (Ma 16), .long (Mj 0), .ref (Ma 17), .ref (Ma 18), .ref (Ma 19), .ref (Ma 20)])), ((Ma 7), .inl (tc 0, 400, .inl vy_19))] := hD₀
        replace hS := hS₀
        clear hP₀ hD₀ hS₀
        refine lv_if_eq (tgt := 134) hx hb dX12_tested_116 (by decide) (fun c_48 => ?_) (fun c_48 => ?_)
        · skip
          have hz_50 : (r_43 : Int32).toInt = 0 := by
            have z_1 := congrArg Int32.toInt c_33
            have z_2 := congrArg Int32.toInt c_48
            have y_0 : (0 : Int32).toInt = 0 := by decide
            omega
          obtain pf_49 := hm_47 hz_50
          have pf_49 : NIns vy_19 vy_16 := pf_49
          refine lv_aload_n hx hb dX12_tested_134 rfl (lv_at hl 1 rfl) ?_
          refine lv_iconst (v := 1) hx hb dX12_tested_135 (by decide) ?_
          have ha_51 : 1 ≤ (1 : Int32).toInt ∧ (1 : Int32).toInt ≤ 3 := by
            have z_1 := congrArg Int32.toInt c_33
            have z_2 := congrArg Int32.toInt c_48
            have y_0 : (0 : Int32).toInt = 0 := by decide
            have y_1 : (1 : Int32).toInt = 1 := by decide
            omega
          have ha_52 : (vy_18 (Mv 5).toNatClampNeg).toInt + (vy_16 : Int32).toInt ≤ 400 := by
            have z_1 := congrArg Int32.toInt c_33
            have z_2 := congrArg Int32.toInt c_48
            have y_0 : (0 : Int32).toInt = 0 := by decide
            omega
          refine cV (a := (Ma 0)) (As := [.int 1]) (rest := []) (wr := [((Ma 1), .inl (tc 2, 400, .inl (Mf 1)))]) ⟨hx, hb, hml, hown, hts⟩ hK hX hA (cu_fX12_layDown l D tc sk (Ma 0) (Ma 1) (Ma 2) (Ma 3) (Ma 4) (Ma 5) (Ma 6) (Ma 7) (Ma 8) (Ma 9) (Ma 10) (Ma 11) (Ma 12) (Ma 13) (Ma 14) (Ma 15) (Ma 16) (Ma 17) (Ma 18) (Ma 19) (Ma 20) (Mv 0) (Mv 1) vy_11 vy_12 vy_13 (Mv 5) vy_14 vy_15 (Mv 8) vy_16 (Mv 10) (Mv 11) (Mv 12) (Mv 13) (Mv 14) vy_17 vy_18 vy_19 (Mj 0) 1 b pf_34 ha_51 ha_52 pf_31.1.1) k_1342 k_1339 k_1341 k_54 k_106 pl_X12_layDown ⟨Nat.le_of_ble_eq_true rfl, Nat.le_of_ble_eq_true rfl⟩ rfl rfl (va_recv hK hP (ci := 12) (q0 := 3) rfl rfl) hP hD hS [3, 1, 2, 4] [0] rfl rfl rfl rfl rfl (by decide) rfl hl.1 rfl (Nat.le_of_ble_eq_true rfl) dX12_tested_136 ⟨Nat.le_of_ble_eq_true rfl, Nat.le_of_ble_eq_true rfl⟩ (fun v_53 u_54 H locs hv_55 hP₀ hD₀ hS₀ => ?_)
          obtain ⟨sv_56, sv_57, sv_58, sv_59⟩ := u_54
          obtain ⟨rfl, pf_60, pf_61, pf_62, pf_63, pf_64, pf_65, pf_66⟩ := hv_55
          have pf_60 : LSR vy_19 sv_57 sv_58 sv_59 (Mv 5) b vy_14 := pf_60
          obtain ⟨pn_67, pf_68, pf_69⟩ := id pf_60
          have ar_pf_60 := LSR.ar pf_60
          have ar_pf_69 := Cd.ar pf_69
          have pf_61 : (sv_59 (Mv 5).toNatClampNeg).toInt + (sv_57 : Int32).toInt = (vy_18 (Mv 5).toNatClampNeg).toInt + (vy_16 : Int32).toInt ∧ 0 ≤ (sv_57 : Int32).toInt ∧ (sv_57 : Int32).toInt ≤ (vy_16 : Int32).toInt := pf_61
          have pf_62 : Agr vy_17 sv_58 (400 * ((Mv 5) : Int32).toInt + (vy_18 (Mv 5).toNatClampNeg).toInt) := pf_62
          have pf_63 : LdE vy_19 sv_57 (1 : Int32) := pf_63
          have pf_64 : InK vy_19 vy_16 sv_57 := pf_64
          have pf_65 : LdP vy_19 vy_16 sv_57 sv_56 := pf_65
          have ar_pf_65 := OsP.ar pf_65.1
          have pf_66 : T11 vy_19 sv_57 := pf_66
          refine W.eq (g2 := F0 m 139 ls []) rfl ?_
          replace hP : va_P D classes [((Ma 1), .inl (tc 2, 400, .inl (Mf 1))), ((Ma 0), .inr (12, [.ref (Ma 1), .int (Mv 0), .int (Mv 1), .ref (Ma 2), .ref (Ma 3), .ref (Ma 4), .ref (Ma 5), .ref (Ma 6), .int vy_11, .int vy_12, .int vy_13, .int (Mv 5), .int vy_14, .int sv_56, .int (Mv 8), .ref (Ma 7), .int sv_57, .ref (Ma 8), .int (Mv 10), .ref (Ma 9), .ref (Ma 10), .int (Mv 11), .int (Mv 12), .int (Mv 13), .ref (Ma 11), .int (Mv 14), .ref (Ma 12), .ref (Ma 13), .ref (Ma 14), .ref (Ma 15), .ref (Ma 16), .long (Mj 0), .ref (Ma 17), .ref (Ma 18), .ref (Ma 19), .ref (Ma 20)])), ((Ma 2), .inl (tc 0, 2400, .inl sv_58)), ((Ma 3), .inl (tc 0, 7, .inl sv_59)), ((Ma 7), .inl (tc 0, 400, .inl vy_19))] H := hP₀
          replace hD : va_D A [((Ma 1), .inl (tc 2, 400, .inl (Mf 1))), ((Ma 0), .inr (12, [.ref (Ma 1), .int (Mv 0), .int (Mv 1), .ref (Ma 2), .ref (Ma 3), .ref (Ma 4), .ref (Ma 5), .ref (Ma 6), .int vy_11, .int vy_12, .int vy_13, .int (Mv 5), .int vy_14, .int sv_56, .int (Mv 8), .ref (Ma 7), .int sv_57, .ref (Ma 8), .int (Mv 10), .ref (Ma 9), .ref (Ma 10), .int (Mv 11), .int (Mv 12), .int (Mv 13), .ref (Ma 11), .int (Mv 14), .ref (Ma 12), .ref (Ma 13), .ref (Ma 14), .ref (Ma 15), .ref (Ma 16), .long (Mj 0), .ref (Ma 17), .ref (Ma 18), .ref (Ma 19), .ref (Ma 20)])), ((Ma 2), .inl (tc 0, 2400, .inl sv_58)), ((Ma 3), .inl (tc 0, 7, .inl sv_59)), ((Ma 7), .inl (tc 0, 400, .inl vy_19))] := hD₀
          replace hS := hS₀
          clear hP₀ hD₀ hS₀
          refine lv_iconst (v := 1) hx hb dX12_tested_139 (by decide) ?_
          have ha_70 : ((Mv 2) : Int32).toInt ≤ (vy_11 : Int32).toInt ∧ (vy_11 : Int32).toInt ≤ ((Mv 0) : Int32).toInt := by
            have z_1 := congrArg Int32.toInt c_33
            have z_2 := congrArg Int32.toInt c_48
            have y_0 : (0 : Int32).toInt = 0 := by decide
            omega
          have ha_71 : ((Mv 6) : Int32).toInt ≤ (vy_14 : Int32).toInt ∧ (vy_14 : Int32).toInt ≤ 60 := by
            have z_1 := congrArg Int32.toInt c_33
            have z_2 := congrArg Int32.toInt c_48
            have y_0 : (0 : Int32).toInt = 0 := by decide
            omega
          have hr_72 : (400 * ((Mv 5) : Int32).toInt + ((Mf 3) (Mv 5).toNatClampNeg).toInt) ≤ (400 * ((Mv 5) : Int32).toInt + ((Mf 3) (Mv 5).toNatClampNeg).toInt) := by
            have z_1 := congrArg Int32.toInt c_33
            have z_2 := congrArg Int32.toInt c_48
            have y_0 : (0 : Int32).toInt = 0 := by decide
            omega
          have hr_73 : (400 * ((Mv 5) : Int32).toInt + ((Mf 3) (Mv 5).toNatClampNeg).toInt) ≤ (400 * ((Mv 5) : Int32).toInt + (vy_18 (Mv 5).toNatClampNeg).toInt) := by
            have z_1 := congrArg Int32.toInt c_33
            have z_2 := congrArg Int32.toInt c_48
            have y_0 : (0 : Int32).toInt = 0 := by decide
            omega
          have hp_74 : (((1 : Int32).toInt = 0 ∧ ¬ (vy_12 : Int32).toInt = 0) ∨ ((1 : Int32).toInt = 1 ∧ ((Mf 3) (Mv 5).toNatClampNeg).toInt ≤ (sv_59 (Mv 5).toNatClampNeg).toInt ∧ (sv_59 (Mv 5).toNatClampNeg).toInt ≤ (vy_11 : Int32).toInt)) := by
            have z_1 := congrArg Int32.toInt c_33
            have z_2 := congrArg Int32.toInt c_48
            have y_0 : (0 : Int32).toInt = 0 := by decide
            have y_1 : (1 : Int32).toInt = 1 := by decide
            have yr : (1 : Int32).toInt = 1 := by decide
            omega
          have hm_75 : (1 : Int32).toInt = 1 → (Cd sv_58 sv_59 (Mv 5) b vy_14 1) ∧ (RfO (pz_tst (rB (Mf 1) (Mv 0)) (pz_fact (rB (Mf 1) (Mv 0)) 10) (St0 (rB (Mf 1) (Mv 0)) (Mv 2) (Mv 6))) (rB (Mf 1) (Mv 0)) vy_12 vy_11 vy_14) := by
            intro h1r
            have hr_76 : (sv_57 : Int32).toInt ≤ (vy_16 : Int32).toInt := by
              have z_1 := congrArg Int32.toInt c_33
              have z_2 := congrArg Int32.toInt c_48
              have y_0 : (0 : Int32).toInt = 0 := by decide
              omega
            have hr_77 : (vy_20 : Int32).toInt = 0 := by
              have z_1 := congrArg Int32.toInt c_33
              have z_2 := congrArg Int32.toInt c_48
              have y_0 : (0 : Int32).toInt = 0 := by decide
              omega
            have hr_78 : 0 ≤ (vy_14 : Int32).toInt := by
              have z_1 := congrArg Int32.toInt c_33
              have z_2 := congrArg Int32.toInt c_48
              have y_0 : (0 : Int32).toInt = 0 := by decide
              omega
            exact ⟨(LSR.fin pf_60 pf_63 (by decide) pf_49 hr_76), (TsL.out pf_31 hr_77 pf_49 hr_78)⟩
          exact retI (v := 1) hx hb hr hlk (rfl) hP hD hS (vy_11, vy_12, vy_13, vy_14, sv_56, sv_57, sv_58, sv_59, vy_19) ⟨_, rfl, hp_74, ha_70, ha_71, (Agr.trans (k' := (400 * ((Mv 5) : Int32).toInt + ((Mf 3) (Mv 5).toNatClampNeg).toInt)) (Agr.mono pf_30 hr_72) pf_62 ⟨Int.le_refl _, hr_73⟩), hm_75, (fun h => absurd h (by decide))⟩ [1, 0, 2, 3, 4] rfl rfl dX12_tested_140 (Nat.le_of_ble_eq_true rfl) (Nat.le_of_ble_eq_true rfl) rfl
        · skip
          have hz_80 : (r_43 : Int32).toInt = 1 := by
            have z_1 := congrArg Int32.toInt c_33
            have z_2 : ¬ (r_43 : Int32).toInt = (0 : Int32).toInt := fun z => c_48 (Int32.toInt_inj.mp z)
            have y_0 : (0 : Int32).toInt = 0 := by decide
            omega
          obtain pf_79 := hm_46 hz_80
          have pf_79 : Ins vy_19 vy_16 := pf_79
          have ar_pf_79 := Ins.ar pf_79
          refine lv_aload_n hx hb dX12_tested_119 rfl (lv_at hl 1 rfl) ?_
          refine cV (a := (Ma 0)) (As := []) (rest := []) (wr := [((Ma 2), .inl (tc 0, 2400, .inl vy_17)), ((Ma 3), .inl (tc 0, 7, .inl vy_18)), ((Ma 7), .inl (tc 0, 400, .inl vy_19))]) ⟨hx, hb, hml, hown, hts⟩ hK hX hA (cu_fX12_see l D tc sk (Ma 0) (Ma 1) (Ma 2) (Ma 3) (Ma 4) (Ma 5) (Ma 6) (Ma 7) (Ma 8) (Ma 9) (Ma 10) (Ma 11) (Ma 12) (Ma 13) (Ma 14) (Ma 15) (Ma 16) (Ma 17) (Ma 18) (Ma 19) (Ma 20) (Mv 0) (Mv 1) vy_11 vy_12 vy_13 (Mv 5) vy_14 vy_15 (Mv 8) vy_16 (Mv 10) (Mv 11) (Mv 12) (Mv 13) (Mv 14) (Mf 1) (Mj 0) pf_24 h_bs) k_1211 k_1208 k_1210 k_27 k_106 pl_X12_see ⟨Nat.le_of_ble_eq_true rfl, Nat.le_of_ble_eq_true rfl⟩ rfl rfl (va_recv hK hP (ci := 12) (q0 := 3) rfl rfl) hP hD hS [3, 0] [1, 2, 4] rfl rfl rfl rfl rfl (by decide) rfl hl.1 rfl (Nat.le_of_ble_eq_true rfl) dX12_tested_120 ⟨Nat.le_of_ble_eq_true rfl, Nat.le_of_ble_eq_true rfl⟩ (fun v_81 u_82 H locs hv_83 hP₀ hD₀ hS₀ => ?_)
          obtain ⟨sv_84, rfl⟩ : ∃ z, z = u_82 := ⟨_, rfl⟩
          obtain ⟨r_89, rfl, he_90, pf_85, pf_86, pf_87, pf_88⟩ := hv_83
          have he_90 : (r_89.toInt = rB (Mf 1) (Mv 0) (sv_84 : Int32).toInt.toNat ∧ (r_89.toInt = -1 ∨ (sv_84 : Int32).toInt < (Mv 0).toInt)) := he_90
          have pf_85 : (vy_11 : Int32).toInt ≤ (sv_84 : Int32).toInt ∧ (sv_84 : Int32).toInt ≤ ((Mv 0) : Int32).toInt := pf_85
          have pf_86 : NSq (Mf 1) (Mv 0) sv_84 := pf_86
          have pf_87 : Stl (Mf 1) (Mv 0) vy_11 sv_84 := pf_87
          have pf_88 : SkR (rB (Mf 1) (Mv 0)) vy_11 sv_84 := pf_88
          refine W.eq (g2 := F0 m 123 ls [.int r_89]) rfl ?_
          replace hP : va_P D classes [((Ma 2), .inl (tc 0, 2400, .inl vy_17)), ((Ma 3), .inl (tc 0, 7, .inl vy_18)), ((Ma 7), .inl (tc 0, 400, .inl vy_19)), ((Ma 0), .inr (12, [.ref (Ma 1), .int (Mv 0), .int (Mv 1), .ref (Ma 2), .ref (Ma 3), .ref (Ma 4), .ref (Ma 5), .ref (Ma 6), .int sv_84, .int vy_12, .int vy_13, .int (Mv 5), .int vy_14, .int vy_15, .int (Mv 8), .ref (Ma 7), .int vy_16, .ref (Ma 8), .int (Mv 10), .ref (Ma 9), .ref (Ma 10), .int (Mv 11), .int (Mv 12), .int (Mv 13), .ref (Ma 11), .int (Mv 14), .ref (Ma 12), .ref (Ma 13), .ref (Ma 14), .ref (Ma 15), .ref (Ma 16), .long (Mj 0), .ref (Ma 17), .ref (Ma 18), .ref (Ma 19), .ref (Ma 20)])), ((Ma 1), .inl (tc 2, 400, .inl (Mf 1)))] H := hP₀
          replace hD : va_D A [((Ma 2), .inl (tc 0, 2400, .inl vy_17)), ((Ma 3), .inl (tc 0, 7, .inl vy_18)), ((Ma 7), .inl (tc 0, 400, .inl vy_19)), ((Ma 0), .inr (12, [.ref (Ma 1), .int (Mv 0), .int (Mv 1), .ref (Ma 2), .ref (Ma 3), .ref (Ma 4), .ref (Ma 5), .ref (Ma 6), .int sv_84, .int vy_12, .int vy_13, .int (Mv 5), .int vy_14, .int vy_15, .int (Mv 8), .ref (Ma 7), .int vy_16, .ref (Ma 8), .int (Mv 10), .ref (Ma 9), .ref (Ma 10), .int (Mv 11), .int (Mv 12), .int (Mv 13), .ref (Ma 11), .int (Mv 14), .ref (Ma 12), .ref (Ma 13), .ref (Ma 14), .ref (Ma 15), .ref (Ma 16), .long (Mj 0), .ref (Ma 17), .ref (Ma 18), .ref (Ma 19), .ref (Ma 20)])), ((Ma 1), .inl (tc 2, 400, .inl (Mf 1)))] := hD₀
          replace hS := hS₀
          clear hP₀ hD₀ hS₀
          refine lv_pop hx hb dX12_tested_123 rfl ?_
          refine lv_aload_n hx hb dX12_tested_124 rfl (lv_at hl 1 rfl) ?_
          refine lv_iconst (v := 0) hx hb dX12_tested_125 (by decide) ?_
          refine lv_aload_n hx hb dX12_tested_126 rfl (lv_at hl 1 rfl) ?_
          refine gf_X12_87 hx hb hts hown hK hP 3 rfl rfl dX12_tested_127 ?_
          have ha_92 : 0 ≤ (0 : Int32).toInt ∧ (0 : Int32).toInt ≤ 4 := by
            have z_1 := congrArg Int32.toInt c_33
            have z_2 : ¬ (r_43 : Int32).toInt = (0 : Int32).toInt := fun z => c_48 (Int32.toInt_inj.mp z)
            have y_0 : (0 : Int32).toInt = 0 := by decide
            omega
          have ha_93 : 0 ≤ sv_84.toInt ∧ sv_84.toInt ≤ 400 := by
            have z_1 := congrArg Int32.toInt c_33
            have z_2 : ¬ (r_43 : Int32).toInt = (0 : Int32).toInt := fun z => c_48 (Int32.toInt_inj.mp z)
            have y_0 : (0 : Int32).toInt = 0 := by decide
            omega
          have ha_94 : (vy_12 : Int32).toInt = 0 := by
            have z_1 := congrArg Int32.toInt c_33
            have z_2 : ¬ (r_43 : Int32).toInt = (0 : Int32).toInt := fun z => c_48 (Int32.toInt_inj.mp z)
            have y_0 : (0 : Int32).toInt = 0 := by decide
            omega
          refine cV (a := (Ma 0)) (As := [.int 0, .int sv_84]) (rest := []) (wr := [((Ma 2), .inl (tc 0, 2400, .inl vy_17)), ((Ma 3), .inl (tc 0, 7, .inl vy_18)), ((Ma 7), .inl (tc 0, 400, .inl vy_19)), ((Ma 1), .inl (tc 2, 400, .inl (Mf 1)))]) ⟨hx, hb, hml, hown, hts⟩ hK hX hA (cu_fX12_fails l D tc sk (Ma 0) (Ma 1) (Ma 2) (Ma 3) (Ma 4) (Ma 5) (Ma 6) (Ma 7) (Ma 8) (Ma 9) (Ma 10) (Ma 11) (Ma 12) (Ma 13) (Ma 14) (Ma 15) (Ma 16) (Ma 17) (Ma 18) (Ma 19) (Ma 20) (Mv 0) (Mv 1) sv_84 vy_12 vy_13 (Mv 5) vy_14 vy_15 (Mv 8) vy_16 (Mv 10) (Mv 11) (Mv 12) (Mv 13) (Mv 14) (Mj 0) 0 sv_84 ha_92 ha_93 ha_94) k_1232 k_1229 k_1231 k_31 k_106 pl_X12_fails ⟨Nat.le_of_ble_eq_true rfl, Nat.le_of_ble_eq_true rfl⟩ rfl rfl (va_recv hK hP (ci := 12) (q0 := 3) rfl rfl) hP hD hS [3] [0, 1, 2, 4] rfl rfl rfl rfl rfl (by decide) rfl hl.1 rfl (Nat.le_of_ble_eq_true rfl) dX12_tested_130 ⟨Nat.le_of_ble_eq_true rfl, Nat.le_of_ble_eq_true rfl⟩ (fun v_95 u_96 H locs hv_97 hP₀ hD₀ hS₀ => ?_)
          obtain ⟨sv_98, rfl⟩ : ∃ z, z = u_96 := ⟨_, rfl⟩
          obtain ⟨r_101, rfl, he_102, pf_99, pf_100⟩ := hv_97
          have he_102 : r_101.toInt = 0 := he_102
          have pf_99 : ¬ (sv_98 : Int32).toInt = 0 := pf_99
          have pf_100 : (sv_98 : Int32).toInt = 1 + 8 * sv_84.toInt + (0 : Int32).toInt := pf_100
          refine W.eq (g2 := F0 m 133 ls [.int r_101]) rfl ?_
          replace hP : va_P D classes [((Ma 2), .inl (tc 0, 2400, .inl vy_17)), ((Ma 3), .inl (tc 0, 7, .inl vy_18)), ((Ma 7), .inl (tc 0, 400, .inl vy_19)), ((Ma 1), .inl (tc 2, 400, .inl (Mf 1))), ((Ma 0), .inr (12, [.ref (Ma 1), .int (Mv 0), .int (Mv 1), .ref (Ma 2), .ref (Ma 3), .ref (Ma 4), .ref (Ma 5), .ref (Ma 6), .int sv_84, .int sv_98, .int vy_13, .int (Mv 5), .int vy_14, .int vy_15, .int (Mv 8), .ref (Ma 7), .int vy_16, .ref (Ma 8), .int (Mv 10), .ref (Ma 9), .ref (Ma 10), .int (Mv 11), .int (Mv 12), .int (Mv 13), .ref (Ma 11), .int (Mv 14), .ref (Ma 12), .ref (Ma 13), .ref (Ma 14), .ref (Ma 15), .ref (Ma 16), .long (Mj 0), .ref (Ma 17), .ref (Ma 18), .ref (Ma 19), .ref (Ma 20)]))] H := hP₀
          replace hD : va_D A [((Ma 2), .inl (tc 0, 2400, .inl vy_17)), ((Ma 3), .inl (tc 0, 7, .inl vy_18)), ((Ma 7), .inl (tc 0, 400, .inl vy_19)), ((Ma 1), .inl (tc 2, 400, .inl (Mf 1))), ((Ma 0), .inr (12, [.ref (Ma 1), .int (Mv 0), .int (Mv 1), .ref (Ma 2), .ref (Ma 3), .ref (Ma 4), .ref (Ma 5), .ref (Ma 6), .int sv_84, .int sv_98, .int vy_13, .int (Mv 5), .int vy_14, .int vy_15, .int (Mv 8), .ref (Ma 7), .int vy_16, .ref (Ma 8), .int (Mv 10), .ref (Ma 9), .ref (Ma 10), .int (Mv 11), .int (Mv 12), .int (Mv 13), .ref (Ma 11), .int (Mv 14), .ref (Ma 12), .ref (Ma 13), .ref (Ma 14), .ref (Ma 15), .ref (Ma 16), .long (Mj 0), .ref (Ma 17), .ref (Ma 18), .ref (Ma 19), .ref (Ma 20)]))] := hD₀
          replace hS := hS₀
          clear hP₀ hD₀ hS₀
          have yf_104 : (0 : Int32).toInt = 0 := by decide
          have ha_105 : ((Mv 2) : Int32).toInt ≤ (sv_84 : Int32).toInt ∧ (sv_84 : Int32).toInt ≤ ((Mv 0) : Int32).toInt := by
            have z_1 := congrArg Int32.toInt c_33
            have z_2 : ¬ (r_43 : Int32).toInt = (0 : Int32).toInt := fun z => c_48 (Int32.toInt_inj.mp z)
            have y_0 : (0 : Int32).toInt = 0 := by decide
            omega
          have ha_106 : ((Mv 6) : Int32).toInt ≤ (vy_14 : Int32).toInt ∧ (vy_14 : Int32).toInt ≤ 60 := by
            have z_1 := congrArg Int32.toInt c_33
            have z_2 : ¬ (r_43 : Int32).toInt = (0 : Int32).toInt := fun z => c_48 (Int32.toInt_inj.mp z)
            have y_0 : (0 : Int32).toInt = 0 := by decide
            omega
          have hb_107 : (r_101 : Int32).toInt = 0 ∨ (r_101 : Int32).toInt = 1 := by
            have z_1 := congrArg Int32.toInt c_33
            have z_2 : ¬ (r_43 : Int32).toInt = (0 : Int32).toInt := fun z => c_48 (Int32.toInt_inj.mp z)
            have y_0 : (0 : Int32).toInt = 0 := by decide
            omega
          have hp_108 : (((r_101 : Int32).toInt = 0 ∧ ¬ (sv_98 : Int32).toInt = 0) ∨ ((r_101 : Int32).toInt = 1 ∧ ((Mf 3) (Mv 5).toNatClampNeg).toInt ≤ (vy_18 (Mv 5).toNatClampNeg).toInt ∧ (vy_18 (Mv 5).toNatClampNeg).toInt ≤ (sv_84 : Int32).toInt)) := by
            have z_1 := congrArg Int32.toInt c_33
            have z_2 : ¬ (r_43 : Int32).toInt = (0 : Int32).toInt := fun z => c_48 (Int32.toInt_inj.mp z)
            have y_0 : (0 : Int32).toInt = 0 := by decide
            omega
          have hm_109 : (r_101 : Int32).toInt = 1 → (Cd vy_17 vy_18 (Mv 5) b vy_14 1) ∧ (RfO (pz_tst (rB (Mf 1) (Mv 0)) (pz_fact (rB (Mf 1) (Mv 0)) 10) (St0 (rB (Mf 1) (Mv 0)) (Mv 2) (Mv 6))) (rB (Mf 1) (Mv 0)) sv_98 sv_84 vy_14) := by
            intro h1r
            exfalso
            have z_1 := congrArg Int32.toInt c_33
            have z_2 : ¬ (r_43 : Int32).toInt = (0 : Int32).toInt := fun z => c_48 (Int32.toInt_inj.mp z)
            have y_0 : (0 : Int32).toInt = 0 := by decide
            omega
          have hm_110 : (r_101 : Int32).toInt = 0 → (RfE (pz_tst (rB (Mf 1) (Mv 0)) (pz_fact (rB (Mf 1) (Mv 0)) 10) (St0 (rB (Mf 1) (Mv 0)) (Mv 2) (Mv 6))) sv_98) := by
            intro h1r
            have hr_111 : (vy_20 : Int32).toInt = 0 := by
              have z_1 := congrArg Int32.toInt c_33
              have z_2 : ¬ (r_43 : Int32).toInt = (0 : Int32).toInt := fun z => c_48 (Int32.toInt_inj.mp z)
              have y_0 : (0 : Int32).toInt = 0 := by decide
              omega
            have hi_112 : (sv_98 : Int32).toInt = 1 + 8 * (sv_84 : Int32).toInt := by
              have z_1 := congrArg Int32.toInt c_33
              have z_2 : ¬ (r_43 : Int32).toInt = (0 : Int32).toInt := fun z => c_48 (Int32.toInt_inj.mp z)
              have y_0 : (0 : Int32).toInt = 0 := by decide
              omega
            exact (TsL.in pf_31 hr_111 pf_79 pf_88 hi_112)
          exact retI (v := r_101) hx hb hr hlk (nar01 hb_107) hP hD hS (sv_84, sv_98, vy_13, vy_14, vy_15, vy_16, vy_17, vy_18, vy_19) ⟨_, rfl, hp_108, ha_105, ha_106, pf_30, hm_109, hm_110⟩ [4, 3, 0, 1, 2] rfl rfl dX12_tested_133 (Nat.le_of_ble_eq_true rfl) (Nat.le_of_ble_eq_true rfl) rfl
      · skip
        have hr_114 : (vy_20 : Int32).toInt = 1 := by
          have z_1 : ¬ (vy_20 : Int32).toInt = (0 : Int32).toInt := fun z => c_33 (Int32.toInt_inj.mp z)
          have y_0 : (0 : Int32).toInt = 0 := by decide
          omega
        have pf_113 : LBR vy_19 vy_16 vy_17 vy_18 (Mv 5) b vy_14 := pf_28.1 hr_114
        obtain ⟨pn_115, pf_116, pf_117⟩ := id pf_113
        have ar_pf_113 := LBR.ar pf_113
        have ar_pf_117 := Cd.ar pf_117
        refine lv_aload_n hx hb dX12_tested_16 rfl (lv_at hl 1 rfl) ?_
        have hr_118 : (vy_20 : Int32).toInt = 1 := by
          have z_1 : ¬ (vy_20 : Int32).toInt = (0 : Int32).toInt := fun z => c_33 (Int32.toInt_inj.mp z)
          have y_0 : (0 : Int32).toInt = 0 := by decide
          omega
        have ha_119 : (vy_18 (Mv 5).toNatClampNeg).toInt + (vy_16 : Int32).toInt ≤ (vy_11 : Int32).toInt := by
          have z_1 : ¬ (vy_20 : Int32).toInt = (0 : Int32).toInt := fun z => c_33 (Int32.toInt_inj.mp z)
          have y_0 : (0 : Int32).toInt = 0 := by decide
          omega
        have ha_120 : 0 ≤ (vy_14 : Int32).toInt ∧ (vy_14 : Int32).toInt ≤ 60 := by
          have z_1 : ¬ (vy_20 : Int32).toInt = (0 : Int32).toInt := fun z => c_33 (Int32.toInt_inj.mp z)
          have y_0 : (0 : Int32).toInt = 0 := by decide
          omega
        refine cV (a := (Ma 0)) (As := []) (rest := []) (wr := []) ⟨hx, hb, hml, hown, hts⟩ hK hX hA (cu_fX12_fact l D tc sk (Ma 0) (Ma 1) (Ma 2) (Ma 3) (Ma 4) (Ma 5) (Ma 6) (Ma 7) (Ma 8) (Ma 9) (Ma 10) (Ma 11) (Ma 12) (Ma 13) (Ma 14) (Ma 15) (Ma 16) (Ma 17) (Ma 18) (Ma 19) (Ma 20) (Mv 0) (Mv 1) vy_11 vy_12 vy_13 (Mv 5) vy_14 vy_15 (Mv 8) vy_16 (Mv 10) (Mv 11) (Mv 12) (Mv 13) (Mv 14) (Mf 1) vy_17 vy_18 vy_19 (Mj 0) b (pz_tst (rB (Mf 1) (Mv 0)) (pz_fact (rB (Mf 1) (Mv 0)) 10) (St0 (rB (Mf 1) (Mv 0)) (Mv 2) (Mv 6))) pf_24 pf_113 ha_119 ha_120 h_bs (pf_31.2.1 hr_118)) k_1325 k_1322 k_1324 k_50 k_106 pl_X12_fact ⟨Nat.le_of_ble_eq_true rfl, Nat.le_of_ble_eq_true rfl⟩ rfl rfl (va_recv hK hP (ci := 12) (q0 := 0) rfl rfl) hP hD hS [0, 1, 2, 3, 4] [] rfl rfl rfl rfl rfl (by decide) rfl hl.1 rfl (Nat.le_of_ble_eq_true rfl) dX12_tested_17 ⟨Nat.le_of_ble_eq_true rfl, Nat.le_of_ble_eq_true rfl⟩ (fun v_121 u_122 H locs hv_123 hP₀ hD₀ hS₀ => ?_)
        obtain ⟨sv_124, sv_125, sv_126, sv_127, sv_128, sv_129, sv_130, sv_131, sv_132⟩ := u_122
        obtain ⟨r_136, rfl, he_137, pf_133, pf_134, pf_135, hm_139, hm_140⟩ := hv_123
        have he_137 : ((r_136.toInt = 0 ∧ ¬ (sv_125 : Int32).toInt = 0) ∨ (r_136.toInt = 1 ∧ (sv_131 (Mv 5).toNatClampNeg).toInt + (sv_129 : Int32).toInt + (vy_11 : Int32).toInt ≤ (vy_18 (Mv 5).toNatClampNeg).toInt + (vy_16 : Int32).toInt + (sv_124 : Int32).toInt ∧ (vy_11 : Int32).toInt + 1 ≤ (sv_124 : Int32).toInt ∧ (vy_18 (Mv 5).toNatClampNeg).toInt ≤ (sv_131 (Mv 5).toNatClampNeg).toInt)) := he_137
        have pf_133 : (vy_11 : Int32).toInt ≤ (sv_124 : Int32).toInt ∧ (sv_124 : Int32).toInt ≤ ((Mv 0) : Int32).toInt := pf_133
        have pf_134 : (vy_14 : Int32).toInt ≤ (sv_127 : Int32).toInt ∧ (sv_127 : Int32).toInt ≤ 60 := pf_134
        have pf_135 : Agr vy_17 sv_130 (400 * ((Mv 5) : Int32).toInt + (vy_18 (Mv 5).toNatClampNeg).toInt) := pf_135
        refine W.eq (g2 := F0 m 20 ls [.int r_136]) rfl ?_
        replace hP : va_P D classes [((Ma 0), .inr (12, [.ref (Ma 1), .int (Mv 0), .int (Mv 1), .ref (Ma 2), .ref (Ma 3), .ref (Ma 4), .ref (Ma 5), .ref (Ma 6), .int sv_124, .int sv_125, .int sv_126, .int (Mv 5), .int sv_127, .int sv_128, .int (Mv 8), .ref (Ma 7), .int sv_129, .ref (Ma 8), .int (Mv 10), .ref (Ma 9), .ref (Ma 10), .int (Mv 11), .int (Mv 12), .int (Mv 13), .ref (Ma 11), .int (Mv 14), .ref (Ma 12), .ref (Ma 13), .ref (Ma 14), .ref (Ma 15), .ref (Ma 16), .long (Mj 0), .ref (Ma 17), .ref (Ma 18), .ref (Ma 19), .ref (Ma 20)])), ((Ma 1), .inl (tc 2, 400, .inl (Mf 1))), ((Ma 2), .inl (tc 0, 2400, .inl sv_130)), ((Ma 3), .inl (tc 0, 7, .inl sv_131)), ((Ma 7), .inl (tc 0, 400, .inl sv_132))] H := hP₀
        replace hD : va_D A [((Ma 0), .inr (12, [.ref (Ma 1), .int (Mv 0), .int (Mv 1), .ref (Ma 2), .ref (Ma 3), .ref (Ma 4), .ref (Ma 5), .ref (Ma 6), .int sv_124, .int sv_125, .int sv_126, .int (Mv 5), .int sv_127, .int sv_128, .int (Mv 8), .ref (Ma 7), .int sv_129, .ref (Ma 8), .int (Mv 10), .ref (Ma 9), .ref (Ma 10), .int (Mv 11), .int (Mv 12), .int (Mv 13), .ref (Ma 11), .int (Mv 14), .ref (Ma 12), .ref (Ma 13), .ref (Ma 14), .ref (Ma 15), .ref (Ma 16), .long (Mj 0), .ref (Ma 17), .ref (Ma 18), .ref (Ma 19), .ref (Ma 20)])), ((Ma 1), .inl (tc 2, 400, .inl (Mf 1))), ((Ma 2), .inl (tc 0, 2400, .inl sv_130)), ((Ma 3), .inl (tc 0, 7, .inl sv_131)), ((Ma 7), .inl (tc 0, 400, .inl sv_132))] := hD₀
        replace hS := hS₀
        clear hP₀ hD₀ hS₀
        refine lv_if_ne (tgt := 25) hx hb dX12_tested_20 (by decide) (fun c_141 => ?_) (fun c_141 => ?_)
        · skip
          have hz_144 : (r_136 : Int32).toInt = 1 := by
            have z_1 : ¬ (vy_20 : Int32).toInt = (0 : Int32).toInt := fun z => c_33 (Int32.toInt_inj.mp z)
            have z_2 : ¬ (r_136 : Int32).toInt = (0 : Int32).toInt := fun z => c_141 (Int32.toInt_inj.mp z)
            have y_0 : (0 : Int32).toInt = 0 := by decide
            omega
          obtain ⟨pf_142, pf_143⟩ := hm_139 hz_144
          have pf_142 : LSR sv_132 sv_129 sv_130 sv_131 (Mv 5) b sv_127 := pf_142
          obtain ⟨pn_145, pf_146, pf_147⟩ := id pf_142
          have ar_pf_142 := LSR.ar pf_142
          have ar_pf_147 := Cd.ar pf_147
          have pf_143 : FcO (pz_tst (rB (Mf 1) (Mv 0)) (pz_fact (rB (Mf 1) (Mv 0)) 10) (St0 (rB (Mf 1) (Mv 0)) (Mv 2) (Mv 6))) (rB (Mf 1) (Mv 0)) sv_132 sv_129 sv_128 sv_124 sv_127 sv_125 := pf_143
          have ar_pf_143 := OsP.ar pf_143.1
          have aw_pf_143 := pf_143.2.1
          refine lv_aload_n hx hb dX12_tested_25 rfl (lv_at hl 1 rfl) ?_
          have ha_148 : 0 ≤ (sv_124 : Int32).toInt ∧ (sv_124 : Int32).toInt ≤ ((Mv 0) : Int32).toInt ∧ ((Mv 0) : Int32).toInt ≤ 400 := by
            have z_1 : ¬ (vy_20 : Int32).toInt = (0 : Int32).toInt := fun z => c_33 (Int32.toInt_inj.mp z)
            have z_2 : ¬ (r_136 : Int32).toInt = (0 : Int32).toInt := fun z => c_141 (Int32.toInt_inj.mp z)
            have y_0 : (0 : Int32).toInt = 0 := by decide
            omega
          have ha_149 : (sv_131 (Mv 5).toNatClampNeg).toInt + (sv_129 : Int32).toInt ≤ (sv_124 : Int32).toInt := by
            have z_1 : ¬ (vy_20 : Int32).toInt = (0 : Int32).toInt := fun z => c_33 (Int32.toInt_inj.mp z)
            have z_2 : ¬ (r_136 : Int32).toInt = (0 : Int32).toInt := fun z => c_141 (Int32.toInt_inj.mp z)
            have y_0 : (0 : Int32).toInt = 0 := by decide
            omega
          refine cV (a := (Ma 0)) (As := []) (rest := []) (wr := []) ⟨hx, hb, hml, hown, hts⟩ hK hX hA (cu_fX12_closes l D tc sk (Ma 0) (Ma 1) (Ma 2) (Ma 3) (Ma 4) (Ma 5) (Ma 6) (Ma 7) (Ma 8) (Ma 9) (Ma 10) (Ma 11) (Ma 12) (Ma 13) (Ma 14) (Ma 15) (Ma 16) (Ma 17) (Ma 18) (Ma 19) (Ma 20) (Mv 0) (Mv 1) sv_124 sv_125 sv_126 (Mv 5) sv_127 sv_128 (Mv 8) sv_129 (Mv 10) (Mv 11) (Mv 12) (Mv 13) (Mv 14) (Mf 1) sv_130 sv_131 sv_132 (Mj 0) b (pz_tst (rB (Mf 1) (Mv 0)) (pz_fact (rB (Mf 1) (Mv 0)) 10) (St0 (rB (Mf 1) (Mv 0)) (Mv 2) (Mv 6))) ha_148 pf_142 ha_149 h_bs pf_143) k_1338 k_1335 k_1337 k_53 k_106 pl_X12_closes ⟨Nat.le_of_ble_eq_true rfl, Nat.le_of_ble_eq_true rfl⟩ rfl rfl (va_recv hK hP (ci := 12) (q0 := 0) rfl rfl) hP hD hS [0, 1, 2, 3, 4] [] rfl rfl rfl rfl rfl (by decide) rfl hl.1 rfl (Nat.le_of_ble_eq_true rfl) dX12_tested_26 ⟨Nat.le_of_ble_eq_true rfl, Nat.le_of_ble_eq_true rfl⟩ (fun v_150 u_151 H locs hv_152 hP₀ hD₀ hS₀ => ?_)
          obtain ⟨sv_153, sv_154, sv_155, sv_156, sv_157⟩ := u_151
          obtain ⟨rfl, pf_158, pf_159, pf_160, pf_161, pf_162, pf_163, pf_164⟩ := hv_152
          have pf_158 : (sv_124 : Int32).toInt ≤ (sv_153 : Int32).toInt ∧ (sv_153 : Int32).toInt ≤ ((Mv 0) : Int32).toInt := pf_158
          have pf_159 : Agr sv_130 sv_156 (400 * ((Mv 5) : Int32).toInt + (sv_131 (Mv 5).toNatClampNeg).toInt) := pf_159
          have pf_160 : LSR sv_132 sv_155 sv_156 sv_157 (Mv 5) b sv_127 := pf_160
          obtain ⟨pn_165, pf_166, pf_167⟩ := id pf_160
          have ar_pf_160 := LSR.ar pf_160
          have ar_pf_167 := Cd.ar pf_167
          have pf_161 : (sv_157 (Mv 5).toNatClampNeg).toInt + (sv_155 : Int32).toInt + (sv_124 : Int32).toInt ≤ (sv_131 (Mv 5).toNatClampNeg).toInt + (sv_129 : Int32).toInt + (sv_153 : Int32).toInt ∧ (sv_131 (Mv 5).toNatClampNeg).toInt ≤ (sv_157 (Mv 5).toNatClampNeg).toInt := pf_161
          have pf_162 : FcO (pz_tst (rB (Mf 1) (Mv 0)) (pz_fact (rB (Mf 1) (Mv 0)) 10) (St0 (rB (Mf 1) (Mv 0)) (Mv 2) (Mv 6))) (rB (Mf 1) (Mv 0)) sv_132 sv_155 sv_154 sv_153 sv_127 sv_125 := pf_162
          have ar_pf_162 := OsP.ar pf_162.1
          have aw_pf_162 := pf_162.2.1
          have pf_163 : T11 sv_132 sv_155 := pf_163
          have pf_164 : NBr (rB (Mf 1) (Mv 0)) sv_132 sv_155 sv_153 := pf_164
          refine W.eq (g2 := F0 m 29 ls []) rfl ?_
          replace hP : va_P D classes [((Ma 0), .inr (12, [.ref (Ma 1), .int (Mv 0), .int (Mv 1), .ref (Ma 2), .ref (Ma 3), .ref (Ma 4), .ref (Ma 5), .ref (Ma 6), .int sv_153, .int sv_125, .int sv_126, .int (Mv 5), .int sv_127, .int sv_154, .int (Mv 8), .ref (Ma 7), .int sv_155, .ref (Ma 8), .int (Mv 10), .ref (Ma 9), .ref (Ma 10), .int (Mv 11), .int (Mv 12), .int (Mv 13), .ref (Ma 11), .int (Mv 14), .ref (Ma 12), .ref (Ma 13), .ref (Ma 14), .ref (Ma 15), .ref (Ma 16), .long (Mj 0), .ref (Ma 17), .ref (Ma 18), .ref (Ma 19), .ref (Ma 20)])), ((Ma 1), .inl (tc 2, 400, .inl (Mf 1))), ((Ma 2), .inl (tc 0, 2400, .inl sv_156)), ((Ma 3), .inl (tc 0, 7, .inl sv_157)), ((Ma 7), .inl (tc 0, 400, .inl sv_132))] H := hP₀
          replace hD : va_D A [((Ma 0), .inr (12, [.ref (Ma 1), .int (Mv 0), .int (Mv 1), .ref (Ma 2), .ref (Ma 3), .ref (Ma 4), .ref (Ma 5), .ref (Ma 6), .int sv_153, .int sv_125, .int sv_126, .int (Mv 5), .int sv_127, .int sv_154, .int (Mv 8), .ref (Ma 7), .int sv_155, .ref (Ma 8), .int (Mv 10), .ref (Ma 9), .ref (Ma 10), .int (Mv 11), .int (Mv 12), .int (Mv 13), .ref (Ma 11), .int (Mv 14), .ref (Ma 12), .ref (Ma 13), .ref (Ma 14), .ref (Ma 15), .ref (Ma 16), .long (Mj 0), .ref (Ma 17), .ref (Ma 18), .ref (Ma 19), .ref (Ma 20)])), ((Ma 1), .inl (tc 2, 400, .inl (Mf 1))), ((Ma 2), .inl (tc 0, 2400, .inl sv_156)), ((Ma 3), .inl (tc 0, 7, .inl sv_157)), ((Ma 7), .inl (tc 0, 400, .inl sv_132))] := hD₀
          replace hS := hS₀
          clear hP₀ hD₀ hS₀
          refine lv_aload_n hx hb dX12_tested_29 rfl (lv_at hl 1 rfl) ?_
          refine lv_ldc2 hx hb hown (hts _ k_1350) dX12_tested_30 ?_
          have ha_168 : 0 ≤ (sv_153 : Int32).toInt ∧ (sv_153 : Int32).toInt ≤ ((Mv 0) : Int32).toInt ∧ ((Mv 0) : Int32).toInt ≤ 400 := by
            have z_1 : ¬ (vy_20 : Int32).toInt = (0 : Int32).toInt := fun z => c_33 (Int32.toInt_inj.mp z)
            have z_2 : ¬ (r_136 : Int32).toInt = (0 : Int32).toInt := fun z => c_141 (Int32.toInt_inj.mp z)
            have y_0 : (0 : Int32).toInt = 0 := by decide
            omega
          refine cV (a := (Ma 0)) (As := [.long 6385252]) (rest := []) (wr := [((Ma 2), .inl (tc 0, 2400, .inl sv_156)), ((Ma 3), .inl (tc 0, 7, .inl sv_157)), ((Ma 7), .inl (tc 0, 400, .inl sv_132))]) ⟨hx, hb, hml, hown, hts⟩ hK hX hA (cu_fX12_isWord l D tc sk (Ma 0) (Ma 1) (Ma 2) (Ma 3) (Ma 4) (Ma 5) (Ma 6) (Ma 7) (Ma 8) (Ma 9) (Ma 10) (Ma 11) (Ma 12) (Ma 13) (Ma 14) (Ma 15) (Ma 16) (Ma 17) (Ma 18) (Ma 19) (Ma 20) (Mv 0) (Mv 1) sv_153 sv_125 sv_126 (Mv 5) sv_127 sv_154 (Mv 8) sv_155 (Mv 10) (Mv 11) (Mv 12) (Mv 13) (Mv 14) (Mf 1) (Mj 0) 6385252 ha_168 h_bs) k_1220 k_1217 k_1219 k_29 k_106 pl_X12_isWord ⟨Nat.le_of_ble_eq_true rfl, Nat.le_of_ble_eq_true rfl⟩ rfl rfl (va_recv hK hP (ci := 12) (q0 := 0) rfl rfl) hP hD hS [0, 1] [2, 3, 4] rfl rfl rfl rfl rfl (by decide) rfl hl.1 rfl (Nat.le_of_ble_eq_true rfl) dX12_tested_33 ⟨Nat.le_of_ble_eq_true rfl, Nat.le_of_ble_eq_true rfl⟩ (fun v_169 u_170 H locs hv_171 hP₀ hD₀ hS₀ => ?_)
          obtain ⟨sv_172, rfl⟩ : ∃ z, z = u_170 := ⟨_, rfl⟩
          obtain ⟨r_177, rfl, he_178, pf_173, pf_174, pf_175, pf_176, hm_180, hm_181⟩ := hv_171
          have he_178 : (r_177.toInt = 0 ∨ r_177.toInt = 1) := he_178
          have pf_173 : (sv_153 : Int32).toInt ≤ (sv_172 : Int32).toInt ∧ (sv_172 : Int32).toInt ≤ ((Mv 0) : Int32).toInt := pf_173
          have pf_174 : NSq (Mf 1) (Mv 0) sv_172 := pf_174
          have pf_175 : Stl (Mf 1) (Mv 0) sv_153 sv_172 := pf_175
          have pf_176 : SkR (rB (Mf 1) (Mv 0)) sv_153 sv_172 := pf_176
          refine W.eq (g2 := F0 m 36 ls [.int r_177]) rfl ?_
          replace hP : va_P D classes [((Ma 2), .inl (tc 0, 2400, .inl sv_156)), ((Ma 3), .inl (tc 0, 7, .inl sv_157)), ((Ma 7), .inl (tc 0, 400, .inl sv_132)), ((Ma 0), .inr (12, [.ref (Ma 1), .int (Mv 0), .int (Mv 1), .ref (Ma 2), .ref (Ma 3), .ref (Ma 4), .ref (Ma 5), .ref (Ma 6), .int sv_172, .int sv_125, .int sv_126, .int (Mv 5), .int sv_127, .int sv_154, .int (Mv 8), .ref (Ma 7), .int sv_155, .ref (Ma 8), .int (Mv 10), .ref (Ma 9), .ref (Ma 10), .int (Mv 11), .int (Mv 12), .int (Mv 13), .ref (Ma 11), .int (Mv 14), .ref (Ma 12), .ref (Ma 13), .ref (Ma 14), .ref (Ma 15), .ref (Ma 16), .long (Mj 0), .ref (Ma 17), .ref (Ma 18), .ref (Ma 19), .ref (Ma 20)])), ((Ma 1), .inl (tc 2, 400, .inl (Mf 1)))] H := hP₀
          replace hD : va_D A [((Ma 2), .inl (tc 0, 2400, .inl sv_156)), ((Ma 3), .inl (tc 0, 7, .inl sv_157)), ((Ma 7), .inl (tc 0, 400, .inl sv_132)), ((Ma 0), .inr (12, [.ref (Ma 1), .int (Mv 0), .int (Mv 1), .ref (Ma 2), .ref (Ma 3), .ref (Ma 4), .ref (Ma 5), .ref (Ma 6), .int sv_172, .int sv_125, .int sv_126, .int (Mv 5), .int sv_127, .int sv_154, .int (Mv 8), .ref (Ma 7), .int sv_155, .ref (Ma 8), .int (Mv 10), .ref (Ma 9), .ref (Ma 10), .int (Mv 11), .int (Mv 12), .int (Mv 13), .ref (Ma 11), .int (Mv 14), .ref (Ma 12), .ref (Ma 13), .ref (Ma 14), .ref (Ma 15), .ref (Ma 16), .long (Mj 0), .ref (Ma 17), .ref (Ma 18), .ref (Ma 19), .ref (Ma 20)])), ((Ma 1), .inl (tc 2, 400, .inl (Mf 1)))] := hD₀
          replace hS := hS₀
          clear hP₀ hD₀ hS₀
          refine lv_if_ne (tgt := 49) hx hb dX12_tested_36 (by decide) (fun c_182 => ?_) (fun c_182 => ?_)
          · skip
            have hz_185 : (r_177 : Int32).toInt = 1 := by
              have z_1 : ¬ (vy_20 : Int32).toInt = (0 : Int32).toInt := fun z => c_33 (Int32.toInt_inj.mp z)
              have z_2 : ¬ (r_136 : Int32).toInt = (0 : Int32).toInt := fun z => c_141 (Int32.toInt_inj.mp z)
              have z_3 : ¬ (r_177 : Int32).toInt = (0 : Int32).toInt := fun z => c_182 (Int32.toInt_inj.mp z)
              have y_0 : (0 : Int32).toInt = 0 := by decide
              omega
            obtain ⟨pf_183, pf_184⟩ := hm_180 hz_185
            have pf_183 : Ltr (Mf 1) (Mv 0) sv_172 := pf_183
            have ar_pf_183 := pf_183.1
            have at_pf_183 : 97 ≤ ((Mf 1) (sv_172 : Int32).toInt.toNat).toInt ∧ ((Mf 1) (sv_172 : Int32).toInt.toNat).toInt ≤ 122 := pf_183.2
            have pf_184 : PkW (rB (Mf 1) (Mv 0)) ((sv_172 : Int32).toInt.toNat) (6385252 : Int64).toInt := pf_184
            refine lv_iconst (v := 1) hx hb dX12_tested_49 (by decide) ?_
            refine lv_goto (tgt := 54) hx hb dX12_tested_50 (by decide) ?_
            refine lv_istore_n (lv' := [(1, .int 1), (0, .ref (Ma 0))]) hx hb dX12_tested_54 rfl hl (by decide) rfl (fun ls hl₀ => ?_)
            replace hl := hl₀
            clear hl₀
            refine lv_iload_n hx hb dX12_tested_55 rfl (lv_at hl 0 rfl) ?_
            refine lv_if_eq (tgt := 12) hx hb dX12_tested_56 (by decide) (fun c_186 => absurd c_186 (by decide)) (fun c_186 => ?_)
            refine lv_aload_n hx hb dX12_tested_59 rfl (lv_at hl 1 rfl) ?_
            refine lv_ldc2 hx hb hown (hts _ k_1350) dX12_tested_60 ?_
            have ha_187 : 0 ≤ (sv_172 : Int32).toInt ∧ (sv_172 : Int32).toInt ≤ ((Mv 0) : Int32).toInt ∧ ((Mv 0) : Int32).toInt ≤ 400 := by
              have z_1 : ¬ (vy_20 : Int32).toInt = (0 : Int32).toInt := fun z => c_33 (Int32.toInt_inj.mp z)
              have z_2 : ¬ (r_136 : Int32).toInt = (0 : Int32).toInt := fun z => c_141 (Int32.toInt_inj.mp z)
              have z_3 : ¬ (r_177 : Int32).toInt = (0 : Int32).toInt := fun z => c_182 (Int32.toInt_inj.mp z)
              have y_0 : (0 : Int32).toInt = 0 := by decide
              omega
            refine cV (a := (Ma 0)) (As := [.long 6385252]) (rest := []) (wr := [((Ma 2), .inl (tc 0, 2400, .inl sv_156)), ((Ma 3), .inl (tc 0, 7, .inl sv_157)), ((Ma 7), .inl (tc 0, 400, .inl sv_132))]) ⟨hx, hb, hml, hown, hts⟩ hK hX hA (cu_fX12_isWord l D tc sk (Ma 0) (Ma 1) (Ma 2) (Ma 3) (Ma 4) (Ma 5) (Ma 6) (Ma 7) (Ma 8) (Ma 9) (Ma 10) (Ma 11) (Ma 12) (Ma 13) (Ma 14) (Ma 15) (Ma 16) (Ma 17) (Ma 18) (Ma 19) (Ma 20) (Mv 0) (Mv 1) sv_172 sv_125 sv_126 (Mv 5) sv_127 sv_154 (Mv 8) sv_155 (Mv 10) (Mv 11) (Mv 12) (Mv 13) (Mv 14) (Mf 1) (Mj 0) 6385252 ha_187 h_bs) k_1220 k_1217 k_1219 k_29 k_106 pl_X12_isWord ⟨Nat.le_of_ble_eq_true rfl, Nat.le_of_ble_eq_true rfl⟩ rfl rfl (va_recv hK hP (ci := 12) (q0 := 3) rfl rfl) hP hD hS [3, 4] [0, 1, 2] rfl rfl rfl rfl rfl (by decide) rfl hl.1 rfl (Nat.le_of_ble_eq_true rfl) dX12_tested_63 ⟨Nat.le_of_ble_eq_true rfl, Nat.le_of_ble_eq_true rfl⟩ (fun v_188 u_189 H locs hv_190 hP₀ hD₀ hS₀ => ?_)
            obtain ⟨sv_191, rfl⟩ : ∃ z, z = u_189 := ⟨_, rfl⟩
            obtain ⟨r_196, rfl, he_197, pf_192, pf_193, pf_194, pf_195, hm_199, hm_200⟩ := hv_190
            have he_197 : (r_196.toInt = 0 ∨ r_196.toInt = 1) := he_197
            have pf_192 : (sv_172 : Int32).toInt ≤ (sv_191 : Int32).toInt ∧ (sv_191 : Int32).toInt ≤ ((Mv 0) : Int32).toInt := pf_192
            have pf_193 : NSq (Mf 1) (Mv 0) sv_191 := pf_193
            have pf_194 : Stl (Mf 1) (Mv 0) sv_172 sv_191 := pf_194
            have pf_201 := Stl.ltr pf_194 pf_183
            have ar_pf_201 := pf_201.2
            have pf_202 : Ltr (Mf 1) (Mv 0) sv_191 := pf_201.1
            have ar_pf_194 := Stl.or pf_194 pf_174
            have pf_195 : SkR (rB (Mf 1) (Mv 0)) sv_172 sv_191 := pf_195
            refine W.eq (g2 := F0 m 66 ls [.int r_196]) rfl ?_
            replace hP : va_P D classes [((Ma 2), .inl (tc 0, 2400, .inl sv_156)), ((Ma 3), .inl (tc 0, 7, .inl sv_157)), ((Ma 7), .inl (tc 0, 400, .inl sv_132)), ((Ma 0), .inr (12, [.ref (Ma 1), .int (Mv 0), .int (Mv 1), .ref (Ma 2), .ref (Ma 3), .ref (Ma 4), .ref (Ma 5), .ref (Ma 6), .int sv_191, .int sv_125, .int sv_126, .int (Mv 5), .int sv_127, .int sv_154, .int (Mv 8), .ref (Ma 7), .int sv_155, .ref (Ma 8), .int (Mv 10), .ref (Ma 9), .ref (Ma 10), .int (Mv 11), .int (Mv 12), .int (Mv 13), .ref (Ma 11), .int (Mv 14), .ref (Ma 12), .ref (Ma 13), .ref (Ma 14), .ref (Ma 15), .ref (Ma 16), .long (Mj 0), .ref (Ma 17), .ref (Ma 18), .ref (Ma 19), .ref (Ma 20)])), ((Ma 1), .inl (tc 2, 400, .inl (Mf 1)))] H := hP₀
            replace hD : va_D A [((Ma 2), .inl (tc 0, 2400, .inl sv_156)), ((Ma 3), .inl (tc 0, 7, .inl sv_157)), ((Ma 7), .inl (tc 0, 400, .inl sv_132)), ((Ma 0), .inr (12, [.ref (Ma 1), .int (Mv 0), .int (Mv 1), .ref (Ma 2), .ref (Ma 3), .ref (Ma 4), .ref (Ma 5), .ref (Ma 6), .int sv_191, .int sv_125, .int sv_126, .int (Mv 5), .int sv_127, .int sv_154, .int (Mv 8), .ref (Ma 7), .int sv_155, .ref (Ma 8), .int (Mv 10), .ref (Ma 9), .ref (Ma 10), .int (Mv 11), .int (Mv 12), .int (Mv 13), .ref (Ma 11), .int (Mv 14), .ref (Ma 12), .ref (Ma 13), .ref (Ma 14), .ref (Ma 15), .ref (Ma 16), .long (Mj 0), .ref (Ma 17), .ref (Ma 18), .ref (Ma 19), .ref (Ma 20)])), ((Ma 1), .inl (tc 2, 400, .inl (Mf 1)))] := hD₀
            replace hS := hS₀
            clear hP₀ hD₀ hS₀
            have hE_203 := SkR.eqB pf_176 pf_195
            refine lv_if_eq (tgt := 74) hx hb dX12_tested_66 (by decide) (fun c_204 => ?_) (fun c_204 => ?_)
            · skip
              have hz_206 : (r_196 : Int32).toInt = 0 := by
                have z_1 : ¬ (vy_20 : Int32).toInt = (0 : Int32).toInt := fun z => c_33 (Int32.toInt_inj.mp z)
                have z_2 : ¬ (r_136 : Int32).toInt = (0 : Int32).toInt := fun z => c_141 (Int32.toInt_inj.mp z)
                have z_3 : ¬ (r_177 : Int32).toInt = (0 : Int32).toInt := fun z => c_182 (Int32.toInt_inj.mp z)
                have z_4 := congrArg Int32.toInt c_204
                have y_0 : (0 : Int32).toInt = 0 := by decide
                omega
              obtain pf_205 := hm_200 hz_206
              have pf_205 : NPk (rB (Mf 1) (Mv 0)) ((sv_191 : Int32).toInt.toNat) (6385252 : Int64).toInt := pf_205
              refine lv_bipush (v := 13) hx hb dX12_tested_74 (by decide) ?_
              refine lv_istore_n (lv' := [(2, .int 13), (1, .int 1), (0, .ref (Ma 0))]) hx hb dX12_tested_76 rfl hl (by decide) rfl (fun ls hl₀ => ?_)
              replace hl := hl₀
              clear hl₀
              refine lv_aload_n hx hb dX12_tested_77 rfl (lv_at hl 2 rfl) ?_
              have ha_207 : 0 ≤ (sv_191 : Int32).toInt ∧ (sv_191 : Int32).toInt ≤ ((Mv 0) : Int32).toInt ∧ ((Mv 0) : Int32).toInt ≤ 400 := by
                have z_1 : ¬ (vy_20 : Int32).toInt = (0 : Int32).toInt := fun z => c_33 (Int32.toInt_inj.mp z)
                have z_2 : ¬ (r_136 : Int32).toInt = (0 : Int32).toInt := fun z => c_141 (Int32.toInt_inj.mp z)
                have z_3 : ¬ (r_177 : Int32).toInt = (0 : Int32).toInt := fun z => c_182 (Int32.toInt_inj.mp z)
                have z_4 := congrArg Int32.toInt c_204
                have y_0 : (0 : Int32).toInt = 0 := by decide
                omega
              refine cV (a := (Ma 0)) (As := []) (rest := []) (wr := [((Ma 2), .inl (tc 0, 2400, .inl sv_156)), ((Ma 3), .inl (tc 0, 7, .inl sv_157)), ((Ma 7), .inl (tc 0, 400, .inl sv_132))]) ⟨hx, hb, hml, hown, hts⟩ hK hX hA (cu_fX12_passWord l D tc sk (Ma 0) (Ma 1) (Ma 2) (Ma 3) (Ma 4) (Ma 5) (Ma 6) (Ma 7) (Ma 8) (Ma 9) (Ma 10) (Ma 11) (Ma 12) (Ma 13) (Ma 14) (Ma 15) (Ma 16) (Ma 17) (Ma 18) (Ma 19) (Ma 20) (Mv 0) (Mv 1) sv_191 sv_125 sv_126 (Mv 5) sv_127 sv_154 (Mv 8) sv_155 (Mv 10) (Mv 11) (Mv 12) (Mv 13) (Mv 14) (Mf 1) (Mj 0) ha_207 h_bs) k_1244 k_1241 k_1243 k_34 k_106 pl_X12_passWord ⟨Nat.le_of_ble_eq_true rfl, Nat.le_of_ble_eq_true rfl⟩ rfl rfl (va_recv hK hP (ci := 12) (q0 := 3) rfl rfl) hP hD hS [3, 4] [0, 1, 2] rfl rfl rfl rfl rfl (by decide) rfl hl.1 rfl (Nat.le_of_ble_eq_true rfl) dX12_tested_78 ⟨Nat.le_of_ble_eq_true rfl, Nat.le_of_ble_eq_true rfl⟩ (fun v_208 u_209 H locs hv_210 hP₀ hD₀ hS₀ => ?_)
              obtain ⟨sv_211, rfl⟩ : ∃ z, z = u_209 := ⟨_, rfl⟩
              obtain ⟨rfl, pf_212, pf_213, pf_214⟩ := hv_210
              have pf_212 : (sv_191 : Int32).toInt ≤ (sv_211 : Int32).toInt ∧ (sv_211 : Int32).toInt ≤ ((Mv 0) : Int32).toInt := pf_212
              have pf_213 : Pw (Mf 1) (Mv 0) sv_191 sv_211 := pf_213
              have ar_pf_213 := pf_213 pf_202
              have pf_214 : PsR (rB (Mf 1) (Mv 0)) sv_191 sv_211 := pf_214
              refine W.eq (g2 := F0 m 81 ls []) rfl ?_
              replace hP : va_P D classes [((Ma 2), .inl (tc 0, 2400, .inl sv_156)), ((Ma 3), .inl (tc 0, 7, .inl sv_157)), ((Ma 7), .inl (tc 0, 400, .inl sv_132)), ((Ma 0), .inr (12, [.ref (Ma 1), .int (Mv 0), .int (Mv 1), .ref (Ma 2), .ref (Ma 3), .ref (Ma 4), .ref (Ma 5), .ref (Ma 6), .int sv_211, .int sv_125, .int sv_126, .int (Mv 5), .int sv_127, .int sv_154, .int (Mv 8), .ref (Ma 7), .int sv_155, .ref (Ma 8), .int (Mv 10), .ref (Ma 9), .ref (Ma 10), .int (Mv 11), .int (Mv 12), .int (Mv 13), .ref (Ma 11), .int (Mv 14), .ref (Ma 12), .ref (Ma 13), .ref (Ma 14), .ref (Ma 15), .ref (Ma 16), .long (Mj 0), .ref (Ma 17), .ref (Ma 18), .ref (Ma 19), .ref (Ma 20)])), ((Ma 1), .inl (tc 2, 400, .inl (Mf 1)))] H := hP₀
              replace hD : va_D A [((Ma 2), .inl (tc 0, 2400, .inl sv_156)), ((Ma 3), .inl (tc 0, 7, .inl sv_157)), ((Ma 7), .inl (tc 0, 400, .inl sv_132)), ((Ma 0), .inr (12, [.ref (Ma 1), .int (Mv 0), .int (Mv 1), .ref (Ma 2), .ref (Ma 3), .ref (Ma 4), .ref (Ma 5), .ref (Ma 6), .int sv_211, .int sv_125, .int sv_126, .int (Mv 5), .int sv_127, .int sv_154, .int (Mv 8), .ref (Ma 7), .int sv_155, .ref (Ma 8), .int (Mv 10), .ref (Ma 9), .ref (Ma 10), .int (Mv 11), .int (Mv 12), .int (Mv 13), .ref (Ma 11), .int (Mv 14), .ref (Ma 12), .ref (Ma 13), .ref (Ma 14), .ref (Ma 15), .ref (Ma 16), .long (Mj 0), .ref (Ma 17), .ref (Ma 18), .ref (Ma 19), .ref (Ma 20)])), ((Ma 1), .inl (tc 2, 400, .inl (Mf 1)))] := hD₀
              replace hS := hS₀
              clear hP₀ hD₀ hS₀
              refine lv_aload_n hx hb dX12_tested_81 rfl (lv_at hl 2 rfl) ?_
              refine lv_iload_n hx hb dX12_tested_82 rfl (lv_at hl 0 rfl) ?_
              refine cS (As := [.int 13]) (rest := [.ref (Ma 0)]) (wr := [((Ma 2), .inl (tc 0, 2400, .inl sv_156)), ((Ma 3), .inl (tc 0, 7, .inl sv_157)), ((Ma 7), .inl (tc 0, 400, .inl sv_132)), ((Ma 0), .inr (12, [.ref (Ma 1), .int (Mv 0), .int (Mv 1), .ref (Ma 2), .ref (Ma 3), .ref (Ma 4), .ref (Ma 5), .ref (Ma 6), .int sv_211, .int sv_125, .int sv_126, .int (Mv 5), .int sv_127, .int sv_154, .int (Mv 8), .ref (Ma 7), .int sv_155, .ref (Ma 8), .int (Mv 10), .ref (Ma 9), .ref (Ma 10), .int (Mv 11), .int (Mv 12), .int (Mv 13), .ref (Ma 11), .int (Mv 14), .ref (Ma 12), .ref (Ma 13), .ref (Ma 14), .ref (Ma 15), .ref (Ma 16), .long (Mj 0), .ref (Ma 17), .ref (Ma 18), .ref (Ma 19), .ref (Ma 20)])), ((Ma 1), .inl (tc 2, 400, .inl (Mf 1)))]) ⟨hx, hb, hml, hown, hts⟩ hK hX hA (ct_X12_strength l D tc sk 13) k_1345 k_1343 k_1344 k_106 pl_X12_strength ⟨Nat.le_of_ble_eq_true rfl, Nat.le_of_ble_eq_true rfl⟩ rfl rfl  hP hD hS [] [0, 1, 2, 3, 4] rfl rfl rfl rfl rfl (by decide) rfl hl.1 rfl (Nat.le_of_ble_eq_true rfl) dX12_tested_83 ⟨Nat.le_of_ble_eq_true rfl, Nat.le_of_ble_eq_true rfl⟩ (fun v_215 u_216 H locs hv_217 hP₀ hD₀ hS₀ => ?_)
              obtain ⟨r_218, rfl, he_219⟩ := hv_217
              have he_219 : (((13 : Int32).toInt = 13 ∧ r_218.toInt = 1) ∨ ((13 : Int32).toInt = 12 ∧ r_218.toInt = 2) ∨ ((13 : Int32).toInt = 11 ∧ r_218.toInt = 3) ∨ ((13 : Int32).toInt ≠ 13 ∧ (13 : Int32).toInt ≠ 12 ∧ (13 : Int32).toInt ≠ 11 ∧ r_218.toInt = 0)) := he_219
              refine W.eq (g2 := F0 m 86 ls [.int r_218, .ref (Ma 0)]) rfl ?_
              replace hP : va_P D classes [((Ma 2), .inl (tc 0, 2400, .inl sv_156)), ((Ma 3), .inl (tc 0, 7, .inl sv_157)), ((Ma 7), .inl (tc 0, 400, .inl sv_132)), ((Ma 0), .inr (12, [.ref (Ma 1), .int (Mv 0), .int (Mv 1), .ref (Ma 2), .ref (Ma 3), .ref (Ma 4), .ref (Ma 5), .ref (Ma 6), .int sv_211, .int sv_125, .int sv_126, .int (Mv 5), .int sv_127, .int sv_154, .int (Mv 8), .ref (Ma 7), .int sv_155, .ref (Ma 8), .int (Mv 10), .ref (Ma 9), .ref (Ma 10), .int (Mv 11), .int (Mv 12), .int (Mv 13), .ref (Ma 11), .int (Mv 14), .ref (Ma 12), .ref (Ma 13), .ref (Ma 14), .ref (Ma 15), .ref (Ma 16), .long (Mj 0), .ref (Ma 17), .ref (Ma 18), .ref (Ma 19), .ref (Ma 20)])), ((Ma 1), .inl (tc 2, 400, .inl (Mf 1)))] H := hP₀
              replace hD : va_D A [((Ma 2), .inl (tc 0, 2400, .inl sv_156)), ((Ma 3), .inl (tc 0, 7, .inl sv_157)), ((Ma 7), .inl (tc 0, 400, .inl sv_132)), ((Ma 0), .inr (12, [.ref (Ma 1), .int (Mv 0), .int (Mv 1), .ref (Ma 2), .ref (Ma 3), .ref (Ma 4), .ref (Ma 5), .ref (Ma 6), .int sv_211, .int sv_125, .int sv_126, .int (Mv 5), .int sv_127, .int sv_154, .int (Mv 8), .ref (Ma 7), .int sv_155, .ref (Ma 8), .int (Mv 10), .ref (Ma 9), .ref (Ma 10), .int (Mv 11), .int (Mv 12), .int (Mv 13), .ref (Ma 11), .int (Mv 14), .ref (Ma 12), .ref (Ma 13), .ref (Ma 14), .ref (Ma 15), .ref (Ma 16), .long (Mj 0), .ref (Ma 17), .ref (Ma 18), .ref (Ma 19), .ref (Ma 20)])), ((Ma 1), .inl (tc 2, 400, .inl (Mf 1)))] := hD₀
              replace hS := hS₀
              clear hP₀ hD₀ hS₀
              have yy_220 : (13 : Int32).toInt = 13 := by decide
              have ha_221 : 1 ≤ r_218.toInt ∧ r_218.toInt ≤ 3 := by
                have z_1 : ¬ (vy_20 : Int32).toInt = (0 : Int32).toInt := fun z => c_33 (Int32.toInt_inj.mp z)
                have z_2 : ¬ (r_136 : Int32).toInt = (0 : Int32).toInt := fun z => c_141 (Int32.toInt_inj.mp z)
                have z_3 : ¬ (r_177 : Int32).toInt = (0 : Int32).toInt := fun z => c_182 (Int32.toInt_inj.mp z)
                have z_4 := congrArg Int32.toInt c_204
                have y_0 : (0 : Int32).toInt = 0 := by decide
                omega
              have ha_222 : (sv_157 (Mv 5).toNatClampNeg).toInt + (sv_155 : Int32).toInt ≤ 400 := by
                have z_1 : ¬ (vy_20 : Int32).toInt = (0 : Int32).toInt := fun z => c_33 (Int32.toInt_inj.mp z)
                have z_2 : ¬ (r_136 : Int32).toInt = (0 : Int32).toInt := fun z => c_141 (Int32.toInt_inj.mp z)
                have z_3 : ¬ (r_177 : Int32).toInt = (0 : Int32).toInt := fun z => c_182 (Int32.toInt_inj.mp z)
                have z_4 := congrArg Int32.toInt c_204
                have y_0 : (0 : Int32).toInt = 0 := by decide
                omega
              refine cV (a := (Ma 0)) (As := [.int r_218]) (rest := []) (wr := [((Ma 1), .inl (tc 2, 400, .inl (Mf 1)))]) ⟨hx, hb, hml, hown, hts⟩ hK hX hA (cu_fX12_layDown l D tc sk (Ma 0) (Ma 1) (Ma 2) (Ma 3) (Ma 4) (Ma 5) (Ma 6) (Ma 7) (Ma 8) (Ma 9) (Ma 10) (Ma 11) (Ma 12) (Ma 13) (Ma 14) (Ma 15) (Ma 16) (Ma 17) (Ma 18) (Ma 19) (Ma 20) (Mv 0) (Mv 1) sv_211 sv_125 sv_126 (Mv 5) sv_127 sv_154 (Mv 8) sv_155 (Mv 10) (Mv 11) (Mv 12) (Mv 13) (Mv 14) sv_156 sv_157 sv_132 (Mj 0) r_218 b pf_160 ha_221 ha_222 pf_162.1) k_1342 k_1339 k_1341 k_54 k_106 pl_X12_layDown ⟨Nat.le_of_ble_eq_true rfl, Nat.le_of_ble_eq_true rfl⟩ rfl rfl (va_recv hK hP (ci := 12) (q0 := 3) rfl rfl) hP hD hS [3, 0, 1, 2] [4] rfl rfl rfl rfl rfl (by decide) rfl hl.1 rfl (Nat.le_of_ble_eq_true rfl) dX12_tested_86 ⟨Nat.le_of_ble_eq_true rfl, Nat.le_of_ble_eq_true rfl⟩ (fun v_223 u_224 H locs hv_225 hP₀ hD₀ hS₀ => ?_)
              obtain ⟨sv_226, sv_227, sv_228, sv_229⟩ := u_224
              obtain ⟨rfl, pf_230, pf_231, pf_232, pf_233, pf_234, pf_235, pf_236⟩ := hv_225
              have pf_230 : LSR sv_132 sv_227 sv_228 sv_229 (Mv 5) b sv_127 := pf_230
              obtain ⟨pn_237, pf_238, pf_239⟩ := id pf_230
              have ar_pf_230 := LSR.ar pf_230
              have ar_pf_239 := Cd.ar pf_239
              have pf_231 : (sv_229 (Mv 5).toNatClampNeg).toInt + (sv_227 : Int32).toInt = (sv_157 (Mv 5).toNatClampNeg).toInt + (sv_155 : Int32).toInt ∧ 0 ≤ (sv_227 : Int32).toInt ∧ (sv_227 : Int32).toInt ≤ (sv_155 : Int32).toInt := pf_231
              have pf_232 : Agr sv_156 sv_228 (400 * ((Mv 5) : Int32).toInt + (sv_157 (Mv 5).toNatClampNeg).toInt) := pf_232
              have pf_233 : LdE sv_132 sv_227 r_218 := pf_233
              have pf_234 : InK sv_132 sv_155 sv_227 := pf_234
              have pf_235 : LdP sv_132 sv_155 sv_227 sv_226 := pf_235
              have ar_pf_235 := OsP.ar pf_235.1
              have pf_236 : T11 sv_132 sv_227 := pf_236
              refine W.eq (g2 := F0 m 89 ls []) rfl ?_
              replace hP : va_P D classes [((Ma 1), .inl (tc 2, 400, .inl (Mf 1))), ((Ma 0), .inr (12, [.ref (Ma 1), .int (Mv 0), .int (Mv 1), .ref (Ma 2), .ref (Ma 3), .ref (Ma 4), .ref (Ma 5), .ref (Ma 6), .int sv_211, .int sv_125, .int sv_126, .int (Mv 5), .int sv_127, .int sv_226, .int (Mv 8), .ref (Ma 7), .int sv_227, .ref (Ma 8), .int (Mv 10), .ref (Ma 9), .ref (Ma 10), .int (Mv 11), .int (Mv 12), .int (Mv 13), .ref (Ma 11), .int (Mv 14), .ref (Ma 12), .ref (Ma 13), .ref (Ma 14), .ref (Ma 15), .ref (Ma 16), .long (Mj 0), .ref (Ma 17), .ref (Ma 18), .ref (Ma 19), .ref (Ma 20)])), ((Ma 2), .inl (tc 0, 2400, .inl sv_228)), ((Ma 3), .inl (tc 0, 7, .inl sv_229)), ((Ma 7), .inl (tc 0, 400, .inl sv_132))] H := hP₀
              replace hD : va_D A [((Ma 1), .inl (tc 2, 400, .inl (Mf 1))), ((Ma 0), .inr (12, [.ref (Ma 1), .int (Mv 0), .int (Mv 1), .ref (Ma 2), .ref (Ma 3), .ref (Ma 4), .ref (Ma 5), .ref (Ma 6), .int sv_211, .int sv_125, .int sv_126, .int (Mv 5), .int sv_127, .int sv_226, .int (Mv 8), .ref (Ma 7), .int sv_227, .ref (Ma 8), .int (Mv 10), .ref (Ma 9), .ref (Ma 10), .int (Mv 11), .int (Mv 12), .int (Mv 13), .ref (Ma 11), .int (Mv 14), .ref (Ma 12), .ref (Ma 13), .ref (Ma 14), .ref (Ma 15), .ref (Ma 16), .long (Mj 0), .ref (Ma 17), .ref (Ma 18), .ref (Ma 19), .ref (Ma 20)])), ((Ma 2), .inl (tc 0, 2400, .inl sv_228)), ((Ma 3), .inl (tc 0, 7, .inl sv_229)), ((Ma 7), .inl (tc 0, 400, .inl sv_132))] := hD₀
              replace hS := hS₀
              clear hP₀ hD₀ hS₀
              refine lv_aload_n hx hb dX12_tested_89 rfl (lv_at hl 2 rfl) ?_
              refine gf_X12_29 hx hb hts hown hK hP 1 rfl rfl dX12_tested_90 ?_
              refine lv_aload_n hx hb dX12_tested_93 rfl (lv_at hl 2 rfl) ?_
              refine gf_X12_154 hx hb hts hown hK hP 1 rfl rfl dX12_tested_94 ?_
              refine lv_iload_n hx hb dX12_tested_97 rfl (lv_at hl 0 rfl) ?_
              have hi_240 : vp_in sv_227 400 := by
                have z_1 : ¬ (vy_20 : Int32).toInt = (0 : Int32).toInt := fun z => c_33 (Int32.toInt_inj.mp z)
                have z_2 : ¬ (r_136 : Int32).toInt = (0 : Int32).toInt := fun z => c_141 (Int32.toInt_inj.mp z)
                have z_3 : ¬ (r_177 : Int32).toInt = (0 : Int32).toInt := fun z => c_182 (Int32.toInt_inj.mp z)
                have z_4 := congrArg Int32.toInt c_204
                have y_0 : (0 : Int32).toInt = 0 := by decide
                refine vp_in_iff.mpr ⟨?_, ?_⟩ <;> omega
              refine st_int hx hb hK hP hD hS 4 0 rfl rfl hi_240 dX12_tested_98 (fun g_241 H locs eg_241 hP₀ hD₀ hS₀ => ?_)
              replace hP : va_P D classes [((Ma 1), .inl (tc 2, 400, .inl (Mf 1))), ((Ma 0), .inr (12, [.ref (Ma 1), .int (Mv 0), .int (Mv 1), .ref (Ma 2), .ref (Ma 3), .ref (Ma 4), .ref (Ma 5), .ref (Ma 6), .int sv_211, .int sv_125, .int sv_126, .int (Mv 5), .int sv_127, .int sv_226, .int (Mv 8), .ref (Ma 7), .int sv_227, .ref (Ma 8), .int (Mv 10), .ref (Ma 9), .ref (Ma 10), .int (Mv 11), .int (Mv 12), .int (Mv 13), .ref (Ma 11), .int (Mv 14), .ref (Ma 12), .ref (Ma 13), .ref (Ma 14), .ref (Ma 15), .ref (Ma 16), .long (Mj 0), .ref (Ma 17), .ref (Ma 18), .ref (Ma 19), .ref (Ma 20)])), ((Ma 2), .inl (tc 0, 2400, .inl sv_228)), ((Ma 3), .inl (tc 0, 7, .inl sv_229)), ((Ma 7), .inl (tc 0, 400, .inl g_241))] H := hP₀
              replace hD : va_D A [((Ma 1), .inl (tc 2, 400, .inl (Mf 1))), ((Ma 0), .inr (12, [.ref (Ma 1), .int (Mv 0), .int (Mv 1), .ref (Ma 2), .ref (Ma 3), .ref (Ma 4), .ref (Ma 5), .ref (Ma 6), .int sv_211, .int sv_125, .int sv_126, .int (Mv 5), .int sv_127, .int sv_226, .int (Mv 8), .ref (Ma 7), .int sv_227, .ref (Ma 8), .int (Mv 10), .ref (Ma 9), .ref (Ma 10), .int (Mv 11), .int (Mv 12), .int (Mv 13), .ref (Ma 11), .int (Mv 14), .ref (Ma 12), .ref (Ma 13), .ref (Ma 14), .ref (Ma 15), .ref (Ma 16), .long (Mj 0), .ref (Ma 17), .ref (Ma 18), .ref (Ma 19), .ref (Ma 20)])), ((Ma 2), .inl (tc 0, 2400, .inl sv_228)), ((Ma 3), .inl (tc 0, 7, .inl sv_229)), ((Ma 7), .inl (tc 0, 400, .inl g_241))] := hD₀
              replace hS := hS₀
              clear hP₀ hD₀ hS₀
              refine lv_aload_n hx hb dX12_tested_99 rfl (lv_at hl 2 rfl) ?_
              refine lv_dup hx hb dX12_tested_100 rfl ?_
              refine gf_X12_154 hx hb hts hown hK hP 1 rfl rfl dX12_tested_101 ?_
              refine lv_iconst (v := 1) hx hb dX12_tested_104 (by decide) ?_
              refine lv_iadd hx hb dX12_tested_105 ?_
              refine lv_topi (fun x_242 ex_242 => ?_)
              refine pf_X12_154 hx hb hts hown hK hP hD hS 1 rfl (Nat.le_of_ble_eq_true rfl) rfl rfl dX12_tested_106 (fun H locs hP₀ hD₀ hS₀ => ?_)
              replace hP : va_P D classes [((Ma 1), .inl (tc 2, 400, .inl (Mf 1))), ((Ma 0), .inr (12, [.ref (Ma 1), .int (Mv 0), .int (Mv 1), .ref (Ma 2), .ref (Ma 3), .ref (Ma 4), .ref (Ma 5), .ref (Ma 6), .int sv_211, .int sv_125, .int sv_126, .int (Mv 5), .int sv_127, .int sv_226, .int (Mv 8), .ref (Ma 7), .int x_242, .ref (Ma 8), .int (Mv 10), .ref (Ma 9), .ref (Ma 10), .int (Mv 11), .int (Mv 12), .int (Mv 13), .ref (Ma 11), .int (Mv 14), .ref (Ma 12), .ref (Ma 13), .ref (Ma 14), .ref (Ma 15), .ref (Ma 16), .long (Mj 0), .ref (Ma 17), .ref (Ma 18), .ref (Ma 19), .ref (Ma 20)])), ((Ma 2), .inl (tc 0, 2400, .inl sv_228)), ((Ma 3), .inl (tc 0, 7, .inl sv_229)), ((Ma 7), .inl (tc 0, 400, .inl g_241))] H := hP₀
              replace hD : va_D A [((Ma 1), .inl (tc 2, 400, .inl (Mf 1))), ((Ma 0), .inr (12, [.ref (Ma 1), .int (Mv 0), .int (Mv 1), .ref (Ma 2), .ref (Ma 3), .ref (Ma 4), .ref (Ma 5), .ref (Ma 6), .int sv_211, .int sv_125, .int sv_126, .int (Mv 5), .int sv_127, .int sv_226, .int (Mv 8), .ref (Ma 7), .int x_242, .ref (Ma 8), .int (Mv 10), .ref (Ma 9), .ref (Ma 10), .int (Mv 11), .int (Mv 12), .int (Mv 13), .ref (Ma 11), .int (Mv 14), .ref (Ma 12), .ref (Ma 13), .ref (Ma 14), .ref (Ma 15), .ref (Ma 16), .long (Mj 0), .ref (Ma 17), .ref (Ma 18), .ref (Ma 19), .ref (Ma 20)])), ((Ma 2), .inl (tc 0, 2400, .inl sv_228)), ((Ma 3), .inl (tc 0, 7, .inl sv_229)), ((Ma 7), .inl (tc 0, 400, .inl g_241))] := hD₀
              replace hS := hS₀
              clear hP₀ hD₀ hS₀
              have tp_x_242 : (x_242 : Int32).toInt = (sv_227 : Int32).toInt + 1 := by
                have z_1 : ¬ (vy_20 : Int32).toInt = (0 : Int32).toInt := fun z => c_33 (Int32.toInt_inj.mp z)
                have z_2 : ¬ (r_136 : Int32).toInt = (0 : Int32).toInt := fun z => c_141 (Int32.toInt_inj.mp z)
                have z_3 : ¬ (r_177 : Int32).toInt = (0 : Int32).toInt := fun z => c_182 (Int32.toInt_inj.mp z)
                have z_4 := congrArg Int32.toInt c_204
                have y_0 : (0 : Int32).toInt = 0 := by decide
                have y_1 : (1 : Int32).toInt = 1 := by decide
                have t_x_242 : x_242.toInt = (sv_227 : Int32).toInt + (1 : Int32).toInt := by rw [ex_242]; exact add_toInt (by omega) (by omega)
                omega
              refine lv_goto (tgt := 12) hx hb dX12_tested_109 (by decide) ?_
              have hb_243 : 2 * (401 - (sv_211 : Int32).toInt) + (1 : Int32).toInt < 2 * (401 - (vy_11 : Int32).toInt) + (vy_20 : Int32).toInt ∧ 1 ≤ 2 * (401 - (vy_11 : Int32).toInt) + (vy_20 : Int32).toInt := by
                have z_1 : ¬ (vy_20 : Int32).toInt = (0 : Int32).toInt := fun z => c_33 (Int32.toInt_inj.mp z)
                have z_2 : ¬ (r_136 : Int32).toInt = (0 : Int32).toInt := fun z => c_141 (Int32.toInt_inj.mp z)
                have z_3 : ¬ (r_177 : Int32).toInt = (0 : Int32).toInt := fun z => c_182 (Int32.toInt_inj.mp z)
                have z_4 := congrArg Int32.toInt c_204
                have y_0 : (0 : Int32).toInt = 0 := by decide
                have y_1 : (1 : Int32).toInt = 1 := by decide
                omega
              have ha_244 : 0 ≤ (sv_211 : Int32).toInt ∧ (sv_211 : Int32).toInt ≤ ((Mv 0) : Int32).toInt ∧ ((Mv 0) : Int32).toInt ≤ 400 := by
                have z_1 : ¬ (vy_20 : Int32).toInt = (0 : Int32).toInt := fun z => c_33 (Int32.toInt_inj.mp z)
                have z_2 : ¬ (r_136 : Int32).toInt = (0 : Int32).toInt := fun z => c_141 (Int32.toInt_inj.mp z)
                have z_3 : ¬ (r_177 : Int32).toInt = (0 : Int32).toInt := fun z => c_182 (Int32.toInt_inj.mp z)
                have z_4 := congrArg Int32.toInt c_204
                have y_0 : (0 : Int32).toInt = 0 := by decide
                omega
              have ha_245 : (Mv 2).toInt ≤ (sv_211 : Int32).toInt := by
                have z_1 : ¬ (vy_20 : Int32).toInt = (0 : Int32).toInt := fun z => c_33 (Int32.toInt_inj.mp z)
                have z_2 : ¬ (r_136 : Int32).toInt = (0 : Int32).toInt := fun z => c_141 (Int32.toInt_inj.mp z)
                have z_3 : ¬ (r_177 : Int32).toInt = (0 : Int32).toInt := fun z => c_182 (Int32.toInt_inj.mp z)
                have z_4 := congrArg Int32.toInt c_204
                have y_0 : (0 : Int32).toInt = 0 := by decide
                omega
              have ha_246 : 0 ≤ (1 : Int32).toInt ∧ (1 : Int32).toInt ≤ 1 := by
                have z_1 : ¬ (vy_20 : Int32).toInt = (0 : Int32).toInt := fun z => c_33 (Int32.toInt_inj.mp z)
                have z_2 : ¬ (r_136 : Int32).toInt = (0 : Int32).toInt := fun z => c_141 (Int32.toInt_inj.mp z)
                have z_3 : ¬ (r_177 : Int32).toInt = (0 : Int32).toInt := fun z => c_182 (Int32.toInt_inj.mp z)
                have z_4 := congrArg Int32.toInt c_204
                have y_0 : (0 : Int32).toInt = 0 := by decide
                have y_1 : (1 : Int32).toInt = 1 := by decide
                omega
              have ha_247 : (Mv 6).toInt ≤ (sv_127 : Int32).toInt ∧ (sv_127 : Int32).toInt ≤ 60 := by
                have z_1 : ¬ (vy_20 : Int32).toInt = (0 : Int32).toInt := fun z => c_33 (Int32.toInt_inj.mp z)
                have z_2 : ¬ (r_136 : Int32).toInt = (0 : Int32).toInt := fun z => c_141 (Int32.toInt_inj.mp z)
                have z_3 : ¬ (r_177 : Int32).toInt = (0 : Int32).toInt := fun z => c_182 (Int32.toInt_inj.mp z)
                have z_4 := congrArg Int32.toInt c_204
                have y_0 : (0 : Int32).toInt = 0 := by decide
                omega
              have hi_248 : (x_242 : Int32).toInt = (sv_227 : Int32).toInt + 1 := by
                have z_1 : ¬ (vy_20 : Int32).toInt = (0 : Int32).toInt := fun z => c_33 (Int32.toInt_inj.mp z)
                have z_2 : ¬ (r_136 : Int32).toInt = (0 : Int32).toInt := fun z => c_141 (Int32.toInt_inj.mp z)
                have z_3 : ¬ (r_177 : Int32).toInt = (0 : Int32).toInt := fun z => c_182 (Int32.toInt_inj.mp z)
                have z_4 := congrArg Int32.toInt c_204
                have y_0 : (0 : Int32).toInt = 0 := by decide
                have y_1 : (1 : Int32).toInt = 1 := by decide
                have t_x_242 : x_242.toInt = (sv_227 : Int32).toInt + (1 : Int32).toInt := by rw [ex_242]; exact add_toInt (by omega) (by omega)
                omega
              have hr_249 : (sv_227 : Int32).toInt < 400 := by
                have z_1 : ¬ (vy_20 : Int32).toInt = (0 : Int32).toInt := fun z => c_33 (Int32.toInt_inj.mp z)
                have z_2 : ¬ (r_136 : Int32).toInt = (0 : Int32).toInt := fun z => c_141 (Int32.toInt_inj.mp z)
                have z_3 : ¬ (r_177 : Int32).toInt = (0 : Int32).toInt := fun z => c_182 (Int32.toInt_inj.mp z)
                have z_4 := congrArg Int32.toInt c_204
                have y_0 : (0 : Int32).toInt = 0 := by decide
                omega
              have hr_250 : (13 : Int32).toInt = 12 ∨ (13 : Int32).toInt = 13 := by
                have z_1 : ¬ (vy_20 : Int32).toInt = (0 : Int32).toInt := fun z => c_33 (Int32.toInt_inj.mp z)
                have z_2 : ¬ (r_136 : Int32).toInt = (0 : Int32).toInt := fun z => c_141 (Int32.toInt_inj.mp z)
                have z_3 : ¬ (r_177 : Int32).toInt = (0 : Int32).toInt := fun z => c_182 (Int32.toInt_inj.mp z)
                have z_4 := congrArg Int32.toInt c_204
                have y_0 : (0 : Int32).toInt = 0 := by decide
                have y_13 : (13 : Int32).toInt = 13 := by decide
                omega
              have ha_251 : (sv_229 (Mv 5).toNatClampNeg).toInt + (x_242 : Int32).toInt ≤ (sv_211 : Int32).toInt ∧ ((Mf 3) (Mv 5).toNatClampNeg).toInt ≤ (sv_229 (Mv 5).toNatClampNeg).toInt ∧ 0 ≤ (x_242 : Int32).toInt ∧ (x_242 : Int32).toInt ≤ 400 := by
                have z_1 : ¬ (vy_20 : Int32).toInt = (0 : Int32).toInt := fun z => c_33 (Int32.toInt_inj.mp z)
                have z_2 : ¬ (r_136 : Int32).toInt = (0 : Int32).toInt := fun z => c_141 (Int32.toInt_inj.mp z)
                have z_3 : ¬ (r_177 : Int32).toInt = (0 : Int32).toInt := fun z => c_182 (Int32.toInt_inj.mp z)
                have z_4 := congrArg Int32.toInt c_204
                have y_0 : (0 : Int32).toInt = 0 := by decide
                have y_1 : (1 : Int32).toInt = 1 := by decide
                have t_x_242 : x_242.toInt = (sv_227 : Int32).toInt + (1 : Int32).toInt := by rw [ex_242]; exact add_toInt (by omega) (by omega)
                omega
              have hr_252 : (400 * ((Mv 5) : Int32).toInt + ((Mf 3) (Mv 5).toNatClampNeg).toInt) ≤ (400 * ((Mv 5) : Int32).toInt + ((Mf 3) (Mv 5).toNatClampNeg).toInt) := by
                have z_1 : ¬ (vy_20 : Int32).toInt = (0 : Int32).toInt := fun z => c_33 (Int32.toInt_inj.mp z)
                have z_2 : ¬ (r_136 : Int32).toInt = (0 : Int32).toInt := fun z => c_141 (Int32.toInt_inj.mp z)
                have z_3 : ¬ (r_177 : Int32).toInt = (0 : Int32).toInt := fun z => c_182 (Int32.toInt_inj.mp z)
                have z_4 := congrArg Int32.toInt c_204
                have y_0 : (0 : Int32).toInt = 0 := by decide
                omega
              have hr_253 : (400 * ((Mv 5) : Int32).toInt + ((Mf 3) (Mv 5).toNatClampNeg).toInt) ≤ (400 * ((Mv 5) : Int32).toInt + (vy_18 (Mv 5).toNatClampNeg).toInt) := by
                have z_1 : ¬ (vy_20 : Int32).toInt = (0 : Int32).toInt := fun z => c_33 (Int32.toInt_inj.mp z)
                have z_2 : ¬ (r_136 : Int32).toInt = (0 : Int32).toInt := fun z => c_141 (Int32.toInt_inj.mp z)
                have z_3 : ¬ (r_177 : Int32).toInt = (0 : Int32).toInt := fun z => c_182 (Int32.toInt_inj.mp z)
                have z_4 := congrArg Int32.toInt c_204
                have y_0 : (0 : Int32).toInt = 0 := by decide
                omega
              have hr_254 : (400 * ((Mv 5) : Int32).toInt + ((Mf 3) (Mv 5).toNatClampNeg).toInt) ≤ (400 * ((Mv 5) : Int32).toInt + (sv_131 (Mv 5).toNatClampNeg).toInt) := by
                have z_1 : ¬ (vy_20 : Int32).toInt = (0 : Int32).toInt := fun z => c_33 (Int32.toInt_inj.mp z)
                have z_2 : ¬ (r_136 : Int32).toInt = (0 : Int32).toInt := fun z => c_141 (Int32.toInt_inj.mp z)
                have z_3 : ¬ (r_177 : Int32).toInt = (0 : Int32).toInt := fun z => c_182 (Int32.toInt_inj.mp z)
                have z_4 := congrArg Int32.toInt c_204
                have y_0 : (0 : Int32).toInt = 0 := by decide
                omega
              have hr_255 : (400 * ((Mv 5) : Int32).toInt + ((Mf 3) (Mv 5).toNatClampNeg).toInt) ≤ (400 * ((Mv 5) : Int32).toInt + (sv_157 (Mv 5).toNatClampNeg).toInt) := by
                have z_1 : ¬ (vy_20 : Int32).toInt = (0 : Int32).toInt := fun z => c_33 (Int32.toInt_inj.mp z)
                have z_2 : ¬ (r_136 : Int32).toInt = (0 : Int32).toInt := fun z => c_141 (Int32.toInt_inj.mp z)
                have z_3 : ¬ (r_177 : Int32).toInt = (0 : Int32).toInt := fun z => c_182 (Int32.toInt_inj.mp z)
                have z_4 := congrArg Int32.toInt c_204
                have y_0 : (0 : Int32).toInt = 0 := by decide
                omega
              have hr_256 : (1 : Int32).toInt = 1 := by
                have z_1 : ¬ (vy_20 : Int32).toInt = (0 : Int32).toInt := fun z => c_33 (Int32.toInt_inj.mp z)
                have z_2 : ¬ (r_136 : Int32).toInt = (0 : Int32).toInt := fun z => c_141 (Int32.toInt_inj.mp z)
                have z_3 : ¬ (r_177 : Int32).toInt = (0 : Int32).toInt := fun z => c_182 (Int32.toInt_inj.mp z)
                have z_4 := congrArg Int32.toInt c_204
                have y_0 : (0 : Int32).toInt = 0 := by decide
                have y_1 : (1 : Int32).toInt = 1 := by decide
                omega
              have hw_257 : pz_wd (rB (Mf 1) (Mv 0)) (sv_172 : Int32).toInt.toNat pz_and = true := by
                have hq := pf_184
                rw [show (6385252 : Int64).toInt = pz_pl pz_and by decide] at hq
                exact (PkW.wd (by decide) (by decide) (by decide)).mp hq
              have hq_258 : sv_191 = sv_172 := SkR.eq pf_176 pf_195
              have hr_259 : (13 : Int32).toInt = 12 ∨ (13 : Int32).toInt = 13 := by
                have z_1 : ¬ (vy_20 : Int32).toInt = (0 : Int32).toInt := fun z => c_33 (Int32.toInt_inj.mp z)
                have z_2 : ¬ (r_136 : Int32).toInt = (0 : Int32).toInt := fun z => c_141 (Int32.toInt_inj.mp z)
                have z_3 : ¬ (r_177 : Int32).toInt = (0 : Int32).toInt := fun z => c_182 (Int32.toInt_inj.mp z)
                have z_4 := congrArg Int32.toInt c_204
                have y_0 : (0 : Int32).toInt = 0 := by decide
                have y_13 : (13 : Int32).toInt = 13 := by decide
                omega
              have hi_260 : (x_242 : Int32).toInt = (sv_227 : Int32).toInt + 1 := by
                have z_1 : ¬ (vy_20 : Int32).toInt = (0 : Int32).toInt := fun z => c_33 (Int32.toInt_inj.mp z)
                have z_2 : ¬ (r_136 : Int32).toInt = (0 : Int32).toInt := fun z => c_141 (Int32.toInt_inj.mp z)
                have z_3 : ¬ (r_177 : Int32).toInt = (0 : Int32).toInt := fun z => c_182 (Int32.toInt_inj.mp z)
                have z_4 := congrArg Int32.toInt c_204
                have y_0 : (0 : Int32).toInt = 0 := by decide
                have y_1 : (1 : Int32).toInt = 1 := by decide
                have t_x_242 : x_242.toInt = (sv_227 : Int32).toInt + (1 : Int32).toInt := by rw [ex_242]; exact add_toInt (by omega) (by omega)
                omega
              exact ih_22 sv_211 sv_125 sv_126 sv_127 sv_226 x_242 sv_228 sv_229 g_241 1 _ _ _ (by omega) ha_244 ha_245 ha_246 ha_247 ⟨fun _ => LSR.open2 pf_230 eg_241 hi_248 hr_249 hr_250, fun h => absurd h (by decide)⟩ ha_251 (Agr.trans (k' := (400 * ((Mv 5) : Int32).toInt + ((Mf 3) (Mv 5).toNatClampNeg).toInt)) (Agr.trans (k' := (400 * ((Mv 5) : Int32).toInt + ((Mf 3) (Mv 5).toNatClampNeg).toInt)) (Agr.trans (k' := (400 * ((Mv 5) : Int32).toInt + ((Mf 3) (Mv 5).toNatClampNeg).toInt)) (Agr.mono pf_30 hr_252) pf_135 ⟨Int.le_refl _, hr_253⟩) pf_159 ⟨Int.le_refl _, hr_254⟩) pf_232 ⟨Int.le_refl _, hr_255⟩) (TsL.and (rB_fi h_nx.2.2) pf_162 (SkR.trans pf_176 pf_195) (hq_258.symm ▸ (Or.inl hw_257)) pf_214 pf_235 pf_236 eg_241 hr_259 hi_260 hr_256) (hP.sub [1, 0, 2, 3, 4] rfl) (hD.sub [1, 0, 2, 3, 4] rfl rfl) hS (lv_sub hl [1, 2] rfl)
            · skip
              have hz_263 : (r_196 : Int32).toInt = 1 := by
                have z_1 : ¬ (vy_20 : Int32).toInt = (0 : Int32).toInt := fun z => c_33 (Int32.toInt_inj.mp z)
                have z_2 : ¬ (r_136 : Int32).toInt = (0 : Int32).toInt := fun z => c_141 (Int32.toInt_inj.mp z)
                have z_3 : ¬ (r_177 : Int32).toInt = (0 : Int32).toInt := fun z => c_182 (Int32.toInt_inj.mp z)
                have z_4 : ¬ (r_196 : Int32).toInt = (0 : Int32).toInt := fun z => c_204 (Int32.toInt_inj.mp z)
                have y_0 : (0 : Int32).toInt = 0 := by decide
                omega
              obtain ⟨pf_261, pf_262⟩ := hm_199 hz_263
              have pf_261 : Ltr (Mf 1) (Mv 0) sv_191 := pf_261
              have ar_pf_261 := pf_261.1
              have at_pf_261 : 97 ≤ ((Mf 1) (sv_191 : Int32).toInt.toNat).toInt ∧ ((Mf 1) (sv_191 : Int32).toInt.toNat).toInt ≤ 122 := pf_261.2
              have pf_262 : PkW (rB (Mf 1) (Mv 0)) ((sv_191 : Int32).toInt.toNat) (6385252 : Int64).toInt := pf_262
              refine lv_bipush (v := 12) hx hb dX12_tested_69 (by decide) ?_
              refine lv_goto (tgt := 76) hx hb dX12_tested_71 (by decide) ?_
              refine lv_istore_n (lv' := [(2, .int 12), (1, .int 1), (0, .ref (Ma 0))]) hx hb dX12_tested_76 rfl hl (by decide) rfl (fun ls hl₀ => ?_)
              replace hl := hl₀
              clear hl₀
              refine lv_aload_n hx hb dX12_tested_77 rfl (lv_at hl 2 rfl) ?_
              have ha_264 : 0 ≤ (sv_191 : Int32).toInt ∧ (sv_191 : Int32).toInt ≤ ((Mv 0) : Int32).toInt ∧ ((Mv 0) : Int32).toInt ≤ 400 := by
                have z_1 : ¬ (vy_20 : Int32).toInt = (0 : Int32).toInt := fun z => c_33 (Int32.toInt_inj.mp z)
                have z_2 : ¬ (r_136 : Int32).toInt = (0 : Int32).toInt := fun z => c_141 (Int32.toInt_inj.mp z)
                have z_3 : ¬ (r_177 : Int32).toInt = (0 : Int32).toInt := fun z => c_182 (Int32.toInt_inj.mp z)
                have z_4 : ¬ (r_196 : Int32).toInt = (0 : Int32).toInt := fun z => c_204 (Int32.toInt_inj.mp z)
                have y_0 : (0 : Int32).toInt = 0 := by decide
                omega
              refine cV (a := (Ma 0)) (As := []) (rest := []) (wr := [((Ma 2), .inl (tc 0, 2400, .inl sv_156)), ((Ma 3), .inl (tc 0, 7, .inl sv_157)), ((Ma 7), .inl (tc 0, 400, .inl sv_132))]) ⟨hx, hb, hml, hown, hts⟩ hK hX hA (cu_fX12_passWord l D tc sk (Ma 0) (Ma 1) (Ma 2) (Ma 3) (Ma 4) (Ma 5) (Ma 6) (Ma 7) (Ma 8) (Ma 9) (Ma 10) (Ma 11) (Ma 12) (Ma 13) (Ma 14) (Ma 15) (Ma 16) (Ma 17) (Ma 18) (Ma 19) (Ma 20) (Mv 0) (Mv 1) sv_191 sv_125 sv_126 (Mv 5) sv_127 sv_154 (Mv 8) sv_155 (Mv 10) (Mv 11) (Mv 12) (Mv 13) (Mv 14) (Mf 1) (Mj 0) ha_264 h_bs) k_1244 k_1241 k_1243 k_34 k_106 pl_X12_passWord ⟨Nat.le_of_ble_eq_true rfl, Nat.le_of_ble_eq_true rfl⟩ rfl rfl (va_recv hK hP (ci := 12) (q0 := 3) rfl rfl) hP hD hS [3, 4] [0, 1, 2] rfl rfl rfl rfl rfl (by decide) rfl hl.1 rfl (Nat.le_of_ble_eq_true rfl) dX12_tested_78 ⟨Nat.le_of_ble_eq_true rfl, Nat.le_of_ble_eq_true rfl⟩ (fun v_265 u_266 H locs hv_267 hP₀ hD₀ hS₀ => ?_)
              obtain ⟨sv_268, rfl⟩ : ∃ z, z = u_266 := ⟨_, rfl⟩
              obtain ⟨rfl, pf_269, pf_270, pf_271⟩ := hv_267
              have pf_269 : (sv_191 : Int32).toInt ≤ (sv_268 : Int32).toInt ∧ (sv_268 : Int32).toInt ≤ ((Mv 0) : Int32).toInt := pf_269
              have pf_270 : Pw (Mf 1) (Mv 0) sv_191 sv_268 := pf_270
              have ar_pf_270 := pf_270 pf_261
              have pf_271 : PsR (rB (Mf 1) (Mv 0)) sv_191 sv_268 := pf_271
              refine W.eq (g2 := F0 m 81 ls []) rfl ?_
              replace hP : va_P D classes [((Ma 2), .inl (tc 0, 2400, .inl sv_156)), ((Ma 3), .inl (tc 0, 7, .inl sv_157)), ((Ma 7), .inl (tc 0, 400, .inl sv_132)), ((Ma 0), .inr (12, [.ref (Ma 1), .int (Mv 0), .int (Mv 1), .ref (Ma 2), .ref (Ma 3), .ref (Ma 4), .ref (Ma 5), .ref (Ma 6), .int sv_268, .int sv_125, .int sv_126, .int (Mv 5), .int sv_127, .int sv_154, .int (Mv 8), .ref (Ma 7), .int sv_155, .ref (Ma 8), .int (Mv 10), .ref (Ma 9), .ref (Ma 10), .int (Mv 11), .int (Mv 12), .int (Mv 13), .ref (Ma 11), .int (Mv 14), .ref (Ma 12), .ref (Ma 13), .ref (Ma 14), .ref (Ma 15), .ref (Ma 16), .long (Mj 0), .ref (Ma 17), .ref (Ma 18), .ref (Ma 19), .ref (Ma 20)])), ((Ma 1), .inl (tc 2, 400, .inl (Mf 1)))] H := hP₀
              replace hD : va_D A [((Ma 2), .inl (tc 0, 2400, .inl sv_156)), ((Ma 3), .inl (tc 0, 7, .inl sv_157)), ((Ma 7), .inl (tc 0, 400, .inl sv_132)), ((Ma 0), .inr (12, [.ref (Ma 1), .int (Mv 0), .int (Mv 1), .ref (Ma 2), .ref (Ma 3), .ref (Ma 4), .ref (Ma 5), .ref (Ma 6), .int sv_268, .int sv_125, .int sv_126, .int (Mv 5), .int sv_127, .int sv_154, .int (Mv 8), .ref (Ma 7), .int sv_155, .ref (Ma 8), .int (Mv 10), .ref (Ma 9), .ref (Ma 10), .int (Mv 11), .int (Mv 12), .int (Mv 13), .ref (Ma 11), .int (Mv 14), .ref (Ma 12), .ref (Ma 13), .ref (Ma 14), .ref (Ma 15), .ref (Ma 16), .long (Mj 0), .ref (Ma 17), .ref (Ma 18), .ref (Ma 19), .ref (Ma 20)])), ((Ma 1), .inl (tc 2, 400, .inl (Mf 1)))] := hD₀
              replace hS := hS₀
              clear hP₀ hD₀ hS₀
              refine lv_aload_n hx hb dX12_tested_81 rfl (lv_at hl 2 rfl) ?_
              refine lv_iload_n hx hb dX12_tested_82 rfl (lv_at hl 0 rfl) ?_
              refine cS (As := [.int 12]) (rest := [.ref (Ma 0)]) (wr := [((Ma 2), .inl (tc 0, 2400, .inl sv_156)), ((Ma 3), .inl (tc 0, 7, .inl sv_157)), ((Ma 7), .inl (tc 0, 400, .inl sv_132)), ((Ma 0), .inr (12, [.ref (Ma 1), .int (Mv 0), .int (Mv 1), .ref (Ma 2), .ref (Ma 3), .ref (Ma 4), .ref (Ma 5), .ref (Ma 6), .int sv_268, .int sv_125, .int sv_126, .int (Mv 5), .int sv_127, .int sv_154, .int (Mv 8), .ref (Ma 7), .int sv_155, .ref (Ma 8), .int (Mv 10), .ref (Ma 9), .ref (Ma 10), .int (Mv 11), .int (Mv 12), .int (Mv 13), .ref (Ma 11), .int (Mv 14), .ref (Ma 12), .ref (Ma 13), .ref (Ma 14), .ref (Ma 15), .ref (Ma 16), .long (Mj 0), .ref (Ma 17), .ref (Ma 18), .ref (Ma 19), .ref (Ma 20)])), ((Ma 1), .inl (tc 2, 400, .inl (Mf 1)))]) ⟨hx, hb, hml, hown, hts⟩ hK hX hA (ct_X12_strength l D tc sk 12) k_1345 k_1343 k_1344 k_106 pl_X12_strength ⟨Nat.le_of_ble_eq_true rfl, Nat.le_of_ble_eq_true rfl⟩ rfl rfl  hP hD hS [] [0, 1, 2, 3, 4] rfl rfl rfl rfl rfl (by decide) rfl hl.1 rfl (Nat.le_of_ble_eq_true rfl) dX12_tested_83 ⟨Nat.le_of_ble_eq_true rfl, Nat.le_of_ble_eq_true rfl⟩ (fun v_272 u_273 H locs hv_274 hP₀ hD₀ hS₀ => ?_)
              obtain ⟨r_275, rfl, he_276⟩ := hv_274
              have he_276 : (((12 : Int32).toInt = 13 ∧ r_275.toInt = 1) ∨ ((12 : Int32).toInt = 12 ∧ r_275.toInt = 2) ∨ ((12 : Int32).toInt = 11 ∧ r_275.toInt = 3) ∨ ((12 : Int32).toInt ≠ 13 ∧ (12 : Int32).toInt ≠ 12 ∧ (12 : Int32).toInt ≠ 11 ∧ r_275.toInt = 0)) := he_276
              refine W.eq (g2 := F0 m 86 ls [.int r_275, .ref (Ma 0)]) rfl ?_
              replace hP : va_P D classes [((Ma 2), .inl (tc 0, 2400, .inl sv_156)), ((Ma 3), .inl (tc 0, 7, .inl sv_157)), ((Ma 7), .inl (tc 0, 400, .inl sv_132)), ((Ma 0), .inr (12, [.ref (Ma 1), .int (Mv 0), .int (Mv 1), .ref (Ma 2), .ref (Ma 3), .ref (Ma 4), .ref (Ma 5), .ref (Ma 6), .int sv_268, .int sv_125, .int sv_126, .int (Mv 5), .int sv_127, .int sv_154, .int (Mv 8), .ref (Ma 7), .int sv_155, .ref (Ma 8), .int (Mv 10), .ref (Ma 9), .ref (Ma 10), .int (Mv 11), .int (Mv 12), .int (Mv 13), .ref (Ma 11), .int (Mv 14), .ref (Ma 12), .ref (Ma 13), .ref (Ma 14), .ref (Ma 15), .ref (Ma 16), .long (Mj 0), .ref (Ma 17), .ref (Ma 18), .ref (Ma 19), .ref (Ma 20)])), ((Ma 1), .inl (tc 2, 400, .inl (Mf 1)))] H := hP₀
              replace hD : va_D A [((Ma 2), .inl (tc 0, 2400, .inl sv_156)), ((Ma 3), .inl (tc 0, 7, .inl sv_157)), ((Ma 7), .inl (tc 0, 400, .inl sv_132)), ((Ma 0), .inr (12, [.ref (Ma 1), .int (Mv 0), .int (Mv 1), .ref (Ma 2), .ref (Ma 3), .ref (Ma 4), .ref (Ma 5), .ref (Ma 6), .int sv_268, .int sv_125, .int sv_126, .int (Mv 5), .int sv_127, .int sv_154, .int (Mv 8), .ref (Ma 7), .int sv_155, .ref (Ma 8), .int (Mv 10), .ref (Ma 9), .ref (Ma 10), .int (Mv 11), .int (Mv 12), .int (Mv 13), .ref (Ma 11), .int (Mv 14), .ref (Ma 12), .ref (Ma 13), .ref (Ma 14), .ref (Ma 15), .ref (Ma 16), .long (Mj 0), .ref (Ma 17), .ref (Ma 18), .ref (Ma 19), .ref (Ma 20)])), ((Ma 1), .inl (tc 2, 400, .inl (Mf 1)))] := hD₀
              replace hS := hS₀
              clear hP₀ hD₀ hS₀
              have yy_277 : (12 : Int32).toInt = 12 := by decide
              have ha_278 : 1 ≤ r_275.toInt ∧ r_275.toInt ≤ 3 := by
                have z_1 : ¬ (vy_20 : Int32).toInt = (0 : Int32).toInt := fun z => c_33 (Int32.toInt_inj.mp z)
                have z_2 : ¬ (r_136 : Int32).toInt = (0 : Int32).toInt := fun z => c_141 (Int32.toInt_inj.mp z)
                have z_3 : ¬ (r_177 : Int32).toInt = (0 : Int32).toInt := fun z => c_182 (Int32.toInt_inj.mp z)
                have z_4 : ¬ (r_196 : Int32).toInt = (0 : Int32).toInt := fun z => c_204 (Int32.toInt_inj.mp z)
                have y_0 : (0 : Int32).toInt = 0 := by decide
                omega
              have ha_279 : (sv_157 (Mv 5).toNatClampNeg).toInt + (sv_155 : Int32).toInt ≤ 400 := by
                have z_1 : ¬ (vy_20 : Int32).toInt = (0 : Int32).toInt := fun z => c_33 (Int32.toInt_inj.mp z)
                have z_2 : ¬ (r_136 : Int32).toInt = (0 : Int32).toInt := fun z => c_141 (Int32.toInt_inj.mp z)
                have z_3 : ¬ (r_177 : Int32).toInt = (0 : Int32).toInt := fun z => c_182 (Int32.toInt_inj.mp z)
                have z_4 : ¬ (r_196 : Int32).toInt = (0 : Int32).toInt := fun z => c_204 (Int32.toInt_inj.mp z)
                have y_0 : (0 : Int32).toInt = 0 := by decide
                omega
              refine cV (a := (Ma 0)) (As := [.int r_275]) (rest := []) (wr := [((Ma 1), .inl (tc 2, 400, .inl (Mf 1)))]) ⟨hx, hb, hml, hown, hts⟩ hK hX hA (cu_fX12_layDown l D tc sk (Ma 0) (Ma 1) (Ma 2) (Ma 3) (Ma 4) (Ma 5) (Ma 6) (Ma 7) (Ma 8) (Ma 9) (Ma 10) (Ma 11) (Ma 12) (Ma 13) (Ma 14) (Ma 15) (Ma 16) (Ma 17) (Ma 18) (Ma 19) (Ma 20) (Mv 0) (Mv 1) sv_268 sv_125 sv_126 (Mv 5) sv_127 sv_154 (Mv 8) sv_155 (Mv 10) (Mv 11) (Mv 12) (Mv 13) (Mv 14) sv_156 sv_157 sv_132 (Mj 0) r_275 b pf_160 ha_278 ha_279 pf_162.1) k_1342 k_1339 k_1341 k_54 k_106 pl_X12_layDown ⟨Nat.le_of_ble_eq_true rfl, Nat.le_of_ble_eq_true rfl⟩ rfl rfl (va_recv hK hP (ci := 12) (q0 := 3) rfl rfl) hP hD hS [3, 0, 1, 2] [4] rfl rfl rfl rfl rfl (by decide) rfl hl.1 rfl (Nat.le_of_ble_eq_true rfl) dX12_tested_86 ⟨Nat.le_of_ble_eq_true rfl, Nat.le_of_ble_eq_true rfl⟩ (fun v_280 u_281 H locs hv_282 hP₀ hD₀ hS₀ => ?_)
              obtain ⟨sv_283, sv_284, sv_285, sv_286⟩ := u_281
              obtain ⟨rfl, pf_287, pf_288, pf_289, pf_290, pf_291, pf_292, pf_293⟩ := hv_282
              have pf_287 : LSR sv_132 sv_284 sv_285 sv_286 (Mv 5) b sv_127 := pf_287
              obtain ⟨pn_294, pf_295, pf_296⟩ := id pf_287
              have ar_pf_287 := LSR.ar pf_287
              have ar_pf_296 := Cd.ar pf_296
              have pf_288 : (sv_286 (Mv 5).toNatClampNeg).toInt + (sv_284 : Int32).toInt = (sv_157 (Mv 5).toNatClampNeg).toInt + (sv_155 : Int32).toInt ∧ 0 ≤ (sv_284 : Int32).toInt ∧ (sv_284 : Int32).toInt ≤ (sv_155 : Int32).toInt := pf_288
              have pf_289 : Agr sv_156 sv_285 (400 * ((Mv 5) : Int32).toInt + (sv_157 (Mv 5).toNatClampNeg).toInt) := pf_289
              have pf_290 : LdE sv_132 sv_284 r_275 := pf_290
              have pf_291 : InK sv_132 sv_155 sv_284 := pf_291
              have pf_292 : LdP sv_132 sv_155 sv_284 sv_283 := pf_292
              have ar_pf_292 := OsP.ar pf_292.1
              have pf_293 : T11 sv_132 sv_284 := pf_293
              refine W.eq (g2 := F0 m 89 ls []) rfl ?_
              replace hP : va_P D classes [((Ma 1), .inl (tc 2, 400, .inl (Mf 1))), ((Ma 0), .inr (12, [.ref (Ma 1), .int (Mv 0), .int (Mv 1), .ref (Ma 2), .ref (Ma 3), .ref (Ma 4), .ref (Ma 5), .ref (Ma 6), .int sv_268, .int sv_125, .int sv_126, .int (Mv 5), .int sv_127, .int sv_283, .int (Mv 8), .ref (Ma 7), .int sv_284, .ref (Ma 8), .int (Mv 10), .ref (Ma 9), .ref (Ma 10), .int (Mv 11), .int (Mv 12), .int (Mv 13), .ref (Ma 11), .int (Mv 14), .ref (Ma 12), .ref (Ma 13), .ref (Ma 14), .ref (Ma 15), .ref (Ma 16), .long (Mj 0), .ref (Ma 17), .ref (Ma 18), .ref (Ma 19), .ref (Ma 20)])), ((Ma 2), .inl (tc 0, 2400, .inl sv_285)), ((Ma 3), .inl (tc 0, 7, .inl sv_286)), ((Ma 7), .inl (tc 0, 400, .inl sv_132))] H := hP₀
              replace hD : va_D A [((Ma 1), .inl (tc 2, 400, .inl (Mf 1))), ((Ma 0), .inr (12, [.ref (Ma 1), .int (Mv 0), .int (Mv 1), .ref (Ma 2), .ref (Ma 3), .ref (Ma 4), .ref (Ma 5), .ref (Ma 6), .int sv_268, .int sv_125, .int sv_126, .int (Mv 5), .int sv_127, .int sv_283, .int (Mv 8), .ref (Ma 7), .int sv_284, .ref (Ma 8), .int (Mv 10), .ref (Ma 9), .ref (Ma 10), .int (Mv 11), .int (Mv 12), .int (Mv 13), .ref (Ma 11), .int (Mv 14), .ref (Ma 12), .ref (Ma 13), .ref (Ma 14), .ref (Ma 15), .ref (Ma 16), .long (Mj 0), .ref (Ma 17), .ref (Ma 18), .ref (Ma 19), .ref (Ma 20)])), ((Ma 2), .inl (tc 0, 2400, .inl sv_285)), ((Ma 3), .inl (tc 0, 7, .inl sv_286)), ((Ma 7), .inl (tc 0, 400, .inl sv_132))] := hD₀
              replace hS := hS₀
              clear hP₀ hD₀ hS₀
              refine lv_aload_n hx hb dX12_tested_89 rfl (lv_at hl 2 rfl) ?_
              refine gf_X12_29 hx hb hts hown hK hP 1 rfl rfl dX12_tested_90 ?_
              refine lv_aload_n hx hb dX12_tested_93 rfl (lv_at hl 2 rfl) ?_
              refine gf_X12_154 hx hb hts hown hK hP 1 rfl rfl dX12_tested_94 ?_
              refine lv_iload_n hx hb dX12_tested_97 rfl (lv_at hl 0 rfl) ?_
              have hi_297 : vp_in sv_284 400 := by
                have z_1 : ¬ (vy_20 : Int32).toInt = (0 : Int32).toInt := fun z => c_33 (Int32.toInt_inj.mp z)
                have z_2 : ¬ (r_136 : Int32).toInt = (0 : Int32).toInt := fun z => c_141 (Int32.toInt_inj.mp z)
                have z_3 : ¬ (r_177 : Int32).toInt = (0 : Int32).toInt := fun z => c_182 (Int32.toInt_inj.mp z)
                have z_4 : ¬ (r_196 : Int32).toInt = (0 : Int32).toInt := fun z => c_204 (Int32.toInt_inj.mp z)
                have y_0 : (0 : Int32).toInt = 0 := by decide
                refine vp_in_iff.mpr ⟨?_, ?_⟩ <;> omega
              refine st_int hx hb hK hP hD hS 4 0 rfl rfl hi_297 dX12_tested_98 (fun g_298 H locs eg_298 hP₀ hD₀ hS₀ => ?_)
              replace hP : va_P D classes [((Ma 1), .inl (tc 2, 400, .inl (Mf 1))), ((Ma 0), .inr (12, [.ref (Ma 1), .int (Mv 0), .int (Mv 1), .ref (Ma 2), .ref (Ma 3), .ref (Ma 4), .ref (Ma 5), .ref (Ma 6), .int sv_268, .int sv_125, .int sv_126, .int (Mv 5), .int sv_127, .int sv_283, .int (Mv 8), .ref (Ma 7), .int sv_284, .ref (Ma 8), .int (Mv 10), .ref (Ma 9), .ref (Ma 10), .int (Mv 11), .int (Mv 12), .int (Mv 13), .ref (Ma 11), .int (Mv 14), .ref (Ma 12), .ref (Ma 13), .ref (Ma 14), .ref (Ma 15), .ref (Ma 16), .long (Mj 0), .ref (Ma 17), .ref (Ma 18), .ref (Ma 19), .ref (Ma 20)])), ((Ma 2), .inl (tc 0, 2400, .inl sv_285)), ((Ma 3), .inl (tc 0, 7, .inl sv_286)), ((Ma 7), .inl (tc 0, 400, .inl g_298))] H := hP₀
              replace hD : va_D A [((Ma 1), .inl (tc 2, 400, .inl (Mf 1))), ((Ma 0), .inr (12, [.ref (Ma 1), .int (Mv 0), .int (Mv 1), .ref (Ma 2), .ref (Ma 3), .ref (Ma 4), .ref (Ma 5), .ref (Ma 6), .int sv_268, .int sv_125, .int sv_126, .int (Mv 5), .int sv_127, .int sv_283, .int (Mv 8), .ref (Ma 7), .int sv_284, .ref (Ma 8), .int (Mv 10), .ref (Ma 9), .ref (Ma 10), .int (Mv 11), .int (Mv 12), .int (Mv 13), .ref (Ma 11), .int (Mv 14), .ref (Ma 12), .ref (Ma 13), .ref (Ma 14), .ref (Ma 15), .ref (Ma 16), .long (Mj 0), .ref (Ma 17), .ref (Ma 18), .ref (Ma 19), .ref (Ma 20)])), ((Ma 2), .inl (tc 0, 2400, .inl sv_285)), ((Ma 3), .inl (tc 0, 7, .inl sv_286)), ((Ma 7), .inl (tc 0, 400, .inl g_298))] := hD₀
              replace hS := hS₀
              clear hP₀ hD₀ hS₀
              refine lv_aload_n hx hb dX12_tested_99 rfl (lv_at hl 2 rfl) ?_
              refine lv_dup hx hb dX12_tested_100 rfl ?_
              refine gf_X12_154 hx hb hts hown hK hP 1 rfl rfl dX12_tested_101 ?_
              refine lv_iconst (v := 1) hx hb dX12_tested_104 (by decide) ?_
              refine lv_iadd hx hb dX12_tested_105 ?_
              refine lv_topi (fun x_299 ex_299 => ?_)
              refine pf_X12_154 hx hb hts hown hK hP hD hS 1 rfl (Nat.le_of_ble_eq_true rfl) rfl rfl dX12_tested_106 (fun H locs hP₀ hD₀ hS₀ => ?_)
              replace hP : va_P D classes [((Ma 1), .inl (tc 2, 400, .inl (Mf 1))), ((Ma 0), .inr (12, [.ref (Ma 1), .int (Mv 0), .int (Mv 1), .ref (Ma 2), .ref (Ma 3), .ref (Ma 4), .ref (Ma 5), .ref (Ma 6), .int sv_268, .int sv_125, .int sv_126, .int (Mv 5), .int sv_127, .int sv_283, .int (Mv 8), .ref (Ma 7), .int x_299, .ref (Ma 8), .int (Mv 10), .ref (Ma 9), .ref (Ma 10), .int (Mv 11), .int (Mv 12), .int (Mv 13), .ref (Ma 11), .int (Mv 14), .ref (Ma 12), .ref (Ma 13), .ref (Ma 14), .ref (Ma 15), .ref (Ma 16), .long (Mj 0), .ref (Ma 17), .ref (Ma 18), .ref (Ma 19), .ref (Ma 20)])), ((Ma 2), .inl (tc 0, 2400, .inl sv_285)), ((Ma 3), .inl (tc 0, 7, .inl sv_286)), ((Ma 7), .inl (tc 0, 400, .inl g_298))] H := hP₀
              replace hD : va_D A [((Ma 1), .inl (tc 2, 400, .inl (Mf 1))), ((Ma 0), .inr (12, [.ref (Ma 1), .int (Mv 0), .int (Mv 1), .ref (Ma 2), .ref (Ma 3), .ref (Ma 4), .ref (Ma 5), .ref (Ma 6), .int sv_268, .int sv_125, .int sv_126, .int (Mv 5), .int sv_127, .int sv_283, .int (Mv 8), .ref (Ma 7), .int x_299, .ref (Ma 8), .int (Mv 10), .ref (Ma 9), .ref (Ma 10), .int (Mv 11), .int (Mv 12), .int (Mv 13), .ref (Ma 11), .int (Mv 14), .ref (Ma 12), .ref (Ma 13), .ref (Ma 14), .ref (Ma 15), .ref (Ma 16), .long (Mj 0), .ref (Ma 17), .ref (Ma 18), .ref (Ma 19), .ref (Ma 20)])), ((Ma 2), .inl (tc 0, 2400, .inl sv_285)), ((Ma 3), .inl (tc 0, 7, .inl sv_286)), ((Ma 7), .inl (tc 0, 400, .inl g_298))] := hD₀
              replace hS := hS₀
              clear hP₀ hD₀ hS₀
              have tp_x_299 : (x_299 : Int32).toInt = (sv_284 : Int32).toInt + 1 := by
                have z_1 : ¬ (vy_20 : Int32).toInt = (0 : Int32).toInt := fun z => c_33 (Int32.toInt_inj.mp z)
                have z_2 : ¬ (r_136 : Int32).toInt = (0 : Int32).toInt := fun z => c_141 (Int32.toInt_inj.mp z)
                have z_3 : ¬ (r_177 : Int32).toInt = (0 : Int32).toInt := fun z => c_182 (Int32.toInt_inj.mp z)
                have z_4 : ¬ (r_196 : Int32).toInt = (0 : Int32).toInt := fun z => c_204 (Int32.toInt_inj.mp z)
                have y_0 : (0 : Int32).toInt = 0 := by decide
                have y_1 : (1 : Int32).toInt = 1 := by decide
                have t_x_299 : x_299.toInt = (sv_284 : Int32).toInt + (1 : Int32).toInt := by rw [ex_299]; exact add_toInt (by omega) (by omega)
                omega
              refine lv_goto (tgt := 12) hx hb dX12_tested_109 (by decide) ?_
              have hb_300 : 2 * (401 - (sv_268 : Int32).toInt) + (1 : Int32).toInt < 2 * (401 - (vy_11 : Int32).toInt) + (vy_20 : Int32).toInt ∧ 1 ≤ 2 * (401 - (vy_11 : Int32).toInt) + (vy_20 : Int32).toInt := by
                have z_1 : ¬ (vy_20 : Int32).toInt = (0 : Int32).toInt := fun z => c_33 (Int32.toInt_inj.mp z)
                have z_2 : ¬ (r_136 : Int32).toInt = (0 : Int32).toInt := fun z => c_141 (Int32.toInt_inj.mp z)
                have z_3 : ¬ (r_177 : Int32).toInt = (0 : Int32).toInt := fun z => c_182 (Int32.toInt_inj.mp z)
                have z_4 : ¬ (r_196 : Int32).toInt = (0 : Int32).toInt := fun z => c_204 (Int32.toInt_inj.mp z)
                have y_0 : (0 : Int32).toInt = 0 := by decide
                have y_1 : (1 : Int32).toInt = 1 := by decide
                omega
              have ha_301 : 0 ≤ (sv_268 : Int32).toInt ∧ (sv_268 : Int32).toInt ≤ ((Mv 0) : Int32).toInt ∧ ((Mv 0) : Int32).toInt ≤ 400 := by
                have z_1 : ¬ (vy_20 : Int32).toInt = (0 : Int32).toInt := fun z => c_33 (Int32.toInt_inj.mp z)
                have z_2 : ¬ (r_136 : Int32).toInt = (0 : Int32).toInt := fun z => c_141 (Int32.toInt_inj.mp z)
                have z_3 : ¬ (r_177 : Int32).toInt = (0 : Int32).toInt := fun z => c_182 (Int32.toInt_inj.mp z)
                have z_4 : ¬ (r_196 : Int32).toInt = (0 : Int32).toInt := fun z => c_204 (Int32.toInt_inj.mp z)
                have y_0 : (0 : Int32).toInt = 0 := by decide
                omega
              have ha_302 : (Mv 2).toInt ≤ (sv_268 : Int32).toInt := by
                have z_1 : ¬ (vy_20 : Int32).toInt = (0 : Int32).toInt := fun z => c_33 (Int32.toInt_inj.mp z)
                have z_2 : ¬ (r_136 : Int32).toInt = (0 : Int32).toInt := fun z => c_141 (Int32.toInt_inj.mp z)
                have z_3 : ¬ (r_177 : Int32).toInt = (0 : Int32).toInt := fun z => c_182 (Int32.toInt_inj.mp z)
                have z_4 : ¬ (r_196 : Int32).toInt = (0 : Int32).toInt := fun z => c_204 (Int32.toInt_inj.mp z)
                have y_0 : (0 : Int32).toInt = 0 := by decide
                omega
              have ha_303 : 0 ≤ (1 : Int32).toInt ∧ (1 : Int32).toInt ≤ 1 := by
                have z_1 : ¬ (vy_20 : Int32).toInt = (0 : Int32).toInt := fun z => c_33 (Int32.toInt_inj.mp z)
                have z_2 : ¬ (r_136 : Int32).toInt = (0 : Int32).toInt := fun z => c_141 (Int32.toInt_inj.mp z)
                have z_3 : ¬ (r_177 : Int32).toInt = (0 : Int32).toInt := fun z => c_182 (Int32.toInt_inj.mp z)
                have z_4 : ¬ (r_196 : Int32).toInt = (0 : Int32).toInt := fun z => c_204 (Int32.toInt_inj.mp z)
                have y_0 : (0 : Int32).toInt = 0 := by decide
                have y_1 : (1 : Int32).toInt = 1 := by decide
                omega
              have ha_304 : (Mv 6).toInt ≤ (sv_127 : Int32).toInt ∧ (sv_127 : Int32).toInt ≤ 60 := by
                have z_1 : ¬ (vy_20 : Int32).toInt = (0 : Int32).toInt := fun z => c_33 (Int32.toInt_inj.mp z)
                have z_2 : ¬ (r_136 : Int32).toInt = (0 : Int32).toInt := fun z => c_141 (Int32.toInt_inj.mp z)
                have z_3 : ¬ (r_177 : Int32).toInt = (0 : Int32).toInt := fun z => c_182 (Int32.toInt_inj.mp z)
                have z_4 : ¬ (r_196 : Int32).toInt = (0 : Int32).toInt := fun z => c_204 (Int32.toInt_inj.mp z)
                have y_0 : (0 : Int32).toInt = 0 := by decide
                omega
              have hi_305 : (x_299 : Int32).toInt = (sv_284 : Int32).toInt + 1 := by
                have z_1 : ¬ (vy_20 : Int32).toInt = (0 : Int32).toInt := fun z => c_33 (Int32.toInt_inj.mp z)
                have z_2 : ¬ (r_136 : Int32).toInt = (0 : Int32).toInt := fun z => c_141 (Int32.toInt_inj.mp z)
                have z_3 : ¬ (r_177 : Int32).toInt = (0 : Int32).toInt := fun z => c_182 (Int32.toInt_inj.mp z)
                have z_4 : ¬ (r_196 : Int32).toInt = (0 : Int32).toInt := fun z => c_204 (Int32.toInt_inj.mp z)
                have y_0 : (0 : Int32).toInt = 0 := by decide
                have y_1 : (1 : Int32).toInt = 1 := by decide
                have t_x_299 : x_299.toInt = (sv_284 : Int32).toInt + (1 : Int32).toInt := by rw [ex_299]; exact add_toInt (by omega) (by omega)
                omega
              have hr_306 : (sv_284 : Int32).toInt < 400 := by
                have z_1 : ¬ (vy_20 : Int32).toInt = (0 : Int32).toInt := fun z => c_33 (Int32.toInt_inj.mp z)
                have z_2 : ¬ (r_136 : Int32).toInt = (0 : Int32).toInt := fun z => c_141 (Int32.toInt_inj.mp z)
                have z_3 : ¬ (r_177 : Int32).toInt = (0 : Int32).toInt := fun z => c_182 (Int32.toInt_inj.mp z)
                have z_4 : ¬ (r_196 : Int32).toInt = (0 : Int32).toInt := fun z => c_204 (Int32.toInt_inj.mp z)
                have y_0 : (0 : Int32).toInt = 0 := by decide
                omega
              have hr_307 : (12 : Int32).toInt = 12 ∨ (12 : Int32).toInt = 13 := by
                have z_1 : ¬ (vy_20 : Int32).toInt = (0 : Int32).toInt := fun z => c_33 (Int32.toInt_inj.mp z)
                have z_2 : ¬ (r_136 : Int32).toInt = (0 : Int32).toInt := fun z => c_141 (Int32.toInt_inj.mp z)
                have z_3 : ¬ (r_177 : Int32).toInt = (0 : Int32).toInt := fun z => c_182 (Int32.toInt_inj.mp z)
                have z_4 : ¬ (r_196 : Int32).toInt = (0 : Int32).toInt := fun z => c_204 (Int32.toInt_inj.mp z)
                have y_0 : (0 : Int32).toInt = 0 := by decide
                have y_12 : (12 : Int32).toInt = 12 := by decide
                omega
              have ha_308 : (sv_286 (Mv 5).toNatClampNeg).toInt + (x_299 : Int32).toInt ≤ (sv_268 : Int32).toInt ∧ ((Mf 3) (Mv 5).toNatClampNeg).toInt ≤ (sv_286 (Mv 5).toNatClampNeg).toInt ∧ 0 ≤ (x_299 : Int32).toInt ∧ (x_299 : Int32).toInt ≤ 400 := by
                have z_1 : ¬ (vy_20 : Int32).toInt = (0 : Int32).toInt := fun z => c_33 (Int32.toInt_inj.mp z)
                have z_2 : ¬ (r_136 : Int32).toInt = (0 : Int32).toInt := fun z => c_141 (Int32.toInt_inj.mp z)
                have z_3 : ¬ (r_177 : Int32).toInt = (0 : Int32).toInt := fun z => c_182 (Int32.toInt_inj.mp z)
                have z_4 : ¬ (r_196 : Int32).toInt = (0 : Int32).toInt := fun z => c_204 (Int32.toInt_inj.mp z)
                have y_0 : (0 : Int32).toInt = 0 := by decide
                have y_1 : (1 : Int32).toInt = 1 := by decide
                have t_x_299 : x_299.toInt = (sv_284 : Int32).toInt + (1 : Int32).toInt := by rw [ex_299]; exact add_toInt (by omega) (by omega)
                omega
              have hr_309 : (400 * ((Mv 5) : Int32).toInt + ((Mf 3) (Mv 5).toNatClampNeg).toInt) ≤ (400 * ((Mv 5) : Int32).toInt + ((Mf 3) (Mv 5).toNatClampNeg).toInt) := by
                have z_1 : ¬ (vy_20 : Int32).toInt = (0 : Int32).toInt := fun z => c_33 (Int32.toInt_inj.mp z)
                have z_2 : ¬ (r_136 : Int32).toInt = (0 : Int32).toInt := fun z => c_141 (Int32.toInt_inj.mp z)
                have z_3 : ¬ (r_177 : Int32).toInt = (0 : Int32).toInt := fun z => c_182 (Int32.toInt_inj.mp z)
                have z_4 : ¬ (r_196 : Int32).toInt = (0 : Int32).toInt := fun z => c_204 (Int32.toInt_inj.mp z)
                have y_0 : (0 : Int32).toInt = 0 := by decide
                omega
              have hr_310 : (400 * ((Mv 5) : Int32).toInt + ((Mf 3) (Mv 5).toNatClampNeg).toInt) ≤ (400 * ((Mv 5) : Int32).toInt + (vy_18 (Mv 5).toNatClampNeg).toInt) := by
                have z_1 : ¬ (vy_20 : Int32).toInt = (0 : Int32).toInt := fun z => c_33 (Int32.toInt_inj.mp z)
                have z_2 : ¬ (r_136 : Int32).toInt = (0 : Int32).toInt := fun z => c_141 (Int32.toInt_inj.mp z)
                have z_3 : ¬ (r_177 : Int32).toInt = (0 : Int32).toInt := fun z => c_182 (Int32.toInt_inj.mp z)
                have z_4 : ¬ (r_196 : Int32).toInt = (0 : Int32).toInt := fun z => c_204 (Int32.toInt_inj.mp z)
                have y_0 : (0 : Int32).toInt = 0 := by decide
                omega
              have hr_311 : (400 * ((Mv 5) : Int32).toInt + ((Mf 3) (Mv 5).toNatClampNeg).toInt) ≤ (400 * ((Mv 5) : Int32).toInt + (sv_131 (Mv 5).toNatClampNeg).toInt) := by
                have z_1 : ¬ (vy_20 : Int32).toInt = (0 : Int32).toInt := fun z => c_33 (Int32.toInt_inj.mp z)
                have z_2 : ¬ (r_136 : Int32).toInt = (0 : Int32).toInt := fun z => c_141 (Int32.toInt_inj.mp z)
                have z_3 : ¬ (r_177 : Int32).toInt = (0 : Int32).toInt := fun z => c_182 (Int32.toInt_inj.mp z)
                have z_4 : ¬ (r_196 : Int32).toInt = (0 : Int32).toInt := fun z => c_204 (Int32.toInt_inj.mp z)
                have y_0 : (0 : Int32).toInt = 0 := by decide
                omega
              have hr_312 : (400 * ((Mv 5) : Int32).toInt + ((Mf 3) (Mv 5).toNatClampNeg).toInt) ≤ (400 * ((Mv 5) : Int32).toInt + (sv_157 (Mv 5).toNatClampNeg).toInt) := by
                have z_1 : ¬ (vy_20 : Int32).toInt = (0 : Int32).toInt := fun z => c_33 (Int32.toInt_inj.mp z)
                have z_2 : ¬ (r_136 : Int32).toInt = (0 : Int32).toInt := fun z => c_141 (Int32.toInt_inj.mp z)
                have z_3 : ¬ (r_177 : Int32).toInt = (0 : Int32).toInt := fun z => c_182 (Int32.toInt_inj.mp z)
                have z_4 : ¬ (r_196 : Int32).toInt = (0 : Int32).toInt := fun z => c_204 (Int32.toInt_inj.mp z)
                have y_0 : (0 : Int32).toInt = 0 := by decide
                omega
              have hr_313 : (1 : Int32).toInt = 1 := by
                have z_1 : ¬ (vy_20 : Int32).toInt = (0 : Int32).toInt := fun z => c_33 (Int32.toInt_inj.mp z)
                have z_2 : ¬ (r_136 : Int32).toInt = (0 : Int32).toInt := fun z => c_141 (Int32.toInt_inj.mp z)
                have z_3 : ¬ (r_177 : Int32).toInt = (0 : Int32).toInt := fun z => c_182 (Int32.toInt_inj.mp z)
                have z_4 : ¬ (r_196 : Int32).toInt = (0 : Int32).toInt := fun z => c_204 (Int32.toInt_inj.mp z)
                have y_0 : (0 : Int32).toInt = 0 := by decide
                have y_1 : (1 : Int32).toInt = 1 := by decide
                omega
              have hw_314 : pz_wd (rB (Mf 1) (Mv 0)) (sv_191 : Int32).toInt.toNat pz_and = true := by
                have hq := pf_262
                rw [show (6385252 : Int64).toInt = pz_pl pz_and by decide] at hq
                exact (PkW.wd (by decide) (by decide) (by decide)).mp hq
              have hr_315 : (12 : Int32).toInt = 12 ∨ (12 : Int32).toInt = 13 := by
                have z_1 : ¬ (vy_20 : Int32).toInt = (0 : Int32).toInt := fun z => c_33 (Int32.toInt_inj.mp z)
                have z_2 : ¬ (r_136 : Int32).toInt = (0 : Int32).toInt := fun z => c_141 (Int32.toInt_inj.mp z)
                have z_3 : ¬ (r_177 : Int32).toInt = (0 : Int32).toInt := fun z => c_182 (Int32.toInt_inj.mp z)
                have z_4 : ¬ (r_196 : Int32).toInt = (0 : Int32).toInt := fun z => c_204 (Int32.toInt_inj.mp z)
                have y_0 : (0 : Int32).toInt = 0 := by decide
                have y_12 : (12 : Int32).toInt = 12 := by decide
                omega
              have hi_316 : (x_299 : Int32).toInt = (sv_284 : Int32).toInt + 1 := by
                have z_1 : ¬ (vy_20 : Int32).toInt = (0 : Int32).toInt := fun z => c_33 (Int32.toInt_inj.mp z)
                have z_2 : ¬ (r_136 : Int32).toInt = (0 : Int32).toInt := fun z => c_141 (Int32.toInt_inj.mp z)
                have z_3 : ¬ (r_177 : Int32).toInt = (0 : Int32).toInt := fun z => c_182 (Int32.toInt_inj.mp z)
                have z_4 : ¬ (r_196 : Int32).toInt = (0 : Int32).toInt := fun z => c_204 (Int32.toInt_inj.mp z)
                have y_0 : (0 : Int32).toInt = 0 := by decide
                have y_1 : (1 : Int32).toInt = 1 := by decide
                have t_x_299 : x_299.toInt = (sv_284 : Int32).toInt + (1 : Int32).toInt := by rw [ex_299]; exact add_toInt (by omega) (by omega)
                omega
              exact ih_22 sv_268 sv_125 sv_126 sv_127 sv_283 x_299 sv_285 sv_286 g_298 1 _ _ _ (by omega) ha_301 ha_302 ha_303 ha_304 ⟨fun _ => LSR.open2 pf_287 eg_298 hi_305 hr_306 hr_307, fun h => absurd h (by decide)⟩ ha_308 (Agr.trans (k' := (400 * ((Mv 5) : Int32).toInt + ((Mf 3) (Mv 5).toNatClampNeg).toInt)) (Agr.trans (k' := (400 * ((Mv 5) : Int32).toInt + ((Mf 3) (Mv 5).toNatClampNeg).toInt)) (Agr.trans (k' := (400 * ((Mv 5) : Int32).toInt + ((Mf 3) (Mv 5).toNatClampNeg).toInt)) (Agr.mono pf_30 hr_309) pf_135 ⟨Int.le_refl _, hr_310⟩) pf_159 ⟨Int.le_refl _, hr_311⟩) pf_289 ⟨Int.le_refl _, hr_312⟩) (TsL.and (rB_fi h_nx.2.2) pf_162 (SkR.trans pf_176 pf_195) (Or.inl hw_314) pf_271 pf_292 pf_293 eg_298 hr_315 hi_316 hr_313) (hP.sub [1, 0, 2, 3, 4] rfl) (hD.sub [1, 0, 2, 3, 4] rfl rfl) hS (lv_sub hl [1, 2] rfl)
          · skip
            have hz_318 : (r_177 : Int32).toInt = 0 := by
              have z_1 : ¬ (vy_20 : Int32).toInt = (0 : Int32).toInt := fun z => c_33 (Int32.toInt_inj.mp z)
              have z_2 : ¬ (r_136 : Int32).toInt = (0 : Int32).toInt := fun z => c_141 (Int32.toInt_inj.mp z)
              have z_3 := congrArg Int32.toInt c_182
              have y_0 : (0 : Int32).toInt = 0 := by decide
              omega
            obtain pf_317 := hm_181 hz_318
            have pf_317 : NPk (rB (Mf 1) (Mv 0)) ((sv_172 : Int32).toInt.toNat) (6385252 : Int64).toInt := pf_317
            refine lv_aload_n hx hb dX12_tested_39 rfl (lv_at hl 1 rfl) ?_
            refine lv_ldc2 hx hb hown (hts _ k_1351) dX12_tested_40 ?_
            have ha_319 : 0 ≤ (sv_172 : Int32).toInt ∧ (sv_172 : Int32).toInt ≤ ((Mv 0) : Int32).toInt ∧ ((Mv 0) : Int32).toInt ≤ 400 := by
              have z_1 : ¬ (vy_20 : Int32).toInt = (0 : Int32).toInt := fun z => c_33 (Int32.toInt_inj.mp z)
              have z_2 : ¬ (r_136 : Int32).toInt = (0 : Int32).toInt := fun z => c_141 (Int32.toInt_inj.mp z)
              have z_3 := congrArg Int32.toInt c_182
              have y_0 : (0 : Int32).toInt = 0 := by decide
              omega
            refine cV (a := (Ma 0)) (As := [.long 28530]) (rest := []) (wr := [((Ma 2), .inl (tc 0, 2400, .inl sv_156)), ((Ma 3), .inl (tc 0, 7, .inl sv_157)), ((Ma 7), .inl (tc 0, 400, .inl sv_132))]) ⟨hx, hb, hml, hown, hts⟩ hK hX hA (cu_fX12_isWord l D tc sk (Ma 0) (Ma 1) (Ma 2) (Ma 3) (Ma 4) (Ma 5) (Ma 6) (Ma 7) (Ma 8) (Ma 9) (Ma 10) (Ma 11) (Ma 12) (Ma 13) (Ma 14) (Ma 15) (Ma 16) (Ma 17) (Ma 18) (Ma 19) (Ma 20) (Mv 0) (Mv 1) sv_172 sv_125 sv_126 (Mv 5) sv_127 sv_154 (Mv 8) sv_155 (Mv 10) (Mv 11) (Mv 12) (Mv 13) (Mv 14) (Mf 1) (Mj 0) 28530 ha_319 h_bs) k_1220 k_1217 k_1219 k_29 k_106 pl_X12_isWord ⟨Nat.le_of_ble_eq_true rfl, Nat.le_of_ble_eq_true rfl⟩ rfl rfl (va_recv hK hP (ci := 12) (q0 := 3) rfl rfl) hP hD hS [3, 4] [0, 1, 2] rfl rfl rfl rfl rfl (by decide) rfl hl.1 rfl (Nat.le_of_ble_eq_true rfl) dX12_tested_43 ⟨Nat.le_of_ble_eq_true rfl, Nat.le_of_ble_eq_true rfl⟩ (fun v_320 u_321 H locs hv_322 hP₀ hD₀ hS₀ => ?_)
            obtain ⟨sv_323, rfl⟩ : ∃ z, z = u_321 := ⟨_, rfl⟩
            obtain ⟨r_328, rfl, he_329, pf_324, pf_325, pf_326, pf_327, hm_331, hm_332⟩ := hv_322
            have he_329 : (r_328.toInt = 0 ∨ r_328.toInt = 1) := he_329
            have pf_324 : (sv_172 : Int32).toInt ≤ (sv_323 : Int32).toInt ∧ (sv_323 : Int32).toInt ≤ ((Mv 0) : Int32).toInt := pf_324
            have pf_325 : NSq (Mf 1) (Mv 0) sv_323 := pf_325
            have pf_326 : Stl (Mf 1) (Mv 0) sv_172 sv_323 := pf_326
            have ar_pf_326 := Stl.or pf_326 pf_174
            have pf_327 : SkR (rB (Mf 1) (Mv 0)) sv_172 sv_323 := pf_327
            refine W.eq (g2 := F0 m 46 ls [.int r_328]) rfl ?_
            replace hP : va_P D classes [((Ma 2), .inl (tc 0, 2400, .inl sv_156)), ((Ma 3), .inl (tc 0, 7, .inl sv_157)), ((Ma 7), .inl (tc 0, 400, .inl sv_132)), ((Ma 0), .inr (12, [.ref (Ma 1), .int (Mv 0), .int (Mv 1), .ref (Ma 2), .ref (Ma 3), .ref (Ma 4), .ref (Ma 5), .ref (Ma 6), .int sv_323, .int sv_125, .int sv_126, .int (Mv 5), .int sv_127, .int sv_154, .int (Mv 8), .ref (Ma 7), .int sv_155, .ref (Ma 8), .int (Mv 10), .ref (Ma 9), .ref (Ma 10), .int (Mv 11), .int (Mv 12), .int (Mv 13), .ref (Ma 11), .int (Mv 14), .ref (Ma 12), .ref (Ma 13), .ref (Ma 14), .ref (Ma 15), .ref (Ma 16), .long (Mj 0), .ref (Ma 17), .ref (Ma 18), .ref (Ma 19), .ref (Ma 20)])), ((Ma 1), .inl (tc 2, 400, .inl (Mf 1)))] H := hP₀
            replace hD : va_D A [((Ma 2), .inl (tc 0, 2400, .inl sv_156)), ((Ma 3), .inl (tc 0, 7, .inl sv_157)), ((Ma 7), .inl (tc 0, 400, .inl sv_132)), ((Ma 0), .inr (12, [.ref (Ma 1), .int (Mv 0), .int (Mv 1), .ref (Ma 2), .ref (Ma 3), .ref (Ma 4), .ref (Ma 5), .ref (Ma 6), .int sv_323, .int sv_125, .int sv_126, .int (Mv 5), .int sv_127, .int sv_154, .int (Mv 8), .ref (Ma 7), .int sv_155, .ref (Ma 8), .int (Mv 10), .ref (Ma 9), .ref (Ma 10), .int (Mv 11), .int (Mv 12), .int (Mv 13), .ref (Ma 11), .int (Mv 14), .ref (Ma 12), .ref (Ma 13), .ref (Ma 14), .ref (Ma 15), .ref (Ma 16), .long (Mj 0), .ref (Ma 17), .ref (Ma 18), .ref (Ma 19), .ref (Ma 20)])), ((Ma 1), .inl (tc 2, 400, .inl (Mf 1)))] := hD₀
            replace hS := hS₀
            clear hP₀ hD₀ hS₀
            have hE_333 := SkR.eqB pf_176 pf_327
            refine lv_if_eq (tgt := 53) hx hb dX12_tested_46 (by decide) (fun c_334 => ?_) (fun c_334 => ?_)
            · skip
              have hz_336 : (r_328 : Int32).toInt = 0 := by
                have z_1 : ¬ (vy_20 : Int32).toInt = (0 : Int32).toInt := fun z => c_33 (Int32.toInt_inj.mp z)
                have z_2 : ¬ (r_136 : Int32).toInt = (0 : Int32).toInt := fun z => c_141 (Int32.toInt_inj.mp z)
                have z_3 := congrArg Int32.toInt c_182
                have z_4 := congrArg Int32.toInt c_334
                have y_0 : (0 : Int32).toInt = 0 := by decide
                omega
              obtain pf_335 := hm_332 hz_336
              have pf_335 : NPk (rB (Mf 1) (Mv 0)) ((sv_323 : Int32).toInt.toNat) (28530 : Int64).toInt := pf_335
              refine lv_iconst (v := 0) hx hb dX12_tested_53 (by decide) ?_
              refine lv_istore_n (lv' := [(1, .int 0), (0, .ref (Ma 0))]) hx hb dX12_tested_54 rfl hl (by decide) rfl (fun ls hl₀ => ?_)
              replace hl := hl₀
              clear hl₀
              refine lv_iload_n hx hb dX12_tested_55 rfl (lv_at hl 0 rfl) ?_
              refine lv_if_eq (tgt := 12) hx hb dX12_tested_56 (by decide) (fun c_337 => ?_) (fun c_337 => absurd c_337 (by decide))
              have hb_338 : 2 * (401 - (sv_323 : Int32).toInt) + (0 : Int32).toInt < 2 * (401 - (vy_11 : Int32).toInt) + (vy_20 : Int32).toInt ∧ 1 ≤ 2 * (401 - (vy_11 : Int32).toInt) + (vy_20 : Int32).toInt := by
                have z_1 : ¬ (vy_20 : Int32).toInt = (0 : Int32).toInt := fun z => c_33 (Int32.toInt_inj.mp z)
                have z_2 : ¬ (r_136 : Int32).toInt = (0 : Int32).toInt := fun z => c_141 (Int32.toInt_inj.mp z)
                have z_3 := congrArg Int32.toInt c_182
                have z_4 := congrArg Int32.toInt c_334
                have y_0 : (0 : Int32).toInt = 0 := by decide
                omega
              have ha_339 : 0 ≤ (sv_323 : Int32).toInt ∧ (sv_323 : Int32).toInt ≤ ((Mv 0) : Int32).toInt ∧ ((Mv 0) : Int32).toInt ≤ 400 := by
                have z_1 : ¬ (vy_20 : Int32).toInt = (0 : Int32).toInt := fun z => c_33 (Int32.toInt_inj.mp z)
                have z_2 : ¬ (r_136 : Int32).toInt = (0 : Int32).toInt := fun z => c_141 (Int32.toInt_inj.mp z)
                have z_3 := congrArg Int32.toInt c_182
                have z_4 := congrArg Int32.toInt c_334
                have y_0 : (0 : Int32).toInt = 0 := by decide
                omega
              have ha_340 : (Mv 2).toInt ≤ (sv_323 : Int32).toInt := by
                have z_1 : ¬ (vy_20 : Int32).toInt = (0 : Int32).toInt := fun z => c_33 (Int32.toInt_inj.mp z)
                have z_2 : ¬ (r_136 : Int32).toInt = (0 : Int32).toInt := fun z => c_141 (Int32.toInt_inj.mp z)
                have z_3 := congrArg Int32.toInt c_182
                have z_4 := congrArg Int32.toInt c_334
                have y_0 : (0 : Int32).toInt = 0 := by decide
                omega
              have ha_341 : 0 ≤ (0 : Int32).toInt ∧ (0 : Int32).toInt ≤ 1 := by
                have z_1 : ¬ (vy_20 : Int32).toInt = (0 : Int32).toInt := fun z => c_33 (Int32.toInt_inj.mp z)
                have z_2 : ¬ (r_136 : Int32).toInt = (0 : Int32).toInt := fun z => c_141 (Int32.toInt_inj.mp z)
                have z_3 := congrArg Int32.toInt c_182
                have z_4 := congrArg Int32.toInt c_334
                have y_0 : (0 : Int32).toInt = 0 := by decide
                omega
              have ha_342 : (Mv 6).toInt ≤ (sv_127 : Int32).toInt ∧ (sv_127 : Int32).toInt ≤ 60 := by
                have z_1 : ¬ (vy_20 : Int32).toInt = (0 : Int32).toInt := fun z => c_33 (Int32.toInt_inj.mp z)
                have z_2 : ¬ (r_136 : Int32).toInt = (0 : Int32).toInt := fun z => c_141 (Int32.toInt_inj.mp z)
                have z_3 := congrArg Int32.toInt c_182
                have z_4 := congrArg Int32.toInt c_334
                have y_0 : (0 : Int32).toInt = 0 := by decide
                omega
              have ha_343 : (sv_157 (Mv 5).toNatClampNeg).toInt + (sv_155 : Int32).toInt ≤ (sv_323 : Int32).toInt ∧ ((Mf 3) (Mv 5).toNatClampNeg).toInt ≤ (sv_157 (Mv 5).toNatClampNeg).toInt ∧ 0 ≤ (sv_155 : Int32).toInt ∧ (sv_155 : Int32).toInt ≤ 400 := by
                have z_1 : ¬ (vy_20 : Int32).toInt = (0 : Int32).toInt := fun z => c_33 (Int32.toInt_inj.mp z)
                have z_2 : ¬ (r_136 : Int32).toInt = (0 : Int32).toInt := fun z => c_141 (Int32.toInt_inj.mp z)
                have z_3 := congrArg Int32.toInt c_182
                have z_4 := congrArg Int32.toInt c_334
                have y_0 : (0 : Int32).toInt = 0 := by decide
                omega
              have hr_344 : (400 * ((Mv 5) : Int32).toInt + ((Mf 3) (Mv 5).toNatClampNeg).toInt) ≤ (400 * ((Mv 5) : Int32).toInt + ((Mf 3) (Mv 5).toNatClampNeg).toInt) := by
                have z_1 : ¬ (vy_20 : Int32).toInt = (0 : Int32).toInt := fun z => c_33 (Int32.toInt_inj.mp z)
                have z_2 : ¬ (r_136 : Int32).toInt = (0 : Int32).toInt := fun z => c_141 (Int32.toInt_inj.mp z)
                have z_3 := congrArg Int32.toInt c_182
                have z_4 := congrArg Int32.toInt c_334
                have y_0 : (0 : Int32).toInt = 0 := by decide
                omega
              have hr_345 : (400 * ((Mv 5) : Int32).toInt + ((Mf 3) (Mv 5).toNatClampNeg).toInt) ≤ (400 * ((Mv 5) : Int32).toInt + (vy_18 (Mv 5).toNatClampNeg).toInt) := by
                have z_1 : ¬ (vy_20 : Int32).toInt = (0 : Int32).toInt := fun z => c_33 (Int32.toInt_inj.mp z)
                have z_2 : ¬ (r_136 : Int32).toInt = (0 : Int32).toInt := fun z => c_141 (Int32.toInt_inj.mp z)
                have z_3 := congrArg Int32.toInt c_182
                have z_4 := congrArg Int32.toInt c_334
                have y_0 : (0 : Int32).toInt = 0 := by decide
                omega
              have hr_346 : (400 * ((Mv 5) : Int32).toInt + ((Mf 3) (Mv 5).toNatClampNeg).toInt) ≤ (400 * ((Mv 5) : Int32).toInt + (sv_131 (Mv 5).toNatClampNeg).toInt) := by
                have z_1 : ¬ (vy_20 : Int32).toInt = (0 : Int32).toInt := fun z => c_33 (Int32.toInt_inj.mp z)
                have z_2 : ¬ (r_136 : Int32).toInt = (0 : Int32).toInt := fun z => c_141 (Int32.toInt_inj.mp z)
                have z_3 := congrArg Int32.toInt c_182
                have z_4 := congrArg Int32.toInt c_334
                have y_0 : (0 : Int32).toInt = 0 := by decide
                omega
              have hr_347 : (0 : Int32).toInt = 0 := by
                have z_1 : ¬ (vy_20 : Int32).toInt = (0 : Int32).toInt := fun z => c_33 (Int32.toInt_inj.mp z)
                have z_2 : ¬ (r_136 : Int32).toInt = (0 : Int32).toInt := fun z => c_141 (Int32.toInt_inj.mp z)
                have z_3 := congrArg Int32.toInt c_182
                have z_4 := congrArg Int32.toInt c_334
                have y_0 : (0 : Int32).toInt = 0 := by decide
                omega
              have hw_348 : ¬ pz_wd (rB (Mf 1) (Mv 0)) (sv_172 : Int32).toInt.toNat pz_and = true := by
                have hq := pf_317
                rw [show (6385252 : Int64).toInt = pz_pl pz_and by decide] at hq
                exact fun z => hq ((PkW.wd (by decide) (by decide) (by decide)).mpr z)
              have hw_349 : ¬ pz_wd (rB (Mf 1) (Mv 0)) (sv_323 : Int32).toInt.toNat pz_or = true := by
                have hq := pf_335
                rw [show (28530 : Int64).toInt = pz_pl pz_or by decide] at hq
                exact fun z => hq ((PkW.wd (by decide) (by decide) (by decide)).mpr z)
              have hq_350 : sv_323 = sv_172 := SkR.eq pf_176 pf_327
              exact ih_22 sv_323 sv_125 sv_126 sv_127 sv_154 sv_155 sv_156 sv_157 sv_132 0 _ _ _ (by omega) ha_339 ha_340 ha_341 ha_342 ⟨fun h => absurd h (by decide), fun _ => pf_160⟩ ha_343 (Agr.trans (k' := (400 * ((Mv 5) : Int32).toInt + ((Mf 3) (Mv 5).toNatClampNeg).toInt)) (Agr.trans (k' := (400 * ((Mv 5) : Int32).toInt + ((Mf 3) (Mv 5).toNatClampNeg).toInt)) (Agr.mono pf_30 hr_344) pf_135 ⟨Int.le_refl _, hr_345⟩) pf_159 ⟨Int.le_refl _, hr_346⟩) (TsL.no pf_162 pf_164 (SkR.trans pf_176 pf_327) (hq_350.symm ▸ hw_348) hw_349 hr_347) (hP.sub [3, 4, 0, 1, 2] rfl) (hD.sub [3, 4, 0, 1, 2] rfl rfl) hS (lv_sub hl [0, 1] rfl)
            · skip
              have hz_353 : (r_328 : Int32).toInt = 1 := by
                have z_1 : ¬ (vy_20 : Int32).toInt = (0 : Int32).toInt := fun z => c_33 (Int32.toInt_inj.mp z)
                have z_2 : ¬ (r_136 : Int32).toInt = (0 : Int32).toInt := fun z => c_141 (Int32.toInt_inj.mp z)
                have z_3 := congrArg Int32.toInt c_182
                have z_4 : ¬ (r_328 : Int32).toInt = (0 : Int32).toInt := fun z => c_334 (Int32.toInt_inj.mp z)
                have y_0 : (0 : Int32).toInt = 0 := by decide
                omega
              obtain ⟨pf_351, pf_352⟩ := hm_331 hz_353
              have pf_351 : Ltr (Mf 1) (Mv 0) sv_323 := pf_351
              have ar_pf_351 := pf_351.1
              have at_pf_351 : 97 ≤ ((Mf 1) (sv_323 : Int32).toInt.toNat).toInt ∧ ((Mf 1) (sv_323 : Int32).toInt.toNat).toInt ≤ 122 := pf_351.2
              have pf_352 : PkW (rB (Mf 1) (Mv 0)) ((sv_323 : Int32).toInt.toNat) (28530 : Int64).toInt := pf_352
              refine lv_iconst (v := 1) hx hb dX12_tested_49 (by decide) ?_
              refine lv_goto (tgt := 54) hx hb dX12_tested_50 (by decide) ?_
              refine lv_istore_n (lv' := [(1, .int 1), (0, .ref (Ma 0))]) hx hb dX12_tested_54 rfl hl (by decide) rfl (fun ls hl₀ => ?_)
              replace hl := hl₀
              clear hl₀
              refine lv_iload_n hx hb dX12_tested_55 rfl (lv_at hl 0 rfl) ?_
              refine lv_if_eq (tgt := 12) hx hb dX12_tested_56 (by decide) (fun c_354 => absurd c_354 (by decide)) (fun c_354 => ?_)
              refine lv_aload_n hx hb dX12_tested_59 rfl (lv_at hl 1 rfl) ?_
              refine lv_ldc2 hx hb hown (hts _ k_1350) dX12_tested_60 ?_
              have ha_355 : 0 ≤ (sv_323 : Int32).toInt ∧ (sv_323 : Int32).toInt ≤ ((Mv 0) : Int32).toInt ∧ ((Mv 0) : Int32).toInt ≤ 400 := by
                have z_1 : ¬ (vy_20 : Int32).toInt = (0 : Int32).toInt := fun z => c_33 (Int32.toInt_inj.mp z)
                have z_2 : ¬ (r_136 : Int32).toInt = (0 : Int32).toInt := fun z => c_141 (Int32.toInt_inj.mp z)
                have z_3 := congrArg Int32.toInt c_182
                have z_4 : ¬ (r_328 : Int32).toInt = (0 : Int32).toInt := fun z => c_334 (Int32.toInt_inj.mp z)
                have y_0 : (0 : Int32).toInt = 0 := by decide
                omega
              refine cV (a := (Ma 0)) (As := [.long 6385252]) (rest := []) (wr := [((Ma 2), .inl (tc 0, 2400, .inl sv_156)), ((Ma 3), .inl (tc 0, 7, .inl sv_157)), ((Ma 7), .inl (tc 0, 400, .inl sv_132))]) ⟨hx, hb, hml, hown, hts⟩ hK hX hA (cu_fX12_isWord l D tc sk (Ma 0) (Ma 1) (Ma 2) (Ma 3) (Ma 4) (Ma 5) (Ma 6) (Ma 7) (Ma 8) (Ma 9) (Ma 10) (Ma 11) (Ma 12) (Ma 13) (Ma 14) (Ma 15) (Ma 16) (Ma 17) (Ma 18) (Ma 19) (Ma 20) (Mv 0) (Mv 1) sv_323 sv_125 sv_126 (Mv 5) sv_127 sv_154 (Mv 8) sv_155 (Mv 10) (Mv 11) (Mv 12) (Mv 13) (Mv 14) (Mf 1) (Mj 0) 6385252 ha_355 h_bs) k_1220 k_1217 k_1219 k_29 k_106 pl_X12_isWord ⟨Nat.le_of_ble_eq_true rfl, Nat.le_of_ble_eq_true rfl⟩ rfl rfl (va_recv hK hP (ci := 12) (q0 := 3) rfl rfl) hP hD hS [3, 4] [0, 1, 2] rfl rfl rfl rfl rfl (by decide) rfl hl.1 rfl (Nat.le_of_ble_eq_true rfl) dX12_tested_63 ⟨Nat.le_of_ble_eq_true rfl, Nat.le_of_ble_eq_true rfl⟩ (fun v_356 u_357 H locs hv_358 hP₀ hD₀ hS₀ => ?_)
              obtain ⟨sv_359, rfl⟩ : ∃ z, z = u_357 := ⟨_, rfl⟩
              obtain ⟨r_364, rfl, he_365, pf_360, pf_361, pf_362, pf_363, hm_367, hm_368⟩ := hv_358
              have he_365 : (r_364.toInt = 0 ∨ r_364.toInt = 1) := he_365
              have pf_360 : (sv_323 : Int32).toInt ≤ (sv_359 : Int32).toInt ∧ (sv_359 : Int32).toInt ≤ ((Mv 0) : Int32).toInt := pf_360
              have pf_361 : NSq (Mf 1) (Mv 0) sv_359 := pf_361
              have pf_362 : Stl (Mf 1) (Mv 0) sv_323 sv_359 := pf_362
              have pf_369 := Stl.ltr pf_362 pf_351
              have ar_pf_369 := pf_369.2
              have pf_370 : Ltr (Mf 1) (Mv 0) sv_359 := pf_369.1
              have ar_pf_362 := Stl.or pf_362 pf_325
              have pf_363 : SkR (rB (Mf 1) (Mv 0)) sv_323 sv_359 := pf_363
              refine W.eq (g2 := F0 m 66 ls [.int r_364]) rfl ?_
              replace hP : va_P D classes [((Ma 2), .inl (tc 0, 2400, .inl sv_156)), ((Ma 3), .inl (tc 0, 7, .inl sv_157)), ((Ma 7), .inl (tc 0, 400, .inl sv_132)), ((Ma 0), .inr (12, [.ref (Ma 1), .int (Mv 0), .int (Mv 1), .ref (Ma 2), .ref (Ma 3), .ref (Ma 4), .ref (Ma 5), .ref (Ma 6), .int sv_359, .int sv_125, .int sv_126, .int (Mv 5), .int sv_127, .int sv_154, .int (Mv 8), .ref (Ma 7), .int sv_155, .ref (Ma 8), .int (Mv 10), .ref (Ma 9), .ref (Ma 10), .int (Mv 11), .int (Mv 12), .int (Mv 13), .ref (Ma 11), .int (Mv 14), .ref (Ma 12), .ref (Ma 13), .ref (Ma 14), .ref (Ma 15), .ref (Ma 16), .long (Mj 0), .ref (Ma 17), .ref (Ma 18), .ref (Ma 19), .ref (Ma 20)])), ((Ma 1), .inl (tc 2, 400, .inl (Mf 1)))] H := hP₀
              replace hD : va_D A [((Ma 2), .inl (tc 0, 2400, .inl sv_156)), ((Ma 3), .inl (tc 0, 7, .inl sv_157)), ((Ma 7), .inl (tc 0, 400, .inl sv_132)), ((Ma 0), .inr (12, [.ref (Ma 1), .int (Mv 0), .int (Mv 1), .ref (Ma 2), .ref (Ma 3), .ref (Ma 4), .ref (Ma 5), .ref (Ma 6), .int sv_359, .int sv_125, .int sv_126, .int (Mv 5), .int sv_127, .int sv_154, .int (Mv 8), .ref (Ma 7), .int sv_155, .ref (Ma 8), .int (Mv 10), .ref (Ma 9), .ref (Ma 10), .int (Mv 11), .int (Mv 12), .int (Mv 13), .ref (Ma 11), .int (Mv 14), .ref (Ma 12), .ref (Ma 13), .ref (Ma 14), .ref (Ma 15), .ref (Ma 16), .long (Mj 0), .ref (Ma 17), .ref (Ma 18), .ref (Ma 19), .ref (Ma 20)])), ((Ma 1), .inl (tc 2, 400, .inl (Mf 1)))] := hD₀
              replace hS := hS₀
              clear hP₀ hD₀ hS₀
              have hE_371 := SkR.eqB pf_327 pf_363
              refine lv_if_eq (tgt := 74) hx hb dX12_tested_66 (by decide) (fun c_372 => ?_) (fun c_372 => ?_)
              · skip
                have hz_374 : (r_364 : Int32).toInt = 0 := by
                  have z_1 : ¬ (vy_20 : Int32).toInt = (0 : Int32).toInt := fun z => c_33 (Int32.toInt_inj.mp z)
                  have z_2 : ¬ (r_136 : Int32).toInt = (0 : Int32).toInt := fun z => c_141 (Int32.toInt_inj.mp z)
                  have z_3 := congrArg Int32.toInt c_182
                  have z_4 : ¬ (r_328 : Int32).toInt = (0 : Int32).toInt := fun z => c_334 (Int32.toInt_inj.mp z)
                  have z_5 := congrArg Int32.toInt c_372
                  have y_0 : (0 : Int32).toInt = 0 := by decide
                  omega
                obtain pf_373 := hm_368 hz_374
                have pf_373 : NPk (rB (Mf 1) (Mv 0)) ((sv_359 : Int32).toInt.toNat) (6385252 : Int64).toInt := pf_373
                refine lv_bipush (v := 13) hx hb dX12_tested_74 (by decide) ?_
                refine lv_istore_n (lv' := [(2, .int 13), (1, .int 1), (0, .ref (Ma 0))]) hx hb dX12_tested_76 rfl hl (by decide) rfl (fun ls hl₀ => ?_)
                replace hl := hl₀
                clear hl₀
                refine lv_aload_n hx hb dX12_tested_77 rfl (lv_at hl 2 rfl) ?_
                have ha_375 : 0 ≤ (sv_359 : Int32).toInt ∧ (sv_359 : Int32).toInt ≤ ((Mv 0) : Int32).toInt ∧ ((Mv 0) : Int32).toInt ≤ 400 := by
                  have z_1 : ¬ (vy_20 : Int32).toInt = (0 : Int32).toInt := fun z => c_33 (Int32.toInt_inj.mp z)
                  have z_2 : ¬ (r_136 : Int32).toInt = (0 : Int32).toInt := fun z => c_141 (Int32.toInt_inj.mp z)
                  have z_3 := congrArg Int32.toInt c_182
                  have z_4 : ¬ (r_328 : Int32).toInt = (0 : Int32).toInt := fun z => c_334 (Int32.toInt_inj.mp z)
                  have z_5 := congrArg Int32.toInt c_372
                  have y_0 : (0 : Int32).toInt = 0 := by decide
                  omega
                refine cV (a := (Ma 0)) (As := []) (rest := []) (wr := [((Ma 2), .inl (tc 0, 2400, .inl sv_156)), ((Ma 3), .inl (tc 0, 7, .inl sv_157)), ((Ma 7), .inl (tc 0, 400, .inl sv_132))]) ⟨hx, hb, hml, hown, hts⟩ hK hX hA (cu_fX12_passWord l D tc sk (Ma 0) (Ma 1) (Ma 2) (Ma 3) (Ma 4) (Ma 5) (Ma 6) (Ma 7) (Ma 8) (Ma 9) (Ma 10) (Ma 11) (Ma 12) (Ma 13) (Ma 14) (Ma 15) (Ma 16) (Ma 17) (Ma 18) (Ma 19) (Ma 20) (Mv 0) (Mv 1) sv_359 sv_125 sv_126 (Mv 5) sv_127 sv_154 (Mv 8) sv_155 (Mv 10) (Mv 11) (Mv 12) (Mv 13) (Mv 14) (Mf 1) (Mj 0) ha_375 h_bs) k_1244 k_1241 k_1243 k_34 k_106 pl_X12_passWord ⟨Nat.le_of_ble_eq_true rfl, Nat.le_of_ble_eq_true rfl⟩ rfl rfl (va_recv hK hP (ci := 12) (q0 := 3) rfl rfl) hP hD hS [3, 4] [0, 1, 2] rfl rfl rfl rfl rfl (by decide) rfl hl.1 rfl (Nat.le_of_ble_eq_true rfl) dX12_tested_78 ⟨Nat.le_of_ble_eq_true rfl, Nat.le_of_ble_eq_true rfl⟩ (fun v_376 u_377 H locs hv_378 hP₀ hD₀ hS₀ => ?_)
                obtain ⟨sv_379, rfl⟩ : ∃ z, z = u_377 := ⟨_, rfl⟩
                obtain ⟨rfl, pf_380, pf_381, pf_382⟩ := hv_378
                have pf_380 : (sv_359 : Int32).toInt ≤ (sv_379 : Int32).toInt ∧ (sv_379 : Int32).toInt ≤ ((Mv 0) : Int32).toInt := pf_380
                have pf_381 : Pw (Mf 1) (Mv 0) sv_359 sv_379 := pf_381
                have ar_pf_381 := pf_381 pf_370
                have pf_382 : PsR (rB (Mf 1) (Mv 0)) sv_359 sv_379 := pf_382
                refine W.eq (g2 := F0 m 81 ls []) rfl ?_
                replace hP : va_P D classes [((Ma 2), .inl (tc 0, 2400, .inl sv_156)), ((Ma 3), .inl (tc 0, 7, .inl sv_157)), ((Ma 7), .inl (tc 0, 400, .inl sv_132)), ((Ma 0), .inr (12, [.ref (Ma 1), .int (Mv 0), .int (Mv 1), .ref (Ma 2), .ref (Ma 3), .ref (Ma 4), .ref (Ma 5), .ref (Ma 6), .int sv_379, .int sv_125, .int sv_126, .int (Mv 5), .int sv_127, .int sv_154, .int (Mv 8), .ref (Ma 7), .int sv_155, .ref (Ma 8), .int (Mv 10), .ref (Ma 9), .ref (Ma 10), .int (Mv 11), .int (Mv 12), .int (Mv 13), .ref (Ma 11), .int (Mv 14), .ref (Ma 12), .ref (Ma 13), .ref (Ma 14), .ref (Ma 15), .ref (Ma 16), .long (Mj 0), .ref (Ma 17), .ref (Ma 18), .ref (Ma 19), .ref (Ma 20)])), ((Ma 1), .inl (tc 2, 400, .inl (Mf 1)))] H := hP₀
                replace hD : va_D A [((Ma 2), .inl (tc 0, 2400, .inl sv_156)), ((Ma 3), .inl (tc 0, 7, .inl sv_157)), ((Ma 7), .inl (tc 0, 400, .inl sv_132)), ((Ma 0), .inr (12, [.ref (Ma 1), .int (Mv 0), .int (Mv 1), .ref (Ma 2), .ref (Ma 3), .ref (Ma 4), .ref (Ma 5), .ref (Ma 6), .int sv_379, .int sv_125, .int sv_126, .int (Mv 5), .int sv_127, .int sv_154, .int (Mv 8), .ref (Ma 7), .int sv_155, .ref (Ma 8), .int (Mv 10), .ref (Ma 9), .ref (Ma 10), .int (Mv 11), .int (Mv 12), .int (Mv 13), .ref (Ma 11), .int (Mv 14), .ref (Ma 12), .ref (Ma 13), .ref (Ma 14), .ref (Ma 15), .ref (Ma 16), .long (Mj 0), .ref (Ma 17), .ref (Ma 18), .ref (Ma 19), .ref (Ma 20)])), ((Ma 1), .inl (tc 2, 400, .inl (Mf 1)))] := hD₀
                replace hS := hS₀
                clear hP₀ hD₀ hS₀
                refine lv_aload_n hx hb dX12_tested_81 rfl (lv_at hl 2 rfl) ?_
                refine lv_iload_n hx hb dX12_tested_82 rfl (lv_at hl 0 rfl) ?_
                refine cS (As := [.int 13]) (rest := [.ref (Ma 0)]) (wr := [((Ma 2), .inl (tc 0, 2400, .inl sv_156)), ((Ma 3), .inl (tc 0, 7, .inl sv_157)), ((Ma 7), .inl (tc 0, 400, .inl sv_132)), ((Ma 0), .inr (12, [.ref (Ma 1), .int (Mv 0), .int (Mv 1), .ref (Ma 2), .ref (Ma 3), .ref (Ma 4), .ref (Ma 5), .ref (Ma 6), .int sv_379, .int sv_125, .int sv_126, .int (Mv 5), .int sv_127, .int sv_154, .int (Mv 8), .ref (Ma 7), .int sv_155, .ref (Ma 8), .int (Mv 10), .ref (Ma 9), .ref (Ma 10), .int (Mv 11), .int (Mv 12), .int (Mv 13), .ref (Ma 11), .int (Mv 14), .ref (Ma 12), .ref (Ma 13), .ref (Ma 14), .ref (Ma 15), .ref (Ma 16), .long (Mj 0), .ref (Ma 17), .ref (Ma 18), .ref (Ma 19), .ref (Ma 20)])), ((Ma 1), .inl (tc 2, 400, .inl (Mf 1)))]) ⟨hx, hb, hml, hown, hts⟩ hK hX hA (ct_X12_strength l D tc sk 13) k_1345 k_1343 k_1344 k_106 pl_X12_strength ⟨Nat.le_of_ble_eq_true rfl, Nat.le_of_ble_eq_true rfl⟩ rfl rfl  hP hD hS [] [0, 1, 2, 3, 4] rfl rfl rfl rfl rfl (by decide) rfl hl.1 rfl (Nat.le_of_ble_eq_true rfl) dX12_tested_83 ⟨Nat.le_of_ble_eq_true rfl, Nat.le_of_ble_eq_true rfl⟩ (fun v_383 u_384 H locs hv_385 hP₀ hD₀ hS₀ => ?_)
                obtain ⟨r_386, rfl, he_387⟩ := hv_385
                have he_387 : (((13 : Int32).toInt = 13 ∧ r_386.toInt = 1) ∨ ((13 : Int32).toInt = 12 ∧ r_386.toInt = 2) ∨ ((13 : Int32).toInt = 11 ∧ r_386.toInt = 3) ∨ ((13 : Int32).toInt ≠ 13 ∧ (13 : Int32).toInt ≠ 12 ∧ (13 : Int32).toInt ≠ 11 ∧ r_386.toInt = 0)) := he_387
                refine W.eq (g2 := F0 m 86 ls [.int r_386, .ref (Ma 0)]) rfl ?_
                replace hP : va_P D classes [((Ma 2), .inl (tc 0, 2400, .inl sv_156)), ((Ma 3), .inl (tc 0, 7, .inl sv_157)), ((Ma 7), .inl (tc 0, 400, .inl sv_132)), ((Ma 0), .inr (12, [.ref (Ma 1), .int (Mv 0), .int (Mv 1), .ref (Ma 2), .ref (Ma 3), .ref (Ma 4), .ref (Ma 5), .ref (Ma 6), .int sv_379, .int sv_125, .int sv_126, .int (Mv 5), .int sv_127, .int sv_154, .int (Mv 8), .ref (Ma 7), .int sv_155, .ref (Ma 8), .int (Mv 10), .ref (Ma 9), .ref (Ma 10), .int (Mv 11), .int (Mv 12), .int (Mv 13), .ref (Ma 11), .int (Mv 14), .ref (Ma 12), .ref (Ma 13), .ref (Ma 14), .ref (Ma 15), .ref (Ma 16), .long (Mj 0), .ref (Ma 17), .ref (Ma 18), .ref (Ma 19), .ref (Ma 20)])), ((Ma 1), .inl (tc 2, 400, .inl (Mf 1)))] H := hP₀
                replace hD : va_D A [((Ma 2), .inl (tc 0, 2400, .inl sv_156)), ((Ma 3), .inl (tc 0, 7, .inl sv_157)), ((Ma 7), .inl (tc 0, 400, .inl sv_132)), ((Ma 0), .inr (12, [.ref (Ma 1), .int (Mv 0), .int (Mv 1), .ref (Ma 2), .ref (Ma 3), .ref (Ma 4), .ref (Ma 5), .ref (Ma 6), .int sv_379, .int sv_125, .int sv_126, .int (Mv 5), .int sv_127, .int sv_154, .int (Mv 8), .ref (Ma 7), .int sv_155, .ref (Ma 8), .int (Mv 10), .ref (Ma 9), .ref (Ma 10), .int (Mv 11), .int (Mv 12), .int (Mv 13), .ref (Ma 11), .int (Mv 14), .ref (Ma 12), .ref (Ma 13), .ref (Ma 14), .ref (Ma 15), .ref (Ma 16), .long (Mj 0), .ref (Ma 17), .ref (Ma 18), .ref (Ma 19), .ref (Ma 20)])), ((Ma 1), .inl (tc 2, 400, .inl (Mf 1)))] := hD₀
                replace hS := hS₀
                clear hP₀ hD₀ hS₀
                have yy_388 : (13 : Int32).toInt = 13 := by decide
                have ha_389 : 1 ≤ r_386.toInt ∧ r_386.toInt ≤ 3 := by
                  have z_1 : ¬ (vy_20 : Int32).toInt = (0 : Int32).toInt := fun z => c_33 (Int32.toInt_inj.mp z)
                  have z_2 : ¬ (r_136 : Int32).toInt = (0 : Int32).toInt := fun z => c_141 (Int32.toInt_inj.mp z)
                  have z_3 := congrArg Int32.toInt c_182
                  have z_4 : ¬ (r_328 : Int32).toInt = (0 : Int32).toInt := fun z => c_334 (Int32.toInt_inj.mp z)
                  have z_5 := congrArg Int32.toInt c_372
                  have y_0 : (0 : Int32).toInt = 0 := by decide
                  omega
                have ha_390 : (sv_157 (Mv 5).toNatClampNeg).toInt + (sv_155 : Int32).toInt ≤ 400 := by
                  have z_1 : ¬ (vy_20 : Int32).toInt = (0 : Int32).toInt := fun z => c_33 (Int32.toInt_inj.mp z)
                  have z_2 : ¬ (r_136 : Int32).toInt = (0 : Int32).toInt := fun z => c_141 (Int32.toInt_inj.mp z)
                  have z_3 := congrArg Int32.toInt c_182
                  have z_4 : ¬ (r_328 : Int32).toInt = (0 : Int32).toInt := fun z => c_334 (Int32.toInt_inj.mp z)
                  have z_5 := congrArg Int32.toInt c_372
                  have y_0 : (0 : Int32).toInt = 0 := by decide
                  omega
                refine cV (a := (Ma 0)) (As := [.int r_386]) (rest := []) (wr := [((Ma 1), .inl (tc 2, 400, .inl (Mf 1)))]) ⟨hx, hb, hml, hown, hts⟩ hK hX hA (cu_fX12_layDown l D tc sk (Ma 0) (Ma 1) (Ma 2) (Ma 3) (Ma 4) (Ma 5) (Ma 6) (Ma 7) (Ma 8) (Ma 9) (Ma 10) (Ma 11) (Ma 12) (Ma 13) (Ma 14) (Ma 15) (Ma 16) (Ma 17) (Ma 18) (Ma 19) (Ma 20) (Mv 0) (Mv 1) sv_379 sv_125 sv_126 (Mv 5) sv_127 sv_154 (Mv 8) sv_155 (Mv 10) (Mv 11) (Mv 12) (Mv 13) (Mv 14) sv_156 sv_157 sv_132 (Mj 0) r_386 b pf_160 ha_389 ha_390 pf_162.1) k_1342 k_1339 k_1341 k_54 k_106 pl_X12_layDown ⟨Nat.le_of_ble_eq_true rfl, Nat.le_of_ble_eq_true rfl⟩ rfl rfl (va_recv hK hP (ci := 12) (q0 := 3) rfl rfl) hP hD hS [3, 0, 1, 2] [4] rfl rfl rfl rfl rfl (by decide) rfl hl.1 rfl (Nat.le_of_ble_eq_true rfl) dX12_tested_86 ⟨Nat.le_of_ble_eq_true rfl, Nat.le_of_ble_eq_true rfl⟩ (fun v_391 u_392 H locs hv_393 hP₀ hD₀ hS₀ => ?_)
                obtain ⟨sv_394, sv_395, sv_396, sv_397⟩ := u_392
                obtain ⟨rfl, pf_398, pf_399, pf_400, pf_401, pf_402, pf_403, pf_404⟩ := hv_393
                have pf_398 : LSR sv_132 sv_395 sv_396 sv_397 (Mv 5) b sv_127 := pf_398
                obtain ⟨pn_405, pf_406, pf_407⟩ := id pf_398
                have ar_pf_398 := LSR.ar pf_398
                have ar_pf_407 := Cd.ar pf_407
                have pf_399 : (sv_397 (Mv 5).toNatClampNeg).toInt + (sv_395 : Int32).toInt = (sv_157 (Mv 5).toNatClampNeg).toInt + (sv_155 : Int32).toInt ∧ 0 ≤ (sv_395 : Int32).toInt ∧ (sv_395 : Int32).toInt ≤ (sv_155 : Int32).toInt := pf_399
                have pf_400 : Agr sv_156 sv_396 (400 * ((Mv 5) : Int32).toInt + (sv_157 (Mv 5).toNatClampNeg).toInt) := pf_400
                have pf_401 : LdE sv_132 sv_395 r_386 := pf_401
                have pf_402 : InK sv_132 sv_155 sv_395 := pf_402
                have pf_403 : LdP sv_132 sv_155 sv_395 sv_394 := pf_403
                have ar_pf_403 := OsP.ar pf_403.1
                have pf_404 : T11 sv_132 sv_395 := pf_404
                refine W.eq (g2 := F0 m 89 ls []) rfl ?_
                replace hP : va_P D classes [((Ma 1), .inl (tc 2, 400, .inl (Mf 1))), ((Ma 0), .inr (12, [.ref (Ma 1), .int (Mv 0), .int (Mv 1), .ref (Ma 2), .ref (Ma 3), .ref (Ma 4), .ref (Ma 5), .ref (Ma 6), .int sv_379, .int sv_125, .int sv_126, .int (Mv 5), .int sv_127, .int sv_394, .int (Mv 8), .ref (Ma 7), .int sv_395, .ref (Ma 8), .int (Mv 10), .ref (Ma 9), .ref (Ma 10), .int (Mv 11), .int (Mv 12), .int (Mv 13), .ref (Ma 11), .int (Mv 14), .ref (Ma 12), .ref (Ma 13), .ref (Ma 14), .ref (Ma 15), .ref (Ma 16), .long (Mj 0), .ref (Ma 17), .ref (Ma 18), .ref (Ma 19), .ref (Ma 20)])), ((Ma 2), .inl (tc 0, 2400, .inl sv_396)), ((Ma 3), .inl (tc 0, 7, .inl sv_397)), ((Ma 7), .inl (tc 0, 400, .inl sv_132))] H := hP₀
                replace hD : va_D A [((Ma 1), .inl (tc 2, 400, .inl (Mf 1))), ((Ma 0), .inr (12, [.ref (Ma 1), .int (Mv 0), .int (Mv 1), .ref (Ma 2), .ref (Ma 3), .ref (Ma 4), .ref (Ma 5), .ref (Ma 6), .int sv_379, .int sv_125, .int sv_126, .int (Mv 5), .int sv_127, .int sv_394, .int (Mv 8), .ref (Ma 7), .int sv_395, .ref (Ma 8), .int (Mv 10), .ref (Ma 9), .ref (Ma 10), .int (Mv 11), .int (Mv 12), .int (Mv 13), .ref (Ma 11), .int (Mv 14), .ref (Ma 12), .ref (Ma 13), .ref (Ma 14), .ref (Ma 15), .ref (Ma 16), .long (Mj 0), .ref (Ma 17), .ref (Ma 18), .ref (Ma 19), .ref (Ma 20)])), ((Ma 2), .inl (tc 0, 2400, .inl sv_396)), ((Ma 3), .inl (tc 0, 7, .inl sv_397)), ((Ma 7), .inl (tc 0, 400, .inl sv_132))] := hD₀
                replace hS := hS₀
                clear hP₀ hD₀ hS₀
                refine lv_aload_n hx hb dX12_tested_89 rfl (lv_at hl 2 rfl) ?_
                refine gf_X12_29 hx hb hts hown hK hP 1 rfl rfl dX12_tested_90 ?_
                refine lv_aload_n hx hb dX12_tested_93 rfl (lv_at hl 2 rfl) ?_
                refine gf_X12_154 hx hb hts hown hK hP 1 rfl rfl dX12_tested_94 ?_
                refine lv_iload_n hx hb dX12_tested_97 rfl (lv_at hl 0 rfl) ?_
                have hi_408 : vp_in sv_395 400 := by
                  have z_1 : ¬ (vy_20 : Int32).toInt = (0 : Int32).toInt := fun z => c_33 (Int32.toInt_inj.mp z)
                  have z_2 : ¬ (r_136 : Int32).toInt = (0 : Int32).toInt := fun z => c_141 (Int32.toInt_inj.mp z)
                  have z_3 := congrArg Int32.toInt c_182
                  have z_4 : ¬ (r_328 : Int32).toInt = (0 : Int32).toInt := fun z => c_334 (Int32.toInt_inj.mp z)
                  have z_5 := congrArg Int32.toInt c_372
                  have y_0 : (0 : Int32).toInt = 0 := by decide
                  refine vp_in_iff.mpr ⟨?_, ?_⟩ <;> omega
                refine st_int hx hb hK hP hD hS 4 0 rfl rfl hi_408 dX12_tested_98 (fun g_409 H locs eg_409 hP₀ hD₀ hS₀ => ?_)
                replace hP : va_P D classes [((Ma 1), .inl (tc 2, 400, .inl (Mf 1))), ((Ma 0), .inr (12, [.ref (Ma 1), .int (Mv 0), .int (Mv 1), .ref (Ma 2), .ref (Ma 3), .ref (Ma 4), .ref (Ma 5), .ref (Ma 6), .int sv_379, .int sv_125, .int sv_126, .int (Mv 5), .int sv_127, .int sv_394, .int (Mv 8), .ref (Ma 7), .int sv_395, .ref (Ma 8), .int (Mv 10), .ref (Ma 9), .ref (Ma 10), .int (Mv 11), .int (Mv 12), .int (Mv 13), .ref (Ma 11), .int (Mv 14), .ref (Ma 12), .ref (Ma 13), .ref (Ma 14), .ref (Ma 15), .ref (Ma 16), .long (Mj 0), .ref (Ma 17), .ref (Ma 18), .ref (Ma 19), .ref (Ma 20)])), ((Ma 2), .inl (tc 0, 2400, .inl sv_396)), ((Ma 3), .inl (tc 0, 7, .inl sv_397)), ((Ma 7), .inl (tc 0, 400, .inl g_409))] H := hP₀
                replace hD : va_D A [((Ma 1), .inl (tc 2, 400, .inl (Mf 1))), ((Ma 0), .inr (12, [.ref (Ma 1), .int (Mv 0), .int (Mv 1), .ref (Ma 2), .ref (Ma 3), .ref (Ma 4), .ref (Ma 5), .ref (Ma 6), .int sv_379, .int sv_125, .int sv_126, .int (Mv 5), .int sv_127, .int sv_394, .int (Mv 8), .ref (Ma 7), .int sv_395, .ref (Ma 8), .int (Mv 10), .ref (Ma 9), .ref (Ma 10), .int (Mv 11), .int (Mv 12), .int (Mv 13), .ref (Ma 11), .int (Mv 14), .ref (Ma 12), .ref (Ma 13), .ref (Ma 14), .ref (Ma 15), .ref (Ma 16), .long (Mj 0), .ref (Ma 17), .ref (Ma 18), .ref (Ma 19), .ref (Ma 20)])), ((Ma 2), .inl (tc 0, 2400, .inl sv_396)), ((Ma 3), .inl (tc 0, 7, .inl sv_397)), ((Ma 7), .inl (tc 0, 400, .inl g_409))] := hD₀
                replace hS := hS₀
                clear hP₀ hD₀ hS₀
                refine lv_aload_n hx hb dX12_tested_99 rfl (lv_at hl 2 rfl) ?_
                refine lv_dup hx hb dX12_tested_100 rfl ?_
                refine gf_X12_154 hx hb hts hown hK hP 1 rfl rfl dX12_tested_101 ?_
                refine lv_iconst (v := 1) hx hb dX12_tested_104 (by decide) ?_
                refine lv_iadd hx hb dX12_tested_105 ?_
                refine lv_topi (fun x_410 ex_410 => ?_)
                refine pf_X12_154 hx hb hts hown hK hP hD hS 1 rfl (Nat.le_of_ble_eq_true rfl) rfl rfl dX12_tested_106 (fun H locs hP₀ hD₀ hS₀ => ?_)
                replace hP : va_P D classes [((Ma 1), .inl (tc 2, 400, .inl (Mf 1))), ((Ma 0), .inr (12, [.ref (Ma 1), .int (Mv 0), .int (Mv 1), .ref (Ma 2), .ref (Ma 3), .ref (Ma 4), .ref (Ma 5), .ref (Ma 6), .int sv_379, .int sv_125, .int sv_126, .int (Mv 5), .int sv_127, .int sv_394, .int (Mv 8), .ref (Ma 7), .int x_410, .ref (Ma 8), .int (Mv 10), .ref (Ma 9), .ref (Ma 10), .int (Mv 11), .int (Mv 12), .int (Mv 13), .ref (Ma 11), .int (Mv 14), .ref (Ma 12), .ref (Ma 13), .ref (Ma 14), .ref (Ma 15), .ref (Ma 16), .long (Mj 0), .ref (Ma 17), .ref (Ma 18), .ref (Ma 19), .ref (Ma 20)])), ((Ma 2), .inl (tc 0, 2400, .inl sv_396)), ((Ma 3), .inl (tc 0, 7, .inl sv_397)), ((Ma 7), .inl (tc 0, 400, .inl g_409))] H := hP₀
                replace hD : va_D A [((Ma 1), .inl (tc 2, 400, .inl (Mf 1))), ((Ma 0), .inr (12, [.ref (Ma 1), .int (Mv 0), .int (Mv 1), .ref (Ma 2), .ref (Ma 3), .ref (Ma 4), .ref (Ma 5), .ref (Ma 6), .int sv_379, .int sv_125, .int sv_126, .int (Mv 5), .int sv_127, .int sv_394, .int (Mv 8), .ref (Ma 7), .int x_410, .ref (Ma 8), .int (Mv 10), .ref (Ma 9), .ref (Ma 10), .int (Mv 11), .int (Mv 12), .int (Mv 13), .ref (Ma 11), .int (Mv 14), .ref (Ma 12), .ref (Ma 13), .ref (Ma 14), .ref (Ma 15), .ref (Ma 16), .long (Mj 0), .ref (Ma 17), .ref (Ma 18), .ref (Ma 19), .ref (Ma 20)])), ((Ma 2), .inl (tc 0, 2400, .inl sv_396)), ((Ma 3), .inl (tc 0, 7, .inl sv_397)), ((Ma 7), .inl (tc 0, 400, .inl g_409))] := hD₀
                replace hS := hS₀
                clear hP₀ hD₀ hS₀
                have tp_x_410 : (x_410 : Int32).toInt = (sv_395 : Int32).toInt + 1 := by
                  have z_1 : ¬ (vy_20 : Int32).toInt = (0 : Int32).toInt := fun z => c_33 (Int32.toInt_inj.mp z)
                  have z_2 : ¬ (r_136 : Int32).toInt = (0 : Int32).toInt := fun z => c_141 (Int32.toInt_inj.mp z)
                  have z_3 := congrArg Int32.toInt c_182
                  have z_4 : ¬ (r_328 : Int32).toInt = (0 : Int32).toInt := fun z => c_334 (Int32.toInt_inj.mp z)
                  have z_5 := congrArg Int32.toInt c_372
                  have y_0 : (0 : Int32).toInt = 0 := by decide
                  have y_1 : (1 : Int32).toInt = 1 := by decide
                  have t_x_410 : x_410.toInt = (sv_395 : Int32).toInt + (1 : Int32).toInt := by rw [ex_410]; exact add_toInt (by omega) (by omega)
                  omega
                refine lv_goto (tgt := 12) hx hb dX12_tested_109 (by decide) ?_
                have hb_411 : 2 * (401 - (sv_379 : Int32).toInt) + (1 : Int32).toInt < 2 * (401 - (vy_11 : Int32).toInt) + (vy_20 : Int32).toInt ∧ 1 ≤ 2 * (401 - (vy_11 : Int32).toInt) + (vy_20 : Int32).toInt := by
                  have z_1 : ¬ (vy_20 : Int32).toInt = (0 : Int32).toInt := fun z => c_33 (Int32.toInt_inj.mp z)
                  have z_2 : ¬ (r_136 : Int32).toInt = (0 : Int32).toInt := fun z => c_141 (Int32.toInt_inj.mp z)
                  have z_3 := congrArg Int32.toInt c_182
                  have z_4 : ¬ (r_328 : Int32).toInt = (0 : Int32).toInt := fun z => c_334 (Int32.toInt_inj.mp z)
                  have z_5 := congrArg Int32.toInt c_372
                  have y_0 : (0 : Int32).toInt = 0 := by decide
                  have y_1 : (1 : Int32).toInt = 1 := by decide
                  omega
                have ha_412 : 0 ≤ (sv_379 : Int32).toInt ∧ (sv_379 : Int32).toInt ≤ ((Mv 0) : Int32).toInt ∧ ((Mv 0) : Int32).toInt ≤ 400 := by
                  have z_1 : ¬ (vy_20 : Int32).toInt = (0 : Int32).toInt := fun z => c_33 (Int32.toInt_inj.mp z)
                  have z_2 : ¬ (r_136 : Int32).toInt = (0 : Int32).toInt := fun z => c_141 (Int32.toInt_inj.mp z)
                  have z_3 := congrArg Int32.toInt c_182
                  have z_4 : ¬ (r_328 : Int32).toInt = (0 : Int32).toInt := fun z => c_334 (Int32.toInt_inj.mp z)
                  have z_5 := congrArg Int32.toInt c_372
                  have y_0 : (0 : Int32).toInt = 0 := by decide
                  omega
                have ha_413 : (Mv 2).toInt ≤ (sv_379 : Int32).toInt := by
                  have z_1 : ¬ (vy_20 : Int32).toInt = (0 : Int32).toInt := fun z => c_33 (Int32.toInt_inj.mp z)
                  have z_2 : ¬ (r_136 : Int32).toInt = (0 : Int32).toInt := fun z => c_141 (Int32.toInt_inj.mp z)
                  have z_3 := congrArg Int32.toInt c_182
                  have z_4 : ¬ (r_328 : Int32).toInt = (0 : Int32).toInt := fun z => c_334 (Int32.toInt_inj.mp z)
                  have z_5 := congrArg Int32.toInt c_372
                  have y_0 : (0 : Int32).toInt = 0 := by decide
                  omega
                have ha_414 : 0 ≤ (1 : Int32).toInt ∧ (1 : Int32).toInt ≤ 1 := by
                  have z_1 : ¬ (vy_20 : Int32).toInt = (0 : Int32).toInt := fun z => c_33 (Int32.toInt_inj.mp z)
                  have z_2 : ¬ (r_136 : Int32).toInt = (0 : Int32).toInt := fun z => c_141 (Int32.toInt_inj.mp z)
                  have z_3 := congrArg Int32.toInt c_182
                  have z_4 : ¬ (r_328 : Int32).toInt = (0 : Int32).toInt := fun z => c_334 (Int32.toInt_inj.mp z)
                  have z_5 := congrArg Int32.toInt c_372
                  have y_0 : (0 : Int32).toInt = 0 := by decide
                  have y_1 : (1 : Int32).toInt = 1 := by decide
                  omega
                have ha_415 : (Mv 6).toInt ≤ (sv_127 : Int32).toInt ∧ (sv_127 : Int32).toInt ≤ 60 := by
                  have z_1 : ¬ (vy_20 : Int32).toInt = (0 : Int32).toInt := fun z => c_33 (Int32.toInt_inj.mp z)
                  have z_2 : ¬ (r_136 : Int32).toInt = (0 : Int32).toInt := fun z => c_141 (Int32.toInt_inj.mp z)
                  have z_3 := congrArg Int32.toInt c_182
                  have z_4 : ¬ (r_328 : Int32).toInt = (0 : Int32).toInt := fun z => c_334 (Int32.toInt_inj.mp z)
                  have z_5 := congrArg Int32.toInt c_372
                  have y_0 : (0 : Int32).toInt = 0 := by decide
                  omega
                have hi_416 : (x_410 : Int32).toInt = (sv_395 : Int32).toInt + 1 := by
                  have z_1 : ¬ (vy_20 : Int32).toInt = (0 : Int32).toInt := fun z => c_33 (Int32.toInt_inj.mp z)
                  have z_2 : ¬ (r_136 : Int32).toInt = (0 : Int32).toInt := fun z => c_141 (Int32.toInt_inj.mp z)
                  have z_3 := congrArg Int32.toInt c_182
                  have z_4 : ¬ (r_328 : Int32).toInt = (0 : Int32).toInt := fun z => c_334 (Int32.toInt_inj.mp z)
                  have z_5 := congrArg Int32.toInt c_372
                  have y_0 : (0 : Int32).toInt = 0 := by decide
                  have y_1 : (1 : Int32).toInt = 1 := by decide
                  have t_x_410 : x_410.toInt = (sv_395 : Int32).toInt + (1 : Int32).toInt := by rw [ex_410]; exact add_toInt (by omega) (by omega)
                  omega
                have hr_417 : (sv_395 : Int32).toInt < 400 := by
                  have z_1 : ¬ (vy_20 : Int32).toInt = (0 : Int32).toInt := fun z => c_33 (Int32.toInt_inj.mp z)
                  have z_2 : ¬ (r_136 : Int32).toInt = (0 : Int32).toInt := fun z => c_141 (Int32.toInt_inj.mp z)
                  have z_3 := congrArg Int32.toInt c_182
                  have z_4 : ¬ (r_328 : Int32).toInt = (0 : Int32).toInt := fun z => c_334 (Int32.toInt_inj.mp z)
                  have z_5 := congrArg Int32.toInt c_372
                  have y_0 : (0 : Int32).toInt = 0 := by decide
                  omega
                have hr_418 : (13 : Int32).toInt = 12 ∨ (13 : Int32).toInt = 13 := by
                  have z_1 : ¬ (vy_20 : Int32).toInt = (0 : Int32).toInt := fun z => c_33 (Int32.toInt_inj.mp z)
                  have z_2 : ¬ (r_136 : Int32).toInt = (0 : Int32).toInt := fun z => c_141 (Int32.toInt_inj.mp z)
                  have z_3 := congrArg Int32.toInt c_182
                  have z_4 : ¬ (r_328 : Int32).toInt = (0 : Int32).toInt := fun z => c_334 (Int32.toInt_inj.mp z)
                  have z_5 := congrArg Int32.toInt c_372
                  have y_0 : (0 : Int32).toInt = 0 := by decide
                  have y_13 : (13 : Int32).toInt = 13 := by decide
                  omega
                have ha_419 : (sv_397 (Mv 5).toNatClampNeg).toInt + (x_410 : Int32).toInt ≤ (sv_379 : Int32).toInt ∧ ((Mf 3) (Mv 5).toNatClampNeg).toInt ≤ (sv_397 (Mv 5).toNatClampNeg).toInt ∧ 0 ≤ (x_410 : Int32).toInt ∧ (x_410 : Int32).toInt ≤ 400 := by
                  have z_1 : ¬ (vy_20 : Int32).toInt = (0 : Int32).toInt := fun z => c_33 (Int32.toInt_inj.mp z)
                  have z_2 : ¬ (r_136 : Int32).toInt = (0 : Int32).toInt := fun z => c_141 (Int32.toInt_inj.mp z)
                  have z_3 := congrArg Int32.toInt c_182
                  have z_4 : ¬ (r_328 : Int32).toInt = (0 : Int32).toInt := fun z => c_334 (Int32.toInt_inj.mp z)
                  have z_5 := congrArg Int32.toInt c_372
                  have y_0 : (0 : Int32).toInt = 0 := by decide
                  have y_1 : (1 : Int32).toInt = 1 := by decide
                  have t_x_410 : x_410.toInt = (sv_395 : Int32).toInt + (1 : Int32).toInt := by rw [ex_410]; exact add_toInt (by omega) (by omega)
                  omega
                have hr_420 : (400 * ((Mv 5) : Int32).toInt + ((Mf 3) (Mv 5).toNatClampNeg).toInt) ≤ (400 * ((Mv 5) : Int32).toInt + ((Mf 3) (Mv 5).toNatClampNeg).toInt) := by
                  have z_1 : ¬ (vy_20 : Int32).toInt = (0 : Int32).toInt := fun z => c_33 (Int32.toInt_inj.mp z)
                  have z_2 : ¬ (r_136 : Int32).toInt = (0 : Int32).toInt := fun z => c_141 (Int32.toInt_inj.mp z)
                  have z_3 := congrArg Int32.toInt c_182
                  have z_4 : ¬ (r_328 : Int32).toInt = (0 : Int32).toInt := fun z => c_334 (Int32.toInt_inj.mp z)
                  have z_5 := congrArg Int32.toInt c_372
                  have y_0 : (0 : Int32).toInt = 0 := by decide
                  omega
                have hr_421 : (400 * ((Mv 5) : Int32).toInt + ((Mf 3) (Mv 5).toNatClampNeg).toInt) ≤ (400 * ((Mv 5) : Int32).toInt + (vy_18 (Mv 5).toNatClampNeg).toInt) := by
                  have z_1 : ¬ (vy_20 : Int32).toInt = (0 : Int32).toInt := fun z => c_33 (Int32.toInt_inj.mp z)
                  have z_2 : ¬ (r_136 : Int32).toInt = (0 : Int32).toInt := fun z => c_141 (Int32.toInt_inj.mp z)
                  have z_3 := congrArg Int32.toInt c_182
                  have z_4 : ¬ (r_328 : Int32).toInt = (0 : Int32).toInt := fun z => c_334 (Int32.toInt_inj.mp z)
                  have z_5 := congrArg Int32.toInt c_372
                  have y_0 : (0 : Int32).toInt = 0 := by decide
                  omega
                have hr_422 : (400 * ((Mv 5) : Int32).toInt + ((Mf 3) (Mv 5).toNatClampNeg).toInt) ≤ (400 * ((Mv 5) : Int32).toInt + (sv_131 (Mv 5).toNatClampNeg).toInt) := by
                  have z_1 : ¬ (vy_20 : Int32).toInt = (0 : Int32).toInt := fun z => c_33 (Int32.toInt_inj.mp z)
                  have z_2 : ¬ (r_136 : Int32).toInt = (0 : Int32).toInt := fun z => c_141 (Int32.toInt_inj.mp z)
                  have z_3 := congrArg Int32.toInt c_182
                  have z_4 : ¬ (r_328 : Int32).toInt = (0 : Int32).toInt := fun z => c_334 (Int32.toInt_inj.mp z)
                  have z_5 := congrArg Int32.toInt c_372
                  have y_0 : (0 : Int32).toInt = 0 := by decide
                  omega
                have hr_423 : (400 * ((Mv 5) : Int32).toInt + ((Mf 3) (Mv 5).toNatClampNeg).toInt) ≤ (400 * ((Mv 5) : Int32).toInt + (sv_157 (Mv 5).toNatClampNeg).toInt) := by
                  have z_1 : ¬ (vy_20 : Int32).toInt = (0 : Int32).toInt := fun z => c_33 (Int32.toInt_inj.mp z)
                  have z_2 : ¬ (r_136 : Int32).toInt = (0 : Int32).toInt := fun z => c_141 (Int32.toInt_inj.mp z)
                  have z_3 := congrArg Int32.toInt c_182
                  have z_4 : ¬ (r_328 : Int32).toInt = (0 : Int32).toInt := fun z => c_334 (Int32.toInt_inj.mp z)
                  have z_5 := congrArg Int32.toInt c_372
                  have y_0 : (0 : Int32).toInt = 0 := by decide
                  omega
                have hr_424 : (1 : Int32).toInt = 1 := by
                  have z_1 : ¬ (vy_20 : Int32).toInt = (0 : Int32).toInt := fun z => c_33 (Int32.toInt_inj.mp z)
                  have z_2 : ¬ (r_136 : Int32).toInt = (0 : Int32).toInt := fun z => c_141 (Int32.toInt_inj.mp z)
                  have z_3 := congrArg Int32.toInt c_182
                  have z_4 : ¬ (r_328 : Int32).toInt = (0 : Int32).toInt := fun z => c_334 (Int32.toInt_inj.mp z)
                  have z_5 := congrArg Int32.toInt c_372
                  have y_0 : (0 : Int32).toInt = 0 := by decide
                  have y_1 : (1 : Int32).toInt = 1 := by decide
                  omega
                have hw_425 : pz_wd (rB (Mf 1) (Mv 0)) (sv_323 : Int32).toInt.toNat pz_or = true := by
                  have hq := pf_352
                  rw [show (28530 : Int64).toInt = pz_pl pz_or by decide] at hq
                  exact (PkW.wd (by decide) (by decide) (by decide)).mp hq
                have hq_426 : sv_359 = sv_323 := SkR.eq (SkR.trans pf_176 pf_327) pf_363
                have hr_427 : (13 : Int32).toInt = 12 ∨ (13 : Int32).toInt = 13 := by
                  have z_1 : ¬ (vy_20 : Int32).toInt = (0 : Int32).toInt := fun z => c_33 (Int32.toInt_inj.mp z)
                  have z_2 : ¬ (r_136 : Int32).toInt = (0 : Int32).toInt := fun z => c_141 (Int32.toInt_inj.mp z)
                  have z_3 := congrArg Int32.toInt c_182
                  have z_4 : ¬ (r_328 : Int32).toInt = (0 : Int32).toInt := fun z => c_334 (Int32.toInt_inj.mp z)
                  have z_5 := congrArg Int32.toInt c_372
                  have y_0 : (0 : Int32).toInt = 0 := by decide
                  have y_13 : (13 : Int32).toInt = 13 := by decide
                  omega
                have hi_428 : (x_410 : Int32).toInt = (sv_395 : Int32).toInt + 1 := by
                  have z_1 : ¬ (vy_20 : Int32).toInt = (0 : Int32).toInt := fun z => c_33 (Int32.toInt_inj.mp z)
                  have z_2 : ¬ (r_136 : Int32).toInt = (0 : Int32).toInt := fun z => c_141 (Int32.toInt_inj.mp z)
                  have z_3 := congrArg Int32.toInt c_182
                  have z_4 : ¬ (r_328 : Int32).toInt = (0 : Int32).toInt := fun z => c_334 (Int32.toInt_inj.mp z)
                  have z_5 := congrArg Int32.toInt c_372
                  have y_0 : (0 : Int32).toInt = 0 := by decide
                  have y_1 : (1 : Int32).toInt = 1 := by decide
                  have t_x_410 : x_410.toInt = (sv_395 : Int32).toInt + (1 : Int32).toInt := by rw [ex_410]; exact add_toInt (by omega) (by omega)
                  omega
                exact ih_22 sv_379 sv_125 sv_126 sv_127 sv_394 x_410 sv_396 sv_397 g_409 1 _ _ _ (by omega) ha_412 ha_413 ha_414 ha_415 ⟨fun _ => LSR.open2 pf_398 eg_409 hi_416 hr_417 hr_418, fun h => absurd h (by decide)⟩ ha_419 (Agr.trans (k' := (400 * ((Mv 5) : Int32).toInt + ((Mf 3) (Mv 5).toNatClampNeg).toInt)) (Agr.trans (k' := (400 * ((Mv 5) : Int32).toInt + ((Mf 3) (Mv 5).toNatClampNeg).toInt)) (Agr.trans (k' := (400 * ((Mv 5) : Int32).toInt + ((Mf 3) (Mv 5).toNatClampNeg).toInt)) (Agr.mono pf_30 hr_420) pf_135 ⟨Int.le_refl _, hr_421⟩) pf_159 ⟨Int.le_refl _, hr_422⟩) pf_400 ⟨Int.le_refl _, hr_423⟩) (TsL.and (rB_fi h_nx.2.2) pf_162 (SkR.trans (SkR.trans pf_176 pf_327) pf_363) (hq_426.symm ▸ (Or.inr hw_425)) pf_382 pf_403 pf_404 eg_409 hr_427 hi_428 hr_424) (hP.sub [1, 0, 2, 3, 4] rfl) (hD.sub [1, 0, 2, 3, 4] rfl rfl) hS (lv_sub hl [1, 2] rfl)
              · skip
                have hz_431 : (r_364 : Int32).toInt = 1 := by
                  have z_1 : ¬ (vy_20 : Int32).toInt = (0 : Int32).toInt := fun z => c_33 (Int32.toInt_inj.mp z)
                  have z_2 : ¬ (r_136 : Int32).toInt = (0 : Int32).toInt := fun z => c_141 (Int32.toInt_inj.mp z)
                  have z_3 := congrArg Int32.toInt c_182
                  have z_4 : ¬ (r_328 : Int32).toInt = (0 : Int32).toInt := fun z => c_334 (Int32.toInt_inj.mp z)
                  have z_5 : ¬ (r_364 : Int32).toInt = (0 : Int32).toInt := fun z => c_372 (Int32.toInt_inj.mp z)
                  have y_0 : (0 : Int32).toInt = 0 := by decide
                  omega
                obtain ⟨pf_429, pf_430⟩ := hm_367 hz_431
                have pf_429 : Ltr (Mf 1) (Mv 0) sv_359 := pf_429
                have ar_pf_429 := pf_429.1
                have at_pf_429 : 97 ≤ ((Mf 1) (sv_359 : Int32).toInt.toNat).toInt ∧ ((Mf 1) (sv_359 : Int32).toInt.toNat).toInt ≤ 122 := pf_429.2
                have pf_430 : PkW (rB (Mf 1) (Mv 0)) ((sv_359 : Int32).toInt.toNat) (6385252 : Int64).toInt := pf_430
                refine lv_bipush (v := 12) hx hb dX12_tested_69 (by decide) ?_
                refine lv_goto (tgt := 76) hx hb dX12_tested_71 (by decide) ?_
                refine lv_istore_n (lv' := [(2, .int 12), (1, .int 1), (0, .ref (Ma 0))]) hx hb dX12_tested_76 rfl hl (by decide) rfl (fun ls hl₀ => ?_)
                replace hl := hl₀
                clear hl₀
                refine lv_aload_n hx hb dX12_tested_77 rfl (lv_at hl 2 rfl) ?_
                have ha_432 : 0 ≤ (sv_359 : Int32).toInt ∧ (sv_359 : Int32).toInt ≤ ((Mv 0) : Int32).toInt ∧ ((Mv 0) : Int32).toInt ≤ 400 := by
                  have z_1 : ¬ (vy_20 : Int32).toInt = (0 : Int32).toInt := fun z => c_33 (Int32.toInt_inj.mp z)
                  have z_2 : ¬ (r_136 : Int32).toInt = (0 : Int32).toInt := fun z => c_141 (Int32.toInt_inj.mp z)
                  have z_3 := congrArg Int32.toInt c_182
                  have z_4 : ¬ (r_328 : Int32).toInt = (0 : Int32).toInt := fun z => c_334 (Int32.toInt_inj.mp z)
                  have z_5 : ¬ (r_364 : Int32).toInt = (0 : Int32).toInt := fun z => c_372 (Int32.toInt_inj.mp z)
                  have y_0 : (0 : Int32).toInt = 0 := by decide
                  omega
                refine cV (a := (Ma 0)) (As := []) (rest := []) (wr := [((Ma 2), .inl (tc 0, 2400, .inl sv_156)), ((Ma 3), .inl (tc 0, 7, .inl sv_157)), ((Ma 7), .inl (tc 0, 400, .inl sv_132))]) ⟨hx, hb, hml, hown, hts⟩ hK hX hA (cu_fX12_passWord l D tc sk (Ma 0) (Ma 1) (Ma 2) (Ma 3) (Ma 4) (Ma 5) (Ma 6) (Ma 7) (Ma 8) (Ma 9) (Ma 10) (Ma 11) (Ma 12) (Ma 13) (Ma 14) (Ma 15) (Ma 16) (Ma 17) (Ma 18) (Ma 19) (Ma 20) (Mv 0) (Mv 1) sv_359 sv_125 sv_126 (Mv 5) sv_127 sv_154 (Mv 8) sv_155 (Mv 10) (Mv 11) (Mv 12) (Mv 13) (Mv 14) (Mf 1) (Mj 0) ha_432 h_bs) k_1244 k_1241 k_1243 k_34 k_106 pl_X12_passWord ⟨Nat.le_of_ble_eq_true rfl, Nat.le_of_ble_eq_true rfl⟩ rfl rfl (va_recv hK hP (ci := 12) (q0 := 3) rfl rfl) hP hD hS [3, 4] [0, 1, 2] rfl rfl rfl rfl rfl (by decide) rfl hl.1 rfl (Nat.le_of_ble_eq_true rfl) dX12_tested_78 ⟨Nat.le_of_ble_eq_true rfl, Nat.le_of_ble_eq_true rfl⟩ (fun v_433 u_434 H locs hv_435 hP₀ hD₀ hS₀ => ?_)
                obtain ⟨sv_436, rfl⟩ : ∃ z, z = u_434 := ⟨_, rfl⟩
                obtain ⟨rfl, pf_437, pf_438, pf_439⟩ := hv_435
                have pf_437 : (sv_359 : Int32).toInt ≤ (sv_436 : Int32).toInt ∧ (sv_436 : Int32).toInt ≤ ((Mv 0) : Int32).toInt := pf_437
                have pf_438 : Pw (Mf 1) (Mv 0) sv_359 sv_436 := pf_438
                have ar_pf_438 := pf_438 pf_429
                have pf_439 : PsR (rB (Mf 1) (Mv 0)) sv_359 sv_436 := pf_439
                refine W.eq (g2 := F0 m 81 ls []) rfl ?_
                replace hP : va_P D classes [((Ma 2), .inl (tc 0, 2400, .inl sv_156)), ((Ma 3), .inl (tc 0, 7, .inl sv_157)), ((Ma 7), .inl (tc 0, 400, .inl sv_132)), ((Ma 0), .inr (12, [.ref (Ma 1), .int (Mv 0), .int (Mv 1), .ref (Ma 2), .ref (Ma 3), .ref (Ma 4), .ref (Ma 5), .ref (Ma 6), .int sv_436, .int sv_125, .int sv_126, .int (Mv 5), .int sv_127, .int sv_154, .int (Mv 8), .ref (Ma 7), .int sv_155, .ref (Ma 8), .int (Mv 10), .ref (Ma 9), .ref (Ma 10), .int (Mv 11), .int (Mv 12), .int (Mv 13), .ref (Ma 11), .int (Mv 14), .ref (Ma 12), .ref (Ma 13), .ref (Ma 14), .ref (Ma 15), .ref (Ma 16), .long (Mj 0), .ref (Ma 17), .ref (Ma 18), .ref (Ma 19), .ref (Ma 20)])), ((Ma 1), .inl (tc 2, 400, .inl (Mf 1)))] H := hP₀
                replace hD : va_D A [((Ma 2), .inl (tc 0, 2400, .inl sv_156)), ((Ma 3), .inl (tc 0, 7, .inl sv_157)), ((Ma 7), .inl (tc 0, 400, .inl sv_132)), ((Ma 0), .inr (12, [.ref (Ma 1), .int (Mv 0), .int (Mv 1), .ref (Ma 2), .ref (Ma 3), .ref (Ma 4), .ref (Ma 5), .ref (Ma 6), .int sv_436, .int sv_125, .int sv_126, .int (Mv 5), .int sv_127, .int sv_154, .int (Mv 8), .ref (Ma 7), .int sv_155, .ref (Ma 8), .int (Mv 10), .ref (Ma 9), .ref (Ma 10), .int (Mv 11), .int (Mv 12), .int (Mv 13), .ref (Ma 11), .int (Mv 14), .ref (Ma 12), .ref (Ma 13), .ref (Ma 14), .ref (Ma 15), .ref (Ma 16), .long (Mj 0), .ref (Ma 17), .ref (Ma 18), .ref (Ma 19), .ref (Ma 20)])), ((Ma 1), .inl (tc 2, 400, .inl (Mf 1)))] := hD₀
                replace hS := hS₀
                clear hP₀ hD₀ hS₀
                refine lv_aload_n hx hb dX12_tested_81 rfl (lv_at hl 2 rfl) ?_
                refine lv_iload_n hx hb dX12_tested_82 rfl (lv_at hl 0 rfl) ?_
                refine cS (As := [.int 12]) (rest := [.ref (Ma 0)]) (wr := [((Ma 2), .inl (tc 0, 2400, .inl sv_156)), ((Ma 3), .inl (tc 0, 7, .inl sv_157)), ((Ma 7), .inl (tc 0, 400, .inl sv_132)), ((Ma 0), .inr (12, [.ref (Ma 1), .int (Mv 0), .int (Mv 1), .ref (Ma 2), .ref (Ma 3), .ref (Ma 4), .ref (Ma 5), .ref (Ma 6), .int sv_436, .int sv_125, .int sv_126, .int (Mv 5), .int sv_127, .int sv_154, .int (Mv 8), .ref (Ma 7), .int sv_155, .ref (Ma 8), .int (Mv 10), .ref (Ma 9), .ref (Ma 10), .int (Mv 11), .int (Mv 12), .int (Mv 13), .ref (Ma 11), .int (Mv 14), .ref (Ma 12), .ref (Ma 13), .ref (Ma 14), .ref (Ma 15), .ref (Ma 16), .long (Mj 0), .ref (Ma 17), .ref (Ma 18), .ref (Ma 19), .ref (Ma 20)])), ((Ma 1), .inl (tc 2, 400, .inl (Mf 1)))]) ⟨hx, hb, hml, hown, hts⟩ hK hX hA (ct_X12_strength l D tc sk 12) k_1345 k_1343 k_1344 k_106 pl_X12_strength ⟨Nat.le_of_ble_eq_true rfl, Nat.le_of_ble_eq_true rfl⟩ rfl rfl  hP hD hS [] [0, 1, 2, 3, 4] rfl rfl rfl rfl rfl (by decide) rfl hl.1 rfl (Nat.le_of_ble_eq_true rfl) dX12_tested_83 ⟨Nat.le_of_ble_eq_true rfl, Nat.le_of_ble_eq_true rfl⟩ (fun v_440 u_441 H locs hv_442 hP₀ hD₀ hS₀ => ?_)
                obtain ⟨r_443, rfl, he_444⟩ := hv_442
                have he_444 : (((12 : Int32).toInt = 13 ∧ r_443.toInt = 1) ∨ ((12 : Int32).toInt = 12 ∧ r_443.toInt = 2) ∨ ((12 : Int32).toInt = 11 ∧ r_443.toInt = 3) ∨ ((12 : Int32).toInt ≠ 13 ∧ (12 : Int32).toInt ≠ 12 ∧ (12 : Int32).toInt ≠ 11 ∧ r_443.toInt = 0)) := he_444
                refine W.eq (g2 := F0 m 86 ls [.int r_443, .ref (Ma 0)]) rfl ?_
                replace hP : va_P D classes [((Ma 2), .inl (tc 0, 2400, .inl sv_156)), ((Ma 3), .inl (tc 0, 7, .inl sv_157)), ((Ma 7), .inl (tc 0, 400, .inl sv_132)), ((Ma 0), .inr (12, [.ref (Ma 1), .int (Mv 0), .int (Mv 1), .ref (Ma 2), .ref (Ma 3), .ref (Ma 4), .ref (Ma 5), .ref (Ma 6), .int sv_436, .int sv_125, .int sv_126, .int (Mv 5), .int sv_127, .int sv_154, .int (Mv 8), .ref (Ma 7), .int sv_155, .ref (Ma 8), .int (Mv 10), .ref (Ma 9), .ref (Ma 10), .int (Mv 11), .int (Mv 12), .int (Mv 13), .ref (Ma 11), .int (Mv 14), .ref (Ma 12), .ref (Ma 13), .ref (Ma 14), .ref (Ma 15), .ref (Ma 16), .long (Mj 0), .ref (Ma 17), .ref (Ma 18), .ref (Ma 19), .ref (Ma 20)])), ((Ma 1), .inl (tc 2, 400, .inl (Mf 1)))] H := hP₀
                replace hD : va_D A [((Ma 2), .inl (tc 0, 2400, .inl sv_156)), ((Ma 3), .inl (tc 0, 7, .inl sv_157)), ((Ma 7), .inl (tc 0, 400, .inl sv_132)), ((Ma 0), .inr (12, [.ref (Ma 1), .int (Mv 0), .int (Mv 1), .ref (Ma 2), .ref (Ma 3), .ref (Ma 4), .ref (Ma 5), .ref (Ma 6), .int sv_436, .int sv_125, .int sv_126, .int (Mv 5), .int sv_127, .int sv_154, .int (Mv 8), .ref (Ma 7), .int sv_155, .ref (Ma 8), .int (Mv 10), .ref (Ma 9), .ref (Ma 10), .int (Mv 11), .int (Mv 12), .int (Mv 13), .ref (Ma 11), .int (Mv 14), .ref (Ma 12), .ref (Ma 13), .ref (Ma 14), .ref (Ma 15), .ref (Ma 16), .long (Mj 0), .ref (Ma 17), .ref (Ma 18), .ref (Ma 19), .ref (Ma 20)])), ((Ma 1), .inl (tc 2, 400, .inl (Mf 1)))] := hD₀
                replace hS := hS₀
                clear hP₀ hD₀ hS₀
                have yy_445 : (12 : Int32).toInt = 12 := by decide
                have ha_446 : 1 ≤ r_443.toInt ∧ r_443.toInt ≤ 3 := by
                  have z_1 : ¬ (vy_20 : Int32).toInt = (0 : Int32).toInt := fun z => c_33 (Int32.toInt_inj.mp z)
                  have z_2 : ¬ (r_136 : Int32).toInt = (0 : Int32).toInt := fun z => c_141 (Int32.toInt_inj.mp z)
                  have z_3 := congrArg Int32.toInt c_182
                  have z_4 : ¬ (r_328 : Int32).toInt = (0 : Int32).toInt := fun z => c_334 (Int32.toInt_inj.mp z)
                  have z_5 : ¬ (r_364 : Int32).toInt = (0 : Int32).toInt := fun z => c_372 (Int32.toInt_inj.mp z)
                  have y_0 : (0 : Int32).toInt = 0 := by decide
                  omega
                have ha_447 : (sv_157 (Mv 5).toNatClampNeg).toInt + (sv_155 : Int32).toInt ≤ 400 := by
                  have z_1 : ¬ (vy_20 : Int32).toInt = (0 : Int32).toInt := fun z => c_33 (Int32.toInt_inj.mp z)
                  have z_2 : ¬ (r_136 : Int32).toInt = (0 : Int32).toInt := fun z => c_141 (Int32.toInt_inj.mp z)
                  have z_3 := congrArg Int32.toInt c_182
                  have z_4 : ¬ (r_328 : Int32).toInt = (0 : Int32).toInt := fun z => c_334 (Int32.toInt_inj.mp z)
                  have z_5 : ¬ (r_364 : Int32).toInt = (0 : Int32).toInt := fun z => c_372 (Int32.toInt_inj.mp z)
                  have y_0 : (0 : Int32).toInt = 0 := by decide
                  omega
                refine cV (a := (Ma 0)) (As := [.int r_443]) (rest := []) (wr := [((Ma 1), .inl (tc 2, 400, .inl (Mf 1)))]) ⟨hx, hb, hml, hown, hts⟩ hK hX hA (cu_fX12_layDown l D tc sk (Ma 0) (Ma 1) (Ma 2) (Ma 3) (Ma 4) (Ma 5) (Ma 6) (Ma 7) (Ma 8) (Ma 9) (Ma 10) (Ma 11) (Ma 12) (Ma 13) (Ma 14) (Ma 15) (Ma 16) (Ma 17) (Ma 18) (Ma 19) (Ma 20) (Mv 0) (Mv 1) sv_436 sv_125 sv_126 (Mv 5) sv_127 sv_154 (Mv 8) sv_155 (Mv 10) (Mv 11) (Mv 12) (Mv 13) (Mv 14) sv_156 sv_157 sv_132 (Mj 0) r_443 b pf_160 ha_446 ha_447 pf_162.1) k_1342 k_1339 k_1341 k_54 k_106 pl_X12_layDown ⟨Nat.le_of_ble_eq_true rfl, Nat.le_of_ble_eq_true rfl⟩ rfl rfl (va_recv hK hP (ci := 12) (q0 := 3) rfl rfl) hP hD hS [3, 0, 1, 2] [4] rfl rfl rfl rfl rfl (by decide) rfl hl.1 rfl (Nat.le_of_ble_eq_true rfl) dX12_tested_86 ⟨Nat.le_of_ble_eq_true rfl, Nat.le_of_ble_eq_true rfl⟩ (fun v_448 u_449 H locs hv_450 hP₀ hD₀ hS₀ => ?_)
                obtain ⟨sv_451, sv_452, sv_453, sv_454⟩ := u_449
                obtain ⟨rfl, pf_455, pf_456, pf_457, pf_458, pf_459, pf_460, pf_461⟩ := hv_450
                have pf_455 : LSR sv_132 sv_452 sv_453 sv_454 (Mv 5) b sv_127 := pf_455
                obtain ⟨pn_462, pf_463, pf_464⟩ := id pf_455
                have ar_pf_455 := LSR.ar pf_455
                have ar_pf_464 := Cd.ar pf_464
                have pf_456 : (sv_454 (Mv 5).toNatClampNeg).toInt + (sv_452 : Int32).toInt = (sv_157 (Mv 5).toNatClampNeg).toInt + (sv_155 : Int32).toInt ∧ 0 ≤ (sv_452 : Int32).toInt ∧ (sv_452 : Int32).toInt ≤ (sv_155 : Int32).toInt := pf_456
                have pf_457 : Agr sv_156 sv_453 (400 * ((Mv 5) : Int32).toInt + (sv_157 (Mv 5).toNatClampNeg).toInt) := pf_457
                have pf_458 : LdE sv_132 sv_452 r_443 := pf_458
                have pf_459 : InK sv_132 sv_155 sv_452 := pf_459
                have pf_460 : LdP sv_132 sv_155 sv_452 sv_451 := pf_460
                have ar_pf_460 := OsP.ar pf_460.1
                have pf_461 : T11 sv_132 sv_452 := pf_461
                refine W.eq (g2 := F0 m 89 ls []) rfl ?_
                replace hP : va_P D classes [((Ma 1), .inl (tc 2, 400, .inl (Mf 1))), ((Ma 0), .inr (12, [.ref (Ma 1), .int (Mv 0), .int (Mv 1), .ref (Ma 2), .ref (Ma 3), .ref (Ma 4), .ref (Ma 5), .ref (Ma 6), .int sv_436, .int sv_125, .int sv_126, .int (Mv 5), .int sv_127, .int sv_451, .int (Mv 8), .ref (Ma 7), .int sv_452, .ref (Ma 8), .int (Mv 10), .ref (Ma 9), .ref (Ma 10), .int (Mv 11), .int (Mv 12), .int (Mv 13), .ref (Ma 11), .int (Mv 14), .ref (Ma 12), .ref (Ma 13), .ref (Ma 14), .ref (Ma 15), .ref (Ma 16), .long (Mj 0), .ref (Ma 17), .ref (Ma 18), .ref (Ma 19), .ref (Ma 20)])), ((Ma 2), .inl (tc 0, 2400, .inl sv_453)), ((Ma 3), .inl (tc 0, 7, .inl sv_454)), ((Ma 7), .inl (tc 0, 400, .inl sv_132))] H := hP₀
                replace hD : va_D A [((Ma 1), .inl (tc 2, 400, .inl (Mf 1))), ((Ma 0), .inr (12, [.ref (Ma 1), .int (Mv 0), .int (Mv 1), .ref (Ma 2), .ref (Ma 3), .ref (Ma 4), .ref (Ma 5), .ref (Ma 6), .int sv_436, .int sv_125, .int sv_126, .int (Mv 5), .int sv_127, .int sv_451, .int (Mv 8), .ref (Ma 7), .int sv_452, .ref (Ma 8), .int (Mv 10), .ref (Ma 9), .ref (Ma 10), .int (Mv 11), .int (Mv 12), .int (Mv 13), .ref (Ma 11), .int (Mv 14), .ref (Ma 12), .ref (Ma 13), .ref (Ma 14), .ref (Ma 15), .ref (Ma 16), .long (Mj 0), .ref (Ma 17), .ref (Ma 18), .ref (Ma 19), .ref (Ma 20)])), ((Ma 2), .inl (tc 0, 2400, .inl sv_453)), ((Ma 3), .inl (tc 0, 7, .inl sv_454)), ((Ma 7), .inl (tc 0, 400, .inl sv_132))] := hD₀
                replace hS := hS₀
                clear hP₀ hD₀ hS₀
                refine lv_aload_n hx hb dX12_tested_89 rfl (lv_at hl 2 rfl) ?_
                refine gf_X12_29 hx hb hts hown hK hP 1 rfl rfl dX12_tested_90 ?_
                refine lv_aload_n hx hb dX12_tested_93 rfl (lv_at hl 2 rfl) ?_
                refine gf_X12_154 hx hb hts hown hK hP 1 rfl rfl dX12_tested_94 ?_
                refine lv_iload_n hx hb dX12_tested_97 rfl (lv_at hl 0 rfl) ?_
                have hi_465 : vp_in sv_452 400 := by
                  have z_1 : ¬ (vy_20 : Int32).toInt = (0 : Int32).toInt := fun z => c_33 (Int32.toInt_inj.mp z)
                  have z_2 : ¬ (r_136 : Int32).toInt = (0 : Int32).toInt := fun z => c_141 (Int32.toInt_inj.mp z)
                  have z_3 := congrArg Int32.toInt c_182
                  have z_4 : ¬ (r_328 : Int32).toInt = (0 : Int32).toInt := fun z => c_334 (Int32.toInt_inj.mp z)
                  have z_5 : ¬ (r_364 : Int32).toInt = (0 : Int32).toInt := fun z => c_372 (Int32.toInt_inj.mp z)
                  have y_0 : (0 : Int32).toInt = 0 := by decide
                  refine vp_in_iff.mpr ⟨?_, ?_⟩ <;> omega
                refine st_int hx hb hK hP hD hS 4 0 rfl rfl hi_465 dX12_tested_98 (fun g_466 H locs eg_466 hP₀ hD₀ hS₀ => ?_)
                replace hP : va_P D classes [((Ma 1), .inl (tc 2, 400, .inl (Mf 1))), ((Ma 0), .inr (12, [.ref (Ma 1), .int (Mv 0), .int (Mv 1), .ref (Ma 2), .ref (Ma 3), .ref (Ma 4), .ref (Ma 5), .ref (Ma 6), .int sv_436, .int sv_125, .int sv_126, .int (Mv 5), .int sv_127, .int sv_451, .int (Mv 8), .ref (Ma 7), .int sv_452, .ref (Ma 8), .int (Mv 10), .ref (Ma 9), .ref (Ma 10), .int (Mv 11), .int (Mv 12), .int (Mv 13), .ref (Ma 11), .int (Mv 14), .ref (Ma 12), .ref (Ma 13), .ref (Ma 14), .ref (Ma 15), .ref (Ma 16), .long (Mj 0), .ref (Ma 17), .ref (Ma 18), .ref (Ma 19), .ref (Ma 20)])), ((Ma 2), .inl (tc 0, 2400, .inl sv_453)), ((Ma 3), .inl (tc 0, 7, .inl sv_454)), ((Ma 7), .inl (tc 0, 400, .inl g_466))] H := hP₀
                replace hD : va_D A [((Ma 1), .inl (tc 2, 400, .inl (Mf 1))), ((Ma 0), .inr (12, [.ref (Ma 1), .int (Mv 0), .int (Mv 1), .ref (Ma 2), .ref (Ma 3), .ref (Ma 4), .ref (Ma 5), .ref (Ma 6), .int sv_436, .int sv_125, .int sv_126, .int (Mv 5), .int sv_127, .int sv_451, .int (Mv 8), .ref (Ma 7), .int sv_452, .ref (Ma 8), .int (Mv 10), .ref (Ma 9), .ref (Ma 10), .int (Mv 11), .int (Mv 12), .int (Mv 13), .ref (Ma 11), .int (Mv 14), .ref (Ma 12), .ref (Ma 13), .ref (Ma 14), .ref (Ma 15), .ref (Ma 16), .long (Mj 0), .ref (Ma 17), .ref (Ma 18), .ref (Ma 19), .ref (Ma 20)])), ((Ma 2), .inl (tc 0, 2400, .inl sv_453)), ((Ma 3), .inl (tc 0, 7, .inl sv_454)), ((Ma 7), .inl (tc 0, 400, .inl g_466))] := hD₀
                replace hS := hS₀
                clear hP₀ hD₀ hS₀
                refine lv_aload_n hx hb dX12_tested_99 rfl (lv_at hl 2 rfl) ?_
                refine lv_dup hx hb dX12_tested_100 rfl ?_
                refine gf_X12_154 hx hb hts hown hK hP 1 rfl rfl dX12_tested_101 ?_
                refine lv_iconst (v := 1) hx hb dX12_tested_104 (by decide) ?_
                refine lv_iadd hx hb dX12_tested_105 ?_
                refine lv_topi (fun x_467 ex_467 => ?_)
                refine pf_X12_154 hx hb hts hown hK hP hD hS 1 rfl (Nat.le_of_ble_eq_true rfl) rfl rfl dX12_tested_106 (fun H locs hP₀ hD₀ hS₀ => ?_)
                replace hP : va_P D classes [((Ma 1), .inl (tc 2, 400, .inl (Mf 1))), ((Ma 0), .inr (12, [.ref (Ma 1), .int (Mv 0), .int (Mv 1), .ref (Ma 2), .ref (Ma 3), .ref (Ma 4), .ref (Ma 5), .ref (Ma 6), .int sv_436, .int sv_125, .int sv_126, .int (Mv 5), .int sv_127, .int sv_451, .int (Mv 8), .ref (Ma 7), .int x_467, .ref (Ma 8), .int (Mv 10), .ref (Ma 9), .ref (Ma 10), .int (Mv 11), .int (Mv 12), .int (Mv 13), .ref (Ma 11), .int (Mv 14), .ref (Ma 12), .ref (Ma 13), .ref (Ma 14), .ref (Ma 15), .ref (Ma 16), .long (Mj 0), .ref (Ma 17), .ref (Ma 18), .ref (Ma 19), .ref (Ma 20)])), ((Ma 2), .inl (tc 0, 2400, .inl sv_453)), ((Ma 3), .inl (tc 0, 7, .inl sv_454)), ((Ma 7), .inl (tc 0, 400, .inl g_466))] H := hP₀
                replace hD : va_D A [((Ma 1), .inl (tc 2, 400, .inl (Mf 1))), ((Ma 0), .inr (12, [.ref (Ma 1), .int (Mv 0), .int (Mv 1), .ref (Ma 2), .ref (Ma 3), .ref (Ma 4), .ref (Ma 5), .ref (Ma 6), .int sv_436, .int sv_125, .int sv_126, .int (Mv 5), .int sv_127, .int sv_451, .int (Mv 8), .ref (Ma 7), .int x_467, .ref (Ma 8), .int (Mv 10), .ref (Ma 9), .ref (Ma 10), .int (Mv 11), .int (Mv 12), .int (Mv 13), .ref (Ma 11), .int (Mv 14), .ref (Ma 12), .ref (Ma 13), .ref (Ma 14), .ref (Ma 15), .ref (Ma 16), .long (Mj 0), .ref (Ma 17), .ref (Ma 18), .ref (Ma 19), .ref (Ma 20)])), ((Ma 2), .inl (tc 0, 2400, .inl sv_453)), ((Ma 3), .inl (tc 0, 7, .inl sv_454)), ((Ma 7), .inl (tc 0, 400, .inl g_466))] := hD₀
                replace hS := hS₀
                clear hP₀ hD₀ hS₀
                have tp_x_467 : (x_467 : Int32).toInt = (sv_452 : Int32).toInt + 1 := by
                  have z_1 : ¬ (vy_20 : Int32).toInt = (0 : Int32).toInt := fun z => c_33 (Int32.toInt_inj.mp z)
                  have z_2 : ¬ (r_136 : Int32).toInt = (0 : Int32).toInt := fun z => c_141 (Int32.toInt_inj.mp z)
                  have z_3 := congrArg Int32.toInt c_182
                  have z_4 : ¬ (r_328 : Int32).toInt = (0 : Int32).toInt := fun z => c_334 (Int32.toInt_inj.mp z)
                  have z_5 : ¬ (r_364 : Int32).toInt = (0 : Int32).toInt := fun z => c_372 (Int32.toInt_inj.mp z)
                  have y_0 : (0 : Int32).toInt = 0 := by decide
                  have y_1 : (1 : Int32).toInt = 1 := by decide
                  have t_x_467 : x_467.toInt = (sv_452 : Int32).toInt + (1 : Int32).toInt := by rw [ex_467]; exact add_toInt (by omega) (by omega)
                  omega
                refine lv_goto (tgt := 12) hx hb dX12_tested_109 (by decide) ?_
                have hb_468 : 2 * (401 - (sv_436 : Int32).toInt) + (1 : Int32).toInt < 2 * (401 - (vy_11 : Int32).toInt) + (vy_20 : Int32).toInt ∧ 1 ≤ 2 * (401 - (vy_11 : Int32).toInt) + (vy_20 : Int32).toInt := by
                  have z_1 : ¬ (vy_20 : Int32).toInt = (0 : Int32).toInt := fun z => c_33 (Int32.toInt_inj.mp z)
                  have z_2 : ¬ (r_136 : Int32).toInt = (0 : Int32).toInt := fun z => c_141 (Int32.toInt_inj.mp z)
                  have z_3 := congrArg Int32.toInt c_182
                  have z_4 : ¬ (r_328 : Int32).toInt = (0 : Int32).toInt := fun z => c_334 (Int32.toInt_inj.mp z)
                  have z_5 : ¬ (r_364 : Int32).toInt = (0 : Int32).toInt := fun z => c_372 (Int32.toInt_inj.mp z)
                  have y_0 : (0 : Int32).toInt = 0 := by decide
                  have y_1 : (1 : Int32).toInt = 1 := by decide
                  omega
                have ha_469 : 0 ≤ (sv_436 : Int32).toInt ∧ (sv_436 : Int32).toInt ≤ ((Mv 0) : Int32).toInt ∧ ((Mv 0) : Int32).toInt ≤ 400 := by
                  have z_1 : ¬ (vy_20 : Int32).toInt = (0 : Int32).toInt := fun z => c_33 (Int32.toInt_inj.mp z)
                  have z_2 : ¬ (r_136 : Int32).toInt = (0 : Int32).toInt := fun z => c_141 (Int32.toInt_inj.mp z)
                  have z_3 := congrArg Int32.toInt c_182
                  have z_4 : ¬ (r_328 : Int32).toInt = (0 : Int32).toInt := fun z => c_334 (Int32.toInt_inj.mp z)
                  have z_5 : ¬ (r_364 : Int32).toInt = (0 : Int32).toInt := fun z => c_372 (Int32.toInt_inj.mp z)
                  have y_0 : (0 : Int32).toInt = 0 := by decide
                  omega
                have ha_470 : (Mv 2).toInt ≤ (sv_436 : Int32).toInt := by
                  have z_1 : ¬ (vy_20 : Int32).toInt = (0 : Int32).toInt := fun z => c_33 (Int32.toInt_inj.mp z)
                  have z_2 : ¬ (r_136 : Int32).toInt = (0 : Int32).toInt := fun z => c_141 (Int32.toInt_inj.mp z)
                  have z_3 := congrArg Int32.toInt c_182
                  have z_4 : ¬ (r_328 : Int32).toInt = (0 : Int32).toInt := fun z => c_334 (Int32.toInt_inj.mp z)
                  have z_5 : ¬ (r_364 : Int32).toInt = (0 : Int32).toInt := fun z => c_372 (Int32.toInt_inj.mp z)
                  have y_0 : (0 : Int32).toInt = 0 := by decide
                  omega
                have ha_471 : 0 ≤ (1 : Int32).toInt ∧ (1 : Int32).toInt ≤ 1 := by
                  have z_1 : ¬ (vy_20 : Int32).toInt = (0 : Int32).toInt := fun z => c_33 (Int32.toInt_inj.mp z)
                  have z_2 : ¬ (r_136 : Int32).toInt = (0 : Int32).toInt := fun z => c_141 (Int32.toInt_inj.mp z)
                  have z_3 := congrArg Int32.toInt c_182
                  have z_4 : ¬ (r_328 : Int32).toInt = (0 : Int32).toInt := fun z => c_334 (Int32.toInt_inj.mp z)
                  have z_5 : ¬ (r_364 : Int32).toInt = (0 : Int32).toInt := fun z => c_372 (Int32.toInt_inj.mp z)
                  have y_0 : (0 : Int32).toInt = 0 := by decide
                  have y_1 : (1 : Int32).toInt = 1 := by decide
                  omega
                have ha_472 : (Mv 6).toInt ≤ (sv_127 : Int32).toInt ∧ (sv_127 : Int32).toInt ≤ 60 := by
                  have z_1 : ¬ (vy_20 : Int32).toInt = (0 : Int32).toInt := fun z => c_33 (Int32.toInt_inj.mp z)
                  have z_2 : ¬ (r_136 : Int32).toInt = (0 : Int32).toInt := fun z => c_141 (Int32.toInt_inj.mp z)
                  have z_3 := congrArg Int32.toInt c_182
                  have z_4 : ¬ (r_328 : Int32).toInt = (0 : Int32).toInt := fun z => c_334 (Int32.toInt_inj.mp z)
                  have z_5 : ¬ (r_364 : Int32).toInt = (0 : Int32).toInt := fun z => c_372 (Int32.toInt_inj.mp z)
                  have y_0 : (0 : Int32).toInt = 0 := by decide
                  omega
                have hi_473 : (x_467 : Int32).toInt = (sv_452 : Int32).toInt + 1 := by
                  have z_1 : ¬ (vy_20 : Int32).toInt = (0 : Int32).toInt := fun z => c_33 (Int32.toInt_inj.mp z)
                  have z_2 : ¬ (r_136 : Int32).toInt = (0 : Int32).toInt := fun z => c_141 (Int32.toInt_inj.mp z)
                  have z_3 := congrArg Int32.toInt c_182
                  have z_4 : ¬ (r_328 : Int32).toInt = (0 : Int32).toInt := fun z => c_334 (Int32.toInt_inj.mp z)
                  have z_5 : ¬ (r_364 : Int32).toInt = (0 : Int32).toInt := fun z => c_372 (Int32.toInt_inj.mp z)
                  have y_0 : (0 : Int32).toInt = 0 := by decide
                  have y_1 : (1 : Int32).toInt = 1 := by decide
                  have t_x_467 : x_467.toInt = (sv_452 : Int32).toInt + (1 : Int32).toInt := by rw [ex_467]; exact add_toInt (by omega) (by omega)
                  omega
                have hr_474 : (sv_452 : Int32).toInt < 400 := by
                  have z_1 : ¬ (vy_20 : Int32).toInt = (0 : Int32).toInt := fun z => c_33 (Int32.toInt_inj.mp z)
                  have z_2 : ¬ (r_136 : Int32).toInt = (0 : Int32).toInt := fun z => c_141 (Int32.toInt_inj.mp z)
                  have z_3 := congrArg Int32.toInt c_182
                  have z_4 : ¬ (r_328 : Int32).toInt = (0 : Int32).toInt := fun z => c_334 (Int32.toInt_inj.mp z)
                  have z_5 : ¬ (r_364 : Int32).toInt = (0 : Int32).toInt := fun z => c_372 (Int32.toInt_inj.mp z)
                  have y_0 : (0 : Int32).toInt = 0 := by decide
                  omega
                have hr_475 : (12 : Int32).toInt = 12 ∨ (12 : Int32).toInt = 13 := by
                  have z_1 : ¬ (vy_20 : Int32).toInt = (0 : Int32).toInt := fun z => c_33 (Int32.toInt_inj.mp z)
                  have z_2 : ¬ (r_136 : Int32).toInt = (0 : Int32).toInt := fun z => c_141 (Int32.toInt_inj.mp z)
                  have z_3 := congrArg Int32.toInt c_182
                  have z_4 : ¬ (r_328 : Int32).toInt = (0 : Int32).toInt := fun z => c_334 (Int32.toInt_inj.mp z)
                  have z_5 : ¬ (r_364 : Int32).toInt = (0 : Int32).toInt := fun z => c_372 (Int32.toInt_inj.mp z)
                  have y_0 : (0 : Int32).toInt = 0 := by decide
                  have y_12 : (12 : Int32).toInt = 12 := by decide
                  omega
                have ha_476 : (sv_454 (Mv 5).toNatClampNeg).toInt + (x_467 : Int32).toInt ≤ (sv_436 : Int32).toInt ∧ ((Mf 3) (Mv 5).toNatClampNeg).toInt ≤ (sv_454 (Mv 5).toNatClampNeg).toInt ∧ 0 ≤ (x_467 : Int32).toInt ∧ (x_467 : Int32).toInt ≤ 400 := by
                  have z_1 : ¬ (vy_20 : Int32).toInt = (0 : Int32).toInt := fun z => c_33 (Int32.toInt_inj.mp z)
                  have z_2 : ¬ (r_136 : Int32).toInt = (0 : Int32).toInt := fun z => c_141 (Int32.toInt_inj.mp z)
                  have z_3 := congrArg Int32.toInt c_182
                  have z_4 : ¬ (r_328 : Int32).toInt = (0 : Int32).toInt := fun z => c_334 (Int32.toInt_inj.mp z)
                  have z_5 : ¬ (r_364 : Int32).toInt = (0 : Int32).toInt := fun z => c_372 (Int32.toInt_inj.mp z)
                  have y_0 : (0 : Int32).toInt = 0 := by decide
                  have y_1 : (1 : Int32).toInt = 1 := by decide
                  have t_x_467 : x_467.toInt = (sv_452 : Int32).toInt + (1 : Int32).toInt := by rw [ex_467]; exact add_toInt (by omega) (by omega)
                  omega
                have hr_477 : (400 * ((Mv 5) : Int32).toInt + ((Mf 3) (Mv 5).toNatClampNeg).toInt) ≤ (400 * ((Mv 5) : Int32).toInt + ((Mf 3) (Mv 5).toNatClampNeg).toInt) := by
                  have z_1 : ¬ (vy_20 : Int32).toInt = (0 : Int32).toInt := fun z => c_33 (Int32.toInt_inj.mp z)
                  have z_2 : ¬ (r_136 : Int32).toInt = (0 : Int32).toInt := fun z => c_141 (Int32.toInt_inj.mp z)
                  have z_3 := congrArg Int32.toInt c_182
                  have z_4 : ¬ (r_328 : Int32).toInt = (0 : Int32).toInt := fun z => c_334 (Int32.toInt_inj.mp z)
                  have z_5 : ¬ (r_364 : Int32).toInt = (0 : Int32).toInt := fun z => c_372 (Int32.toInt_inj.mp z)
                  have y_0 : (0 : Int32).toInt = 0 := by decide
                  omega
                have hr_478 : (400 * ((Mv 5) : Int32).toInt + ((Mf 3) (Mv 5).toNatClampNeg).toInt) ≤ (400 * ((Mv 5) : Int32).toInt + (vy_18 (Mv 5).toNatClampNeg).toInt) := by
                  have z_1 : ¬ (vy_20 : Int32).toInt = (0 : Int32).toInt := fun z => c_33 (Int32.toInt_inj.mp z)
                  have z_2 : ¬ (r_136 : Int32).toInt = (0 : Int32).toInt := fun z => c_141 (Int32.toInt_inj.mp z)
                  have z_3 := congrArg Int32.toInt c_182
                  have z_4 : ¬ (r_328 : Int32).toInt = (0 : Int32).toInt := fun z => c_334 (Int32.toInt_inj.mp z)
                  have z_5 : ¬ (r_364 : Int32).toInt = (0 : Int32).toInt := fun z => c_372 (Int32.toInt_inj.mp z)
                  have y_0 : (0 : Int32).toInt = 0 := by decide
                  omega
                have hr_479 : (400 * ((Mv 5) : Int32).toInt + ((Mf 3) (Mv 5).toNatClampNeg).toInt) ≤ (400 * ((Mv 5) : Int32).toInt + (sv_131 (Mv 5).toNatClampNeg).toInt) := by
                  have z_1 : ¬ (vy_20 : Int32).toInt = (0 : Int32).toInt := fun z => c_33 (Int32.toInt_inj.mp z)
                  have z_2 : ¬ (r_136 : Int32).toInt = (0 : Int32).toInt := fun z => c_141 (Int32.toInt_inj.mp z)
                  have z_3 := congrArg Int32.toInt c_182
                  have z_4 : ¬ (r_328 : Int32).toInt = (0 : Int32).toInt := fun z => c_334 (Int32.toInt_inj.mp z)
                  have z_5 : ¬ (r_364 : Int32).toInt = (0 : Int32).toInt := fun z => c_372 (Int32.toInt_inj.mp z)
                  have y_0 : (0 : Int32).toInt = 0 := by decide
                  omega
                have hr_480 : (400 * ((Mv 5) : Int32).toInt + ((Mf 3) (Mv 5).toNatClampNeg).toInt) ≤ (400 * ((Mv 5) : Int32).toInt + (sv_157 (Mv 5).toNatClampNeg).toInt) := by
                  have z_1 : ¬ (vy_20 : Int32).toInt = (0 : Int32).toInt := fun z => c_33 (Int32.toInt_inj.mp z)
                  have z_2 : ¬ (r_136 : Int32).toInt = (0 : Int32).toInt := fun z => c_141 (Int32.toInt_inj.mp z)
                  have z_3 := congrArg Int32.toInt c_182
                  have z_4 : ¬ (r_328 : Int32).toInt = (0 : Int32).toInt := fun z => c_334 (Int32.toInt_inj.mp z)
                  have z_5 : ¬ (r_364 : Int32).toInt = (0 : Int32).toInt := fun z => c_372 (Int32.toInt_inj.mp z)
                  have y_0 : (0 : Int32).toInt = 0 := by decide
                  omega
                have hr_481 : (1 : Int32).toInt = 1 := by
                  have z_1 : ¬ (vy_20 : Int32).toInt = (0 : Int32).toInt := fun z => c_33 (Int32.toInt_inj.mp z)
                  have z_2 : ¬ (r_136 : Int32).toInt = (0 : Int32).toInt := fun z => c_141 (Int32.toInt_inj.mp z)
                  have z_3 := congrArg Int32.toInt c_182
                  have z_4 : ¬ (r_328 : Int32).toInt = (0 : Int32).toInt := fun z => c_334 (Int32.toInt_inj.mp z)
                  have z_5 : ¬ (r_364 : Int32).toInt = (0 : Int32).toInt := fun z => c_372 (Int32.toInt_inj.mp z)
                  have y_0 : (0 : Int32).toInt = 0 := by decide
                  have y_1 : (1 : Int32).toInt = 1 := by decide
                  omega
                have hw_482 : pz_wd (rB (Mf 1) (Mv 0)) (sv_359 : Int32).toInt.toNat pz_and = true := by
                  have hq := pf_430
                  rw [show (6385252 : Int64).toInt = pz_pl pz_and by decide] at hq
                  exact (PkW.wd (by decide) (by decide) (by decide)).mp hq
                have hr_483 : (12 : Int32).toInt = 12 ∨ (12 : Int32).toInt = 13 := by
                  have z_1 : ¬ (vy_20 : Int32).toInt = (0 : Int32).toInt := fun z => c_33 (Int32.toInt_inj.mp z)
                  have z_2 : ¬ (r_136 : Int32).toInt = (0 : Int32).toInt := fun z => c_141 (Int32.toInt_inj.mp z)
                  have z_3 := congrArg Int32.toInt c_182
                  have z_4 : ¬ (r_328 : Int32).toInt = (0 : Int32).toInt := fun z => c_334 (Int32.toInt_inj.mp z)
                  have z_5 : ¬ (r_364 : Int32).toInt = (0 : Int32).toInt := fun z => c_372 (Int32.toInt_inj.mp z)
                  have y_0 : (0 : Int32).toInt = 0 := by decide
                  have y_12 : (12 : Int32).toInt = 12 := by decide
                  omega
                have hi_484 : (x_467 : Int32).toInt = (sv_452 : Int32).toInt + 1 := by
                  have z_1 : ¬ (vy_20 : Int32).toInt = (0 : Int32).toInt := fun z => c_33 (Int32.toInt_inj.mp z)
                  have z_2 : ¬ (r_136 : Int32).toInt = (0 : Int32).toInt := fun z => c_141 (Int32.toInt_inj.mp z)
                  have z_3 := congrArg Int32.toInt c_182
                  have z_4 : ¬ (r_328 : Int32).toInt = (0 : Int32).toInt := fun z => c_334 (Int32.toInt_inj.mp z)
                  have z_5 : ¬ (r_364 : Int32).toInt = (0 : Int32).toInt := fun z => c_372 (Int32.toInt_inj.mp z)
                  have y_0 : (0 : Int32).toInt = 0 := by decide
                  have y_1 : (1 : Int32).toInt = 1 := by decide
                  have t_x_467 : x_467.toInt = (sv_452 : Int32).toInt + (1 : Int32).toInt := by rw [ex_467]; exact add_toInt (by omega) (by omega)
                  omega
                exact ih_22 sv_436 sv_125 sv_126 sv_127 sv_451 x_467 sv_453 sv_454 g_466 1 _ _ _ (by omega) ha_469 ha_470 ha_471 ha_472 ⟨fun _ => LSR.open2 pf_455 eg_466 hi_473 hr_474 hr_475, fun h => absurd h (by decide)⟩ ha_476 (Agr.trans (k' := (400 * ((Mv 5) : Int32).toInt + ((Mf 3) (Mv 5).toNatClampNeg).toInt)) (Agr.trans (k' := (400 * ((Mv 5) : Int32).toInt + ((Mf 3) (Mv 5).toNatClampNeg).toInt)) (Agr.trans (k' := (400 * ((Mv 5) : Int32).toInt + ((Mf 3) (Mv 5).toNatClampNeg).toInt)) (Agr.mono pf_30 hr_477) pf_135 ⟨Int.le_refl _, hr_478⟩) pf_159 ⟨Int.le_refl _, hr_479⟩) pf_457 ⟨Int.le_refl _, hr_480⟩) (TsL.and (rB_fi h_nx.2.2) pf_162 (SkR.trans (SkR.trans pf_176 pf_327) pf_363) (Or.inl hw_482) pf_439 pf_460 pf_461 eg_466 hr_483 hi_484 hr_481) (hP.sub [1, 0, 2, 3, 4] rfl) (hD.sub [1, 0, 2, 3, 4] rfl rfl) hS (lv_sub hl [1, 2] rfl)
        · skip
          have hz_486 : (r_136 : Int32).toInt = 0 := by
            have z_1 : ¬ (vy_20 : Int32).toInt = (0 : Int32).toInt := fun z => c_33 (Int32.toInt_inj.mp z)
            have z_2 := congrArg Int32.toInt c_141
            have y_0 : (0 : Int32).toInt = 0 := by decide
            omega
          obtain pf_485 := hm_140 hz_486
          have pf_485 : RfE (pz_tst (rB (Mf 1) (Mv 0)) (pz_fact (rB (Mf 1) (Mv 0)) 10) (St0 (rB (Mf 1) (Mv 0)) (Mv 2) (Mv 6))) sv_125 := pf_485
          refine lv_iconst (v := 0) hx hb dX12_tested_23 (by decide) ?_
          have ha_487 : ((Mv 2) : Int32).toInt ≤ (sv_124 : Int32).toInt ∧ (sv_124 : Int32).toInt ≤ ((Mv 0) : Int32).toInt := by
            have z_1 : ¬ (vy_20 : Int32).toInt = (0 : Int32).toInt := fun z => c_33 (Int32.toInt_inj.mp z)
            have z_2 := congrArg Int32.toInt c_141
            have y_0 : (0 : Int32).toInt = 0 := by decide
            omega
          have ha_488 : ((Mv 6) : Int32).toInt ≤ (sv_127 : Int32).toInt ∧ (sv_127 : Int32).toInt ≤ 60 := by
            have z_1 : ¬ (vy_20 : Int32).toInt = (0 : Int32).toInt := fun z => c_33 (Int32.toInt_inj.mp z)
            have z_2 := congrArg Int32.toInt c_141
            have y_0 : (0 : Int32).toInt = 0 := by decide
            omega
          have hr_489 : (400 * ((Mv 5) : Int32).toInt + ((Mf 3) (Mv 5).toNatClampNeg).toInt) ≤ (400 * ((Mv 5) : Int32).toInt + ((Mf 3) (Mv 5).toNatClampNeg).toInt) := by
            have z_1 : ¬ (vy_20 : Int32).toInt = (0 : Int32).toInt := fun z => c_33 (Int32.toInt_inj.mp z)
            have z_2 := congrArg Int32.toInt c_141
            have y_0 : (0 : Int32).toInt = 0 := by decide
            omega
          have hr_490 : (400 * ((Mv 5) : Int32).toInt + ((Mf 3) (Mv 5).toNatClampNeg).toInt) ≤ (400 * ((Mv 5) : Int32).toInt + (vy_18 (Mv 5).toNatClampNeg).toInt) := by
            have z_1 : ¬ (vy_20 : Int32).toInt = (0 : Int32).toInt := fun z => c_33 (Int32.toInt_inj.mp z)
            have z_2 := congrArg Int32.toInt c_141
            have y_0 : (0 : Int32).toInt = 0 := by decide
            omega
          have hp_491 : (((0 : Int32).toInt = 0 ∧ ¬ (sv_125 : Int32).toInt = 0) ∨ ((0 : Int32).toInt = 1 ∧ ((Mf 3) (Mv 5).toNatClampNeg).toInt ≤ (sv_131 (Mv 5).toNatClampNeg).toInt ∧ (sv_131 (Mv 5).toNatClampNeg).toInt ≤ (sv_124 : Int32).toInt)) := by
            have z_1 : ¬ (vy_20 : Int32).toInt = (0 : Int32).toInt := fun z => c_33 (Int32.toInt_inj.mp z)
            have z_2 := congrArg Int32.toInt c_141
            have y_0 : (0 : Int32).toInt = 0 := by decide
            omega
          have hm_492 : (0 : Int32).toInt = 0 → (RfE (pz_tst (rB (Mf 1) (Mv 0)) (pz_fact (rB (Mf 1) (Mv 0)) 10) (St0 (rB (Mf 1) (Mv 0)) (Mv 2) (Mv 6))) sv_125) := by
            intro h1r
            exact pf_485
          exact retI (v := 0) hx hb hr hlk (rfl) hP hD hS (sv_124, sv_125, sv_126, sv_127, sv_128, sv_129, sv_130, sv_131, sv_132) ⟨_, rfl, hp_491, ha_487, ha_488, (Agr.trans (k' := (400 * ((Mv 5) : Int32).toInt + ((Mf 3) (Mv 5).toNatClampNeg).toInt)) (Agr.mono pf_30 hr_489) pf_135 ⟨Int.le_refl _, hr_490⟩), (fun h => absurd h (by decide)), hm_492⟩ [0, 1, 2, 3, 4] rfl rfl dX12_tested_24 (Nat.le_of_ble_eq_true rfl) (Nat.le_of_ble_eq_true rfl) rfl
  have ha_493 : (Mv 2).toInt ≤ ((Mv 2) : Int32).toInt := by
    omega
  have ha_494 : 0 ≤ (1 : Int32).toInt ∧ (1 : Int32).toInt ≤ 1 := by
    have y_1 : (1 : Int32).toInt = 1 := by decide
    omega
  have ha_495 : (Mv 6).toInt ≤ ((Mv 6) : Int32).toInt ∧ ((Mv 6) : Int32).toInt ≤ 60 := by
    omega
  have ha_496 : ((Mf 3) (Mv 5).toNatClampNeg).toInt + (0 : Int32).toInt ≤ ((Mv 2) : Int32).toInt ∧ ((Mf 3) (Mv 5).toNatClampNeg).toInt ≤ ((Mf 3) (Mv 5).toNatClampNeg).toInt ∧ 0 ≤ (0 : Int32).toInt ∧ (0 : Int32).toInt ≤ 400 := by
    have y_0 : (0 : Int32).toInt = 0 := by decide
    omega
  have hr_497 : (1 : Int32).toInt = 1 := by
    have y_1 : (1 : Int32).toInt = 1 := by decide
    omega
  have hr_498 : (0 : Int32).toInt = 0 := by
    have y_0 : (0 : Int32).toInt = 0 := by decide
    omega
  have hr_499 : (0 : Int32).toInt = 0 := by
    have y_0 : (0 : Int32).toInt = 0 := by decide
    omega
  exact loop_23 _ (Mv 2) (Mv 3) (Mv 4) (Mv 6) 0 0 (Mf 2) (Mf 3) (Mf 7) 1 _ _ _ (Nat.lt_succ_self _) h_nx ha_493 ha_494 ha_495 ⟨fun _ => ⟨0, OpS.nil (by decide), h_cd⟩, fun h => absurd h (by decide)⟩ ha_496 (Agr.rf) (TsL.first hr_498 hr_499 h_w hr_497) hP hD hS hl
set_option maxRecDepth 100000 in
theorem cu_fX12_tested (l : Launch) (D : va_G) (tc : Nat → ClassId) (sk : (Nat → Nat) × (Nat → Nat)) (Ma_0 : Nat) (Ma_1 : Nat) (Ma_2 : Nat) (Ma_3 : Nat) (Ma_4 : Nat) (Ma_5 : Nat) (Ma_6 : Nat) (Ma_7 : Nat) (Ma_8 : Nat) (Ma_9 : Nat) (Ma_10 : Nat) (Ma_11 : Nat) (Ma_12 : Nat) (Ma_13 : Nat) (Ma_14 : Nat) (Ma_15 : Nat) (Ma_16 : Nat) (Ma_17 : Nat) (Ma_18 : Nat) (Ma_19 : Nat) (Ma_20 : Nat) (Mv_0 : Int32) (Mv_1 : Int32) (Mv_2 : Int32) (Mv_3 : Int32) (Mv_4 : Int32) (Mv_5 : Int32) (Mv_6 : Int32) (Mv_7 : Int32) (Mv_8 : Int32) (Mv_9 : Int32) (Mv_10 : Int32) (Mv_11 : Int32) (Mv_12 : Int32) (Mv_13 : Int32) (Mv_14 : Int32) (Mf_1 : Nat → Int32) (Mf_2 : Nat → Int32) (Mf_3 : Nat → Int32) (Mf_7 : Nat → Int32) (Mj_0 : Int64) (b : Int32) (h_nx : 0 ≤ (Mv_2 : Int32).toInt ∧ (Mv_2 : Int32).toInt ≤ (Mv_0 : Int32).toInt ∧ (Mv_0 : Int32).toInt ≤ 400) (h_cd : Cd Mf_2 Mf_3 Mv_5 b Mv_6 0) (h_L : (Mf_3 Mv_5.toNatClampNeg).toInt ≤ (Mv_2 : Int32).toInt) (h_md : 0 ≤ (Mv_6 : Int32).toInt ∧ (Mv_6 : Int32).toInt ≤ 60) (h_bs : ByS Mf_1) (h_w : (Mv_3 : Int32).toInt = 0) : Ct l yX12_tested cX12_tested 3 (some .boolean) { frames := 8, cells := 0, slots := 0, locals := 176 } D tc sk [.ref Ma_0] [(Ma_0, .inr (12, [.ref Ma_1, .int Mv_0, .int Mv_1, .ref Ma_2, .ref Ma_3, .ref Ma_4, .ref Ma_5, .ref Ma_6, .int Mv_2, .int Mv_3, .int Mv_4, .int Mv_5, .int Mv_6, .int Mv_7, .int Mv_8, .ref Ma_7, .int Mv_9, .ref Ma_8, .int Mv_10, .ref Ma_9, .ref Ma_10, .int Mv_11, .int Mv_12, .int Mv_13, .ref Ma_11, .int Mv_14, .ref Ma_12, .ref Ma_13, .ref Ma_14, .ref Ma_15, .ref Ma_16, .long Mj_0, .ref Ma_17, .ref Ma_18, .ref Ma_19, .ref Ma_20])), (Ma_1, .inl (tc 2, 400, .inl Mf_1)), (Ma_2, .inl (tc 0, 2400, .inl Mf_2)), (Ma_3, .inl (tc 0, 7, .inl Mf_3)), (Ma_7, .inl (tc 0, 400, .inl Mf_7))] (fun (v : Option Value) (u : (Int32) × (Int32) × (Int32) × (Int32) × (Int32) × (Int32) × (Nat → Int32) × (Nat → Int32) × (Nat → Int32)) => match u with | (oo0x1, oo0x2, oo0x3, oo0x4, oo0x5, oo0x6, oo0x7, oo0x8, oo0x9) => ∃ r : Int32, v = some (.int r) ∧ (((r.toInt = 0 ∧ ¬ (oo0x2 : Int32).toInt = 0) ∨ (r.toInt = 1 ∧ (Mf_3 Mv_5.toNatClampNeg).toInt ≤ (oo0x8 Mv_5.toNatClampNeg).toInt ∧ (oo0x8 Mv_5.toNatClampNeg).toInt ≤ (oo0x1 : Int32).toInt))) ∧ ((Mv_2 : Int32).toInt ≤ (oo0x1 : Int32).toInt ∧ (oo0x1 : Int32).toInt ≤ (Mv_0 : Int32).toInt) ∧ ((Mv_6 : Int32).toInt ≤ (oo0x4 : Int32).toInt ∧ (oo0x4 : Int32).toInt ≤ 60) ∧ (Agr Mf_2 oo0x7 (400 * (Mv_5 : Int32).toInt + (Mf_3 Mv_5.toNatClampNeg).toInt)) ∧ (r.toInt = 1 → (Cd oo0x7 oo0x8 Mv_5 b oo0x4 1) ∧ (RfO (pz_tst (rB Mf_1 Mv_0) (pz_fact (rB Mf_1 Mv_0) 10) (St0 (rB Mf_1 Mv_0) Mv_2 Mv_6)) (rB Mf_1 Mv_0) oo0x2 oo0x1 oo0x4)) ∧ (r.toInt = 0 → (RfE (pz_tst (rB Mf_1 Mv_0) (pz_fact (rB Mf_1 Mv_0) 10) (St0 (rB Mf_1 Mv_0) Mv_2 Mv_6)) oo0x2))) (fun (u : (Int32) × (Int32) × (Int32) × (Int32) × (Int32) × (Int32) × (Nat → Int32) × (Nat → Int32) × (Nat → Int32)) => match u with | (oo0x1, oo0x2, oo0x3, oo0x4, oo0x5, oo0x6, oo0x7, oo0x8, oo0x9) => [(Ma_0, .inr (12, [.ref Ma_1, .int Mv_0, .int Mv_1, .ref Ma_2, .ref Ma_3, .ref Ma_4, .ref Ma_5, .ref Ma_6, .int oo0x1, .int oo0x2, .int oo0x3, .int Mv_5, .int oo0x4, .int oo0x5, .int Mv_8, .ref Ma_7, .int oo0x6, .ref Ma_8, .int Mv_10, .ref Ma_9, .ref Ma_10, .int Mv_11, .int Mv_12, .int Mv_13, .ref Ma_11, .int Mv_14, .ref Ma_12, .ref Ma_13, .ref Ma_14, .ref Ma_15, .ref Ma_16, .long Mj_0, .ref Ma_17, .ref Ma_18, .ref Ma_19, .ref Ma_20])), (Ma_1, .inl (tc 2, 400, .inl Mf_1)), (Ma_2, .inl (tc 0, 2400, .inl oo0x7)), (Ma_3, .inl (tc 0, 7, .inl oo0x8)), (Ma_7, .inl (tc 0, 400, .inl oo0x9))]) 0 0 :=
  ct_fX12_tested l D tc sk (fun k => ([Ma_0, Ma_1, Ma_2, Ma_3, Ma_4, Ma_5, Ma_6, Ma_7, Ma_8, Ma_9, Ma_10, Ma_11, Ma_12, Ma_13, Ma_14, Ma_15, Ma_16, Ma_17, Ma_18, Ma_19, Ma_20] : List (Nat)).getD k 0) (fun k => ([Mv_0, Mv_1, Mv_2, Mv_3, Mv_4, Mv_5, Mv_6, Mv_7, Mv_8, Mv_9, Mv_10, Mv_11, Mv_12, Mv_13, Mv_14] : List (Int32)).getD k 0) (fun k => ([(fun _ => 0), Mf_1, Mf_2, Mf_3, (fun _ => 0), (fun _ => 0), (fun _ => 0), Mf_7] : List (Nat → Int32)).getD k (fun _ => 0)) (fun k => ([Mj_0] : List (Int64)).getD k 0) b h_nx h_cd h_L h_md h_bs h_w
