set_option maxRecDepth 16384
set_option maxHeartbeats 4000000 in
set_option maxRecDepth 100000 in
theorem ct_zX0_readClause (l : Launch) (D : va_G) (tc : Nat → ClassId) (sk : (Nat → Nat) × (Nat → Nat)) (Wa : Nat → Nat) (Aa : Nat → Nat) (Av : Nat → Int32) (Af : Nat → Nat → Int32) (Ta : Nat → Nat) (Tv : Nat → Int32) (Tf : Nat → Nat → Int32) (x1 : Int32) (rr : Except Int (Nat × Nat)) (q : Except Int QzU) (h_tape : 0 ≤ ((Tv 0) : Int32).toInt ∧ ((Tv 0) : Int32).toInt ≤ 400 ∧ 0 ≤ ((Tv 1) : Int32).toInt ∧ ((Tv 1) : Int32).toInt ≤ 400 ∧ 0 ≤ ((Tv 2) : Int32).toInt ∧ ((Tv 2) : Int32).toInt ≤ 400) (h_by : Byt (Tf 1)) (h_r : TpR (Tf 1) (Tv 0) rr (Tv 1) (Tv 2) (Tv 3) (Tv 4)) (h_bu : 0 ≤ ((Av 3) : Int32).toInt ∧ ((Av 3) : Int32).toInt ≤ 6) (h_x : 0 ≤ x1.toInt ∧ x1.toInt ≤ 40) (h_fq : FsR q rr) (h_qq : QsQ q (Av 0) (Av 1) (Av 2) (Av 3) (Av 4) (Av 5) (Af 1) (Af 2) (Af 3) (Af 4) (Af 5) (Af 6) (Af 7) (Af 8)) : Ct l yX0_readClause cX0_readClause 4 none { frames := 6, cells := 0, slots := 0, locals := 133 } D tc sk [.ref (Wa 0), .ref (Ta 0), .int x1] [((Wa 0), .inr (0, [.ref (Aa 0)])), ((Aa 0), .inr (9, [.int (Av 0), .int (Av 1), .int (Av 2), .int (Av 3), .int (Av 4), .int (Av 5), .ref (Aa 1), .ref (Aa 2), .ref (Aa 3), .ref (Aa 4), .ref (Aa 5), .ref (Aa 6), .ref (Aa 7), .ref (Aa 8)])), ((Aa 1), .inl (tc 0, 10, .inl (Af 1))), ((Aa 2), .inl (tc 0, 10, .inl (Af 2))), ((Aa 3), .inl (tc 0, 6, .inl (Af 3))), ((Aa 4), .inl (tc 0, 6, .inl (Af 4))), ((Aa 5), .inl (tc 0, 6, .inl (Af 5))), ((Aa 6), .inl (tc 0, 6, .inl (Af 6))), ((Aa 7), .inl (tc 0, 6, .inl (Af 7))), ((Aa 8), .inl (tc 0, 6, .inl (Af 8))), ((Ta 0), .inr (10, [.ref (Ta 1), .int (Tv 0), .int (Tv 1), .int (Tv 2), .int (Tv 3), .int (Tv 4)])), ((Ta 1), .inl (tc 0, 400, .inl (Tf 1)))] (fun (v : Option Value) (u : (Int32) × (Int32) × (Int32) × (Int32) × (Nat → Int32) × (Nat → Int32) × (Nat → Int32) × (Nat → Int32) × (Nat → Int32) × (Int32) × (Int32) × (Int32) × (Int32)) => match u with | (oo0x1, oo0x2, oo0x3, oo0x4, oo0x5, oo0x6, oo0x7, oo0x8, oo0x9, oo0x10, oo0x11, oo0x12, oo0x13) => v = none ∧ (0 ≤ ((Tv 0) : Int32).toInt ∧ ((Tv 0) : Int32).toInt ≤ 400 ∧ 0 ≤ (oo0x10 : Int32).toInt ∧ (oo0x10 : Int32).toInt ≤ 400 ∧ 0 ≤ (oo0x11 : Int32).toInt ∧ (oo0x11 : Int32).toInt ≤ 400) ∧ (0 ≤ (oo0x4 : Int32).toInt ∧ (oo0x4 : Int32).toInt ≤ 6) ∧ (TpR (Tf 1) (Tv 0) (fsC (pz_b q (qz_cl (cB (Tf 1) (Tv 0)) x1.toInt.toNat))) oo0x10 oo0x11 oo0x12 oo0x13) ∧ (QsQ (pz_b q (qz_cl (cB (Tf 1) (Tv 0)) x1.toInt.toNat)) oo0x1 oo0x2 oo0x3 oo0x4 (Av 4) (Av 5) oo0x5 oo0x6 oo0x7 oo0x8 oo0x9 (Af 6) (Af 7) (Af 8))) (fun (u : (Int32) × (Int32) × (Int32) × (Int32) × (Nat → Int32) × (Nat → Int32) × (Nat → Int32) × (Nat → Int32) × (Nat → Int32) × (Int32) × (Int32) × (Int32) × (Int32)) => match u with | (oo0x1, oo0x2, oo0x3, oo0x4, oo0x5, oo0x6, oo0x7, oo0x8, oo0x9, oo0x10, oo0x11, oo0x12, oo0x13) => [((Wa 0), .inr (0, [.ref (Aa 0)])), ((Aa 0), .inr (9, [.int oo0x1, .int oo0x2, .int oo0x3, .int oo0x4, .int (Av 4), .int (Av 5), .ref (Aa 1), .ref (Aa 2), .ref (Aa 3), .ref (Aa 4), .ref (Aa 5), .ref (Aa 6), .ref (Aa 7), .ref (Aa 8)])), ((Aa 1), .inl (tc 0, 10, .inl oo0x5)), ((Aa 2), .inl (tc 0, 10, .inl oo0x6)), ((Aa 3), .inl (tc 0, 6, .inl oo0x7)), ((Aa 4), .inl (tc 0, 6, .inl oo0x8)), ((Aa 5), .inl (tc 0, 6, .inl oo0x9)), ((Aa 6), .inl (tc 0, 6, .inl (Af 6))), ((Aa 7), .inl (tc 0, 6, .inl (Af 7))), ((Aa 8), .inl (tc 0, 6, .inl (Af 8))), ((Ta 0), .inr (10, [.ref (Ta 1), .int (Tv 0), .int oo0x10, .int oo0x11, .int oo0x12, .int oo0x13])), ((Ta 1), .inl (tc 0, 400, .inl (Tf 1)))]) 0 0 := by
  refine Ct.start (by decide) (Nat.le_of_ble_eq_true rfl) (fun p e s m below meth c A ls hx hb hr hlk hin hml hown hts hK hX hP hD hA hl hS => ?_)
  have hl : lv_has ls 4 [(0, .ref (Wa 0)), (1, .ref (Ta 0)), (2, .int x1)] := hl
  have tb_1 : TpB (rTE (cB (Tf 1) (Tv 0)) rr) (Tv 2) (Tv 4) := TpR.tb h_r
  refine lv_aload_n hx hb dX0_readClause_0 rfl (lv_at hl 1 rfl) ?_
  refine va_ldcS hx hb hown (sx_0 hX) dX0_readClause_1 ?_
  have ha_2 : (0 : Nat) < 7 := by
    have y_0 : (0 : Int32).toInt = 0 := by decide
    omega
  refine cV (a := (Ta 0)) (As := [.ref (sk.1 0)]) (rest := []) (wr := [((Wa 0), .inr (0, [.ref (Aa 0)])), ((Aa 0), .inr (9, [.int (Av 0), .int (Av 1), .int (Av 2), .int (Av 3), .int (Av 4), .int (Av 5), .ref (Aa 1), .ref (Aa 2), .ref (Aa 3), .ref (Aa 4), .ref (Aa 5), .ref (Aa 6), .ref (Aa 7), .ref (Aa 8)])), ((Aa 1), .inl (tc 0, 10, .inl (Af 1))), ((Aa 2), .inl (tc 0, 10, .inl (Af 2))), ((Aa 3), .inl (tc 0, 6, .inl (Af 3))), ((Aa 4), .inl (tc 0, 6, .inl (Af 4))), ((Aa 5), .inl (tc 0, 6, .inl (Af 5))), ((Aa 6), .inl (tc 0, 6, .inl (Af 6))), ((Aa 7), .inl (tc 0, 6, .inl (Af 7))), ((Aa 8), .inl (tc 0, 6, .inl (Af 8)))]) ⟨hx, hb, hml, hown, hts⟩ hK hX hA (cu_fX10_wordAmong l D tc sk (Ta 0) (Ta 1) (Tv 0) (Tv 1) (Tv 2) (Tv 3) (Tv 4) (Tf 1) 0 rr ha_2 h_tape h_by h_r) k_501 k_498 k_499 k_500 k_96 pl_X10_wordAmong ⟨Nat.le_of_ble_eq_true rfl, Nat.le_of_ble_eq_true rfl⟩ rfl rfl (va_recv hK hP (ci := 10) (q0 := 10) rfl rfl) hP hD hS [10, 11] [0, 1, 2, 3, 4, 5, 6, 7, 8, 9] rfl rfl rfl rfl rfl (by decide) rfl hl.1 rfl (Nat.le_of_ble_eq_true rfl) dX0_readClause_3 ⟨Nat.le_of_ble_eq_true rfl, Nat.le_of_ble_eq_true rfl⟩ (fun v_3 u_4 H locs hv_5 hP₀ hD₀ hS₀ => ?_)
  obtain ⟨r_6, rfl, he_7⟩ := hv_5
  have he_7 : r_6.toInt = waR (cB (Tf 1) (Tv 0)) (wL (0 : Nat)) 0 rr := he_7
  refine W.eq (g2 := F0 m 6 ls [.int r_6]) rfl ?_
  replace hP : va_P D classes [((Wa 0), .inr (0, [.ref (Aa 0)])), ((Aa 0), .inr (9, [.int (Av 0), .int (Av 1), .int (Av 2), .int (Av 3), .int (Av 4), .int (Av 5), .ref (Aa 1), .ref (Aa 2), .ref (Aa 3), .ref (Aa 4), .ref (Aa 5), .ref (Aa 6), .ref (Aa 7), .ref (Aa 8)])), ((Aa 1), .inl (tc 0, 10, .inl (Af 1))), ((Aa 2), .inl (tc 0, 10, .inl (Af 2))), ((Aa 3), .inl (tc 0, 6, .inl (Af 3))), ((Aa 4), .inl (tc 0, 6, .inl (Af 4))), ((Aa 5), .inl (tc 0, 6, .inl (Af 5))), ((Aa 6), .inl (tc 0, 6, .inl (Af 6))), ((Aa 7), .inl (tc 0, 6, .inl (Af 7))), ((Aa 8), .inl (tc 0, 6, .inl (Af 8))), ((Ta 0), .inr (10, [.ref (Ta 1), .int (Tv 0), .int (Tv 1), .int (Tv 2), .int (Tv 3), .int (Tv 4)])), ((Ta 1), .inl (tc 0, 400, .inl (Tf 1)))] H := hP₀
  replace hD : va_D A [((Wa 0), .inr (0, [.ref (Aa 0)])), ((Aa 0), .inr (9, [.int (Av 0), .int (Av 1), .int (Av 2), .int (Av 3), .int (Av 4), .int (Av 5), .ref (Aa 1), .ref (Aa 2), .ref (Aa 3), .ref (Aa 4), .ref (Aa 5), .ref (Aa 6), .ref (Aa 7), .ref (Aa 8)])), ((Aa 1), .inl (tc 0, 10, .inl (Af 1))), ((Aa 2), .inl (tc 0, 10, .inl (Af 2))), ((Aa 3), .inl (tc 0, 6, .inl (Af 3))), ((Aa 4), .inl (tc 0, 6, .inl (Af 4))), ((Aa 5), .inl (tc 0, 6, .inl (Af 5))), ((Aa 6), .inl (tc 0, 6, .inl (Af 6))), ((Aa 7), .inl (tc 0, 6, .inl (Af 7))), ((Aa 8), .inl (tc 0, 6, .inl (Af 8))), ((Ta 0), .inr (10, [.ref (Ta 1), .int (Tv 0), .int (Tv 1), .int (Tv 2), .int (Tv 3), .int (Tv 4)])), ((Ta 1), .inl (tc 0, 400, .inl (Tf 1)))] := hD₀
  replace hS := hS₀
  clear hP₀ hD₀ hS₀
  have hge : -1 ≤ (r_6 : Int32).toInt := by rw [he_7]; exact waR_ge
  refine lv_istore_n (lv' := [(3, .int r_6), (0, .ref (Wa 0)), (1, .ref (Ta 0)), (2, .int x1)]) hx hb dX0_readClause_6 rfl hl (by decide) rfl (fun ls hl₀ => ?_)
  replace hl := hl₀
  clear hl₀
  refine lv_iload_n hx hb dX0_readClause_7 rfl (lv_at hl 0 rfl) ?_
  refine lv_iconst (v := (-1)) hx hb dX0_readClause_8 (by decide) ?_
  refine lv_icmp_ne (tgt := 20) hx hb dX0_readClause_9 (by decide) (fun c_9 => ?_) (fun c_9 => ?_)
  · skip
    refine lv_iload_n hx hb dX0_readClause_20 rfl (lv_at hl 3 rfl) ?_
    refine lv_bipush (v := 40) hx hb dX0_readClause_21 (by decide) ?_
    refine lv_icmp_ge (tgt := 64) hx hb dX0_readClause_23 (by decide) (fun c_10 => ?_) (fun c_10 => ?_)
    · skip
      refine lv_aload_n hx hb dX0_readClause_64 rfl (lv_at hl 2 rfl) ?_
      refine lv_iconst (v := 4) hx hb dX0_readClause_65 (by decide) ?_
      have ha_11 : 0 ≤ (4 : Int32).toInt ∧ (4 : Int32).toInt ≤ 4 := by
        have z_1 : ¬ (r_6 : Int32).toInt = ((-1) : Int32).toInt := fun z => c_9 (Int32.toInt_inj.mp z)
        have z_2 := Int32.le_iff_toInt_le.mp c_10
        have y_m1 : (-1 : Int32).toInt = -1 := by decide
        have y_40 : (40 : Int32).toInt = 40 := by decide
        have y_4 : (4 : Int32).toInt = 4 := by decide
        omega
      have ha_12 : (4 : Int32).toInt = (4 : Int) := by
        have z_1 : ¬ (r_6 : Int32).toInt = ((-1) : Int32).toInt := fun z => c_9 (Int32.toInt_inj.mp z)
        have z_2 := Int32.le_iff_toInt_le.mp c_10
        have y_m1 : (-1 : Int32).toInt = -1 := by decide
        have y_40 : (40 : Int32).toInt = 40 := by decide
        have y_4 : (4 : Int32).toInt = 4 := by decide
        omega
      refine cV (a := (Ta 0)) (As := [.int 4]) (rest := []) (wr := [((Wa 0), .inr (0, [.ref (Aa 0)])), ((Aa 0), .inr (9, [.int (Av 0), .int (Av 1), .int (Av 2), .int (Av 3), .int (Av 4), .int (Av 5), .ref (Aa 1), .ref (Aa 2), .ref (Aa 3), .ref (Aa 4), .ref (Aa 5), .ref (Aa 6), .ref (Aa 7), .ref (Aa 8)])), ((Aa 1), .inl (tc 0, 10, .inl (Af 1))), ((Aa 2), .inl (tc 0, 10, .inl (Af 2))), ((Aa 3), .inl (tc 0, 6, .inl (Af 3))), ((Aa 4), .inl (tc 0, 6, .inl (Af 4))), ((Aa 5), .inl (tc 0, 6, .inl (Af 5))), ((Aa 6), .inl (tc 0, 6, .inl (Af 6))), ((Aa 7), .inl (tc 0, 6, .inl (Af 7))), ((Aa 8), .inl (tc 0, 6, .inl (Af 8)))]) ⟨hx, hb, hml, hown, hts⟩ hK hX hA (cu_fX10_fail l D tc sk (Ta 0) (Ta 1) (Tv 0) (Tv 1) (Tv 2) (Tv 3) (Tv 4) (Tf 1) 4 rr 4 h_tape h_r ha_11 ha_12) k_557 k_554 k_555 k_556 k_96 pl_X10_fail ⟨Nat.le_of_ble_eq_true rfl, Nat.le_of_ble_eq_true rfl⟩ rfl rfl (va_recv hK hP (ci := 10) (q0 := 10) rfl rfl) hP hD hS [10, 11] [0, 1, 2, 3, 4, 5, 6, 7, 8, 9] rfl rfl rfl rfl rfl (by decide) rfl hl.1 rfl (Nat.le_of_ble_eq_true rfl) dX0_readClause_66 ⟨Nat.le_of_ble_eq_true rfl, Nat.le_of_ble_eq_true rfl⟩ (fun v_13 u_14 H locs hv_15 hP₀ hD₀ hS₀ => ?_)
      obtain ⟨sv_16, sv_17⟩ := u_14
      obtain ⟨rfl, pf_18, pf_19⟩ := hv_15
      have pf_18 : 0 ≤ ((Tv 0) : Int32).toInt ∧ ((Tv 0) : Int32).toInt ≤ 400 ∧ 0 ≤ ((Tv 1) : Int32).toInt ∧ ((Tv 1) : Int32).toInt ≤ 400 ∧ 0 ≤ ((Tv 2) : Int32).toInt ∧ ((Tv 2) : Int32).toInt ≤ 400 := pf_18
      have pf_19 : TpR (Tf 1) (Tv 0) (rER (4 : Int) rr) (Tv 1) (Tv 2) sv_16 sv_17 := pf_19
      obtain ⟨ro_20, ero_20⟩ : ∃ z : Except Int (Nat × Nat), z = (rER 4 rr) := ⟨_, rfl⟩
      rw [← ero_20] at pf_19
      have tb_21 : TpB (rTE (cB (Tf 1) (Tv 0)) ro_20) (Tv 2) sv_17 := TpR.tb pf_19
      refine W.eq (g2 := F0 m 69 ls []) rfl ?_
      replace hP : va_P D classes [((Wa 0), .inr (0, [.ref (Aa 0)])), ((Aa 0), .inr (9, [.int (Av 0), .int (Av 1), .int (Av 2), .int (Av 3), .int (Av 4), .int (Av 5), .ref (Aa 1), .ref (Aa 2), .ref (Aa 3), .ref (Aa 4), .ref (Aa 5), .ref (Aa 6), .ref (Aa 7), .ref (Aa 8)])), ((Aa 1), .inl (tc 0, 10, .inl (Af 1))), ((Aa 2), .inl (tc 0, 10, .inl (Af 2))), ((Aa 3), .inl (tc 0, 6, .inl (Af 3))), ((Aa 4), .inl (tc 0, 6, .inl (Af 4))), ((Aa 5), .inl (tc 0, 6, .inl (Af 5))), ((Aa 6), .inl (tc 0, 6, .inl (Af 6))), ((Aa 7), .inl (tc 0, 6, .inl (Af 7))), ((Aa 8), .inl (tc 0, 6, .inl (Af 8))), ((Ta 0), .inr (10, [.ref (Ta 1), .int (Tv 0), .int (Tv 1), .int (Tv 2), .int sv_16, .int sv_17])), ((Ta 1), .inl (tc 0, 400, .inl (Tf 1)))] H := hP₀
      replace hD : va_D A [((Wa 0), .inr (0, [.ref (Aa 0)])), ((Aa 0), .inr (9, [.int (Av 0), .int (Av 1), .int (Av 2), .int (Av 3), .int (Av 4), .int (Av 5), .ref (Aa 1), .ref (Aa 2), .ref (Aa 3), .ref (Aa 4), .ref (Aa 5), .ref (Aa 6), .ref (Aa 7), .ref (Aa 8)])), ((Aa 1), .inl (tc 0, 10, .inl (Af 1))), ((Aa 2), .inl (tc 0, 10, .inl (Af 2))), ((Aa 3), .inl (tc 0, 6, .inl (Af 3))), ((Aa 4), .inl (tc 0, 6, .inl (Af 4))), ((Aa 5), .inl (tc 0, 6, .inl (Af 5))), ((Aa 6), .inl (tc 0, 6, .inl (Af 6))), ((Aa 7), .inl (tc 0, 6, .inl (Af 7))), ((Aa 8), .inl (tc 0, 6, .inl (Af 8))), ((Ta 0), .inr (10, [.ref (Ta 1), .int (Tv 0), .int (Tv 1), .int (Tv 2), .int sv_16, .int sv_17])), ((Ta 1), .inl (tc 0, 400, .inl (Tf 1)))] := hD₀
      replace hS := hS₀
      clear hP₀ hD₀ hS₀
      refine lv_goto (tgt := 119) hx hb dX0_readClause_69 (by decide) ?_
      have hc_22w : waR (cB (Tf 1) (Tv 0)) (wL 0) 0 (fsC q) = (r_6 : Int32).toInt := by rw [h_fq]; exact he_7.symm
      have hr_23 : 40 ≤ x1.toInt.toNat ∨ ¬ ((r_6 : Int32).toInt = 0 ↔ x1.toInt.toNat = 0) ∨ ((r_6 : Int32).toInt = 2 ∧ 6 ≤ (Av 3).toInt) := by
        have z_1 : ¬ (r_6 : Int32).toInt = ((-1) : Int32).toInt := fun z => c_9 (Int32.toInt_inj.mp z)
        have z_2 := Int32.le_iff_toInt_le.mp c_10
        have y_m1 : (-1 : Int32).toInt = -1 := by decide
        have y_40 : (40 : Int32).toInt = 40 := by decide
        omega
      have hr_24 : ¬ (r_6 : Int32).toInt = -1 := by
        have z_1 : ¬ (r_6 : Int32).toInt = ((-1) : Int32).toInt := fun z => c_9 (Int32.toInt_inj.mp z)
        have z_2 := Int32.le_iff_toInt_le.mp c_10
        have y_m1 : (-1 : Int32).toInt = -1 := by decide
        have y_40 : (40 : Int32).toInt = 40 := by decide
        omega
      have hc_22 := qc_bad (l := x1.toInt.toNat) hc_22w hr_24 h_qq hr_23
      have hc_22q : QsQ (pz_b q (qz_cl (cB (Tf 1) (Tv 0)) x1.toInt.toNat)) (Av 0) (Av 1) (Av 2) (Av 3) (Av 4) (Av 5) (Af 1) (Af 2) (Af 3) (Af 4) (Af 5) (Af 6) (Af 7) (Af 8) := QsQ.er hc_22
      rw [h_fq] at hc_22
      have hu_25 : TpR (Tf 1) (Tv 0) (rER 4 rr) (Tv 1) (Tv 2) sv_16 sv_17 := by
        rw [← ero_20]
        exact pf_19
      have hf_26 : TpR (Tf 1) (Tv 0) (fsC (pz_b q (qz_cl (cB (Tf 1) (Tv 0)) x1.toInt.toNat))) (Tv 1) (Tv 2) sv_16 sv_17 := by
        rw [hc_22]
        exact hu_25
      exact retV hx hb hr hlk hP hD hS ((Av 0), (Av 1), (Av 2), (Av 3), (Af 1), (Af 2), (Af 3), (Af 4), (Af 5), (Tv 1), (Tv 2), sv_16, sv_17) ⟨rfl, pf_18, h_bu, hf_26, hc_22q⟩ [0, 1, 2, 3, 4, 5, 6, 7, 8, 9, 10, 11] rfl rfl dX0_readClause_119 (Nat.le_of_ble_eq_true rfl) (Nat.le_of_ble_eq_true rfl) rfl
    · skip
      refine lv_iload_n hx hb dX0_readClause_26 rfl (lv_at hl 0 rfl) ?_
      refine lv_if_ne (tgt := 34) hx hb dX0_readClause_27 (by decide) (fun c_27 => ?_) (fun c_27 => ?_)
      · skip
        refine lv_iconst (v := 0) hx hb dX0_readClause_34 (by decide) ?_
        refine lv_iload_n hx hb dX0_readClause_35 rfl (lv_at hl 3 rfl) ?_
        refine lv_if_ne (tgt := 43) hx hb dX0_readClause_36 (by decide) (fun c_28 => ?_) (fun c_28 => ?_)
        · skip
          refine lv_iconst (v := 0) hx hb dX0_readClause_43 (by decide) ?_
          refine lv_icmp_ne (tgt := 64) hx hb dX0_readClause_44 (by decide) (fun c_29 => absurd c_29 (by decide)) (fun c_29 => ?_)
          refine lv_iload_n hx hb dX0_readClause_47 rfl (lv_at hl 0 rfl) ?_
          refine lv_iconst (v := 2) hx hb dX0_readClause_48 (by decide) ?_
          refine lv_icmp_ne (tgt := 72) hx hb dX0_readClause_49 (by decide) (fun c_30 => ?_) (fun c_30 => ?_)
          · skip
            refine lv_aload_n hx hb dX0_readClause_72 rfl (lv_at hl 2 rfl) ?_
            refine cV (a := (Ta 0)) (As := []) (rest := []) (wr := [((Wa 0), .inr (0, [.ref (Aa 0)])), ((Aa 0), .inr (9, [.int (Av 0), .int (Av 1), .int (Av 2), .int (Av 3), .int (Av 4), .int (Av 5), .ref (Aa 1), .ref (Aa 2), .ref (Aa 3), .ref (Aa 4), .ref (Aa 5), .ref (Aa 6), .ref (Aa 7), .ref (Aa 8)])), ((Aa 1), .inl (tc 0, 10, .inl (Af 1))), ((Aa 2), .inl (tc 0, 10, .inl (Af 2))), ((Aa 3), .inl (tc 0, 6, .inl (Af 3))), ((Aa 4), .inl (tc 0, 6, .inl (Af 4))), ((Aa 5), .inl (tc 0, 6, .inl (Af 5))), ((Aa 6), .inl (tc 0, 6, .inl (Af 6))), ((Aa 7), .inl (tc 0, 6, .inl (Af 7))), ((Aa 8), .inl (tc 0, 6, .inl (Af 8)))]) ⟨hx, hb, hml, hown, hts⟩ hK hX hA (cu_fX10_step l D tc sk (Ta 0) (Ta 1) (Tv 0) (Tv 1) (Tv 2) (Tv 3) (Tv 4) (Tf 1) (rTE (cB (Tf 1) (Tv 0)) rr) h_tape h_by tb_1) k_478 k_558 k_476 k_477 k_96 pl_X10_step ⟨Nat.le_of_ble_eq_true rfl, Nat.le_of_ble_eq_true rfl⟩ rfl rfl (va_recv hK hP (ci := 10) (q0 := 10) rfl rfl) hP hD hS [10, 11] [0, 1, 2, 3, 4, 5, 6, 7, 8, 9] rfl rfl rfl rfl rfl (by decide) rfl hl.1 rfl (Nat.le_of_ble_eq_true rfl) dX0_readClause_73 ⟨Nat.le_of_ble_eq_true rfl, Nat.le_of_ble_eq_true rfl⟩ (fun v_31 u_32 H locs hv_33 hP₀ hD₀ hS₀ => ?_)
            obtain ⟨sv_34, sv_35, sv_36⟩ := u_32
            obtain ⟨rfl, pf_37, pf_38⟩ := hv_33
            have pf_37 : 0 ≤ ((Tv 0) : Int32).toInt ∧ ((Tv 0) : Int32).toInt ≤ 400 ∧ 0 ≤ (sv_34 : Int32).toInt ∧ (sv_34 : Int32).toInt ≤ 400 ∧ 0 ≤ (sv_35 : Int32).toInt ∧ (sv_35 : Int32).toInt ≤ 400 := pf_37
            have pf_38 : TpR (Tf 1) (Tv 0) (rSK (cB (Tf 1) (Tv 0)) (rTE (cB (Tf 1) (Tv 0)) rr)) sv_34 sv_35 sv_36 (Tv 4) := pf_38
            rw [rNX_eq] at pf_38
            obtain ⟨ro_39, ero_39⟩ : ∃ z : Except Int (Nat × Nat), z = (rNX (cB (Tf 1) (Tv 0)) rr) := ⟨_, rfl⟩
            rw [← ero_39] at pf_38
            have tb_40 : TpB (rTE (cB (Tf 1) (Tv 0)) ro_39) sv_35 (Tv 4) := TpR.tb pf_38
            refine W.eq (g2 := F0 m 76 ls []) rfl ?_
            replace hP : va_P D classes [((Wa 0), .inr (0, [.ref (Aa 0)])), ((Aa 0), .inr (9, [.int (Av 0), .int (Av 1), .int (Av 2), .int (Av 3), .int (Av 4), .int (Av 5), .ref (Aa 1), .ref (Aa 2), .ref (Aa 3), .ref (Aa 4), .ref (Aa 5), .ref (Aa 6), .ref (Aa 7), .ref (Aa 8)])), ((Aa 1), .inl (tc 0, 10, .inl (Af 1))), ((Aa 2), .inl (tc 0, 10, .inl (Af 2))), ((Aa 3), .inl (tc 0, 6, .inl (Af 3))), ((Aa 4), .inl (tc 0, 6, .inl (Af 4))), ((Aa 5), .inl (tc 0, 6, .inl (Af 5))), ((Aa 6), .inl (tc 0, 6, .inl (Af 6))), ((Aa 7), .inl (tc 0, 6, .inl (Af 7))), ((Aa 8), .inl (tc 0, 6, .inl (Af 8))), ((Ta 0), .inr (10, [.ref (Ta 1), .int (Tv 0), .int sv_34, .int sv_35, .int sv_36, .int (Tv 4)])), ((Ta 1), .inl (tc 0, 400, .inl (Tf 1)))] H := hP₀
            replace hD : va_D A [((Wa 0), .inr (0, [.ref (Aa 0)])), ((Aa 0), .inr (9, [.int (Av 0), .int (Av 1), .int (Av 2), .int (Av 3), .int (Av 4), .int (Av 5), .ref (Aa 1), .ref (Aa 2), .ref (Aa 3), .ref (Aa 4), .ref (Aa 5), .ref (Aa 6), .ref (Aa 7), .ref (Aa 8)])), ((Aa 1), .inl (tc 0, 10, .inl (Af 1))), ((Aa 2), .inl (tc 0, 10, .inl (Af 2))), ((Aa 3), .inl (tc 0, 6, .inl (Af 3))), ((Aa 4), .inl (tc 0, 6, .inl (Af 4))), ((Aa 5), .inl (tc 0, 6, .inl (Af 5))), ((Aa 6), .inl (tc 0, 6, .inl (Af 6))), ((Aa 7), .inl (tc 0, 6, .inl (Af 7))), ((Aa 8), .inl (tc 0, 6, .inl (Af 8))), ((Ta 0), .inr (10, [.ref (Ta 1), .int (Tv 0), .int sv_34, .int sv_35, .int sv_36, .int (Tv 4)])), ((Ta 1), .inl (tc 0, 400, .inl (Tf 1)))] := hD₀
            replace hS := hS₀
            clear hP₀ hD₀ hS₀
            have pf_41 : QcI ro_39 (Av 0) (Av 1) (Av 2) (Av 3) (Av 4) (Av 5) (Af 1) (Af 2) (Af 3) (Af 4) (Af 5) (Af 6) (Af 7) (Af 8) (cnQ q) := by rw [ero_39]; exact QsQ.ci h_qq h_fq
            refine lv_iload_n hx hb dX0_readClause_76 rfl (lv_at hl 0 rfl) ?_
            refine lv_if_ne (tgt := 88) hx hb dX0_readClause_77 (by decide) (fun c_42 => ?_) (fun c_42 => ?_)
            · skip
              refine lv_iload_n hx hb dX0_readClause_88 rfl (lv_at hl 0 rfl) ?_
              refine lv_iconst (v := 1) hx hb dX0_readClause_89 (by decide) ?_
              refine lv_icmp_ne (tgt := 101) hx hb dX0_readClause_90 (by decide) (fun c_43 => ?_) (fun c_43 => ?_)
              · skip
                refine lv_iload_n hx hb dX0_readClause_101 rfl (lv_at hl 0 rfl) ?_
                refine lv_iconst (v := 2) hx hb dX0_readClause_102 (by decide) ?_
                refine lv_icmp_ne (tgt := 114) hx hb dX0_readClause_103 (by decide) (fun c_44 => ?_) (fun c_44 => ?_)
                · skip
                  refine lv_aload_n hx hb dX0_readClause_114 rfl (lv_at hl 1 rfl) ?_
                  refine lv_aload_n hx hb dX0_readClause_115 rfl (lv_at hl 2 rfl) ?_
                  refine cV (a := (Wa 0)) (As := [.ref (Ta 0)]) (rest := []) (wr := []) ⟨hx, hb, hml, hown, hts⟩ hK hX hA (cu_zX0_readWatch l D tc sk (Wa 0) (Aa 0) (Aa 1) (Aa 2) (Aa 3) (Aa 4) (Aa 5) (Aa 6) (Aa 7) (Aa 8) (Av 0) (Av 1) (Av 2) (Av 3) (Av 4) (Av 5) (Af 1) (Af 2) (Af 3) (Af 4) (Af 5) (Af 6) (Af 7) (Af 8) (Ta 0) (Ta 1) (Tv 0) sv_34 sv_35 sv_36 (Tv 4) (Tf 1) ro_39 (cnQ q) pf_37 h_by pf_38 h_bu pf_41) k_587 k_584 k_586 k_6 k_97 pl_X0_readWatch ⟨Nat.le_of_ble_eq_true rfl, Nat.le_of_ble_eq_true rfl⟩ rfl rfl (va_recv hK hP (ci := 0) (q0 := 0) rfl rfl) hP hD hS [0, 1, 2, 3, 4, 5, 6, 7, 8, 9, 10, 11] [] rfl rfl rfl rfl rfl (by decide) rfl hl.1 rfl (Nat.le_of_ble_eq_true rfl) dX0_readClause_116 ⟨Nat.le_of_ble_eq_true rfl, Nat.le_of_ble_eq_true rfl⟩ (fun v_45 u_46 H locs hv_47 hP₀ hD₀ hS₀ => ?_)
                  obtain ⟨sv_48, sv_49, sv_50, sv_51, sv_52⟩ := u_46
                  obtain ⟨rfl, pf_53, pf_54, pf_55, pf_56⟩ := hv_47
                  have pf_53 : 0 ≤ ((Tv 0) : Int32).toInt ∧ ((Tv 0) : Int32).toInt ≤ 400 ∧ 0 ≤ (sv_49 : Int32).toInt ∧ (sv_49 : Int32).toInt ≤ 400 ∧ 0 ≤ (sv_50 : Int32).toInt ∧ (sv_50 : Int32).toInt ≤ 400 := pf_53
                  have pf_54 : 0 ≤ ((Av 3) : Int32).toInt ∧ ((Av 3) : Int32).toInt ≤ 6 := pf_54
                  have pf_55 : TpR (Tf 1) (Tv 0) (rN1 (cB (Tf 1) (Tv 0)) 0 ((Av 3).toInt - 1) (rN1 (cB (Tf 1) (Tv 0)) 0 ((Av 2) - 1 : Int32).toInt ro_39)) sv_49 sv_50 sv_51 sv_52 := pf_55
                  obtain ⟨ro_57, ero_57⟩ : ∃ z : Except Int (Nat × Nat), z = (rN1 (cB (Tf 1) (Tv 0)) 0 ((Av 3).toInt - 1) (rN1 (cB (Tf 1) (Tv 0)) 0 ((Av 2) - 1 : Int32).toInt ro_39)) := ⟨_, rfl⟩
                  rw [← ero_57] at pf_55
                  have tb_58 : TpB (rTE (cB (Tf 1) (Tv 0)) ro_57) sv_50 sv_52 := TpR.tb pf_55
                  have pf_56 : QsQ (qz_k3 (cB (Tf 1) (Tv 0)) (cnQ q) ro_39) (Av 0) (Av 1) (Av 2) (Av 3) (Av 4) (Av 5) (Af 1) sv_48 (Af 3) (Af 4) (Af 5) (Af 6) (Af 7) (Af 8) := pf_56
                  refine W.eq (g2 := F0 m 119 ls []) rfl ?_
                  replace hP : va_P D classes [((Wa 0), .inr (0, [.ref (Aa 0)])), ((Aa 0), .inr (9, [.int (Av 0), .int (Av 1), .int (Av 2), .int (Av 3), .int (Av 4), .int (Av 5), .ref (Aa 1), .ref (Aa 2), .ref (Aa 3), .ref (Aa 4), .ref (Aa 5), .ref (Aa 6), .ref (Aa 7), .ref (Aa 8)])), ((Aa 1), .inl (tc 0, 10, .inl (Af 1))), ((Aa 2), .inl (tc 0, 10, .inl sv_48)), ((Aa 3), .inl (tc 0, 6, .inl (Af 3))), ((Aa 4), .inl (tc 0, 6, .inl (Af 4))), ((Aa 5), .inl (tc 0, 6, .inl (Af 5))), ((Aa 6), .inl (tc 0, 6, .inl (Af 6))), ((Aa 7), .inl (tc 0, 6, .inl (Af 7))), ((Aa 8), .inl (tc 0, 6, .inl (Af 8))), ((Ta 0), .inr (10, [.ref (Ta 1), .int (Tv 0), .int sv_49, .int sv_50, .int sv_51, .int sv_52])), ((Ta 1), .inl (tc 0, 400, .inl (Tf 1)))] H := hP₀
                  replace hD : va_D A [((Wa 0), .inr (0, [.ref (Aa 0)])), ((Aa 0), .inr (9, [.int (Av 0), .int (Av 1), .int (Av 2), .int (Av 3), .int (Av 4), .int (Av 5), .ref (Aa 1), .ref (Aa 2), .ref (Aa 3), .ref (Aa 4), .ref (Aa 5), .ref (Aa 6), .ref (Aa 7), .ref (Aa 8)])), ((Aa 1), .inl (tc 0, 10, .inl (Af 1))), ((Aa 2), .inl (tc 0, 10, .inl sv_48)), ((Aa 3), .inl (tc 0, 6, .inl (Af 3))), ((Aa 4), .inl (tc 0, 6, .inl (Af 4))), ((Aa 5), .inl (tc 0, 6, .inl (Af 5))), ((Aa 6), .inl (tc 0, 6, .inl (Af 6))), ((Aa 7), .inl (tc 0, 6, .inl (Af 7))), ((Aa 8), .inl (tc 0, 6, .inl (Af 8))), ((Ta 0), .inr (10, [.ref (Ta 1), .int (Tv 0), .int sv_49, .int sv_50, .int sv_51, .int sv_52])), ((Ta 1), .inl (tc 0, 400, .inl (Tf 1)))] := hD₀
                  replace hS := hS₀
                  clear hP₀ hD₀ hS₀
                  have hc_59w : waR (cB (Tf 1) (Tv 0)) (wL 0) 0 (fsC q) = (r_6 : Int32).toInt := by rw [h_fq]; exact he_7.symm
                  have hr_60 : 3 ≤ (r_6 : Int32).toInt := by
                    have z_1 : ¬ (r_6 : Int32).toInt = ((-1) : Int32).toInt := fun z => c_9 (Int32.toInt_inj.mp z)
                    have z_2 := Int32.lt_iff_toInt_lt.mp (Int32.not_le.mp c_10)
                    have z_3 : ¬ (r_6 : Int32).toInt = (0 : Int32).toInt := fun z => c_27 (Int32.toInt_inj.mp z)
                    have z_4 : ¬ (x1 : Int32).toInt = (0 : Int32).toInt := fun z => c_28 (Int32.toInt_inj.mp z)
                    have z_5 : ¬ (r_6 : Int32).toInt = (2 : Int32).toInt := fun z => c_30 (Int32.toInt_inj.mp z)
                    have z_6 : ¬ (r_6 : Int32).toInt = (0 : Int32).toInt := fun z => c_42 (Int32.toInt_inj.mp z)
                    have z_7 : ¬ (r_6 : Int32).toInt = (1 : Int32).toInt := fun z => c_43 (Int32.toInt_inj.mp z)
                    have z_8 : ¬ (r_6 : Int32).toInt = (2 : Int32).toInt := fun z => c_44 (Int32.toInt_inj.mp z)
                    have y_m1 : (-1 : Int32).toInt = -1 := by decide
                    have y_0 : (0 : Int32).toInt = 0 := by decide
                    have y_1 : (1 : Int32).toInt = 1 := by decide
                    have y_2 : (2 : Int32).toInt = 2 := by decide
                    have y_40 : (40 : Int32).toInt = 40 := by decide
                    omega
                  have hr_61 : 1 ≤ x1.toInt.toNat ∧ x1.toInt.toNat < 40 := by
                    have z_1 : ¬ (r_6 : Int32).toInt = ((-1) : Int32).toInt := fun z => c_9 (Int32.toInt_inj.mp z)
                    have z_2 := Int32.lt_iff_toInt_lt.mp (Int32.not_le.mp c_10)
                    have z_3 : ¬ (r_6 : Int32).toInt = (0 : Int32).toInt := fun z => c_27 (Int32.toInt_inj.mp z)
                    have z_4 : ¬ (x1 : Int32).toInt = (0 : Int32).toInt := fun z => c_28 (Int32.toInt_inj.mp z)
                    have z_5 : ¬ (r_6 : Int32).toInt = (2 : Int32).toInt := fun z => c_30 (Int32.toInt_inj.mp z)
                    have z_6 : ¬ (r_6 : Int32).toInt = (0 : Int32).toInt := fun z => c_42 (Int32.toInt_inj.mp z)
                    have z_7 : ¬ (r_6 : Int32).toInt = (1 : Int32).toInt := fun z => c_43 (Int32.toInt_inj.mp z)
                    have z_8 : ¬ (r_6 : Int32).toInt = (2 : Int32).toInt := fun z => c_44 (Int32.toInt_inj.mp z)
                    have y_m1 : (-1 : Int32).toInt = -1 := by decide
                    have y_0 : (0 : Int32).toInt = 0 := by decide
                    have y_1 : (1 : Int32).toInt = 1 := by decide
                    have y_2 : (2 : Int32).toInt = 2 := by decide
                    have y_40 : (40 : Int32).toInt = 40 := by decide
                    omega
                  have hc_59 := qc_3 (l := x1.toInt.toNat) hc_59w hr_60 h_qq hr_61
                  rw [h_fq] at hc_59
                  have hc_59q : QsQ (pz_b q (qz_cl (cB (Tf 1) (Tv 0)) x1.toInt.toNat)) (Av 0) (Av 1) (Av 2) (Av 3) (Av 4) (Av 5) (Af 1) sv_48 (Af 3) (Af 4) (Af 5) (Af 6) (Af 7) (Af 8) := by
                    rw [hc_59.1, ← ero_39]
                    exact pf_56
                  have hu_62 : TpR (Tf 1) (Tv 0) (rN1 (cB (Tf 1) (Tv 0)) 0 ((Av 3).toInt - 1) (rN1 (cB (Tf 1) (Tv 0)) 0 ((Av 2) - 1 : Int32).toInt (rNX (cB (Tf 1) (Tv 0)) rr))) sv_49 sv_50 sv_51 sv_52 := by
                    rw [← ero_39, ← ero_57]
                    exact pf_55
                  have hf_63 : TpR (Tf 1) (Tv 0) (fsC (pz_b q (qz_cl (cB (Tf 1) (Tv 0)) x1.toInt.toNat))) sv_49 sv_50 sv_51 sv_52 := by
                    rw [hc_59.2]
                    exact hu_62
                  exact retV hx hb hr hlk hP hD hS ((Av 0), (Av 1), (Av 2), (Av 3), (Af 1), sv_48, (Af 3), (Af 4), (Af 5), sv_49, sv_50, sv_51, sv_52) ⟨rfl, pf_53, pf_54, hf_63, hc_59q⟩ [0, 1, 2, 3, 4, 5, 6, 7, 8, 9, 10, 11] rfl rfl dX0_readClause_119 (Nat.le_of_ble_eq_true rfl) (Nat.le_of_ble_eq_true rfl) rfl
                · skip
                  exfalso
                  have z_1 : ¬ (r_6 : Int32).toInt = ((-1) : Int32).toInt := fun z => c_9 (Int32.toInt_inj.mp z)
                  have z_2 := Int32.lt_iff_toInt_lt.mp (Int32.not_le.mp c_10)
                  have z_3 : ¬ (r_6 : Int32).toInt = (0 : Int32).toInt := fun z => c_27 (Int32.toInt_inj.mp z)
                  have z_4 : ¬ (x1 : Int32).toInt = (0 : Int32).toInt := fun z => c_28 (Int32.toInt_inj.mp z)
                  have z_5 : ¬ (r_6 : Int32).toInt = (2 : Int32).toInt := fun z => c_30 (Int32.toInt_inj.mp z)
                  have z_6 : ¬ (r_6 : Int32).toInt = (0 : Int32).toInt := fun z => c_42 (Int32.toInt_inj.mp z)
                  have z_7 : ¬ (r_6 : Int32).toInt = (1 : Int32).toInt := fun z => c_43 (Int32.toInt_inj.mp z)
                  have z_8 := congrArg Int32.toInt c_44
                  have y_m1 : (-1 : Int32).toInt = -1 := by decide
                  have y_0 : (0 : Int32).toInt = 0 := by decide
                  have y_1 : (1 : Int32).toInt = 1 := by decide
                  have y_2 : (2 : Int32).toInt = 2 := by decide
                  have y_40 : (40 : Int32).toInt = 40 := by decide
                  omega
              · skip
                refine lv_aload_n hx hb dX0_readClause_93 rfl (lv_at hl 1 rfl) ?_
                refine lv_aload_n hx hb dX0_readClause_94 rfl (lv_at hl 2 rfl) ?_
                refine cV (a := (Wa 0)) (As := [.ref (Ta 0)]) (rest := []) (wr := []) ⟨hx, hb, hml, hown, hts⟩ hK hX hA (cu_zX0_readSky l D tc sk (Wa 0) (Aa 0) (Aa 1) (Aa 2) (Aa 3) (Aa 4) (Aa 5) (Aa 6) (Aa 7) (Aa 8) (Av 0) (Av 1) (Av 2) (Av 3) (Av 4) (Av 5) (Af 1) (Af 2) (Af 3) (Af 4) (Af 5) (Af 6) (Af 7) (Af 8) (Ta 0) (Ta 1) (Tv 0) sv_34 sv_35 sv_36 (Tv 4) (Tf 1) ro_39 (cnQ q) pf_37 h_by pf_38 h_bu pf_41) k_575 k_572 k_574 k_4 k_97 pl_X0_readSky ⟨Nat.le_of_ble_eq_true rfl, Nat.le_of_ble_eq_true rfl⟩ rfl rfl (va_recv hK hP (ci := 0) (q0 := 0) rfl rfl) hP hD hS [0, 1, 2, 3, 4, 5, 6, 7, 8, 9, 10, 11] [] rfl rfl rfl rfl rfl (by decide) rfl hl.1 rfl (Nat.le_of_ble_eq_true rfl) dX0_readClause_95 ⟨Nat.le_of_ble_eq_true rfl, Nat.le_of_ble_eq_true rfl⟩ (fun v_64 u_65 H locs hv_66 hP₀ hD₀ hS₀ => ?_)
                obtain ⟨sv_67, sv_68, sv_69, sv_70, sv_71⟩ := u_65
                obtain ⟨rfl, pf_72, pf_73, pf_74, pf_75⟩ := hv_66
                have pf_72 : 0 ≤ ((Tv 0) : Int32).toInt ∧ ((Tv 0) : Int32).toInt ≤ 400 ∧ 0 ≤ (sv_68 : Int32).toInt ∧ (sv_68 : Int32).toInt ≤ 400 ∧ 0 ≤ (sv_69 : Int32).toInt ∧ (sv_69 : Int32).toInt ≤ 400 := pf_72
                have pf_73 : 0 ≤ ((Av 3) : Int32).toInt ∧ ((Av 3) : Int32).toInt ≤ 6 := pf_73
                have pf_74 : TpR (Tf 1) (Tv 0) (rN1 (cB (Tf 1) (Tv 0)) 0 9 (rN1 (cB (Tf 1) (Tv 0)) 0 ((Av 2) - 1 : Int32).toInt ro_39)) sv_68 sv_69 sv_70 sv_71 := pf_74
                obtain ⟨ro_76, ero_76⟩ : ∃ z : Except Int (Nat × Nat), z = (rN1 (cB (Tf 1) (Tv 0)) 0 9 (rN1 (cB (Tf 1) (Tv 0)) 0 ((Av 2) - 1 : Int32).toInt ro_39)) := ⟨_, rfl⟩
                rw [← ero_76] at pf_74
                have tb_77 : TpB (rTE (cB (Tf 1) (Tv 0)) ro_76) sv_69 sv_71 := TpR.tb pf_74
                have pf_75 : QsQ (qz_k1 (cB (Tf 1) (Tv 0)) (cnQ q) ro_39) (Av 0) (Av 1) (Av 2) (Av 3) (Av 4) (Av 5) sv_67 (Af 2) (Af 3) (Af 4) (Af 5) (Af 6) (Af 7) (Af 8) := pf_75
                refine W.eq (g2 := F0 m 98 ls []) rfl ?_
                replace hP : va_P D classes [((Wa 0), .inr (0, [.ref (Aa 0)])), ((Aa 0), .inr (9, [.int (Av 0), .int (Av 1), .int (Av 2), .int (Av 3), .int (Av 4), .int (Av 5), .ref (Aa 1), .ref (Aa 2), .ref (Aa 3), .ref (Aa 4), .ref (Aa 5), .ref (Aa 6), .ref (Aa 7), .ref (Aa 8)])), ((Aa 1), .inl (tc 0, 10, .inl sv_67)), ((Aa 2), .inl (tc 0, 10, .inl (Af 2))), ((Aa 3), .inl (tc 0, 6, .inl (Af 3))), ((Aa 4), .inl (tc 0, 6, .inl (Af 4))), ((Aa 5), .inl (tc 0, 6, .inl (Af 5))), ((Aa 6), .inl (tc 0, 6, .inl (Af 6))), ((Aa 7), .inl (tc 0, 6, .inl (Af 7))), ((Aa 8), .inl (tc 0, 6, .inl (Af 8))), ((Ta 0), .inr (10, [.ref (Ta 1), .int (Tv 0), .int sv_68, .int sv_69, .int sv_70, .int sv_71])), ((Ta 1), .inl (tc 0, 400, .inl (Tf 1)))] H := hP₀
                replace hD : va_D A [((Wa 0), .inr (0, [.ref (Aa 0)])), ((Aa 0), .inr (9, [.int (Av 0), .int (Av 1), .int (Av 2), .int (Av 3), .int (Av 4), .int (Av 5), .ref (Aa 1), .ref (Aa 2), .ref (Aa 3), .ref (Aa 4), .ref (Aa 5), .ref (Aa 6), .ref (Aa 7), .ref (Aa 8)])), ((Aa 1), .inl (tc 0, 10, .inl sv_67)), ((Aa 2), .inl (tc 0, 10, .inl (Af 2))), ((Aa 3), .inl (tc 0, 6, .inl (Af 3))), ((Aa 4), .inl (tc 0, 6, .inl (Af 4))), ((Aa 5), .inl (tc 0, 6, .inl (Af 5))), ((Aa 6), .inl (tc 0, 6, .inl (Af 6))), ((Aa 7), .inl (tc 0, 6, .inl (Af 7))), ((Aa 8), .inl (tc 0, 6, .inl (Af 8))), ((Ta 0), .inr (10, [.ref (Ta 1), .int (Tv 0), .int sv_68, .int sv_69, .int sv_70, .int sv_71])), ((Ta 1), .inl (tc 0, 400, .inl (Tf 1)))] := hD₀
                replace hS := hS₀
                clear hP₀ hD₀ hS₀
                refine lv_goto (tgt := 119) hx hb dX0_readClause_98 (by decide) ?_
                have hc_78w : waR (cB (Tf 1) (Tv 0)) (wL 0) 0 (fsC q) = (r_6 : Int32).toInt := by rw [h_fq]; exact he_7.symm
                have hr_79 : (r_6 : Int32).toInt = 1 := by
                  have z_1 : ¬ (r_6 : Int32).toInt = ((-1) : Int32).toInt := fun z => c_9 (Int32.toInt_inj.mp z)
                  have z_2 := Int32.lt_iff_toInt_lt.mp (Int32.not_le.mp c_10)
                  have z_3 : ¬ (r_6 : Int32).toInt = (0 : Int32).toInt := fun z => c_27 (Int32.toInt_inj.mp z)
                  have z_4 : ¬ (x1 : Int32).toInt = (0 : Int32).toInt := fun z => c_28 (Int32.toInt_inj.mp z)
                  have z_5 : ¬ (r_6 : Int32).toInt = (2 : Int32).toInt := fun z => c_30 (Int32.toInt_inj.mp z)
                  have z_6 : ¬ (r_6 : Int32).toInt = (0 : Int32).toInt := fun z => c_42 (Int32.toInt_inj.mp z)
                  have z_7 := congrArg Int32.toInt c_43
                  have y_m1 : (-1 : Int32).toInt = -1 := by decide
                  have y_0 : (0 : Int32).toInt = 0 := by decide
                  have y_1 : (1 : Int32).toInt = 1 := by decide
                  have y_2 : (2 : Int32).toInt = 2 := by decide
                  have y_40 : (40 : Int32).toInt = 40 := by decide
                  omega
                rw [hr_79] at hc_78w
                have hr_80 : 1 ≤ x1.toInt.toNat ∧ x1.toInt.toNat < 40 := by
                  have z_1 : ¬ (r_6 : Int32).toInt = ((-1) : Int32).toInt := fun z => c_9 (Int32.toInt_inj.mp z)
                  have z_2 := Int32.lt_iff_toInt_lt.mp (Int32.not_le.mp c_10)
                  have z_3 : ¬ (r_6 : Int32).toInt = (0 : Int32).toInt := fun z => c_27 (Int32.toInt_inj.mp z)
                  have z_4 : ¬ (x1 : Int32).toInt = (0 : Int32).toInt := fun z => c_28 (Int32.toInt_inj.mp z)
                  have z_5 : ¬ (r_6 : Int32).toInt = (2 : Int32).toInt := fun z => c_30 (Int32.toInt_inj.mp z)
                  have z_6 : ¬ (r_6 : Int32).toInt = (0 : Int32).toInt := fun z => c_42 (Int32.toInt_inj.mp z)
                  have z_7 := congrArg Int32.toInt c_43
                  have y_m1 : (-1 : Int32).toInt = -1 := by decide
                  have y_0 : (0 : Int32).toInt = 0 := by decide
                  have y_1 : (1 : Int32).toInt = 1 := by decide
                  have y_2 : (2 : Int32).toInt = 2 := by decide
                  have y_40 : (40 : Int32).toInt = 40 := by decide
                  omega
                have hc_78 := qc_1 (l := x1.toInt.toNat) hc_78w h_qq hr_80
                rw [h_fq] at hc_78
                have hc_78q : QsQ (pz_b q (qz_cl (cB (Tf 1) (Tv 0)) x1.toInt.toNat)) (Av 0) (Av 1) (Av 2) (Av 3) (Av 4) (Av 5) sv_67 (Af 2) (Af 3) (Af 4) (Af 5) (Af 6) (Af 7) (Af 8) := by
                  rw [hc_78.1, ← ero_39]
                  exact pf_75
                have hu_81 : TpR (Tf 1) (Tv 0) (rN1 (cB (Tf 1) (Tv 0)) 0 9 (rN1 (cB (Tf 1) (Tv 0)) 0 ((Av 2) - 1 : Int32).toInt (rNX (cB (Tf 1) (Tv 0)) rr))) sv_68 sv_69 sv_70 sv_71 := by
                  rw [← ero_39, ← ero_76]
                  exact pf_74
                have hf_82 : TpR (Tf 1) (Tv 0) (fsC (pz_b q (qz_cl (cB (Tf 1) (Tv 0)) x1.toInt.toNat))) sv_68 sv_69 sv_70 sv_71 := by
                  rw [hc_78.2]
                  exact hu_81
                exact retV hx hb hr hlk hP hD hS ((Av 0), (Av 1), (Av 2), (Av 3), sv_67, (Af 2), (Af 3), (Af 4), (Af 5), sv_68, sv_69, sv_70, sv_71) ⟨rfl, pf_72, pf_73, hf_82, hc_78q⟩ [0, 1, 2, 3, 4, 5, 6, 7, 8, 9, 10, 11] rfl rfl dX0_readClause_119 (Nat.le_of_ble_eq_true rfl) (Nat.le_of_ble_eq_true rfl) rfl
            · skip
              exfalso
              have z_1 : ¬ (r_6 : Int32).toInt = ((-1) : Int32).toInt := fun z => c_9 (Int32.toInt_inj.mp z)
              have z_2 := Int32.lt_iff_toInt_lt.mp (Int32.not_le.mp c_10)
              have z_3 : ¬ (r_6 : Int32).toInt = (0 : Int32).toInt := fun z => c_27 (Int32.toInt_inj.mp z)
              have z_4 : ¬ (x1 : Int32).toInt = (0 : Int32).toInt := fun z => c_28 (Int32.toInt_inj.mp z)
              have z_5 : ¬ (r_6 : Int32).toInt = (2 : Int32).toInt := fun z => c_30 (Int32.toInt_inj.mp z)
              have z_6 := congrArg Int32.toInt c_42
              have y_m1 : (-1 : Int32).toInt = -1 := by decide
              have y_0 : (0 : Int32).toInt = 0 := by decide
              have y_2 : (2 : Int32).toInt = 2 := by decide
              have y_40 : (40 : Int32).toInt = 40 := by decide
              omega
          · skip
            refine lv_aload_n hx hb dX0_readClause_52 rfl (lv_at hl 1 rfl) ?_
            refine gf_X0_12 hx hb hts hown hK hP 0 rfl rfl dX0_readClause_53 ?_
            refine gf_X0_51 hx hb hts hown hK hP 1 rfl rfl dX0_readClause_56 ?_
            refine lv_bipush (v := 6) hx hb dX0_readClause_59 (by decide) ?_
            refine lv_icmp_lt (tgt := 72) hx hb dX0_readClause_61 (by decide) (fun c_83 => ?_) (fun c_83 => ?_)
            · skip
              refine lv_aload_n hx hb dX0_readClause_72 rfl (lv_at hl 2 rfl) ?_
              refine cV (a := (Ta 0)) (As := []) (rest := []) (wr := [((Wa 0), .inr (0, [.ref (Aa 0)])), ((Aa 0), .inr (9, [.int (Av 0), .int (Av 1), .int (Av 2), .int (Av 3), .int (Av 4), .int (Av 5), .ref (Aa 1), .ref (Aa 2), .ref (Aa 3), .ref (Aa 4), .ref (Aa 5), .ref (Aa 6), .ref (Aa 7), .ref (Aa 8)])), ((Aa 1), .inl (tc 0, 10, .inl (Af 1))), ((Aa 2), .inl (tc 0, 10, .inl (Af 2))), ((Aa 3), .inl (tc 0, 6, .inl (Af 3))), ((Aa 4), .inl (tc 0, 6, .inl (Af 4))), ((Aa 5), .inl (tc 0, 6, .inl (Af 5))), ((Aa 6), .inl (tc 0, 6, .inl (Af 6))), ((Aa 7), .inl (tc 0, 6, .inl (Af 7))), ((Aa 8), .inl (tc 0, 6, .inl (Af 8)))]) ⟨hx, hb, hml, hown, hts⟩ hK hX hA (cu_fX10_step l D tc sk (Ta 0) (Ta 1) (Tv 0) (Tv 1) (Tv 2) (Tv 3) (Tv 4) (Tf 1) (rTE (cB (Tf 1) (Tv 0)) rr) h_tape h_by tb_1) k_478 k_558 k_476 k_477 k_96 pl_X10_step ⟨Nat.le_of_ble_eq_true rfl, Nat.le_of_ble_eq_true rfl⟩ rfl rfl (va_recv hK hP (ci := 10) (q0 := 10) rfl rfl) hP hD hS [10, 11] [0, 1, 2, 3, 4, 5, 6, 7, 8, 9] rfl rfl rfl rfl rfl (by decide) rfl hl.1 rfl (Nat.le_of_ble_eq_true rfl) dX0_readClause_73 ⟨Nat.le_of_ble_eq_true rfl, Nat.le_of_ble_eq_true rfl⟩ (fun v_84 u_85 H locs hv_86 hP₀ hD₀ hS₀ => ?_)
              obtain ⟨sv_87, sv_88, sv_89⟩ := u_85
              obtain ⟨rfl, pf_90, pf_91⟩ := hv_86
              have pf_90 : 0 ≤ ((Tv 0) : Int32).toInt ∧ ((Tv 0) : Int32).toInt ≤ 400 ∧ 0 ≤ (sv_87 : Int32).toInt ∧ (sv_87 : Int32).toInt ≤ 400 ∧ 0 ≤ (sv_88 : Int32).toInt ∧ (sv_88 : Int32).toInt ≤ 400 := pf_90
              have pf_91 : TpR (Tf 1) (Tv 0) (rSK (cB (Tf 1) (Tv 0)) (rTE (cB (Tf 1) (Tv 0)) rr)) sv_87 sv_88 sv_89 (Tv 4) := pf_91
              rw [rNX_eq] at pf_91
              obtain ⟨ro_92, ero_92⟩ : ∃ z : Except Int (Nat × Nat), z = (rNX (cB (Tf 1) (Tv 0)) rr) := ⟨_, rfl⟩
              rw [← ero_92] at pf_91
              have tb_93 : TpB (rTE (cB (Tf 1) (Tv 0)) ro_92) sv_88 (Tv 4) := TpR.tb pf_91
              refine W.eq (g2 := F0 m 76 ls []) rfl ?_
              replace hP : va_P D classes [((Wa 0), .inr (0, [.ref (Aa 0)])), ((Aa 0), .inr (9, [.int (Av 0), .int (Av 1), .int (Av 2), .int (Av 3), .int (Av 4), .int (Av 5), .ref (Aa 1), .ref (Aa 2), .ref (Aa 3), .ref (Aa 4), .ref (Aa 5), .ref (Aa 6), .ref (Aa 7), .ref (Aa 8)])), ((Aa 1), .inl (tc 0, 10, .inl (Af 1))), ((Aa 2), .inl (tc 0, 10, .inl (Af 2))), ((Aa 3), .inl (tc 0, 6, .inl (Af 3))), ((Aa 4), .inl (tc 0, 6, .inl (Af 4))), ((Aa 5), .inl (tc 0, 6, .inl (Af 5))), ((Aa 6), .inl (tc 0, 6, .inl (Af 6))), ((Aa 7), .inl (tc 0, 6, .inl (Af 7))), ((Aa 8), .inl (tc 0, 6, .inl (Af 8))), ((Ta 0), .inr (10, [.ref (Ta 1), .int (Tv 0), .int sv_87, .int sv_88, .int sv_89, .int (Tv 4)])), ((Ta 1), .inl (tc 0, 400, .inl (Tf 1)))] H := hP₀
              replace hD : va_D A [((Wa 0), .inr (0, [.ref (Aa 0)])), ((Aa 0), .inr (9, [.int (Av 0), .int (Av 1), .int (Av 2), .int (Av 3), .int (Av 4), .int (Av 5), .ref (Aa 1), .ref (Aa 2), .ref (Aa 3), .ref (Aa 4), .ref (Aa 5), .ref (Aa 6), .ref (Aa 7), .ref (Aa 8)])), ((Aa 1), .inl (tc 0, 10, .inl (Af 1))), ((Aa 2), .inl (tc 0, 10, .inl (Af 2))), ((Aa 3), .inl (tc 0, 6, .inl (Af 3))), ((Aa 4), .inl (tc 0, 6, .inl (Af 4))), ((Aa 5), .inl (tc 0, 6, .inl (Af 5))), ((Aa 6), .inl (tc 0, 6, .inl (Af 6))), ((Aa 7), .inl (tc 0, 6, .inl (Af 7))), ((Aa 8), .inl (tc 0, 6, .inl (Af 8))), ((Ta 0), .inr (10, [.ref (Ta 1), .int (Tv 0), .int sv_87, .int sv_88, .int sv_89, .int (Tv 4)])), ((Ta 1), .inl (tc 0, 400, .inl (Tf 1)))] := hD₀
              replace hS := hS₀
              clear hP₀ hD₀ hS₀
              have pf_94 : QcI ro_92 (Av 0) (Av 1) (Av 2) (Av 3) (Av 4) (Av 5) (Af 1) (Af 2) (Af 3) (Af 4) (Af 5) (Af 6) (Af 7) (Af 8) (cnQ q) := by rw [ero_92]; exact QsQ.ci h_qq h_fq
              refine lv_iload_n hx hb dX0_readClause_76 rfl (lv_at hl 0 rfl) ?_
              refine lv_if_ne (tgt := 88) hx hb dX0_readClause_77 (by decide) (fun c_95 => ?_) (fun c_95 => ?_)
              · skip
                refine lv_iload_n hx hb dX0_readClause_88 rfl (lv_at hl 0 rfl) ?_
                refine lv_iconst (v := 1) hx hb dX0_readClause_89 (by decide) ?_
                refine lv_icmp_ne (tgt := 101) hx hb dX0_readClause_90 (by decide) (fun c_96 => ?_) (fun c_96 => ?_)
                · skip
                  refine lv_iload_n hx hb dX0_readClause_101 rfl (lv_at hl 0 rfl) ?_
                  refine lv_iconst (v := 2) hx hb dX0_readClause_102 (by decide) ?_
                  refine lv_icmp_ne (tgt := 114) hx hb dX0_readClause_103 (by decide) (fun c_97 => ?_) (fun c_97 => ?_)
                  · skip
                    exfalso
                    have z_1 : ¬ (r_6 : Int32).toInt = ((-1) : Int32).toInt := fun z => c_9 (Int32.toInt_inj.mp z)
                    have z_2 := Int32.lt_iff_toInt_lt.mp (Int32.not_le.mp c_10)
                    have z_3 : ¬ (r_6 : Int32).toInt = (0 : Int32).toInt := fun z => c_27 (Int32.toInt_inj.mp z)
                    have z_4 : ¬ (x1 : Int32).toInt = (0 : Int32).toInt := fun z => c_28 (Int32.toInt_inj.mp z)
                    have z_5 := congrArg Int32.toInt c_30
                    have z_6 := Int32.lt_iff_toInt_lt.mp c_83
                    have z_7 : ¬ (r_6 : Int32).toInt = (0 : Int32).toInt := fun z => c_95 (Int32.toInt_inj.mp z)
                    have z_8 : ¬ (r_6 : Int32).toInt = (1 : Int32).toInt := fun z => c_96 (Int32.toInt_inj.mp z)
                    have z_9 : ¬ (r_6 : Int32).toInt = (2 : Int32).toInt := fun z => c_97 (Int32.toInt_inj.mp z)
                    have y_m1 : (-1 : Int32).toInt = -1 := by decide
                    have y_0 : (0 : Int32).toInt = 0 := by decide
                    have y_1 : (1 : Int32).toInt = 1 := by decide
                    have y_2 : (2 : Int32).toInt = 2 := by decide
                    have y_6 : (6 : Int32).toInt = 6 := by decide
                    have y_40 : (40 : Int32).toInt = 40 := by decide
                    omega
                  · skip
                    refine lv_aload_n hx hb dX0_readClause_106 rfl (lv_at hl 1 rfl) ?_
                    refine lv_aload_n hx hb dX0_readClause_107 rfl (lv_at hl 2 rfl) ?_
                    have ha_98 : 0 ≤ (Av 3).toInt ∧ (Av 3).toInt < 6 := by
                      have z_1 : ¬ (r_6 : Int32).toInt = ((-1) : Int32).toInt := fun z => c_9 (Int32.toInt_inj.mp z)
                      have z_2 := Int32.lt_iff_toInt_lt.mp (Int32.not_le.mp c_10)
                      have z_3 : ¬ (r_6 : Int32).toInt = (0 : Int32).toInt := fun z => c_27 (Int32.toInt_inj.mp z)
                      have z_4 : ¬ (x1 : Int32).toInt = (0 : Int32).toInt := fun z => c_28 (Int32.toInt_inj.mp z)
                      have z_5 := congrArg Int32.toInt c_30
                      have z_6 := Int32.lt_iff_toInt_lt.mp c_83
                      have z_7 : ¬ (r_6 : Int32).toInt = (0 : Int32).toInt := fun z => c_95 (Int32.toInt_inj.mp z)
                      have z_8 : ¬ (r_6 : Int32).toInt = (1 : Int32).toInt := fun z => c_96 (Int32.toInt_inj.mp z)
                      have z_9 := congrArg Int32.toInt c_97
                      have y_m1 : (-1 : Int32).toInt = -1 := by decide
                      have y_0 : (0 : Int32).toInt = 0 := by decide
                      have y_1 : (1 : Int32).toInt = 1 := by decide
                      have y_2 : (2 : Int32).toInt = 2 := by decide
                      have y_6 : (6 : Int32).toInt = 6 := by decide
                      have y_40 : (40 : Int32).toInt = 40 := by decide
                      omega
                    refine cV (a := (Wa 0)) (As := [.ref (Ta 0)]) (rest := []) (wr := []) ⟨hx, hb, hml, hown, hts⟩ hK hX hA (cu_zX0_readBuyer l D tc sk (Wa 0) (Aa 0) (Aa 1) (Aa 2) (Aa 3) (Aa 4) (Aa 5) (Aa 6) (Aa 7) (Aa 8) (Av 0) (Av 1) (Av 2) (Av 3) (Av 4) (Av 5) (Af 1) (Af 2) (Af 3) (Af 4) (Af 5) (Af 6) (Af 7) (Af 8) (Ta 0) (Ta 1) (Tv 0) sv_87 sv_88 sv_89 (Tv 4) (Tf 1) ro_92 (cnQ q) pf_90 h_by pf_91 ha_98 pf_94) k_583 k_580 k_582 k_5 k_97 pl_X0_readBuyer ⟨Nat.le_of_ble_eq_true rfl, Nat.le_of_ble_eq_true rfl⟩ rfl rfl (va_recv hK hP (ci := 0) (q0 := 0) rfl rfl) hP hD hS [0, 1, 2, 3, 4, 5, 6, 7, 8, 9, 10, 11] [] rfl rfl rfl rfl rfl (by decide) rfl hl.1 rfl (Nat.le_of_ble_eq_true rfl) dX0_readClause_108 ⟨Nat.le_of_ble_eq_true rfl, Nat.le_of_ble_eq_true rfl⟩ (fun v_99 u_100 H locs hv_101 hP₀ hD₀ hS₀ => ?_)
                    obtain ⟨sv_102, sv_103, sv_104, sv_105, sv_106, sv_107, sv_108, sv_109⟩ := u_100
                    obtain ⟨rfl, pf_110, pf_111, pf_112, pf_113⟩ := hv_101
                    have pf_110 : 0 ≤ ((Tv 0) : Int32).toInt ∧ ((Tv 0) : Int32).toInt ≤ 400 ∧ 0 ≤ (sv_106 : Int32).toInt ∧ (sv_106 : Int32).toInt ≤ 400 ∧ 0 ≤ (sv_107 : Int32).toInt ∧ (sv_107 : Int32).toInt ≤ 400 := pf_110
                    have pf_111 : 0 ≤ (sv_102 : Int32).toInt ∧ (sv_102 : Int32).toInt ≤ 6 := pf_111
                    have pf_112 : TpR (Tf 1) (Tv 0) (rN1 (cB (Tf 1) (Tv 0)) 0 9 (rN1 (cB (Tf 1) (Tv 0)) 1 9 (rN1 (cB (Tf 1) (Tv 0)) 0 20 ro_92))) sv_106 sv_107 sv_108 sv_109 := pf_112
                    obtain ⟨ro_114, ero_114⟩ : ∃ z : Except Int (Nat × Nat), z = (rN1 (cB (Tf 1) (Tv 0)) 0 9 (rN1 (cB (Tf 1) (Tv 0)) 1 9 (rN1 (cB (Tf 1) (Tv 0)) 0 20 ro_92))) := ⟨_, rfl⟩
                    rw [← ero_114] at pf_112
                    have tb_115 : TpB (rTE (cB (Tf 1) (Tv 0)) ro_114) sv_107 sv_109 := TpR.tb pf_112
                    have pf_113 : QsQ (qz_k2 (cB (Tf 1) (Tv 0)) (cnQ q) ro_92) (Av 0) (Av 1) (Av 2) sv_102 (Av 4) (Av 5) (Af 1) (Af 2) sv_103 sv_104 sv_105 (Af 6) (Af 7) (Af 8) := pf_113
                    refine W.eq (g2 := F0 m 111 ls []) rfl ?_
                    replace hP : va_P D classes [((Wa 0), .inr (0, [.ref (Aa 0)])), ((Aa 0), .inr (9, [.int (Av 0), .int (Av 1), .int (Av 2), .int sv_102, .int (Av 4), .int (Av 5), .ref (Aa 1), .ref (Aa 2), .ref (Aa 3), .ref (Aa 4), .ref (Aa 5), .ref (Aa 6), .ref (Aa 7), .ref (Aa 8)])), ((Aa 1), .inl (tc 0, 10, .inl (Af 1))), ((Aa 2), .inl (tc 0, 10, .inl (Af 2))), ((Aa 3), .inl (tc 0, 6, .inl sv_103)), ((Aa 4), .inl (tc 0, 6, .inl sv_104)), ((Aa 5), .inl (tc 0, 6, .inl sv_105)), ((Aa 6), .inl (tc 0, 6, .inl (Af 6))), ((Aa 7), .inl (tc 0, 6, .inl (Af 7))), ((Aa 8), .inl (tc 0, 6, .inl (Af 8))), ((Ta 0), .inr (10, [.ref (Ta 1), .int (Tv 0), .int sv_106, .int sv_107, .int sv_108, .int sv_109])), ((Ta 1), .inl (tc 0, 400, .inl (Tf 1)))] H := hP₀
                    replace hD : va_D A [((Wa 0), .inr (0, [.ref (Aa 0)])), ((Aa 0), .inr (9, [.int (Av 0), .int (Av 1), .int (Av 2), .int sv_102, .int (Av 4), .int (Av 5), .ref (Aa 1), .ref (Aa 2), .ref (Aa 3), .ref (Aa 4), .ref (Aa 5), .ref (Aa 6), .ref (Aa 7), .ref (Aa 8)])), ((Aa 1), .inl (tc 0, 10, .inl (Af 1))), ((Aa 2), .inl (tc 0, 10, .inl (Af 2))), ((Aa 3), .inl (tc 0, 6, .inl sv_103)), ((Aa 4), .inl (tc 0, 6, .inl sv_104)), ((Aa 5), .inl (tc 0, 6, .inl sv_105)), ((Aa 6), .inl (tc 0, 6, .inl (Af 6))), ((Aa 7), .inl (tc 0, 6, .inl (Af 7))), ((Aa 8), .inl (tc 0, 6, .inl (Af 8))), ((Ta 0), .inr (10, [.ref (Ta 1), .int (Tv 0), .int sv_106, .int sv_107, .int sv_108, .int sv_109])), ((Ta 1), .inl (tc 0, 400, .inl (Tf 1)))] := hD₀
                    replace hS := hS₀
                    clear hP₀ hD₀ hS₀
                    refine lv_goto (tgt := 119) hx hb dX0_readClause_111 (by decide) ?_
                    have hc_116w : waR (cB (Tf 1) (Tv 0)) (wL 0) 0 (fsC q) = (r_6 : Int32).toInt := by rw [h_fq]; exact he_7.symm
                    have hr_117 : (r_6 : Int32).toInt = 2 := by
                      have z_1 : ¬ (r_6 : Int32).toInt = ((-1) : Int32).toInt := fun z => c_9 (Int32.toInt_inj.mp z)
                      have z_2 := Int32.lt_iff_toInt_lt.mp (Int32.not_le.mp c_10)
                      have z_3 : ¬ (r_6 : Int32).toInt = (0 : Int32).toInt := fun z => c_27 (Int32.toInt_inj.mp z)
                      have z_4 : ¬ (x1 : Int32).toInt = (0 : Int32).toInt := fun z => c_28 (Int32.toInt_inj.mp z)
                      have z_5 := congrArg Int32.toInt c_30
                      have z_6 := Int32.lt_iff_toInt_lt.mp c_83
                      have z_7 : ¬ (r_6 : Int32).toInt = (0 : Int32).toInt := fun z => c_95 (Int32.toInt_inj.mp z)
                      have z_8 : ¬ (r_6 : Int32).toInt = (1 : Int32).toInt := fun z => c_96 (Int32.toInt_inj.mp z)
                      have z_9 := congrArg Int32.toInt c_97
                      have y_m1 : (-1 : Int32).toInt = -1 := by decide
                      have y_0 : (0 : Int32).toInt = 0 := by decide
                      have y_1 : (1 : Int32).toInt = 1 := by decide
                      have y_2 : (2 : Int32).toInt = 2 := by decide
                      have y_6 : (6 : Int32).toInt = 6 := by decide
                      have y_40 : (40 : Int32).toInt = 40 := by decide
                      omega
                    rw [hr_117] at hc_116w
                    have hr_118 : 1 ≤ x1.toInt.toNat ∧ x1.toInt.toNat < 40 := by
                      have z_1 : ¬ (r_6 : Int32).toInt = ((-1) : Int32).toInt := fun z => c_9 (Int32.toInt_inj.mp z)
                      have z_2 := Int32.lt_iff_toInt_lt.mp (Int32.not_le.mp c_10)
                      have z_3 : ¬ (r_6 : Int32).toInt = (0 : Int32).toInt := fun z => c_27 (Int32.toInt_inj.mp z)
                      have z_4 : ¬ (x1 : Int32).toInt = (0 : Int32).toInt := fun z => c_28 (Int32.toInt_inj.mp z)
                      have z_5 := congrArg Int32.toInt c_30
                      have z_6 := Int32.lt_iff_toInt_lt.mp c_83
                      have z_7 : ¬ (r_6 : Int32).toInt = (0 : Int32).toInt := fun z => c_95 (Int32.toInt_inj.mp z)
                      have z_8 : ¬ (r_6 : Int32).toInt = (1 : Int32).toInt := fun z => c_96 (Int32.toInt_inj.mp z)
                      have z_9 := congrArg Int32.toInt c_97
                      have y_m1 : (-1 : Int32).toInt = -1 := by decide
                      have y_0 : (0 : Int32).toInt = 0 := by decide
                      have y_1 : (1 : Int32).toInt = 1 := by decide
                      have y_2 : (2 : Int32).toInt = 2 := by decide
                      have y_6 : (6 : Int32).toInt = 6 := by decide
                      have y_40 : (40 : Int32).toInt = 40 := by decide
                      omega
                    have hr_119 : (Av 3).toInt < 6 := by
                      have z_1 : ¬ (r_6 : Int32).toInt = ((-1) : Int32).toInt := fun z => c_9 (Int32.toInt_inj.mp z)
                      have z_2 := Int32.lt_iff_toInt_lt.mp (Int32.not_le.mp c_10)
                      have z_3 : ¬ (r_6 : Int32).toInt = (0 : Int32).toInt := fun z => c_27 (Int32.toInt_inj.mp z)
                      have z_4 : ¬ (x1 : Int32).toInt = (0 : Int32).toInt := fun z => c_28 (Int32.toInt_inj.mp z)
                      have z_5 := congrArg Int32.toInt c_30
                      have z_6 := Int32.lt_iff_toInt_lt.mp c_83
                      have z_7 : ¬ (r_6 : Int32).toInt = (0 : Int32).toInt := fun z => c_95 (Int32.toInt_inj.mp z)
                      have z_8 : ¬ (r_6 : Int32).toInt = (1 : Int32).toInt := fun z => c_96 (Int32.toInt_inj.mp z)
                      have z_9 := congrArg Int32.toInt c_97
                      have y_m1 : (-1 : Int32).toInt = -1 := by decide
                      have y_0 : (0 : Int32).toInt = 0 := by decide
                      have y_1 : (1 : Int32).toInt = 1 := by decide
                      have y_2 : (2 : Int32).toInt = 2 := by decide
                      have y_6 : (6 : Int32).toInt = 6 := by decide
                      have y_40 : (40 : Int32).toInt = 40 := by decide
                      omega
                    have hc_116 := qc_2 (l := x1.toInt.toNat) hc_116w h_qq hr_118 hr_119
                    rw [h_fq] at hc_116
                    have hc_116q : QsQ (pz_b q (qz_cl (cB (Tf 1) (Tv 0)) x1.toInt.toNat)) (Av 0) (Av 1) (Av 2) sv_102 (Av 4) (Av 5) (Af 1) (Af 2) sv_103 sv_104 sv_105 (Af 6) (Af 7) (Af 8) := by
                      rw [hc_116.1, ← ero_92]
                      exact pf_113
                    have hu_120 : TpR (Tf 1) (Tv 0) (rN1 (cB (Tf 1) (Tv 0)) 0 9 (rN1 (cB (Tf 1) (Tv 0)) 1 9 (rN1 (cB (Tf 1) (Tv 0)) 0 20 (rNX (cB (Tf 1) (Tv 0)) rr)))) sv_106 sv_107 sv_108 sv_109 := by
                      rw [← ero_92, ← ero_114]
                      exact pf_112
                    have hf_121 : TpR (Tf 1) (Tv 0) (fsC (pz_b q (qz_cl (cB (Tf 1) (Tv 0)) x1.toInt.toNat))) sv_106 sv_107 sv_108 sv_109 := by
                      rw [hc_116.2]
                      exact hu_120
                    exact retV hx hb hr hlk hP hD hS ((Av 0), (Av 1), (Av 2), sv_102, (Af 1), (Af 2), sv_103, sv_104, sv_105, sv_106, sv_107, sv_108, sv_109) ⟨rfl, pf_110, pf_111, hf_121, hc_116q⟩ [0, 1, 2, 3, 4, 5, 6, 7, 8, 9, 10, 11] rfl rfl dX0_readClause_119 (Nat.le_of_ble_eq_true rfl) (Nat.le_of_ble_eq_true rfl) rfl
                · skip
                  refine lv_aload_n hx hb dX0_readClause_93 rfl (lv_at hl 1 rfl) ?_
                  refine lv_aload_n hx hb dX0_readClause_94 rfl (lv_at hl 2 rfl) ?_
                  refine cV (a := (Wa 0)) (As := [.ref (Ta 0)]) (rest := []) (wr := []) ⟨hx, hb, hml, hown, hts⟩ hK hX hA (cu_zX0_readSky l D tc sk (Wa 0) (Aa 0) (Aa 1) (Aa 2) (Aa 3) (Aa 4) (Aa 5) (Aa 6) (Aa 7) (Aa 8) (Av 0) (Av 1) (Av 2) (Av 3) (Av 4) (Av 5) (Af 1) (Af 2) (Af 3) (Af 4) (Af 5) (Af 6) (Af 7) (Af 8) (Ta 0) (Ta 1) (Tv 0) sv_87 sv_88 sv_89 (Tv 4) (Tf 1) ro_92 (cnQ q) pf_90 h_by pf_91 h_bu pf_94) k_575 k_572 k_574 k_4 k_97 pl_X0_readSky ⟨Nat.le_of_ble_eq_true rfl, Nat.le_of_ble_eq_true rfl⟩ rfl rfl (va_recv hK hP (ci := 0) (q0 := 0) rfl rfl) hP hD hS [0, 1, 2, 3, 4, 5, 6, 7, 8, 9, 10, 11] [] rfl rfl rfl rfl rfl (by decide) rfl hl.1 rfl (Nat.le_of_ble_eq_true rfl) dX0_readClause_95 ⟨Nat.le_of_ble_eq_true rfl, Nat.le_of_ble_eq_true rfl⟩ (fun v_122 u_123 H locs hv_124 hP₀ hD₀ hS₀ => ?_)
                  obtain ⟨sv_125, sv_126, sv_127, sv_128, sv_129⟩ := u_123
                  obtain ⟨rfl, pf_130, pf_131, pf_132, pf_133⟩ := hv_124
                  have pf_130 : 0 ≤ ((Tv 0) : Int32).toInt ∧ ((Tv 0) : Int32).toInt ≤ 400 ∧ 0 ≤ (sv_126 : Int32).toInt ∧ (sv_126 : Int32).toInt ≤ 400 ∧ 0 ≤ (sv_127 : Int32).toInt ∧ (sv_127 : Int32).toInt ≤ 400 := pf_130
                  have pf_131 : 0 ≤ ((Av 3) : Int32).toInt ∧ ((Av 3) : Int32).toInt ≤ 6 := pf_131
                  have pf_132 : TpR (Tf 1) (Tv 0) (rN1 (cB (Tf 1) (Tv 0)) 0 9 (rN1 (cB (Tf 1) (Tv 0)) 0 ((Av 2) - 1 : Int32).toInt ro_92)) sv_126 sv_127 sv_128 sv_129 := pf_132
                  obtain ⟨ro_134, ero_134⟩ : ∃ z : Except Int (Nat × Nat), z = (rN1 (cB (Tf 1) (Tv 0)) 0 9 (rN1 (cB (Tf 1) (Tv 0)) 0 ((Av 2) - 1 : Int32).toInt ro_92)) := ⟨_, rfl⟩
                  rw [← ero_134] at pf_132
                  have tb_135 : TpB (rTE (cB (Tf 1) (Tv 0)) ro_134) sv_127 sv_129 := TpR.tb pf_132
                  have pf_133 : QsQ (qz_k1 (cB (Tf 1) (Tv 0)) (cnQ q) ro_92) (Av 0) (Av 1) (Av 2) (Av 3) (Av 4) (Av 5) sv_125 (Af 2) (Af 3) (Af 4) (Af 5) (Af 6) (Af 7) (Af 8) := pf_133
                  refine W.eq (g2 := F0 m 98 ls []) rfl ?_
                  replace hP : va_P D classes [((Wa 0), .inr (0, [.ref (Aa 0)])), ((Aa 0), .inr (9, [.int (Av 0), .int (Av 1), .int (Av 2), .int (Av 3), .int (Av 4), .int (Av 5), .ref (Aa 1), .ref (Aa 2), .ref (Aa 3), .ref (Aa 4), .ref (Aa 5), .ref (Aa 6), .ref (Aa 7), .ref (Aa 8)])), ((Aa 1), .inl (tc 0, 10, .inl sv_125)), ((Aa 2), .inl (tc 0, 10, .inl (Af 2))), ((Aa 3), .inl (tc 0, 6, .inl (Af 3))), ((Aa 4), .inl (tc 0, 6, .inl (Af 4))), ((Aa 5), .inl (tc 0, 6, .inl (Af 5))), ((Aa 6), .inl (tc 0, 6, .inl (Af 6))), ((Aa 7), .inl (tc 0, 6, .inl (Af 7))), ((Aa 8), .inl (tc 0, 6, .inl (Af 8))), ((Ta 0), .inr (10, [.ref (Ta 1), .int (Tv 0), .int sv_126, .int sv_127, .int sv_128, .int sv_129])), ((Ta 1), .inl (tc 0, 400, .inl (Tf 1)))] H := hP₀
                  replace hD : va_D A [((Wa 0), .inr (0, [.ref (Aa 0)])), ((Aa 0), .inr (9, [.int (Av 0), .int (Av 1), .int (Av 2), .int (Av 3), .int (Av 4), .int (Av 5), .ref (Aa 1), .ref (Aa 2), .ref (Aa 3), .ref (Aa 4), .ref (Aa 5), .ref (Aa 6), .ref (Aa 7), .ref (Aa 8)])), ((Aa 1), .inl (tc 0, 10, .inl sv_125)), ((Aa 2), .inl (tc 0, 10, .inl (Af 2))), ((Aa 3), .inl (tc 0, 6, .inl (Af 3))), ((Aa 4), .inl (tc 0, 6, .inl (Af 4))), ((Aa 5), .inl (tc 0, 6, .inl (Af 5))), ((Aa 6), .inl (tc 0, 6, .inl (Af 6))), ((Aa 7), .inl (tc 0, 6, .inl (Af 7))), ((Aa 8), .inl (tc 0, 6, .inl (Af 8))), ((Ta 0), .inr (10, [.ref (Ta 1), .int (Tv 0), .int sv_126, .int sv_127, .int sv_128, .int sv_129])), ((Ta 1), .inl (tc 0, 400, .inl (Tf 1)))] := hD₀
                  replace hS := hS₀
                  clear hP₀ hD₀ hS₀
                  refine lv_goto (tgt := 119) hx hb dX0_readClause_98 (by decide) ?_
                  have hc_136w : waR (cB (Tf 1) (Tv 0)) (wL 0) 0 (fsC q) = (r_6 : Int32).toInt := by rw [h_fq]; exact he_7.symm
                  have hr_137 : (r_6 : Int32).toInt = 1 := by
                    have z_1 : ¬ (r_6 : Int32).toInt = ((-1) : Int32).toInt := fun z => c_9 (Int32.toInt_inj.mp z)
                    have z_2 := Int32.lt_iff_toInt_lt.mp (Int32.not_le.mp c_10)
                    have z_3 : ¬ (r_6 : Int32).toInt = (0 : Int32).toInt := fun z => c_27 (Int32.toInt_inj.mp z)
                    have z_4 : ¬ (x1 : Int32).toInt = (0 : Int32).toInt := fun z => c_28 (Int32.toInt_inj.mp z)
                    have z_5 := congrArg Int32.toInt c_30
                    have z_6 := Int32.lt_iff_toInt_lt.mp c_83
                    have z_7 : ¬ (r_6 : Int32).toInt = (0 : Int32).toInt := fun z => c_95 (Int32.toInt_inj.mp z)
                    have z_8 := congrArg Int32.toInt c_96
                    have y_m1 : (-1 : Int32).toInt = -1 := by decide
                    have y_0 : (0 : Int32).toInt = 0 := by decide
                    have y_1 : (1 : Int32).toInt = 1 := by decide
                    have y_2 : (2 : Int32).toInt = 2 := by decide
                    have y_6 : (6 : Int32).toInt = 6 := by decide
                    have y_40 : (40 : Int32).toInt = 40 := by decide
                    omega
                  rw [hr_137] at hc_136w
                  have hr_138 : 1 ≤ x1.toInt.toNat ∧ x1.toInt.toNat < 40 := by
                    have z_1 : ¬ (r_6 : Int32).toInt = ((-1) : Int32).toInt := fun z => c_9 (Int32.toInt_inj.mp z)
                    have z_2 := Int32.lt_iff_toInt_lt.mp (Int32.not_le.mp c_10)
                    have z_3 : ¬ (r_6 : Int32).toInt = (0 : Int32).toInt := fun z => c_27 (Int32.toInt_inj.mp z)
                    have z_4 : ¬ (x1 : Int32).toInt = (0 : Int32).toInt := fun z => c_28 (Int32.toInt_inj.mp z)
                    have z_5 := congrArg Int32.toInt c_30
                    have z_6 := Int32.lt_iff_toInt_lt.mp c_83
                    have z_7 : ¬ (r_6 : Int32).toInt = (0 : Int32).toInt := fun z => c_95 (Int32.toInt_inj.mp z)
                    have z_8 := congrArg Int32.toInt c_96
                    have y_m1 : (-1 : Int32).toInt = -1 := by decide
                    have y_0 : (0 : Int32).toInt = 0 := by decide
                    have y_1 : (1 : Int32).toInt = 1 := by decide
                    have y_2 : (2 : Int32).toInt = 2 := by decide
                    have y_6 : (6 : Int32).toInt = 6 := by decide
                    have y_40 : (40 : Int32).toInt = 40 := by decide
                    omega
                  have hc_136 := qc_1 (l := x1.toInt.toNat) hc_136w h_qq hr_138
                  rw [h_fq] at hc_136
                  have hc_136q : QsQ (pz_b q (qz_cl (cB (Tf 1) (Tv 0)) x1.toInt.toNat)) (Av 0) (Av 1) (Av 2) (Av 3) (Av 4) (Av 5) sv_125 (Af 2) (Af 3) (Af 4) (Af 5) (Af 6) (Af 7) (Af 8) := by
                    rw [hc_136.1, ← ero_92]
                    exact pf_133
                  have hu_139 : TpR (Tf 1) (Tv 0) (rN1 (cB (Tf 1) (Tv 0)) 0 9 (rN1 (cB (Tf 1) (Tv 0)) 0 ((Av 2) - 1 : Int32).toInt (rNX (cB (Tf 1) (Tv 0)) rr))) sv_126 sv_127 sv_128 sv_129 := by
                    rw [← ero_92, ← ero_134]
                    exact pf_132
                  have hf_140 : TpR (Tf 1) (Tv 0) (fsC (pz_b q (qz_cl (cB (Tf 1) (Tv 0)) x1.toInt.toNat))) sv_126 sv_127 sv_128 sv_129 := by
                    rw [hc_136.2]
                    exact hu_139
                  exact retV hx hb hr hlk hP hD hS ((Av 0), (Av 1), (Av 2), (Av 3), sv_125, (Af 2), (Af 3), (Af 4), (Af 5), sv_126, sv_127, sv_128, sv_129) ⟨rfl, pf_130, pf_131, hf_140, hc_136q⟩ [0, 1, 2, 3, 4, 5, 6, 7, 8, 9, 10, 11] rfl rfl dX0_readClause_119 (Nat.le_of_ble_eq_true rfl) (Nat.le_of_ble_eq_true rfl) rfl
              · skip
                exfalso
                have z_1 : ¬ (r_6 : Int32).toInt = ((-1) : Int32).toInt := fun z => c_9 (Int32.toInt_inj.mp z)
                have z_2 := Int32.lt_iff_toInt_lt.mp (Int32.not_le.mp c_10)
                have z_3 : ¬ (r_6 : Int32).toInt = (0 : Int32).toInt := fun z => c_27 (Int32.toInt_inj.mp z)
                have z_4 : ¬ (x1 : Int32).toInt = (0 : Int32).toInt := fun z => c_28 (Int32.toInt_inj.mp z)
                have z_5 := congrArg Int32.toInt c_30
                have z_6 := Int32.lt_iff_toInt_lt.mp c_83
                have z_7 := congrArg Int32.toInt c_95
                have y_m1 : (-1 : Int32).toInt = -1 := by decide
                have y_0 : (0 : Int32).toInt = 0 := by decide
                have y_2 : (2 : Int32).toInt = 2 := by decide
                have y_6 : (6 : Int32).toInt = 6 := by decide
                have y_40 : (40 : Int32).toInt = 40 := by decide
                omega
            · skip
              refine lv_aload_n hx hb dX0_readClause_64 rfl (lv_at hl 2 rfl) ?_
              refine lv_iconst (v := 4) hx hb dX0_readClause_65 (by decide) ?_
              have ha_141 : 0 ≤ (4 : Int32).toInt ∧ (4 : Int32).toInt ≤ 4 := by
                have z_1 : ¬ (r_6 : Int32).toInt = ((-1) : Int32).toInt := fun z => c_9 (Int32.toInt_inj.mp z)
                have z_2 := Int32.lt_iff_toInt_lt.mp (Int32.not_le.mp c_10)
                have z_3 : ¬ (r_6 : Int32).toInt = (0 : Int32).toInt := fun z => c_27 (Int32.toInt_inj.mp z)
                have z_4 : ¬ (x1 : Int32).toInt = (0 : Int32).toInt := fun z => c_28 (Int32.toInt_inj.mp z)
                have z_5 := congrArg Int32.toInt c_30
                have z_6 := Int32.le_iff_toInt_le.mp (Int32.not_lt.mp c_83)
                have y_m1 : (-1 : Int32).toInt = -1 := by decide
                have y_0 : (0 : Int32).toInt = 0 := by decide
                have y_2 : (2 : Int32).toInt = 2 := by decide
                have y_6 : (6 : Int32).toInt = 6 := by decide
                have y_40 : (40 : Int32).toInt = 40 := by decide
                have y_4 : (4 : Int32).toInt = 4 := by decide
                omega
              have ha_142 : (4 : Int32).toInt = (4 : Int) := by
                have z_1 : ¬ (r_6 : Int32).toInt = ((-1) : Int32).toInt := fun z => c_9 (Int32.toInt_inj.mp z)
                have z_2 := Int32.lt_iff_toInt_lt.mp (Int32.not_le.mp c_10)
                have z_3 : ¬ (r_6 : Int32).toInt = (0 : Int32).toInt := fun z => c_27 (Int32.toInt_inj.mp z)
                have z_4 : ¬ (x1 : Int32).toInt = (0 : Int32).toInt := fun z => c_28 (Int32.toInt_inj.mp z)
                have z_5 := congrArg Int32.toInt c_30
                have z_6 := Int32.le_iff_toInt_le.mp (Int32.not_lt.mp c_83)
                have y_m1 : (-1 : Int32).toInt = -1 := by decide
                have y_0 : (0 : Int32).toInt = 0 := by decide
                have y_2 : (2 : Int32).toInt = 2 := by decide
                have y_6 : (6 : Int32).toInt = 6 := by decide
                have y_40 : (40 : Int32).toInt = 40 := by decide
                have y_4 : (4 : Int32).toInt = 4 := by decide
                omega
              refine cV (a := (Ta 0)) (As := [.int 4]) (rest := []) (wr := [((Wa 0), .inr (0, [.ref (Aa 0)])), ((Aa 0), .inr (9, [.int (Av 0), .int (Av 1), .int (Av 2), .int (Av 3), .int (Av 4), .int (Av 5), .ref (Aa 1), .ref (Aa 2), .ref (Aa 3), .ref (Aa 4), .ref (Aa 5), .ref (Aa 6), .ref (Aa 7), .ref (Aa 8)])), ((Aa 1), .inl (tc 0, 10, .inl (Af 1))), ((Aa 2), .inl (tc 0, 10, .inl (Af 2))), ((Aa 3), .inl (tc 0, 6, .inl (Af 3))), ((Aa 4), .inl (tc 0, 6, .inl (Af 4))), ((Aa 5), .inl (tc 0, 6, .inl (Af 5))), ((Aa 6), .inl (tc 0, 6, .inl (Af 6))), ((Aa 7), .inl (tc 0, 6, .inl (Af 7))), ((Aa 8), .inl (tc 0, 6, .inl (Af 8)))]) ⟨hx, hb, hml, hown, hts⟩ hK hX hA (cu_fX10_fail l D tc sk (Ta 0) (Ta 1) (Tv 0) (Tv 1) (Tv 2) (Tv 3) (Tv 4) (Tf 1) 4 rr 4 h_tape h_r ha_141 ha_142) k_557 k_554 k_555 k_556 k_96 pl_X10_fail ⟨Nat.le_of_ble_eq_true rfl, Nat.le_of_ble_eq_true rfl⟩ rfl rfl (va_recv hK hP (ci := 10) (q0 := 10) rfl rfl) hP hD hS [10, 11] [0, 1, 2, 3, 4, 5, 6, 7, 8, 9] rfl rfl rfl rfl rfl (by decide) rfl hl.1 rfl (Nat.le_of_ble_eq_true rfl) dX0_readClause_66 ⟨Nat.le_of_ble_eq_true rfl, Nat.le_of_ble_eq_true rfl⟩ (fun v_143 u_144 H locs hv_145 hP₀ hD₀ hS₀ => ?_)
              obtain ⟨sv_146, sv_147⟩ := u_144
              obtain ⟨rfl, pf_148, pf_149⟩ := hv_145
              have pf_148 : 0 ≤ ((Tv 0) : Int32).toInt ∧ ((Tv 0) : Int32).toInt ≤ 400 ∧ 0 ≤ ((Tv 1) : Int32).toInt ∧ ((Tv 1) : Int32).toInt ≤ 400 ∧ 0 ≤ ((Tv 2) : Int32).toInt ∧ ((Tv 2) : Int32).toInt ≤ 400 := pf_148
              have pf_149 : TpR (Tf 1) (Tv 0) (rER (4 : Int) rr) (Tv 1) (Tv 2) sv_146 sv_147 := pf_149
              obtain ⟨ro_150, ero_150⟩ : ∃ z : Except Int (Nat × Nat), z = (rER 4 rr) := ⟨_, rfl⟩
              rw [← ero_150] at pf_149
              have tb_151 : TpB (rTE (cB (Tf 1) (Tv 0)) ro_150) (Tv 2) sv_147 := TpR.tb pf_149
              refine W.eq (g2 := F0 m 69 ls []) rfl ?_
              replace hP : va_P D classes [((Wa 0), .inr (0, [.ref (Aa 0)])), ((Aa 0), .inr (9, [.int (Av 0), .int (Av 1), .int (Av 2), .int (Av 3), .int (Av 4), .int (Av 5), .ref (Aa 1), .ref (Aa 2), .ref (Aa 3), .ref (Aa 4), .ref (Aa 5), .ref (Aa 6), .ref (Aa 7), .ref (Aa 8)])), ((Aa 1), .inl (tc 0, 10, .inl (Af 1))), ((Aa 2), .inl (tc 0, 10, .inl (Af 2))), ((Aa 3), .inl (tc 0, 6, .inl (Af 3))), ((Aa 4), .inl (tc 0, 6, .inl (Af 4))), ((Aa 5), .inl (tc 0, 6, .inl (Af 5))), ((Aa 6), .inl (tc 0, 6, .inl (Af 6))), ((Aa 7), .inl (tc 0, 6, .inl (Af 7))), ((Aa 8), .inl (tc 0, 6, .inl (Af 8))), ((Ta 0), .inr (10, [.ref (Ta 1), .int (Tv 0), .int (Tv 1), .int (Tv 2), .int sv_146, .int sv_147])), ((Ta 1), .inl (tc 0, 400, .inl (Tf 1)))] H := hP₀
              replace hD : va_D A [((Wa 0), .inr (0, [.ref (Aa 0)])), ((Aa 0), .inr (9, [.int (Av 0), .int (Av 1), .int (Av 2), .int (Av 3), .int (Av 4), .int (Av 5), .ref (Aa 1), .ref (Aa 2), .ref (Aa 3), .ref (Aa 4), .ref (Aa 5), .ref (Aa 6), .ref (Aa 7), .ref (Aa 8)])), ((Aa 1), .inl (tc 0, 10, .inl (Af 1))), ((Aa 2), .inl (tc 0, 10, .inl (Af 2))), ((Aa 3), .inl (tc 0, 6, .inl (Af 3))), ((Aa 4), .inl (tc 0, 6, .inl (Af 4))), ((Aa 5), .inl (tc 0, 6, .inl (Af 5))), ((Aa 6), .inl (tc 0, 6, .inl (Af 6))), ((Aa 7), .inl (tc 0, 6, .inl (Af 7))), ((Aa 8), .inl (tc 0, 6, .inl (Af 8))), ((Ta 0), .inr (10, [.ref (Ta 1), .int (Tv 0), .int (Tv 1), .int (Tv 2), .int sv_146, .int sv_147])), ((Ta 1), .inl (tc 0, 400, .inl (Tf 1)))] := hD₀
              replace hS := hS₀
              clear hP₀ hD₀ hS₀
              refine lv_goto (tgt := 119) hx hb dX0_readClause_69 (by decide) ?_
              have hc_152w : waR (cB (Tf 1) (Tv 0)) (wL 0) 0 (fsC q) = (r_6 : Int32).toInt := by rw [h_fq]; exact he_7.symm
              have hr_153 : 40 ≤ x1.toInt.toNat ∨ ¬ ((r_6 : Int32).toInt = 0 ↔ x1.toInt.toNat = 0) ∨ ((r_6 : Int32).toInt = 2 ∧ 6 ≤ (Av 3).toInt) := by
                have z_1 : ¬ (r_6 : Int32).toInt = ((-1) : Int32).toInt := fun z => c_9 (Int32.toInt_inj.mp z)
                have z_2 := Int32.lt_iff_toInt_lt.mp (Int32.not_le.mp c_10)
                have z_3 : ¬ (r_6 : Int32).toInt = (0 : Int32).toInt := fun z => c_27 (Int32.toInt_inj.mp z)
                have z_4 : ¬ (x1 : Int32).toInt = (0 : Int32).toInt := fun z => c_28 (Int32.toInt_inj.mp z)
                have z_5 := congrArg Int32.toInt c_30
                have z_6 := Int32.le_iff_toInt_le.mp (Int32.not_lt.mp c_83)
                have y_m1 : (-1 : Int32).toInt = -1 := by decide
                have y_0 : (0 : Int32).toInt = 0 := by decide
                have y_2 : (2 : Int32).toInt = 2 := by decide
                have y_6 : (6 : Int32).toInt = 6 := by decide
                have y_40 : (40 : Int32).toInt = 40 := by decide
                omega
              have hr_154 : ¬ (r_6 : Int32).toInt = -1 := by
                have z_1 : ¬ (r_6 : Int32).toInt = ((-1) : Int32).toInt := fun z => c_9 (Int32.toInt_inj.mp z)
                have z_2 := Int32.lt_iff_toInt_lt.mp (Int32.not_le.mp c_10)
                have z_3 : ¬ (r_6 : Int32).toInt = (0 : Int32).toInt := fun z => c_27 (Int32.toInt_inj.mp z)
                have z_4 : ¬ (x1 : Int32).toInt = (0 : Int32).toInt := fun z => c_28 (Int32.toInt_inj.mp z)
                have z_5 := congrArg Int32.toInt c_30
                have z_6 := Int32.le_iff_toInt_le.mp (Int32.not_lt.mp c_83)
                have y_m1 : (-1 : Int32).toInt = -1 := by decide
                have y_0 : (0 : Int32).toInt = 0 := by decide
                have y_2 : (2 : Int32).toInt = 2 := by decide
                have y_6 : (6 : Int32).toInt = 6 := by decide
                have y_40 : (40 : Int32).toInt = 40 := by decide
                omega
              have hc_152 := qc_bad (l := x1.toInt.toNat) hc_152w hr_154 h_qq hr_153
              have hc_152q : QsQ (pz_b q (qz_cl (cB (Tf 1) (Tv 0)) x1.toInt.toNat)) (Av 0) (Av 1) (Av 2) (Av 3) (Av 4) (Av 5) (Af 1) (Af 2) (Af 3) (Af 4) (Af 5) (Af 6) (Af 7) (Af 8) := QsQ.er hc_152
              rw [h_fq] at hc_152
              have hu_155 : TpR (Tf 1) (Tv 0) (rER 4 rr) (Tv 1) (Tv 2) sv_146 sv_147 := by
                rw [← ero_150]
                exact pf_149
              have hf_156 : TpR (Tf 1) (Tv 0) (fsC (pz_b q (qz_cl (cB (Tf 1) (Tv 0)) x1.toInt.toNat))) (Tv 1) (Tv 2) sv_146 sv_147 := by
                rw [hc_152]
                exact hu_155
              exact retV hx hb hr hlk hP hD hS ((Av 0), (Av 1), (Av 2), (Av 3), (Af 1), (Af 2), (Af 3), (Af 4), (Af 5), (Tv 1), (Tv 2), sv_146, sv_147) ⟨rfl, pf_148, h_bu, hf_156, hc_152q⟩ [0, 1, 2, 3, 4, 5, 6, 7, 8, 9, 10, 11] rfl rfl dX0_readClause_119 (Nat.le_of_ble_eq_true rfl) (Nat.le_of_ble_eq_true rfl) rfl
        · skip
          refine lv_iconst (v := 1) hx hb dX0_readClause_39 (by decide) ?_
          refine lv_goto (tgt := 44) hx hb dX0_readClause_40 (by decide) ?_
          refine lv_icmp_ne (tgt := 64) hx hb dX0_readClause_44 (by decide) (fun c_157 => ?_) (fun c_157 => absurd c_157 (by decide))
          refine lv_aload_n hx hb dX0_readClause_64 rfl (lv_at hl 2 rfl) ?_
          refine lv_iconst (v := 4) hx hb dX0_readClause_65 (by decide) ?_
          have ha_158 : 0 ≤ (4 : Int32).toInt ∧ (4 : Int32).toInt ≤ 4 := by
            have z_1 : ¬ (r_6 : Int32).toInt = ((-1) : Int32).toInt := fun z => c_9 (Int32.toInt_inj.mp z)
            have z_2 := Int32.lt_iff_toInt_lt.mp (Int32.not_le.mp c_10)
            have z_3 : ¬ (r_6 : Int32).toInt = (0 : Int32).toInt := fun z => c_27 (Int32.toInt_inj.mp z)
            have z_4 := congrArg Int32.toInt c_28
            have y_m1 : (-1 : Int32).toInt = -1 := by decide
            have y_0 : (0 : Int32).toInt = 0 := by decide
            have y_40 : (40 : Int32).toInt = 40 := by decide
            have y_4 : (4 : Int32).toInt = 4 := by decide
            omega
          have ha_159 : (4 : Int32).toInt = (4 : Int) := by
            have z_1 : ¬ (r_6 : Int32).toInt = ((-1) : Int32).toInt := fun z => c_9 (Int32.toInt_inj.mp z)
            have z_2 := Int32.lt_iff_toInt_lt.mp (Int32.not_le.mp c_10)
            have z_3 : ¬ (r_6 : Int32).toInt = (0 : Int32).toInt := fun z => c_27 (Int32.toInt_inj.mp z)
            have z_4 := congrArg Int32.toInt c_28
            have y_m1 : (-1 : Int32).toInt = -1 := by decide
            have y_0 : (0 : Int32).toInt = 0 := by decide
            have y_40 : (40 : Int32).toInt = 40 := by decide
            have y_4 : (4 : Int32).toInt = 4 := by decide
            omega
          refine cV (a := (Ta 0)) (As := [.int 4]) (rest := []) (wr := [((Wa 0), .inr (0, [.ref (Aa 0)])), ((Aa 0), .inr (9, [.int (Av 0), .int (Av 1), .int (Av 2), .int (Av 3), .int (Av 4), .int (Av 5), .ref (Aa 1), .ref (Aa 2), .ref (Aa 3), .ref (Aa 4), .ref (Aa 5), .ref (Aa 6), .ref (Aa 7), .ref (Aa 8)])), ((Aa 1), .inl (tc 0, 10, .inl (Af 1))), ((Aa 2), .inl (tc 0, 10, .inl (Af 2))), ((Aa 3), .inl (tc 0, 6, .inl (Af 3))), ((Aa 4), .inl (tc 0, 6, .inl (Af 4))), ((Aa 5), .inl (tc 0, 6, .inl (Af 5))), ((Aa 6), .inl (tc 0, 6, .inl (Af 6))), ((Aa 7), .inl (tc 0, 6, .inl (Af 7))), ((Aa 8), .inl (tc 0, 6, .inl (Af 8)))]) ⟨hx, hb, hml, hown, hts⟩ hK hX hA (cu_fX10_fail l D tc sk (Ta 0) (Ta 1) (Tv 0) (Tv 1) (Tv 2) (Tv 3) (Tv 4) (Tf 1) 4 rr 4 h_tape h_r ha_158 ha_159) k_557 k_554 k_555 k_556 k_96 pl_X10_fail ⟨Nat.le_of_ble_eq_true rfl, Nat.le_of_ble_eq_true rfl⟩ rfl rfl (va_recv hK hP (ci := 10) (q0 := 10) rfl rfl) hP hD hS [10, 11] [0, 1, 2, 3, 4, 5, 6, 7, 8, 9] rfl rfl rfl rfl rfl (by decide) rfl hl.1 rfl (Nat.le_of_ble_eq_true rfl) dX0_readClause_66 ⟨Nat.le_of_ble_eq_true rfl, Nat.le_of_ble_eq_true rfl⟩ (fun v_160 u_161 H locs hv_162 hP₀ hD₀ hS₀ => ?_)
          obtain ⟨sv_163, sv_164⟩ := u_161
          obtain ⟨rfl, pf_165, pf_166⟩ := hv_162
          have pf_165 : 0 ≤ ((Tv 0) : Int32).toInt ∧ ((Tv 0) : Int32).toInt ≤ 400 ∧ 0 ≤ ((Tv 1) : Int32).toInt ∧ ((Tv 1) : Int32).toInt ≤ 400 ∧ 0 ≤ ((Tv 2) : Int32).toInt ∧ ((Tv 2) : Int32).toInt ≤ 400 := pf_165
          have pf_166 : TpR (Tf 1) (Tv 0) (rER (4 : Int) rr) (Tv 1) (Tv 2) sv_163 sv_164 := pf_166
          obtain ⟨ro_167, ero_167⟩ : ∃ z : Except Int (Nat × Nat), z = (rER 4 rr) := ⟨_, rfl⟩
          rw [← ero_167] at pf_166
          have tb_168 : TpB (rTE (cB (Tf 1) (Tv 0)) ro_167) (Tv 2) sv_164 := TpR.tb pf_166
          refine W.eq (g2 := F0 m 69 ls []) rfl ?_
          replace hP : va_P D classes [((Wa 0), .inr (0, [.ref (Aa 0)])), ((Aa 0), .inr (9, [.int (Av 0), .int (Av 1), .int (Av 2), .int (Av 3), .int (Av 4), .int (Av 5), .ref (Aa 1), .ref (Aa 2), .ref (Aa 3), .ref (Aa 4), .ref (Aa 5), .ref (Aa 6), .ref (Aa 7), .ref (Aa 8)])), ((Aa 1), .inl (tc 0, 10, .inl (Af 1))), ((Aa 2), .inl (tc 0, 10, .inl (Af 2))), ((Aa 3), .inl (tc 0, 6, .inl (Af 3))), ((Aa 4), .inl (tc 0, 6, .inl (Af 4))), ((Aa 5), .inl (tc 0, 6, .inl (Af 5))), ((Aa 6), .inl (tc 0, 6, .inl (Af 6))), ((Aa 7), .inl (tc 0, 6, .inl (Af 7))), ((Aa 8), .inl (tc 0, 6, .inl (Af 8))), ((Ta 0), .inr (10, [.ref (Ta 1), .int (Tv 0), .int (Tv 1), .int (Tv 2), .int sv_163, .int sv_164])), ((Ta 1), .inl (tc 0, 400, .inl (Tf 1)))] H := hP₀
          replace hD : va_D A [((Wa 0), .inr (0, [.ref (Aa 0)])), ((Aa 0), .inr (9, [.int (Av 0), .int (Av 1), .int (Av 2), .int (Av 3), .int (Av 4), .int (Av 5), .ref (Aa 1), .ref (Aa 2), .ref (Aa 3), .ref (Aa 4), .ref (Aa 5), .ref (Aa 6), .ref (Aa 7), .ref (Aa 8)])), ((Aa 1), .inl (tc 0, 10, .inl (Af 1))), ((Aa 2), .inl (tc 0, 10, .inl (Af 2))), ((Aa 3), .inl (tc 0, 6, .inl (Af 3))), ((Aa 4), .inl (tc 0, 6, .inl (Af 4))), ((Aa 5), .inl (tc 0, 6, .inl (Af 5))), ((Aa 6), .inl (tc 0, 6, .inl (Af 6))), ((Aa 7), .inl (tc 0, 6, .inl (Af 7))), ((Aa 8), .inl (tc 0, 6, .inl (Af 8))), ((Ta 0), .inr (10, [.ref (Ta 1), .int (Tv 0), .int (Tv 1), .int (Tv 2), .int sv_163, .int sv_164])), ((Ta 1), .inl (tc 0, 400, .inl (Tf 1)))] := hD₀
          replace hS := hS₀
          clear hP₀ hD₀ hS₀
          refine lv_goto (tgt := 119) hx hb dX0_readClause_69 (by decide) ?_
          have hc_169w : waR (cB (Tf 1) (Tv 0)) (wL 0) 0 (fsC q) = (r_6 : Int32).toInt := by rw [h_fq]; exact he_7.symm
          have hr_170 : 40 ≤ x1.toInt.toNat ∨ ¬ ((r_6 : Int32).toInt = 0 ↔ x1.toInt.toNat = 0) ∨ ((r_6 : Int32).toInt = 2 ∧ 6 ≤ (Av 3).toInt) := by
            have z_1 : ¬ (r_6 : Int32).toInt = ((-1) : Int32).toInt := fun z => c_9 (Int32.toInt_inj.mp z)
            have z_2 := Int32.lt_iff_toInt_lt.mp (Int32.not_le.mp c_10)
            have z_3 : ¬ (r_6 : Int32).toInt = (0 : Int32).toInt := fun z => c_27 (Int32.toInt_inj.mp z)
            have z_4 := congrArg Int32.toInt c_28
            have y_m1 : (-1 : Int32).toInt = -1 := by decide
            have y_0 : (0 : Int32).toInt = 0 := by decide
            have y_40 : (40 : Int32).toInt = 40 := by decide
            omega
          have hr_171 : ¬ (r_6 : Int32).toInt = -1 := by
            have z_1 : ¬ (r_6 : Int32).toInt = ((-1) : Int32).toInt := fun z => c_9 (Int32.toInt_inj.mp z)
            have z_2 := Int32.lt_iff_toInt_lt.mp (Int32.not_le.mp c_10)
            have z_3 : ¬ (r_6 : Int32).toInt = (0 : Int32).toInt := fun z => c_27 (Int32.toInt_inj.mp z)
            have z_4 := congrArg Int32.toInt c_28
            have y_m1 : (-1 : Int32).toInt = -1 := by decide
            have y_0 : (0 : Int32).toInt = 0 := by decide
            have y_40 : (40 : Int32).toInt = 40 := by decide
            omega
          have hc_169 := qc_bad (l := x1.toInt.toNat) hc_169w hr_171 h_qq hr_170
          have hc_169q : QsQ (pz_b q (qz_cl (cB (Tf 1) (Tv 0)) x1.toInt.toNat)) (Av 0) (Av 1) (Av 2) (Av 3) (Av 4) (Av 5) (Af 1) (Af 2) (Af 3) (Af 4) (Af 5) (Af 6) (Af 7) (Af 8) := QsQ.er hc_169
          rw [h_fq] at hc_169
          have hu_172 : TpR (Tf 1) (Tv 0) (rER 4 rr) (Tv 1) (Tv 2) sv_163 sv_164 := by
            rw [← ero_167]
            exact pf_166
          have hf_173 : TpR (Tf 1) (Tv 0) (fsC (pz_b q (qz_cl (cB (Tf 1) (Tv 0)) x1.toInt.toNat))) (Tv 1) (Tv 2) sv_163 sv_164 := by
            rw [hc_169]
            exact hu_172
          exact retV hx hb hr hlk hP hD hS ((Av 0), (Av 1), (Av 2), (Av 3), (Af 1), (Af 2), (Af 3), (Af 4), (Af 5), (Tv 1), (Tv 2), sv_163, sv_164) ⟨rfl, pf_165, h_bu, hf_173, hc_169q⟩ [0, 1, 2, 3, 4, 5, 6, 7, 8, 9, 10, 11] rfl rfl dX0_readClause_119 (Nat.le_of_ble_eq_true rfl) (Nat.le_of_ble_eq_true rfl) rfl
      · skip
        refine lv_iconst (v := 1) hx hb dX0_readClause_30 (by decide) ?_
        refine lv_goto (tgt := 35) hx hb dX0_readClause_31 (by decide) ?_
        refine lv_iload_n hx hb dX0_readClause_35 rfl (lv_at hl 3 rfl) ?_
        refine lv_if_ne (tgt := 43) hx hb dX0_readClause_36 (by decide) (fun c_174 => ?_) (fun c_174 => ?_)
        · skip
          refine lv_iconst (v := 0) hx hb dX0_readClause_43 (by decide) ?_
          refine lv_icmp_ne (tgt := 64) hx hb dX0_readClause_44 (by decide) (fun c_175 => ?_) (fun c_175 => absurd c_175 (by decide))
          refine lv_aload_n hx hb dX0_readClause_64 rfl (lv_at hl 2 rfl) ?_
          refine lv_iconst (v := 4) hx hb dX0_readClause_65 (by decide) ?_
          have ha_176 : 0 ≤ (4 : Int32).toInt ∧ (4 : Int32).toInt ≤ 4 := by
            have z_1 : ¬ (r_6 : Int32).toInt = ((-1) : Int32).toInt := fun z => c_9 (Int32.toInt_inj.mp z)
            have z_2 := Int32.lt_iff_toInt_lt.mp (Int32.not_le.mp c_10)
            have z_3 := congrArg Int32.toInt c_27
            have z_4 : ¬ (x1 : Int32).toInt = (0 : Int32).toInt := fun z => c_174 (Int32.toInt_inj.mp z)
            have y_m1 : (-1 : Int32).toInt = -1 := by decide
            have y_0 : (0 : Int32).toInt = 0 := by decide
            have y_40 : (40 : Int32).toInt = 40 := by decide
            have y_4 : (4 : Int32).toInt = 4 := by decide
            omega
          have ha_177 : (4 : Int32).toInt = (4 : Int) := by
            have z_1 : ¬ (r_6 : Int32).toInt = ((-1) : Int32).toInt := fun z => c_9 (Int32.toInt_inj.mp z)
            have z_2 := Int32.lt_iff_toInt_lt.mp (Int32.not_le.mp c_10)
            have z_3 := congrArg Int32.toInt c_27
            have z_4 : ¬ (x1 : Int32).toInt = (0 : Int32).toInt := fun z => c_174 (Int32.toInt_inj.mp z)
            have y_m1 : (-1 : Int32).toInt = -1 := by decide
            have y_0 : (0 : Int32).toInt = 0 := by decide
            have y_40 : (40 : Int32).toInt = 40 := by decide
            have y_4 : (4 : Int32).toInt = 4 := by decide
            omega
          refine cV (a := (Ta 0)) (As := [.int 4]) (rest := []) (wr := [((Wa 0), .inr (0, [.ref (Aa 0)])), ((Aa 0), .inr (9, [.int (Av 0), .int (Av 1), .int (Av 2), .int (Av 3), .int (Av 4), .int (Av 5), .ref (Aa 1), .ref (Aa 2), .ref (Aa 3), .ref (Aa 4), .ref (Aa 5), .ref (Aa 6), .ref (Aa 7), .ref (Aa 8)])), ((Aa 1), .inl (tc 0, 10, .inl (Af 1))), ((Aa 2), .inl (tc 0, 10, .inl (Af 2))), ((Aa 3), .inl (tc 0, 6, .inl (Af 3))), ((Aa 4), .inl (tc 0, 6, .inl (Af 4))), ((Aa 5), .inl (tc 0, 6, .inl (Af 5))), ((Aa 6), .inl (tc 0, 6, .inl (Af 6))), ((Aa 7), .inl (tc 0, 6, .inl (Af 7))), ((Aa 8), .inl (tc 0, 6, .inl (Af 8)))]) ⟨hx, hb, hml, hown, hts⟩ hK hX hA (cu_fX10_fail l D tc sk (Ta 0) (Ta 1) (Tv 0) (Tv 1) (Tv 2) (Tv 3) (Tv 4) (Tf 1) 4 rr 4 h_tape h_r ha_176 ha_177) k_557 k_554 k_555 k_556 k_96 pl_X10_fail ⟨Nat.le_of_ble_eq_true rfl, Nat.le_of_ble_eq_true rfl⟩ rfl rfl (va_recv hK hP (ci := 10) (q0 := 10) rfl rfl) hP hD hS [10, 11] [0, 1, 2, 3, 4, 5, 6, 7, 8, 9] rfl rfl rfl rfl rfl (by decide) rfl hl.1 rfl (Nat.le_of_ble_eq_true rfl) dX0_readClause_66 ⟨Nat.le_of_ble_eq_true rfl, Nat.le_of_ble_eq_true rfl⟩ (fun v_178 u_179 H locs hv_180 hP₀ hD₀ hS₀ => ?_)
          obtain ⟨sv_181, sv_182⟩ := u_179
          obtain ⟨rfl, pf_183, pf_184⟩ := hv_180
          have pf_183 : 0 ≤ ((Tv 0) : Int32).toInt ∧ ((Tv 0) : Int32).toInt ≤ 400 ∧ 0 ≤ ((Tv 1) : Int32).toInt ∧ ((Tv 1) : Int32).toInt ≤ 400 ∧ 0 ≤ ((Tv 2) : Int32).toInt ∧ ((Tv 2) : Int32).toInt ≤ 400 := pf_183
          have pf_184 : TpR (Tf 1) (Tv 0) (rER (4 : Int) rr) (Tv 1) (Tv 2) sv_181 sv_182 := pf_184
          obtain ⟨ro_185, ero_185⟩ : ∃ z : Except Int (Nat × Nat), z = (rER 4 rr) := ⟨_, rfl⟩
          rw [← ero_185] at pf_184
          have tb_186 : TpB (rTE (cB (Tf 1) (Tv 0)) ro_185) (Tv 2) sv_182 := TpR.tb pf_184
          refine W.eq (g2 := F0 m 69 ls []) rfl ?_
          replace hP : va_P D classes [((Wa 0), .inr (0, [.ref (Aa 0)])), ((Aa 0), .inr (9, [.int (Av 0), .int (Av 1), .int (Av 2), .int (Av 3), .int (Av 4), .int (Av 5), .ref (Aa 1), .ref (Aa 2), .ref (Aa 3), .ref (Aa 4), .ref (Aa 5), .ref (Aa 6), .ref (Aa 7), .ref (Aa 8)])), ((Aa 1), .inl (tc 0, 10, .inl (Af 1))), ((Aa 2), .inl (tc 0, 10, .inl (Af 2))), ((Aa 3), .inl (tc 0, 6, .inl (Af 3))), ((Aa 4), .inl (tc 0, 6, .inl (Af 4))), ((Aa 5), .inl (tc 0, 6, .inl (Af 5))), ((Aa 6), .inl (tc 0, 6, .inl (Af 6))), ((Aa 7), .inl (tc 0, 6, .inl (Af 7))), ((Aa 8), .inl (tc 0, 6, .inl (Af 8))), ((Ta 0), .inr (10, [.ref (Ta 1), .int (Tv 0), .int (Tv 1), .int (Tv 2), .int sv_181, .int sv_182])), ((Ta 1), .inl (tc 0, 400, .inl (Tf 1)))] H := hP₀
          replace hD : va_D A [((Wa 0), .inr (0, [.ref (Aa 0)])), ((Aa 0), .inr (9, [.int (Av 0), .int (Av 1), .int (Av 2), .int (Av 3), .int (Av 4), .int (Av 5), .ref (Aa 1), .ref (Aa 2), .ref (Aa 3), .ref (Aa 4), .ref (Aa 5), .ref (Aa 6), .ref (Aa 7), .ref (Aa 8)])), ((Aa 1), .inl (tc 0, 10, .inl (Af 1))), ((Aa 2), .inl (tc 0, 10, .inl (Af 2))), ((Aa 3), .inl (tc 0, 6, .inl (Af 3))), ((Aa 4), .inl (tc 0, 6, .inl (Af 4))), ((Aa 5), .inl (tc 0, 6, .inl (Af 5))), ((Aa 6), .inl (tc 0, 6, .inl (Af 6))), ((Aa 7), .inl (tc 0, 6, .inl (Af 7))), ((Aa 8), .inl (tc 0, 6, .inl (Af 8))), ((Ta 0), .inr (10, [.ref (Ta 1), .int (Tv 0), .int (Tv 1), .int (Tv 2), .int sv_181, .int sv_182])), ((Ta 1), .inl (tc 0, 400, .inl (Tf 1)))] := hD₀
          replace hS := hS₀
          clear hP₀ hD₀ hS₀
          refine lv_goto (tgt := 119) hx hb dX0_readClause_69 (by decide) ?_
          have hc_187w : waR (cB (Tf 1) (Tv 0)) (wL 0) 0 (fsC q) = (r_6 : Int32).toInt := by rw [h_fq]; exact he_7.symm
          have hr_188 : 40 ≤ x1.toInt.toNat ∨ ¬ ((r_6 : Int32).toInt = 0 ↔ x1.toInt.toNat = 0) ∨ ((r_6 : Int32).toInt = 2 ∧ 6 ≤ (Av 3).toInt) := by
            have z_1 : ¬ (r_6 : Int32).toInt = ((-1) : Int32).toInt := fun z => c_9 (Int32.toInt_inj.mp z)
            have z_2 := Int32.lt_iff_toInt_lt.mp (Int32.not_le.mp c_10)
            have z_3 := congrArg Int32.toInt c_27
            have z_4 : ¬ (x1 : Int32).toInt = (0 : Int32).toInt := fun z => c_174 (Int32.toInt_inj.mp z)
            have y_m1 : (-1 : Int32).toInt = -1 := by decide
            have y_0 : (0 : Int32).toInt = 0 := by decide
            have y_40 : (40 : Int32).toInt = 40 := by decide
            omega
          have hr_189 : ¬ (r_6 : Int32).toInt = -1 := by
            have z_1 : ¬ (r_6 : Int32).toInt = ((-1) : Int32).toInt := fun z => c_9 (Int32.toInt_inj.mp z)
            have z_2 := Int32.lt_iff_toInt_lt.mp (Int32.not_le.mp c_10)
            have z_3 := congrArg Int32.toInt c_27
            have z_4 : ¬ (x1 : Int32).toInt = (0 : Int32).toInt := fun z => c_174 (Int32.toInt_inj.mp z)
            have y_m1 : (-1 : Int32).toInt = -1 := by decide
            have y_0 : (0 : Int32).toInt = 0 := by decide
            have y_40 : (40 : Int32).toInt = 40 := by decide
            omega
          have hc_187 := qc_bad (l := x1.toInt.toNat) hc_187w hr_189 h_qq hr_188
          have hc_187q : QsQ (pz_b q (qz_cl (cB (Tf 1) (Tv 0)) x1.toInt.toNat)) (Av 0) (Av 1) (Av 2) (Av 3) (Av 4) (Av 5) (Af 1) (Af 2) (Af 3) (Af 4) (Af 5) (Af 6) (Af 7) (Af 8) := QsQ.er hc_187
          rw [h_fq] at hc_187
          have hu_190 : TpR (Tf 1) (Tv 0) (rER 4 rr) (Tv 1) (Tv 2) sv_181 sv_182 := by
            rw [← ero_185]
            exact pf_184
          have hf_191 : TpR (Tf 1) (Tv 0) (fsC (pz_b q (qz_cl (cB (Tf 1) (Tv 0)) x1.toInt.toNat))) (Tv 1) (Tv 2) sv_181 sv_182 := by
            rw [hc_187]
            exact hu_190
          exact retV hx hb hr hlk hP hD hS ((Av 0), (Av 1), (Av 2), (Av 3), (Af 1), (Af 2), (Af 3), (Af 4), (Af 5), (Tv 1), (Tv 2), sv_181, sv_182) ⟨rfl, pf_183, h_bu, hf_191, hc_187q⟩ [0, 1, 2, 3, 4, 5, 6, 7, 8, 9, 10, 11] rfl rfl dX0_readClause_119 (Nat.le_of_ble_eq_true rfl) (Nat.le_of_ble_eq_true rfl) rfl
        · skip
          refine lv_iconst (v := 1) hx hb dX0_readClause_39 (by decide) ?_
          refine lv_goto (tgt := 44) hx hb dX0_readClause_40 (by decide) ?_
          refine lv_icmp_ne (tgt := 64) hx hb dX0_readClause_44 (by decide) (fun c_192 => absurd c_192 (by decide)) (fun c_192 => ?_)
          refine lv_iload_n hx hb dX0_readClause_47 rfl (lv_at hl 0 rfl) ?_
          refine lv_iconst (v := 2) hx hb dX0_readClause_48 (by decide) ?_
          refine lv_icmp_ne (tgt := 72) hx hb dX0_readClause_49 (by decide) (fun c_193 => ?_) (fun c_193 => ?_)
          · skip
            refine lv_aload_n hx hb dX0_readClause_72 rfl (lv_at hl 2 rfl) ?_
            refine cV (a := (Ta 0)) (As := []) (rest := []) (wr := [((Wa 0), .inr (0, [.ref (Aa 0)])), ((Aa 0), .inr (9, [.int (Av 0), .int (Av 1), .int (Av 2), .int (Av 3), .int (Av 4), .int (Av 5), .ref (Aa 1), .ref (Aa 2), .ref (Aa 3), .ref (Aa 4), .ref (Aa 5), .ref (Aa 6), .ref (Aa 7), .ref (Aa 8)])), ((Aa 1), .inl (tc 0, 10, .inl (Af 1))), ((Aa 2), .inl (tc 0, 10, .inl (Af 2))), ((Aa 3), .inl (tc 0, 6, .inl (Af 3))), ((Aa 4), .inl (tc 0, 6, .inl (Af 4))), ((Aa 5), .inl (tc 0, 6, .inl (Af 5))), ((Aa 6), .inl (tc 0, 6, .inl (Af 6))), ((Aa 7), .inl (tc 0, 6, .inl (Af 7))), ((Aa 8), .inl (tc 0, 6, .inl (Af 8)))]) ⟨hx, hb, hml, hown, hts⟩ hK hX hA (cu_fX10_step l D tc sk (Ta 0) (Ta 1) (Tv 0) (Tv 1) (Tv 2) (Tv 3) (Tv 4) (Tf 1) (rTE (cB (Tf 1) (Tv 0)) rr) h_tape h_by tb_1) k_478 k_558 k_476 k_477 k_96 pl_X10_step ⟨Nat.le_of_ble_eq_true rfl, Nat.le_of_ble_eq_true rfl⟩ rfl rfl (va_recv hK hP (ci := 10) (q0 := 10) rfl rfl) hP hD hS [10, 11] [0, 1, 2, 3, 4, 5, 6, 7, 8, 9] rfl rfl rfl rfl rfl (by decide) rfl hl.1 rfl (Nat.le_of_ble_eq_true rfl) dX0_readClause_73 ⟨Nat.le_of_ble_eq_true rfl, Nat.le_of_ble_eq_true rfl⟩ (fun v_194 u_195 H locs hv_196 hP₀ hD₀ hS₀ => ?_)
            obtain ⟨sv_197, sv_198, sv_199⟩ := u_195
            obtain ⟨rfl, pf_200, pf_201⟩ := hv_196
            have pf_200 : 0 ≤ ((Tv 0) : Int32).toInt ∧ ((Tv 0) : Int32).toInt ≤ 400 ∧ 0 ≤ (sv_197 : Int32).toInt ∧ (sv_197 : Int32).toInt ≤ 400 ∧ 0 ≤ (sv_198 : Int32).toInt ∧ (sv_198 : Int32).toInt ≤ 400 := pf_200
            have pf_201 : TpR (Tf 1) (Tv 0) (rSK (cB (Tf 1) (Tv 0)) (rTE (cB (Tf 1) (Tv 0)) rr)) sv_197 sv_198 sv_199 (Tv 4) := pf_201
            rw [rNX_eq] at pf_201
            obtain ⟨ro_202, ero_202⟩ : ∃ z : Except Int (Nat × Nat), z = (rNX (cB (Tf 1) (Tv 0)) rr) := ⟨_, rfl⟩
            rw [← ero_202] at pf_201
            have tb_203 : TpB (rTE (cB (Tf 1) (Tv 0)) ro_202) sv_198 (Tv 4) := TpR.tb pf_201
            refine W.eq (g2 := F0 m 76 ls []) rfl ?_
            replace hP : va_P D classes [((Wa 0), .inr (0, [.ref (Aa 0)])), ((Aa 0), .inr (9, [.int (Av 0), .int (Av 1), .int (Av 2), .int (Av 3), .int (Av 4), .int (Av 5), .ref (Aa 1), .ref (Aa 2), .ref (Aa 3), .ref (Aa 4), .ref (Aa 5), .ref (Aa 6), .ref (Aa 7), .ref (Aa 8)])), ((Aa 1), .inl (tc 0, 10, .inl (Af 1))), ((Aa 2), .inl (tc 0, 10, .inl (Af 2))), ((Aa 3), .inl (tc 0, 6, .inl (Af 3))), ((Aa 4), .inl (tc 0, 6, .inl (Af 4))), ((Aa 5), .inl (tc 0, 6, .inl (Af 5))), ((Aa 6), .inl (tc 0, 6, .inl (Af 6))), ((Aa 7), .inl (tc 0, 6, .inl (Af 7))), ((Aa 8), .inl (tc 0, 6, .inl (Af 8))), ((Ta 0), .inr (10, [.ref (Ta 1), .int (Tv 0), .int sv_197, .int sv_198, .int sv_199, .int (Tv 4)])), ((Ta 1), .inl (tc 0, 400, .inl (Tf 1)))] H := hP₀
            replace hD : va_D A [((Wa 0), .inr (0, [.ref (Aa 0)])), ((Aa 0), .inr (9, [.int (Av 0), .int (Av 1), .int (Av 2), .int (Av 3), .int (Av 4), .int (Av 5), .ref (Aa 1), .ref (Aa 2), .ref (Aa 3), .ref (Aa 4), .ref (Aa 5), .ref (Aa 6), .ref (Aa 7), .ref (Aa 8)])), ((Aa 1), .inl (tc 0, 10, .inl (Af 1))), ((Aa 2), .inl (tc 0, 10, .inl (Af 2))), ((Aa 3), .inl (tc 0, 6, .inl (Af 3))), ((Aa 4), .inl (tc 0, 6, .inl (Af 4))), ((Aa 5), .inl (tc 0, 6, .inl (Af 5))), ((Aa 6), .inl (tc 0, 6, .inl (Af 6))), ((Aa 7), .inl (tc 0, 6, .inl (Af 7))), ((Aa 8), .inl (tc 0, 6, .inl (Af 8))), ((Ta 0), .inr (10, [.ref (Ta 1), .int (Tv 0), .int sv_197, .int sv_198, .int sv_199, .int (Tv 4)])), ((Ta 1), .inl (tc 0, 400, .inl (Tf 1)))] := hD₀
            replace hS := hS₀
            clear hP₀ hD₀ hS₀
            have pf_204 : QcI ro_202 (Av 0) (Av 1) (Av 2) (Av 3) (Av 4) (Av 5) (Af 1) (Af 2) (Af 3) (Af 4) (Af 5) (Af 6) (Af 7) (Af 8) (cnQ q) := by rw [ero_202]; exact QsQ.ci h_qq h_fq
            refine lv_iload_n hx hb dX0_readClause_76 rfl (lv_at hl 0 rfl) ?_
            refine lv_if_ne (tgt := 88) hx hb dX0_readClause_77 (by decide) (fun c_205 => ?_) (fun c_205 => ?_)
            · skip
              exfalso
              have z_1 : ¬ (r_6 : Int32).toInt = ((-1) : Int32).toInt := fun z => c_9 (Int32.toInt_inj.mp z)
              have z_2 := Int32.lt_iff_toInt_lt.mp (Int32.not_le.mp c_10)
              have z_3 := congrArg Int32.toInt c_27
              have z_4 := congrArg Int32.toInt c_174
              have z_5 : ¬ (r_6 : Int32).toInt = (2 : Int32).toInt := fun z => c_193 (Int32.toInt_inj.mp z)
              have z_6 : ¬ (r_6 : Int32).toInt = (0 : Int32).toInt := fun z => c_205 (Int32.toInt_inj.mp z)
              have y_m1 : (-1 : Int32).toInt = -1 := by decide
              have y_0 : (0 : Int32).toInt = 0 := by decide
              have y_2 : (2 : Int32).toInt = 2 := by decide
              have y_40 : (40 : Int32).toInt = 40 := by decide
              omega
            · skip
              refine lv_aload_n hx hb dX0_readClause_80 rfl (lv_at hl 1 rfl) ?_
              refine lv_aload_n hx hb dX0_readClause_81 rfl (lv_at hl 2 rfl) ?_
              refine cV (a := (Wa 0)) (As := [.ref (Ta 0)]) (rest := []) (wr := []) ⟨hx, hb, hml, hown, hts⟩ hK hX hA (cu_zX0_readBook l D tc sk (Wa 0) (Aa 0) (Aa 1) (Aa 2) (Aa 3) (Aa 4) (Aa 5) (Aa 6) (Aa 7) (Aa 8) (Av 0) (Av 1) (Av 2) (Av 3) (Av 4) (Av 5) (Af 1) (Af 2) (Af 3) (Af 4) (Af 5) (Af 6) (Af 7) (Af 8) (Ta 0) (Ta 1) (Tv 0) sv_197 sv_198 sv_199 (Tv 4) (Tf 1) ro_202 (cnQ q) pf_200 h_by pf_201 h_bu pf_204) k_562 k_559 k_561 k_3 k_97 pl_X0_readBook ⟨Nat.le_of_ble_eq_true rfl, Nat.le_of_ble_eq_true rfl⟩ rfl rfl (va_recv hK hP (ci := 0) (q0 := 0) rfl rfl) hP hD hS [0, 1, 2, 3, 4, 5, 6, 7, 8, 9, 10, 11] [] rfl rfl rfl rfl rfl (by decide) rfl hl.1 rfl (Nat.le_of_ble_eq_true rfl) dX0_readClause_82 ⟨Nat.le_of_ble_eq_true rfl, Nat.le_of_ble_eq_true rfl⟩ (fun v_206 u_207 H locs hv_208 hP₀ hD₀ hS₀ => ?_)
              obtain ⟨sv_209, sv_210, sv_211, sv_212, sv_213, sv_214, sv_215⟩ := u_207
              obtain ⟨rfl, pf_216, pf_217, pf_218, pf_219⟩ := hv_208
              have pf_216 : 0 ≤ ((Tv 0) : Int32).toInt ∧ ((Tv 0) : Int32).toInt ≤ 400 ∧ 0 ≤ (sv_212 : Int32).toInt ∧ (sv_212 : Int32).toInt ≤ 400 ∧ 0 ≤ (sv_213 : Int32).toInt ∧ (sv_213 : Int32).toInt ≤ 400 := pf_216
              have pf_217 : 0 ≤ ((Av 3) : Int32).toInt ∧ ((Av 3) : Int32).toInt ≤ 6 := pf_217
              have pf_218 : TpR (Tf 1) (Tv 0) (rN1 (cB (Tf 1) (Tv 0)) 1 10 (rN1 (cB (Tf 1) (Tv 0)) 0 9 (rN1 (cB (Tf 1) (Tv 0)) 0 99 ro_202))) sv_212 sv_213 sv_214 sv_215 := pf_218
              obtain ⟨ro_220, ero_220⟩ : ∃ z : Except Int (Nat × Nat), z = (rN1 (cB (Tf 1) (Tv 0)) 1 10 (rN1 (cB (Tf 1) (Tv 0)) 0 9 (rN1 (cB (Tf 1) (Tv 0)) 0 99 ro_202))) := ⟨_, rfl⟩
              rw [← ero_220] at pf_218
              have tb_221 : TpB (rTE (cB (Tf 1) (Tv 0)) ro_220) sv_213 sv_215 := TpR.tb pf_218
              have pf_219 : QsQ (qz_k0 (cB (Tf 1) (Tv 0)) (cnQ q) ro_202) sv_209 sv_210 sv_211 (Av 3) (Av 4) (Av 5) (Af 1) (Af 2) (Af 3) (Af 4) (Af 5) (Af 6) (Af 7) (Af 8) := pf_219
              refine W.eq (g2 := F0 m 85 ls []) rfl ?_
              replace hP : va_P D classes [((Wa 0), .inr (0, [.ref (Aa 0)])), ((Aa 0), .inr (9, [.int sv_209, .int sv_210, .int sv_211, .int (Av 3), .int (Av 4), .int (Av 5), .ref (Aa 1), .ref (Aa 2), .ref (Aa 3), .ref (Aa 4), .ref (Aa 5), .ref (Aa 6), .ref (Aa 7), .ref (Aa 8)])), ((Aa 1), .inl (tc 0, 10, .inl (Af 1))), ((Aa 2), .inl (tc 0, 10, .inl (Af 2))), ((Aa 3), .inl (tc 0, 6, .inl (Af 3))), ((Aa 4), .inl (tc 0, 6, .inl (Af 4))), ((Aa 5), .inl (tc 0, 6, .inl (Af 5))), ((Aa 6), .inl (tc 0, 6, .inl (Af 6))), ((Aa 7), .inl (tc 0, 6, .inl (Af 7))), ((Aa 8), .inl (tc 0, 6, .inl (Af 8))), ((Ta 0), .inr (10, [.ref (Ta 1), .int (Tv 0), .int sv_212, .int sv_213, .int sv_214, .int sv_215])), ((Ta 1), .inl (tc 0, 400, .inl (Tf 1)))] H := hP₀
              replace hD : va_D A [((Wa 0), .inr (0, [.ref (Aa 0)])), ((Aa 0), .inr (9, [.int sv_209, .int sv_210, .int sv_211, .int (Av 3), .int (Av 4), .int (Av 5), .ref (Aa 1), .ref (Aa 2), .ref (Aa 3), .ref (Aa 4), .ref (Aa 5), .ref (Aa 6), .ref (Aa 7), .ref (Aa 8)])), ((Aa 1), .inl (tc 0, 10, .inl (Af 1))), ((Aa 2), .inl (tc 0, 10, .inl (Af 2))), ((Aa 3), .inl (tc 0, 6, .inl (Af 3))), ((Aa 4), .inl (tc 0, 6, .inl (Af 4))), ((Aa 5), .inl (tc 0, 6, .inl (Af 5))), ((Aa 6), .inl (tc 0, 6, .inl (Af 6))), ((Aa 7), .inl (tc 0, 6, .inl (Af 7))), ((Aa 8), .inl (tc 0, 6, .inl (Af 8))), ((Ta 0), .inr (10, [.ref (Ta 1), .int (Tv 0), .int sv_212, .int sv_213, .int sv_214, .int sv_215])), ((Ta 1), .inl (tc 0, 400, .inl (Tf 1)))] := hD₀
              replace hS := hS₀
              clear hP₀ hD₀ hS₀
              refine lv_goto (tgt := 119) hx hb dX0_readClause_85 (by decide) ?_
              have hc_222w : waR (cB (Tf 1) (Tv 0)) (wL 0) 0 (fsC q) = (r_6 : Int32).toInt := by rw [h_fq]; exact he_7.symm
              have hr_223 : (r_6 : Int32).toInt = 0 := by
                have z_1 : ¬ (r_6 : Int32).toInt = ((-1) : Int32).toInt := fun z => c_9 (Int32.toInt_inj.mp z)
                have z_2 := Int32.lt_iff_toInt_lt.mp (Int32.not_le.mp c_10)
                have z_3 := congrArg Int32.toInt c_27
                have z_4 := congrArg Int32.toInt c_174
                have z_5 : ¬ (r_6 : Int32).toInt = (2 : Int32).toInt := fun z => c_193 (Int32.toInt_inj.mp z)
                have z_6 := congrArg Int32.toInt c_205
                have y_m1 : (-1 : Int32).toInt = -1 := by decide
                have y_0 : (0 : Int32).toInt = 0 := by decide
                have y_2 : (2 : Int32).toInt = 2 := by decide
                have y_40 : (40 : Int32).toInt = 40 := by decide
                omega
              rw [hr_223] at hc_222w
              have hr_224 : x1.toInt.toNat = 0 := by
                have z_1 : ¬ (r_6 : Int32).toInt = ((-1) : Int32).toInt := fun z => c_9 (Int32.toInt_inj.mp z)
                have z_2 := Int32.lt_iff_toInt_lt.mp (Int32.not_le.mp c_10)
                have z_3 := congrArg Int32.toInt c_27
                have z_4 := congrArg Int32.toInt c_174
                have z_5 : ¬ (r_6 : Int32).toInt = (2 : Int32).toInt := fun z => c_193 (Int32.toInt_inj.mp z)
                have z_6 := congrArg Int32.toInt c_205
                have y_m1 : (-1 : Int32).toInt = -1 := by decide
                have y_0 : (0 : Int32).toInt = 0 := by decide
                have y_2 : (2 : Int32).toInt = 2 := by decide
                have y_40 : (40 : Int32).toInt = 40 := by decide
                omega
              have hc_222 := qc_0 (l := x1.toInt.toNat) hc_222w h_qq hr_224
              rw [h_fq] at hc_222
              have hc_222q : QsQ (pz_b q (qz_cl (cB (Tf 1) (Tv 0)) x1.toInt.toNat)) sv_209 sv_210 sv_211 (Av 3) (Av 4) (Av 5) (Af 1) (Af 2) (Af 3) (Af 4) (Af 5) (Af 6) (Af 7) (Af 8) := by
                rw [hc_222.1, ← ero_202]
                exact pf_219
              have hu_225 : TpR (Tf 1) (Tv 0) (rN1 (cB (Tf 1) (Tv 0)) 1 10 (rN1 (cB (Tf 1) (Tv 0)) 0 9 (rN1 (cB (Tf 1) (Tv 0)) 0 99 (rNX (cB (Tf 1) (Tv 0)) rr)))) sv_212 sv_213 sv_214 sv_215 := by
                rw [← ero_202, ← ero_220]
                exact pf_218
              have hf_226 : TpR (Tf 1) (Tv 0) (fsC (pz_b q (qz_cl (cB (Tf 1) (Tv 0)) x1.toInt.toNat))) sv_212 sv_213 sv_214 sv_215 := by
                rw [hc_222.2]
                exact hu_225
              exact retV hx hb hr hlk hP hD hS (sv_209, sv_210, sv_211, (Av 3), (Af 1), (Af 2), (Af 3), (Af 4), (Af 5), sv_212, sv_213, sv_214, sv_215) ⟨rfl, pf_216, pf_217, hf_226, hc_222q⟩ [0, 1, 2, 3, 4, 5, 6, 7, 8, 9, 10, 11] rfl rfl dX0_readClause_119 (Nat.le_of_ble_eq_true rfl) (Nat.le_of_ble_eq_true rfl) rfl
          · skip
            refine lv_aload_n hx hb dX0_readClause_52 rfl (lv_at hl 1 rfl) ?_
            refine gf_X0_12 hx hb hts hown hK hP 0 rfl rfl dX0_readClause_53 ?_
            refine gf_X0_51 hx hb hts hown hK hP 1 rfl rfl dX0_readClause_56 ?_
            refine lv_bipush (v := 6) hx hb dX0_readClause_59 (by decide) ?_
            refine lv_icmp_lt (tgt := 72) hx hb dX0_readClause_61 (by decide) (fun c_227 => ?_) (fun c_227 => ?_)
            · skip
              refine lv_aload_n hx hb dX0_readClause_72 rfl (lv_at hl 2 rfl) ?_
              refine cV (a := (Ta 0)) (As := []) (rest := []) (wr := [((Wa 0), .inr (0, [.ref (Aa 0)])), ((Aa 0), .inr (9, [.int (Av 0), .int (Av 1), .int (Av 2), .int (Av 3), .int (Av 4), .int (Av 5), .ref (Aa 1), .ref (Aa 2), .ref (Aa 3), .ref (Aa 4), .ref (Aa 5), .ref (Aa 6), .ref (Aa 7), .ref (Aa 8)])), ((Aa 1), .inl (tc 0, 10, .inl (Af 1))), ((Aa 2), .inl (tc 0, 10, .inl (Af 2))), ((Aa 3), .inl (tc 0, 6, .inl (Af 3))), ((Aa 4), .inl (tc 0, 6, .inl (Af 4))), ((Aa 5), .inl (tc 0, 6, .inl (Af 5))), ((Aa 6), .inl (tc 0, 6, .inl (Af 6))), ((Aa 7), .inl (tc 0, 6, .inl (Af 7))), ((Aa 8), .inl (tc 0, 6, .inl (Af 8)))]) ⟨hx, hb, hml, hown, hts⟩ hK hX hA (cu_fX10_step l D tc sk (Ta 0) (Ta 1) (Tv 0) (Tv 1) (Tv 2) (Tv 3) (Tv 4) (Tf 1) (rTE (cB (Tf 1) (Tv 0)) rr) h_tape h_by tb_1) k_478 k_558 k_476 k_477 k_96 pl_X10_step ⟨Nat.le_of_ble_eq_true rfl, Nat.le_of_ble_eq_true rfl⟩ rfl rfl (va_recv hK hP (ci := 10) (q0 := 10) rfl rfl) hP hD hS [10, 11] [0, 1, 2, 3, 4, 5, 6, 7, 8, 9] rfl rfl rfl rfl rfl (by decide) rfl hl.1 rfl (Nat.le_of_ble_eq_true rfl) dX0_readClause_73 ⟨Nat.le_of_ble_eq_true rfl, Nat.le_of_ble_eq_true rfl⟩ (fun v_228 u_229 H locs hv_230 hP₀ hD₀ hS₀ => ?_)
              obtain ⟨sv_231, sv_232, sv_233⟩ := u_229
              obtain ⟨rfl, pf_234, pf_235⟩ := hv_230
              have pf_234 : 0 ≤ ((Tv 0) : Int32).toInt ∧ ((Tv 0) : Int32).toInt ≤ 400 ∧ 0 ≤ (sv_231 : Int32).toInt ∧ (sv_231 : Int32).toInt ≤ 400 ∧ 0 ≤ (sv_232 : Int32).toInt ∧ (sv_232 : Int32).toInt ≤ 400 := pf_234
              have pf_235 : TpR (Tf 1) (Tv 0) (rSK (cB (Tf 1) (Tv 0)) (rTE (cB (Tf 1) (Tv 0)) rr)) sv_231 sv_232 sv_233 (Tv 4) := pf_235
              rw [rNX_eq] at pf_235
              obtain ⟨ro_236, ero_236⟩ : ∃ z : Except Int (Nat × Nat), z = (rNX (cB (Tf 1) (Tv 0)) rr) := ⟨_, rfl⟩
              rw [← ero_236] at pf_235
              have tb_237 : TpB (rTE (cB (Tf 1) (Tv 0)) ro_236) sv_232 (Tv 4) := TpR.tb pf_235
              refine W.eq (g2 := F0 m 76 ls []) rfl ?_
              replace hP : va_P D classes [((Wa 0), .inr (0, [.ref (Aa 0)])), ((Aa 0), .inr (9, [.int (Av 0), .int (Av 1), .int (Av 2), .int (Av 3), .int (Av 4), .int (Av 5), .ref (Aa 1), .ref (Aa 2), .ref (Aa 3), .ref (Aa 4), .ref (Aa 5), .ref (Aa 6), .ref (Aa 7), .ref (Aa 8)])), ((Aa 1), .inl (tc 0, 10, .inl (Af 1))), ((Aa 2), .inl (tc 0, 10, .inl (Af 2))), ((Aa 3), .inl (tc 0, 6, .inl (Af 3))), ((Aa 4), .inl (tc 0, 6, .inl (Af 4))), ((Aa 5), .inl (tc 0, 6, .inl (Af 5))), ((Aa 6), .inl (tc 0, 6, .inl (Af 6))), ((Aa 7), .inl (tc 0, 6, .inl (Af 7))), ((Aa 8), .inl (tc 0, 6, .inl (Af 8))), ((Ta 0), .inr (10, [.ref (Ta 1), .int (Tv 0), .int sv_231, .int sv_232, .int sv_233, .int (Tv 4)])), ((Ta 1), .inl (tc 0, 400, .inl (Tf 1)))] H := hP₀
              replace hD : va_D A [((Wa 0), .inr (0, [.ref (Aa 0)])), ((Aa 0), .inr (9, [.int (Av 0), .int (Av 1), .int (Av 2), .int (Av 3), .int (Av 4), .int (Av 5), .ref (Aa 1), .ref (Aa 2), .ref (Aa 3), .ref (Aa 4), .ref (Aa 5), .ref (Aa 6), .ref (Aa 7), .ref (Aa 8)])), ((Aa 1), .inl (tc 0, 10, .inl (Af 1))), ((Aa 2), .inl (tc 0, 10, .inl (Af 2))), ((Aa 3), .inl (tc 0, 6, .inl (Af 3))), ((Aa 4), .inl (tc 0, 6, .inl (Af 4))), ((Aa 5), .inl (tc 0, 6, .inl (Af 5))), ((Aa 6), .inl (tc 0, 6, .inl (Af 6))), ((Aa 7), .inl (tc 0, 6, .inl (Af 7))), ((Aa 8), .inl (tc 0, 6, .inl (Af 8))), ((Ta 0), .inr (10, [.ref (Ta 1), .int (Tv 0), .int sv_231, .int sv_232, .int sv_233, .int (Tv 4)])), ((Ta 1), .inl (tc 0, 400, .inl (Tf 1)))] := hD₀
              replace hS := hS₀
              clear hP₀ hD₀ hS₀
              have pf_238 : QcI ro_236 (Av 0) (Av 1) (Av 2) (Av 3) (Av 4) (Av 5) (Af 1) (Af 2) (Af 3) (Af 4) (Af 5) (Af 6) (Af 7) (Af 8) (cnQ q) := by rw [ero_236]; exact QsQ.ci h_qq h_fq
              refine lv_iload_n hx hb dX0_readClause_76 rfl (lv_at hl 0 rfl) ?_
              refine lv_if_ne (tgt := 88) hx hb dX0_readClause_77 (by decide) (fun c_239 => ?_) (fun c_239 => ?_)
              · skip
                exfalso
                have z_1 : ¬ (r_6 : Int32).toInt = ((-1) : Int32).toInt := fun z => c_9 (Int32.toInt_inj.mp z)
                have z_2 := Int32.lt_iff_toInt_lt.mp (Int32.not_le.mp c_10)
                have z_3 := congrArg Int32.toInt c_27
                have z_4 := congrArg Int32.toInt c_174
                have z_5 := congrArg Int32.toInt c_193
                have z_6 := Int32.lt_iff_toInt_lt.mp c_227
                have z_7 : ¬ (r_6 : Int32).toInt = (0 : Int32).toInt := fun z => c_239 (Int32.toInt_inj.mp z)
                have y_m1 : (-1 : Int32).toInt = -1 := by decide
                have y_0 : (0 : Int32).toInt = 0 := by decide
                have y_2 : (2 : Int32).toInt = 2 := by decide
                have y_6 : (6 : Int32).toInt = 6 := by decide
                have y_40 : (40 : Int32).toInt = 40 := by decide
                omega
              · skip
                refine lv_aload_n hx hb dX0_readClause_80 rfl (lv_at hl 1 rfl) ?_
                refine lv_aload_n hx hb dX0_readClause_81 rfl (lv_at hl 2 rfl) ?_
                refine cV (a := (Wa 0)) (As := [.ref (Ta 0)]) (rest := []) (wr := []) ⟨hx, hb, hml, hown, hts⟩ hK hX hA (cu_zX0_readBook l D tc sk (Wa 0) (Aa 0) (Aa 1) (Aa 2) (Aa 3) (Aa 4) (Aa 5) (Aa 6) (Aa 7) (Aa 8) (Av 0) (Av 1) (Av 2) (Av 3) (Av 4) (Av 5) (Af 1) (Af 2) (Af 3) (Af 4) (Af 5) (Af 6) (Af 7) (Af 8) (Ta 0) (Ta 1) (Tv 0) sv_231 sv_232 sv_233 (Tv 4) (Tf 1) ro_236 (cnQ q) pf_234 h_by pf_235 h_bu pf_238) k_562 k_559 k_561 k_3 k_97 pl_X0_readBook ⟨Nat.le_of_ble_eq_true rfl, Nat.le_of_ble_eq_true rfl⟩ rfl rfl (va_recv hK hP (ci := 0) (q0 := 0) rfl rfl) hP hD hS [0, 1, 2, 3, 4, 5, 6, 7, 8, 9, 10, 11] [] rfl rfl rfl rfl rfl (by decide) rfl hl.1 rfl (Nat.le_of_ble_eq_true rfl) dX0_readClause_82 ⟨Nat.le_of_ble_eq_true rfl, Nat.le_of_ble_eq_true rfl⟩ (fun v_240 u_241 H locs hv_242 hP₀ hD₀ hS₀ => ?_)
                obtain ⟨sv_243, sv_244, sv_245, sv_246, sv_247, sv_248, sv_249⟩ := u_241
                obtain ⟨rfl, pf_250, pf_251, pf_252, pf_253⟩ := hv_242
                have pf_250 : 0 ≤ ((Tv 0) : Int32).toInt ∧ ((Tv 0) : Int32).toInt ≤ 400 ∧ 0 ≤ (sv_246 : Int32).toInt ∧ (sv_246 : Int32).toInt ≤ 400 ∧ 0 ≤ (sv_247 : Int32).toInt ∧ (sv_247 : Int32).toInt ≤ 400 := pf_250
                have pf_251 : 0 ≤ ((Av 3) : Int32).toInt ∧ ((Av 3) : Int32).toInt ≤ 6 := pf_251
                have pf_252 : TpR (Tf 1) (Tv 0) (rN1 (cB (Tf 1) (Tv 0)) 1 10 (rN1 (cB (Tf 1) (Tv 0)) 0 9 (rN1 (cB (Tf 1) (Tv 0)) 0 99 ro_236))) sv_246 sv_247 sv_248 sv_249 := pf_252
                obtain ⟨ro_254, ero_254⟩ : ∃ z : Except Int (Nat × Nat), z = (rN1 (cB (Tf 1) (Tv 0)) 1 10 (rN1 (cB (Tf 1) (Tv 0)) 0 9 (rN1 (cB (Tf 1) (Tv 0)) 0 99 ro_236))) := ⟨_, rfl⟩
                rw [← ero_254] at pf_252
                have tb_255 : TpB (rTE (cB (Tf 1) (Tv 0)) ro_254) sv_247 sv_249 := TpR.tb pf_252
                have pf_253 : QsQ (qz_k0 (cB (Tf 1) (Tv 0)) (cnQ q) ro_236) sv_243 sv_244 sv_245 (Av 3) (Av 4) (Av 5) (Af 1) (Af 2) (Af 3) (Af 4) (Af 5) (Af 6) (Af 7) (Af 8) := pf_253
                refine W.eq (g2 := F0 m 85 ls []) rfl ?_
                replace hP : va_P D classes [((Wa 0), .inr (0, [.ref (Aa 0)])), ((Aa 0), .inr (9, [.int sv_243, .int sv_244, .int sv_245, .int (Av 3), .int (Av 4), .int (Av 5), .ref (Aa 1), .ref (Aa 2), .ref (Aa 3), .ref (Aa 4), .ref (Aa 5), .ref (Aa 6), .ref (Aa 7), .ref (Aa 8)])), ((Aa 1), .inl (tc 0, 10, .inl (Af 1))), ((Aa 2), .inl (tc 0, 10, .inl (Af 2))), ((Aa 3), .inl (tc 0, 6, .inl (Af 3))), ((Aa 4), .inl (tc 0, 6, .inl (Af 4))), ((Aa 5), .inl (tc 0, 6, .inl (Af 5))), ((Aa 6), .inl (tc 0, 6, .inl (Af 6))), ((Aa 7), .inl (tc 0, 6, .inl (Af 7))), ((Aa 8), .inl (tc 0, 6, .inl (Af 8))), ((Ta 0), .inr (10, [.ref (Ta 1), .int (Tv 0), .int sv_246, .int sv_247, .int sv_248, .int sv_249])), ((Ta 1), .inl (tc 0, 400, .inl (Tf 1)))] H := hP₀
                replace hD : va_D A [((Wa 0), .inr (0, [.ref (Aa 0)])), ((Aa 0), .inr (9, [.int sv_243, .int sv_244, .int sv_245, .int (Av 3), .int (Av 4), .int (Av 5), .ref (Aa 1), .ref (Aa 2), .ref (Aa 3), .ref (Aa 4), .ref (Aa 5), .ref (Aa 6), .ref (Aa 7), .ref (Aa 8)])), ((Aa 1), .inl (tc 0, 10, .inl (Af 1))), ((Aa 2), .inl (tc 0, 10, .inl (Af 2))), ((Aa 3), .inl (tc 0, 6, .inl (Af 3))), ((Aa 4), .inl (tc 0, 6, .inl (Af 4))), ((Aa 5), .inl (tc 0, 6, .inl (Af 5))), ((Aa 6), .inl (tc 0, 6, .inl (Af 6))), ((Aa 7), .inl (tc 0, 6, .inl (Af 7))), ((Aa 8), .inl (tc 0, 6, .inl (Af 8))), ((Ta 0), .inr (10, [.ref (Ta 1), .int (Tv 0), .int sv_246, .int sv_247, .int sv_248, .int sv_249])), ((Ta 1), .inl (tc 0, 400, .inl (Tf 1)))] := hD₀
                replace hS := hS₀
                clear hP₀ hD₀ hS₀
                refine lv_goto (tgt := 119) hx hb dX0_readClause_85 (by decide) ?_
                have hc_256w : waR (cB (Tf 1) (Tv 0)) (wL 0) 0 (fsC q) = (r_6 : Int32).toInt := by rw [h_fq]; exact he_7.symm
                have hr_257 : (r_6 : Int32).toInt = 0 := by
                  have z_1 : ¬ (r_6 : Int32).toInt = ((-1) : Int32).toInt := fun z => c_9 (Int32.toInt_inj.mp z)
                  have z_2 := Int32.lt_iff_toInt_lt.mp (Int32.not_le.mp c_10)
                  have z_3 := congrArg Int32.toInt c_27
                  have z_4 := congrArg Int32.toInt c_174
                  have z_5 := congrArg Int32.toInt c_193
                  have z_6 := Int32.lt_iff_toInt_lt.mp c_227
                  have z_7 := congrArg Int32.toInt c_239
                  have y_m1 : (-1 : Int32).toInt = -1 := by decide
                  have y_0 : (0 : Int32).toInt = 0 := by decide
                  have y_2 : (2 : Int32).toInt = 2 := by decide
                  have y_6 : (6 : Int32).toInt = 6 := by decide
                  have y_40 : (40 : Int32).toInt = 40 := by decide
                  omega
                rw [hr_257] at hc_256w
                have hr_258 : x1.toInt.toNat = 0 := by
                  have z_1 : ¬ (r_6 : Int32).toInt = ((-1) : Int32).toInt := fun z => c_9 (Int32.toInt_inj.mp z)
                  have z_2 := Int32.lt_iff_toInt_lt.mp (Int32.not_le.mp c_10)
                  have z_3 := congrArg Int32.toInt c_27
                  have z_4 := congrArg Int32.toInt c_174
                  have z_5 := congrArg Int32.toInt c_193
                  have z_6 := Int32.lt_iff_toInt_lt.mp c_227
                  have z_7 := congrArg Int32.toInt c_239
                  have y_m1 : (-1 : Int32).toInt = -1 := by decide
                  have y_0 : (0 : Int32).toInt = 0 := by decide
                  have y_2 : (2 : Int32).toInt = 2 := by decide
                  have y_6 : (6 : Int32).toInt = 6 := by decide
                  have y_40 : (40 : Int32).toInt = 40 := by decide
                  omega
                have hc_256 := qc_0 (l := x1.toInt.toNat) hc_256w h_qq hr_258
                rw [h_fq] at hc_256
                have hc_256q : QsQ (pz_b q (qz_cl (cB (Tf 1) (Tv 0)) x1.toInt.toNat)) sv_243 sv_244 sv_245 (Av 3) (Av 4) (Av 5) (Af 1) (Af 2) (Af 3) (Af 4) (Af 5) (Af 6) (Af 7) (Af 8) := by
                  rw [hc_256.1, ← ero_236]
                  exact pf_253
                have hu_259 : TpR (Tf 1) (Tv 0) (rN1 (cB (Tf 1) (Tv 0)) 1 10 (rN1 (cB (Tf 1) (Tv 0)) 0 9 (rN1 (cB (Tf 1) (Tv 0)) 0 99 (rNX (cB (Tf 1) (Tv 0)) rr)))) sv_246 sv_247 sv_248 sv_249 := by
                  rw [← ero_236, ← ero_254]
                  exact pf_252
                have hf_260 : TpR (Tf 1) (Tv 0) (fsC (pz_b q (qz_cl (cB (Tf 1) (Tv 0)) x1.toInt.toNat))) sv_246 sv_247 sv_248 sv_249 := by
                  rw [hc_256.2]
                  exact hu_259
                exact retV hx hb hr hlk hP hD hS (sv_243, sv_244, sv_245, (Av 3), (Af 1), (Af 2), (Af 3), (Af 4), (Af 5), sv_246, sv_247, sv_248, sv_249) ⟨rfl, pf_250, pf_251, hf_260, hc_256q⟩ [0, 1, 2, 3, 4, 5, 6, 7, 8, 9, 10, 11] rfl rfl dX0_readClause_119 (Nat.le_of_ble_eq_true rfl) (Nat.le_of_ble_eq_true rfl) rfl
            · skip
              refine lv_aload_n hx hb dX0_readClause_64 rfl (lv_at hl 2 rfl) ?_
              refine lv_iconst (v := 4) hx hb dX0_readClause_65 (by decide) ?_
              have ha_261 : 0 ≤ (4 : Int32).toInt ∧ (4 : Int32).toInt ≤ 4 := by
                have z_1 : ¬ (r_6 : Int32).toInt = ((-1) : Int32).toInt := fun z => c_9 (Int32.toInt_inj.mp z)
                have z_2 := Int32.lt_iff_toInt_lt.mp (Int32.not_le.mp c_10)
                have z_3 := congrArg Int32.toInt c_27
                have z_4 := congrArg Int32.toInt c_174
                have z_5 := congrArg Int32.toInt c_193
                have z_6 := Int32.le_iff_toInt_le.mp (Int32.not_lt.mp c_227)
                have y_m1 : (-1 : Int32).toInt = -1 := by decide
                have y_0 : (0 : Int32).toInt = 0 := by decide
                have y_2 : (2 : Int32).toInt = 2 := by decide
                have y_6 : (6 : Int32).toInt = 6 := by decide
                have y_40 : (40 : Int32).toInt = 40 := by decide
                have y_4 : (4 : Int32).toInt = 4 := by decide
                omega
              have ha_262 : (4 : Int32).toInt = (4 : Int) := by
                have z_1 : ¬ (r_6 : Int32).toInt = ((-1) : Int32).toInt := fun z => c_9 (Int32.toInt_inj.mp z)
                have z_2 := Int32.lt_iff_toInt_lt.mp (Int32.not_le.mp c_10)
                have z_3 := congrArg Int32.toInt c_27
                have z_4 := congrArg Int32.toInt c_174
                have z_5 := congrArg Int32.toInt c_193
                have z_6 := Int32.le_iff_toInt_le.mp (Int32.not_lt.mp c_227)
                have y_m1 : (-1 : Int32).toInt = -1 := by decide
                have y_0 : (0 : Int32).toInt = 0 := by decide
                have y_2 : (2 : Int32).toInt = 2 := by decide
                have y_6 : (6 : Int32).toInt = 6 := by decide
                have y_40 : (40 : Int32).toInt = 40 := by decide
                have y_4 : (4 : Int32).toInt = 4 := by decide
                omega
              refine cV (a := (Ta 0)) (As := [.int 4]) (rest := []) (wr := [((Wa 0), .inr (0, [.ref (Aa 0)])), ((Aa 0), .inr (9, [.int (Av 0), .int (Av 1), .int (Av 2), .int (Av 3), .int (Av 4), .int (Av 5), .ref (Aa 1), .ref (Aa 2), .ref (Aa 3), .ref (Aa 4), .ref (Aa 5), .ref (Aa 6), .ref (Aa 7), .ref (Aa 8)])), ((Aa 1), .inl (tc 0, 10, .inl (Af 1))), ((Aa 2), .inl (tc 0, 10, .inl (Af 2))), ((Aa 3), .inl (tc 0, 6, .inl (Af 3))), ((Aa 4), .inl (tc 0, 6, .inl (Af 4))), ((Aa 5), .inl (tc 0, 6, .inl (Af 5))), ((Aa 6), .inl (tc 0, 6, .inl (Af 6))), ((Aa 7), .inl (tc 0, 6, .inl (Af 7))), ((Aa 8), .inl (tc 0, 6, .inl (Af 8)))]) ⟨hx, hb, hml, hown, hts⟩ hK hX hA (cu_fX10_fail l D tc sk (Ta 0) (Ta 1) (Tv 0) (Tv 1) (Tv 2) (Tv 3) (Tv 4) (Tf 1) 4 rr 4 h_tape h_r ha_261 ha_262) k_557 k_554 k_555 k_556 k_96 pl_X10_fail ⟨Nat.le_of_ble_eq_true rfl, Nat.le_of_ble_eq_true rfl⟩ rfl rfl (va_recv hK hP (ci := 10) (q0 := 10) rfl rfl) hP hD hS [10, 11] [0, 1, 2, 3, 4, 5, 6, 7, 8, 9] rfl rfl rfl rfl rfl (by decide) rfl hl.1 rfl (Nat.le_of_ble_eq_true rfl) dX0_readClause_66 ⟨Nat.le_of_ble_eq_true rfl, Nat.le_of_ble_eq_true rfl⟩ (fun v_263 u_264 H locs hv_265 hP₀ hD₀ hS₀ => ?_)
              obtain ⟨sv_266, sv_267⟩ := u_264
              obtain ⟨rfl, pf_268, pf_269⟩ := hv_265
              have pf_268 : 0 ≤ ((Tv 0) : Int32).toInt ∧ ((Tv 0) : Int32).toInt ≤ 400 ∧ 0 ≤ ((Tv 1) : Int32).toInt ∧ ((Tv 1) : Int32).toInt ≤ 400 ∧ 0 ≤ ((Tv 2) : Int32).toInt ∧ ((Tv 2) : Int32).toInt ≤ 400 := pf_268
              have pf_269 : TpR (Tf 1) (Tv 0) (rER (4 : Int) rr) (Tv 1) (Tv 2) sv_266 sv_267 := pf_269
              obtain ⟨ro_270, ero_270⟩ : ∃ z : Except Int (Nat × Nat), z = (rER 4 rr) := ⟨_, rfl⟩
              rw [← ero_270] at pf_269
              have tb_271 : TpB (rTE (cB (Tf 1) (Tv 0)) ro_270) (Tv 2) sv_267 := TpR.tb pf_269
              refine W.eq (g2 := F0 m 69 ls []) rfl ?_
              replace hP : va_P D classes [((Wa 0), .inr (0, [.ref (Aa 0)])), ((Aa 0), .inr (9, [.int (Av 0), .int (Av 1), .int (Av 2), .int (Av 3), .int (Av 4), .int (Av 5), .ref (Aa 1), .ref (Aa 2), .ref (Aa 3), .ref (Aa 4), .ref (Aa 5), .ref (Aa 6), .ref (Aa 7), .ref (Aa 8)])), ((Aa 1), .inl (tc 0, 10, .inl (Af 1))), ((Aa 2), .inl (tc 0, 10, .inl (Af 2))), ((Aa 3), .inl (tc 0, 6, .inl (Af 3))), ((Aa 4), .inl (tc 0, 6, .inl (Af 4))), ((Aa 5), .inl (tc 0, 6, .inl (Af 5))), ((Aa 6), .inl (tc 0, 6, .inl (Af 6))), ((Aa 7), .inl (tc 0, 6, .inl (Af 7))), ((Aa 8), .inl (tc 0, 6, .inl (Af 8))), ((Ta 0), .inr (10, [.ref (Ta 1), .int (Tv 0), .int (Tv 1), .int (Tv 2), .int sv_266, .int sv_267])), ((Ta 1), .inl (tc 0, 400, .inl (Tf 1)))] H := hP₀
              replace hD : va_D A [((Wa 0), .inr (0, [.ref (Aa 0)])), ((Aa 0), .inr (9, [.int (Av 0), .int (Av 1), .int (Av 2), .int (Av 3), .int (Av 4), .int (Av 5), .ref (Aa 1), .ref (Aa 2), .ref (Aa 3), .ref (Aa 4), .ref (Aa 5), .ref (Aa 6), .ref (Aa 7), .ref (Aa 8)])), ((Aa 1), .inl (tc 0, 10, .inl (Af 1))), ((Aa 2), .inl (tc 0, 10, .inl (Af 2))), ((Aa 3), .inl (tc 0, 6, .inl (Af 3))), ((Aa 4), .inl (tc 0, 6, .inl (Af 4))), ((Aa 5), .inl (tc 0, 6, .inl (Af 5))), ((Aa 6), .inl (tc 0, 6, .inl (Af 6))), ((Aa 7), .inl (tc 0, 6, .inl (Af 7))), ((Aa 8), .inl (tc 0, 6, .inl (Af 8))), ((Ta 0), .inr (10, [.ref (Ta 1), .int (Tv 0), .int (Tv 1), .int (Tv 2), .int sv_266, .int sv_267])), ((Ta 1), .inl (tc 0, 400, .inl (Tf 1)))] := hD₀
              replace hS := hS₀
              clear hP₀ hD₀ hS₀
              refine lv_goto (tgt := 119) hx hb dX0_readClause_69 (by decide) ?_
              have hc_272w : waR (cB (Tf 1) (Tv 0)) (wL 0) 0 (fsC q) = (r_6 : Int32).toInt := by rw [h_fq]; exact he_7.symm
              have hr_273 : 40 ≤ x1.toInt.toNat ∨ ¬ ((r_6 : Int32).toInt = 0 ↔ x1.toInt.toNat = 0) ∨ ((r_6 : Int32).toInt = 2 ∧ 6 ≤ (Av 3).toInt) := by
                have z_1 : ¬ (r_6 : Int32).toInt = ((-1) : Int32).toInt := fun z => c_9 (Int32.toInt_inj.mp z)
                have z_2 := Int32.lt_iff_toInt_lt.mp (Int32.not_le.mp c_10)
                have z_3 := congrArg Int32.toInt c_27
                have z_4 := congrArg Int32.toInt c_174
                have z_5 := congrArg Int32.toInt c_193
                have z_6 := Int32.le_iff_toInt_le.mp (Int32.not_lt.mp c_227)
                have y_m1 : (-1 : Int32).toInt = -1 := by decide
                have y_0 : (0 : Int32).toInt = 0 := by decide
                have y_2 : (2 : Int32).toInt = 2 := by decide
                have y_6 : (6 : Int32).toInt = 6 := by decide
                have y_40 : (40 : Int32).toInt = 40 := by decide
                omega
              have hr_274 : ¬ (r_6 : Int32).toInt = -1 := by
                have z_1 : ¬ (r_6 : Int32).toInt = ((-1) : Int32).toInt := fun z => c_9 (Int32.toInt_inj.mp z)
                have z_2 := Int32.lt_iff_toInt_lt.mp (Int32.not_le.mp c_10)
                have z_3 := congrArg Int32.toInt c_27
                have z_4 := congrArg Int32.toInt c_174
                have z_5 := congrArg Int32.toInt c_193
                have z_6 := Int32.le_iff_toInt_le.mp (Int32.not_lt.mp c_227)
                have y_m1 : (-1 : Int32).toInt = -1 := by decide
                have y_0 : (0 : Int32).toInt = 0 := by decide
                have y_2 : (2 : Int32).toInt = 2 := by decide
                have y_6 : (6 : Int32).toInt = 6 := by decide
                have y_40 : (40 : Int32).toInt = 40 := by decide
                omega
              have hc_272 := qc_bad (l := x1.toInt.toNat) hc_272w hr_274 h_qq hr_273
              have hc_272q : QsQ (pz_b q (qz_cl (cB (Tf 1) (Tv 0)) x1.toInt.toNat)) (Av 0) (Av 1) (Av 2) (Av 3) (Av 4) (Av 5) (Af 1) (Af 2) (Af 3) (Af 4) (Af 5) (Af 6) (Af 7) (Af 8) := QsQ.er hc_272
              rw [h_fq] at hc_272
              have hu_275 : TpR (Tf 1) (Tv 0) (rER 4 rr) (Tv 1) (Tv 2) sv_266 sv_267 := by
                rw [← ero_270]
                exact pf_269
              have hf_276 : TpR (Tf 1) (Tv 0) (fsC (pz_b q (qz_cl (cB (Tf 1) (Tv 0)) x1.toInt.toNat))) (Tv 1) (Tv 2) sv_266 sv_267 := by
                rw [hc_272]
                exact hu_275
              exact retV hx hb hr hlk hP hD hS ((Av 0), (Av 1), (Av 2), (Av 3), (Af 1), (Af 2), (Af 3), (Af 4), (Af 5), (Tv 1), (Tv 2), sv_266, sv_267) ⟨rfl, pf_268, h_bu, hf_276, hc_272q⟩ [0, 1, 2, 3, 4, 5, 6, 7, 8, 9, 10, 11] rfl rfl dX0_readClause_119 (Nat.le_of_ble_eq_true rfl) (Nat.le_of_ble_eq_true rfl) rfl
  · skip
    refine lv_aload_n hx hb dX0_readClause_12 rfl (lv_at hl 2 rfl) ?_
    refine lv_iconst (v := 0) hx hb dX0_readClause_13 (by decide) ?_
    have ha_277 : 0 ≤ (0 : Int32).toInt ∧ (0 : Int32).toInt ≤ 4 := by
      have z_1 := congrArg Int32.toInt c_9
      have y_m1 : (-1 : Int32).toInt = -1 := by decide
      have y_0 : (0 : Int32).toInt = 0 := by decide
      omega
    have ha_278 : (0 : Int32).toInt = (0 : Int) := by
      have z_1 := congrArg Int32.toInt c_9
      have y_m1 : (-1 : Int32).toInt = -1 := by decide
      have y_0 : (0 : Int32).toInt = 0 := by decide
      omega
    refine cV (a := (Ta 0)) (As := [.int 0]) (rest := []) (wr := [((Wa 0), .inr (0, [.ref (Aa 0)])), ((Aa 0), .inr (9, [.int (Av 0), .int (Av 1), .int (Av 2), .int (Av 3), .int (Av 4), .int (Av 5), .ref (Aa 1), .ref (Aa 2), .ref (Aa 3), .ref (Aa 4), .ref (Aa 5), .ref (Aa 6), .ref (Aa 7), .ref (Aa 8)])), ((Aa 1), .inl (tc 0, 10, .inl (Af 1))), ((Aa 2), .inl (tc 0, 10, .inl (Af 2))), ((Aa 3), .inl (tc 0, 6, .inl (Af 3))), ((Aa 4), .inl (tc 0, 6, .inl (Af 4))), ((Aa 5), .inl (tc 0, 6, .inl (Af 5))), ((Aa 6), .inl (tc 0, 6, .inl (Af 6))), ((Aa 7), .inl (tc 0, 6, .inl (Af 7))), ((Aa 8), .inl (tc 0, 6, .inl (Af 8)))]) ⟨hx, hb, hml, hown, hts⟩ hK hX hA (cu_fX10_fail l D tc sk (Ta 0) (Ta 1) (Tv 0) (Tv 1) (Tv 2) (Tv 3) (Tv 4) (Tf 1) 0 rr 0 h_tape h_r ha_277 ha_278) k_557 k_554 k_555 k_556 k_96 pl_X10_fail ⟨Nat.le_of_ble_eq_true rfl, Nat.le_of_ble_eq_true rfl⟩ rfl rfl (va_recv hK hP (ci := 10) (q0 := 10) rfl rfl) hP hD hS [10, 11] [0, 1, 2, 3, 4, 5, 6, 7, 8, 9] rfl rfl rfl rfl rfl (by decide) rfl hl.1 rfl (Nat.le_of_ble_eq_true rfl) dX0_readClause_14 ⟨Nat.le_of_ble_eq_true rfl, Nat.le_of_ble_eq_true rfl⟩ (fun v_279 u_280 H locs hv_281 hP₀ hD₀ hS₀ => ?_)
    obtain ⟨sv_282, sv_283⟩ := u_280
    obtain ⟨rfl, pf_284, pf_285⟩ := hv_281
    have pf_284 : 0 ≤ ((Tv 0) : Int32).toInt ∧ ((Tv 0) : Int32).toInt ≤ 400 ∧ 0 ≤ ((Tv 1) : Int32).toInt ∧ ((Tv 1) : Int32).toInt ≤ 400 ∧ 0 ≤ ((Tv 2) : Int32).toInt ∧ ((Tv 2) : Int32).toInt ≤ 400 := pf_284
    have pf_285 : TpR (Tf 1) (Tv 0) (rER (0 : Int) rr) (Tv 1) (Tv 2) sv_282 sv_283 := pf_285
    obtain ⟨ro_286, ero_286⟩ : ∃ z : Except Int (Nat × Nat), z = (rER 0 rr) := ⟨_, rfl⟩
    rw [← ero_286] at pf_285
    have tb_287 : TpB (rTE (cB (Tf 1) (Tv 0)) ro_286) (Tv 2) sv_283 := TpR.tb pf_285
    refine W.eq (g2 := F0 m 17 ls []) rfl ?_
    replace hP : va_P D classes [((Wa 0), .inr (0, [.ref (Aa 0)])), ((Aa 0), .inr (9, [.int (Av 0), .int (Av 1), .int (Av 2), .int (Av 3), .int (Av 4), .int (Av 5), .ref (Aa 1), .ref (Aa 2), .ref (Aa 3), .ref (Aa 4), .ref (Aa 5), .ref (Aa 6), .ref (Aa 7), .ref (Aa 8)])), ((Aa 1), .inl (tc 0, 10, .inl (Af 1))), ((Aa 2), .inl (tc 0, 10, .inl (Af 2))), ((Aa 3), .inl (tc 0, 6, .inl (Af 3))), ((Aa 4), .inl (tc 0, 6, .inl (Af 4))), ((Aa 5), .inl (tc 0, 6, .inl (Af 5))), ((Aa 6), .inl (tc 0, 6, .inl (Af 6))), ((Aa 7), .inl (tc 0, 6, .inl (Af 7))), ((Aa 8), .inl (tc 0, 6, .inl (Af 8))), ((Ta 0), .inr (10, [.ref (Ta 1), .int (Tv 0), .int (Tv 1), .int (Tv 2), .int sv_282, .int sv_283])), ((Ta 1), .inl (tc 0, 400, .inl (Tf 1)))] H := hP₀
    replace hD : va_D A [((Wa 0), .inr (0, [.ref (Aa 0)])), ((Aa 0), .inr (9, [.int (Av 0), .int (Av 1), .int (Av 2), .int (Av 3), .int (Av 4), .int (Av 5), .ref (Aa 1), .ref (Aa 2), .ref (Aa 3), .ref (Aa 4), .ref (Aa 5), .ref (Aa 6), .ref (Aa 7), .ref (Aa 8)])), ((Aa 1), .inl (tc 0, 10, .inl (Af 1))), ((Aa 2), .inl (tc 0, 10, .inl (Af 2))), ((Aa 3), .inl (tc 0, 6, .inl (Af 3))), ((Aa 4), .inl (tc 0, 6, .inl (Af 4))), ((Aa 5), .inl (tc 0, 6, .inl (Af 5))), ((Aa 6), .inl (tc 0, 6, .inl (Af 6))), ((Aa 7), .inl (tc 0, 6, .inl (Af 7))), ((Aa 8), .inl (tc 0, 6, .inl (Af 8))), ((Ta 0), .inr (10, [.ref (Ta 1), .int (Tv 0), .int (Tv 1), .int (Tv 2), .int sv_282, .int sv_283])), ((Ta 1), .inl (tc 0, 400, .inl (Tf 1)))] := hD₀
    replace hS := hS₀
    clear hP₀ hD₀ hS₀
    refine lv_goto (tgt := 119) hx hb dX0_readClause_17 (by decide) ?_
    have hr_289 : (r_6 : Int32).toInt = -1 := by
      have z_1 := congrArg Int32.toInt c_9
      have y_m1 : (-1 : Int32).toInt = -1 := by decide
      omega
    have hc_288w : waR (cB (Tf 1) (Tv 0)) (wL 0) 0 (fsC q) = -1 := by rw [h_fq]; exact (he_7.symm.trans hr_289)
    have hc_288 := qc_no (l := x1.toInt.toNat) hc_288w
    have hc_288q : QsQ (pz_b q (qz_cl (cB (Tf 1) (Tv 0)) x1.toInt.toNat)) (Av 0) (Av 1) (Av 2) (Av 3) (Av 4) (Av 5) (Af 1) (Af 2) (Af 3) (Af 4) (Af 5) (Af 6) (Af 7) (Af 8) := QsQ.er hc_288
    rw [h_fq] at hc_288
    have hu_290 : TpR (Tf 1) (Tv 0) (rER 0 rr) (Tv 1) (Tv 2) sv_282 sv_283 := by
      rw [← ero_286]
      exact pf_285
    have hf_291 : TpR (Tf 1) (Tv 0) (fsC (pz_b q (qz_cl (cB (Tf 1) (Tv 0)) x1.toInt.toNat))) (Tv 1) (Tv 2) sv_282 sv_283 := by
      rw [hc_288]
      exact hu_290
    exact retV hx hb hr hlk hP hD hS ((Av 0), (Av 1), (Av 2), (Av 3), (Af 1), (Af 2), (Af 3), (Af 4), (Af 5), (Tv 1), (Tv 2), sv_282, sv_283) ⟨rfl, pf_284, h_bu, hf_291, hc_288q⟩ [0, 1, 2, 3, 4, 5, 6, 7, 8, 9, 10, 11] rfl rfl dX0_readClause_119 (Nat.le_of_ble_eq_true rfl) (Nat.le_of_ble_eq_true rfl) rfl
set_option maxRecDepth 100000 in
theorem cu_zX0_readClause (l : Launch) (D : va_G) (tc : Nat → ClassId) (sk : (Nat → Nat) × (Nat → Nat)) (Wa_0 : Nat) (Aa_0 : Nat) (Aa_1 : Nat) (Aa_2 : Nat) (Aa_3 : Nat) (Aa_4 : Nat) (Aa_5 : Nat) (Aa_6 : Nat) (Aa_7 : Nat) (Aa_8 : Nat) (Av_0 : Int32) (Av_1 : Int32) (Av_2 : Int32) (Av_3 : Int32) (Av_4 : Int32) (Av_5 : Int32) (Af_1 : Nat → Int32) (Af_2 : Nat → Int32) (Af_3 : Nat → Int32) (Af_4 : Nat → Int32) (Af_5 : Nat → Int32) (Af_6 : Nat → Int32) (Af_7 : Nat → Int32) (Af_8 : Nat → Int32) (Ta_0 : Nat) (Ta_1 : Nat) (Tv_0 : Int32) (Tv_1 : Int32) (Tv_2 : Int32) (Tv_3 : Int32) (Tv_4 : Int32) (Tf_1 : Nat → Int32) (x1 : Int32) (rr : Except Int (Nat × Nat)) (q : Except Int QzU) (h_tape : 0 ≤ (Tv_0 : Int32).toInt ∧ (Tv_0 : Int32).toInt ≤ 400 ∧ 0 ≤ (Tv_1 : Int32).toInt ∧ (Tv_1 : Int32).toInt ≤ 400 ∧ 0 ≤ (Tv_2 : Int32).toInt ∧ (Tv_2 : Int32).toInt ≤ 400) (h_by : Byt Tf_1) (h_r : TpR Tf_1 Tv_0 rr Tv_1 Tv_2 Tv_3 Tv_4) (h_bu : 0 ≤ (Av_3 : Int32).toInt ∧ (Av_3 : Int32).toInt ≤ 6) (h_x : 0 ≤ x1.toInt ∧ x1.toInt ≤ 40) (h_fq : FsR q rr) (h_qq : QsQ q Av_0 Av_1 Av_2 Av_3 Av_4 Av_5 Af_1 Af_2 Af_3 Af_4 Af_5 Af_6 Af_7 Af_8) : Ct l yX0_readClause cX0_readClause 4 none { frames := 6, cells := 0, slots := 0, locals := 133 } D tc sk [.ref Wa_0, .ref Ta_0, .int x1] [(Wa_0, .inr (0, [.ref Aa_0])), (Aa_0, .inr (9, [.int Av_0, .int Av_1, .int Av_2, .int Av_3, .int Av_4, .int Av_5, .ref Aa_1, .ref Aa_2, .ref Aa_3, .ref Aa_4, .ref Aa_5, .ref Aa_6, .ref Aa_7, .ref Aa_8])), (Aa_1, .inl (tc 0, 10, .inl Af_1)), (Aa_2, .inl (tc 0, 10, .inl Af_2)), (Aa_3, .inl (tc 0, 6, .inl Af_3)), (Aa_4, .inl (tc 0, 6, .inl Af_4)), (Aa_5, .inl (tc 0, 6, .inl Af_5)), (Aa_6, .inl (tc 0, 6, .inl Af_6)), (Aa_7, .inl (tc 0, 6, .inl Af_7)), (Aa_8, .inl (tc 0, 6, .inl Af_8)), (Ta_0, .inr (10, [.ref Ta_1, .int Tv_0, .int Tv_1, .int Tv_2, .int Tv_3, .int Tv_4])), (Ta_1, .inl (tc 0, 400, .inl Tf_1))] (fun (v : Option Value) (u : (Int32) × (Int32) × (Int32) × (Int32) × (Nat → Int32) × (Nat → Int32) × (Nat → Int32) × (Nat → Int32) × (Nat → Int32) × (Int32) × (Int32) × (Int32) × (Int32)) => match u with | (oo0x1, oo0x2, oo0x3, oo0x4, oo0x5, oo0x6, oo0x7, oo0x8, oo0x9, oo0x10, oo0x11, oo0x12, oo0x13) => v = none ∧ (0 ≤ (Tv_0 : Int32).toInt ∧ (Tv_0 : Int32).toInt ≤ 400 ∧ 0 ≤ (oo0x10 : Int32).toInt ∧ (oo0x10 : Int32).toInt ≤ 400 ∧ 0 ≤ (oo0x11 : Int32).toInt ∧ (oo0x11 : Int32).toInt ≤ 400) ∧ (0 ≤ (oo0x4 : Int32).toInt ∧ (oo0x4 : Int32).toInt ≤ 6) ∧ (TpR Tf_1 Tv_0 (fsC (pz_b q (qz_cl (cB Tf_1 Tv_0) x1.toInt.toNat))) oo0x10 oo0x11 oo0x12 oo0x13) ∧ (QsQ (pz_b q (qz_cl (cB Tf_1 Tv_0) x1.toInt.toNat)) oo0x1 oo0x2 oo0x3 oo0x4 Av_4 Av_5 oo0x5 oo0x6 oo0x7 oo0x8 oo0x9 Af_6 Af_7 Af_8)) (fun (u : (Int32) × (Int32) × (Int32) × (Int32) × (Nat → Int32) × (Nat → Int32) × (Nat → Int32) × (Nat → Int32) × (Nat → Int32) × (Int32) × (Int32) × (Int32) × (Int32)) => match u with | (oo0x1, oo0x2, oo0x3, oo0x4, oo0x5, oo0x6, oo0x7, oo0x8, oo0x9, oo0x10, oo0x11, oo0x12, oo0x13) => [(Wa_0, .inr (0, [.ref Aa_0])), (Aa_0, .inr (9, [.int oo0x1, .int oo0x2, .int oo0x3, .int oo0x4, .int Av_4, .int Av_5, .ref Aa_1, .ref Aa_2, .ref Aa_3, .ref Aa_4, .ref Aa_5, .ref Aa_6, .ref Aa_7, .ref Aa_8])), (Aa_1, .inl (tc 0, 10, .inl oo0x5)), (Aa_2, .inl (tc 0, 10, .inl oo0x6)), (Aa_3, .inl (tc 0, 6, .inl oo0x7)), (Aa_4, .inl (tc 0, 6, .inl oo0x8)), (Aa_5, .inl (tc 0, 6, .inl oo0x9)), (Aa_6, .inl (tc 0, 6, .inl Af_6)), (Aa_7, .inl (tc 0, 6, .inl Af_7)), (Aa_8, .inl (tc 0, 6, .inl Af_8)), (Ta_0, .inr (10, [.ref Ta_1, .int Tv_0, .int oo0x10, .int oo0x11, .int oo0x12, .int oo0x13])), (Ta_1, .inl (tc 0, 400, .inl Tf_1))]) 0 0 :=
  ct_zX0_readClause l D tc sk (fun k => ([Wa_0] : List (Nat)).getD k 0) (fun k => ([Aa_0, Aa_1, Aa_2, Aa_3, Aa_4, Aa_5, Aa_6, Aa_7, Aa_8] : List (Nat)).getD k 0) (fun k => ([Av_0, Av_1, Av_2, Av_3, Av_4, Av_5] : List (Int32)).getD k 0) (fun k => ([(fun _ => 0), Af_1, Af_2, Af_3, Af_4, Af_5, Af_6, Af_7, Af_8] : List (Nat → Int32)).getD k (fun _ => 0)) (fun k => ([Ta_0, Ta_1] : List (Nat)).getD k 0) (fun k => ([Tv_0, Tv_1, Tv_2, Tv_3, Tv_4] : List (Int32)).getD k 0) (fun k => ([(fun _ => 0), Tf_1] : List (Nat → Int32)).getD k (fun _ => 0)) x1 rr q h_tape h_by h_r h_bu h_x h_fq h_qq
