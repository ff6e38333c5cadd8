set_option maxRecDepth 16384
set_option maxHeartbeats 4000000 in
set_option maxRecDepth 100000 in
theorem ct_fX12_takesWord (l : Launch) (D : va_G) (tc : Nat → ClassId) (sk : (Nat → Nat) × (Nat → Nat)) (Ma : Nat → Nat) (Mv : Nat → Int32) (Mf : Nat → Nat → Int32) (Mj : Nat → Int64) (w1 : Int64) (h_nx : 0 ≤ ((Mv 2) : Int32).toInt ∧ ((Mv 2) : Int32).toInt ≤ ((Mv 0) : Int32).toInt ∧ ((Mv 0) : Int32).toInt ≤ 400) (h_bs : ByS (Mf 1)) : Ct l yX12_takesWord cX12_takesWord 3 (some .boolean) { frames := 2, cells := 0, slots := 0, locals := 46 } D tc sk [.ref (Ma 0), .long w1] [((Ma 0), .inr (12, [.ref (Ma 1), .int (Mv 0), .int (Mv 1), .ref (Ma 2), .ref (Ma 3), .ref (Ma 4), .ref (Ma 5), .ref (Ma 6), .int (Mv 2), .int (Mv 3), .int (Mv 4), .int (Mv 5), .int (Mv 6), .int (Mv 7), .int (Mv 8), .ref (Ma 7), .int (Mv 9), .ref (Ma 8), .int (Mv 10), .ref (Ma 9), .ref (Ma 10), .int (Mv 11), .int (Mv 12), .int (Mv 13), .ref (Ma 11), .int (Mv 14), .ref (Ma 12), .ref (Ma 13), .ref (Ma 14), .ref (Ma 15), .ref (Ma 16), .long (Mj 0), .ref (Ma 17), .ref (Ma 18), .ref (Ma 19), .ref (Ma 20)])), ((Ma 1), .inl (tc 2, 400, .inl (Mf 1)))] (fun (v : Option Value) (oo0x1 : Int32) => ∃ r : Int32, v = some (.int r) ∧ ((r.toInt = 0 ∨ r.toInt = 1)) ∧ (((Mv 2) : Int32).toInt ≤ (oo0x1 : Int32).toInt ∧ (oo0x1 : Int32).toInt ≤ ((Mv 0) : Int32).toInt) ∧ (r.toInt = 1 → (TkW (rB (Mf 1) (Mv 0)) w1.toInt (Mv 2) oo0x1)) ∧ (r.toInt = 0 → (NtW (rB (Mf 1) (Mv 0)) w1.toInt (Mv 2) oo0x1))) (fun (oo0x1 : Int32) => [((Ma 0), .inr (12, [.ref (Ma 1), .int (Mv 0), .int (Mv 1), .ref (Ma 2), .ref (Ma 3), .ref (Ma 4), .ref (Ma 5), .ref (Ma 6), .int oo0x1, .int (Mv 3), .int (Mv 4), .int (Mv 5), .int (Mv 6), .int (Mv 7), .int (Mv 8), .ref (Ma 7), .int (Mv 9), .ref (Ma 8), .int (Mv 10), .ref (Ma 9), .ref (Ma 10), .int (Mv 11), .int (Mv 12), .int (Mv 13), .ref (Ma 11), .int (Mv 14), .ref (Ma 12), .ref (Ma 13), .ref (Ma 14), .ref (Ma 15), .ref (Ma 16), .long (Mj 0), .ref (Ma 17), .ref (Ma 18), .ref (Ma 19), .ref (Ma 20)])), ((Ma 1), .inl (tc 2, 400, .inl (Mf 1)))]) 0 0 := by
  refine Ct.start (by decide) (Nat.le_of_ble_eq_true rfl) (fun p e s m below meth c A ls hx hb hr hlk hin hml hown hts hK hX hP hD hA hl hS => ?_)
  have hl : lv_has ls 3 [(0, .ref (Ma 0)), (1, .long w1)] := hl
  refine lv_aload_n hx hb dX12_takesWord_0 rfl (lv_at hl 0 rfl) ?_
  refine lv_lload_n hx hb dX12_takesWord_1 rfl (lv_at hl 1 rfl) ?_
  refine cV (a := (Ma 0)) (As := [.long w1]) (rest := []) (wr := []) ⟨hx, hb, hml, hown, hts⟩ hK hX hA (cu_fX12_isWord l D tc sk (Ma 0) (Ma 1) (Ma 2) (Ma 3) (Ma 4) (Ma 5) (Ma 6) (Ma 7) (Ma 8) (Ma 9) (Ma 10) (Ma 11) (Ma 12) (Ma 13) (Ma 14) (Ma 15) (Ma 16) (Ma 17) (Ma 18) (Ma 19) (Ma 20) (Mv 0) (Mv 1) (Mv 2) (Mv 3) (Mv 4) (Mv 5) (Mv 6) (Mv 7) (Mv 8) (Mv 9) (Mv 10) (Mv 11) (Mv 12) (Mv 13) (Mv 14) (Mf 1) (Mj 0) w1 h_nx h_bs) k_1220 k_1217 k_1219 k_29 k_106 pl_X12_isWord ⟨Nat.le_of_ble_eq_true rfl, Nat.le_of_ble_eq_true rfl⟩ rfl rfl (va_recv hK hP (ci := 12) (q0 := 0) rfl rfl) hP hD hS [0, 1] [] rfl rfl rfl rfl rfl (by decide) rfl hl.1 rfl (Nat.le_of_ble_eq_true rfl) dX12_takesWord_2 ⟨Nat.le_of_ble_eq_true rfl, Nat.le_of_ble_eq_true rfl⟩ (fun v_1 u_2 H locs hv_3 hP₀ hD₀ hS₀ => ?_)
  obtain ⟨sv_4, rfl⟩ : ∃ z, z = u_2 := ⟨_, rfl⟩
  obtain ⟨r_9, rfl, he_10, pf_5, pf_6, pf_7, pf_8, hm_12, hm_13⟩ := hv_3
  have he_10 : (r_9.toInt = 0 ∨ r_9.toInt = 1) := he_10
  have pf_5 : ((Mv 2) : Int32).toInt ≤ (sv_4 : Int32).toInt ∧ (sv_4 : Int32).toInt ≤ ((Mv 0) : Int32).toInt := pf_5
  have pf_6 : NSq (Mf 1) (Mv 0) sv_4 := pf_6
  have pf_7 : Stl (Mf 1) (Mv 0) (Mv 2) sv_4 := pf_7
  have pf_8 : SkR (rB (Mf 1) (Mv 0)) (Mv 2) sv_4 := pf_8
  refine W.eq (g2 := F0 m 5 ls [.int r_9]) rfl ?_
  replace hP : va_P D classes [((Ma 0), .inr (12, [.ref (Ma 1), .int (Mv 0), .int (Mv 1), .ref (Ma 2), .ref (Ma 3), .ref (Ma 4), .ref (Ma 5), .ref (Ma 6), .int sv_4, .int (Mv 3), .int (Mv 4), .int (Mv 5), .int (Mv 6), .int (Mv 7), .int (Mv 8), .ref (Ma 7), .int (Mv 9), .ref (Ma 8), .int (Mv 10), .ref (Ma 9), .ref (Ma 10), .int (Mv 11), .int (Mv 12), .int (Mv 13), .ref (Ma 11), .int (Mv 14), .ref (Ma 12), .ref (Ma 13), .ref (Ma 14), .ref (Ma 15), .ref (Ma 16), .long (Mj 0), .ref (Ma 17), .ref (Ma 18), .ref (Ma 19), .ref (Ma 20)])), ((Ma 1), .inl (tc 2, 400, .inl (Mf 1)))] H := hP₀
  replace hD : va_D A [((Ma 0), .inr (12, [.ref (Ma 1), .int (Mv 0), .int (Mv 1), .ref (Ma 2), .ref (Ma 3), .ref (Ma 4), .ref (Ma 5), .ref (Ma 6), .int sv_4, .int (Mv 3), .int (Mv 4), .int (Mv 5), .int (Mv 6), .int (Mv 7), .int (Mv 8), .ref (Ma 7), .int (Mv 9), .ref (Ma 8), .int (Mv 10), .ref (Ma 9), .ref (Ma 10), .int (Mv 11), .int (Mv 12), .int (Mv 13), .ref (Ma 11), .int (Mv 14), .ref (Ma 12), .ref (Ma 13), .ref (Ma 14), .ref (Ma 15), .ref (Ma 16), .long (Mj 0), .ref (Ma 17), .ref (Ma 18), .ref (Ma 19), .ref (Ma 20)])), ((Ma 1), .inl (tc 2, 400, .inl (Mf 1)))] := hD₀
  replace hS := hS₀
  clear hP₀ hD₀ hS₀
  refine lv_if_ne (tgt := 10) hx hb dX12_takesWord_5 (by decide) (fun c_14 => ?_) (fun c_14 => ?_)
  · skip
    have hz_17 : (r_9 : Int32).toInt = 1 := by
      have z_1 : ¬ (r_9 : Int32).toInt = (0 : Int32).toInt := fun z => c_14 (Int32.toInt_inj.mp z)
      have y_0 : (0 : Int32).toInt = 0 := by decide
      omega
    obtain ⟨pf_15, pf_16⟩ := hm_12 hz_17
    have pf_15 : Ltr (Mf 1) (Mv 0) sv_4 := pf_15
    have ar_pf_15 := pf_15.1
    have at_pf_15 : 97 ≤ ((Mf 1) (sv_4 : Int32).toInt.toNat).toInt ∧ ((Mf 1) (sv_4 : Int32).toInt.toNat).toInt ≤ 122 := pf_15.2
    have pf_16 : PkW (rB (Mf 1) (Mv 0)) ((sv_4 : Int32).toInt.toNat) w1.toInt := pf_16
    refine lv_aload_n hx hb dX12_takesWord_10 rfl (lv_at hl 0 rfl) ?_
    have ha_18 : 0 ≤ (sv_4 : Int32).toInt ∧ (sv_4 : Int32).toInt ≤ ((Mv 0) : Int32).toInt ∧ ((Mv 0) : Int32).toInt ≤ 400 := by
      have z_1 : ¬ (r_9 : Int32).toInt = (0 : Int32).toInt := fun z => c_14 (Int32.toInt_inj.mp z)
      have y_0 : (0 : Int32).toInt = 0 := by decide
      omega
    refine cV (a := (Ma 0)) (As := []) (rest := []) (wr := []) ⟨hx, hb, hml, hown, hts⟩ hK hX hA (cu_fX12_passWord l D tc sk (Ma 0) (Ma 1) (Ma 2) (Ma 3) (Ma 4) (Ma 5) (Ma 6) (Ma 7) (Ma 8) (Ma 9) (Ma 10) (Ma 11) (Ma 12) (Ma 13) (Ma 14) (Ma 15) (Ma 16) (Ma 17) (Ma 18) (Ma 19) (Ma 20) (Mv 0) (Mv 1) sv_4 (Mv 3) (Mv 4) (Mv 5) (Mv 6) (Mv 7) (Mv 8) (Mv 9) (Mv 10) (Mv 11) (Mv 12) (Mv 13) (Mv 14) (Mf 1) (Mj 0) ha_18 h_bs) k_1244 k_1241 k_1243 k_34 k_106 pl_X12_passWord ⟨Nat.le_of_ble_eq_true rfl, Nat.le_of_ble_eq_true rfl⟩ rfl rfl (va_recv hK hP (ci := 12) (q0 := 0) rfl rfl) hP hD hS [0, 1] [] rfl rfl rfl rfl rfl (by decide) rfl hl.1 rfl (Nat.le_of_ble_eq_true rfl) dX12_takesWord_11 ⟨Nat.le_of_ble_eq_true rfl, Nat.le_of_ble_eq_true rfl⟩ (fun v_19 u_20 H locs hv_21 hP₀ hD₀ hS₀ => ?_)
    obtain ⟨sv_22, rfl⟩ : ∃ z, z = u_20 := ⟨_, rfl⟩
    obtain ⟨rfl, pf_23, pf_24, pf_25⟩ := hv_21
    have pf_23 : (sv_4 : Int32).toInt ≤ (sv_22 : Int32).toInt ∧ (sv_22 : Int32).toInt ≤ ((Mv 0) : Int32).toInt := pf_23
    have pf_24 : Pw (Mf 1) (Mv 0) sv_4 sv_22 := pf_24
    have ar_pf_24 := pf_24 pf_15
    have pf_25 : PsR (rB (Mf 1) (Mv 0)) sv_4 sv_22 := pf_25
    refine W.eq (g2 := F0 m 14 ls []) rfl ?_
    replace hP : va_P D classes [((Ma 0), .inr (12, [.ref (Ma 1), .int (Mv 0), .int (Mv 1), .ref (Ma 2), .ref (Ma 3), .ref (Ma 4), .ref (Ma 5), .ref (Ma 6), .int sv_22, .int (Mv 3), .int (Mv 4), .int (Mv 5), .int (Mv 6), .int (Mv 7), .int (Mv 8), .ref (Ma 7), .int (Mv 9), .ref (Ma 8), .int (Mv 10), .ref (Ma 9), .ref (Ma 10), .int (Mv 11), .int (Mv 12), .int (Mv 13), .ref (Ma 11), .int (Mv 14), .ref (Ma 12), .ref (Ma 13), .ref (Ma 14), .ref (Ma 15), .ref (Ma 16), .long (Mj 0), .ref (Ma 17), .ref (Ma 18), .ref (Ma 19), .ref (Ma 20)])), ((Ma 1), .inl (tc 2, 400, .inl (Mf 1)))] H := hP₀
    replace hD : va_D A [((Ma 0), .inr (12, [.ref (Ma 1), .int (Mv 0), .int (Mv 1), .ref (Ma 2), .ref (Ma 3), .ref (Ma 4), .ref (Ma 5), .ref (Ma 6), .int sv_22, .int (Mv 3), .int (Mv 4), .int (Mv 5), .int (Mv 6), .int (Mv 7), .int (Mv 8), .ref (Ma 7), .int (Mv 9), .ref (Ma 8), .int (Mv 10), .ref (Ma 9), .ref (Ma 10), .int (Mv 11), .int (Mv 12), .int (Mv 13), .ref (Ma 11), .int (Mv 14), .ref (Ma 12), .ref (Ma 13), .ref (Ma 14), .ref (Ma 15), .ref (Ma 16), .long (Mj 0), .ref (Ma 17), .ref (Ma 18), .ref (Ma 19), .ref (Ma 20)])), ((Ma 1), .inl (tc 2, 400, .inl (Mf 1)))] := hD₀
    replace hS := hS₀
    clear hP₀ hD₀ hS₀
    refine lv_iconst (v := 1) hx hb dX12_takesWord_14 (by decide) ?_
    have ha_26 : ((Mv 2) : Int32).toInt ≤ (sv_22 : Int32).toInt ∧ (sv_22 : Int32).toInt ≤ ((Mv 0) : Int32).toInt := by
      have z_1 : ¬ (r_9 : Int32).toInt = (0 : Int32).toInt := fun z => c_14 (Int32.toInt_inj.mp z)
      have y_0 : (0 : Int32).toInt = 0 := by decide
      omega
    have hp_27 : ((1 : Int32).toInt = 0 ∨ (1 : Int32).toInt = 1) := by
      have z_1 : ¬ (r_9 : Int32).toInt = (0 : Int32).toInt := fun z => c_14 (Int32.toInt_inj.mp z)
      have y_0 : (0 : Int32).toInt = 0 := by decide
      have y_1 : (1 : Int32).toInt = 1 := by decide
      have yr : (1 : Int32).toInt = 1 := by decide
      omega
    have hm_28 : (1 : Int32).toInt = 1 → (TkW (rB (Mf 1) (Mv 0)) w1.toInt (Mv 2) sv_22) := by
      intro h1r
      exact ⟨sv_4, pf_8, pf_16, pf_25⟩
    exact retI (v := 1) hx hb hr hlk (rfl) hP hD hS sv_22 ⟨_, rfl, hp_27, ha_26, hm_28, (fun h => absurd h (by decide))⟩ [0, 1] rfl rfl dX12_takesWord_15 (Nat.le_of_ble_eq_true rfl) (Nat.le_of_ble_eq_true rfl) rfl
  · skip
    have hz_30 : (r_9 : Int32).toInt = 0 := by
      have z_1 := congrArg Int32.toInt c_14
      have y_0 : (0 : Int32).toInt = 0 := by decide
      omega
    obtain pf_29 := hm_13 hz_30
    have pf_29 : NPk (rB (Mf 1) (Mv 0)) ((sv_4 : Int32).toInt.toNat) w1.toInt := pf_29
    refine lv_iconst (v := 0) hx hb dX12_takesWord_8 (by decide) ?_
    have hp_31 : ((0 : Int32).toInt = 0 ∨ (0 : Int32).toInt = 1) := by
      have z_1 := congrArg Int32.toInt c_14
      have y_0 : (0 : Int32).toInt = 0 := by decide
      omega
    have hm_32 : (0 : Int32).toInt = 0 → (NtW (rB (Mf 1) (Mv 0)) w1.toInt (Mv 2) sv_4) := by
      intro h1r
      exact ⟨pf_8, pf_29⟩
    exact retI (v := 0) hx hb hr hlk (rfl) hP hD hS sv_4 ⟨_, rfl, hp_31, pf_5, (fun h => absurd h (by decide)), hm_32⟩ [0, 1] rfl rfl dX12_takesWord_9 (Nat.le_of_ble_eq_true rfl) (Nat.le_of_ble_eq_true rfl) rfl
set_option maxRecDepth 100000 in
theorem cu_fX12_takesWord (l : Launch) (D : va_G) (tc : Nat → ClassId) (sk : (Nat → Nat) × (Nat → Nat)) (Ma_0 : Nat) (Ma_1 : Nat) (Ma_2 : Nat) (Ma_3 : Nat) (Ma_4 : Nat) (Ma_5 : Nat) (Ma_6 : Nat) (Ma_7 : Nat) (Ma_8 : Nat) (Ma_9 : Nat) (Ma_10 : Nat) (Ma_11 : Nat) (Ma_12 : Nat) (Ma_13 : Nat) (Ma_14 : Nat) (Ma_15 : Nat) (Ma_16 : Nat) (Ma_17 : Nat) (Ma_18 : Nat) (Ma_19 : Nat) (Ma_20 : Nat) (Mv_0 : Int32) (Mv_1 : Int32) (Mv_2 : Int32) (Mv_3 : Int32) (Mv_4 : Int32) (Mv_5 : Int32) (Mv_6 : Int32) (Mv_7 : Int32) (Mv_8 : Int32) (Mv_9 : Int32) (Mv_10 : Int32) (Mv_11 : Int32) (Mv_12 : Int32) (Mv_13 : Int32) (Mv_14 : Int32) (Mf_1 : Nat → Int32) (Mj_0 : Int64) (w1 : Int64) (h_nx : 0 ≤ (Mv_2 : Int32).toInt ∧ (Mv_2 : Int32).toInt ≤ (Mv_0 : Int32).toInt ∧ (Mv_0 : Int32).toInt ≤ 400) (h_bs : ByS Mf_1) : Ct l yX12_takesWord cX12_takesWord 3 (some .boolean) { frames := 2, cells := 0, slots := 0, locals := 46 } D tc sk [.ref Ma_0, .long w1] [(Ma_0, .inr (12, [.ref Ma_1, .int Mv_0, .int Mv_1, .ref Ma_2, .ref Ma_3, .ref Ma_4, .ref Ma_5, .ref Ma_6, .int Mv_2, .int Mv_3, .int Mv_4, .int Mv_5, .int Mv_6, .int Mv_7, .int Mv_8, .ref Ma_7, .int Mv_9, .ref Ma_8, .int Mv_10, .ref Ma_9, .ref Ma_10, .int Mv_11, .int Mv_12, .int Mv_13, .ref Ma_11, .int Mv_14, .ref Ma_12, .ref Ma_13, .ref Ma_14, .ref Ma_15, .ref Ma_16, .long Mj_0, .ref Ma_17, .ref Ma_18, .ref Ma_19, .ref Ma_20])), (Ma_1, .inl (tc 2, 400, .inl Mf_1))] (fun (v : Option Value) (oo0x1 : Int32) => ∃ r : Int32, v = some (.int r) ∧ ((r.toInt = 0 ∨ r.toInt = 1)) ∧ ((Mv_2 : Int32).toInt ≤ (oo0x1 : Int32).toInt ∧ (oo0x1 : Int32).toInt ≤ (Mv_0 : Int32).toInt) ∧ (r.toInt = 1 → (TkW (rB Mf_1 Mv_0) w1.toInt Mv_2 oo0x1)) ∧ (r.toInt = 0 → (NtW (rB Mf_1 Mv_0) w1.toInt Mv_2 oo0x1))) (fun (oo0x1 : Int32) => [(Ma_0, .inr (12, [.ref Ma_1, .int Mv_0, .int Mv_1, .ref Ma_2, .ref Ma_3, .ref Ma_4, .ref Ma_5, .ref Ma_6, .int oo0x1, .int Mv_3, .int Mv_4, .int Mv_5, .int Mv_6, .int Mv_7, .int Mv_8, .ref Ma_7, .int Mv_9, .ref Ma_8, .int Mv_10, .ref Ma_9, .ref Ma_10, .int Mv_11, .int Mv_12, .int Mv_13, .ref Ma_11, .int Mv_14, .ref Ma_12, .ref Ma_13, .ref Ma_14, .ref Ma_15, .ref Ma_16, .long Mj_0, .ref Ma_17, .ref Ma_18, .ref Ma_19, .ref Ma_20])), (Ma_1, .inl (tc 2, 400, .inl Mf_1))]) 0 0 :=
  ct_fX12_takesWord l D tc sk (fun k => ([Ma_0, Ma_1, Ma_2, Ma_3, Ma_4, Ma_5, Ma_6, Ma_7, Ma_8, Ma_9, Ma_10, Ma_11, Ma_12, Ma_13, Ma_14, Ma_15, Ma_16, Ma_17, Ma_18, Ma_19, Ma_20] : List (Nat)).getD k 0) (fun k => ([Mv_0, Mv_1, Mv_2, Mv_3, Mv_4, Mv_5, Mv_6, Mv_7, Mv_8, Mv_9, Mv_10, Mv_11, Mv_12, Mv_13, Mv_14] : List (Int32)).getD k 0) (fun k => ([(fun _ => 0), Mf_1] : List (Nat → Int32)).getD k (fun _ => 0)) (fun k => ([Mj_0] : List (Int64)).getD k 0) w1 h_nx h_bs
def bt (x : Int32) (i : Nat) : Bool := x.toBitVec.getLsbD i
theorem b_ext {x y : Int32} (h : ∀ i, i < 32 → bt x i = bt y i) : x = y := Int32.toBitVec_inj.mp (BitVec.eq_of_getLsbD_eq (fun i hi => h i hi))
theorem b_and (x y : Int32) (i : Nat) : bt (x &&& y) i = (bt x i && bt y i) := by unfold bt; rw [Int32.toBitVec_and, BitVec.getLsbD_and]
theorem b_big {x : Int32} {i : Nat} (h : 32 ≤ i) : bt x i = false := BitVec.getLsbD_of_ge _ _ h
theorem b_255 (i : Nat) : bt 255 i = decide (i < 8) := by
  rcases Nat.lt_or_ge i 32 with h | h
  · exact (by decide +kernel : ∀ i, i < 32 → bt 255 i = decide (i < 8)) i h
  · rw [b_big h, decide_eq_false (by omega)]
theorem s_l : ∀ n, n < 32 → ((nI n &&& 31).toBitVec.smod 32).toNat = n := by decide +kernel
theorem s_u : ∀ n, n < 32 → (((nI n).toUInt32 &&& Int32.toUInt32 31).toBitVec % 32).toNat = n := by decide +kernel
theorem b_ushr (n : Nat) (hn : n < 32) (x : Int32) (i : Nat) : bt ((x.toUInt32 >>> ((nI n).toUInt32 &&& Int32.toUInt32 31)).toInt32) i = bt x (n + i) := by
  show (x.toUInt32 >>> ((nI n).toUInt32 &&& Int32.toUInt32 31)).toBitVec.getLsbD i = x.toUInt32.toBitVec.getLsbD (n + i)
  rw [UInt32.toBitVec_shiftRight]
  show (x.toUInt32.toBitVec >>> (((nI n).toUInt32 &&& Int32.toUInt32 31).toBitVec % 32).toNat).getLsbD i = _
  rw [s_u n hn, BitVec.getLsbD_ushiftRight]
theorem b_sshr (n : Nat) (hn : n < 32) (x : Int32) {i : Nat} (hi : i < 32) : bt (x >>> (nI n &&& 31)) i = if n + i < 32 then bt x (n + i) else bt x 31 := by
  unfold bt
  rw [Int32.toBitVec_shiftRight]
  show (x.toBitVec.sshiftRight ((nI n &&& 31).toBitVec.smod 32).toNat).getLsbD i = _
  rw [s_l n hn, BitVec.getLsbD_sshiftRight, BitVec.msb_eq_getLsbD_last]
  simp [hi]
theorem bp_b (x : Int32) : x.toInt8.toInt32 &&& 255 = x &&& 255 := by
  apply Int32.toBitVec_inj.mp
  rw [Int32.toBitVec_and, Int32.toBitVec_and, Int8.toBitVec_toInt32, Int32.toBitVec_toInt8]
  apply BitVec.eq_of_getLsbD_eq
  intro i hi
  rw [BitVec.getLsbD_and, BitVec.getLsbD_and]
  have hm : ∀ i < 32, 8 ≤ i → (255 : Int32).toBitVec.getLsbD i = false := by decide
  rcases Nat.lt_or_ge i 8 with z | z
  · rw [BitVec.getLsbD_signExtend, BitVec.getLsbD_signExtend, if_pos z, if_pos hi]
    simp only [z, hi, decide_true, Bool.true_and]
  · rw [hm i hi z]; simp
theorem bz_sh {v : Int32} {n : Nat} (hn : n ≤ 24) : (v >>> (nI n &&& 31)) &&& 255 = (v.toUInt32 >>> ((nI n).toUInt32 &&& Int32.toUInt32 31)).toInt32 &&& 255 := by
  apply b_ext
  intro i hi
  rw [b_and, b_and, b_255, b_sshr n (by omega) v hi, b_ushr n (by omega)]
  by_cases z : i < 8
  · rw [if_pos (by omega)]
  · rw [show decide (i < 8) = false from decide_eq_false z, Bool.and_false, Bool.and_false]
theorem bz_rn {v x y : Int32} {n : Nat} (hn : n ≤ 24) (e1 : x = v >>> (nI n &&& 31)) (e2 : y = x.toInt8.toInt32) : (vp_nar FieldType.byte y).toInt % 256 = bz v n ∧ -128 ≤ (vp_nar FieldType.byte y).toInt ∧ (vp_nar FieldType.byte y).toInt ≤ 127 := by
  have e : vp_nar FieldType.byte y = y.toInt8.toInt32 := rfl
  rw [e]
  have h1 := y.toInt8.toInt_toInt32
  have h2 := y.toInt8.le_toInt
  have h3 := y.toInt8.toInt_lt
  refine ⟨?_, by omega, by omega⟩
  rw [← and255, bp_b, e2, bp_b, e1, bz_sh hn]; rfl
theorem upd_n {f g : Nat → Int32} {i x : Int32} {l : Nat} (e : g = upd f i.toNatClampNeg x) (hi : i.toInt = (l : Int)) : g l = x ∧ ∀ k, k ≠ l → g k = f k := by
  have en : i.toNatClampNeg = l := by show i.toInt.toNat = l; omega
  rw [en] at e
  exact ⟨by rw [e, upd_at], fun k hk => by rw [e, upd_ne hk]⟩
theorem FdB.of {f g0 g1 g2 g3 : Nat → Int32} {l l' i0 i1 i2 i3 x0 x1 x2 x3 v : Int32} (hl : 0 ≤ l.toInt) (e0 : g0 = upd f i0.toNatClampNeg x0) (e1 : g1 = upd g0 i1.toNatClampNeg x1) (e2 : g2 = upd g1 i2.toNatClampNeg x2) (e3 : g3 = upd g2 i3.toNatClampNeg x3) (hi : i0.toInt = l.toInt ∧ i1.toInt = l.toInt + 1 ∧ i2.toInt = l.toInt + 2 ∧ i3.toInt = l.toInt + 3 ∧ l'.toInt = l.toInt + 4) (h0 : x0.toInt % 256 = bz v 24) (h1 : x1.toInt % 256 = bz v 16) (h2 : x2.toInt % 256 = bz v 8) (h3 : x3.toInt % 256 = bz v 0) : FdB f g3 l l' v := by
  obtain ⟨a0, b0⟩ := upd_n (l := l.toInt.toNat) e0 (by omega)
  obtain ⟨a1, b1⟩ := upd_n (l := l.toInt.toNat + 1) e1 (by omega)
  obtain ⟨a2, b2⟩ := upd_n (l := l.toInt.toNat + 2) e2 (by omega)
  obtain ⟨a3, b3⟩ := upd_n (l := l.toInt.toNat + 3) e3 (by omega)
  refine ⟨hi.2.2.2.2, fun k hk => ?_, fun j hj => ?_⟩
  · rw [b3 k (by omega), b2 k (by omega), b1 k (by omega), b0 k (by omega)]
  · have : j = 0 ∨ j = 1 ∨ j = 2 ∨ j = 3 := by omega
    rcases this with rfl | rfl | rfl | rfl
    · rw [b3 _ (by omega), b2 _ (by omega), b1 _ (by omega), Nat.add_zero, a0]; exact h0
    · rw [b3 _ (by omega), b2 _ (by omega), a1]; exact h1
    · rw [b3 _ (by omega), a2]; exact h2
    · rw [a3]; exact h3
theorem ByS.up {f g : Nat → Int32} {i x : Int32} (h : ByS f) (e : g = upd f i.toNatClampNeg x) (hx : -128 ≤ x.toInt ∧ x.toInt ≤ 127) : ByS g := fun k => by
  by_cases z : k = i.toNatClampNeg
  · rw [e, z, upd_at]; exact hx
  · rw [e, upd_ne z]; exact h k
theorem TpE.B {f g : Nat → Int32} {n m : Int32} (h : TpE f n g m) (hb : Byt f) : cB f n = rB g m := by
  funext k
  obtain ⟨h1, h2⟩ := h
  by_cases z : (k : Int) < n.toInt
  · rw [cB_in z, rB_in (by omega), ← h2 k z]
    have := hb k
    omega
  · rw [cB_out (by omega), rB_out (by omega)]
set_option maxHeartbeats 4000000 in
set_option maxRecDepth 100000 in
theorem ct_fX12_four (l : Launch) (D : va_G) (tc : Nat → ClassId) (sk : (Nat → Nat) × (Nat → Nat)) (Ma : Nat → Nat) (Mv : Nat → Int32) (Mf : Nat → Nat → Int32) (Mj : Nat → Int64) (x1 : Int32) (h_t : 0 ≤ (Mv 0).toInt ∧ (Mv 0).toInt ≤ 396) (h_bs : ByS (Mf 1)) : Ct l yX12_four cX12_four 3 none { frames := 0, cells := 0, slots := 0, locals := 0 } D tc sk [.ref (Ma 0), .int x1] [((Ma 0), .inr (12, [.ref (Ma 1), .int (Mv 0), .int (Mv 1), .ref (Ma 2), .ref (Ma 3), .ref (Ma 4), .ref (Ma 5), .ref (Ma 6), .int (Mv 2), .int (Mv 3), .int (Mv 4), .int (Mv 5), .int (Mv 6), .int (Mv 7), .int (Mv 8), .ref (Ma 7), .int (Mv 9), .ref (Ma 8), .int (Mv 10), .ref (Ma 9), .ref (Ma 10), .int (Mv 11), .int (Mv 12), .int (Mv 13), .ref (Ma 11), .int (Mv 14), .ref (Ma 12), .ref (Ma 13), .ref (Ma 14), .ref (Ma 15), .ref (Ma 16), .long (Mj 0), .ref (Ma 17), .ref (Ma 18), .ref (Ma 19), .ref (Ma 20)])), ((Ma 1), .inl (tc 2, 400, .inl (Mf 1)))] (fun (v : Option Value) (u : (Int32) × (Nat → Int32)) => match u with | (oo0x1, oo0x2) => v = none ∧ ((oo0x1 : Int32).toInt = (Mv 0).toInt + 4) ∧ (ByS oo0x2) ∧ (FdB (Mf 1) oo0x2 (Mv 0) oo0x1 x1)) (fun (u : (Int32) × (Nat → Int32)) => match u with | (oo0x1, oo0x2) => [((Ma 0), .inr (12, [.ref (Ma 1), .int oo0x1, .int (Mv 1), .ref (Ma 2), .ref (Ma 3), .ref (Ma 4), .ref (Ma 5), .ref (Ma 6), .int (Mv 2), .int (Mv 3), .int (Mv 4), .int (Mv 5), .int (Mv 6), .int (Mv 7), .int (Mv 8), .ref (Ma 7), .int (Mv 9), .ref (Ma 8), .int (Mv 10), .ref (Ma 9), .ref (Ma 10), .int (Mv 11), .int (Mv 12), .int (Mv 13), .ref (Ma 11), .int (Mv 14), .ref (Ma 12), .ref (Ma 13), .ref (Ma 14), .ref (Ma 15), .ref (Ma 16), .long (Mj 0), .ref (Ma 17), .ref (Ma 18), .ref (Ma 19), .ref (Ma 20)])), ((Ma 1), .inl (tc 2, 400, .inl oo0x2))]) 0 0 := by
  refine Ct.start (by decide) (Nat.le_of_ble_eq_true rfl) (fun p e s m below meth c A ls hx hb hr hlk hin hml hown hts hK hX hP hD hA hl hS => ?_)
  have hl : lv_has ls 3 [(0, .ref (Ma 0)), (1, .int x1)] := hl
  refine lv_bipush (v := 24) hx hb dX12_four_0 (by decide) ?_
  refine lv_istore_n (lv' := [(2, .int 24), (0, .ref (Ma 0)), (1, .int x1)]) hx hb dX12_four_2 rfl hl (by decide) rfl (fun ls hl₀ => ?_)
  replace hl := hl₀
  clear hl₀
  refine lv_iload_n hx hb dX12_four_3 rfl (lv_at hl 0 rfl) ?_
  refine lv_if_lt (tgt := 36) hx hb dX12_four_4 (by decide) (fun c_1 => absurd c_1 (by decide)) (fun c_1 => ?_)
  refine lv_aload_n hx hb dX12_four_7 rfl (lv_at hl 1 rfl) ?_
  refine gf_X12_7 hx hb hts hown hK hP 0 rfl rfl dX12_four_8 ?_
  refine lv_aload_n hx hb dX12_four_11 rfl (lv_at hl 1 rfl) ?_
  refine gf_X12_77 hx hb hts hown hK hP 0 rfl rfl dX12_four_12 ?_
  refine lv_iload_n hx hb dX12_four_15 rfl (lv_at hl 2 rfl) ?_
  refine lv_iload_n hx hb dX12_four_16 rfl (lv_at hl 0 rfl) ?_
  refine lv_ishr hx hb dX12_four_17 ?_
  refine lv_topi (fun x_2 ex_2 => ?_)
  obtain ⟨x_3, ex_3⟩ : ∃ y : Int32, y = (x_2 : Int32).toInt8.toInt32 := ⟨_, rfl⟩
  refine lv_i2b (v := x_3) hx hb dX12_four_18 ex_3.symm ?_
  have hi_4 : vp_in (Mv 0) 400 := by
    refine vp_in_iff.mpr ⟨?_, ?_⟩ <;> omega
  refine st_byte hx hb hK hP hD hS 1 2 rfl rfl hi_4 dX12_four_19 (fun g_5 H locs eg_5 hP₀ hD₀ hS₀ => ?_)
  replace hP : va_P D classes [((Ma 0), .inr (12, [.ref (Ma 1), .int (Mv 0), .int (Mv 1), .ref (Ma 2), .ref (Ma 3), .ref (Ma 4), .ref (Ma 5), .ref (Ma 6), .int (Mv 2), .int (Mv 3), .int (Mv 4), .int (Mv 5), .int (Mv 6), .int (Mv 7), .int (Mv 8), .ref (Ma 7), .int (Mv 9), .ref (Ma 8), .int (Mv 10), .ref (Ma 9), .ref (Ma 10), .int (Mv 11), .int (Mv 12), .int (Mv 13), .ref (Ma 11), .int (Mv 14), .ref (Ma 12), .ref (Ma 13), .ref (Ma 14), .ref (Ma 15), .ref (Ma 16), .long (Mj 0), .ref (Ma 17), .ref (Ma 18), .ref (Ma 19), .ref (Ma 20)])), ((Ma 1), .inl (tc 2, 400, .inl g_5))] H := hP₀
  replace hD : va_D A [((Ma 0), .inr (12, [.ref (Ma 1), .int (Mv 0), .int (Mv 1), .ref (Ma 2), .ref (Ma 3), .ref (Ma 4), .ref (Ma 5), .ref (Ma 6), .int (Mv 2), .int (Mv 3), .int (Mv 4), .int (Mv 5), .int (Mv 6), .int (Mv 7), .int (Mv 8), .ref (Ma 7), .int (Mv 9), .ref (Ma 8), .int (Mv 10), .ref (Ma 9), .ref (Ma 10), .int (Mv 11), .int (Mv 12), .int (Mv 13), .ref (Ma 11), .int (Mv 14), .ref (Ma 12), .ref (Ma 13), .ref (Ma 14), .ref (Ma 15), .ref (Ma 16), .long (Mj 0), .ref (Ma 17), .ref (Ma 18), .ref (Ma 19), .ref (Ma 20)])), ((Ma 1), .inl (tc 2, 400, .inl g_5))] := hD₀
  replace hS := hS₀
  clear hP₀ hD₀ hS₀
  have hz_6 := bz_rn (v := x1) (n := 24) (by decide) ex_2 ex_3
  have pf_7 : ByS g_5 := ByS.up h_bs eg_5 hz_6.2
  refine lv_aload_n hx hb dX12_four_20 rfl (lv_at hl 1 rfl) ?_
  refine lv_dup hx hb dX12_four_21 rfl ?_
  refine gf_X12_77 hx hb hts hown hK hP 0 rfl rfl dX12_four_22 ?_
  refine lv_iconst (v := 1) hx hb dX12_four_25 (by decide) ?_
  refine lv_iadd hx hb dX12_four_26 ?_
  refine lv_topi (fun x_8 ex_8 => ?_)
  refine pf_X12_77 hx hb hts hown hK hP hD hS 0 rfl (Nat.le_of_ble_eq_true rfl) rfl rfl dX12_four_27 (fun H locs hP₀ hD₀ hS₀ => ?_)
  replace hP : va_P D classes [((Ma 0), .inr (12, [.ref (Ma 1), .int x_8, .int (Mv 1), .ref (Ma 2), .ref (Ma 3), .ref (Ma 4), .ref (Ma 5), .ref (Ma 6), .int (Mv 2), .int (Mv 3), .int (Mv 4), .int (Mv 5), .int (Mv 6), .int (Mv 7), .int (Mv 8), .ref (Ma 7), .int (Mv 9), .ref (Ma 8), .int (Mv 10), .ref (Ma 9), .ref (Ma 10), .int (Mv 11), .int (Mv 12), .int (Mv 13), .ref (Ma 11), .int (Mv 14), .ref (Ma 12), .ref (Ma 13), .ref (Ma 14), .ref (Ma 15), .ref (Ma 16), .long (Mj 0), .ref (Ma 17), .ref (Ma 18), .ref (Ma 19), .ref (Ma 20)])), ((Ma 1), .inl (tc 2, 400, .inl g_5))] H := hP₀
  replace hD : va_D A [((Ma 0), .inr (12, [.ref (Ma 1), .int x_8, .int (Mv 1), .ref (Ma 2), .ref (Ma 3), .ref (Ma 4), .ref (Ma 5), .ref (Ma 6), .int (Mv 2), .int (Mv 3), .int (Mv 4), .int (Mv 5), .int (Mv 6), .int (Mv 7), .int (Mv 8), .ref (Ma 7), .int (Mv 9), .ref (Ma 8), .int (Mv 10), .ref (Ma 9), .ref (Ma 10), .int (Mv 11), .int (Mv 12), .int (Mv 13), .ref (Ma 11), .int (Mv 14), .ref (Ma 12), .ref (Ma 13), .ref (Ma 14), .ref (Ma 15), .ref (Ma 16), .long (Mj 0), .ref (Ma 17), .ref (Ma 18), .ref (Ma 19), .ref (Ma 20)])), ((Ma 1), .inl (tc 2, 400, .inl g_5))] := hD₀
  replace hS := hS₀
  clear hP₀ hD₀ hS₀
  refine lv_iinc (v := 16) (lv' := [(2, .int 16), (0, .ref (Ma 0)), (1, .int x1)]) hx hb dX12_four_30 hl (k := 0) rfl (by decide) (by decide) rfl (fun ls hl₀ => ?_)
  replace hl := hl₀
  clear hl₀
  refine lv_goto (tgt := 3) hx hb dX12_four_33 (by decide) ?_
  refine lv_iload_n hx hb dX12_four_3 rfl (lv_at hl 0 rfl) ?_
  refine lv_if_lt (tgt := 36) hx hb dX12_four_4 (by decide) (fun c_9 => absurd c_9 (by decide)) (fun c_9 => ?_)
  refine lv_aload_n hx hb dX12_four_7 rfl (lv_at hl 1 rfl) ?_
  refine gf_X12_7 hx hb hts hown hK hP 0 rfl rfl dX12_four_8 ?_
  refine lv_aload_n hx hb dX12_four_11 rfl (lv_at hl 1 rfl) ?_
  refine gf_X12_77 hx hb hts hown hK hP 0 rfl rfl dX12_four_12 ?_
  refine lv_iload_n hx hb dX12_four_15 rfl (lv_at hl 2 rfl) ?_
  refine lv_iload_n hx hb dX12_four_16 rfl (lv_at hl 0 rfl) ?_
  refine lv_ishr hx hb dX12_four_17 ?_
  refine lv_topi (fun x_10 ex_10 => ?_)
  obtain ⟨x_11, ex_11⟩ : ∃ y : Int32, y = (x_10 : Int32).toInt8.toInt32 := ⟨_, rfl⟩
  refine lv_i2b (v := x_11) hx hb dX12_four_18 ex_11.symm ?_
  have hi_12 : vp_in x_8 400 := by
    have y_1 : (1 : Int32).toInt = 1 := by decide
    have t_x_8 : x_8.toInt = ((Mv 0) : Int32).toInt + (1 : Int32).toInt := by rw [ex_8]; exact add_toInt (by omega) (by omega)
    refine vp_in_iff.mpr ⟨?_, ?_⟩ <;> omega
  refine st_byte hx hb hK hP hD hS 1 2 rfl rfl hi_12 dX12_four_19 (fun g_13 H locs eg_13 hP₀ hD₀ hS₀ => ?_)
  replace hP : va_P D classes [((Ma 0), .inr (12, [.ref (Ma 1), .int x_8, .int (Mv 1), .ref (Ma 2), .ref (Ma 3), .ref (Ma 4), .ref (Ma 5), .ref (Ma 6), .int (Mv 2), .int (Mv 3), .int (Mv 4), .int (Mv 5), .int (Mv 6), .int (Mv 7), .int (Mv 8), .ref (Ma 7), .int (Mv 9), .ref (Ma 8), .int (Mv 10), .ref (Ma 9), .ref (Ma 10), .int (Mv 11), .int (Mv 12), .int (Mv 13), .ref (Ma 11), .int (Mv 14), .ref (Ma 12), .ref (Ma 13), .ref (Ma 14), .ref (Ma 15), .ref (Ma 16), .long (Mj 0), .ref (Ma 17), .ref (Ma 18), .ref (Ma 19), .ref (Ma 20)])), ((Ma 1), .inl (tc 2, 400, .inl g_13))] H := hP₀
  replace hD : va_D A [((Ma 0), .inr (12, [.ref (Ma 1), .int x_8, .int (Mv 1), .ref (Ma 2), .ref (Ma 3), .ref (Ma 4), .ref (Ma 5), .ref (Ma 6), .int (Mv 2), .int (Mv 3), .int (Mv 4), .int (Mv 5), .int (Mv 6), .int (Mv 7), .int (Mv 8), .ref (Ma 7), .int (Mv 9), .ref (Ma 8), .int (Mv 10), .ref (Ma 9), .ref (Ma 10), .int (Mv 11), .int (Mv 12), .int (Mv 13), .ref (Ma 11), .int (Mv 14), .ref (Ma 12), .ref (Ma 13), .ref (Ma 14), .ref (Ma 15), .ref (Ma 16), .long (Mj 0), .ref (Ma 17), .ref (Ma 18), .ref (Ma 19), .ref (Ma 20)])), ((Ma 1), .inl (tc 2, 400, .inl g_13))] := hD₀
  replace hS := hS₀
  clear hP₀ hD₀ hS₀
  have hz_14 := bz_rn (v := x1) (n := 16) (by decide) ex_10 ex_11
  have pf_15 : ByS g_13 := ByS.up pf_7 eg_13 hz_14.2
  refine lv_aload_n hx hb dX12_four_20 rfl (lv_at hl 1 rfl) ?_
  refine lv_dup hx hb dX12_four_21 rfl ?_
  refine gf_X12_77 hx hb hts hown hK hP 0 rfl rfl dX12_four_22 ?_
  refine lv_iconst (v := 1) hx hb dX12_four_25 (by decide) ?_
  refine lv_iadd hx hb dX12_four_26 ?_
  refine lv_topi (fun x_16 ex_16 => ?_)
  refine pf_X12_77 hx hb hts hown hK hP hD hS 0 rfl (Nat.le_of_ble_eq_true rfl) rfl rfl dX12_four_27 (fun H locs hP₀ hD₀ hS₀ => ?_)
  replace hP : va_P D classes [((Ma 0), .inr (12, [.ref (Ma 1), .int x_16, .int (Mv 1), .ref (Ma 2), .ref (Ma 3), .ref (Ma 4), .ref (Ma 5), .ref (Ma 6), .int (Mv 2), .int (Mv 3), .int (Mv 4), .int (Mv 5), .int (Mv 6), .int (Mv 7), .int (Mv 8), .ref (Ma 7), .int (Mv 9), .ref (Ma 8), .int (Mv 10), .ref (Ma 9), .ref (Ma 10), .int (Mv 11), .int (Mv 12), .int (Mv 13), .ref (Ma 11), .int (Mv 14), .ref (Ma 12), .ref (Ma 13), .ref (Ma 14), .ref (Ma 15), .ref (Ma 16), .long (Mj 0), .ref (Ma 17), .ref (Ma 18), .ref (Ma 19), .ref (Ma 20)])), ((Ma 1), .inl (tc 2, 400, .inl g_13))] H := hP₀
  replace hD : va_D A [((Ma 0), .inr (12, [.ref (Ma 1), .int x_16, .int (Mv 1), .ref (Ma 2), .ref (Ma 3), .ref (Ma 4), .ref (Ma 5), .ref (Ma 6), .int (Mv 2), .int (Mv 3), .int (Mv 4), .int (Mv 5), .int (Mv 6), .int (Mv 7), .int (Mv 8), .ref (Ma 7), .int (Mv 9), .ref (Ma 8), .int (Mv 10), .ref (Ma 9), .ref (Ma 10), .int (Mv 11), .int (Mv 12), .int (Mv 13), .ref (Ma 11), .int (Mv 14), .ref (Ma 12), .ref (Ma 13), .ref (Ma 14), .ref (Ma 15), .ref (Ma 16), .long (Mj 0), .ref (Ma 17), .ref (Ma 18), .ref (Ma 19), .ref (Ma 20)])), ((Ma 1), .inl (tc 2, 400, .inl g_13))] := hD₀
  replace hS := hS₀
  clear hP₀ hD₀ hS₀
  refine lv_iinc (v := 8) (lv' := [(2, .int 8), (0, .ref (Ma 0)), (1, .int x1)]) hx hb dX12_four_30 hl (k := 0) rfl (by decide) (by decide) rfl (fun ls hl₀ => ?_)
  replace hl := hl₀
  clear hl₀
  refine lv_goto (tgt := 3) hx hb dX12_four_33 (by decide) ?_
  refine lv_iload_n hx hb dX12_four_3 rfl (lv_at hl 0 rfl) ?_
  refine lv_if_lt (tgt := 36) hx hb dX12_four_4 (by decide) (fun c_17 => absurd c_17 (by decide)) (fun c_17 => ?_)
  refine lv_aload_n hx hb dX12_four_7 rfl (lv_at hl 1 rfl) ?_
  refine gf_X12_7 hx hb hts hown hK hP 0 rfl rfl dX12_four_8 ?_
  refine lv_aload_n hx hb dX12_four_11 rfl (lv_at hl 1 rfl) ?_
  refine gf_X12_77 hx hb hts hown hK hP 0 rfl rfl dX12_four_12 ?_
  refine lv_iload_n hx hb dX12_four_15 rfl (lv_at hl 2 rfl) ?_
  refine lv_iload_n hx hb dX12_four_16 rfl (lv_at hl 0 rfl) ?_
  refine lv_ishr hx hb dX12_four_17 ?_
  refine lv_topi (fun x_18 ex_18 => ?_)
  obtain ⟨x_19, ex_19⟩ : ∃ y : Int32, y = (x_18 : Int32).toInt8.toInt32 := ⟨_, rfl⟩
  refine lv_i2b (v := x_19) hx hb dX12_four_18 ex_19.symm ?_
  have hi_20 : vp_in x_16 400 := by
    have y_1 : (1 : Int32).toInt = 1 := by decide
    have t_x_8 : x_8.toInt = ((Mv 0) : Int32).toInt + (1 : Int32).toInt := by rw [ex_8]; exact add_toInt (by omega) (by omega)
    have t_x_16 : x_16.toInt = (x_8 : Int32).toInt + (1 : Int32).toInt := by rw [ex_16]; exact add_toInt (by omega) (by omega)
    refine vp_in_iff.mpr ⟨?_, ?_⟩ <;> omega
  refine st_byte hx hb hK hP hD hS 1 2 rfl rfl hi_20 dX12_four_19 (fun g_21 H locs eg_21 hP₀ hD₀ hS₀ => ?_)
  replace hP : va_P D classes [((Ma 0), .inr (12, [.ref (Ma 1), .int x_16, .int (Mv 1), .ref (Ma 2), .ref (Ma 3), .ref (Ma 4), .ref (Ma 5), .ref (Ma 6), .int (Mv 2), .int (Mv 3), .int (Mv 4), .int (Mv 5), .int (Mv 6), .int (Mv 7), .int (Mv 8), .ref (Ma 7), .int (Mv 9), .ref (Ma 8), .int (Mv 10), .ref (Ma 9), .ref (Ma 10), .int (Mv 11), .int (Mv 12), .int (Mv 13), .ref (Ma 11), .int (Mv 14), .ref (Ma 12), .ref (Ma 13), .ref (Ma 14), .ref (Ma 15), .ref (Ma 16), .long (Mj 0), .ref (Ma 17), .ref (Ma 18), .ref (Ma 19), .ref (Ma 20)])), ((Ma 1), .inl (tc 2, 400, .inl g_21))] H := hP₀
  replace hD : va_D A [((Ma 0), .inr (12, [.ref (Ma 1), .int x_16, .int (Mv 1), .ref (Ma 2), .ref (Ma 3), .ref (Ma 4), .ref (Ma 5), .ref (Ma 6), .int (Mv 2), .int (Mv 3), .int (Mv 4), .int (Mv 5), .int (Mv 6), .int (Mv 7), .int (Mv 8), .ref (Ma 7), .int (Mv 9), .ref (Ma 8), .int (Mv 10), .ref (Ma 9), .ref (Ma 10), .int (Mv 11), .int (Mv 12), .int (Mv 13), .ref (Ma 11), .int (Mv 14), .ref (Ma 12), .ref (Ma 13), .ref (Ma 14), .ref (Ma 15), .ref (Ma 16), .long (Mj 0), .ref (Ma 17), .ref (Ma 18), .ref (Ma 19), .ref (Ma 20)])), ((Ma 1), .inl (tc 2, 400, .inl g_21))] := hD₀
  replace hS := hS₀
  clear hP₀ hD₀ hS₀
  have hz_22 := bz_rn (v := x1) (n := 8) (by decide) ex_18 ex_19
  have pf_23 : ByS g_21 := ByS.up pf_15 eg_21 hz_22.2
  refine lv_aload_n hx hb dX12_four_20 rfl (lv_at hl 1 rfl) ?_
  refine lv_dup hx hb dX12_four_21 rfl ?_
  refine gf_X12_77 hx hb hts hown hK hP 0 rfl rfl dX12_four_22 ?_
  refine lv_iconst (v := 1) hx hb dX12_four_25 (by decide) ?_
  refine lv_iadd hx hb dX12_four_26 ?_
  refine lv_topi (fun x_24 ex_24 => ?_)
  refine pf_X12_77 hx hb hts hown hK hP hD hS 0 rfl (Nat.le_of_ble_eq_true rfl) rfl rfl dX12_four_27 (fun H locs hP₀ hD₀ hS₀ => ?_)
  replace hP : va_P D classes [((Ma 0), .inr (12, [.ref (Ma 1), .int x_24, .int (Mv 1), .ref (Ma 2), .ref (Ma 3), .ref (Ma 4), .ref (Ma 5), .ref (Ma 6), .int (Mv 2), .int (Mv 3), .int (Mv 4), .int (Mv 5), .int (Mv 6), .int (Mv 7), .int (Mv 8), .ref (Ma 7), .int (Mv 9), .ref (Ma 8), .int (Mv 10), .ref (Ma 9), .ref (Ma 10), .int (Mv 11), .int (Mv 12), .int (Mv 13), .ref (Ma 11), .int (Mv 14), .ref (Ma 12), .ref (Ma 13), .ref (Ma 14), .ref (Ma 15), .ref (Ma 16), .long (Mj 0), .ref (Ma 17), .ref (Ma 18), .ref (Ma 19), .ref (Ma 20)])), ((Ma 1), .inl (tc 2, 400, .inl g_21))] H := hP₀
  replace hD : va_D A [((Ma 0), .inr (12, [.ref (Ma 1), .int x_24, .int (Mv 1), .ref (Ma 2), .ref (Ma 3), .ref (Ma 4), .ref (Ma 5), .ref (Ma 6), .int (Mv 2), .int (Mv 3), .int (Mv 4), .int (Mv 5), .int (Mv 6), .int (Mv 7), .int (Mv 8), .ref (Ma 7), .int (Mv 9), .ref (Ma 8), .int (Mv 10), .ref (Ma 9), .ref (Ma 10), .int (Mv 11), .int (Mv 12), .int (Mv 13), .ref (Ma 11), .int (Mv 14), .ref (Ma 12), .ref (Ma 13), .ref (Ma 14), .ref (Ma 15), .ref (Ma 16), .long (Mj 0), .ref (Ma 17), .ref (Ma 18), .ref (Ma 19), .ref (Ma 20)])), ((Ma 1), .inl (tc 2, 400, .inl g_21))] := hD₀
  replace hS := hS₀
  clear hP₀ hD₀ hS₀
  refine lv_iinc (v := 0) (lv' := [(2, .int 0), (0, .ref (Ma 0)), (1, .int x1)]) hx hb dX12_four_30 hl (k := 0) rfl (by decide) (by decide) rfl (fun ls hl₀ => ?_)
  replace hl := hl₀
  clear hl₀
  refine lv_goto (tgt := 3) hx hb dX12_four_33 (by decide) ?_
  refine lv_iload_n hx hb dX12_four_3 rfl (lv_at hl 0 rfl) ?_
  refine lv_if_lt (tgt := 36) hx hb dX12_four_4 (by decide) (fun c_25 => absurd c_25 (by decide)) (fun c_25 => ?_)
  refine lv_aload_n hx hb dX12_four_7 rfl (lv_at hl 1 rfl) ?_
  refine gf_X12_7 hx hb hts hown hK hP 0 rfl rfl dX12_four_8 ?_
  refine lv_aload_n hx hb dX12_four_11 rfl (lv_at hl 1 rfl) ?_
  refine gf_X12_77 hx hb hts hown hK hP 0 rfl rfl dX12_four_12 ?_
  refine lv_iload_n hx hb dX12_four_15 rfl (lv_at hl 2 rfl) ?_
  refine lv_iload_n hx hb dX12_four_16 rfl (lv_at hl 0 rfl) ?_
  refine lv_ishr hx hb dX12_four_17 ?_
  refine lv_topi (fun x_26 ex_26 => ?_)
  obtain ⟨x_27, ex_27⟩ : ∃ y : Int32, y = (x_26 : Int32).toInt8.toInt32 := ⟨_, rfl⟩
  refine lv_i2b (v := x_27) hx hb dX12_four_18 ex_27.symm ?_
  have hi_28 : vp_in x_24 400 := by
    have y_1 : (1 : Int32).toInt = 1 := by decide
    have t_x_8 : x_8.toInt = ((Mv 0) : Int32).toInt + (1 : Int32).toInt := by rw [ex_8]; exact add_toInt (by omega) (by omega)
    have t_x_16 : x_16.toInt = (x_8 : Int32).toInt + (1 : Int32).toInt := by rw [ex_16]; exact add_toInt (by omega) (by omega)
    have t_x_24 : x_24.toInt = (x_16 : Int32).toInt + (1 : Int32).toInt := by rw [ex_24]; exact add_toInt (by omega) (by omega)
    refine vp_in_iff.mpr ⟨?_, ?_⟩ <;> omega
  refine st_byte hx hb hK hP hD hS 1 2 rfl rfl hi_28 dX12_four_19 (fun g_29 H locs eg_29 hP₀ hD₀ hS₀ => ?_)
  replace hP : va_P D classes [((Ma 0), .inr (12, [.ref (Ma 1), .int x_24, .int (Mv 1), .ref (Ma 2), .ref (Ma 3), .ref (Ma 4), .ref (Ma 5), .ref (Ma 6), .int (Mv 2), .int (Mv 3), .int (Mv 4), .int (Mv 5), .int (Mv 6), .int (Mv 7), .int (Mv 8), .ref (Ma 7), .int (Mv 9), .ref (Ma 8), .int (Mv 10), .ref (Ma 9), .ref (Ma 10), .int (Mv 11), .int (Mv 12), .int (Mv 13), .ref (Ma 11), .int (Mv 14), .ref (Ma 12), .ref (Ma 13), .ref (Ma 14), .ref (Ma 15), .ref (Ma 16), .long (Mj 0), .ref (Ma 17), .ref (Ma 18), .ref (Ma 19), .ref (Ma 20)])), ((Ma 1), .inl (tc 2, 400, .inl g_29))] H := hP₀
  replace hD : va_D A [((Ma 0), .inr (12, [.ref (Ma 1), .int x_24, .int (Mv 1), .ref (Ma 2), .ref (Ma 3), .ref (Ma 4), .ref (Ma 5), .ref (Ma 6), .int (Mv 2), .int (Mv 3), .int (Mv 4), .int (Mv 5), .int (Mv 6), .int (Mv 7), .int (Mv 8), .ref (Ma 7), .int (Mv 9), .ref (Ma 8), .int (Mv 10), .ref (Ma 9), .ref (Ma 10), .int (Mv 11), .int (Mv 12), .int (Mv 13), .ref (Ma 11), .int (Mv 14), .ref (Ma 12), .ref (Ma 13), .ref (Ma 14), .ref (Ma 15), .ref (Ma 16), .long (Mj 0), .ref (Ma 17), .ref (Ma 18), .ref (Ma 19), .ref (Ma 20)])), ((Ma 1), .inl (tc 2, 400, .inl g_29))] := hD₀
  replace hS := hS₀
  clear hP₀ hD₀ hS₀
  have hz_30 := bz_rn (v := x1) (n := 0) (by decide) ex_26 ex_27
  have pf_31 : ByS g_29 := ByS.up pf_23 eg_29 hz_30.2
  refine lv_aload_n hx hb dX12_four_20 rfl (lv_at hl 1 rfl) ?_
  refine lv_dup hx hb dX12_four_21 rfl ?_
  refine gf_X12_77 hx hb hts hown hK hP 0 rfl rfl dX12_four_22 ?_
  refine lv_iconst (v := 1) hx hb dX12_four_25 (by decide) ?_
  refine lv_iadd hx hb dX12_four_26 ?_
  refine lv_topi (fun x_32 ex_32 => ?_)
  refine pf_X12_77 hx hb hts hown hK hP hD hS 0 rfl (Nat.le_of_ble_eq_true rfl) rfl rfl dX12_four_27 (fun H locs hP₀ hD₀ hS₀ => ?_)
  replace hP : va_P D classes [((Ma 0), .inr (12, [.ref (Ma 1), .int x_32, .int (Mv 1), .ref (Ma 2), .ref (Ma 3), .ref (Ma 4), .ref (Ma 5), .ref (Ma 6), .int (Mv 2), .int (Mv 3), .int (Mv 4), .int (Mv 5), .int (Mv 6), .int (Mv 7), .int (Mv 8), .ref (Ma 7), .int (Mv 9), .ref (Ma 8), .int (Mv 10), .ref (Ma 9), .ref (Ma 10), .int (Mv 11), .int (Mv 12), .int (Mv 13), .ref (Ma 11), .int (Mv 14), .ref (Ma 12), .ref (Ma 13), .ref (Ma 14), .ref (Ma 15), .ref (Ma 16), .long (Mj 0), .ref (Ma 17), .ref (Ma 18), .ref (Ma 19), .ref (Ma 20)])), ((Ma 1), .inl (tc 2, 400, .inl g_29))] H := hP₀
  replace hD : va_D A [((Ma 0), .inr (12, [.ref (Ma 1), .int x_32, .int (Mv 1), .ref (Ma 2), .ref (Ma 3), .ref (Ma 4), .ref (Ma 5), .ref (Ma 6), .int (Mv 2), .int (Mv 3), .int (Mv 4), .int (Mv 5), .int (Mv 6), .int (Mv 7), .int (Mv 8), .ref (Ma 7), .int (Mv 9), .ref (Ma 8), .int (Mv 10), .ref (Ma 9), .ref (Ma 10), .int (Mv 11), .int (Mv 12), .int (Mv 13), .ref (Ma 11), .int (Mv 14), .ref (Ma 12), .ref (Ma 13), .ref (Ma 14), .ref (Ma 15), .ref (Ma 16), .long (Mj 0), .ref (Ma 17), .ref (Ma 18), .ref (Ma 19), .ref (Ma 20)])), ((Ma 1), .inl (tc 2, 400, .inl g_29))] := hD₀
  replace hS := hS₀
  clear hP₀ hD₀ hS₀
  refine lv_iinc (v := (-8)) (lv' := [(2, .int (-8)), (0, .ref (Ma 0)), (1, .int x1)]) hx hb dX12_four_30 hl (k := 0) rfl (by decide) (by decide) rfl (fun ls hl₀ => ?_)
  replace hl := hl₀
  clear hl₀
  refine lv_goto (tgt := 3) hx hb dX12_four_33 (by decide) ?_
  refine lv_iload_n hx hb dX12_four_3 rfl (lv_at hl 0 rfl) ?_
  refine lv_if_lt (tgt := 36) hx hb dX12_four_4 (by decide) (fun c_33 => ?_) (fun c_33 => absurd c_33 (by decide))
  have ha_34 : (x_32 : Int32).toInt = (Mv 0).toInt + 4 := by
    have y_1 : (1 : Int32).toInt = 1 := by decide
    have t_x_8 : x_8.toInt = ((Mv 0) : Int32).toInt + (1 : Int32).toInt := by rw [ex_8]; exact add_toInt (by omega) (by omega)
    have t_x_16 : x_16.toInt = (x_8 : Int32).toInt + (1 : Int32).toInt := by rw [ex_16]; exact add_toInt (by omega) (by omega)
    have t_x_24 : x_24.toInt = (x_16 : Int32).toInt + (1 : Int32).toInt := by rw [ex_24]; exact add_toInt (by omega) (by omega)
    have t_x_32 : x_32.toInt = (x_24 : Int32).toInt + (1 : Int32).toInt := by rw [ex_32]; exact add_toInt (by omega) (by omega)
    omega
  have hr_35 : ((Mv 0) : Int32).toInt = ((Mv 0) : Int32).toInt ∧ (x_8 : Int32).toInt = ((Mv 0) : Int32).toInt + 1 ∧ (x_16 : Int32).toInt = ((Mv 0) : Int32).toInt + 2 ∧ (x_24 : Int32).toInt = ((Mv 0) : Int32).toInt + 3 ∧ (x_32 : Int32).toInt = ((Mv 0) : Int32).toInt + 4 := by
    have y_1 : (1 : Int32).toInt = 1 := by decide
    have t_x_8 : x_8.toInt = ((Mv 0) : Int32).toInt + (1 : Int32).toInt := by rw [ex_8]; exact add_toInt (by omega) (by omega)
    have t_x_16 : x_16.toInt = (x_8 : Int32).toInt + (1 : Int32).toInt := by rw [ex_16]; exact add_toInt (by omega) (by omega)
    have t_x_24 : x_24.toInt = (x_16 : Int32).toInt + (1 : Int32).toInt := by rw [ex_24]; exact add_toInt (by omega) (by omega)
    have t_x_32 : x_32.toInt = (x_24 : Int32).toInt + (1 : Int32).toInt := by rw [ex_32]; exact add_toInt (by omega) (by omega)
    omega
  have hr_36 : 0 ≤ ((Mv 0) : Int32).toInt := by
    omega
  exact retV hx hb hr hlk hP hD hS (x_32, g_29) ⟨rfl, ha_34, pf_31, (FdB.of hr_36 eg_5 eg_13 eg_21 eg_29 hr_35 hz_6.1 hz_14.1 hz_22.1 hz_30.1)⟩ [0, 1] rfl rfl dX12_four_36 (Nat.le_of_ble_eq_true rfl) (Nat.le_of_ble_eq_true rfl) rfl
set_option maxRecDepth 100000 in
theorem cu_fX12_four (l : Launch) (D : va_G) (tc : Nat → ClassId) (sk : (Nat → Nat) × (Nat → Nat)) (Ma_0 : Nat) (Ma_1 : Nat) (Ma_2 : Nat) (Ma_3 : Nat) (Ma_4 : Nat) (Ma_5 : Nat) (Ma_6 : Nat) (Ma_7 : Nat) (Ma_8 : Nat) (Ma_9 : Nat) (Ma_10 : Nat) (Ma_11 : Nat) (Ma_12 : Nat) (Ma_13 : Nat) (Ma_14 : Nat) (Ma_15 : Nat) (Ma_16 : Nat) (Ma_17 : Nat) (Ma_18 : Nat) (Ma_19 : Nat) (Ma_20 : Nat) (Mv_0 : Int32) (Mv_1 : Int32) (Mv_2 : Int32) (Mv_3 : Int32) (Mv_4 : Int32) (Mv_5 : Int32) (Mv_6 : Int32) (Mv_7 : Int32) (Mv_8 : Int32) (Mv_9 : Int32) (Mv_10 : Int32) (Mv_11 : Int32) (Mv_12 : Int32) (Mv_13 : Int32) (Mv_14 : Int32) (Mf_1 : Nat → Int32) (Mj_0 : Int64) (x1 : Int32) (h_t : 0 ≤ Mv_0.toInt ∧ Mv_0.toInt ≤ 396) (h_bs : ByS Mf_1) : Ct l yX12_four cX12_four 3 none { frames := 0, cells := 0, slots := 0, locals := 0 } D tc sk [.ref Ma_0, .int x1] [(Ma_0, .inr (12, [.ref Ma_1, .int Mv_0, .int Mv_1, .ref Ma_2, .ref Ma_3, .ref Ma_4, .ref Ma_5, .ref Ma_6, .int Mv_2, .int Mv_3, .int Mv_4, .int Mv_5, .int Mv_6, .int Mv_7, .int Mv_8, .ref Ma_7, .int Mv_9, .ref Ma_8, .int Mv_10, .ref Ma_9, .ref Ma_10, .int Mv_11, .int Mv_12, .int Mv_13, .ref Ma_11, .int Mv_14, .ref Ma_12, .ref Ma_13, .ref Ma_14, .ref Ma_15, .ref Ma_16, .long Mj_0, .ref Ma_17, .ref Ma_18, .ref Ma_19, .ref Ma_20])), (Ma_1, .inl (tc 2, 400, .inl Mf_1))] (fun (v : Option Value) (u : (Int32) × (Nat → Int32)) => match u with | (oo0x1, oo0x2) => v = none ∧ ((oo0x1 : Int32).toInt = Mv_0.toInt + 4) ∧ (ByS oo0x2) ∧ (FdB Mf_1 oo0x2 Mv_0 oo0x1 x1)) (fun (u : (Int32) × (Nat → Int32)) => match u with | (oo0x1, oo0x2) => [(Ma_0, .inr (12, [.ref Ma_1, .int oo0x1, .int Mv_1, .ref Ma_2, .ref Ma_3, .ref Ma_4, .ref Ma_5, .ref Ma_6, .int Mv_2, .int Mv_3, .int Mv_4, .int Mv_5, .int Mv_6, .int Mv_7, .int Mv_8, .ref Ma_7, .int Mv_9, .ref Ma_8, .int Mv_10, .ref Ma_9, .ref Ma_10, .int Mv_11, .int Mv_12, .int Mv_13, .ref Ma_11, .int Mv_14, .ref Ma_12, .ref Ma_13, .ref Ma_14, .ref Ma_15, .ref Ma_16, .long Mj_0, .ref Ma_17, .ref Ma_18, .ref Ma_19, .ref Ma_20])), (Ma_1, .inl (tc 2, 400, .inl oo0x2))]) 0 0 :=
  ct_fX12_four l D tc sk (fun k => ([Ma_0, Ma_1, Ma_2, Ma_3, Ma_4, Ma_5, Ma_6, Ma_7, Ma_8, Ma_9, Ma_10, Ma_11, Ma_12, Ma_13, Ma_14, Ma_15, Ma_16, Ma_17, Ma_18, Ma_19, Ma_20] : List (Nat)).getD k 0) (fun k => ([Mv_0, Mv_1, Mv_2, Mv_3, Mv_4, Mv_5, Mv_6, Mv_7, Mv_8, Mv_9, Mv_10, Mv_11, Mv_12, Mv_13, Mv_14] : List (Int32)).getD k 0) (fun k => ([(fun _ => 0), Mf_1] : List (Nat → Int32)).getD k (fun _ => 0)) (fun k => ([Mj_0] : List (Int64)).getD k 0) x1 h_t h_bs
set_option maxHeartbeats 4000000 in
set_option maxRecDepth 100000 in
theorem ct_fX12_feed (l : Launch) (D : va_G) (tc : Nat → ClassId) (sk : (Nat → Nat) × (Nat → Nat)) (Ma : Nat → Nat) (Mv : Nat → Int32) (Mf : Nat → Nat → Int32) (Mj : Nat → Int64) (x1 : Int32) (x2 : Int32) (x3 : Int32) (x4 : Int32) (x5 : Int32) (h_t : 0 ≤ ((Mv 0) : Int32).toInt ∧ ((Mv 0) : Int32).toInt ≤ 400) (h_bs : ByS (Mf 1)) : Ct l yX12_feed cX12_feed 6 (some .int) { frames := 1, cells := 0, slots := 0, locals := 22 } D tc sk [.ref (Ma 0), .int x1, .int x2, .int x3, .int x4, .int x5] [((Ma 0), .inr (12, [.ref (Ma 1), .int (Mv 0), .int (Mv 1), .ref (Ma 2), .ref (Ma 3), .ref (Ma 4), .ref (Ma 5), .ref (Ma 6), .int (Mv 2), .int (Mv 3), .int (Mv 4), .int (Mv 5), .int (Mv 6), .int (Mv 7), .int (Mv 8), .ref (Ma 7), .int (Mv 9), .ref (Ma 8), .int (Mv 10), .ref (Ma 9), .ref (Ma 10), .int (Mv 11), .int (Mv 12), .int (Mv 13), .ref (Ma 11), .int (Mv 14), .ref (Ma 12), .ref (Ma 13), .ref (Ma 14), .ref (Ma 15), .ref (Ma 16), .long (Mj 0), .ref (Ma 17), .ref (Ma 18), .ref (Ma 19), .ref (Ma 20)])), ((Ma 1), .inl (tc 2, 400, .inl (Mf 1)))] (fun (v : Option Value) (u : (Int32) × (Nat → Int32)) => match u with | (oo0x1, oo0x2) => ∃ r : Int32, v = some (.int r) ∧ (FeP (Mf 1) oo0x2 (Mv 0) oo0x1 x1 x2 x3 x4 x5 r) ∧ (0 ≤ (oo0x1 : Int32).toInt ∧ (oo0x1 : Int32).toInt ≤ 400) ∧ (ByS oo0x2)) (fun (u : (Int32) × (Nat → Int32)) => match u with | (oo0x1, oo0x2) => [((Ma 0), .inr (12, [.ref (Ma 1), .int oo0x1, .int (Mv 1), .ref (Ma 2), .ref (Ma 3), .ref (Ma 4), .ref (Ma 5), .ref (Ma 6), .int (Mv 2), .int (Mv 3), .int (Mv 4), .int (Mv 5), .int (Mv 6), .int (Mv 7), .int (Mv 8), .ref (Ma 7), .int (Mv 9), .ref (Ma 8), .int (Mv 10), .ref (Ma 9), .ref (Ma 10), .int (Mv 11), .int (Mv 12), .int (Mv 13), .ref (Ma 11), .int (Mv 14), .ref (Ma 12), .ref (Ma 13), .ref (Ma 14), .ref (Ma 15), .ref (Ma 16), .long (Mj 0), .ref (Ma 17), .ref (Ma 18), .ref (Ma 19), .ref (Ma 20)])), ((Ma 1), .inl (tc 2, 400, .inl oo0x2))]) 0 0 := by
  refine Ct.start (by decide) (Nat.le_of_ble_eq_true rfl) (fun p e s m below meth c A ls hx hb hr hlk hin hml hown hts hK hX hP hD hA hl hS => ?_)
  have hl : lv_has ls 6 [(0, .ref (Ma 0)), (1, .int x1), (2, .int x2), (3, .int x3), (4, .int x4), (5, .int x5)] := hl
  refine lv_aload_n hx hb dX12_feed_0 rfl (lv_at hl 0 rfl) ?_
  refine gf_X12_77 hx hb hts hown hK hP 0 rfl rfl dX12_feed_1 ?_
  refine lv_bipush (v := 20) hx hb dX12_feed_4 (by decide) ?_
  refine lv_iadd hx hb dX12_feed_6 ?_
  refine lv_topi (fun x_1 ex_1 => ?_)
  refine lv_sipush (v := 400) hx hb dX12_feed_7 (by decide) ?_
  refine lv_icmp_le (tgt := 15) hx hb dX12_feed_10 (by decide) (fun c_2 => ?_) (fun c_2 => ?_)
  · skip
    refine lv_aload_n hx hb dX12_feed_15 rfl (lv_at hl 0 rfl) ?_
    refine lv_iload_n hx hb dX12_feed_16 rfl (lv_at hl 1 rfl) ?_
    have ha_3 : 0 ≤ (Mv 0).toInt ∧ (Mv 0).toInt ≤ 396 := by
      have z_1 := Int32.le_iff_toInt_le.mp c_2
      have y_400 : (400 : Int32).toInt = 400 := by decide
      have y_20 : (20 : Int32).toInt = 20 := by decide
      have t_x_1 : x_1.toInt = ((Mv 0) : Int32).toInt + (20 : Int32).toInt := by rw [ex_1]; exact add_toInt (by omega) (by omega)
      omega
    refine cV (a := (Ma 0)) (As := [.int x1]) (rest := []) (wr := []) ⟨hx, hb, hml, hown, hts⟩ hK hX hA (cu_fX12_four l D tc sk (Ma 0) (Ma 1) (Ma 2) (Ma 3) (Ma 4) (Ma 5) (Ma 6) (Ma 7) (Ma 8) (Ma 9) (Ma 10) (Ma 11) (Ma 12) (Ma 13) (Ma 14) (Ma 15) (Ma 16) (Ma 17) (Ma 18) (Ma 19) (Ma 20) (Mv 0) (Mv 1) (Mv 2) (Mv 3) (Mv 4) (Mv 5) (Mv 6) (Mv 7) (Mv 8) (Mv 9) (Mv 10) (Mv 11) (Mv 12) (Mv 13) (Mv 14) (Mf 1) (Mj 0) x1 ha_3 h_bs) k_1191 k_1188 k_1190 k_24 k_106 pl_X12_four ⟨Nat.le_of_ble_eq_true rfl, Nat.le_of_ble_eq_true rfl⟩ rfl rfl (va_recv hK hP (ci := 12) (q0 := 0) rfl rfl) hP hD hS [0, 1] [] rfl rfl rfl rfl rfl (by decide) rfl hl.1 rfl (Nat.le_of_ble_eq_true rfl) dX12_feed_17 ⟨Nat.le_of_ble_eq_true rfl, Nat.le_of_ble_eq_true rfl⟩ (fun v_4 u_5 H locs hv_6 hP₀ hD₀ hS₀ => ?_)
    obtain ⟨sv_7, sv_8⟩ := u_5
    obtain ⟨rfl, pf_9, pf_10, pf_11⟩ := hv_6
    have pf_9 : (sv_7 : Int32).toInt = (Mv 0).toInt + 4 := pf_9
    have pf_10 : ByS sv_8 := pf_10
    have pf_11 : FdB (Mf 1) sv_8 (Mv 0) sv_7 x1 := pf_11
    have ar_pf_11 := pf_11.1
    refine W.eq (g2 := F0 m 20 ls []) rfl ?_
    replace hP : va_P D classes [((Ma 0), .inr (12, [.ref (Ma 1), .int sv_7, .int (Mv 1), .ref (Ma 2), .ref (Ma 3), .ref (Ma 4), .ref (Ma 5), .ref (Ma 6), .int (Mv 2), .int (Mv 3), .int (Mv 4), .int (Mv 5), .int (Mv 6), .int (Mv 7), .int (Mv 8), .ref (Ma 7), .int (Mv 9), .ref (Ma 8), .int (Mv 10), .ref (Ma 9), .ref (Ma 10), .int (Mv 11), .int (Mv 12), .int (Mv 13), .ref (Ma 11), .int (Mv 14), .ref (Ma 12), .ref (Ma 13), .ref (Ma 14), .ref (Ma 15), .ref (Ma 16), .long (Mj 0), .ref (Ma 17), .ref (Ma 18), .ref (Ma 19), .ref (Ma 20)])), ((Ma 1), .inl (tc 2, 400, .inl sv_8))] H := hP₀
    replace hD : va_D A [((Ma 0), .inr (12, [.ref (Ma 1), .int sv_7, .int (Mv 1), .ref (Ma 2), .ref (Ma 3), .ref (Ma 4), .ref (Ma 5), .ref (Ma 6), .int (Mv 2), .int (Mv 3), .int (Mv 4), .int (Mv 5), .int (Mv 6), .int (Mv 7), .int (Mv 8), .ref (Ma 7), .int (Mv 9), .ref (Ma 8), .int (Mv 10), .ref (Ma 9), .ref (Ma 10), .int (Mv 11), .int (Mv 12), .int (Mv 13), .ref (Ma 11), .int (Mv 14), .ref (Ma 12), .ref (Ma 13), .ref (Ma 14), .ref (Ma 15), .ref (Ma 16), .long (Mj 0), .ref (Ma 17), .ref (Ma 18), .ref (Ma 19), .ref (Ma 20)])), ((Ma 1), .inl (tc 2, 400, .inl sv_8))] := hD₀
    replace hS := hS₀
    clear hP₀ hD₀ hS₀
    refine lv_aload_n hx hb dX12_feed_20 rfl (lv_at hl 0 rfl) ?_
    refine lv_iload_n hx hb dX12_feed_21 rfl (lv_at hl 2 rfl) ?_
    have ha_12 : 0 ≤ sv_7.toInt ∧ sv_7.toInt ≤ 396 := by
      have z_1 := Int32.le_iff_toInt_le.mp c_2
      have y_400 : (400 : Int32).toInt = 400 := by decide
      have y_20 : (20 : Int32).toInt = 20 := by decide
      have t_x_1 : x_1.toInt = ((Mv 0) : Int32).toInt + (20 : Int32).toInt := by rw [ex_1]; exact add_toInt (by omega) (by omega)
      omega
    refine cV (a := (Ma 0)) (As := [.int x2]) (rest := []) (wr := []) ⟨hx, hb, hml, hown, hts⟩ hK hX hA (cu_fX12_four l D tc sk (Ma 0) (Ma 1) (Ma 2) (Ma 3) (Ma 4) (Ma 5) (Ma 6) (Ma 7) (Ma 8) (Ma 9) (Ma 10) (Ma 11) (Ma 12) (Ma 13) (Ma 14) (Ma 15) (Ma 16) (Ma 17) (Ma 18) (Ma 19) (Ma 20) sv_7 (Mv 1) (Mv 2) (Mv 3) (Mv 4) (Mv 5) (Mv 6) (Mv 7) (Mv 8) (Mv 9) (Mv 10) (Mv 11) (Mv 12) (Mv 13) (Mv 14) sv_8 (Mj 0) x2 ha_12 pf_10) k_1191 k_1188 k_1190 k_24 k_106 pl_X12_four ⟨Nat.le_of_ble_eq_true rfl, Nat.le_of_ble_eq_true rfl⟩ rfl rfl (va_recv hK hP (ci := 12) (q0 := 0) rfl rfl) hP hD hS [0, 1] [] rfl rfl rfl rfl rfl (by decide) rfl hl.1 rfl (Nat.le_of_ble_eq_true rfl) dX12_feed_22 ⟨Nat.le_of_ble_eq_true rfl, Nat.le_of_ble_eq_true rfl⟩ (fun v_13 u_14 H locs hv_15 hP₀ hD₀ hS₀ => ?_)
    obtain ⟨sv_16, sv_17⟩ := u_14
    obtain ⟨rfl, pf_18, pf_19, pf_20⟩ := hv_15
    have pf_18 : (sv_16 : Int32).toInt = sv_7.toInt + 4 := pf_18
    have pf_19 : ByS sv_17 := pf_19
    have pf_20 : FdB sv_8 sv_17 sv_7 sv_16 x2 := pf_20
    have ar_pf_20 := pf_20.1
    refine W.eq (g2 := F0 m 25 ls []) rfl ?_
    replace hP : va_P D classes [((Ma 0), .inr (12, [.ref (Ma 1), .int sv_16, .int (Mv 1), .ref (Ma 2), .ref (Ma 3), .ref (Ma 4), .ref (Ma 5), .ref (Ma 6), .int (Mv 2), .int (Mv 3), .int (Mv 4), .int (Mv 5), .int (Mv 6), .int (Mv 7), .int (Mv 8), .ref (Ma 7), .int (Mv 9), .ref (Ma 8), .int (Mv 10), .ref (Ma 9), .ref (Ma 10), .int (Mv 11), .int (Mv 12), .int (Mv 13), .ref (Ma 11), .int (Mv 14), .ref (Ma 12), .ref (Ma 13), .ref (Ma 14), .ref (Ma 15), .ref (Ma 16), .long (Mj 0), .ref (Ma 17), .ref (Ma 18), .ref (Ma 19), .ref (Ma 20)])), ((Ma 1), .inl (tc 2, 400, .inl sv_17))] H := hP₀
    replace hD : va_D A [((Ma 0), .inr (12, [.ref (Ma 1), .int sv_16, .int (Mv 1), .ref (Ma 2), .ref (Ma 3), .ref (Ma 4), .ref (Ma 5), .ref (Ma 6), .int (Mv 2), .int (Mv 3), .int (Mv 4), .int (Mv 5), .int (Mv 6), .int (Mv 7), .int (Mv 8), .ref (Ma 7), .int (Mv 9), .ref (Ma 8), .int (Mv 10), .ref (Ma 9), .ref (Ma 10), .int (Mv 11), .int (Mv 12), .int (Mv 13), .ref (Ma 11), .int (Mv 14), .ref (Ma 12), .ref (Ma 13), .ref (Ma 14), .ref (Ma 15), .ref (Ma 16), .long (Mj 0), .ref (Ma 17), .ref (Ma 18), .ref (Ma 19), .ref (Ma 20)])), ((Ma 1), .inl (tc 2, 400, .inl sv_17))] := hD₀
    replace hS := hS₀
    clear hP₀ hD₀ hS₀
    refine lv_aload_n hx hb dX12_feed_25 rfl (lv_at hl 0 rfl) ?_
    refine lv_iload_n hx hb dX12_feed_26 rfl (lv_at hl 3 rfl) ?_
    have ha_21 : 0 ≤ sv_16.toInt ∧ sv_16.toInt ≤ 396 := by
      have z_1 := Int32.le_iff_toInt_le.mp c_2
      have y_400 : (400 : Int32).toInt = 400 := by decide
      have y_20 : (20 : Int32).toInt = 20 := by decide
      have t_x_1 : x_1.toInt = ((Mv 0) : Int32).toInt + (20 : Int32).toInt := by rw [ex_1]; exact add_toInt (by omega) (by omega)
      omega
    refine cV (a := (Ma 0)) (As := [.int x3]) (rest := []) (wr := []) ⟨hx, hb, hml, hown, hts⟩ hK hX hA (cu_fX12_four l D tc sk (Ma 0) (Ma 1) (Ma 2) (Ma 3) (Ma 4) (Ma 5) (Ma 6) (Ma 7) (Ma 8) (Ma 9) (Ma 10) (Ma 11) (Ma 12) (Ma 13) (Ma 14) (Ma 15) (Ma 16) (Ma 17) (Ma 18) (Ma 19) (Ma 20) sv_16 (Mv 1) (Mv 2) (Mv 3) (Mv 4) (Mv 5) (Mv 6) (Mv 7) (Mv 8) (Mv 9) (Mv 10) (Mv 11) (Mv 12) (Mv 13) (Mv 14) sv_17 (Mj 0) x3 ha_21 pf_19) k_1191 k_1188 k_1190 k_24 k_106 pl_X12_four ⟨Nat.le_of_ble_eq_true rfl, Nat.le_of_ble_eq_true rfl⟩ rfl rfl (va_recv hK hP (ci := 12) (q0 := 0) rfl rfl) hP hD hS [0, 1] [] rfl rfl rfl rfl rfl (by decide) rfl hl.1 rfl (Nat.le_of_ble_eq_true rfl) dX12_feed_27 ⟨Nat.le_of_ble_eq_true rfl, Nat.le_of_ble_eq_true rfl⟩ (fun v_22 u_23 H locs hv_24 hP₀ hD₀ hS₀ => ?_)
    obtain ⟨sv_25, sv_26⟩ := u_23
    obtain ⟨rfl, pf_27, pf_28, pf_29⟩ := hv_24
    have pf_27 : (sv_25 : Int32).toInt = sv_16.toInt + 4 := pf_27
    have pf_28 : ByS sv_26 := pf_28
    have pf_29 : FdB sv_17 sv_26 sv_16 sv_25 x3 := pf_29
    have ar_pf_29 := pf_29.1
    refine W.eq (g2 := F0 m 30 ls []) rfl ?_
    replace hP : va_P D classes [((Ma 0), .inr (12, [.ref (Ma 1), .int sv_25, .int (Mv 1), .ref (Ma 2), .ref (Ma 3), .ref (Ma 4), .ref (Ma 5), .ref (Ma 6), .int (Mv 2), .int (Mv 3), .int (Mv 4), .int (Mv 5), .int (Mv 6), .int (Mv 7), .int (Mv 8), .ref (Ma 7), .int (Mv 9), .ref (Ma 8), .int (Mv 10), .ref (Ma 9), .ref (Ma 10), .int (Mv 11), .int (Mv 12), .int (Mv 13), .ref (Ma 11), .int (Mv 14), .ref (Ma 12), .ref (Ma 13), .ref (Ma 14), .ref (Ma 15), .ref (Ma 16), .long (Mj 0), .ref (Ma 17), .ref (Ma 18), .ref (Ma 19), .ref (Ma 20)])), ((Ma 1), .inl (tc 2, 400, .inl sv_26))] H := hP₀
    replace hD : va_D A [((Ma 0), .inr (12, [.ref (Ma 1), .int sv_25, .int (Mv 1), .ref (Ma 2), .ref (Ma 3), .ref (Ma 4), .ref (Ma 5), .ref (Ma 6), .int (Mv 2), .int (Mv 3), .int (Mv 4), .int (Mv 5), .int (Mv 6), .int (Mv 7), .int (Mv 8), .ref (Ma 7), .int (Mv 9), .ref (Ma 8), .int (Mv 10), .ref (Ma 9), .ref (Ma 10), .int (Mv 11), .int (Mv 12), .int (Mv 13), .ref (Ma 11), .int (Mv 14), .ref (Ma 12), .ref (Ma 13), .ref (Ma 14), .ref (Ma 15), .ref (Ma 16), .long (Mj 0), .ref (Ma 17), .ref (Ma 18), .ref (Ma 19), .ref (Ma 20)])), ((Ma 1), .inl (tc 2, 400, .inl sv_26))] := hD₀
    replace hS := hS₀
    clear hP₀ hD₀ hS₀
    refine lv_aload_n hx hb dX12_feed_30 rfl (lv_at hl 0 rfl) ?_
    refine lv_iload hx hb dX12_feed_31 (lv_at hl 4 rfl) ?_
    have ha_30 : 0 ≤ sv_25.toInt ∧ sv_25.toInt ≤ 396 := by
      have z_1 := Int32.le_iff_toInt_le.mp c_2
      have y_400 : (400 : Int32).toInt = 400 := by decide
      have y_20 : (20 : Int32).toInt = 20 := by decide
      have t_x_1 : x_1.toInt = ((Mv 0) : Int32).toInt + (20 : Int32).toInt := by rw [ex_1]; exact add_toInt (by omega) (by omega)
      omega
    refine cV (a := (Ma 0)) (As := [.int x4]) (rest := []) (wr := []) ⟨hx, hb, hml, hown, hts⟩ hK hX hA (cu_fX12_four l D tc sk (Ma 0) (Ma 1) (Ma 2) (Ma 3) (Ma 4) (Ma 5) (Ma 6) (Ma 7) (Ma 8) (Ma 9) (Ma 10) (Ma 11) (Ma 12) (Ma 13) (Ma 14) (Ma 15) (Ma 16) (Ma 17) (Ma 18) (Ma 19) (Ma 20) sv_25 (Mv 1) (Mv 2) (Mv 3) (Mv 4) (Mv 5) (Mv 6) (Mv 7) (Mv 8) (Mv 9) (Mv 10) (Mv 11) (Mv 12) (Mv 13) (Mv 14) sv_26 (Mj 0) x4 ha_30 pf_28) k_1191 k_1188 k_1190 k_24 k_106 pl_X12_four ⟨Nat.le_of_ble_eq_true rfl, Nat.le_of_ble_eq_true rfl⟩ rfl rfl (va_recv hK hP (ci := 12) (q0 := 0) rfl rfl) hP hD hS [0, 1] [] rfl rfl rfl rfl rfl (by decide) rfl hl.1 rfl (Nat.le_of_ble_eq_true rfl) dX12_feed_33 ⟨Nat.le_of_ble_eq_true rfl, Nat.le_of_ble_eq_true rfl⟩ (fun v_31 u_32 H locs hv_33 hP₀ hD₀ hS₀ => ?_)
    obtain ⟨sv_34, sv_35⟩ := u_32
    obtain ⟨rfl, pf_36, pf_37, pf_38⟩ := hv_33
    have pf_36 : (sv_34 : Int32).toInt = sv_25.toInt + 4 := pf_36
    have pf_37 : ByS sv_35 := pf_37
    have pf_38 : FdB sv_26 sv_35 sv_25 sv_34 x4 := pf_38
    have ar_pf_38 := pf_38.1
    refine W.eq (g2 := F0 m 36 ls []) rfl ?_
    replace hP : va_P D classes [((Ma 0), .inr (12, [.ref (Ma 1), .int sv_34, .int (Mv 1), .ref (Ma 2), .ref (Ma 3), .ref (Ma 4), .ref (Ma 5), .ref (Ma 6), .int (Mv 2), .int (Mv 3), .int (Mv 4), .int (Mv 5), .int (Mv 6), .int (Mv 7), .int (Mv 8), .ref (Ma 7), .int (Mv 9), .ref (Ma 8), .int (Mv 10), .ref (Ma 9), .ref (Ma 10), .int (Mv 11), .int (Mv 12), .int (Mv 13), .ref (Ma 11), .int (Mv 14), .ref (Ma 12), .ref (Ma 13), .ref (Ma 14), .ref (Ma 15), .ref (Ma 16), .long (Mj 0), .ref (Ma 17), .ref (Ma 18), .ref (Ma 19), .ref (Ma 20)])), ((Ma 1), .inl (tc 2, 400, .inl sv_35))] H := hP₀
    replace hD : va_D A [((Ma 0), .inr (12, [.ref (Ma 1), .int sv_34, .int (Mv 1), .ref (Ma 2), .ref (Ma 3), .ref (Ma 4), .ref (Ma 5), .ref (Ma 6), .int (Mv 2), .int (Mv 3), .int (Mv 4), .int (Mv 5), .int (Mv 6), .int (Mv 7), .int (Mv 8), .ref (Ma 7), .int (Mv 9), .ref (Ma 8), .int (Mv 10), .ref (Ma 9), .ref (Ma 10), .int (Mv 11), .int (Mv 12), .int (Mv 13), .ref (Ma 11), .int (Mv 14), .ref (Ma 12), .ref (Ma 13), .ref (Ma 14), .ref (Ma 15), .ref (Ma 16), .long (Mj 0), .ref (Ma 17), .ref (Ma 18), .ref (Ma 19), .ref (Ma 20)])), ((Ma 1), .inl (tc 2, 400, .inl sv_35))] := hD₀
    replace hS := hS₀
    clear hP₀ hD₀ hS₀
    refine lv_aload_n hx hb dX12_feed_36 rfl (lv_at hl 0 rfl) ?_
    refine lv_iload hx hb dX12_feed_37 (lv_at hl 5 rfl) ?_
    have ha_39 : 0 ≤ sv_34.toInt ∧ sv_34.toInt ≤ 396 := by
      have z_1 := Int32.le_iff_toInt_le.mp c_2
      have y_400 : (400 : Int32).toInt = 400 := by decide
      have y_20 : (20 : Int32).toInt = 20 := by decide
      have t_x_1 : x_1.toInt = ((Mv 0) : Int32).toInt + (20 : Int32).toInt := by rw [ex_1]; exact add_toInt (by omega) (by omega)
      omega
    refine cV (a := (Ma 0)) (As := [.int x5]) (rest := []) (wr := []) ⟨hx, hb, hml, hown, hts⟩ hK hX hA (cu_fX12_four l D tc sk (Ma 0) (Ma 1) (Ma 2) (Ma 3) (Ma 4) (Ma 5) (Ma 6) (Ma 7) (Ma 8) (Ma 9) (Ma 10) (Ma 11) (Ma 12) (Ma 13) (Ma 14) (Ma 15) (Ma 16) (Ma 17) (Ma 18) (Ma 19) (Ma 20) sv_34 (Mv 1) (Mv 2) (Mv 3) (Mv 4) (Mv 5) (Mv 6) (Mv 7) (Mv 8) (Mv 9) (Mv 10) (Mv 11) (Mv 12) (Mv 13) (Mv 14) sv_35 (Mj 0) x5 ha_39 pf_37) k_1191 k_1188 k_1190 k_24 k_106 pl_X12_four ⟨Nat.le_of_ble_eq_true rfl, Nat.le_of_ble_eq_true rfl⟩ rfl rfl (va_recv hK hP (ci := 12) (q0 := 0) rfl rfl) hP hD hS [0, 1] [] rfl rfl rfl rfl rfl (by decide) rfl hl.1 rfl (Nat.le_of_ble_eq_true rfl) dX12_feed_39 ⟨Nat.le_of_ble_eq_true rfl, Nat.le_of_ble_eq_true rfl⟩ (fun v_40 u_41 H locs hv_42 hP₀ hD₀ hS₀ => ?_)
    obtain ⟨sv_43, sv_44⟩ := u_41
    obtain ⟨rfl, pf_45, pf_46, pf_47⟩ := hv_42
    have pf_45 : (sv_43 : Int32).toInt = sv_34.toInt + 4 := pf_45
    have pf_46 : ByS sv_44 := pf_46
    have pf_47 : FdB sv_35 sv_44 sv_34 sv_43 x5 := pf_47
    have ar_pf_47 := pf_47.1
    refine W.eq (g2 := F0 m 42 ls []) rfl ?_
    replace hP : va_P D classes [((Ma 0), .inr (12, [.ref (Ma 1), .int sv_43, .int (Mv 1), .ref (Ma 2), .ref (Ma 3), .ref (Ma 4), .ref (Ma 5), .ref (Ma 6), .int (Mv 2), .int (Mv 3), .int (Mv 4), .int (Mv 5), .int (Mv 6), .int (Mv 7), .int (Mv 8), .ref (Ma 7), .int (Mv 9), .ref (Ma 8), .int (Mv 10), .ref (Ma 9), .ref (Ma 10), .int (Mv 11), .int (Mv 12), .int (Mv 13), .ref (Ma 11), .int (Mv 14), .ref (Ma 12), .ref (Ma 13), .ref (Ma 14), .ref (Ma 15), .ref (Ma 16), .long (Mj 0), .ref (Ma 17), .ref (Ma 18), .ref (Ma 19), .ref (Ma 20)])), ((Ma 1), .inl (tc 2, 400, .inl sv_44))] H := hP₀
    replace hD : va_D A [((Ma 0), .inr (12, [.ref (Ma 1), .int sv_43, .int (Mv 1), .ref (Ma 2), .ref (Ma 3), .ref (Ma 4), .ref (Ma 5), .ref (Ma 6), .int (Mv 2), .int (Mv 3), .int (Mv 4), .int (Mv 5), .int (Mv 6), .int (Mv 7), .int (Mv 8), .ref (Ma 7), .int (Mv 9), .ref (Ma 8), .int (Mv 10), .ref (Ma 9), .ref (Ma 10), .int (Mv 11), .int (Mv 12), .int (Mv 13), .ref (Ma 11), .int (Mv 14), .ref (Ma 12), .ref (Ma 13), .ref (Ma 14), .ref (Ma 15), .ref (Ma 16), .long (Mj 0), .ref (Ma 17), .ref (Ma 18), .ref (Ma 19), .ref (Ma 20)])), ((Ma 1), .inl (tc 2, 400, .inl sv_44))] := hD₀
    replace hS := hS₀
    clear hP₀ hD₀ hS₀
    refine lv_aload_n hx hb dX12_feed_42 rfl (lv_at hl 0 rfl) ?_
    refine gf_X12_77 hx hb hts hown hK hP 0 rfl rfl dX12_feed_43 ?_
    have ha_48 : 0 ≤ (sv_43 : Int32).toInt ∧ (sv_43 : Int32).toInt ≤ 400 := by
      have z_1 := Int32.le_iff_toInt_le.mp c_2
      have y_400 : (400 : Int32).toInt = 400 := by decide
      have y_20 : (20 : Int32).toInt = 20 := by decide
      have t_x_1 : x_1.toInt = ((Mv 0) : Int32).toInt + (20 : Int32).toInt := by rw [ex_1]; exact add_toInt (by omega) (by omega)
      omega
    have hr_49 : (Mv 0).toInt ≤ 380 := by
      have z_1 := Int32.le_iff_toInt_le.mp c_2
      have y_400 : (400 : Int32).toInt = 400 := by decide
      have y_20 : (20 : Int32).toInt = 20 := by decide
      have t_x_1 : x_1.toInt = ((Mv 0) : Int32).toInt + (20 : Int32).toInt := by rw [ex_1]; exact add_toInt (by omega) (by omega)
      omega
    exact retI (v := sv_43) hx hb hr hlk (rfl) hP hD hS (sv_43, sv_44) ⟨_, rfl, (Or.inr ⟨hr_49, rfl, _, _, _, _, _, _, _, _, pf_11, pf_20, pf_29, pf_38, pf_47⟩), ha_48, pf_46⟩ [0, 1] rfl rfl dX12_feed_46 (Nat.le_of_ble_eq_true rfl) (Nat.le_of_ble_eq_true rfl) rfl
  · skip
    refine lv_iconst (v := (-1)) hx hb dX12_feed_13 (by decide) ?_
    have hr_50 : 380 < (Mv 0).toInt := by
      have z_1 := Int32.lt_iff_toInt_lt.mp (Int32.not_le.mp c_2)
      have y_400 : (400 : Int32).toInt = 400 := by decide
      have y_20 : (20 : Int32).toInt = 20 := by decide
      have t_x_1 : x_1.toInt = ((Mv 0) : Int32).toInt + (20 : Int32).toInt := by rw [ex_1]; exact add_toInt (by omega) (by omega)
      omega
    have hr_51 : ((-1) : Int32).toInt = -1 := by
      have z_1 := Int32.lt_iff_toInt_lt.mp (Int32.not_le.mp c_2)
      have y_400 : (400 : Int32).toInt = 400 := by decide
      have y_m1 : (-1 : Int32).toInt = -1 := by decide
      have y_20 : (20 : Int32).toInt = 20 := by decide
      have t_x_1 : x_1.toInt = ((Mv 0) : Int32).toInt + (20 : Int32).toInt := by rw [ex_1]; exact add_toInt (by omega) (by omega)
      omega
    exact retI (v := (-1)) hx hb hr hlk (rfl) hP hD hS ((Mv 0), (Mf 1)) ⟨_, rfl, (Or.inl ⟨hr_50, hr_51, rfl, rfl⟩), h_t, h_bs⟩ [0, 1] rfl rfl dX12_feed_14 (Nat.le_of_ble_eq_true rfl) (Nat.le_of_ble_eq_true rfl) rfl
set_option maxHeartbeats 4000000 in
set_option maxRecDepth 100000 in
theorem ct_fX12_end (l : Launch) (D : va_G) (tc : Nat → ClassId) (sk : (Nat → Nat) × (Nat → Nat)) (Ma : Nat → Nat) (Mv : Nat → Int32) (Mj : Nat → Int64) (x1 : Int32) (h_t : 0 ≤ ((Mv 0) : Int32).toInt ∧ ((Mv 0) : Int32).toInt ≤ 400) : Ct l yX12_end cX12_end 2 (some .int) { frames := 0, cells := 0, slots := 0, locals := 0 } D tc sk [.ref (Ma 0), .int x1] [((Ma 0), .inr (12, [.ref (Ma 1), .int (Mv 0), .int (Mv 1), .ref (Ma 2), .ref (Ma 3), .ref (Ma 4), .ref (Ma 5), .ref (Ma 6), .int (Mv 2), .int (Mv 3), .int (Mv 4), .int (Mv 5), .int (Mv 6), .int (Mv 7), .int (Mv 8), .ref (Ma 7), .int (Mv 9), .ref (Ma 8), .int (Mv 10), .ref (Ma 9), .ref (Ma 10), .int (Mv 11), .int (Mv 12), .int (Mv 13), .ref (Ma 11), .int (Mv 14), .ref (Ma 12), .ref (Ma 13), .ref (Ma 14), .ref (Ma 15), .ref (Ma 16), .long (Mj 0), .ref (Ma 17), .ref (Ma 18), .ref (Ma 19), .ref (Ma 20)]))] (fun (v : Option Value) (oo0x1 : Int32) => ∃ r : Int32, v = some (.int r) ∧ (EnP (Mv 0) oo0x1 x1 r) ∧ (0 ≤ (oo0x1 : Int32).toInt ∧ (oo0x1 : Int32).toInt ≤ 400)) (fun (oo0x1 : Int32) => [((Ma 0), .inr (12, [.ref (Ma 1), .int oo0x1, .int (Mv 1), .ref (Ma 2), .ref (Ma 3), .ref (Ma 4), .ref (Ma 5), .ref (Ma 6), .int (Mv 2), .int (Mv 3), .int (Mv 4), .int (Mv 5), .int (Mv 6), .int (Mv 7), .int (Mv 8), .ref (Ma 7), .int (Mv 9), .ref (Ma 8), .int (Mv 10), .ref (Ma 9), .ref (Ma 10), .int (Mv 11), .int (Mv 12), .int (Mv 13), .ref (Ma 11), .int (Mv 14), .ref (Ma 12), .ref (Ma 13), .ref (Ma 14), .ref (Ma 15), .ref (Ma 16), .long (Mj 0), .ref (Ma 17), .ref (Ma 18), .ref (Ma 19), .ref (Ma 20)]))]) 0 0 := by
  refine Ct.start (by decide) (Nat.le_of_ble_eq_true rfl) (fun p e s m below meth c A ls hx hb hr hlk hin hml hown hts hK hX hP hD hA hl hS => ?_)
  have hl : lv_has ls 2 [(0, .ref (Ma 0)), (1, .int x1)] := hl
  refine lv_iload_n hx hb dX12_end_0 rfl (lv_at hl 1 rfl) ?_
  refine lv_if_lt (tgt := 12) hx hb dX12_end_1 (by decide) (fun c_1 => ?_) (fun c_1 => ?_)
  · skip
    refine lv_iconst (v := (-1)) hx hb dX12_end_12 (by decide) ?_
    have hr_2 : x1.toInt < 0 ∨ (Mv 0).toInt < x1.toInt := by
      have z_1 := Int32.lt_iff_toInt_lt.mp c_1
      have y_0 : (0 : Int32).toInt = 0 := by decide
      omega
    have hr_3 : ((-1) : Int32).toInt = -1 := by
      have z_1 := Int32.lt_iff_toInt_lt.mp c_1
      have y_0 : (0 : Int32).toInt = 0 := by decide
      have y_m1 : (-1 : Int32).toInt = -1 := by decide
      omega
    exact retI (v := (-1)) hx hb hr hlk (rfl) hP hD hS (Mv 0) ⟨_, rfl, (Or.inl ⟨hr_2, hr_3, rfl⟩), h_t⟩ [0] rfl rfl dX12_end_13 (Nat.le_of_ble_eq_true rfl) (Nat.le_of_ble_eq_true rfl) rfl
  · skip
    refine lv_iload_n hx hb dX12_end_4 rfl (lv_at hl 1 rfl) ?_
    refine lv_aload_n hx hb dX12_end_5 rfl (lv_at hl 0 rfl) ?_
    refine gf_X12_77 hx hb hts hown hK hP 0 rfl rfl dX12_end_6 ?_
    refine lv_icmp_le (tgt := 14) hx hb dX12_end_9 (by decide) (fun c_4 => ?_) (fun c_4 => ?_)
    · skip
      refine lv_aload_n hx hb dX12_end_14 rfl (lv_at hl 0 rfl) ?_
      refine lv_iload_n hx hb dX12_end_15 rfl (lv_at hl 1 rfl) ?_
      refine pf_X12_77 hx hb hts hown hK hP hD hS 0 rfl (Nat.le_of_ble_eq_true rfl) rfl rfl dX12_end_16 (fun H locs hP₀ hD₀ hS₀ => ?_)
      replace hP : va_P D classes [((Ma 0), .inr (12, [.ref (Ma 1), .int x1, .int (Mv 1), .ref (Ma 2), .ref (Ma 3), .ref (Ma 4), .ref (Ma 5), .ref (Ma 6), .int (Mv 2), .int (Mv 3), .int (Mv 4), .int (Mv 5), .int (Mv 6), .int (Mv 7), .int (Mv 8), .ref (Ma 7), .int (Mv 9), .ref (Ma 8), .int (Mv 10), .ref (Ma 9), .ref (Ma 10), .int (Mv 11), .int (Mv 12), .int (Mv 13), .ref (Ma 11), .int (Mv 14), .ref (Ma 12), .ref (Ma 13), .ref (Ma 14), .ref (Ma 15), .ref (Ma 16), .long (Mj 0), .ref (Ma 17), .ref (Ma 18), .ref (Ma 19), .ref (Ma 20)]))] H := hP₀
      replace hD : va_D A [((Ma 0), .inr (12, [.ref (Ma 1), .int x1, .int (Mv 1), .ref (Ma 2), .ref (Ma 3), .ref (Ma 4), .ref (Ma 5), .ref (Ma 6), .int (Mv 2), .int (Mv 3), .int (Mv 4), .int (Mv 5), .int (Mv 6), .int (Mv 7), .int (Mv 8), .ref (Ma 7), .int (Mv 9), .ref (Ma 8), .int (Mv 10), .ref (Ma 9), .ref (Ma 10), .int (Mv 11), .int (Mv 12), .int (Mv 13), .ref (Ma 11), .int (Mv 14), .ref (Ma 12), .ref (Ma 13), .ref (Ma 14), .ref (Ma 15), .ref (Ma 16), .long (Mj 0), .ref (Ma 17), .ref (Ma 18), .ref (Ma 19), .ref (Ma 20)]))] := hD₀
      replace hS := hS₀
      clear hP₀ hD₀ hS₀
      refine lv_iload_n hx hb dX12_end_19 rfl (lv_at hl 1 rfl) ?_
      have ha_5 : 0 ≤ (x1 : Int32).toInt ∧ (x1 : Int32).toInt ≤ 400 := by
        have z_1 := Int32.le_iff_toInt_le.mp (Int32.not_lt.mp c_1)
        have z_2 := Int32.le_iff_toInt_le.mp c_4
        have y_0 : (0 : Int32).toInt = 0 := by decide
        omega
      have hr_6 : 0 ≤ x1.toInt ∧ x1.toInt ≤ (Mv 0).toInt := by
        have z_1 := Int32.le_iff_toInt_le.mp (Int32.not_lt.mp c_1)
        have z_2 := Int32.le_iff_toInt_le.mp c_4
        have y_0 : (0 : Int32).toInt = 0 := by decide
        omega
      exact retI (v := x1) hx hb hr hlk (rfl) hP hD hS x1 ⟨_, rfl, (Or.inr ⟨hr_6, rfl, rfl⟩), ha_5⟩ [0] rfl rfl dX12_end_20 (Nat.le_of_ble_eq_true rfl) (Nat.le_of_ble_eq_true rfl) rfl
    · skip
      refine lv_iconst (v := (-1)) hx hb dX12_end_12 (by decide) ?_
      have hr_7 : x1.toInt < 0 ∨ (Mv 0).toInt < x1.toInt := by
        have z_1 := Int32.le_iff_toInt_le.mp (Int32.not_lt.mp c_1)
        have z_2 := Int32.lt_iff_toInt_lt.mp (Int32.not_le.mp c_4)
        have y_0 : (0 : Int32).toInt = 0 := by decide
        omega
      have hr_8 : ((-1) : Int32).toInt = -1 := by
        have z_1 := Int32.le_iff_toInt_le.mp (Int32.not_lt.mp c_1)
        have z_2 := Int32.lt_iff_toInt_lt.mp (Int32.not_le.mp c_4)
        have y_0 : (0 : Int32).toInt = 0 := by decide
        have y_m1 : (-1 : Int32).toInt = -1 := by decide
        omega
      exact retI (v := (-1)) hx hb hr hlk (rfl) hP hD hS (Mv 0) ⟨_, rfl, (Or.inl ⟨hr_7, hr_8, rfl⟩), h_t⟩ [0] rfl rfl dX12_end_13 (Nat.le_of_ble_eq_true rfl) (Nat.le_of_ble_eq_true rfl) rfl
def LtH (B : Nat → Int) (nx : Int32) : Prop := 0 ≤ nx.toInt ∧ 97 ≤ B nx.toInt.toNat ∧ B nx.toInt.toNat ≤ 122
theorem RgO.ps {B : Nat → Int} {wr nx nx' : Int32} (h : LtH B nx) (hp : PsR B nx nx') (hw : wr.toInt = 0) : RgO (pNX B nx) B wr nx' := by
  refine ⟨?_, hw⟩
  have e := hp.te h.2
  show Except.ok (pz_sk B (pz_te B nx.toInt.toNat), 0) = _
  rw [e]
theorem bws_0 {B : Nat → Int} {p : Nat} (h : pz_wd B p pz_book = true) : pz_wa B p pz_bws 0 = 0 := by
  unfold pz_bws; simp only [pz_wa]; rw [if_pos h]
theorem bws_1 {B : Nat → Int} {p : Nat} (h : ¬ pz_wd B p pz_book = true) (h1 : pz_wd B p pz_sky = true) : pz_wa B p pz_bws 0 = 1 := by
  unfold pz_bws; simp only [pz_wa]; rw [if_neg h, if_pos h1]; rfl
theorem bws_2 {B : Nat → Int} {p : Nat} (h : ¬ pz_wd B p pz_book = true) (h1 : ¬ pz_wd B p pz_sky = true) (h2 : pz_wd B p pz_buyer = true) : pz_wa B p pz_bws 0 = 2 := by
  unfold pz_bws; simp only [pz_wa]; rw [if_neg h, if_neg h1, if_pos h2]; rfl
theorem bws_n {B : Nat → Int} {p : Nat} (h : ¬ pz_wd B p pz_book = true) (h1 : ¬ pz_wd B p pz_sky = true) (h2 : ¬ pz_wd B p pz_buyer = true) : (pz_wd B p pz_watch = true → pz_wa B p pz_bws 0 = 3) ∧ (¬ pz_wd B p pz_watch = true → pz_wa B p pz_bws 0 = -1) := by
  unfold pz_bws; simp only [pz_wa]; rw [if_neg h, if_neg h1, if_neg h2]
  exact ⟨fun z => by rw [if_pos z]; rfl, fun z => by rw [if_neg z]⟩
theorem bws_ne0 {B : Nat → Int} {p : Nat} (h : ¬ pz_wd B p pz_book = true) : ¬ pz_wa B p pz_bws 0 = 0 := by
  unfold pz_bws; simp only [pz_wa]; rw [if_neg h]
  by_cases h1 : pz_wd B p pz_sky = true
  · rw [if_pos h1]; decide
  · rw [if_neg h1]
    by_cases h2 : pz_wd B p pz_buyer = true
    · rw [if_pos h2]; decide
    · rw [if_neg h2]
      by_cases h3 : pz_wd B p pz_watch = true
      · rw [if_pos h3]; decide
      · rw [if_neg h3]; decide
def BkN (B : Nat → Int) (nx : Int32) : Prop := ¬ pz_wa B nx.toInt.toNat pz_bws 0 = -1
set_option maxHeartbeats 4000000 in
set_option maxRecDepth 100000 in
theorem ct_fX12_cellHere (l : Launch) (D : va_G) (tc : Nat → ClassId) (sk : (Nat → Nat) × (Nat → Nat)) (Ma : Nat → Nat) (Mv : Nat → Int32) (Mf : Nat → Nat → Int32) (Mj : Nat → Int64) (x1 : Int32) (x2 : Int32) (x3 : Int32) (h_nx : 0 ≤ ((Mv 2) : Int32).toInt ∧ ((Mv 2) : Int32).toInt ≤ ((Mv 0) : Int32).toInt ∧ ((Mv 0) : Int32).toInt ≤ 400) (h_c : 0 ≤ x1.toInt ∧ x1.toInt < 95) (h_bs : ByS (Mf 1)) (h_w : ((Mv 3) : Int32).toInt = 0) : Ct l yX12_cellHere cX12_cellHere 4 (some .boolean) { frames := 2, cells := 0, slots := 0, locals := 49 } D tc sk [.ref (Ma 0), .int x1, .int x2, .int x3] [((Ma 0), .inr (12, [.ref (Ma 1), .int (Mv 0), .int (Mv 1), .ref (Ma 2), .ref (Ma 3), .ref (Ma 4), .ref (Ma 5), .ref (Ma 6), .int (Mv 2), .int (Mv 3), .int (Mv 4), .int (Mv 5), .int (Mv 6), .int (Mv 7), .int (Mv 8), .ref (Ma 7), .int (Mv 9), .ref (Ma 8), .int (Mv 10), .ref (Ma 9), .ref (Ma 10), .int (Mv 11), .int (Mv 12), .int (Mv 13), .ref (Ma 11), .int (Mv 14), .ref (Ma 12), .ref (Ma 13), .ref (Ma 14), .ref (Ma 15), .ref (Ma 16), .long (Mj 0), .ref (Ma 17), .ref (Ma 18), .ref (Ma 19), .ref (Ma 20)])), ((Ma 1), .inl (tc 2, 400, .inl (Mf 1))), ((Ma 6), .inl (tc 0, 95, .inl (Mf 6)))] (fun (v : Option Value) (u : (Int32) × (Int32) × (Int32) × (Nat → Int32)) => match u with | (oo0x1, oo0x2, oo0x3, oo0x4) => ∃ r : Int32, v = some (.int r) ∧ (((r.toInt = 0 ∧ ¬ (oo0x2 : Int32).toInt = 0) ∨ (r.toInt = 1 ∧ x2.toInt ≤ (oo0x4 x1.toNatClampNeg).toInt ∧ (oo0x4 x1.toNatClampNeg).toInt ≤ x3.toInt ∧ (oo0x2 : Int32).toInt = 0))) ∧ (((Mv 2) : Int32).toInt ≤ (oo0x1 : Int32).toInt ∧ (oo0x1 : Int32).toInt ≤ ((Mv 0) : Int32).toInt) ∧ (RdC (Mf 6) oo0x4 x1) ∧ (r.toInt = 1 → (NmO (rB (Mf 1) (Mv 0)) x2.toInt x3.toInt (Mv 2) (oo0x4 x1.toNatClampNeg) oo0x1 oo0x2)) ∧ (r.toInt = 0 → (NmE (rB (Mf 1) (Mv 0)) x2.toInt x3.toInt (Mv 2) oo0x2))) (fun (u : (Int32) × (Int32) × (Int32) × (Nat → Int32)) => match u with | (oo0x1, oo0x2, oo0x3, oo0x4) => [((Ma 0), .inr (12, [.ref (Ma 1), .int (Mv 0), .int (Mv 1), .ref (Ma 2), .ref (Ma 3), .ref (Ma 4), .ref (Ma 5), .ref (Ma 6), .int oo0x1, .int oo0x2, .int oo0x3, .int (Mv 5), .int (Mv 6), .int (Mv 7), .int (Mv 8), .ref (Ma 7), .int (Mv 9), .ref (Ma 8), .int (Mv 10), .ref (Ma 9), .ref (Ma 10), .int (Mv 11), .int (Mv 12), .int (Mv 13), .ref (Ma 11), .int (Mv 14), .ref (Ma 12), .ref (Ma 13), .ref (Ma 14), .ref (Ma 15), .ref (Ma 16), .long (Mj 0), .ref (Ma 17), .ref (Ma 18), .ref (Ma 19), .ref (Ma 20)])), ((Ma 1), .inl (tc 2, 400, .inl (Mf 1))), ((Ma 6), .inl (tc 0, 95, .inl oo0x4))]) 0 0 := by
  refine Ct.start (by decide) (Nat.le_of_ble_eq_true rfl) (fun p e s m below meth c A ls hx hb hr hlk hin hml hown hts hK hX hP hD hA hl hS => ?_)
  have hl : lv_has ls 4 [(0, .ref (Ma 0)), (1, .int x1), (2, .int x2), (3, .int x3)] := hl
  refine lv_aload_n hx hb dX12_cellHere_0 rfl (lv_at hl 0 rfl) ?_
  refine lv_iload_n hx hb dX12_cellHere_1 rfl (lv_at hl 2 rfl) ?_
  refine lv_iload_n hx hb dX12_cellHere_2 rfl (lv_at hl 3 rfl) ?_
  refine cV (a := (Ma 0)) (As := [.int x2, .int x3]) (rest := []) (wr := [((Ma 6), .inl (tc 0, 95, .inl (Mf 6)))]) ⟨hx, hb, hml, hown, hts⟩ hK hX hA (cu_fX12_numberHere l D tc sk (Ma 0) (Ma 1) (Ma 2) (Ma 3) (Ma 4) (Ma 5) (Ma 6) (Ma 7) (Ma 8) (Ma 9) (Ma 10) (Ma 11) (Ma 12) (Ma 13) (Ma 14) (Ma 15) (Ma 16) (Ma 17) (Ma 18) (Ma 19) (Ma 20) (Mv 0) (Mv 1) (Mv 2) (Mv 3) (Mv 4) (Mv 5) (Mv 6) (Mv 7) (Mv 8) (Mv 9) (Mv 10) (Mv 11) (Mv 12) (Mv 13) (Mv 14) (Mf 1) (Mj 0) x2 x3 h_nx h_bs h_w) k_1252 k_1249 k_1251 k_36 k_106 pl_X12_numberHere ⟨Nat.le_of_ble_eq_true rfl, Nat.le_of_ble_eq_true rfl⟩ rfl rfl (va_recv hK hP (ci := 12) (q0 := 0) rfl rfl) hP hD hS [0, 1] [2] rfl rfl rfl rfl rfl (by decide) rfl hl.1 rfl (Nat.le_of_ble_eq_true rfl) dX12_cellHere_3 ⟨Nat.le_of_ble_eq_true rfl, Nat.le_of_ble_eq_true rfl⟩ (fun v_1 u_2 H locs hv_3 hP₀ hD₀ hS₀ => ?_)
  obtain ⟨sv_4, sv_5, sv_6⟩ := u_2
  obtain ⟨r_8, rfl, he_9, pf_7, hm_11, hm_12⟩ := hv_3
  have he_9 : ((r_8.toInt = 0 ∧ ¬ (sv_5 : Int32).toInt = 0) ∨ (r_8.toInt = 1 ∧ x2.toInt ≤ (sv_6 : Int32).toInt ∧ (sv_6 : Int32).toInt ≤ x3.toInt ∧ (Mv 2).toInt + 1 ≤ (sv_4 : Int32).toInt)) := he_9
  have pf_7 : ((Mv 2) : Int32).toInt ≤ (sv_4 : Int32).toInt ∧ (sv_4 : Int32).toInt ≤ ((Mv 0) : Int32).toInt := pf_7
  refine W.eq (g2 := F0 m 6 ls [.int r_8]) rfl ?_
  replace hP : va_P D classes [((Ma 6), .inl (tc 0, 95, .inl (Mf 6))), ((Ma 0), .inr (12, [.ref (Ma 1), .int (Mv 0), .int (Mv 1), .ref (Ma 2), .ref (Ma 3), .ref (Ma 4), .ref (Ma 5), .ref (Ma 6), .int sv_4, .int sv_5, .int sv_6, .int (Mv 5), .int (Mv 6), .int (Mv 7), .int (Mv 8), .ref (Ma 7), .int (Mv 9), .ref (Ma 8), .int (Mv 10), .ref (Ma 9), .ref (Ma 10), .int (Mv 11), .int (Mv 12), .int (Mv 13), .ref (Ma 11), .int (Mv 14), .ref (Ma 12), .ref (Ma 13), .ref (Ma 14), .ref (Ma 15), .ref (Ma 16), .long (Mj 0), .ref (Ma 17), .ref (Ma 18), .ref (Ma 19), .ref (Ma 20)])), ((Ma 1), .inl (tc 2, 400, .inl (Mf 1)))] H := hP₀
  replace hD : va_D A [((Ma 6), .inl (tc 0, 95, .inl (Mf 6))), ((Ma 0), .inr (12, [.ref (Ma 1), .int (Mv 0), .int (Mv 1), .ref (Ma 2), .ref (Ma 3), .ref (Ma 4), .ref (Ma 5), .ref (Ma 6), .int sv_4, .int sv_5, .int sv_6, .int (Mv 5), .int (Mv 6), .int (Mv 7), .int (Mv 8), .ref (Ma 7), .int (Mv 9), .ref (Ma 8), .int (Mv 10), .ref (Ma 9), .ref (Ma 10), .int (Mv 11), .int (Mv 12), .int (Mv 13), .ref (Ma 11), .int (Mv 14), .ref (Ma 12), .ref (Ma 13), .ref (Ma 14), .ref (Ma 15), .ref (Ma 16), .long (Mj 0), .ref (Ma 17), .ref (Ma 18), .ref (Ma 19), .ref (Ma 20)])), ((Ma 1), .inl (tc 2, 400, .inl (Mf 1)))] := hD₀
  replace hS := hS₀
  clear hP₀ hD₀ hS₀
  refine lv_if_ne (tgt := 11) hx hb dX12_cellHere_6 (by decide) (fun c_13 => ?_) (fun c_13 => ?_)
  · skip
    have hz_15 : (r_8 : Int32).toInt = 1 := by
      have z_1 : ¬ (r_8 : Int32).toInt = (0 : Int32).toInt := fun z => c_13 (Int32.toInt_inj.mp z)
      have y_0 : (0 : Int32).toInt = 0 := by decide
      omega
    obtain pf_14 := hm_11 hz_15
    have pf_14 : NmO (rB (Mf 1) (Mv 0)) x2.toInt x3.toInt (Mv 2) sv_6 sv_4 sv_5 := pf_14
    have ar_pf_14 := pf_14.2.2
    refine lv_aload_n hx hb dX12_cellHere_11 rfl (lv_at hl 0 rfl) ?_
    refine gf_X12_26 hx hb hts hown hK hP 1 rfl rfl dX12_cellHere_12 ?_
    refine lv_iload_n hx hb dX12_cellHere_15 rfl (lv_at hl 1 rfl) ?_
    refine lv_aload_n hx hb dX12_cellHere_16 rfl (lv_at hl 0 rfl) ?_
    refine gf_X12_112 hx hb hts hown hK hP 1 rfl rfl dX12_cellHere_17 ?_
    have hi_16 : vp_in x1 95 := by
      have z_1 : ¬ (r_8 : Int32).toInt = (0 : Int32).toInt := fun z => c_13 (Int32.toInt_inj.mp z)
      have y_0 : (0 : Int32).toInt = 0 := by decide
      refine vp_in_iff.mpr ⟨?_, ?_⟩ <;> omega
    refine st_int hx hb hK hP hD hS 0 0 rfl rfl hi_16 dX12_cellHere_20 (fun g_17 H locs eg_17 hP₀ hD₀ hS₀ => ?_)
    replace hP : va_P D classes [((Ma 6), .inl (tc 0, 95, .inl g_17)), ((Ma 0), .inr (12, [.ref (Ma 1), .int (Mv 0), .int (Mv 1), .ref (Ma 2), .ref (Ma 3), .ref (Ma 4), .ref (Ma 5), .ref (Ma 6), .int sv_4, .int sv_5, .int sv_6, .int (Mv 5), .int (Mv 6), .int (Mv 7), .int (Mv 8), .ref (Ma 7), .int (Mv 9), .ref (Ma 8), .int (Mv 10), .ref (Ma 9), .ref (Ma 10), .int (Mv 11), .int (Mv 12), .int (Mv 13), .ref (Ma 11), .int (Mv 14), .ref (Ma 12), .ref (Ma 13), .ref (Ma 14), .ref (Ma 15), .ref (Ma 16), .long (Mj 0), .ref (Ma 17), .ref (Ma 18), .ref (Ma 19), .ref (Ma 20)])), ((Ma 1), .inl (tc 2, 400, .inl (Mf 1)))] H := hP₀
    replace hD : va_D A [((Ma 6), .inl (tc 0, 95, .inl g_17)), ((Ma 0), .inr (12, [.ref (Ma 1), .int (Mv 0), .int (Mv 1), .ref (Ma 2), .ref (Ma 3), .ref (Ma 4), .ref (Ma 5), .ref (Ma 6), .int sv_4, .int sv_5, .int sv_6, .int (Mv 5), .int (Mv 6), .int (Mv 7), .int (Mv 8), .ref (Ma 7), .int (Mv 9), .ref (Ma 8), .int (Mv 10), .ref (Ma 9), .ref (Ma 10), .int (Mv 11), .int (Mv 12), .int (Mv 13), .ref (Ma 11), .int (Mv 14), .ref (Ma 12), .ref (Ma 13), .ref (Ma 14), .ref (Ma 15), .ref (Ma 16), .long (Mj 0), .ref (Ma 17), .ref (Ma 18), .ref (Ma 19), .ref (Ma 20)])), ((Ma 1), .inl (tc 2, 400, .inl (Mf 1)))] := hD₀
    replace hS := hS₀
    clear hP₀ hD₀ hS₀
    have pf_18 : RdC (Mf 6) g_17 x1 := RdC.up eg_17
    have ku_g_17 : (g_17 x1.toNatClampNeg).toInt = (sv_6 : Int32).toInt := upd_toInt_at eg_17
    refine lv_iconst (v := 1) hx hb dX12_cellHere_21 (by decide) ?_
    have hp_19 : (((1 : Int32).toInt = 0 ∧ ¬ (sv_5 : Int32).toInt = 0) ∨ ((1 : Int32).toInt = 1 ∧ x2.toInt ≤ (g_17 x1.toNatClampNeg).toInt ∧ (g_17 x1.toNatClampNeg).toInt ≤ x3.toInt ∧ (sv_5 : Int32).toInt = 0)) := by
      have z_1 : ¬ (r_8 : Int32).toInt = (0 : Int32).toInt := fun z => c_13 (Int32.toInt_inj.mp z)
      have y_0 : (0 : Int32).toInt = 0 := by decide
      have y_1 : (1 : Int32).toInt = 1 := by decide
      have yr : (1 : Int32).toInt = 1 := by decide
      omega
    have hm_20 : (1 : Int32).toInt = 1 → (NmO (rB (Mf 1) (Mv 0)) x2.toInt x3.toInt (Mv 2) (g_17 x1.toNatClampNeg) sv_4 sv_5) := by
      intro h1r
      have hf_21 : NmO (rB (Mf 1) (Mv 0)) x2.toInt x3.toInt (Mv 2) (g_17 x1.toNatClampNeg) sv_4 sv_5 := by
        rw [show g_17 x1.toNatClampNeg = sv_6 from by rw [eg_17, upd_at]]
        exact pf_14
      exact hf_21
    exact retI (v := 1) hx hb hr hlk (rfl) hP hD hS (sv_4, sv_5, sv_6, g_17) ⟨_, rfl, hp_19, pf_7, pf_18, hm_20, (fun h => absurd h (by decide))⟩ [1, 2, 0] rfl rfl dX12_cellHere_22 (Nat.le_of_ble_eq_true rfl) (Nat.le_of_ble_eq_true rfl) rfl
  · skip
    have hz_23 : (r_8 : Int32).toInt = 0 := by
      have z_1 := congrArg Int32.toInt c_13
      have y_0 : (0 : Int32).toInt = 0 := by decide
      omega
    obtain pf_22 := hm_12 hz_23
    have pf_22 : NmE (rB (Mf 1) (Mv 0)) x2.toInt x3.toInt (Mv 2) sv_5 := pf_22
    refine lv_iconst (v := 0) hx hb dX12_cellHere_9 (by decide) ?_
    have hp_24 : (((0 : Int32).toInt = 0 ∧ ¬ (sv_5 : Int32).toInt = 0) ∨ ((0 : Int32).toInt = 1 ∧ x2.toInt ≤ ((Mf 6) x1.toNatClampNeg).toInt ∧ ((Mf 6) x1.toNatClampNeg).toInt ≤ x3.toInt ∧ (sv_5 : Int32).toInt = 0)) := by
      have z_1 := congrArg Int32.toInt c_13
      have y_0 : (0 : Int32).toInt = 0 := by decide
      omega
    have hm_25 : (0 : Int32).toInt = 0 → (NmE (rB (Mf 1) (Mv 0)) x2.toInt x3.toInt (Mv 2) sv_5) := by
      intro h1r
      exact pf_22
    exact retI (v := 0) hx hb hr hlk (rfl) hP hD hS (sv_4, sv_5, sv_6, (Mf 6)) ⟨_, rfl, hp_24, pf_7, (RdC.rf), (fun h => absurd h (by decide)), hm_25⟩ [1, 2, 0] rfl rfl dX12_cellHere_10 (Nat.le_of_ble_eq_true rfl) (Nat.le_of_ble_eq_true rfl) rfl
set_option maxRecDepth 100000 in
theorem cu_fX12_cellHere (l : Launch) (D : va_G) (tc : Nat → ClassId) (sk : (Nat → Nat) × (Nat → Nat)) (Ma_0 : Nat) (Ma_1 : Nat) (Ma_2 : Nat) (Ma_3 : Nat) (Ma_4 : Nat) (Ma_5 : Nat) (Ma_6 : Nat) (Ma_7 : Nat) (Ma_8 : Nat) (Ma_9 : Nat) (Ma_10 : Nat) (Ma_11 : Nat) (Ma_12 : Nat) (Ma_13 : Nat) (Ma_14 : Nat) (Ma_15 : Nat) (Ma_16 : Nat) (Ma_17 : Nat) (Ma_18 : Nat) (Ma_19 : Nat) (Ma_20 : Nat) (Mv_0 : Int32) (Mv_1 : Int32) (Mv_2 : Int32) (Mv_3 : Int32) (Mv_4 : Int32) (Mv_5 : Int32) (Mv_6 : Int32) (Mv_7 : Int32) (Mv_8 : Int32) (Mv_9 : Int32) (Mv_10 : Int32) (Mv_11 : Int32) (Mv_12 : Int32) (Mv_13 : Int32) (Mv_14 : Int32) (Mf_1 : Nat → Int32) (Mf_6 : Nat → Int32) (Mj_0 : Int64) (x1 : Int32) (x2 : Int32) (x3 : Int32) (h_nx : 0 ≤ (Mv_2 : Int32).toInt ∧ (Mv_2 : Int32).toInt ≤ (Mv_0 : Int32).toInt ∧ (Mv_0 : Int32).toInt ≤ 400) (h_c : 0 ≤ x1.toInt ∧ x1.toInt < 95) (h_bs : ByS Mf_1) (h_w : (Mv_3 : Int32).toInt = 0) : Ct l yX12_cellHere cX12_cellHere 4 (some .boolean) { frames := 2, cells := 0, slots := 0, locals := 49 } D tc sk [.ref Ma_0, .int x1, .int x2, .int x3] [(Ma_0, .inr (12, [.ref Ma_1, .int Mv_0, .int Mv_1, .ref Ma_2, .ref Ma_3, .ref Ma_4, .ref Ma_5, .ref Ma_6, .int Mv_2, .int Mv_3, .int Mv_4, .int Mv_5, .int Mv_6, .int Mv_7, .int Mv_8, .ref Ma_7, .int Mv_9, .ref Ma_8, .int Mv_10, .ref Ma_9, .ref Ma_10, .int Mv_11, .int Mv_12, .int Mv_13, .ref Ma_11, .int Mv_14, .ref Ma_12, .ref Ma_13, .ref Ma_14, .ref Ma_15, .ref Ma_16, .long Mj_0, .ref Ma_17, .ref Ma_18, .ref Ma_19, .ref Ma_20])), (Ma_1, .inl (tc 2, 400, .inl Mf_1)), (Ma_6, .inl (tc 0, 95, .inl Mf_6))] (fun (v : Option Value) (u : (Int32) × (Int32) × (Int32) × (Nat → Int32)) => match u with | (oo0x1, oo0x2, oo0x3, oo0x4) => ∃ r : Int32, v = some (.int r) ∧ (((r.toInt = 0 ∧ ¬ (oo0x2 : Int32).toInt = 0) ∨ (r.toInt = 1 ∧ x2.toInt ≤ (oo0x4 x1.toNatClampNeg).toInt ∧ (oo0x4 x1.toNatClampNeg).toInt ≤ x3.toInt ∧ (oo0x2 : Int32).toInt = 0))) ∧ ((Mv_2 : Int32).toInt ≤ (oo0x1 : Int32).toInt ∧ (oo0x1 : Int32).toInt ≤ (Mv_0 : Int32).toInt) ∧ (RdC Mf_6 oo0x4 x1) ∧ (r.toInt = 1 → (NmO (rB Mf_1 Mv_0) x2.toInt x3.toInt Mv_2 (oo0x4 x1.toNatClampNeg) oo0x1 oo0x2)) ∧ (r.toInt = 0 → (NmE (rB Mf_1 Mv_0) x2.toInt x3.toInt Mv_2 oo0x2))) (fun (u : (Int32) × (Int32) × (Int32) × (Nat → Int32)) => match u with | (oo0x1, oo0x2, oo0x3, oo0x4) => [(Ma_0, .inr (12, [.ref Ma_1, .int Mv_0, .int Mv_1, .ref Ma_2, .ref Ma_3, .ref Ma_4, .ref Ma_5, .ref Ma_6, .int oo0x1, .int oo0x2, .int oo0x3, .int Mv_5, .int Mv_6, .int Mv_7, .int Mv_8, .ref Ma_7, .int Mv_9, .ref Ma_8, .int Mv_10, .ref Ma_9, .ref Ma_10, .int Mv_11, .int Mv_12, .int Mv_13, .ref Ma_11, .int Mv_14, .ref Ma_12, .ref Ma_13, .ref Ma_14, .ref Ma_15, .ref Ma_16, .long Mj_0, .ref Ma_17, .ref Ma_18, .ref Ma_19, .ref Ma_20])), (Ma_1, .inl (tc 2, 400, .inl Mf_1)), (Ma_6, .inl (tc 0, 95, .inl oo0x4))]) 0 0 :=
  ct_fX12_cellHere l D tc sk (fun k => ([Ma_0, Ma_1, Ma_2, Ma_3, Ma_4, Ma_5, Ma_6, Ma_7, Ma_8, Ma_9, Ma_10, Ma_11, Ma_12, Ma_13, Ma_14, Ma_15, Ma_16, Ma_17, Ma_18, Ma_19, Ma_20] : List (Nat)).getD k 0) (fun k => ([Mv_0, Mv_1, Mv_2, Mv_3, Mv_4, Mv_5, Mv_6, Mv_7, Mv_8, Mv_9, Mv_10, Mv_11, Mv_12, Mv_13, Mv_14] : List (Int32)).getD k 0) (fun k => ([(fun _ => 0), Mf_1, (fun _ => 0), (fun _ => 0), (fun _ => 0), (fun _ => 0), Mf_6] : List (Nat → Int32)).getD k (fun _ => 0)) (fun k => ([Mj_0] : List (Int64)).getD k 0) x1 x2 x3 h_nx h_c h_bs h_w
set_option maxHeartbeats 4000000 in
set_option maxRecDepth 100000 in
theorem ct_fX12_isBookWord (l : Launch) (D : va_G) (tc : Nat → ClassId) (sk : (Nat → Nat) × (Nat → Nat)) (Ma : Nat → Nat) (Mv : Nat → Int32) (Mf : Nat → Nat → Int32) (Mj : Nat → Int64) (h_nx : 0 ≤ ((Mv 2) : Int32).toInt ∧ ((Mv 2) : Int32).toInt ≤ ((Mv 0) : Int32).toInt ∧ ((Mv 0) : Int32).toInt ≤ 400) (h_bs : ByS (Mf 1)) (h_sk : SkR (rB (Mf 1) (Mv 0)) (Mv 2) (Mv 2)) : Ct l yX12_isBookWord cX12_isBookWord 1 (some .boolean) { frames := 2, cells := 0, slots := 0, locals := 46 } D tc sk [.ref (Ma 0)] [((Ma 0), .inr (12, [.ref (Ma 1), .int (Mv 0), .int (Mv 1), .ref (Ma 2), .ref (Ma 3), .ref (Ma 4), .ref (Ma 5), .ref (Ma 6), .int (Mv 2), .int (Mv 3), .int (Mv 4), .int (Mv 5), .int (Mv 6), .int (Mv 7), .int (Mv 8), .ref (Ma 7), .int (Mv 9), .ref (Ma 8), .int (Mv 10), .ref (Ma 9), .ref (Ma 10), .int (Mv 11), .int (Mv 12), .int (Mv 13), .ref (Ma 11), .int (Mv 14), .ref (Ma 12), .ref (Ma 13), .ref (Ma 14), .ref (Ma 15), .ref (Ma 16), .long (Mj 0), .ref (Ma 17), .ref (Ma 18), .ref (Ma 19), .ref (Ma 20)])), ((Ma 1), .inl (tc 2, 400, .inl (Mf 1)))] (fun (v : Option Value) (oo0x1 : Int32) => ∃ r : Int32, v = some (.int r) ∧ ((r.toInt = 0 ∨ r.toInt = 1)) ∧ (((Mv 2) : Int32).toInt ≤ (oo0x1 : Int32).toInt ∧ (oo0x1 : Int32).toInt ≤ ((Mv 0) : Int32).toInt) ∧ (SkR (rB (Mf 1) (Mv 0)) (Mv 2) oo0x1) ∧ (r.toInt = 1 → (BkN (rB (Mf 1) (Mv 0)) (Mv 2)) ∧ (LtH (rB (Mf 1) (Mv 0)) (Mv 2))) ∧ (r.toInt = 0 → (BkW (rB (Mf 1) (Mv 0)) (Mv 2) (-1)))) (fun (oo0x1 : Int32) => [((Ma 0), .inr (12, [.ref (Ma 1), .int (Mv 0), .int (Mv 1), .ref (Ma 2), .ref (Ma 3), .ref (Ma 4), .ref (Ma 5), .ref (Ma 6), .int oo0x1, .int (Mv 3), .int (Mv 4), .int (Mv 5), .int (Mv 6), .int (Mv 7), .int (Mv 8), .ref (Ma 7), .int (Mv 9), .ref (Ma 8), .int (Mv 10), .ref (Ma 9), .ref (Ma 10), .int (Mv 11), .int (Mv 12), .int (Mv 13), .ref (Ma 11), .int (Mv 14), .ref (Ma 12), .ref (Ma 13), .ref (Ma 14), .ref (Ma 15), .ref (Ma 16), .long (Mj 0), .ref (Ma 17), .ref (Ma 18), .ref (Ma 19), .ref (Ma 20)])), ((Ma 1), .inl (tc 2, 400, .inl (Mf 1)))]) 0 0 := by
  refine Ct.start (by decide) (Nat.le_of_ble_eq_true rfl) (fun p e s m below meth c A ls hx hb hr hlk hin hml hown hts hK hX hP hD hA hl hS => ?_)
  have hl : lv_has ls 1 [(0, .ref (Ma 0))] := hl
  refine lv_aload_n hx hb dX12_isBookWord_0 rfl (lv_at hl 0 rfl) ?_
  refine lv_ldc2 hx hb hown (hts _ k_1216) dX12_isBookWord_1 ?_
  refine cV (a := (Ma 0)) (As := [.long 1651470187]) (rest := []) (wr := []) ⟨hx, hb, hml, hown, hts⟩ hK hX hA (cu_fX12_isWord l D tc sk (Ma 0) (Ma 1) (Ma 2) (Ma 3) (Ma 4) (Ma 5) (Ma 6) (Ma 7) (Ma 8) (Ma 9) (Ma 10) (Ma 11) (Ma 12) (Ma 13) (Ma 14) (Ma 15) (Ma 16) (Ma 17) (Ma 18) (Ma 19) (Ma 20) (Mv 0) (Mv 1) (Mv 2) (Mv 3) (Mv 4) (Mv 5) (Mv 6) (Mv 7) (Mv 8) (Mv 9) (Mv 10) (Mv 11) (Mv 12) (Mv 13) (Mv 14) (Mf 1) (Mj 0) 1651470187 h_nx h_bs) k_1220 k_1217 k_1219 k_29 k_106 pl_X12_isWord ⟨Nat.le_of_ble_eq_true rfl, Nat.le_of_ble_eq_true rfl⟩ rfl rfl (va_recv hK hP (ci := 12) (q0 := 0) rfl rfl) hP hD hS [0, 1] [] rfl rfl rfl rfl rfl (by decide) rfl hl.1 rfl (Nat.le_of_ble_eq_true rfl) dX12_isBookWord_4 ⟨Nat.le_of_ble_eq_true rfl, Nat.le_of_ble_eq_true rfl⟩ (fun v_1 u_2 H locs hv_3 hP₀ hD₀ hS₀ => ?_)
  obtain ⟨sv_4, rfl⟩ : ∃ z, z = u_2 := ⟨_, rfl⟩
  obtain ⟨r_9, rfl, he_10, pf_5, pf_6, pf_7, pf_8, hm_12, hm_13⟩ := hv_3
  have he_10 : (r_9.toInt = 0 ∨ r_9.toInt = 1) := he_10
  have pf_5 : ((Mv 2) : Int32).toInt ≤ (sv_4 : Int32).toInt ∧ (sv_4 : Int32).toInt ≤ ((Mv 0) : Int32).toInt := pf_5
  have pf_6 : NSq (Mf 1) (Mv 0) sv_4 := pf_6
  have pf_7 : Stl (Mf 1) (Mv 0) (Mv 2) sv_4 := pf_7
  have pf_8 : SkR (rB (Mf 1) (Mv 0)) (Mv 2) sv_4 := pf_8
  refine W.eq (g2 := F0 m 7 ls [.int r_9]) rfl ?_
  replace hP : va_P D classes [((Ma 0), .inr (12, [.ref (Ma 1), .int (Mv 0), .int (Mv 1), .ref (Ma 2), .ref (Ma 3), .ref (Ma 4), .ref (Ma 5), .ref (Ma 6), .int sv_4, .int (Mv 3), .int (Mv 4), .int (Mv 5), .int (Mv 6), .int (Mv 7), .int (Mv 8), .ref (Ma 7), .int (Mv 9), .ref (Ma 8), .int (Mv 10), .ref (Ma 9), .ref (Ma 10), .int (Mv 11), .int (Mv 12), .int (Mv 13), .ref (Ma 11), .int (Mv 14), .ref (Ma 12), .ref (Ma 13), .ref (Ma 14), .ref (Ma 15), .ref (Ma 16), .long (Mj 0), .ref (Ma 17), .ref (Ma 18), .ref (Ma 19), .ref (Ma 20)])), ((Ma 1), .inl (tc 2, 400, .inl (Mf 1)))] H := hP₀
  replace hD : va_D A [((Ma 0), .inr (12, [.ref (Ma 1), .int (Mv 0), .int (Mv 1), .ref (Ma 2), .ref (Ma 3), .ref (Ma 4), .ref (Ma 5), .ref (Ma 6), .int sv_4, .int (Mv 3), .int (Mv 4), .int (Mv 5), .int (Mv 6), .int (Mv 7), .int (Mv 8), .ref (Ma 7), .int (Mv 9), .ref (Ma 8), .int (Mv 10), .ref (Ma 9), .ref (Ma 10), .int (Mv 11), .int (Mv 12), .int (Mv 13), .ref (Ma 11), .int (Mv 14), .ref (Ma 12), .ref (Ma 13), .ref (Ma 14), .ref (Ma 15), .ref (Ma 16), .long (Mj 0), .ref (Ma 17), .ref (Ma 18), .ref (Ma 19), .ref (Ma 20)])), ((Ma 1), .inl (tc 2, 400, .inl (Mf 1)))] := hD₀
  replace hS := hS₀
  clear hP₀ hD₀ hS₀
  have hE_14 := SkR.eqB h_sk pf_8
  refine lv_if_ne (tgt := 40) hx hb dX12_isBookWord_7 (by decide) (fun c_15 => ?_) (fun c_15 => ?_)
  · skip
    have hz_18 : (r_9 : Int32).toInt = 1 := by
      have z_1 : ¬ (r_9 : Int32).toInt = (0 : Int32).toInt := fun z => c_15 (Int32.toInt_inj.mp z)
      have y_0 : (0 : Int32).toInt = 0 := by decide
      omega
    obtain ⟨pf_16, pf_17⟩ := hm_12 hz_18
    have pf_16 : Ltr (Mf 1) (Mv 0) sv_4 := pf_16
    have ar_pf_16 := pf_16.1
    have at_pf_16 : 97 ≤ ((Mf 1) (sv_4 : Int32).toInt.toNat).toInt ∧ ((Mf 1) (sv_4 : Int32).toInt.toNat).toInt ≤ 122 := pf_16.2
    have pf_17 : PkW (rB (Mf 1) (Mv 0)) ((sv_4 : Int32).toInt.toNat) (1651470187 : Int64).toInt := pf_17
    refine lv_iconst (v := 1) hx hb dX12_isBookWord_40 (by decide) ?_
    refine lv_goto (tgt := 45) hx hb dX12_isBookWord_41 (by decide) ?_
    have hp_19 : ((1 : Int32).toInt = 0 ∨ (1 : Int32).toInt = 1) := by
      have z_1 : ¬ (r_9 : Int32).toInt = (0 : Int32).toInt := fun z => c_15 (Int32.toInt_inj.mp z)
      have y_0 : (0 : Int32).toInt = 0 := by decide
      have y_1 : (1 : Int32).toInt = 1 := by decide
      have yr : (1 : Int32).toInt = 1 := by decide
      omega
    have hm_20 : (1 : Int32).toInt = 1 → (BkN (rB (Mf 1) (Mv 0)) (Mv 2)) ∧ (LtH (rB (Mf 1) (Mv 0)) (Mv 2)) := by
      intro h1r
      have hw_21 : pz_wd (rB (Mf 1) (Mv 0)) (sv_4 : Int32).toInt.toNat pz_book = true := by
        have hq := pf_17
        rw [show (1651470187 : Int64).toInt = pz_pl pz_book by decide] at hq
        exact (PkW.wd (by decide) (by decide) (by decide)).mp hq
      have hq_22 : sv_4 = (Mv 2) := SkR.eq h_sk pf_8
      have hq_23 : (Mv 2) = (Mv 2) := rfl
      have hq_24 : sv_4 = (Mv 2) := hq_22.trans hq_23.symm
      have hk_25 : pz_wa (rB (Mf 1) (Mv 0)) (Mv 2).toInt.toNat pz_bws 0 = 0 := (bws_0 (hq_24 ▸ hw_21))
      have rg_26 := rB_rg (n := (Mv 0)) h_bs (sv_4 : Int32).toInt.toNat
      have hl_27 : 97 ≤ rB (Mf 1) (Mv 0) (sv_4 : Int32).toInt.toNat ∧ rB (Mf 1) (Mv 0) (sv_4 : Int32).toInt.toNat ≤ 122 := by
        have z_1 : ¬ (r_9 : Int32).toInt = (0 : Int32).toInt := fun z => c_15 (Int32.toInt_inj.mp z)
        have y_0 : (0 : Int32).toInt = 0 := by decide
        omega
      have hq_28 : sv_4 = (Mv 2) := SkR.eq h_sk pf_8
      have hr_29 : 0 ≤ (Mv 2).toInt := by
        have z_1 : ¬ (r_9 : Int32).toInt = (0 : Int32).toInt := fun z => c_15 (Int32.toInt_inj.mp z)
        have y_0 : (0 : Int32).toInt = 0 := by decide
        omega
      exact ⟨(fun z => absurd (hk_25.symm.trans z) (by decide)), ⟨hr_29, (hq_28 ▸ hl_27)⟩⟩
    exact retI (v := 1) hx hb hr hlk (rfl) hP hD hS sv_4 ⟨_, rfl, hp_19, pf_5, pf_8, hm_20, (fun h => absurd h (by decide))⟩ [0, 1] rfl rfl dX12_isBookWord_45 (Nat.le_of_ble_eq_true rfl) (Nat.le_of_ble_eq_true rfl) rfl
  · skip
    have hz_31 : (r_9 : Int32).toInt = 0 := by
      have z_1 := congrArg Int32.toInt c_15
      have y_0 : (0 : Int32).toInt = 0 := by decide
      omega
    obtain pf_30 := hm_13 hz_31
    have pf_30 : NPk (rB (Mf 1) (Mv 0)) ((sv_4 : Int32).toInt.toNat) (1651470187 : Int64).toInt := pf_30
    refine lv_aload_n hx hb dX12_isBookWord_10 rfl (lv_at hl 0 rfl) ?_
    refine lv_ldc2 hx hb hown (hts _ k_1225) dX12_isBookWord_11 ?_
    have ha_32 : 0 ≤ (sv_4 : Int32).toInt ∧ (sv_4 : Int32).toInt ≤ ((Mv 0) : Int32).toInt ∧ ((Mv 0) : Int32).toInt ≤ 400 := by
      have z_1 := congrArg Int32.toInt c_15
      have y_0 : (0 : Int32).toInt = 0 := by decide
      omega
    refine cV (a := (Ma 0)) (As := [.long 7564153]) (rest := []) (wr := []) ⟨hx, hb, hml, hown, hts⟩ hK hX hA (cu_fX12_isWord l D tc sk (Ma 0) (Ma 1) (Ma 2) (Ma 3) (Ma 4) (Ma 5) (Ma 6) (Ma 7) (Ma 8) (Ma 9) (Ma 10) (Ma 11) (Ma 12) (Ma 13) (Ma 14) (Ma 15) (Ma 16) (Ma 17) (Ma 18) (Ma 19) (Ma 20) (Mv 0) (Mv 1) sv_4 (Mv 3) (Mv 4) (Mv 5) (Mv 6) (Mv 7) (Mv 8) (Mv 9) (Mv 10) (Mv 11) (Mv 12) (Mv 13) (Mv 14) (Mf 1) (Mj 0) 7564153 ha_32 h_bs) k_1220 k_1217 k_1219 k_29 k_106 pl_X12_isWord ⟨Nat.le_of_ble_eq_true rfl, Nat.le_of_ble_eq_true rfl⟩ rfl rfl (va_recv hK hP (ci := 12) (q0 := 0) rfl rfl) hP hD hS [0, 1] [] rfl rfl rfl rfl rfl (by decide) rfl hl.1 rfl (Nat.le_of_ble_eq_true rfl) dX12_isBookWord_14 ⟨Nat.le_of_ble_eq_true rfl, Nat.le_of_ble_eq_true rfl⟩ (fun v_33 u_34 H locs hv_35 hP₀ hD₀ hS₀ => ?_)
    obtain ⟨sv_36, rfl⟩ : ∃ z, z = u_34 := ⟨_, rfl⟩
    obtain ⟨r_41, rfl, he_42, pf_37, pf_38, pf_39, pf_40, hm_44, hm_45⟩ := hv_35
    have he_42 : (r_41.toInt = 0 ∨ r_41.toInt = 1) := he_42
    have pf_37 : (sv_4 : Int32).toInt ≤ (sv_36 : Int32).toInt ∧ (sv_36 : Int32).toInt ≤ ((Mv 0) : Int32).toInt := pf_37
    have pf_38 : NSq (Mf 1) (Mv 0) sv_36 := pf_38
    have pf_39 : Stl (Mf 1) (Mv 0) sv_4 sv_36 := pf_39
    have ar_pf_39 := Stl.or pf_39 pf_6
    have pf_40 : SkR (rB (Mf 1) (Mv 0)) sv_4 sv_36 := pf_40
    refine W.eq (g2 := F0 m 17 ls [.int r_41]) rfl ?_
    replace hP : va_P D classes [((Ma 0), .inr (12, [.ref (Ma 1), .int (Mv 0), .int (Mv 1), .ref (Ma 2), .ref (Ma 3), .ref (Ma 4), .ref (Ma 5), .ref (Ma 6), .int sv_36, .int (Mv 3), .int (Mv 4), .int (Mv 5), .int (Mv 6), .int (Mv 7), .int (Mv 8), .ref (Ma 7), .int (Mv 9), .ref (Ma 8), .int (Mv 10), .ref (Ma 9), .ref (Ma 10), .int (Mv 11), .int (Mv 12), .int (Mv 13), .ref (Ma 11), .int (Mv 14), .ref (Ma 12), .ref (Ma 13), .ref (Ma 14), .ref (Ma 15), .ref (Ma 16), .long (Mj 0), .ref (Ma 17), .ref (Ma 18), .ref (Ma 19), .ref (Ma 20)])), ((Ma 1), .inl (tc 2, 400, .inl (Mf 1)))] H := hP₀
    replace hD : va_D A [((Ma 0), .inr (12, [.ref (Ma 1), .int (Mv 0), .int (Mv 1), .ref (Ma 2), .ref (Ma 3), .ref (Ma 4), .ref (Ma 5), .ref (Ma 6), .int sv_36, .int (Mv 3), .int (Mv 4), .int (Mv 5), .int (Mv 6), .int (Mv 7), .int (Mv 8), .ref (Ma 7), .int (Mv 9), .ref (Ma 8), .int (Mv 10), .ref (Ma 9), .ref (Ma 10), .int (Mv 11), .int (Mv 12), .int (Mv 13), .ref (Ma 11), .int (Mv 14), .ref (Ma 12), .ref (Ma 13), .ref (Ma 14), .ref (Ma 15), .ref (Ma 16), .long (Mj 0), .ref (Ma 17), .ref (Ma 18), .ref (Ma 19), .ref (Ma 20)])), ((Ma 1), .inl (tc 2, 400, .inl (Mf 1)))] := hD₀
    replace hS := hS₀
    clear hP₀ hD₀ hS₀
    have hE_46 := SkR.eqB pf_8 pf_40
    refine lv_if_ne (tgt := 40) hx hb dX12_isBookWord_17 (by decide) (fun c_47 => ?_) (fun c_47 => ?_)
    · skip
      have hz_50 : (r_41 : Int32).toInt = 1 := by
        have z_1 := congrArg Int32.toInt c_15
        have z_2 : ¬ (r_41 : Int32).toInt = (0 : Int32).toInt := fun z => c_47 (Int32.toInt_inj.mp z)
        have y_0 : (0 : Int32).toInt = 0 := by decide
        omega
      obtain ⟨pf_48, pf_49⟩ := hm_44 hz_50
      have pf_48 : Ltr (Mf 1) (Mv 0) sv_36 := pf_48
      have ar_pf_48 := pf_48.1
      have at_pf_48 : 97 ≤ ((Mf 1) (sv_36 : Int32).toInt.toNat).toInt ∧ ((Mf 1) (sv_36 : Int32).toInt.toNat).toInt ≤ 122 := pf_48.2
      have pf_49 : PkW (rB (Mf 1) (Mv 0)) ((sv_36 : Int32).toInt.toNat) (7564153 : Int64).toInt := pf_49
      refine lv_iconst (v := 1) hx hb dX12_isBookWord_40 (by decide) ?_
      refine lv_goto (tgt := 45) hx hb dX12_isBookWord_41 (by decide) ?_
      have ha_51 : ((Mv 2) : Int32).toInt ≤ (sv_36 : Int32).toInt ∧ (sv_36 : Int32).toInt ≤ ((Mv 0) : Int32).toInt := by
        have z_1 := congrArg Int32.toInt c_15
        have z_2 : ¬ (r_41 : Int32).toInt = (0 : Int32).toInt := fun z => c_47 (Int32.toInt_inj.mp z)
        have y_0 : (0 : Int32).toInt = 0 := by decide
        omega
      have hs_52 : SkR (rB (Mf 1) (Mv 0)) (Mv 2) sv_36 := (SkR.trans pf_8 pf_40)
      have hp_53 : ((1 : Int32).toInt = 0 ∨ (1 : Int32).toInt = 1) := by
        have z_1 := congrArg Int32.toInt c_15
        have z_2 : ¬ (r_41 : Int32).toInt = (0 : Int32).toInt := fun z => c_47 (Int32.toInt_inj.mp z)
        have y_0 : (0 : Int32).toInt = 0 := by decide
        have y_1 : (1 : Int32).toInt = 1 := by decide
        have yr : (1 : Int32).toInt = 1 := by decide
        omega
      have hm_54 : (1 : Int32).toInt = 1 → (BkN (rB (Mf 1) (Mv 0)) (Mv 2)) ∧ (LtH (rB (Mf 1) (Mv 0)) (Mv 2)) := by
        intro h1r
        have hw_55 : ¬ pz_wd (rB (Mf 1) (Mv 0)) (sv_4 : Int32).toInt.toNat pz_book = true := by
          have hq := pf_30
          rw [show (1651470187 : Int64).toInt = pz_pl pz_book by decide] at hq
          exact fun z => hq ((PkW.wd (by decide) (by decide) (by decide)).mpr z)
        have hq_56 : sv_4 = (Mv 2) := SkR.eq h_sk pf_8
        have hq_57 : (Mv 2) = (Mv 2) := rfl
        have hq_58 : sv_4 = (Mv 2) := hq_56.trans hq_57.symm
        have hw_59 : pz_wd (rB (Mf 1) (Mv 0)) (sv_36 : Int32).toInt.toNat pz_sky = true := by
          have hq := pf_49
          rw [show (7564153 : Int64).toInt = pz_pl pz_sky by decide] at hq
          exact (PkW.wd (by decide) (by decide) (by decide)).mp hq
        have hq_60 : sv_36 = (Mv 2) := SkR.eq h_sk hs_52
        have hq_61 : (Mv 2) = (Mv 2) := rfl
        have hq_62 : sv_36 = (Mv 2) := hq_60.trans hq_61.symm
        have hk_63 : pz_wa (rB (Mf 1) (Mv 0)) (Mv 2).toInt.toNat pz_bws 0 = 1 := (bws_1 (hq_58 ▸ hw_55) (hq_62 ▸ hw_59))
        have rg_64 := rB_rg (n := (Mv 0)) h_bs (sv_36 : Int32).toInt.toNat
        have hl_65 : 97 ≤ rB (Mf 1) (Mv 0) (sv_36 : Int32).toInt.toNat ∧ rB (Mf 1) (Mv 0) (sv_36 : Int32).toInt.toNat ≤ 122 := by
          have z_1 := congrArg Int32.toInt c_15
          have z_2 : ¬ (r_41 : Int32).toInt = (0 : Int32).toInt := fun z => c_47 (Int32.toInt_inj.mp z)
          have y_0 : (0 : Int32).toInt = 0 := by decide
          omega
        have hq_66 : sv_36 = (Mv 2) := SkR.eq h_sk hs_52
        have hr_67 : 0 ≤ (Mv 2).toInt := by
          have z_1 := congrArg Int32.toInt c_15
          have z_2 : ¬ (r_41 : Int32).toInt = (0 : Int32).toInt := fun z => c_47 (Int32.toInt_inj.mp z)
          have y_0 : (0 : Int32).toInt = 0 := by decide
          omega
        exact ⟨(fun z => absurd (hk_63.symm.trans z) (by decide)), ⟨hr_67, (hq_66 ▸ hl_65)⟩⟩
      exact retI (v := 1) hx hb hr hlk (rfl) hP hD hS sv_36 ⟨_, rfl, hp_53, ha_51, hs_52, hm_54, (fun h => absurd h (by decide))⟩ [0, 1] rfl rfl dX12_isBookWord_45 (Nat.le_of_ble_eq_true rfl) (Nat.le_of_ble_eq_true rfl) rfl
    · skip
      have hz_69 : (r_41 : Int32).toInt = 0 := by
        have z_1 := congrArg Int32.toInt c_15
        have z_2 := congrArg Int32.toInt c_47
        have y_0 : (0 : Int32).toInt = 0 := by decide
        omega
      obtain pf_68 := hm_45 hz_69
      have pf_68 : NPk (rB (Mf 1) (Mv 0)) ((sv_36 : Int32).toInt.toNat) (7564153 : Int64).toInt := pf_68
      refine lv_aload_n hx hb dX12_isBookWord_20 rfl (lv_at hl 0 rfl) ?_
      refine lv_ldc2 hx hb hown (hts _ k_1226) dX12_isBookWord_21 ?_
      have ha_70 : 0 ≤ (sv_36 : Int32).toInt ∧ (sv_36 : Int32).toInt ≤ ((Mv 0) : Int32).toInt ∧ ((Mv 0) : Int32).toInt ≤ 400 := by
        have z_1 := congrArg Int32.toInt c_15
        have z_2 := congrArg Int32.toInt c_47
        have y_0 : (0 : Int32).toInt = 0 := by decide
        omega
      refine cV (a := (Ma 0)) (As := [.long 422877685106]) (rest := []) (wr := []) ⟨hx, hb, hml, hown, hts⟩ hK hX hA (cu_fX12_isWord l D tc sk (Ma 0) (Ma 1) (Ma 2) (Ma 3) (Ma 4) (Ma 5) (Ma 6) (Ma 7) (Ma 8) (Ma 9) (Ma 10) (Ma 11) (Ma 12) (Ma 13) (Ma 14) (Ma 15) (Ma 16) (Ma 17) (Ma 18) (Ma 19) (Ma 20) (Mv 0) (Mv 1) sv_36 (Mv 3) (Mv 4) (Mv 5) (Mv 6) (Mv 7) (Mv 8) (Mv 9) (Mv 10) (Mv 11) (Mv 12) (Mv 13) (Mv 14) (Mf 1) (Mj 0) 422877685106 ha_70 h_bs) k_1220 k_1217 k_1219 k_29 k_106 pl_X12_isWord ⟨Nat.le_of_ble_eq_true rfl, Nat.le_of_ble_eq_true rfl⟩ rfl rfl (va_recv hK hP (ci := 12) (q0 := 0) rfl rfl) hP hD hS [0, 1] [] rfl rfl rfl rfl rfl (by decide) rfl hl.1 rfl (Nat.le_of_ble_eq_true rfl) dX12_isBookWord_24 ⟨Nat.le_of_ble_eq_true rfl, Nat.le_of_ble_eq_true rfl⟩ (fun v_71 u_72 H locs hv_73 hP₀ hD₀ hS₀ => ?_)
      obtain ⟨sv_74, rfl⟩ : ∃ z, z = u_72 := ⟨_, rfl⟩
      obtain ⟨r_79, rfl, he_80, pf_75, pf_76, pf_77, pf_78, hm_82, hm_83⟩ := hv_73
      have he_80 : (r_79.toInt = 0 ∨ r_79.toInt = 1) := he_80
      have pf_75 : (sv_36 : Int32).toInt ≤ (sv_74 : Int32).toInt ∧ (sv_74 : Int32).toInt ≤ ((Mv 0) : Int32).toInt := pf_75
      have pf_76 : NSq (Mf 1) (Mv 0) sv_74 := pf_76
      have pf_77 : Stl (Mf 1) (Mv 0) sv_36 sv_74 := pf_77
      have ar_pf_77 := Stl.or pf_77 pf_38
      have pf_78 : SkR (rB (Mf 1) (Mv 0)) sv_36 sv_74 := pf_78
      refine W.eq (g2 := F0 m 27 ls [.int r_79]) rfl ?_
      replace hP : va_P D classes [((Ma 0), .inr (12, [.ref (Ma 1), .int (Mv 0), .int (Mv 1), .ref (Ma 2), .ref (Ma 3), .ref (Ma 4), .ref (Ma 5), .ref (Ma 6), .int sv_74, .int (Mv 3), .int (Mv 4), .int (Mv 5), .int (Mv 6), .int (Mv 7), .int (Mv 8), .ref (Ma 7), .int (Mv 9), .ref (Ma 8), .int (Mv 10), .ref (Ma 9), .ref (Ma 10), .int (Mv 11), .int (Mv 12), .int (Mv 13), .ref (Ma 11), .int (Mv 14), .ref (Ma 12), .ref (Ma 13), .ref (Ma 14), .ref (Ma 15), .ref (Ma 16), .long (Mj 0), .ref (Ma 17), .ref (Ma 18), .ref (Ma 19), .ref (Ma 20)])), ((Ma 1), .inl (tc 2, 400, .inl (Mf 1)))] H := hP₀
      replace hD : va_D A [((Ma 0), .inr (12, [.ref (Ma 1), .int (Mv 0), .int (Mv 1), .ref (Ma 2), .ref (Ma 3), .ref (Ma 4), .ref (Ma 5), .ref (Ma 6), .int sv_74, .int (Mv 3), .int (Mv 4), .int (Mv 5), .int (Mv 6), .int (Mv 7), .int (Mv 8), .ref (Ma 7), .int (Mv 9), .ref (Ma 8), .int (Mv 10), .ref (Ma 9), .ref (Ma 10), .int (Mv 11), .int (Mv 12), .int (Mv 13), .ref (Ma 11), .int (Mv 14), .ref (Ma 12), .ref (Ma 13), .ref (Ma 14), .ref (Ma 15), .ref (Ma 16), .long (Mj 0), .ref (Ma 17), .ref (Ma 18), .ref (Ma 19), .ref (Ma 20)])), ((Ma 1), .inl (tc 2, 400, .inl (Mf 1)))] := hD₀
      replace hS := hS₀
      clear hP₀ hD₀ hS₀
      have hE_84 := SkR.eqB pf_40 pf_78
      refine lv_if_ne (tgt := 40) hx hb dX12_isBookWord_27 (by decide) (fun c_85 => ?_) (fun c_85 => ?_)
      · skip
        have hz_88 : (r_79 : Int32).toInt = 1 := by
          have z_1 := congrArg Int32.toInt c_15
          have z_2 := congrArg Int32.toInt c_47
          have z_3 : ¬ (r_79 : Int32).toInt = (0 : Int32).toInt := fun z => c_85 (Int32.toInt_inj.mp z)
          have y_0 : (0 : Int32).toInt = 0 := by decide
          omega
        obtain ⟨pf_86, pf_87⟩ := hm_82 hz_88
        have pf_86 : Ltr (Mf 1) (Mv 0) sv_74 := pf_86
        have ar_pf_86 := pf_86.1
        have at_pf_86 : 97 ≤ ((Mf 1) (sv_74 : Int32).toInt.toNat).toInt ∧ ((Mf 1) (sv_74 : Int32).toInt.toNat).toInt ≤ 122 := pf_86.2
        have pf_87 : PkW (rB (Mf 1) (Mv 0)) ((sv_74 : Int32).toInt.toNat) (422877685106 : Int64).toInt := pf_87
        refine lv_iconst (v := 1) hx hb dX12_isBookWord_40 (by decide) ?_
        refine lv_goto (tgt := 45) hx hb dX12_isBookWord_41 (by decide) ?_
        have ha_89 : ((Mv 2) : Int32).toInt ≤ (sv_74 : Int32).toInt ∧ (sv_74 : Int32).toInt ≤ ((Mv 0) : Int32).toInt := by
          have z_1 := congrArg Int32.toInt c_15
          have z_2 := congrArg Int32.toInt c_47
          have z_3 : ¬ (r_79 : Int32).toInt = (0 : Int32).toInt := fun z => c_85 (Int32.toInt_inj.mp z)
          have y_0 : (0 : Int32).toInt = 0 := by decide
          omega
        have hs_90 : SkR (rB (Mf 1) (Mv 0)) (Mv 2) sv_74 := (SkR.trans (SkR.trans pf_8 pf_40) pf_78)
        have hp_91 : ((1 : Int32).toInt = 0 ∨ (1 : Int32).toInt = 1) := by
          have z_1 := congrArg Int32.toInt c_15
          have z_2 := congrArg Int32.toInt c_47
          have z_3 : ¬ (r_79 : Int32).toInt = (0 : Int32).toInt := fun z => c_85 (Int32.toInt_inj.mp z)
          have y_0 : (0 : Int32).toInt = 0 := by decide
          have y_1 : (1 : Int32).toInt = 1 := by decide
          have yr : (1 : Int32).toInt = 1 := by decide
          omega
        have hm_92 : (1 : Int32).toInt = 1 → (BkN (rB (Mf 1) (Mv 0)) (Mv 2)) ∧ (LtH (rB (Mf 1) (Mv 0)) (Mv 2)) := by
          intro h1r
          have hw_93 : ¬ pz_wd (rB (Mf 1) (Mv 0)) (sv_4 : Int32).toInt.toNat pz_book = true := by
            have hq := pf_30
            rw [show (1651470187 : Int64).toInt = pz_pl pz_book by decide] at hq
            exact fun z => hq ((PkW.wd (by decide) (by decide) (by decide)).mpr z)
          have hq_94 : sv_4 = (Mv 2) := SkR.eq h_sk pf_8
          have hq_95 : (Mv 2) = (Mv 2) := rfl
          have hq_96 : sv_4 = (Mv 2) := hq_94.trans hq_95.symm
          have hw_97 : ¬ pz_wd (rB (Mf 1) (Mv 0)) (sv_36 : Int32).toInt.toNat pz_sky = true := by
            have hq := pf_68
            rw [show (7564153 : Int64).toInt = pz_pl pz_sky by decide] at hq
            exact fun z => hq ((PkW.wd (by decide) (by decide) (by decide)).mpr z)
          have hq_98 : sv_36 = (Mv 2) := SkR.eq h_sk (SkR.trans pf_8 pf_40)
          have hq_99 : (Mv 2) = (Mv 2) := rfl
          have hq_100 : sv_36 = (Mv 2) := hq_98.trans hq_99.symm
          have hw_101 : pz_wd (rB (Mf 1) (Mv 0)) (sv_74 : Int32).toInt.toNat pz_buyer = true := by
            have hq := pf_87
            rw [show (422877685106 : Int64).toInt = pz_pl pz_buyer by decide] at hq
            exact (PkW.wd (by decide) (by decide) (by decide)).mp hq
          have hq_102 : sv_74 = (Mv 2) := SkR.eq h_sk hs_90
          have hq_103 : (Mv 2) = (Mv 2) := rfl
          have hq_104 : sv_74 = (Mv 2) := hq_102.trans hq_103.symm
          have hk_105 : pz_wa (rB (Mf 1) (Mv 0)) (Mv 2).toInt.toNat pz_bws 0 = 2 := (bws_2 (hq_96 ▸ hw_93) (hq_100 ▸ hw_97) (hq_104 ▸ hw_101))
          have rg_106 := rB_rg (n := (Mv 0)) h_bs (sv_74 : Int32).toInt.toNat
          have hl_107 : 97 ≤ rB (Mf 1) (Mv 0) (sv_74 : Int32).toInt.toNat ∧ rB (Mf 1) (Mv 0) (sv_74 : Int32).toInt.toNat ≤ 122 := by
            have z_1 := congrArg Int32.toInt c_15
            have z_2 := congrArg Int32.toInt c_47
            have z_3 : ¬ (r_79 : Int32).toInt = (0 : Int32).toInt := fun z => c_85 (Int32.toInt_inj.mp z)
            have y_0 : (0 : Int32).toInt = 0 := by decide
            omega
          have hq_108 : sv_74 = (Mv 2) := SkR.eq h_sk hs_90
          have hr_109 : 0 ≤ (Mv 2).toInt := by
            have z_1 := congrArg Int32.toInt c_15
            have z_2 := congrArg Int32.toInt c_47
            have z_3 : ¬ (r_79 : Int32).toInt = (0 : Int32).toInt := fun z => c_85 (Int32.toInt_inj.mp z)
            have y_0 : (0 : Int32).toInt = 0 := by decide
            omega
          exact ⟨(fun z => absurd (hk_105.symm.trans z) (by decide)), ⟨hr_109, (hq_108 ▸ hl_107)⟩⟩
        exact retI (v := 1) hx hb hr hlk (rfl) hP hD hS sv_74 ⟨_, rfl, hp_91, ha_89, hs_90, hm_92, (fun h => absurd h (by decide))⟩ [0, 1] rfl rfl dX12_isBookWord_45 (Nat.le_of_ble_eq_true rfl) (Nat.le_of_ble_eq_true rfl) rfl
      · skip
        have hz_111 : (r_79 : Int32).toInt = 0 := by
          have z_1 := congrArg Int32.toInt c_15
          have z_2 := congrArg Int32.toInt c_47
          have z_3 := congrArg Int32.toInt c_85
          have y_0 : (0 : Int32).toInt = 0 := by decide
          omega
        obtain pf_110 := hm_83 hz_111
        have pf_110 : NPk (rB (Mf 1) (Mv 0)) ((sv_74 : Int32).toInt.toNat) (422877685106 : Int64).toInt := pf_110
        refine lv_aload_n hx hb dX12_isBookWord_30 rfl (lv_at hl 0 rfl) ?_
        refine lv_ldc2 hx hb hown (hts _ k_1227) dX12_isBookWord_31 ?_
        have ha_112 : 0 ≤ (sv_74 : Int32).toInt ∧ (sv_74 : Int32).toInt ≤ ((Mv 0) : Int32).toInt ∧ ((Mv 0) : Int32).toInt ≤ 400 := by
          have z_1 := congrArg Int32.toInt c_15
          have z_2 := congrArg Int32.toInt c_47
          have z_3 := congrArg Int32.toInt c_85
          have y_0 : (0 : Int32).toInt = 0 := by decide
          omega
        refine cV (a := (Ma 0)) (As := [.long 512736125800]) (rest := []) (wr := []) ⟨hx, hb, hml, hown, hts⟩ hK hX hA (cu_fX12_isWord l D tc sk (Ma 0) (Ma 1) (Ma 2) (Ma 3) (Ma 4) (Ma 5) (Ma 6) (Ma 7) (Ma 8) (Ma 9) (Ma 10) (Ma 11) (Ma 12) (Ma 13) (Ma 14) (Ma 15) (Ma 16) (Ma 17) (Ma 18) (Ma 19) (Ma 20) (Mv 0) (Mv 1) sv_74 (Mv 3) (Mv 4) (Mv 5) (Mv 6) (Mv 7) (Mv 8) (Mv 9) (Mv 10) (Mv 11) (Mv 12) (Mv 13) (Mv 14) (Mf 1) (Mj 0) 512736125800 ha_112 h_bs) k_1220 k_1217 k_1219 k_29 k_106 pl_X12_isWord ⟨Nat.le_of_ble_eq_true rfl, Nat.le_of_ble_eq_true rfl⟩ rfl rfl (va_recv hK hP (ci := 12) (q0 := 0) rfl rfl) hP hD hS [0, 1] [] rfl rfl rfl rfl rfl (by decide) rfl hl.1 rfl (Nat.le_of_ble_eq_true rfl) dX12_isBookWord_34 ⟨Nat.le_of_ble_eq_true rfl, Nat.le_of_ble_eq_true rfl⟩ (fun v_113 u_114 H locs hv_115 hP₀ hD₀ hS₀ => ?_)
        obtain ⟨sv_116, rfl⟩ : ∃ z, z = u_114 := ⟨_, rfl⟩
        obtain ⟨r_121, rfl, he_122, pf_117, pf_118, pf_119, pf_120, hm_124, hm_125⟩ := hv_115
        have he_122 : (r_121.toInt = 0 ∨ r_121.toInt = 1) := he_122
        have pf_117 : (sv_74 : Int32).toInt ≤ (sv_116 : Int32).toInt ∧ (sv_116 : Int32).toInt ≤ ((Mv 0) : Int32).toInt := pf_117
        have pf_118 : NSq (Mf 1) (Mv 0) sv_116 := pf_118
        have pf_119 : Stl (Mf 1) (Mv 0) sv_74 sv_116 := pf_119
        have ar_pf_119 := Stl.or pf_119 pf_76
        have pf_120 : SkR (rB (Mf 1) (Mv 0)) sv_74 sv_116 := pf_120
        refine W.eq (g2 := F0 m 37 ls [.int r_121]) rfl ?_
        replace hP : va_P D classes [((Ma 0), .inr (12, [.ref (Ma 1), .int (Mv 0), .int (Mv 1), .ref (Ma 2), .ref (Ma 3), .ref (Ma 4), .ref (Ma 5), .ref (Ma 6), .int sv_116, .int (Mv 3), .int (Mv 4), .int (Mv 5), .int (Mv 6), .int (Mv 7), .int (Mv 8), .ref (Ma 7), .int (Mv 9), .ref (Ma 8), .int (Mv 10), .ref (Ma 9), .ref (Ma 10), .int (Mv 11), .int (Mv 12), .int (Mv 13), .ref (Ma 11), .int (Mv 14), .ref (Ma 12), .ref (Ma 13), .ref (Ma 14), .ref (Ma 15), .ref (Ma 16), .long (Mj 0), .ref (Ma 17), .ref (Ma 18), .ref (Ma 19), .ref (Ma 20)])), ((Ma 1), .inl (tc 2, 400, .inl (Mf 1)))] H := hP₀
        replace hD : va_D A [((Ma 0), .inr (12, [.ref (Ma 1), .int (Mv 0), .int (Mv 1), .ref (Ma 2), .ref (Ma 3), .ref (Ma 4), .ref (Ma 5), .ref (Ma 6), .int sv_116, .int (Mv 3), .int (Mv 4), .int (Mv 5), .int (Mv 6), .int (Mv 7), .int (Mv 8), .ref (Ma 7), .int (Mv 9), .ref (Ma 8), .int (Mv 10), .ref (Ma 9), .ref (Ma 10), .int (Mv 11), .int (Mv 12), .int (Mv 13), .ref (Ma 11), .int (Mv 14), .ref (Ma 12), .ref (Ma 13), .ref (Ma 14), .ref (Ma 15), .ref (Ma 16), .long (Mj 0), .ref (Ma 17), .ref (Ma 18), .ref (Ma 19), .ref (Ma 20)])), ((Ma 1), .inl (tc 2, 400, .inl (Mf 1)))] := hD₀
        replace hS := hS₀
        clear hP₀ hD₀ hS₀
        have hE_126 := SkR.eqB pf_78 pf_120
        refine lv_if_eq (tgt := 44) hx hb dX12_isBookWord_37 (by decide) (fun c_127 => ?_) (fun c_127 => ?_)
        · skip
          have hz_129 : (r_121 : Int32).toInt = 0 := by
            have z_1 := congrArg Int32.toInt c_15
            have z_2 := congrArg Int32.toInt c_47
            have z_3 := congrArg Int32.toInt c_85
            have z_4 := congrArg Int32.toInt c_127
            have y_0 : (0 : Int32).toInt = 0 := by decide
            omega
          obtain pf_128 := hm_125 hz_129
          have pf_128 : NPk (rB (Mf 1) (Mv 0)) ((sv_116 : Int32).toInt.toNat) (512736125800 : Int64).toInt := pf_128
          refine lv_iconst (v := 0) hx hb dX12_isBookWord_44 (by decide) ?_
          have ha_130 : ((Mv 2) : Int32).toInt ≤ (sv_116 : Int32).toInt ∧ (sv_116 : Int32).toInt ≤ ((Mv 0) : Int32).toInt := by
            have z_1 := congrArg Int32.toInt c_15
            have z_2 := congrArg Int32.toInt c_47
            have z_3 := congrArg Int32.toInt c_85
            have z_4 := congrArg Int32.toInt c_127
            have y_0 : (0 : Int32).toInt = 0 := by decide
            omega
          have hs_131 : SkR (rB (Mf 1) (Mv 0)) (Mv 2) sv_116 := (SkR.trans (SkR.trans (SkR.trans pf_8 pf_40) pf_78) pf_120)
          have hp_132 : ((0 : Int32).toInt = 0 ∨ (0 : Int32).toInt = 1) := by
            have z_1 := congrArg Int32.toInt c_15
            have z_2 := congrArg Int32.toInt c_47
            have z_3 := congrArg Int32.toInt c_85
            have z_4 := congrArg Int32.toInt c_127
            have y_0 : (0 : Int32).toInt = 0 := by decide
            omega
          have hm_133 : (0 : Int32).toInt = 0 → (BkW (rB (Mf 1) (Mv 0)) (Mv 2) (-1)) := by
            intro h1r
            have hw_134 : ¬ pz_wd (rB (Mf 1) (Mv 0)) (sv_4 : Int32).toInt.toNat pz_book = true := by
              have hq := pf_30
              rw [show (1651470187 : Int64).toInt = pz_pl pz_book by decide] at hq
              exact fun z => hq ((PkW.wd (by decide) (by decide) (by decide)).mpr z)
            have hq_135 : sv_4 = (Mv 2) := SkR.eq h_sk pf_8
            have hq_136 : (Mv 2) = (Mv 2) := rfl
            have hq_137 : sv_4 = (Mv 2) := hq_135.trans hq_136.symm
            have hw_138 : ¬ pz_wd (rB (Mf 1) (Mv 0)) (sv_36 : Int32).toInt.toNat pz_sky = true := by
              have hq := pf_68
              rw [show (7564153 : Int64).toInt = pz_pl pz_sky by decide] at hq
              exact fun z => hq ((PkW.wd (by decide) (by decide) (by decide)).mpr z)
            have hq_139 : sv_36 = (Mv 2) := SkR.eq h_sk (SkR.trans pf_8 pf_40)
            have hq_140 : (Mv 2) = (Mv 2) := rfl
            have hq_141 : sv_36 = (Mv 2) := hq_139.trans hq_140.symm
            have hw_142 : ¬ pz_wd (rB (Mf 1) (Mv 0)) (sv_74 : Int32).toInt.toNat pz_buyer = true := by
              have hq := pf_110
              rw [show (422877685106 : Int64).toInt = pz_pl pz_buyer by decide] at hq
              exact fun z => hq ((PkW.wd (by decide) (by decide) (by decide)).mpr z)
            have hq_143 : sv_74 = (Mv 2) := SkR.eq h_sk (SkR.trans (SkR.trans pf_8 pf_40) pf_78)
            have hq_144 : (Mv 2) = (Mv 2) := rfl
            have hq_145 : sv_74 = (Mv 2) := hq_143.trans hq_144.symm
            have hw_146 : ¬ pz_wd (rB (Mf 1) (Mv 0)) (sv_116 : Int32).toInt.toNat pz_watch = true := by
              have hq := pf_128
              rw [show (512736125800 : Int64).toInt = pz_pl pz_watch by decide] at hq
              exact fun z => hq ((PkW.wd (by decide) (by decide) (by decide)).mpr z)
            have hq_147 : sv_116 = (Mv 2) := SkR.eq h_sk hs_131
            have hq_148 : (Mv 2) = (Mv 2) := rfl
            have hq_149 : sv_116 = (Mv 2) := hq_147.trans hq_148.symm
            have hk_150 : pz_wa (rB (Mf 1) (Mv 0)) (Mv 2).toInt.toNat pz_bws 0 = -1 := ((bws_n (hq_137 ▸ hw_134) (hq_141 ▸ hw_138) (hq_145 ▸ hw_142)).2 (hq_149 ▸ hw_146))
            exact hk_150
          exact retI (v := 0) hx hb hr hlk (rfl) hP hD hS sv_116 ⟨_, rfl, hp_132, ha_130, hs_131, (fun h => absurd h (by decide)), hm_133⟩ [0, 1] rfl rfl dX12_isBookWord_45 (Nat.le_of_ble_eq_true rfl) (Nat.le_of_ble_eq_true rfl) rfl
        · skip
          have hz_153 : (r_121 : Int32).toInt = 1 := by
            have z_1 := congrArg Int32.toInt c_15
            have z_2 := congrArg Int32.toInt c_47
            have z_3 := congrArg Int32.toInt c_85
            have z_4 : ¬ (r_121 : Int32).toInt = (0 : Int32).toInt := fun z => c_127 (Int32.toInt_inj.mp z)
            have y_0 : (0 : Int32).toInt = 0 := by decide
            omega
          obtain ⟨pf_151, pf_152⟩ := hm_124 hz_153
          have pf_151 : Ltr (Mf 1) (Mv 0) sv_116 := pf_151
          have ar_pf_151 := pf_151.1
          have at_pf_151 : 97 ≤ ((Mf 1) (sv_116 : Int32).toInt.toNat).toInt ∧ ((Mf 1) (sv_116 : Int32).toInt.toNat).toInt ≤ 122 := pf_151.2
          have pf_152 : PkW (rB (Mf 1) (Mv 0)) ((sv_116 : Int32).toInt.toNat) (512736125800 : Int64).toInt := pf_152
          refine lv_iconst (v := 1) hx hb dX12_isBookWord_40 (by decide) ?_
          refine lv_goto (tgt := 45) hx hb dX12_isBookWord_41 (by decide) ?_
          have ha_154 : ((Mv 2) : Int32).toInt ≤ (sv_116 : Int32).toInt ∧ (sv_116 : Int32).toInt ≤ ((Mv 0) : Int32).toInt := by
            have z_1 := congrArg Int32.toInt c_15
            have z_2 := congrArg Int32.toInt c_47
            have z_3 := congrArg Int32.toInt c_85
            have z_4 : ¬ (r_121 : Int32).toInt = (0 : Int32).toInt := fun z => c_127 (Int32.toInt_inj.mp z)
            have y_0 : (0 : Int32).toInt = 0 := by decide
            omega
          have hs_155 : SkR (rB (Mf 1) (Mv 0)) (Mv 2) sv_116 := (SkR.trans (SkR.trans (SkR.trans pf_8 pf_40) pf_78) pf_120)
          have hp_156 : ((1 : Int32).toInt = 0 ∨ (1 : Int32).toInt = 1) := by
            have z_1 := congrArg Int32.toInt c_15
            have z_2 := congrArg Int32.toInt c_47
            have z_3 := congrArg Int32.toInt c_85
            have z_4 : ¬ (r_121 : Int32).toInt = (0 : Int32).toInt := fun z => c_127 (Int32.toInt_inj.mp z)
            have y_0 : (0 : Int32).toInt = 0 := by decide
            have y_1 : (1 : Int32).toInt = 1 := by decide
            have yr : (1 : Int32).toInt = 1 := by decide
            omega
          have hm_157 : (1 : Int32).toInt = 1 → (BkN (rB (Mf 1) (Mv 0)) (Mv 2)) ∧ (LtH (rB (Mf 1) (Mv 0)) (Mv 2)) := by
            intro h1r
            have hw_158 : ¬ pz_wd (rB (Mf 1) (Mv 0)) (sv_4 : Int32).toInt.toNat pz_book = true := by
              have hq := pf_30
              rw [show (1651470187 : Int64).toInt = pz_pl pz_book by decide] at hq
              exact fun z => hq ((PkW.wd (by decide) (by decide) (by decide)).mpr z)
            have hq_159 : sv_4 = (Mv 2) := SkR.eq h_sk pf_8
            have hq_160 : (Mv 2) = (Mv 2) := rfl
            have hq_161 : sv_4 = (Mv 2) := hq_159.trans hq_160.symm
            have hw_162 : ¬ pz_wd (rB (Mf 1) (Mv 0)) (sv_36 : Int32).toInt.toNat pz_sky = true := by
              have hq := pf_68
              rw [show (7564153 : Int64).toInt = pz_pl pz_sky by decide] at hq
              exact fun z => hq ((PkW.wd (by decide) (by decide) (by decide)).mpr z)
            have hq_163 : sv_36 = (Mv 2) := SkR.eq h_sk (SkR.trans pf_8 pf_40)
            have hq_164 : (Mv 2) = (Mv 2) := rfl
            have hq_165 : sv_36 = (Mv 2) := hq_163.trans hq_164.symm
            have hw_166 : ¬ pz_wd (rB (Mf 1) (Mv 0)) (sv_74 : Int32).toInt.toNat pz_buyer = true := by
              have hq := pf_110
              rw [show (422877685106 : Int64).toInt = pz_pl pz_buyer by decide] at hq
              exact fun z => hq ((PkW.wd (by decide) (by decide) (by decide)).mpr z)
            have hq_167 : sv_74 = (Mv 2) := SkR.eq h_sk (SkR.trans (SkR.trans pf_8 pf_40) pf_78)
            have hq_168 : (Mv 2) = (Mv 2) := rfl
            have hq_169 : sv_74 = (Mv 2) := hq_167.trans hq_168.symm
            have hw_170 : pz_wd (rB (Mf 1) (Mv 0)) (sv_116 : Int32).toInt.toNat pz_watch = true := by
              have hq := pf_152
              rw [show (512736125800 : Int64).toInt = pz_pl pz_watch by decide] at hq
              exact (PkW.wd (by decide) (by decide) (by decide)).mp hq
            have hq_171 : sv_116 = (Mv 2) := SkR.eq h_sk hs_155
            have hq_172 : (Mv 2) = (Mv 2) := rfl
            have hq_173 : sv_116 = (Mv 2) := hq_171.trans hq_172.symm
            have hk_174 : pz_wa (rB (Mf 1) (Mv 0)) (Mv 2).toInt.toNat pz_bws 0 = 3 := ((bws_n (hq_161 ▸ hw_158) (hq_165 ▸ hw_162) (hq_169 ▸ hw_166)).1 (hq_173 ▸ hw_170))
            have rg_175 := rB_rg (n := (Mv 0)) h_bs (sv_116 : Int32).toInt.toNat
            have hl_176 : 97 ≤ rB (Mf 1) (Mv 0) (sv_116 : Int32).toInt.toNat ∧ rB (Mf 1) (Mv 0) (sv_116 : Int32).toInt.toNat ≤ 122 := by
              have z_1 := congrArg Int32.toInt c_15
              have z_2 := congrArg Int32.toInt c_47
              have z_3 := congrArg Int32.toInt c_85
              have z_4 : ¬ (r_121 : Int32).toInt = (0 : Int32).toInt := fun z => c_127 (Int32.toInt_inj.mp z)
              have y_0 : (0 : Int32).toInt = 0 := by decide
              omega
            have hq_177 : sv_116 = (Mv 2) := SkR.eq h_sk hs_155
            have hr_178 : 0 ≤ (Mv 2).toInt := by
              have z_1 := congrArg Int32.toInt c_15
              have z_2 := congrArg Int32.toInt c_47
              have z_3 := congrArg Int32.toInt c_85
              have z_4 : ¬ (r_121 : Int32).toInt = (0 : Int32).toInt := fun z => c_127 (Int32.toInt_inj.mp z)
              have y_0 : (0 : Int32).toInt = 0 := by decide
              omega
            exact ⟨(fun z => absurd (hk_174.symm.trans z) (by decide)), ⟨hr_178, (hq_177 ▸ hl_176)⟩⟩
          exact retI (v := 1) hx hb hr hlk (rfl) hP hD hS sv_116 ⟨_, rfl, hp_156, ha_154, hs_155, hm_157, (fun h => absurd h (by decide))⟩ [0, 1] rfl rfl dX12_isBookWord_45 (Nat.le_of_ble_eq_true rfl) (Nat.le_of_ble_eq_true rfl) rfl
set_option maxRecDepth 100000 in
theorem cu_fX12_isBookWord (l : Launch) (D : va_G) (tc : Nat → ClassId) (sk : (Nat → Nat) × (Nat → Nat)) (Ma_0 : Nat) (Ma_1 : Nat) (Ma_2 : Nat) (Ma_3 : Nat) (Ma_4 : Nat) (Ma_5 : Nat) (Ma_6 : Nat) (Ma_7 : Nat) (Ma_8 : Nat) (Ma_9 : Nat) (Ma_10 : Nat) (Ma_11 : Nat) (Ma_12 : Nat) (Ma_13 : Nat) (Ma_14 : Nat) (Ma_15 : Nat) (Ma_16 : Nat) (Ma_17 : Nat) (Ma_18 : Nat) (Ma_19 : Nat) (Ma_20 : Nat) (Mv_0 : Int32) (Mv_1 : Int32) (Mv_2 : Int32) (Mv_3 : Int32) (Mv_4 : Int32) (Mv_5 : Int32) (Mv_6 : Int32) (Mv_7 : Int32) (Mv_8 : Int32) (Mv_9 : Int32) (Mv_10 : Int32) (Mv_11 : Int32) (Mv_12 : Int32) (Mv_13 : Int32) (Mv_14 : Int32) (Mf_1 : Nat → Int32) (Mj_0 : Int64) (h_nx : 0 ≤ (Mv_2 : Int32).toInt ∧ (Mv_2 : Int32).toInt ≤ (Mv_0 : Int32).toInt ∧ (Mv_0 : Int32).toInt ≤ 400) (h_bs : ByS Mf_1) (h_sk : SkR (rB Mf_1 Mv_0) Mv_2 Mv_2) : Ct l yX12_isBookWord cX12_isBookWord 1 (some .boolean) { frames := 2, cells := 0, slots := 0, locals := 46 } D tc sk [.ref Ma_0] [(Ma_0, .inr (12, [.ref Ma_1, .int Mv_0, .int Mv_1, .ref Ma_2, .ref Ma_3, .ref Ma_4, .ref Ma_5, .ref Ma_6, .int Mv_2, .int Mv_3, .int Mv_4, .int Mv_5, .int Mv_6, .int Mv_7, .int Mv_8, .ref Ma_7, .int Mv_9, .ref Ma_8, .int Mv_10, .ref Ma_9, .ref Ma_10, .int Mv_11, .int Mv_12, .int Mv_13, .ref Ma_11, .int Mv_14, .ref Ma_12, .ref Ma_13, .ref Ma_14, .ref Ma_15, .ref Ma_16, .long Mj_0, .ref Ma_17, .ref Ma_18, .ref Ma_19, .ref Ma_20])), (Ma_1, .inl (tc 2, 400, .inl Mf_1))] (fun (v : Option Value) (oo0x1 : Int32) => ∃ r : Int32, v = some (.int r) ∧ ((r.toInt = 0 ∨ r.toInt = 1)) ∧ ((Mv_2 : Int32).toInt ≤ (oo0x1 : Int32).toInt ∧ (oo0x1 : Int32).toInt ≤ (Mv_0 : Int32).toInt) ∧ (SkR (rB Mf_1 Mv_0) Mv_2 oo0x1) ∧ (r.toInt = 1 → (BkN (rB Mf_1 Mv_0) Mv_2) ∧ (LtH (rB Mf_1 Mv_0) Mv_2)) ∧ (r.toInt = 0 → (BkW (rB Mf_1 Mv_0) Mv_2 (-1)))) (fun (oo0x1 : Int32) => [(Ma_0, .inr (12, [.ref Ma_1, .int Mv_0, .int Mv_1, .ref Ma_2, .ref Ma_3, .ref Ma_4, .ref Ma_5, .ref Ma_6, .int oo0x1, .int Mv_3, .int Mv_4, .int Mv_5, .int Mv_6, .int Mv_7, .int Mv_8, .ref Ma_7, .int Mv_9, .ref Ma_8, .int Mv_10, .ref Ma_9, .ref Ma_10, .int Mv_11, .int Mv_12, .int Mv_13, .ref Ma_11, .int Mv_14, .ref Ma_12, .ref Ma_13, .ref Ma_14, .ref Ma_15, .ref Ma_16, .long Mj_0, .ref Ma_17, .ref Ma_18, .ref Ma_19, .ref Ma_20])), (Ma_1, .inl (tc 2, 400, .inl Mf_1))]) 0 0 :=
  ct_fX12_isBookWord l D tc sk (fun k => ([Ma_0, Ma_1, Ma_2, Ma_3, Ma_4, Ma_5, Ma_6, Ma_7, Ma_8, Ma_9, Ma_10, Ma_11, Ma_12, Ma_13, Ma_14, Ma_15, Ma_16, Ma_17, Ma_18, Ma_19, Ma_20] : List (Nat)).getD k 0) (fun k => ([Mv_0, Mv_1, Mv_2, Mv_3, Mv_4, Mv_5, Mv_6, Mv_7, Mv_8, Mv_9, Mv_10, Mv_11, Mv_12, Mv_13, Mv_14] : List (Int32)).getD k 0) (fun k => ([(fun _ => 0), Mf_1] : List (Nat → Int32)).getD k (fun _ => 0)) (fun k => ([Mj_0] : List (Int64)).getD k 0) h_nx h_bs h_sk
