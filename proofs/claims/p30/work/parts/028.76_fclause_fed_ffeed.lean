set_option maxRecDepth 16384
set_option maxHeartbeats 4000000 in
set_option maxRecDepth 100000 in
theorem ct_fX12_takesWord (l : Launch) (D : va_G) (tc : Nat → ClassId) (sk : (Nat → Nat) × (Nat → Nat)) (Ma : Nat → Nat) (Mv : Nat → Int32) (Mf : Nat → Nat → Int32) (Mj : Nat → Int64) (w1 : Int64) (h_nx : 0 ≤ ((Mv 2) : Int32).toInt ∧ ((Mv 2) : Int32).toInt ≤ ((Mv 0) : Int32).toInt ∧ ((Mv 0) : Int32).toInt ≤ 400) (h_bs : ByS (Mf 1)) : Ct l yX12_takesWord cX12_takesWord 3 (some .boolean) { frames := 2, cells := 0, slots := 0, locals := 46 } D tc sk [.ref (Ma 0), .long w1] [((Ma 0), .inr (12, [.ref (Ma 1), .int (Mv 0), .int (Mv 1), .ref (Ma 2), .ref (Ma 3), .ref (Ma 4), .ref (Ma 5), .ref (Ma 6), .int (Mv 2), .int (Mv 3), .int (Mv 4), .int (Mv 5), .int (Mv 6), .int (Mv 7), .int (Mv 8), .ref (Ma 7), .int (Mv 9), .ref (Ma 8), .int (Mv 10), .ref (Ma 9), .ref (Ma 10), .int (Mv 11), .int (Mv 12), .int (Mv 13), .ref (Ma 11), .int (Mv 14), .ref (Ma 12), .ref (Ma 13), .ref (Ma 14), .ref (Ma 15), .ref (Ma 16), .long (Mj 0), .ref (Ma 17), .ref (Ma 18), .ref (Ma 19), .ref (Ma 20)])), ((Ma 1), .inl (tc 2, 400, .inl (Mf 1)))] (fun (v : Option Value) (oo0x1 : Int32) => ∃ r : Int32, v = some (.int r) ∧ ((r.toInt = 0 ∨ r.toInt = 1)) ∧ (((Mv 2) : Int32).toInt ≤ (oo0x1 : Int32).toInt ∧ (oo0x1 : Int32).toInt ≤ ((Mv 0) : Int32).toInt) ∧ (r.toInt = 1 → (TkW (rB (Mf 1) (Mv 0)) w1.toInt (Mv 2) oo0x1)) ∧ (r.toInt = 0 → (NtW (rB (Mf 1) (Mv 0)) w1.toInt (Mv 2) oo0x1))) (fun (oo0x1 : Int32) => [((Ma 0), .inr (12, [.ref (Ma 1), .int (Mv 0), .int (Mv 1), .ref (Ma 2), .ref (Ma 3), .ref (Ma 4), .ref (Ma 5), .ref (Ma 6), .int oo0x1, .int (Mv 3), .int (Mv 4), .int (Mv 5), .int (Mv 6), .int (Mv 7), .int (Mv 8), .ref (Ma 7), .int (Mv 9), .ref (Ma 8), .int (Mv 10), .ref (Ma 9), .ref (Ma 10), .int (Mv 11), .int (Mv 12), .int (Mv 13), .ref (Ma 11), .int (Mv 14), .ref (Ma 12), .ref (Ma 13), .ref (Ma 14), .ref (Ma 15), .ref (Ma 16), .long (Mj 0), .ref (Ma 17), .ref (Ma 18), .ref (Ma 19), .ref (Ma 20)])), ((Ma 1), .inl (tc 2, 400, .inl (Mf 1)))]) 0 0 := by
  refine Ct.start (by decide) (Nat.le_of_ble_eq_true rfl) (fun p e s m below meth c A ls hx hb hr hlk hin hml hown hts hK hX hP hD hA hl hS => ?_)
  have hl : lv_has ls 3 [(0, .ref (Ma 0)), (1, .long w1)] := hl
  refine lv_aload_n hx hb dX12_takesWord_0 rfl (lv_at hl 0 rfl) ?_
  refine lv_lload_n hx hb dX12_takesWord_1 rfl (lv_at hl 1 rfl) ?_
  refine cV (a := (Ma 0)) (As := [.long w1]) (rest := []) (wr := []) ⟨hx, hb, hml, hown, hts⟩ hK hX hA (cu_fX12_isWord l D tc sk (Ma 0) (Ma 1) (Ma 2) (Ma 3) (Ma 4) (Ma 5) (Ma 6) (Ma 7) (Ma 8) (Ma 9) (Ma 10) (Ma 11) (Ma 12) (Ma 13) (Ma 14) (Ma 15) (Ma 16) (Ma 17) (Ma 18) (Ma 19) (Ma 20) (Mv 0) (Mv 1) (Mv 2) (Mv 3) (Mv 4) (Mv 5) (Mv 6) (Mv 7) (Mv 8) (Mv 9) (Mv 10) (Mv 11) (Mv 12) (Mv 13) (Mv 14) (Mf 1) (Mj 0) w1 h_nx h_bs) k_1220 k_1217 k_1219 k_29 k_106 pl_X12_isWord ⟨Nat.le_of_ble_eq_true rfl, Nat.le_of_ble_eq_true rfl⟩ rfl rfl (va_recv hK hP (ci := 12) (q0 := 0) rfl rfl) hP hD hS [0, 1] [] rfl rfl rfl rfl rfl (by decide) rfl hl.1 rfl (Nat.le_of_ble_eq_true rfl) dX12_takesWord_2 ⟨Nat.le_of_ble_eq_true rfl, Nat.le_of_ble_eq_true rfl⟩ (fun v_1 u_2 H locs hv_3 hP₀ hD₀ hS₀ => ?_)
  obtain ⟨sv_4, rfl⟩ : ∃ z, z = u_2 := ⟨_, rfl⟩
  obtain ⟨r_9, rfl, he_10, pf_5, pf_6, pf_7, pf_8, hm_12, hm_13⟩ := hv_3
  have he_10 : (r_9.toInt = 0 ∨ r_9.toInt = 1) := he_10
  have pf_5 : ((Mv 2) : Int32).toInt ≤ (sv_4 : Int32).toInt ∧ (sv_4 : Int32).toInt ≤ ((Mv 0) : Int32).toInt := pf_5
  have pf_6 : NSq (Mf 1) (Mv 0) sv_4 := pf_6
  have pf_7 : Stl (Mf 1) (Mv 0) (Mv 2) sv_4 := pf_7
  have pf_8 : SkR (rB (Mf 1) (Mv 0)) (Mv 2) sv_4 := pf_8
  refine W.eq (g2 := F0 m 5 ls [.int r_9]) rfl ?_
  replace hP : va_P D classes [((Ma 0), .inr (12, [.ref (Ma 1), .int (Mv 0), .int (Mv 1), .ref (Ma 2), .ref (Ma 3), .ref (Ma 4), .ref (Ma 5), .ref (Ma 6), .int sv_4, .int (Mv 3), .int (Mv 4), .int (Mv 5), .int (Mv 6), .int (Mv 7), .int (Mv 8), .ref (Ma 7), .int (Mv 9), .ref (Ma 8), .int (Mv 10), .ref (Ma 9), .ref (Ma 10), .int (Mv 11), .int (Mv 12), .int (Mv 13), .ref (Ma 11), .int (Mv 14), .ref (Ma 12), .ref (Ma 13), .ref (Ma 14), .ref (Ma 15), .ref (Ma 16), .long (Mj 0), .ref (Ma 17), .ref (Ma 18), .ref (Ma 19), .ref (Ma 20)])), ((Ma 1), .inl (tc 2, 400, .inl (Mf 1)))] H := hP₀
  replace hD : va_D A [((Ma 0), .inr (12, [.ref (Ma 1), .int (Mv 0), .int (Mv 1), .ref (Ma 2), .ref (Ma 3), .ref (Ma 4), .ref (Ma 5), .ref (Ma 6), .int sv_4, .int (Mv 3), .int (Mv 4), .int (Mv 5), .int (Mv 6), .int (Mv 7), .int (Mv 8), .ref (Ma 7), .int (Mv 9), .ref (Ma 8), .int (Mv 10), .ref (Ma 9), .ref (Ma 10), .int (Mv 11), .int (Mv 12), .int (Mv 13), .ref (Ma 11), .int (Mv 14), .ref (Ma 12), .ref (Ma 13), .ref (Ma 14), .ref (Ma 15), .ref (Ma 16), .long (Mj 0), .ref (Ma 17), .ref (Ma 18), .ref (Ma 19), .ref (Ma 20)])), ((Ma 1), .inl (tc 2, 400, .inl (Mf 1)))] := hD₀
  replace hS := hS₀
  clear hP₀ hD₀ hS₀
  refine lv_if_ne (tgt := 10) hx hb dX12_takesWord_5 (by decide) (fun c_14 => ?_) (fun c_14 => ?_)
  · skip
    have hz_17 : (r_9 : Int32).toInt = 1 := by
      have z_1 : ¬ (r_9 : Int32).toInt = (0 : Int32).toInt := fun z => c_14 (Int32.toInt_inj.mp z)
      have y_0 : (0 : Int32).toInt = 0 := by decide
      omega
    obtain ⟨pf_15, pf_16⟩ := hm_12 hz_17
    have pf_15 : Ltr (Mf 1) (Mv 0) sv_4 := pf_15
    have ar_pf_15 := pf_15.1
    have at_pf_15 : 97 ≤ ((Mf 1) (sv_4 : Int32).toInt.toNat).toInt ∧ ((Mf 1) (sv_4 : Int32).toInt.toNat).toInt ≤ 122 := pf_15.2
    have pf_16 : PkW (rB (Mf 1) (Mv 0)) ((sv_4 : Int32).toInt.toNat) w1.toInt := pf_16
    refine lv_aload_n hx hb dX12_takesWord_10 rfl (lv_at hl 0 rfl) ?_
    have ha_18 : 0 ≤ (sv_4 : Int32).toInt ∧ (sv_4 : Int32).toInt ≤ ((Mv 0) : Int32).toInt ∧ ((Mv 0) : Int32).toInt ≤ 400 := by
      have z_1 : ¬ (r_9 : Int32).toInt = (0 : Int32).toInt := fun z => c_14 (Int32.toInt_inj.mp z)
      have y_0 : (0 : Int32).toInt = 0 := by decide
      omega
    refine cV (a := (Ma 0)) (As := []) (rest := []) (wr := []) ⟨hx, hb, hml, hown, hts⟩ hK hX hA (cu_fX12_passWord l D tc sk (Ma 0) (Ma 1) (Ma 2) (Ma 3) (Ma 4) (Ma 5) (Ma 6) (Ma 7) (Ma 8) (Ma 9) (Ma 10) (Ma 11) (Ma 12) (Ma 13) (Ma 14) (Ma 15) (Ma 16) (Ma 17) (Ma 18) (Ma 19) (Ma 20) (Mv 0) (Mv 1) sv_4 (Mv 3) (Mv 4) (Mv 5) (Mv 6) (Mv 7) (Mv 8) (Mv 9) (Mv 10) (Mv 11) (Mv 12) (Mv 13) (Mv 14) (Mf 1) (Mj 0) ha_18 h_bs) k_1244 k_1241 k_1243 k_34 k_106 pl_X12_passWord ⟨Nat.le_of_ble_eq_true rfl, Nat.le_of_ble_eq_true rfl⟩ rfl rfl (va_recv hK hP (ci := 12) (q0 := 0) rfl rfl) hP hD hS [0, 1] [] rfl rfl rfl rfl rfl (by decide) rfl hl.1 rfl (Nat.le_of_ble_eq_true rfl) dX12_takesWord_11 ⟨Nat.le_of_ble_eq_true rfl, Nat.le_of_ble_eq_true rfl⟩ (fun v_19 u_20 H locs hv_21 hP₀ hD₀ hS₀ => ?_)
    obtain ⟨sv_22, rfl⟩ : ∃ z, z = u_20 := ⟨_, rfl⟩
    obtain ⟨rfl, pf_23, pf_24, pf_25⟩ := hv_21
    have pf_23 : (sv_4 : Int32).toInt ≤ (sv_22 : Int32).toInt ∧ (sv_22 : Int32).toInt ≤ ((Mv 0) : Int32).toInt := pf_23
    have pf_24 : Pw (Mf 1) (Mv 0) sv_4 sv_22 := pf_24
    have ar_pf_24 := pf_24 pf_15
    have pf_25 : PsR (rB (Mf 1) (Mv 0)) sv_4 sv_22 := pf_25
    refine W.eq (g2 := F0 m 14 ls []) rfl ?_
    replace hP : va_P D classes [((Ma 0), .inr (12, [.ref (Ma 1), .int (Mv 0), .int (Mv 1), .ref (Ma 2), .ref (Ma 3), .ref (Ma 4), .ref (Ma 5), .ref (Ma 6), .int sv_22, .int (Mv 3), .int (Mv 4), .int (Mv 5), .int (Mv 6), .int (Mv 7), .int (Mv 8), .ref (Ma 7), .int (Mv 9), .ref (Ma 8), .int (Mv 10), .ref (Ma 9), .ref (Ma 10), .int (Mv 11), .int (Mv 12), .int (Mv 13), .ref (Ma 11), .int (Mv 14), .ref (Ma 12), .ref (Ma 13), .ref (Ma 14), .ref (Ma 15), .ref (Ma 16), .long (Mj 0), .ref (Ma 17), .ref (Ma 18), .ref (Ma 19), .ref (Ma 20)])), ((Ma 1), .inl (tc 2, 400, .inl (Mf 1)))] H := hP₀
    replace hD : va_D A [((Ma 0), .inr (12, [.ref (Ma 1), .int (Mv 0), .int (Mv 1), .ref (Ma 2), .ref (Ma 3), .ref (Ma 4), .ref (Ma 5), .ref (Ma 6), .int sv_22, .int (Mv 3), .int (Mv 4), .int (Mv 5), .int (Mv 6), .int (Mv 7), .int (Mv 8), .ref (Ma 7), .int (Mv 9), .ref (Ma 8), .int (Mv 10), .ref (Ma 9), .ref (Ma 10), .int (Mv 11), .int (Mv 12), .int (Mv 13), .ref (Ma 11), .int (Mv 14), .ref (Ma 12), .ref (Ma 13), .ref (Ma 14), .ref (Ma 15), .ref (Ma 16), .long (Mj 0), .ref (Ma 17), .ref (Ma 18), .ref (Ma 19), .ref (Ma 20)])), ((Ma 1), .inl (tc 2, 400, .inl (Mf 1)))] := hD₀
    replace hS := hS₀
    clear hP₀ hD₀ hS₀
    refine lv_iconst (v := 1) hx hb dX12_takesWord_14 (by decide) ?_
    have ha_26 : ((Mv 2) : Int32).toInt ≤ (sv_22 : Int32).toInt ∧ (sv_22 : Int32).toInt ≤ ((Mv 0) : Int32).toInt := by
      have z_1 : ¬ (r_9 : Int32).toInt = (0 : Int32).toInt := fun z => c_14 (Int32.toInt_inj.mp z)
      have y_0 : (0 : Int32).toInt = 0 := by decide
      omega
    have hp_27 : ((1 : Int32).toInt = 0 ∨ (1 : Int32).toInt = 1) := by
      have z_1 : ¬ (r_9 : Int32).toInt = (0 : Int32).toInt := fun z => c_14 (Int32.toInt_inj.mp z)
      have y_0 : (0 : Int32).toInt = 0 := by decide
      have y_1 : (1 : Int32).toInt = 1 := by decide
      have yr : (1 : Int32).toInt = 1 := by decide
      omega
    have hm_28 : (1 : Int32).toInt = 1 → (TkW (rB (Mf 1) (Mv 0)) w1.toInt (Mv 2) sv_22) := by
      intro h1r
      exact ⟨sv_4, pf_8, pf_16, pf_25⟩
    exact retI (v := 1) hx hb hr hlk (rfl) hP hD hS sv_22 ⟨_, rfl, hp_27, ha_26, hm_28, (fun h => absurd h (by decide))⟩ [0, 1] rfl rfl dX12_takesWord_15 (Nat.le_of_ble_eq_true rfl) (Nat.le_of_ble_eq_true rfl) rfl
  · skip
    have hz_30 : (r_9 : Int32).toInt = 0 := by
      have z_1 := congrArg Int32.toInt c_14
      have y_0 : (0 : Int32).toInt = 0 := by decide
      omega
    obtain pf_29 := hm_13 hz_30
    have pf_29 : NPk (rB (Mf 1) (Mv 0)) ((sv_4 : Int32).toInt.toNat) w1.toInt := pf_29
    refine lv_iconst (v := 0) hx hb dX12_takesWord_8 (by decide) ?_
    have hp_31 : ((0 : Int32).toInt = 0 ∨ (0 : Int32).toInt = 1) := by
      have z_1 := congrArg Int32.toInt c_14
      have y_0 : (0 : Int32).toInt = 0 := by decide
      omega
    have hm_32 : (0 : Int32).toInt = 0 → (NtW (rB (Mf 1) (Mv 0)) w1.toInt (Mv 2) sv_4) := by
      intro h1r
      exact ⟨pf_8, pf_29⟩
    exact retI (v := 0) hx hb hr hlk (rfl) hP hD hS sv_4 ⟨_, rfl, hp_31, pf_5, (fun h => absurd h (by decide)), hm_32⟩ [0, 1] rfl rfl dX12_takesWord_9 (Nat.le_of_ble_eq_true rfl) (Nat.le_of_ble_eq_true rfl) rfl
set_option maxRecDepth 100000 in
theorem cu_fX12_takesWord (l : Launch) (D : va_G) (tc : Nat → ClassId) (sk : (Nat → Nat) × (Nat → Nat)) (Ma_0 : Nat) (Ma_1 : Nat) (Ma_2 : Nat) (Ma_3 : Nat) (Ma_4 : Nat) (Ma_5 : Nat) (Ma_6 : Nat) (Ma_7 : Nat) (Ma_8 : Nat) (Ma_9 : Nat) (Ma_10 : Nat) (Ma_11 : Nat) (Ma_12 : Nat) (Ma_13 : Nat) (Ma_14 : Nat) (Ma_15 : Nat) (Ma_16 : Nat) (Ma_17 : Nat) (Ma_18 : Nat) (Ma_19 : Nat) (Ma_20 : Nat) (Mv_0 : Int32) (Mv_1 : Int32) (Mv_2 : Int32) (Mv_3 : Int32) (Mv_4 : Int32) (Mv_5 : Int32) (Mv_6 : Int32) (Mv_7 : Int32) (Mv_8 : Int32) (Mv_9 : Int32) (Mv_10 : Int32) (Mv_11 : Int32) (Mv_12 : Int32) (Mv_13 : Int32) (Mv_14 : Int32) (Mf_1 : Nat → Int32) (Mj_0 : Int64) (w1 : Int64) (h_nx : 0 ≤ (Mv_2 : Int32).toInt ∧ (Mv_2 : Int32).toInt ≤ (Mv_0 : Int32).toInt ∧ (Mv_0 : Int32).toInt ≤ 400) (h_bs : ByS Mf_1) : Ct l yX12_takesWord cX12_takesWord 3 (some .boolean) { frames := 2, cells := 0, slots := 0, locals := 46 } D tc sk [.ref Ma_0, .long w1] [(Ma_0, .inr (12, [.ref Ma_1, .int Mv_0, .int Mv_1, .ref Ma_2, .ref Ma_3, .ref Ma_4, .ref Ma_5, .ref Ma_6, .int Mv_2, .int Mv_3, .int Mv_4, .int Mv_5, .int Mv_6, .int Mv_7, .int Mv_8, .ref Ma_7, .int Mv_9, .ref Ma_8, .int Mv_10, .ref Ma_9, .ref Ma_10, .int Mv_11, .int Mv_12, .int Mv_13, .ref Ma_11, .int Mv_14, .ref Ma_12, .ref Ma_13, .ref Ma_14, .ref Ma_15, .ref Ma_16, .long Mj_0, .ref Ma_17, .ref Ma_18, .ref Ma_19, .ref Ma_20])), (Ma_1, .inl (tc 2, 400, .inl Mf_1))] (fun (v : Option Value) (oo0x1 : Int32) => ∃ r : Int32, v = some (.int r) ∧ ((r.toInt = 0 ∨ r.toInt = 1)) ∧ ((Mv_2 : Int32).toInt ≤ (oo0x1 : Int32).toInt ∧ (oo0x1 : Int32).toInt ≤ (Mv_0 : Int32).toInt) ∧ (r.toInt = 1 → (TkW (rB Mf_1 Mv_0) w1.toInt Mv_2 oo0x1)) ∧ (r.toInt = 0 → (NtW (rB Mf_1 Mv_0) w1.toInt Mv_2 oo0x1))) (fun (oo0x1 : Int32) => [(Ma_0, .inr (12, [.ref Ma_1, .int Mv_0, .int Mv_1, .ref Ma_2, .ref Ma_3, .ref Ma_4, .ref Ma_5, .ref Ma_6, .int oo0x1, .int Mv_3, .int Mv_4, .int Mv_5, .int Mv_6, .int Mv_7, .int Mv_8, .ref Ma_7, .int Mv_9, .ref Ma_8, .int Mv_10, .ref Ma_9, .ref Ma_10, .int Mv_11, .int Mv_12, .int Mv_13, .ref Ma_11, .int Mv_14, .ref Ma_12, .ref Ma_13, .ref Ma_14, .ref Ma_15, .ref Ma_16, .long Mj_0, .ref Ma_17, .ref Ma_18, .ref Ma_19, .ref Ma_20])), (Ma_1, .inl (tc 2, 400, .inl Mf_1))]) 0 0 :=
  ct_fX12_takesWord l D tc sk (fun k => ([Ma_0, Ma_1, Ma_2, Ma_3, Ma_4, Ma_5, Ma_6, Ma_7, Ma_8, Ma_9, Ma_10, Ma_11, Ma_12, Ma_13, Ma_14, Ma_15, Ma_16, Ma_17, Ma_18, Ma_19, Ma_20] : List (Nat)).getD k 0) (fun k => ([Mv_0, Mv_1, Mv_2, Mv_3, Mv_4, Mv_5, Mv_6, Mv_7, Mv_8, Mv_9, Mv_10, Mv_11, Mv_12, Mv_13, Mv_14] : List (Int32)).getD k 0) (fun k => ([(fun _ => 0), Mf_1] : List (Nat → Int32)).getD k (fun _ => 0)) (fun k => ([Mj_0] : List (Int64)).getD k 0) w1 h_nx h_bs
def bt (x : Int32) (i : Nat) : Bool := x.toBitVec.getLsbD i
theorem b_ext {x y : Int32} (h : ∀ i, i < 32 → bt x i = bt y i) : x = y := Int32.toBitVec_inj.mp (BitVec.eq_of_getLsbD_eq (fun i hi => h i hi))
theorem b_and (x y : Int32) (i : Nat) : bt (x &&& y) i = (bt x i && bt y i) := by unfold bt; rw [Int32.toBitVec_and, BitVec.getLsbD_and]
theorem b_big {x : Int32} {i : Nat} (h : 32 ≤ i) : bt x i = false := BitVec.getLsbD_of_ge _ _ h
theorem b_255 (i : Nat) : bt 255 i = decide (i < 8) := by
  rcases Nat.lt_or_ge i 32 with h | h
  · exact (by decide +kernel : ∀ i, i < 32 → bt 255 i = decide (i < 8)) i h
  · rw [b_big h, decide_eq_false (by omega)]
theorem s_l : ∀ n, n < 32 → ((nI n &&& 31).toBitVec.smod 32).toNat = n := by decide +kernel
theorem s_u : ∀ n, n < 32 → (((nI n).toUInt32 &&& Int32.toUInt32 31).toBitVec % 32).toNat = n := by decide +kernel
theorem b_ushr (n : Nat) (hn : n < 32) (x : Int32) (i : Nat) : bt ((x.toUInt32 >>> ((nI n).toUInt32 &&& Int32.toUInt32 31)).toInt32) i = bt x (n + i) := by
  show (x.toUInt32 >>> ((nI n).toUInt32 &&& Int32.toUInt32 31)).toBitVec.getLsbD i = x.toUInt32.toBitVec.getLsbD (n + i)
  rw [UInt32.toBitVec_shiftRight]
  show (x.toUInt32.toBitVec >>> (((nI n).toUInt32 &&& Int32.toUInt32 31).toBitVec % 32).toNat).getLsbD i = _
  rw [s_u n hn, BitVec.getLsbD_ushiftRight]
theorem b_sshr (n : Nat) (hn : n < 32) (x : Int32) {i : Nat} (hi : i < 32) : bt (x >>> (nI n &&& 31)) i = if n + i < 32 then bt x (n + i) else bt x 31 := by
  unfold bt
  rw [Int32.toBitVec_shiftRight]
  show (x.toBitVec.sshiftRight ((nI n &&& 31).toBitVec.smod 32).toNat).getLsbD i = _
  rw [s_l n hn, BitVec.getLsbD_sshiftRight, BitVec.msb_eq_getLsbD_last]
  simp [hi]
theorem bp_b (x : Int32) : x.toInt8.toInt32 &&& 255 = x &&& 255 := by
  apply Int32.toBitVec_inj.mp
  rw [Int32.toBitVec_and, Int32.toBitVec_and, Int8.toBitVec_toInt32, Int32.toBitVec_toInt8]
  apply BitVec.eq_of_getLsbD_eq
  intro i hi
  rw [BitVec.getLsbD_and, BitVec.getLsbD_and]
  have hm : ∀ i < 32, 8 ≤ i → (255 : Int32).toBitVec.getLsbD i = false := by decide
  rcases Nat.lt_or_ge i 8 with z | z
  · rw [BitVec.getLsbD_signExtend, BitVec.getLsbD_signExtend, if_pos z, if_pos hi]
    simp only [z, hi, decide_true, Bool.true_and]
  · rw [hm i hi z]; simp
def bz (v : Int32) (n : Nat) : Int := ((v.toUInt32 >>> ((nI n).toUInt32 &&& Int32.toUInt32 31)).toInt32 &&& 255).toInt
theorem bz_rg (v : Int32) (n : Nat) : 0 ≤ bz v n ∧ bz v n ≤ 255 := by
  unfold bz; rw [and255]; omega
theorem bz_c {v x y : Int32} {n : Nat} (e1 : x = (v.toUInt32 >>> ((nI n).toUInt32 &&& Int32.toUInt32 31)).toInt32) (e2 : y = x &&& 255) : y.toInt % 256 = bz v n ∧ 0 ≤ y.toInt ∧ y.toInt ≤ 255 := by
  have h := bz_rg v n
  have e : y.toInt = bz v n := by rw [e2, e1]; rfl
  omega
theorem bz_sh {v : Int32} {n : Nat} (hn : n ≤ 24) : (v >>> (nI n &&& 31)) &&& 255 = (v.toUInt32 >>> ((nI n).toUInt32 &&& Int32.toUInt32 31)).toInt32 &&& 255 := by
  apply b_ext
  intro i hi
  rw [b_and, b_and, b_255, b_sshr n (by omega) v hi, b_ushr n (by omega)]
  by_cases z : i < 8
  · rw [if_pos (by omega)]
  · rw [show decide (i < 8) = false from decide_eq_false z, Bool.and_false, Bool.and_false]
theorem bz_rn {v x y : Int32} {n : Nat} (hn : n ≤ 24) (e1 : x = v >>> (nI n &&& 31)) (e2 : y = x.toInt8.toInt32) : (vp_nar FieldType.byte y).toInt % 256 = bz v n ∧ -128 ≤ (vp_nar FieldType.byte y).toInt ∧ (vp_nar FieldType.byte y).toInt ≤ 127 := by
  have e : vp_nar FieldType.byte y = y.toInt8.toInt32 := rfl
  rw [e]
  have h1 := y.toInt8.toInt_toInt32
  have h2 := y.toInt8.le_toInt
  have h3 := y.toInt8.toInt_lt
  refine ⟨?_, by omega, by omega⟩
  rw [← and255, bp_b, e2, bp_b, e1, bz_sh hn]; rfl
def FdB (f g : Nat → Int32) (l l' v : Int32) : Prop := l'.toInt = l.toInt + 4 ∧ (∀ k : Nat, (k : Int) < l.toInt → (g k).toInt = (f k).toInt) ∧ ∀ j : Nat, j < 4 → (g (l.toInt.toNat + j)).toInt % 256 = bz v (24 - 8 * j)
theorem upd_n {f g : Nat → Int32} {i x : Int32} {l : Nat} (e : g = upd f i.toNatClampNeg x) (hi : i.toInt = (l : Int)) : g l = x ∧ ∀ k, k ≠ l → g k = f k := by
  have en : i.toNatClampNeg = l := by show i.toInt.toNat = l; omega
  rw [en] at e
  exact ⟨by rw [e, upd_at], fun k hk => by rw [e, upd_ne hk]⟩
theorem FdB.of {f g0 g1 g2 g3 : Nat → Int32} {l l' i0 i1 i2 i3 x0 x1 x2 x3 v : Int32} (hl : 0 ≤ l.toInt) (e0 : g0 = upd f i0.toNatClampNeg x0) (e1 : g1 = upd g0 i1.toNatClampNeg x1) (e2 : g2 = upd g1 i2.toNatClampNeg x2) (e3 : g3 = upd g2 i3.toNatClampNeg x3) (hi : i0.toInt = l.toInt ∧ i1.toInt = l.toInt + 1 ∧ i2.toInt = l.toInt + 2 ∧ i3.toInt = l.toInt + 3 ∧ l'.toInt = l.toInt + 4) (h0 : x0.toInt % 256 = bz v 24) (h1 : x1.toInt % 256 = bz v 16) (h2 : x2.toInt % 256 = bz v 8) (h3 : x3.toInt % 256 = bz v 0) : FdB f g3 l l' v := by
  obtain ⟨a0, b0⟩ := upd_n (l := l.toInt.toNat) e0 (by omega)
  obtain ⟨a1, b1⟩ := upd_n (l := l.toInt.toNat + 1) e1 (by omega)
  obtain ⟨a2, b2⟩ := upd_n (l := l.toInt.toNat + 2) e2 (by omega)
  obtain ⟨a3, b3⟩ := upd_n (l := l.toInt.toNat + 3) e3 (by omega)
  refine ⟨hi.2.2.2.2, fun k hk => ?_, fun j hj => ?_⟩
  · rw [b3 k (by omega), b2 k (by omega), b1 k (by omega), b0 k (by omega)]
  · have : j = 0 ∨ j = 1 ∨ j = 2 ∨ j = 3 := by omega
    rcases this with rfl | rfl | rfl | rfl
    · rw [b3 _ (by omega), b2 _ (by omega), b1 _ (by omega), Nat.add_zero, a0]; exact h0
    · rw [b3 _ (by omega), b2 _ (by omega), a1]; exact h1
    · rw [b3 _ (by omega), a2]; exact h2
    · rw [a3]; exact h3
theorem Byt.up {f g : Nat → Int32} {i x : Int32} (h : Byt f) (e : g = upd f i.toNatClampNeg x) (hx : 0 ≤ x.toInt ∧ x.toInt ≤ 255) : Byt g := fun k => by
  by_cases z : k = i.toNatClampNeg
  · rw [e, z, upd_at]; exact hx
  · rw [e, upd_ne z]; exact h k
theorem ByS.up {f g : Nat → Int32} {i x : Int32} (h : ByS f) (e : g = upd f i.toNatClampNeg x) (hx : -128 ≤ x.toInt ∧ x.toInt ≤ 127) : ByS g := fun k => by
  by_cases z : k = i.toNatClampNeg
  · rw [e, z, upd_at]; exact hx
  · rw [e, upd_ne z]; exact h k
def TpE (f : Nat → Int32) (n : Int32) (g : Nat → Int32) (m : Int32) : Prop := n.toInt = m.toInt ∧ ∀ k : Nat, (k : Int) < n.toInt → (f k).toInt % 256 = (g k).toInt % 256
theorem FdB.tp {f f' g g' : Nat → Int32} {l l' m m' v : Int32} (h : TpE f l g m) (hl : 0 ≤ l.toInt) (h1 : FdB f f' l l' v) (h2 : FdB g g' m m' v) : TpE f' l' g' m' := by
  obtain ⟨ha, hb⟩ := h
  obtain ⟨a1, a2, a3⟩ := h1
  obtain ⟨b1, b2, b3⟩ := h2
  refine ⟨by omega, fun k hk => ?_⟩
  by_cases z : (k : Int) < l.toInt
  · rw [a2 k z, b2 k (by omega)]; exact hb k z
  · have c1 := a3 (k - l.toInt.toNat) (by omega)
    have c2 := b3 (k - l.toInt.toNat) (by omega)
    rw [show l.toInt.toNat + (k - l.toInt.toNat) = k by omega] at c1
    rw [show m.toInt.toNat + (k - l.toInt.toNat) = k by omega] at c2
    rw [c1, c2]
def FeP (f g : Nat → Int32) (l l' a b c d e r : Int32) : Prop := (380 < l.toInt ∧ r.toInt = -1 ∧ l' = l ∧ g = f) ∨ (l.toInt ≤ 380 ∧ r = l' ∧ ∃ f1 f2 f3 f4 l1 l2 l3 l4, FdB f f1 l l1 a ∧ FdB f1 f2 l1 l2 b ∧ FdB f2 f3 l2 l3 c ∧ FdB f3 f4 l3 l4 d ∧ FdB f4 g l4 l' e)
theorem FeP.eq {f g f' g' : Nat → Int32} {l l' m m' a b c d e r s : Int32} (hl : 0 ≤ l.toInt) (h : TpE f l g m) (h1 : FeP f f' l l' a b c d e r) (h2 : FeP g g' m m' a b c d e s) : r = s ∧ TpE f' l' g' m' := by
  have h0 := h.1
  rcases h1 with ⟨a1, a2, a3, a4⟩ | ⟨a1, a2, f1, f2, f3, f4, l1, l2, l3, l4, p1, p2, p3, p4, p5⟩
  · rcases h2 with ⟨b1, b2, b3, b4⟩ | ⟨b1, _⟩
    · subst a3 a4 b3 b4
      exact ⟨Int32.toInt_inj.mp (by omega), h⟩
    · omega
  · rcases h2 with ⟨b1, _⟩ | ⟨b1, b2, g1, g2, g3, g4, m1, m2, m3, m4, q1, q2, q3, q4, q5⟩
    · omega
    · have e1 := p1.1
      have e2 := p2.1
      have e3 := p3.1
      have e4 := p4.1
      have t1 := FdB.tp h hl p1 q1
      have t2 := FdB.tp t1 (by omega) p2 q2
      have t3 := FdB.tp t2 (by omega) p3 q3
      have t4 := FdB.tp t3 (by omega) p4 q4
      have t5 := FdB.tp t4 (by omega) p5 q5
      exact ⟨by rw [a2, b2]; exact Int32.toInt_inj.mp t5.1, t5⟩
def RrC (B : Nat → Int) (c0 c1 l0 l1 r : Int32) : Prop := (6 ≤ c0.toInt ∧ c1 = c0 ∧ l1 = l0 ∧ r.toInt = -1) ∨ (c0.toInt < 6 ∧ l1.toInt = 0 ∧ ((∃ p, pz_rule B = .ok p) ∧ c1.toInt = c0.toInt + 1 ∧ r.toInt = c0.toInt ∨ ∃ d : Int32, pz_rule B = .error d.toInt ∧ c1 = c0 ∧ r = -2 - d))
theorem TpE.B {f g : Nat → Int32} {n m : Int32} (h : TpE f n g m) (hb : Byt f) : cB f n = rB g m := by
  funext k
  obtain ⟨h1, h2⟩ := h
  by_cases z : (k : Int) < n.toInt
  · rw [cB_in z, rB_in (by omega), ← h2 k z]
    have := hb k
    omega
  · rw [cB_out (by omega), rB_out (by omega)]
theorem RrC.eq {B : Nat → Int} {c0 c1 l0 l1 r m0 m1 s0 s1 q : Int32} (h1 : RrC B c0 c1 l0 l1 r) (h2 : RrC B m0 m1 s0 s1 q) (hc : c0 = m0) (hl : l0 = s0) : r = q ∧ c1 = m1 ∧ l1 = s1 := by
  subst hc hl
  rcases h1 with ⟨a1, a2, a3, a4⟩ | ⟨a1, a2, a3⟩
  · rcases h2 with ⟨b1, b2, b3, b4⟩ | ⟨b1, _⟩
    · exact ⟨Int32.toInt_inj.mp (by omega), by rw [a2, b2], by rw [a3, b3]⟩
    · omega
  · rcases h2 with ⟨b1, _⟩ | ⟨b1, b2, b3⟩
    · omega
    · have el : l1 = s1 := Int32.toInt_inj.mp (by omega)
      rcases a3 with ⟨⟨p, hp⟩, a4, a5⟩ | ⟨d, hd, a4, a5⟩
      · rcases b3 with ⟨_, b4, b5⟩ | ⟨d, hd, _, _⟩
        · exact ⟨Int32.toInt_inj.mp (by omega), Int32.toInt_inj.mp (by omega), el⟩
        · rw [hp] at hd; cases hd
      · rcases b3 with ⟨⟨p, hp⟩, _, _⟩ | ⟨d', hd', b4, b5⟩
        · rw [hp] at hd; cases hd
        · rw [hd] at hd'
          have e : d = d' := Int32.toInt_inj.mp (Except.error.inj hd')
          subst e
          exact ⟨by rw [a5, b5], by rw [a4, b4], el⟩
def EnP (l l' n r : Int32) : Prop := ((n.toInt < 0 ∨ l.toInt < n.toInt) ∧ r.toInt = -1 ∧ l' = l) ∨ ((0 ≤ n.toInt ∧ n.toInt ≤ l.toInt) ∧ r = n ∧ l' = n)
theorem EnP.eq {f g : Nat → Int32} {l l' m m' n r s : Int32} (h : TpE f l g m) (h1 : EnP l l' n r) (h2 : EnP m m' n s) : r = s ∧ TpE f l' g m' := by
  obtain ⟨h3, h4⟩ := h
  rcases h1 with ⟨a1, a2, a3⟩ | ⟨a1, a2, a3⟩
  · rcases h2 with ⟨b1, b2, b3⟩ | ⟨b1, b2, b3⟩
    · subst a3 b3
      exact ⟨Int32.toInt_inj.mp (by omega), h3, h4⟩
    · omega
  · rcases h2 with ⟨b1, b2, b3⟩ | ⟨b1, b2, b3⟩
    · omega
    · subst a2 a3 b2 b3
      exact ⟨rfl, rfl, fun k hk => h4 k (by omega)⟩
def SameR (a b : Int32) (f g : Nat → Option Nat) : Prop := a = b ∧ f = g
theorem RuE.er {B : Nat → Int} {wr : Int32} (h : RuE B wr) (hw : ¬ wr.toInt = 0) : pz_rule B = .error wr.toInt := by
  rcases h with h | h
  · exact absurd h.1 hw
  · exact h.2
theorem RuE.ok {B : Nat → Int} {wr : Int32} (h : RuE B wr) (hw : wr.toInt = 0) : ∃ p, pz_rule B = .ok p := by
  rcases h with h | h
  · exact h.2
  · exact absurd hw h.1
set_option maxHeartbeats 4000000 in
set_option maxRecDepth 100000 in
theorem ct_fX10_hasRoom (l : Launch) (D : va_G) (tc : Nat → ClassId) (sk : (Nat → Nat) × (Nat → Nat)) (Ta : Nat → Nat) (Tv : Nat → Int32) (Tf : Nat → Nat → Int32) (h_tape : 0 ≤ ((Tv 0) : Int32).toInt ∧ ((Tv 0) : Int32).toInt ≤ 400 ∧ 0 ≤ ((Tv 1) : Int32).toInt ∧ ((Tv 1) : Int32).toInt ≤ 400 ∧ 0 ≤ ((Tv 2) : Int32).toInt ∧ ((Tv 2) : Int32).toInt ≤ 400) : Ct l yX10_hasRoom cX10_hasRoom 1 (some .boolean) { frames := 0, cells := 0, slots := 0, locals := 0 } D tc sk [.ref (Ta 0)] [((Ta 0), .inr (10, [.ref (Ta 1), .int (Tv 0), .int (Tv 1), .int (Tv 2), .int (Tv 3), .int (Tv 4)])), ((Ta 1), .inl (tc 0, 400, .inl (Tf 1)))] (fun (v : Option Value) (_ : Unit) => ∃ r : Int32, v = some (.int r) ∧ (((r.toInt = 0 ∧ 380 < (Tv 0).toInt) ∨ (r.toInt = 1 ∧ (Tv 0).toInt ≤ 380)))) (fun (_ : Unit) => [((Ta 0), .inr (10, [.ref (Ta 1), .int (Tv 0), .int (Tv 1), .int (Tv 2), .int (Tv 3), .int (Tv 4)])), ((Ta 1), .inl (tc 0, 400, .inl (Tf 1)))]) 0 0 := by
  refine Ct.start (by decide) (Nat.le_of_ble_eq_true rfl) (fun p e s m below meth c A ls hx hb hr hlk hin hml hown hts hK hX hP hD hA hl hS => ?_)
  have hl : lv_has ls 1 [(0, .ref (Ta 0))] := hl
  refine lv_aload_n hx hb dX10_hasRoom_0 rfl (lv_at hl 0 rfl) ?_
  refine gf_X10_15 hx hb hts hown hK hP 0 rfl rfl dX10_hasRoom_1 ?_
  refine lv_bipush (v := 20) hx hb dX10_hasRoom_4 (by decide) ?_
  refine lv_iadd hx hb dX10_hasRoom_6 ?_
  refine lv_topi (fun x_1 ex_1 => ?_)
  refine lv_aload_n hx hb dX10_hasRoom_7 rfl (lv_at hl 0 rfl) ?_
  refine gf_X10_9 hx hb hts hown hK hP 0 rfl rfl dX10_hasRoom_8 ?_
  refine va_alen hx hb hK hP 1 0 rfl rfl (v := 400) rfl dX10_hasRoom_11 ?_
  refine lv_icmp_gt (tgt := 19) hx hb dX10_hasRoom_12 (by decide) (fun c_2 => ?_) (fun c_2 => ?_)
  · skip
    refine lv_iconst (v := 0) hx hb dX10_hasRoom_19 (by decide) ?_
    have hp_3 : (((0 : Int32).toInt = 0 ∧ 380 < (Tv 0).toInt) ∨ ((0 : Int32).toInt = 1 ∧ (Tv 0).toInt ≤ 380)) := by
      have z_1 := Int32.lt_iff_toInt_lt.mp c_2
      have y_400 : (400 : Int32).toInt = 400 := by decide
      have y_0 : (0 : Int32).toInt = 0 := by decide
      have y_20 : (20 : Int32).toInt = 20 := by decide
      have t_x_1 : x_1.toInt = ((Tv 0) : Int32).toInt + (20 : Int32).toInt := by rw [ex_1]; exact add_toInt (by omega) (by omega)
      have yr : (0 : Int32).toInt = 0 := by decide
      omega
    exact retI (v := 0) hx hb hr hlk (rfl) hP hD hS () ⟨_, rfl, hp_3⟩ [0, 1] rfl rfl dX10_hasRoom_20 (Nat.le_of_ble_eq_true rfl) (Nat.le_of_ble_eq_true rfl) rfl
  · skip
    refine lv_iconst (v := 1) hx hb dX10_hasRoom_15 (by decide) ?_
    refine lv_goto (tgt := 20) hx hb dX10_hasRoom_16 (by decide) ?_
    have hp_4 : (((1 : Int32).toInt = 0 ∧ 380 < (Tv 0).toInt) ∨ ((1 : Int32).toInt = 1 ∧ (Tv 0).toInt ≤ 380)) := by
      have z_1 := Int32.le_iff_toInt_le.mp (Int32.not_lt.mp c_2)
      have y_400 : (400 : Int32).toInt = 400 := by decide
      have y_1 : (1 : Int32).toInt = 1 := by decide
      have y_20 : (20 : Int32).toInt = 20 := by decide
      have t_x_1 : x_1.toInt = ((Tv 0) : Int32).toInt + (20 : Int32).toInt := by rw [ex_1]; exact add_toInt (by omega) (by omega)
      have yr : (1 : Int32).toInt = 1 := by decide
      omega
    exact retI (v := 1) hx hb hr hlk (rfl) hP hD hS () ⟨_, rfl, hp_4⟩ [0, 1] rfl rfl dX10_hasRoom_20 (Nat.le_of_ble_eq_true rfl) (Nat.le_of_ble_eq_true rfl) rfl
set_option maxRecDepth 100000 in
theorem cu_fX10_hasRoom (l : Launch) (D : va_G) (tc : Nat → ClassId) (sk : (Nat → Nat) × (Nat → Nat)) (Ta_0 : Nat) (Ta_1 : Nat) (Tv_0 : Int32) (Tv_1 : Int32) (Tv_2 : Int32) (Tv_3 : Int32) (Tv_4 : Int32) (Tf_1 : Nat → Int32) (h_tape : 0 ≤ (Tv_0 : Int32).toInt ∧ (Tv_0 : Int32).toInt ≤ 400 ∧ 0 ≤ (Tv_1 : Int32).toInt ∧ (Tv_1 : Int32).toInt ≤ 400 ∧ 0 ≤ (Tv_2 : Int32).toInt ∧ (Tv_2 : Int32).toInt ≤ 400) : Ct l yX10_hasRoom cX10_hasRoom 1 (some .boolean) { frames := 0, cells := 0, slots := 0, locals := 0 } D tc sk [.ref Ta_0] [(Ta_0, .inr (10, [.ref Ta_1, .int Tv_0, .int Tv_1, .int Tv_2, .int Tv_3, .int Tv_4])), (Ta_1, .inl (tc 0, 400, .inl Tf_1))] (fun (v : Option Value) (_ : Unit) => ∃ r : Int32, v = some (.int r) ∧ (((r.toInt = 0 ∧ 380 < Tv_0.toInt) ∨ (r.toInt = 1 ∧ Tv_0.toInt ≤ 380)))) (fun (_ : Unit) => [(Ta_0, .inr (10, [.ref Ta_1, .int Tv_0, .int Tv_1, .int Tv_2, .int Tv_3, .int Tv_4])), (Ta_1, .inl (tc 0, 400, .inl Tf_1))]) 0 0 :=
  ct_fX10_hasRoom l D tc sk (fun k => ([Ta_0, Ta_1] : List (Nat)).getD k 0) (fun k => ([Tv_0, Tv_1, Tv_2, Tv_3, Tv_4] : List (Int32)).getD k 0) (fun k => ([(fun _ => 0), Tf_1] : List (Nat → Int32)).getD k (fun _ => 0)) h_tape
set_option maxHeartbeats 4000000 in
set_option maxRecDepth 100000 in
theorem ct_fX10_add (l : Launch) (D : va_G) (tc : Nat → ClassId) (sk : (Nat → Nat) × (Nat → Nat)) (Ta : Nat → Nat) (Tv : Nat → Int32) (Tf : Nat → Nat → Int32) (x1 : Int32) (h_tape : 0 ≤ ((Tv 0) : Int32).toInt ∧ ((Tv 0) : Int32).toInt ≤ 400 ∧ 0 ≤ ((Tv 1) : Int32).toInt ∧ ((Tv 1) : Int32).toInt ≤ 400 ∧ 0 ≤ ((Tv 2) : Int32).toInt ∧ ((Tv 2) : Int32).toInt ≤ 400) (h_by : Byt (Tf 1)) (hroom : (Tv 0).toInt ≤ 396) : Ct l yX10_add cX10_add 3 none { frames := 0, cells := 0, slots := 0, locals := 0 } D tc sk [.ref (Ta 0), .int x1] [((Ta 0), .inr (10, [.ref (Ta 1), .int (Tv 0), .int (Tv 1), .int (Tv 2), .int (Tv 3), .int (Tv 4)])), ((Ta 1), .inl (tc 0, 400, .inl (Tf 1)))] (fun (v : Option Value) (u : (Int32) × (Nat → Int32)) => match u with | (oo0x1, oo0x2) => v = none ∧ (0 ≤ (oo0x1 : Int32).toInt ∧ (oo0x1 : Int32).toInt ≤ 400 ∧ 0 ≤ ((Tv 1) : Int32).toInt ∧ ((Tv 1) : Int32).toInt ≤ 400 ∧ 0 ≤ ((Tv 2) : Int32).toInt ∧ ((Tv 2) : Int32).toInt ≤ 400) ∧ ((oo0x1 : Int32).toInt = (Tv 0).toInt + 4) ∧ (Byt oo0x2) ∧ (FdB (Tf 1) oo0x2 (Tv 0) oo0x1 x1)) (fun (u : (Int32) × (Nat → Int32)) => match u with | (oo0x1, oo0x2) => [((Ta 0), .inr (10, [.ref (Ta 1), .int oo0x1, .int (Tv 1), .int (Tv 2), .int (Tv 3), .int (Tv 4)])), ((Ta 1), .inl (tc 0, 400, .inl oo0x2))]) 0 0 := by
  refine Ct.start (by decide) (Nat.le_of_ble_eq_true rfl) (fun p e s m below meth c A ls hx hb hr hlk hin hml hown hts hK hX hP hD hA hl hS => ?_)
  have hl : lv_has ls 3 [(0, .ref (Ta 0)), (1, .int x1)] := hl
  refine lv_bipush (v := 24) hx hb dX10_add_0 (by decide) ?_
  refine lv_istore_n (lv' := [(2, .int 24), (0, .ref (Ta 0)), (1, .int x1)]) hx hb dX10_add_2 rfl hl (by decide) rfl (fun ls hl₀ => ?_)
  replace hl := hl₀
  clear hl₀
  refine lv_iload_n hx hb dX10_add_3 rfl (lv_at hl 0 rfl) ?_
  refine lv_if_lt (tgt := 58) hx hb dX10_add_4 (by decide) (fun c_1 => absurd c_1 (by decide)) (fun c_1 => ?_)
  refine lv_aload_n hx hb dX10_add_7 rfl (lv_at hl 1 rfl) ?_
  refine gf_X10_15 hx hb hts hown hK hP 0 rfl rfl dX10_add_8 ?_
  refine lv_if_lt (tgt := 52) hx hb dX10_add_11 (by decide) (fun c_2 => ?_) (fun c_2 => ?_)
  · skip
    exfalso
    have z_1 := Int32.lt_iff_toInt_lt.mp c_2
    have y_0 : (0 : Int32).toInt = 0 := by decide
    omega
  · skip
    refine lv_aload_n hx hb dX10_add_14 rfl (lv_at hl 1 rfl) ?_
    refine gf_X10_15 hx hb hts hown hK hP 0 rfl rfl dX10_add_15 ?_
    refine lv_aload_n hx hb dX10_add_18 rfl (lv_at hl 1 rfl) ?_
    refine gf_X10_9 hx hb hts hown hK hP 0 rfl rfl dX10_add_19 ?_
    refine va_alen hx hb hK hP 1 0 rfl rfl (v := 400) rfl dX10_add_22 ?_
    refine lv_icmp_ge (tgt := 52) hx hb dX10_add_23 (by decide) (fun c_3 => ?_) (fun c_3 => ?_)
    · skip
      exfalso
      have z_1 := Int32.le_iff_toInt_le.mp (Int32.not_lt.mp c_2)
      have z_2 := Int32.le_iff_toInt_le.mp c_3
      have y_0 : (0 : Int32).toInt = 0 := by decide
      have y_400 : (400 : Int32).toInt = 400 := by decide
      omega
    · skip
      refine lv_aload_n hx hb dX10_add_26 rfl (lv_at hl 1 rfl) ?_
      refine gf_X10_9 hx hb hts hown hK hP 0 rfl rfl dX10_add_27 ?_
      refine lv_aload_n hx hb dX10_add_30 rfl (lv_at hl 1 rfl) ?_
      refine gf_X10_15 hx hb hts hown hK hP 0 rfl rfl dX10_add_31 ?_
      refine lv_iload_n hx hb dX10_add_34 rfl (lv_at hl 2 rfl) ?_
      refine lv_iload_n hx hb dX10_add_35 rfl (lv_at hl 0 rfl) ?_
      obtain ⟨x_4, ex_4⟩ : ∃ y : Int32, y = ((x1 : Int32).toUInt32 >>> ((24 : Int32).toUInt32 &&& Int32.toUInt32 31)).toInt32 := ⟨_, rfl⟩
      refine lv_iushr (v := x_4) hx hb dX10_add_36 ex_4.symm ?_
      refine lv_sipush (v := 255) hx hb dX10_add_37 (by decide) ?_
      refine lv_iand hx hb dX10_add_40 ?_
      refine lv_topi (fun x_5 ex_5 => ?_)
      have hi_6 : vp_in (Tv 0) 400 := by
        have z_1 := Int32.le_iff_toInt_le.mp (Int32.not_lt.mp c_2)
        have z_2 := Int32.lt_iff_toInt_lt.mp (Int32.not_le.mp c_3)
        have y_0 : (0 : Int32).toInt = 0 := by decide
        have y_400 : (400 : Int32).toInt = 400 := by decide
        refine vp_in_iff.mpr ⟨?_, ?_⟩ <;> omega
      refine st_int hx hb hK hP hD hS 1 0 rfl rfl hi_6 dX10_add_41 (fun g_7 H locs eg_7 hP₀ hD₀ hS₀ => ?_)
      replace hP : va_P D classes [((Ta 0), .inr (10, [.ref (Ta 1), .int (Tv 0), .int (Tv 1), .int (Tv 2), .int (Tv 3), .int (Tv 4)])), ((Ta 1), .inl (tc 0, 400, .inl g_7))] H := hP₀
      replace hD : va_D A [((Ta 0), .inr (10, [.ref (Ta 1), .int (Tv 0), .int (Tv 1), .int (Tv 2), .int (Tv 3), .int (Tv 4)])), ((Ta 1), .inl (tc 0, 400, .inl g_7))] := hD₀
      replace hS := hS₀
      clear hP₀ hD₀ hS₀
      have hz_8 := bz_c (v := x1) (n := 24) ex_4 ex_5
      have pf_9 : Byt g_7 := Byt.up h_by eg_7 hz_8.2
      refine lv_aload_n hx hb dX10_add_42 rfl (lv_at hl 1 rfl) ?_
      refine lv_dup hx hb dX10_add_43 rfl ?_
      refine gf_X10_15 hx hb hts hown hK hP 0 rfl rfl dX10_add_44 ?_
      refine lv_iconst (v := 1) hx hb dX10_add_47 (by decide) ?_
      refine lv_iadd hx hb dX10_add_48 ?_
      refine lv_topi (fun x_10 ex_10 => ?_)
      refine pf_X10_15 hx hb hts hown hK hP hD hS 0 rfl (Nat.le_of_ble_eq_true rfl) rfl rfl dX10_add_49 (fun H locs hP₀ hD₀ hS₀ => ?_)
      replace hP : va_P D classes [((Ta 0), .inr (10, [.ref (Ta 1), .int x_10, .int (Tv 1), .int (Tv 2), .int (Tv 3), .int (Tv 4)])), ((Ta 1), .inl (tc 0, 400, .inl g_7))] H := hP₀
      replace hD : va_D A [((Ta 0), .inr (10, [.ref (Ta 1), .int x_10, .int (Tv 1), .int (Tv 2), .int (Tv 3), .int (Tv 4)])), ((Ta 1), .inl (tc 0, 400, .inl g_7))] := hD₀
      replace hS := hS₀
      clear hP₀ hD₀ hS₀
      have tp_x_10 : (x_10 : Int32).toInt = ((Tv 0) : Int32).toInt + 1 := by
        have z_1 := Int32.le_iff_toInt_le.mp (Int32.not_lt.mp c_2)
        have z_2 := Int32.lt_iff_toInt_lt.mp (Int32.not_le.mp c_3)
        have y_0 : (0 : Int32).toInt = 0 := by decide
        have y_400 : (400 : Int32).toInt = 400 := by decide
        have y_1 : (1 : Int32).toInt = 1 := by decide
        have t_x_10 : x_10.toInt = ((Tv 0) : Int32).toInt + (1 : Int32).toInt := by rw [ex_10]; exact add_toInt (by omega) (by omega)
        omega
      refine lv_iinc (v := 16) (lv' := [(2, .int 16), (0, .ref (Ta 0)), (1, .int x1)]) hx hb dX10_add_52 hl (k := 0) rfl (by decide) (by decide) rfl (fun ls hl₀ => ?_)
      replace hl := hl₀
      clear hl₀
      refine lv_goto (tgt := 3) hx hb dX10_add_55 (by decide) ?_
      refine lv_iload_n hx hb dX10_add_3 rfl (lv_at hl 0 rfl) ?_
      refine lv_if_lt (tgt := 58) hx hb dX10_add_4 (by decide) (fun c_11 => absurd c_11 (by decide)) (fun c_11 => ?_)
      refine lv_aload_n hx hb dX10_add_7 rfl (lv_at hl 1 rfl) ?_
      refine gf_X10_15 hx hb hts hown hK hP 0 rfl rfl dX10_add_8 ?_
      refine lv_if_lt (tgt := 52) hx hb dX10_add_11 (by decide) (fun c_12 => ?_) (fun c_12 => ?_)
      · skip
        exfalso
        have z_1 := Int32.le_iff_toInt_le.mp (Int32.not_lt.mp c_2)
        have z_2 := Int32.lt_iff_toInt_lt.mp (Int32.not_le.mp c_3)
        have z_3 := Int32.lt_iff_toInt_lt.mp c_12
        have y_0 : (0 : Int32).toInt = 0 := by decide
        have y_400 : (400 : Int32).toInt = 400 := by decide
        have y_1 : (1 : Int32).toInt = 1 := by decide
        have t_x_10 : x_10.toInt = ((Tv 0) : Int32).toInt + (1 : Int32).toInt := by rw [ex_10]; exact add_toInt (by omega) (by omega)
        omega
      · skip
        refine lv_aload_n hx hb dX10_add_14 rfl (lv_at hl 1 rfl) ?_
        refine gf_X10_15 hx hb hts hown hK hP 0 rfl rfl dX10_add_15 ?_
        refine lv_aload_n hx hb dX10_add_18 rfl (lv_at hl 1 rfl) ?_
        refine gf_X10_9 hx hb hts hown hK hP 0 rfl rfl dX10_add_19 ?_
        refine va_alen hx hb hK hP 1 0 rfl rfl (v := 400) rfl dX10_add_22 ?_
        refine lv_icmp_ge (tgt := 52) hx hb dX10_add_23 (by decide) (fun c_13 => ?_) (fun c_13 => ?_)
        · skip
          exfalso
          have z_1 := Int32.le_iff_toInt_le.mp (Int32.not_lt.mp c_2)
          have z_2 := Int32.lt_iff_toInt_lt.mp (Int32.not_le.mp c_3)
          have z_3 := Int32.le_iff_toInt_le.mp (Int32.not_lt.mp c_12)
          have z_4 := Int32.le_iff_toInt_le.mp c_13
          have y_0 : (0 : Int32).toInt = 0 := by decide
          have y_400 : (400 : Int32).toInt = 400 := by decide
          have y_1 : (1 : Int32).toInt = 1 := by decide
          have t_x_10 : x_10.toInt = ((Tv 0) : Int32).toInt + (1 : Int32).toInt := by rw [ex_10]; exact add_toInt (by omega) (by omega)
          omega
        · skip
          refine lv_aload_n hx hb dX10_add_26 rfl (lv_at hl 1 rfl) ?_
          refine gf_X10_9 hx hb hts hown hK hP 0 rfl rfl dX10_add_27 ?_
          refine lv_aload_n hx hb dX10_add_30 rfl (lv_at hl 1 rfl) ?_
          refine gf_X10_15 hx hb hts hown hK hP 0 rfl rfl dX10_add_31 ?_
          refine lv_iload_n hx hb dX10_add_34 rfl (lv_at hl 2 rfl) ?_
          refine lv_iload_n hx hb dX10_add_35 rfl (lv_at hl 0 rfl) ?_
          obtain ⟨x_14, ex_14⟩ : ∃ y : Int32, y = ((x1 : Int32).toUInt32 >>> ((16 : Int32).toUInt32 &&& Int32.toUInt32 31)).toInt32 := ⟨_, rfl⟩
          refine lv_iushr (v := x_14) hx hb dX10_add_36 ex_14.symm ?_
          refine lv_sipush (v := 255) hx hb dX10_add_37 (by decide) ?_
          refine lv_iand hx hb dX10_add_40 ?_
          refine lv_topi (fun x_15 ex_15 => ?_)
          have hi_16 : vp_in x_10 400 := by
            have z_1 := Int32.le_iff_toInt_le.mp (Int32.not_lt.mp c_2)
            have z_2 := Int32.lt_iff_toInt_lt.mp (Int32.not_le.mp c_3)
            have z_3 := Int32.le_iff_toInt_le.mp (Int32.not_lt.mp c_12)
            have z_4 := Int32.lt_iff_toInt_lt.mp (Int32.not_le.mp c_13)
            have y_0 : (0 : Int32).toInt = 0 := by decide
            have y_400 : (400 : Int32).toInt = 400 := by decide
            have y_1 : (1 : Int32).toInt = 1 := by decide
            have t_x_10 : x_10.toInt = ((Tv 0) : Int32).toInt + (1 : Int32).toInt := by rw [ex_10]; exact add_toInt (by omega) (by omega)
            refine vp_in_iff.mpr ⟨?_, ?_⟩ <;> omega
          refine st_int hx hb hK hP hD hS 1 0 rfl rfl hi_16 dX10_add_41 (fun g_17 H locs eg_17 hP₀ hD₀ hS₀ => ?_)
          replace hP : va_P D classes [((Ta 0), .inr (10, [.ref (Ta 1), .int x_10, .int (Tv 1), .int (Tv 2), .int (Tv 3), .int (Tv 4)])), ((Ta 1), .inl (tc 0, 400, .inl g_17))] H := hP₀
          replace hD : va_D A [((Ta 0), .inr (10, [.ref (Ta 1), .int x_10, .int (Tv 1), .int (Tv 2), .int (Tv 3), .int (Tv 4)])), ((Ta 1), .inl (tc 0, 400, .inl g_17))] := hD₀
          replace hS := hS₀
          clear hP₀ hD₀ hS₀
          have hz_18 := bz_c (v := x1) (n := 16) ex_14 ex_15
          have pf_19 : Byt g_17 := Byt.up pf_9 eg_17 hz_18.2
          refine lv_aload_n hx hb dX10_add_42 rfl (lv_at hl 1 rfl) ?_
          refine lv_dup hx hb dX10_add_43 rfl ?_
          refine gf_X10_15 hx hb hts hown hK hP 0 rfl rfl dX10_add_44 ?_
          refine lv_iconst (v := 1) hx hb dX10_add_47 (by decide) ?_
          refine lv_iadd hx hb dX10_add_48 ?_
          refine lv_topi (fun x_20 ex_20 => ?_)
          refine pf_X10_15 hx hb hts hown hK hP hD hS 0 rfl (Nat.le_of_ble_eq_true rfl) rfl rfl dX10_add_49 (fun H locs hP₀ hD₀ hS₀ => ?_)
          replace hP : va_P D classes [((Ta 0), .inr (10, [.ref (Ta 1), .int x_20, .int (Tv 1), .int (Tv 2), .int (Tv 3), .int (Tv 4)])), ((Ta 1), .inl (tc 0, 400, .inl g_17))] H := hP₀
          replace hD : va_D A [((Ta 0), .inr (10, [.ref (Ta 1), .int x_20, .int (Tv 1), .int (Tv 2), .int (Tv 3), .int (Tv 4)])), ((Ta 1), .inl (tc 0, 400, .inl g_17))] := hD₀
          replace hS := hS₀
          clear hP₀ hD₀ hS₀
          have tp_x_20 : (x_20 : Int32).toInt = (x_10 : Int32).toInt + 1 := by
            have z_1 := Int32.le_iff_toInt_le.mp (Int32.not_lt.mp c_2)
            have z_2 := Int32.lt_iff_toInt_lt.mp (Int32.not_le.mp c_3)
            have z_3 := Int32.le_iff_toInt_le.mp (Int32.not_lt.mp c_12)
            have z_4 := Int32.lt_iff_toInt_lt.mp (Int32.not_le.mp c_13)
            have y_0 : (0 : Int32).toInt = 0 := by decide
            have y_400 : (400 : Int32).toInt = 400 := by decide
            have y_1 : (1 : Int32).toInt = 1 := by decide
            have t_x_10 : x_10.toInt = ((Tv 0) : Int32).toInt + (1 : Int32).toInt := by rw [ex_10]; exact add_toInt (by omega) (by omega)
            have t_x_20 : x_20.toInt = (x_10 : Int32).toInt + (1 : Int32).toInt := by rw [ex_20]; exact add_toInt (by omega) (by omega)
            omega
          refine lv_iinc (v := 8) (lv' := [(2, .int 8), (0, .ref (Ta 0)), (1, .int x1)]) hx hb dX10_add_52 hl (k := 0) rfl (by decide) (by decide) rfl (fun ls hl₀ => ?_)
          replace hl := hl₀
          clear hl₀
          refine lv_goto (tgt := 3) hx hb dX10_add_55 (by decide) ?_
          refine lv_iload_n hx hb dX10_add_3 rfl (lv_at hl 0 rfl) ?_
          refine lv_if_lt (tgt := 58) hx hb dX10_add_4 (by decide) (fun c_21 => absurd c_21 (by decide)) (fun c_21 => ?_)
          refine lv_aload_n hx hb dX10_add_7 rfl (lv_at hl 1 rfl) ?_
          refine gf_X10_15 hx hb hts hown hK hP 0 rfl rfl dX10_add_8 ?_
          refine lv_if_lt (tgt := 52) hx hb dX10_add_11 (by decide) (fun c_22 => ?_) (fun c_22 => ?_)
          · skip
            exfalso
            have z_1 := Int32.le_iff_toInt_le.mp (Int32.not_lt.mp c_2)
            have z_2 := Int32.lt_iff_toInt_lt.mp (Int32.not_le.mp c_3)
            have z_3 := Int32.le_iff_toInt_le.mp (Int32.not_lt.mp c_12)
            have z_4 := Int32.lt_iff_toInt_lt.mp (Int32.not_le.mp c_13)
            have z_5 := Int32.lt_iff_toInt_lt.mp c_22
            have y_0 : (0 : Int32).toInt = 0 := by decide
            have y_400 : (400 : Int32).toInt = 400 := by decide
            have y_1 : (1 : Int32).toInt = 1 := by decide
            have t_x_10 : x_10.toInt = ((Tv 0) : Int32).toInt + (1 : Int32).toInt := by rw [ex_10]; exact add_toInt (by omega) (by omega)
            have t_x_20 : x_20.toInt = (x_10 : Int32).toInt + (1 : Int32).toInt := by rw [ex_20]; exact add_toInt (by omega) (by omega)
            omega
          · skip
            refine lv_aload_n hx hb dX10_add_14 rfl (lv_at hl 1 rfl) ?_
            refine gf_X10_15 hx hb hts hown hK hP 0 rfl rfl dX10_add_15 ?_
            refine lv_aload_n hx hb dX10_add_18 rfl (lv_at hl 1 rfl) ?_
            refine gf_X10_9 hx hb hts hown hK hP 0 rfl rfl dX10_add_19 ?_
            refine va_alen hx hb hK hP 1 0 rfl rfl (v := 400) rfl dX10_add_22 ?_
            refine lv_icmp_ge (tgt := 52) hx hb dX10_add_23 (by decide) (fun c_23 => ?_) (fun c_23 => ?_)
            · skip
              exfalso
              have z_1 := Int32.le_iff_toInt_le.mp (Int32.not_lt.mp c_2)
              have z_2 := Int32.lt_iff_toInt_lt.mp (Int32.not_le.mp c_3)
              have z_3 := Int32.le_iff_toInt_le.mp (Int32.not_lt.mp c_12)
              have z_4 := Int32.lt_iff_toInt_lt.mp (Int32.not_le.mp c_13)
              have z_5 := Int32.le_iff_toInt_le.mp (Int32.not_lt.mp c_22)
              have z_6 := Int32.le_iff_toInt_le.mp c_23
              have y_0 : (0 : Int32).toInt = 0 := by decide
              have y_400 : (400 : Int32).toInt = 400 := by decide
              have y_1 : (1 : Int32).toInt = 1 := by decide
              have t_x_10 : x_10.toInt = ((Tv 0) : Int32).toInt + (1 : Int32).toInt := by rw [ex_10]; exact add_toInt (by omega) (by omega)
              have t_x_20 : x_20.toInt = (x_10 : Int32).toInt + (1 : Int32).toInt := by rw [ex_20]; exact add_toInt (by omega) (by omega)
              omega
            · skip
              refine lv_aload_n hx hb dX10_add_26 rfl (lv_at hl 1 rfl) ?_
              refine gf_X10_9 hx hb hts hown hK hP 0 rfl rfl dX10_add_27 ?_
              refine lv_aload_n hx hb dX10_add_30 rfl (lv_at hl 1 rfl) ?_
              refine gf_X10_15 hx hb hts hown hK hP 0 rfl rfl dX10_add_31 ?_
              refine lv_iload_n hx hb dX10_add_34 rfl (lv_at hl 2 rfl) ?_
              refine lv_iload_n hx hb dX10_add_35 rfl (lv_at hl 0 rfl) ?_
              obtain ⟨x_24, ex_24⟩ : ∃ y : Int32, y = ((x1 : Int32).toUInt32 >>> ((8 : Int32).toUInt32 &&& Int32.toUInt32 31)).toInt32 := ⟨_, rfl⟩
              refine lv_iushr (v := x_24) hx hb dX10_add_36 ex_24.symm ?_
              refine lv_sipush (v := 255) hx hb dX10_add_37 (by decide) ?_
              refine lv_iand hx hb dX10_add_40 ?_
              refine lv_topi (fun x_25 ex_25 => ?_)
              have hi_26 : vp_in x_20 400 := by
                have z_1 := Int32.le_iff_toInt_le.mp (Int32.not_lt.mp c_2)
                have z_2 := Int32.lt_iff_toInt_lt.mp (Int32.not_le.mp c_3)
                have z_3 := Int32.le_iff_toInt_le.mp (Int32.not_lt.mp c_12)
                have z_4 := Int32.lt_iff_toInt_lt.mp (Int32.not_le.mp c_13)
                have z_5 := Int32.le_iff_toInt_le.mp (Int32.not_lt.mp c_22)
                have z_6 := Int32.lt_iff_toInt_lt.mp (Int32.not_le.mp c_23)
                have y_0 : (0 : Int32).toInt = 0 := by decide
                have y_400 : (400 : Int32).toInt = 400 := by decide
                have y_1 : (1 : Int32).toInt = 1 := by decide
                have t_x_10 : x_10.toInt = ((Tv 0) : Int32).toInt + (1 : Int32).toInt := by rw [ex_10]; exact add_toInt (by omega) (by omega)
                have t_x_20 : x_20.toInt = (x_10 : Int32).toInt + (1 : Int32).toInt := by rw [ex_20]; exact add_toInt (by omega) (by omega)
                refine vp_in_iff.mpr ⟨?_, ?_⟩ <;> omega
              refine st_int hx hb hK hP hD hS 1 0 rfl rfl hi_26 dX10_add_41 (fun g_27 H locs eg_27 hP₀ hD₀ hS₀ => ?_)
              replace hP : va_P D classes [((Ta 0), .inr (10, [.ref (Ta 1), .int x_20, .int (Tv 1), .int (Tv 2), .int (Tv 3), .int (Tv 4)])), ((Ta 1), .inl (tc 0, 400, .inl g_27))] H := hP₀
              replace hD : va_D A [((Ta 0), .inr (10, [.ref (Ta 1), .int x_20, .int (Tv 1), .int (Tv 2), .int (Tv 3), .int (Tv 4)])), ((Ta 1), .inl (tc 0, 400, .inl g_27))] := hD₀
              replace hS := hS₀
              clear hP₀ hD₀ hS₀
              have hz_28 := bz_c (v := x1) (n := 8) ex_24 ex_25
              have pf_29 : Byt g_27 := Byt.up pf_19 eg_27 hz_28.2
              refine lv_aload_n hx hb dX10_add_42 rfl (lv_at hl 1 rfl) ?_
              refine lv_dup hx hb dX10_add_43 rfl ?_
              refine gf_X10_15 hx hb hts hown hK hP 0 rfl rfl dX10_add_44 ?_
              refine lv_iconst (v := 1) hx hb dX10_add_47 (by decide) ?_
              refine lv_iadd hx hb dX10_add_48 ?_
              refine lv_topi (fun x_30 ex_30 => ?_)
              refine pf_X10_15 hx hb hts hown hK hP hD hS 0 rfl (Nat.le_of_ble_eq_true rfl) rfl rfl dX10_add_49 (fun H locs hP₀ hD₀ hS₀ => ?_)
              replace hP : va_P D classes [((Ta 0), .inr (10, [.ref (Ta 1), .int x_30, .int (Tv 1), .int (Tv 2), .int (Tv 3), .int (Tv 4)])), ((Ta 1), .inl (tc 0, 400, .inl g_27))] H := hP₀
              replace hD : va_D A [((Ta 0), .inr (10, [.ref (Ta 1), .int x_30, .int (Tv 1), .int (Tv 2), .int (Tv 3), .int (Tv 4)])), ((Ta 1), .inl (tc 0, 400, .inl g_27))] := hD₀
              replace hS := hS₀
              clear hP₀ hD₀ hS₀
              have tp_x_30 : (x_30 : Int32).toInt = (x_20 : Int32).toInt + 1 := by
                have z_1 := Int32.le_iff_toInt_le.mp (Int32.not_lt.mp c_2)
                have z_2 := Int32.lt_iff_toInt_lt.mp (Int32.not_le.mp c_3)
                have z_3 := Int32.le_iff_toInt_le.mp (Int32.not_lt.mp c_12)
                have z_4 := Int32.lt_iff_toInt_lt.mp (Int32.not_le.mp c_13)
                have z_5 := Int32.le_iff_toInt_le.mp (Int32.not_lt.mp c_22)
                have z_6 := Int32.lt_iff_toInt_lt.mp (Int32.not_le.mp c_23)
                have y_0 : (0 : Int32).toInt = 0 := by decide
                have y_400 : (400 : Int32).toInt = 400 := by decide
                have y_1 : (1 : Int32).toInt = 1 := by decide
                have t_x_10 : x_10.toInt = ((Tv 0) : Int32).toInt + (1 : Int32).toInt := by rw [ex_10]; exact add_toInt (by omega) (by omega)
                have t_x_20 : x_20.toInt = (x_10 : Int32).toInt + (1 : Int32).toInt := by rw [ex_20]; exact add_toInt (by omega) (by omega)
                have t_x_30 : x_30.toInt = (x_20 : Int32).toInt + (1 : Int32).toInt := by rw [ex_30]; exact add_toInt (by omega) (by omega)
                omega
              refine lv_iinc (v := 0) (lv' := [(2, .int 0), (0, .ref (Ta 0)), (1, .int x1)]) hx hb dX10_add_52 hl (k := 0) rfl (by decide) (by decide) rfl (fun ls hl₀ => ?_)
              replace hl := hl₀
              clear hl₀
              refine lv_goto (tgt := 3) hx hb dX10_add_55 (by decide) ?_
              refine lv_iload_n hx hb dX10_add_3 rfl (lv_at hl 0 rfl) ?_
              refine lv_if_lt (tgt := 58) hx hb dX10_add_4 (by decide) (fun c_31 => absurd c_31 (by decide)) (fun c_31 => ?_)
              refine lv_aload_n hx hb dX10_add_7 rfl (lv_at hl 1 rfl) ?_
              refine gf_X10_15 hx hb hts hown hK hP 0 rfl rfl dX10_add_8 ?_
              refine lv_if_lt (tgt := 52) hx hb dX10_add_11 (by decide) (fun c_32 => ?_) (fun c_32 => ?_)
              · skip
                exfalso
                have z_1 := Int32.le_iff_toInt_le.mp (Int32.not_lt.mp c_2)
                have z_2 := Int32.lt_iff_toInt_lt.mp (Int32.not_le.mp c_3)
                have z_3 := Int32.le_iff_toInt_le.mp (Int32.not_lt.mp c_12)
                have z_4 := Int32.lt_iff_toInt_lt.mp (Int32.not_le.mp c_13)
                have z_5 := Int32.le_iff_toInt_le.mp (Int32.not_lt.mp c_22)
                have z_6 := Int32.lt_iff_toInt_lt.mp (Int32.not_le.mp c_23)
                have z_7 := Int32.lt_iff_toInt_lt.mp c_32
                have y_0 : (0 : Int32).toInt = 0 := by decide
                have y_400 : (400 : Int32).toInt = 400 := by decide
                have y_1 : (1 : Int32).toInt = 1 := by decide
                have t_x_10 : x_10.toInt = ((Tv 0) : Int32).toInt + (1 : Int32).toInt := by rw [ex_10]; exact add_toInt (by omega) (by omega)
                have t_x_20 : x_20.toInt = (x_10 : Int32).toInt + (1 : Int32).toInt := by rw [ex_20]; exact add_toInt (by omega) (by omega)
                have t_x_30 : x_30.toInt = (x_20 : Int32).toInt + (1 : Int32).toInt := by rw [ex_30]; exact add_toInt (by omega) (by omega)
                omega
              · skip
                refine lv_aload_n hx hb dX10_add_14 rfl (lv_at hl 1 rfl) ?_
                refine gf_X10_15 hx hb hts hown hK hP 0 rfl rfl dX10_add_15 ?_
                refine lv_aload_n hx hb dX10_add_18 rfl (lv_at hl 1 rfl) ?_
                refine gf_X10_9 hx hb hts hown hK hP 0 rfl rfl dX10_add_19 ?_
                refine va_alen hx hb hK hP 1 0 rfl rfl (v := 400) rfl dX10_add_22 ?_
                refine lv_icmp_ge (tgt := 52) hx hb dX10_add_23 (by decide) (fun c_33 => ?_) (fun c_33 => ?_)
                · skip
                  exfalso
                  have z_1 := Int32.le_iff_toInt_le.mp (Int32.not_lt.mp c_2)
                  have z_2 := Int32.lt_iff_toInt_lt.mp (Int32.not_le.mp c_3)
                  have z_3 := Int32.le_iff_toInt_le.mp (Int32.not_lt.mp c_12)
                  have z_4 := Int32.lt_iff_toInt_lt.mp (Int32.not_le.mp c_13)
                  have z_5 := Int32.le_iff_toInt_le.mp (Int32.not_lt.mp c_22)
                  have z_6 := Int32.lt_iff_toInt_lt.mp (Int32.not_le.mp c_23)
                  have z_7 := Int32.le_iff_toInt_le.mp (Int32.not_lt.mp c_32)
                  have z_8 := Int32.le_iff_toInt_le.mp c_33
                  have y_0 : (0 : Int32).toInt = 0 := by decide
                  have y_400 : (400 : Int32).toInt = 400 := by decide
                  have y_1 : (1 : Int32).toInt = 1 := by decide
                  have t_x_10 : x_10.toInt = ((Tv 0) : Int32).toInt + (1 : Int32).toInt := by rw [ex_10]; exact add_toInt (by omega) (by omega)
                  have t_x_20 : x_20.toInt = (x_10 : Int32).toInt + (1 : Int32).toInt := by rw [ex_20]; exact add_toInt (by omega) (by omega)
                  have t_x_30 : x_30.toInt = (x_20 : Int32).toInt + (1 : Int32).toInt := by rw [ex_30]; exact add_toInt (by omega) (by omega)
                  omega
                · skip
                  refine lv_aload_n hx hb dX10_add_26 rfl (lv_at hl 1 rfl) ?_
                  refine gf_X10_9 hx hb hts hown hK hP 0 rfl rfl dX10_add_27 ?_
                  refine lv_aload_n hx hb dX10_add_30 rfl (lv_at hl 1 rfl) ?_
                  refine gf_X10_15 hx hb hts hown hK hP 0 rfl rfl dX10_add_31 ?_
                  refine lv_iload_n hx hb dX10_add_34 rfl (lv_at hl 2 rfl) ?_
                  refine lv_iload_n hx hb dX10_add_35 rfl (lv_at hl 0 rfl) ?_
                  obtain ⟨x_34, ex_34⟩ : ∃ y : Int32, y = ((x1 : Int32).toUInt32 >>> ((0 : Int32).toUInt32 &&& Int32.toUInt32 31)).toInt32 := ⟨_, rfl⟩
                  refine lv_iushr (v := x_34) hx hb dX10_add_36 ex_34.symm ?_
                  refine lv_sipush (v := 255) hx hb dX10_add_37 (by decide) ?_
                  refine lv_iand hx hb dX10_add_40 ?_
                  refine lv_topi (fun x_35 ex_35 => ?_)
                  have hi_36 : vp_in x_30 400 := by
                    have z_1 := Int32.le_iff_toInt_le.mp (Int32.not_lt.mp c_2)
                    have z_2 := Int32.lt_iff_toInt_lt.mp (Int32.not_le.mp c_3)
                    have z_3 := Int32.le_iff_toInt_le.mp (Int32.not_lt.mp c_12)
                    have z_4 := Int32.lt_iff_toInt_lt.mp (Int32.not_le.mp c_13)
                    have z_5 := Int32.le_iff_toInt_le.mp (Int32.not_lt.mp c_22)
                    have z_6 := Int32.lt_iff_toInt_lt.mp (Int32.not_le.mp c_23)
                    have z_7 := Int32.le_iff_toInt_le.mp (Int32.not_lt.mp c_32)
                    have z_8 := Int32.lt_iff_toInt_lt.mp (Int32.not_le.mp c_33)
                    have y_0 : (0 : Int32).toInt = 0 := by decide
                    have y_400 : (400 : Int32).toInt = 400 := by decide
                    have y_1 : (1 : Int32).toInt = 1 := by decide
                    have t_x_10 : x_10.toInt = ((Tv 0) : Int32).toInt + (1 : Int32).toInt := by rw [ex_10]; exact add_toInt (by omega) (by omega)
                    have t_x_20 : x_20.toInt = (x_10 : Int32).toInt + (1 : Int32).toInt := by rw [ex_20]; exact add_toInt (by omega) (by omega)
                    have t_x_30 : x_30.toInt = (x_20 : Int32).toInt + (1 : Int32).toInt := by rw [ex_30]; exact add_toInt (by omega) (by omega)
                    refine vp_in_iff.mpr ⟨?_, ?_⟩ <;> omega
                  refine st_int hx hb hK hP hD hS 1 0 rfl rfl hi_36 dX10_add_41 (fun g_37 H locs eg_37 hP₀ hD₀ hS₀ => ?_)
                  replace hP : va_P D classes [((Ta 0), .inr (10, [.ref (Ta 1), .int x_30, .int (Tv 1), .int (Tv 2), .int (Tv 3), .int (Tv 4)])), ((Ta 1), .inl (tc 0, 400, .inl g_37))] H := hP₀
                  replace hD : va_D A [((Ta 0), .inr (10, [.ref (Ta 1), .int x_30, .int (Tv 1), .int (Tv 2), .int (Tv 3), .int (Tv 4)])), ((Ta 1), .inl (tc 0, 400, .inl g_37))] := hD₀
                  replace hS := hS₀
                  clear hP₀ hD₀ hS₀
                  have hz_38 := bz_c (v := x1) (n := 0) ex_34 ex_35
                  have pf_39 : Byt g_37 := Byt.up pf_29 eg_37 hz_38.2
                  refine lv_aload_n hx hb dX10_add_42 rfl (lv_at hl 1 rfl) ?_
                  refine lv_dup hx hb dX10_add_43 rfl ?_
                  refine gf_X10_15 hx hb hts hown hK hP 0 rfl rfl dX10_add_44 ?_
                  refine lv_iconst (v := 1) hx hb dX10_add_47 (by decide) ?_
                  refine lv_iadd hx hb dX10_add_48 ?_
                  refine lv_topi (fun x_40 ex_40 => ?_)
                  refine pf_X10_15 hx hb hts hown hK hP hD hS 0 rfl (Nat.le_of_ble_eq_true rfl) rfl rfl dX10_add_49 (fun H locs hP₀ hD₀ hS₀ => ?_)
                  replace hP : va_P D classes [((Ta 0), .inr (10, [.ref (Ta 1), .int x_40, .int (Tv 1), .int (Tv 2), .int (Tv 3), .int (Tv 4)])), ((Ta 1), .inl (tc 0, 400, .inl g_37))] H := hP₀
                  replace hD : va_D A [((Ta 0), .inr (10, [.ref (Ta 1), .int x_40, .int (Tv 1), .int (Tv 2), .int (Tv 3), .int (Tv 4)])), ((Ta 1), .inl (tc 0, 400, .inl g_37))] := hD₀
                  replace hS := hS₀
                  clear hP₀ hD₀ hS₀
                  have tp_x_40 : (x_40 : Int32).toInt = (x_30 : Int32).toInt + 1 := by
                    have z_1 := Int32.le_iff_toInt_le.mp (Int32.not_lt.mp c_2)
                    have z_2 := Int32.lt_iff_toInt_lt.mp (Int32.not_le.mp c_3)
                    have z_3 := Int32.le_iff_toInt_le.mp (Int32.not_lt.mp c_12)
                    have z_4 := Int32.lt_iff_toInt_lt.mp (Int32.not_le.mp c_13)
                    have z_5 := Int32.le_iff_toInt_le.mp (Int32.not_lt.mp c_22)
                    have z_6 := Int32.lt_iff_toInt_lt.mp (Int32.not_le.mp c_23)
                    have z_7 := Int32.le_iff_toInt_le.mp (Int32.not_lt.mp c_32)
                    have z_8 := Int32.lt_iff_toInt_lt.mp (Int32.not_le.mp c_33)
                    have y_0 : (0 : Int32).toInt = 0 := by decide
                    have y_400 : (400 : Int32).toInt = 400 := by decide
                    have y_1 : (1 : Int32).toInt = 1 := by decide
                    have t_x_10 : x_10.toInt = ((Tv 0) : Int32).toInt + (1 : Int32).toInt := by rw [ex_10]; exact add_toInt (by omega) (by omega)
                    have t_x_20 : x_20.toInt = (x_10 : Int32).toInt + (1 : Int32).toInt := by rw [ex_20]; exact add_toInt (by omega) (by omega)
                    have t_x_30 : x_30.toInt = (x_20 : Int32).toInt + (1 : Int32).toInt := by rw [ex_30]; exact add_toInt (by omega) (by omega)
                    have t_x_40 : x_40.toInt = (x_30 : Int32).toInt + (1 : Int32).toInt := by rw [ex_40]; exact add_toInt (by omega) (by omega)
                    omega
                  refine lv_iinc (v := (-8)) (lv' := [(2, .int (-8)), (0, .ref (Ta 0)), (1, .int x1)]) hx hb dX10_add_52 hl (k := 0) rfl (by decide) (by decide) rfl (fun ls hl₀ => ?_)
                  replace hl := hl₀
                  clear hl₀
                  refine lv_goto (tgt := 3) hx hb dX10_add_55 (by decide) ?_
                  refine lv_iload_n hx hb dX10_add_3 rfl (lv_at hl 0 rfl) ?_
                  refine lv_if_lt (tgt := 58) hx hb dX10_add_4 (by decide) (fun c_41 => ?_) (fun c_41 => absurd c_41 (by decide))
                  have ha_42 : 0 ≤ (x_40 : Int32).toInt ∧ (x_40 : Int32).toInt ≤ 400 ∧ 0 ≤ ((Tv 1) : Int32).toInt ∧ ((Tv 1) : Int32).toInt ≤ 400 ∧ 0 ≤ ((Tv 2) : Int32).toInt ∧ ((Tv 2) : Int32).toInt ≤ 400 := by
                    have z_1 := Int32.le_iff_toInt_le.mp (Int32.not_lt.mp c_2)
                    have z_2 := Int32.lt_iff_toInt_lt.mp (Int32.not_le.mp c_3)
                    have z_3 := Int32.le_iff_toInt_le.mp (Int32.not_lt.mp c_12)
                    have z_4 := Int32.lt_iff_toInt_lt.mp (Int32.not_le.mp c_13)
                    have z_5 := Int32.le_iff_toInt_le.mp (Int32.not_lt.mp c_22)
                    have z_6 := Int32.lt_iff_toInt_lt.mp (Int32.not_le.mp c_23)
                    have z_7 := Int32.le_iff_toInt_le.mp (Int32.not_lt.mp c_32)
                    have z_8 := Int32.lt_iff_toInt_lt.mp (Int32.not_le.mp c_33)
                    have y_0 : (0 : Int32).toInt = 0 := by decide
                    have y_400 : (400 : Int32).toInt = 400 := by decide
                    have y_1 : (1 : Int32).toInt = 1 := by decide
                    have t_x_10 : x_10.toInt = ((Tv 0) : Int32).toInt + (1 : Int32).toInt := by rw [ex_10]; exact add_toInt (by omega) (by omega)
                    have t_x_20 : x_20.toInt = (x_10 : Int32).toInt + (1 : Int32).toInt := by rw [ex_20]; exact add_toInt (by omega) (by omega)
                    have t_x_30 : x_30.toInt = (x_20 : Int32).toInt + (1 : Int32).toInt := by rw [ex_30]; exact add_toInt (by omega) (by omega)
                    have t_x_40 : x_40.toInt = (x_30 : Int32).toInt + (1 : Int32).toInt := by rw [ex_40]; exact add_toInt (by omega) (by omega)
                    omega
                  have ha_43 : (x_40 : Int32).toInt = (Tv 0).toInt + 4 := by
                    have z_1 := Int32.le_iff_toInt_le.mp (Int32.not_lt.mp c_2)
                    have z_2 := Int32.lt_iff_toInt_lt.mp (Int32.not_le.mp c_3)
                    have z_3 := Int32.le_iff_toInt_le.mp (Int32.not_lt.mp c_12)
                    have z_4 := Int32.lt_iff_toInt_lt.mp (Int32.not_le.mp c_13)
                    have z_5 := Int32.le_iff_toInt_le.mp (Int32.not_lt.mp c_22)
                    have z_6 := Int32.lt_iff_toInt_lt.mp (Int32.not_le.mp c_23)
                    have z_7 := Int32.le_iff_toInt_le.mp (Int32.not_lt.mp c_32)
                    have z_8 := Int32.lt_iff_toInt_lt.mp (Int32.not_le.mp c_33)
                    have y_0 : (0 : Int32).toInt = 0 := by decide
                    have y_400 : (400 : Int32).toInt = 400 := by decide
                    have y_1 : (1 : Int32).toInt = 1 := by decide
                    have t_x_10 : x_10.toInt = ((Tv 0) : Int32).toInt + (1 : Int32).toInt := by rw [ex_10]; exact add_toInt (by omega) (by omega)
                    have t_x_20 : x_20.toInt = (x_10 : Int32).toInt + (1 : Int32).toInt := by rw [ex_20]; exact add_toInt (by omega) (by omega)
                    have t_x_30 : x_30.toInt = (x_20 : Int32).toInt + (1 : Int32).toInt := by rw [ex_30]; exact add_toInt (by omega) (by omega)
                    have t_x_40 : x_40.toInt = (x_30 : Int32).toInt + (1 : Int32).toInt := by rw [ex_40]; exact add_toInt (by omega) (by omega)
                    omega
                  have hr_44 : ((Tv 0) : Int32).toInt = ((Tv 0) : Int32).toInt ∧ (x_10 : Int32).toInt = ((Tv 0) : Int32).toInt + 1 ∧ (x_20 : Int32).toInt = ((Tv 0) : Int32).toInt + 2 ∧ (x_30 : Int32).toInt = ((Tv 0) : Int32).toInt + 3 ∧ (x_40 : Int32).toInt = ((Tv 0) : Int32).toInt + 4 := by
                    have z_1 := Int32.le_iff_toInt_le.mp (Int32.not_lt.mp c_2)
                    have z_2 := Int32.lt_iff_toInt_lt.mp (Int32.not_le.mp c_3)
                    have z_3 := Int32.le_iff_toInt_le.mp (Int32.not_lt.mp c_12)
                    have z_4 := Int32.lt_iff_toInt_lt.mp (Int32.not_le.mp c_13)
                    have z_5 := Int32.le_iff_toInt_le.mp (Int32.not_lt.mp c_22)
                    have z_6 := Int32.lt_iff_toInt_lt.mp (Int32.not_le.mp c_23)
                    have z_7 := Int32.le_iff_toInt_le.mp (Int32.not_lt.mp c_32)
                    have z_8 := Int32.lt_iff_toInt_lt.mp (Int32.not_le.mp c_33)
                    have y_0 : (0 : Int32).toInt = 0 := by decide
                    have y_400 : (400 : Int32).toInt = 400 := by decide
                    have y_1 : (1 : Int32).toInt = 1 := by decide
                    have t_x_10 : x_10.toInt = ((Tv 0) : Int32).toInt + (1 : Int32).toInt := by rw [ex_10]; exact add_toInt (by omega) (by omega)
                    have t_x_20 : x_20.toInt = (x_10 : Int32).toInt + (1 : Int32).toInt := by rw [ex_20]; exact add_toInt (by omega) (by omega)
                    have t_x_30 : x_30.toInt = (x_20 : Int32).toInt + (1 : Int32).toInt := by rw [ex_30]; exact add_toInt (by omega) (by omega)
                    have t_x_40 : x_40.toInt = (x_30 : Int32).toInt + (1 : Int32).toInt := by rw [ex_40]; exact add_toInt (by omega) (by omega)
                    omega
                  have hr_45 : 0 ≤ ((Tv 0) : Int32).toInt := by
                    have z_1 := Int32.le_iff_toInt_le.mp (Int32.not_lt.mp c_2)
                    have z_2 := Int32.lt_iff_toInt_lt.mp (Int32.not_le.mp c_3)
                    have z_3 := Int32.le_iff_toInt_le.mp (Int32.not_lt.mp c_12)
                    have z_4 := Int32.lt_iff_toInt_lt.mp (Int32.not_le.mp c_13)
                    have z_5 := Int32.le_iff_toInt_le.mp (Int32.not_lt.mp c_22)
                    have z_6 := Int32.lt_iff_toInt_lt.mp (Int32.not_le.mp c_23)
                    have z_7 := Int32.le_iff_toInt_le.mp (Int32.not_lt.mp c_32)
                    have z_8 := Int32.lt_iff_toInt_lt.mp (Int32.not_le.mp c_33)
                    have y_0 : (0 : Int32).toInt = 0 := by decide
                    have y_400 : (400 : Int32).toInt = 400 := by decide
                    have y_1 : (1 : Int32).toInt = 1 := by decide
                    have t_x_10 : x_10.toInt = ((Tv 0) : Int32).toInt + (1 : Int32).toInt := by rw [ex_10]; exact add_toInt (by omega) (by omega)
                    have t_x_20 : x_20.toInt = (x_10 : Int32).toInt + (1 : Int32).toInt := by rw [ex_20]; exact add_toInt (by omega) (by omega)
                    have t_x_30 : x_30.toInt = (x_20 : Int32).toInt + (1 : Int32).toInt := by rw [ex_30]; exact add_toInt (by omega) (by omega)
                    omega
                  exact retV hx hb hr hlk hP hD hS (x_40, g_37) ⟨rfl, ha_42, ha_43, pf_39, (FdB.of hr_45 eg_7 eg_17 eg_27 eg_37 hr_44 hz_8.1 hz_18.1 hz_28.1 hz_38.1)⟩ [0, 1] rfl rfl dX10_add_58 (Nat.le_of_ble_eq_true rfl) (Nat.le_of_ble_eq_true rfl) rfl
set_option maxRecDepth 100000 in
theorem cu_fX10_add (l : Launch) (D : va_G) (tc : Nat → ClassId) (sk : (Nat → Nat) × (Nat → Nat)) (Ta_0 : Nat) (Ta_1 : Nat) (Tv_0 : Int32) (Tv_1 : Int32) (Tv_2 : Int32) (Tv_3 : Int32) (Tv_4 : Int32) (Tf_1 : Nat → Int32) (x1 : Int32) (h_tape : 0 ≤ (Tv_0 : Int32).toInt ∧ (Tv_0 : Int32).toInt ≤ 400 ∧ 0 ≤ (Tv_1 : Int32).toInt ∧ (Tv_1 : Int32).toInt ≤ 400 ∧ 0 ≤ (Tv_2 : Int32).toInt ∧ (Tv_2 : Int32).toInt ≤ 400) (h_by : Byt Tf_1) (hroom : Tv_0.toInt ≤ 396) : Ct l yX10_add cX10_add 3 none { frames := 0, cells := 0, slots := 0, locals := 0 } D tc sk [.ref Ta_0, .int x1] [(Ta_0, .inr (10, [.ref Ta_1, .int Tv_0, .int Tv_1, .int Tv_2, .int Tv_3, .int Tv_4])), (Ta_1, .inl (tc 0, 400, .inl Tf_1))] (fun (v : Option Value) (u : (Int32) × (Nat → Int32)) => match u with | (oo0x1, oo0x2) => v = none ∧ (0 ≤ (oo0x1 : Int32).toInt ∧ (oo0x1 : Int32).toInt ≤ 400 ∧ 0 ≤ (Tv_1 : Int32).toInt ∧ (Tv_1 : Int32).toInt ≤ 400 ∧ 0 ≤ (Tv_2 : Int32).toInt ∧ (Tv_2 : Int32).toInt ≤ 400) ∧ ((oo0x1 : Int32).toInt = Tv_0.toInt + 4) ∧ (Byt oo0x2) ∧ (FdB Tf_1 oo0x2 Tv_0 oo0x1 x1)) (fun (u : (Int32) × (Nat → Int32)) => match u with | (oo0x1, oo0x2) => [(Ta_0, .inr (10, [.ref Ta_1, .int oo0x1, .int Tv_1, .int Tv_2, .int Tv_3, .int Tv_4])), (Ta_1, .inl (tc 0, 400, .inl oo0x2))]) 0 0 :=
  ct_fX10_add l D tc sk (fun k => ([Ta_0, Ta_1] : List (Nat)).getD k 0) (fun k => ([Tv_0, Tv_1, Tv_2, Tv_3, Tv_4] : List (Int32)).getD k 0) (fun k => ([(fun _ => 0), Tf_1] : List (Nat → Int32)).getD k (fun _ => 0)) x1 h_tape h_by hroom
set_option maxHeartbeats 4000000 in
set_option maxRecDepth 100000 in
theorem ct_fX11_feed (l : Launch) (D : va_G) (tc : Nat → ClassId) (sk : (Nat → Nat) × (Nat → Nat)) (Ga : Nat → Nat) (Gv : Nat → Int32) (Ta : Nat → Nat) (Tv : Nat → Int32) (Tf : Nat → Nat → Int32) (x1 : Int32) (x2 : Int32) (x3 : Int32) (x4 : Int32) (x5 : Int32) (h_tape : 0 ≤ ((Tv 0) : Int32).toInt ∧ ((Tv 0) : Int32).toInt ≤ 400 ∧ 0 ≤ ((Tv 1) : Int32).toInt ∧ ((Tv 1) : Int32).toInt ≤ 400 ∧ 0 ≤ ((Tv 2) : Int32).toInt ∧ ((Tv 2) : Int32).toInt ≤ 400) (h_by : Byt (Tf 1)) : Ct l yX11_feed cX11_feed 6 (some .int) { frames := 1, cells := 0, slots := 0, locals := 22 } D tc sk [.ref (Ga 0), .int x1, .int x2, .int x3, .int x4, .int x5] [((Ga 0), .inr (11, [.ref (Ta 0), .ref (Ga 2), .ref (Ga 3), .ref (Ga 4), .int (Gv 0), .ref (Ga 5), .ref (Ga 6), .ref (Ga 7), .ref (Ga 8), .ref (Ga 9), .ref (Ga 10), .ref (Ga 11)])), ((Ta 0), .inr (10, [.ref (Ta 1), .int (Tv 0), .int (Tv 1), .int (Tv 2), .int (Tv 3), .int (Tv 4)])), ((Ta 1), .inl (tc 0, 400, .inl (Tf 1)))] (fun (v : Option Value) (u : (Int32) × (Nat → Int32)) => match u with | (oo0x1, oo0x2) => ∃ r : Int32, v = some (.int r) ∧ (FeP (Tf 1) oo0x2 (Tv 0) oo0x1 x1 x2 x3 x4 x5 r) ∧ (0 ≤ (oo0x1 : Int32).toInt ∧ (oo0x1 : Int32).toInt ≤ 400 ∧ 0 ≤ ((Tv 1) : Int32).toInt ∧ ((Tv 1) : Int32).toInt ≤ 400 ∧ 0 ≤ ((Tv 2) : Int32).toInt ∧ ((Tv 2) : Int32).toInt ≤ 400) ∧ (Byt oo0x2)) (fun (u : (Int32) × (Nat → Int32)) => match u with | (oo0x1, oo0x2) => [((Ga 0), .inr (11, [.ref (Ta 0), .ref (Ga 2), .ref (Ga 3), .ref (Ga 4), .int (Gv 0), .ref (Ga 5), .ref (Ga 6), .ref (Ga 7), .ref (Ga 8), .ref (Ga 9), .ref (Ga 10), .ref (Ga 11)])), ((Ta 0), .inr (10, [.ref (Ta 1), .int oo0x1, .int (Tv 1), .int (Tv 2), .int (Tv 3), .int (Tv 4)])), ((Ta 1), .inl (tc 0, 400, .inl oo0x2))]) 0 0 := by
  refine Ct.start (by decide) (Nat.le_of_ble_eq_true rfl) (fun p e s m below meth c A ls hx hb hr hlk hin hml hown hts hK hX hP hD hA hl hS => ?_)
  have hl : lv_has ls 6 [(0, .ref (Ga 0)), (1, .int x1), (2, .int x2), (3, .int x3), (4, .int x4), (5, .int x5)] := hl
  refine lv_aload_n hx hb dX11_feed_0 rfl (lv_at hl 0 rfl) ?_
  refine gf_X11_10 hx hb hts hown hK hP 0 rfl rfl dX11_feed_1 ?_
  refine cV (a := (Ta 0)) (As := []) (rest := []) (wr := [((Ga 0), .inr (11, [.ref (Ta 0), .ref (Ga 2), .ref (Ga 3), .ref (Ga 4), .int (Gv 0), .ref (Ga 5), .ref (Ga 6), .ref (Ga 7), .ref (Ga 8), .ref (Ga 9), .ref (Ga 10), .ref (Ga 11)]))]) ⟨hx, hb, hml, hown, hts⟩ hK hX hA (cu_fX10_hasRoom l D tc sk (Ta 0) (Ta 1) (Tv 0) (Tv 1) (Tv 2) (Tv 3) (Tv 4) (Tf 1) h_tape) k_450 k_447 k_448 k_449 k_96 pl_X10_hasRoom ⟨Nat.le_of_ble_eq_true rfl, Nat.le_of_ble_eq_true rfl⟩ rfl rfl (va_recv hK hP (ci := 10) (q0 := 1) rfl rfl) hP hD hS [1, 2] [0] rfl rfl rfl rfl rfl (by decide) rfl hl.1 rfl (Nat.le_of_ble_eq_true rfl) dX11_feed_4 ⟨Nat.le_of_ble_eq_true rfl, Nat.le_of_ble_eq_true rfl⟩ (fun v_1 u_2 H locs hv_3 hP₀ hD₀ hS₀ => ?_)
  obtain ⟨r_4, rfl, he_5⟩ := hv_3
  have he_5 : ((r_4.toInt = 0 ∧ 380 < (Tv 0).toInt) ∨ (r_4.toInt = 1 ∧ (Tv 0).toInt ≤ 380)) := he_5
  refine W.eq (g2 := F0 m 7 ls [.int r_4]) rfl ?_
  replace hP : va_P D classes [((Ga 0), .inr (11, [.ref (Ta 0), .ref (Ga 2), .ref (Ga 3), .ref (Ga 4), .int (Gv 0), .ref (Ga 5), .ref (Ga 6), .ref (Ga 7), .ref (Ga 8), .ref (Ga 9), .ref (Ga 10), .ref (Ga 11)])), ((Ta 0), .inr (10, [.ref (Ta 1), .int (Tv 0), .int (Tv 1), .int (Tv 2), .int (Tv 3), .int (Tv 4)])), ((Ta 1), .inl (tc 0, 400, .inl (Tf 1)))] H := hP₀
  replace hD : va_D A [((Ga 0), .inr (11, [.ref (Ta 0), .ref (Ga 2), .ref (Ga 3), .ref (Ga 4), .int (Gv 0), .ref (Ga 5), .ref (Ga 6), .ref (Ga 7), .ref (Ga 8), .ref (Ga 9), .ref (Ga 10), .ref (Ga 11)])), ((Ta 0), .inr (10, [.ref (Ta 1), .int (Tv 0), .int (Tv 1), .int (Tv 2), .int (Tv 3), .int (Tv 4)])), ((Ta 1), .inl (tc 0, 400, .inl (Tf 1)))] := hD₀
  replace hS := hS₀
  clear hP₀ hD₀ hS₀
  refine lv_if_ne (tgt := 12) hx hb dX11_feed_7 (by decide) (fun c_7 => ?_) (fun c_7 => ?_)
  · skip
    refine lv_aload_n hx hb dX11_feed_12 rfl (lv_at hl 0 rfl) ?_
    refine gf_X11_10 hx hb hts hown hK hP 0 rfl rfl dX11_feed_13 ?_
    refine lv_iload_n hx hb dX11_feed_16 rfl (lv_at hl 1 rfl) ?_
    have ha_8 : (Tv 0).toInt ≤ 396 := by
      have z_1 : ¬ (r_4 : Int32).toInt = (0 : Int32).toInt := fun z => c_7 (Int32.toInt_inj.mp z)
      have y_0 : (0 : Int32).toInt = 0 := by decide
      omega
    refine cV (a := (Ta 0)) (As := [.int x1]) (rest := []) (wr := [((Ga 0), .inr (11, [.ref (Ta 0), .ref (Ga 2), .ref (Ga 3), .ref (Ga 4), .int (Gv 0), .ref (Ga 5), .ref (Ga 6), .ref (Ga 7), .ref (Ga 8), .ref (Ga 9), .ref (Ga 10), .ref (Ga 11)]))]) ⟨hx, hb, hml, hown, hts⟩ hK hX hA (cu_fX10_add l D tc sk (Ta 0) (Ta 1) (Tv 0) (Tv 1) (Tv 2) (Tv 3) (Tv 4) (Tf 1) x1 h_tape h_by ha_8) k_454 k_451 k_452 k_453 k_96 pl_X10_add ⟨Nat.le_of_ble_eq_true rfl, Nat.le_of_ble_eq_true rfl⟩ rfl rfl (va_recv hK hP (ci := 10) (q0 := 1) rfl rfl) hP hD hS [1, 2] [0] rfl rfl rfl rfl rfl (by decide) rfl hl.1 rfl (Nat.le_of_ble_eq_true rfl) dX11_feed_17 ⟨Nat.le_of_ble_eq_true rfl, Nat.le_of_ble_eq_true rfl⟩ (fun v_9 u_10 H locs hv_11 hP₀ hD₀ hS₀ => ?_)
    obtain ⟨sv_12, sv_13⟩ := u_10
    obtain ⟨rfl, pf_14, pf_15, pf_16, pf_17⟩ := hv_11
    have pf_14 : 0 ≤ (sv_12 : Int32).toInt ∧ (sv_12 : Int32).toInt ≤ 400 ∧ 0 ≤ ((Tv 1) : Int32).toInt ∧ ((Tv 1) : Int32).toInt ≤ 400 ∧ 0 ≤ ((Tv 2) : Int32).toInt ∧ ((Tv 2) : Int32).toInt ≤ 400 := pf_14
    have pf_15 : (sv_12 : Int32).toInt = (Tv 0).toInt + 4 := pf_15
    have pf_16 : Byt sv_13 := pf_16
    have pf_17 : FdB (Tf 1) sv_13 (Tv 0) sv_12 x1 := pf_17
    have ar_pf_17 := pf_17.1
    refine W.eq (g2 := F0 m 20 ls []) rfl ?_
    replace hP : va_P D classes [((Ga 0), .inr (11, [.ref (Ta 0), .ref (Ga 2), .ref (Ga 3), .ref (Ga 4), .int (Gv 0), .ref (Ga 5), .ref (Ga 6), .ref (Ga 7), .ref (Ga 8), .ref (Ga 9), .ref (Ga 10), .ref (Ga 11)])), ((Ta 0), .inr (10, [.ref (Ta 1), .int sv_12, .int (Tv 1), .int (Tv 2), .int (Tv 3), .int (Tv 4)])), ((Ta 1), .inl (tc 0, 400, .inl sv_13))] H := hP₀
    replace hD : va_D A [((Ga 0), .inr (11, [.ref (Ta 0), .ref (Ga 2), .ref (Ga 3), .ref (Ga 4), .int (Gv 0), .ref (Ga 5), .ref (Ga 6), .ref (Ga 7), .ref (Ga 8), .ref (Ga 9), .ref (Ga 10), .ref (Ga 11)])), ((Ta 0), .inr (10, [.ref (Ta 1), .int sv_12, .int (Tv 1), .int (Tv 2), .int (Tv 3), .int (Tv 4)])), ((Ta 1), .inl (tc 0, 400, .inl sv_13))] := hD₀
    replace hS := hS₀
    clear hP₀ hD₀ hS₀
    refine lv_aload_n hx hb dX11_feed_20 rfl (lv_at hl 0 rfl) ?_
    refine gf_X11_10 hx hb hts hown hK hP 0 rfl rfl dX11_feed_21 ?_
    refine lv_iload_n hx hb dX11_feed_24 rfl (lv_at hl 2 rfl) ?_
    have ha_18 : sv_12.toInt ≤ 396 := by
      have z_1 : ¬ (r_4 : Int32).toInt = (0 : Int32).toInt := fun z => c_7 (Int32.toInt_inj.mp z)
      have y_0 : (0 : Int32).toInt = 0 := by decide
      omega
    refine cV (a := (Ta 0)) (As := [.int x2]) (rest := []) (wr := [((Ga 0), .inr (11, [.ref (Ta 0), .ref (Ga 2), .ref (Ga 3), .ref (Ga 4), .int (Gv 0), .ref (Ga 5), .ref (Ga 6), .ref (Ga 7), .ref (Ga 8), .ref (Ga 9), .ref (Ga 10), .ref (Ga 11)]))]) ⟨hx, hb, hml, hown, hts⟩ hK hX hA (cu_fX10_add l D tc sk (Ta 0) (Ta 1) sv_12 (Tv 1) (Tv 2) (Tv 3) (Tv 4) sv_13 x2 pf_14 pf_16 ha_18) k_454 k_451 k_452 k_453 k_96 pl_X10_add ⟨Nat.le_of_ble_eq_true rfl, Nat.le_of_ble_eq_true rfl⟩ rfl rfl (va_recv hK hP (ci := 10) (q0 := 1) rfl rfl) hP hD hS [1, 2] [0] rfl rfl rfl rfl rfl (by decide) rfl hl.1 rfl (Nat.le_of_ble_eq_true rfl) dX11_feed_25 ⟨Nat.le_of_ble_eq_true rfl, Nat.le_of_ble_eq_true rfl⟩ (fun v_19 u_20 H locs hv_21 hP₀ hD₀ hS₀ => ?_)
    obtain ⟨sv_22, sv_23⟩ := u_20
    obtain ⟨rfl, pf_24, pf_25, pf_26, pf_27⟩ := hv_21
    have pf_24 : 0 ≤ (sv_22 : Int32).toInt ∧ (sv_22 : Int32).toInt ≤ 400 ∧ 0 ≤ ((Tv 1) : Int32).toInt ∧ ((Tv 1) : Int32).toInt ≤ 400 ∧ 0 ≤ ((Tv 2) : Int32).toInt ∧ ((Tv 2) : Int32).toInt ≤ 400 := pf_24
    have pf_25 : (sv_22 : Int32).toInt = sv_12.toInt + 4 := pf_25
    have pf_26 : Byt sv_23 := pf_26
    have pf_27 : FdB sv_13 sv_23 sv_12 sv_22 x2 := pf_27
    have ar_pf_27 := pf_27.1
    refine W.eq (g2 := F0 m 28 ls []) rfl ?_
    replace hP : va_P D classes [((Ga 0), .inr (11, [.ref (Ta 0), .ref (Ga 2), .ref (Ga 3), .ref (Ga 4), .int (Gv 0), .ref (Ga 5), .ref (Ga 6), .ref (Ga 7), .ref (Ga 8), .ref (Ga 9), .ref (Ga 10), .ref (Ga 11)])), ((Ta 0), .inr (10, [.ref (Ta 1), .int sv_22, .int (Tv 1), .int (Tv 2), .int (Tv 3), .int (Tv 4)])), ((Ta 1), .inl (tc 0, 400, .inl sv_23))] H := hP₀
    replace hD : va_D A [((Ga 0), .inr (11, [.ref (Ta 0), .ref (Ga 2), .ref (Ga 3), .ref (Ga 4), .int (Gv 0), .ref (Ga 5), .ref (Ga 6), .ref (Ga 7), .ref (Ga 8), .ref (Ga 9), .ref (Ga 10), .ref (Ga 11)])), ((Ta 0), .inr (10, [.ref (Ta 1), .int sv_22, .int (Tv 1), .int (Tv 2), .int (Tv 3), .int (Tv 4)])), ((Ta 1), .inl (tc 0, 400, .inl sv_23))] := hD₀
    replace hS := hS₀
    clear hP₀ hD₀ hS₀
    refine lv_aload_n hx hb dX11_feed_28 rfl (lv_at hl 0 rfl) ?_
    refine gf_X11_10 hx hb hts hown hK hP 0 rfl rfl dX11_feed_29 ?_
    refine lv_iload_n hx hb dX11_feed_32 rfl (lv_at hl 3 rfl) ?_
    have ha_28 : sv_22.toInt ≤ 396 := by
      have z_1 : ¬ (r_4 : Int32).toInt = (0 : Int32).toInt := fun z => c_7 (Int32.toInt_inj.mp z)
      have y_0 : (0 : Int32).toInt = 0 := by decide
      omega
    refine cV (a := (Ta 0)) (As := [.int x3]) (rest := []) (wr := [((Ga 0), .inr (11, [.ref (Ta 0), .ref (Ga 2), .ref (Ga 3), .ref (Ga 4), .int (Gv 0), .ref (Ga 5), .ref (Ga 6), .ref (Ga 7), .ref (Ga 8), .ref (Ga 9), .ref (Ga 10), .ref (Ga 11)]))]) ⟨hx, hb, hml, hown, hts⟩ hK hX hA (cu_fX10_add l D tc sk (Ta 0) (Ta 1) sv_22 (Tv 1) (Tv 2) (Tv 3) (Tv 4) sv_23 x3 pf_24 pf_26 ha_28) k_454 k_451 k_452 k_453 k_96 pl_X10_add ⟨Nat.le_of_ble_eq_true rfl, Nat.le_of_ble_eq_true rfl⟩ rfl rfl (va_recv hK hP (ci := 10) (q0 := 1) rfl rfl) hP hD hS [1, 2] [0] rfl rfl rfl rfl rfl (by decide) rfl hl.1 rfl (Nat.le_of_ble_eq_true rfl) dX11_feed_33 ⟨Nat.le_of_ble_eq_true rfl, Nat.le_of_ble_eq_true rfl⟩ (fun v_29 u_30 H locs hv_31 hP₀ hD₀ hS₀ => ?_)
    obtain ⟨sv_32, sv_33⟩ := u_30
    obtain ⟨rfl, pf_34, pf_35, pf_36, pf_37⟩ := hv_31
    have pf_34 : 0 ≤ (sv_32 : Int32).toInt ∧ (sv_32 : Int32).toInt ≤ 400 ∧ 0 ≤ ((Tv 1) : Int32).toInt ∧ ((Tv 1) : Int32).toInt ≤ 400 ∧ 0 ≤ ((Tv 2) : Int32).toInt ∧ ((Tv 2) : Int32).toInt ≤ 400 := pf_34
    have pf_35 : (sv_32 : Int32).toInt = sv_22.toInt + 4 := pf_35
    have pf_36 : Byt sv_33 := pf_36
    have pf_37 : FdB sv_23 sv_33 sv_22 sv_32 x3 := pf_37
    have ar_pf_37 := pf_37.1
    refine W.eq (g2 := F0 m 36 ls []) rfl ?_
    replace hP : va_P D classes [((Ga 0), .inr (11, [.ref (Ta 0), .ref (Ga 2), .ref (Ga 3), .ref (Ga 4), .int (Gv 0), .ref (Ga 5), .ref (Ga 6), .ref (Ga 7), .ref (Ga 8), .ref (Ga 9), .ref (Ga 10), .ref (Ga 11)])), ((Ta 0), .inr (10, [.ref (Ta 1), .int sv_32, .int (Tv 1), .int (Tv 2), .int (Tv 3), .int (Tv 4)])), ((Ta 1), .inl (tc 0, 400, .inl sv_33))] H := hP₀
    replace hD : va_D A [((Ga 0), .inr (11, [.ref (Ta 0), .ref (Ga 2), .ref (Ga 3), .ref (Ga 4), .int (Gv 0), .ref (Ga 5), .ref (Ga 6), .ref (Ga 7), .ref (Ga 8), .ref (Ga 9), .ref (Ga 10), .ref (Ga 11)])), ((Ta 0), .inr (10, [.ref (Ta 1), .int sv_32, .int (Tv 1), .int (Tv 2), .int (Tv 3), .int (Tv 4)])), ((Ta 1), .inl (tc 0, 400, .inl sv_33))] := hD₀
    replace hS := hS₀
    clear hP₀ hD₀ hS₀
    refine lv_aload_n hx hb dX11_feed_36 rfl (lv_at hl 0 rfl) ?_
    refine gf_X11_10 hx hb hts hown hK hP 0 rfl rfl dX11_feed_37 ?_
    refine lv_iload hx hb dX11_feed_40 (lv_at hl 4 rfl) ?_
    have ha_38 : sv_32.toInt ≤ 396 := by
      have z_1 : ¬ (r_4 : Int32).toInt = (0 : Int32).toInt := fun z => c_7 (Int32.toInt_inj.mp z)
      have y_0 : (0 : Int32).toInt = 0 := by decide
      omega
    refine cV (a := (Ta 0)) (As := [.int x4]) (rest := []) (wr := [((Ga 0), .inr (11, [.ref (Ta 0), .ref (Ga 2), .ref (Ga 3), .ref (Ga 4), .int (Gv 0), .ref (Ga 5), .ref (Ga 6), .ref (Ga 7), .ref (Ga 8), .ref (Ga 9), .ref (Ga 10), .ref (Ga 11)]))]) ⟨hx, hb, hml, hown, hts⟩ hK hX hA (cu_fX10_add l D tc sk (Ta 0) (Ta 1) sv_32 (Tv 1) (Tv 2) (Tv 3) (Tv 4) sv_33 x4 pf_34 pf_36 ha_38) k_454 k_451 k_452 k_453 k_96 pl_X10_add ⟨Nat.le_of_ble_eq_true rfl, Nat.le_of_ble_eq_true rfl⟩ rfl rfl (va_recv hK hP (ci := 10) (q0 := 1) rfl rfl) hP hD hS [1, 2] [0] rfl rfl rfl rfl rfl (by decide) rfl hl.1 rfl (Nat.le_of_ble_eq_true rfl) dX11_feed_42 ⟨Nat.le_of_ble_eq_true rfl, Nat.le_of_ble_eq_true rfl⟩ (fun v_39 u_40 H locs hv_41 hP₀ hD₀ hS₀ => ?_)
    obtain ⟨sv_42, sv_43⟩ := u_40
    obtain ⟨rfl, pf_44, pf_45, pf_46, pf_47⟩ := hv_41
    have pf_44 : 0 ≤ (sv_42 : Int32).toInt ∧ (sv_42 : Int32).toInt ≤ 400 ∧ 0 ≤ ((Tv 1) : Int32).toInt ∧ ((Tv 1) : Int32).toInt ≤ 400 ∧ 0 ≤ ((Tv 2) : Int32).toInt ∧ ((Tv 2) : Int32).toInt ≤ 400 := pf_44
    have pf_45 : (sv_42 : Int32).toInt = sv_32.toInt + 4 := pf_45
    have pf_46 : Byt sv_43 := pf_46
    have pf_47 : FdB sv_33 sv_43 sv_32 sv_42 x4 := pf_47
    have ar_pf_47 := pf_47.1
    refine W.eq (g2 := F0 m 45 ls []) rfl ?_
    replace hP : va_P D classes [((Ga 0), .inr (11, [.ref (Ta 0), .ref (Ga 2), .ref (Ga 3), .ref (Ga 4), .int (Gv 0), .ref (Ga 5), .ref (Ga 6), .ref (Ga 7), .ref (Ga 8), .ref (Ga 9), .ref (Ga 10), .ref (Ga 11)])), ((Ta 0), .inr (10, [.ref (Ta 1), .int sv_42, .int (Tv 1), .int (Tv 2), .int (Tv 3), .int (Tv 4)])), ((Ta 1), .inl (tc 0, 400, .inl sv_43))] H := hP₀
    replace hD : va_D A [((Ga 0), .inr (11, [.ref (Ta 0), .ref (Ga 2), .ref (Ga 3), .ref (Ga 4), .int (Gv 0), .ref (Ga 5), .ref (Ga 6), .ref (Ga 7), .ref (Ga 8), .ref (Ga 9), .ref (Ga 10), .ref (Ga 11)])), ((Ta 0), .inr (10, [.ref (Ta 1), .int sv_42, .int (Tv 1), .int (Tv 2), .int (Tv 3), .int (Tv 4)])), ((Ta 1), .inl (tc 0, 400, .inl sv_43))] := hD₀
    replace hS := hS₀
    clear hP₀ hD₀ hS₀
    refine lv_aload_n hx hb dX11_feed_45 rfl (lv_at hl 0 rfl) ?_
    refine gf_X11_10 hx hb hts hown hK hP 0 rfl rfl dX11_feed_46 ?_
    refine lv_iload hx hb dX11_feed_49 (lv_at hl 5 rfl) ?_
    have ha_48 : sv_42.toInt ≤ 396 := by
      have z_1 : ¬ (r_4 : Int32).toInt = (0 : Int32).toInt := fun z => c_7 (Int32.toInt_inj.mp z)
      have y_0 : (0 : Int32).toInt = 0 := by decide
      omega
    refine cV (a := (Ta 0)) (As := [.int x5]) (rest := []) (wr := [((Ga 0), .inr (11, [.ref (Ta 0), .ref (Ga 2), .ref (Ga 3), .ref (Ga 4), .int (Gv 0), .ref (Ga 5), .ref (Ga 6), .ref (Ga 7), .ref (Ga 8), .ref (Ga 9), .ref (Ga 10), .ref (Ga 11)]))]) ⟨hx, hb, hml, hown, hts⟩ hK hX hA (cu_fX10_add l D tc sk (Ta 0) (Ta 1) sv_42 (Tv 1) (Tv 2) (Tv 3) (Tv 4) sv_43 x5 pf_44 pf_46 ha_48) k_454 k_451 k_452 k_453 k_96 pl_X10_add ⟨Nat.le_of_ble_eq_true rfl, Nat.le_of_ble_eq_true rfl⟩ rfl rfl (va_recv hK hP (ci := 10) (q0 := 1) rfl rfl) hP hD hS [1, 2] [0] rfl rfl rfl rfl rfl (by decide) rfl hl.1 rfl (Nat.le_of_ble_eq_true rfl) dX11_feed_51 ⟨Nat.le_of_ble_eq_true rfl, Nat.le_of_ble_eq_true rfl⟩ (fun v_49 u_50 H locs hv_51 hP₀ hD₀ hS₀ => ?_)
    obtain ⟨sv_52, sv_53⟩ := u_50
    obtain ⟨rfl, pf_54, pf_55, pf_56, pf_57⟩ := hv_51
    have pf_54 : 0 ≤ (sv_52 : Int32).toInt ∧ (sv_52 : Int32).toInt ≤ 400 ∧ 0 ≤ ((Tv 1) : Int32).toInt ∧ ((Tv 1) : Int32).toInt ≤ 400 ∧ 0 ≤ ((Tv 2) : Int32).toInt ∧ ((Tv 2) : Int32).toInt ≤ 400 := pf_54
    have pf_55 : (sv_52 : Int32).toInt = sv_42.toInt + 4 := pf_55
    have pf_56 : Byt sv_53 := pf_56
    have pf_57 : FdB sv_43 sv_53 sv_42 sv_52 x5 := pf_57
    have ar_pf_57 := pf_57.1
    refine W.eq (g2 := F0 m 54 ls []) rfl ?_
    replace hP : va_P D classes [((Ga 0), .inr (11, [.ref (Ta 0), .ref (Ga 2), .ref (Ga 3), .ref (Ga 4), .int (Gv 0), .ref (Ga 5), .ref (Ga 6), .ref (Ga 7), .ref (Ga 8), .ref (Ga 9), .ref (Ga 10), .ref (Ga 11)])), ((Ta 0), .inr (10, [.ref (Ta 1), .int sv_52, .int (Tv 1), .int (Tv 2), .int (Tv 3), .int (Tv 4)])), ((Ta 1), .inl (tc 0, 400, .inl sv_53))] H := hP₀
    replace hD : va_D A [((Ga 0), .inr (11, [.ref (Ta 0), .ref (Ga 2), .ref (Ga 3), .ref (Ga 4), .int (Gv 0), .ref (Ga 5), .ref (Ga 6), .ref (Ga 7), .ref (Ga 8), .ref (Ga 9), .ref (Ga 10), .ref (Ga 11)])), ((Ta 0), .inr (10, [.ref (Ta 1), .int sv_52, .int (Tv 1), .int (Tv 2), .int (Tv 3), .int (Tv 4)])), ((Ta 1), .inl (tc 0, 400, .inl sv_53))] := hD₀
    replace hS := hS₀
    clear hP₀ hD₀ hS₀
    refine lv_aload_n hx hb dX11_feed_54 rfl (lv_at hl 0 rfl) ?_
    refine gf_X11_10 hx hb hts hown hK hP 0 rfl rfl dX11_feed_55 ?_
    refine gf_X11_94 hx hb hts hown hK hP 1 rfl rfl dX11_feed_58 ?_
    have hr_58 : (Tv 0).toInt ≤ 380 := by
      have z_1 : ¬ (r_4 : Int32).toInt = (0 : Int32).toInt := fun z => c_7 (Int32.toInt_inj.mp z)
      have y_0 : (0 : Int32).toInt = 0 := by decide
      omega
    exact retI (v := sv_52) hx hb hr hlk (rfl) hP hD hS (sv_52, sv_53) ⟨_, rfl, (Or.inr ⟨hr_58, rfl, _, _, _, _, _, _, _, _, pf_17, pf_27, pf_37, pf_47, pf_57⟩), pf_54, pf_56⟩ [0, 1, 2] rfl rfl dX11_feed_61 (Nat.le_of_ble_eq_true rfl) (Nat.le_of_ble_eq_true rfl) rfl
  · skip
    refine lv_iconst (v := (-1)) hx hb dX11_feed_10 (by decide) ?_
    have hr_59 : 380 < (Tv 0).toInt := by
      have z_1 := congrArg Int32.toInt c_7
      have y_0 : (0 : Int32).toInt = 0 := by decide
      omega
    have hr_60 : ((-1) : Int32).toInt = -1 := by
      have z_1 := congrArg Int32.toInt c_7
      have y_0 : (0 : Int32).toInt = 0 := by decide
      have y_m1 : (-1 : Int32).toInt = -1 := by decide
      omega
    exact retI (v := (-1)) hx hb hr hlk (rfl) hP hD hS ((Tv 0), (Tf 1)) ⟨_, rfl, (Or.inl ⟨hr_59, hr_60, rfl, rfl⟩), h_tape, h_by⟩ [0, 1, 2] rfl rfl dX11_feed_11 (Nat.le_of_ble_eq_true rfl) (Nat.le_of_ble_eq_true rfl) rfl
set_option maxHeartbeats 4000000 in
set_option maxRecDepth 100000 in
theorem ct_fX11_end (l : Launch) (D : va_G) (tc : Nat → ClassId) (sk : (Nat → Nat) × (Nat → Nat)) (Ga : Nat → Nat) (Gv : Nat → Int32) (Ta : Nat → Nat) (Tv : Nat → Int32) (Tf : Nat → Nat → Int32) (x1 : Int32) (h_tape : 0 ≤ ((Tv 0) : Int32).toInt ∧ ((Tv 0) : Int32).toInt ≤ 400 ∧ 0 ≤ ((Tv 1) : Int32).toInt ∧ ((Tv 1) : Int32).toInt ≤ 400 ∧ 0 ≤ ((Tv 2) : Int32).toInt ∧ ((Tv 2) : Int32).toInt ≤ 400) : Ct l yX11_end cX11_end 2 (some .int) { frames := 0, cells := 0, slots := 0, locals := 0 } D tc sk [.ref (Ga 0), .int x1] [((Ga 0), .inr (11, [.ref (Ta 0), .ref (Ga 2), .ref (Ga 3), .ref (Ga 4), .int (Gv 0), .ref (Ga 5), .ref (Ga 6), .ref (Ga 7), .ref (Ga 8), .ref (Ga 9), .ref (Ga 10), .ref (Ga 11)])), ((Ta 0), .inr (10, [.ref (Ta 1), .int (Tv 0), .int (Tv 1), .int (Tv 2), .int (Tv 3), .int (Tv 4)])), ((Ta 1), .inl (tc 0, 400, .inl (Tf 1)))] (fun (v : Option Value) (oo0x1 : Int32) => ∃ r : Int32, v = some (.int r) ∧ (EnP (Tv 0) oo0x1 x1 r) ∧ (0 ≤ (oo0x1 : Int32).toInt ∧ (oo0x1 : Int32).toInt ≤ 400 ∧ 0 ≤ ((Tv 1) : Int32).toInt ∧ ((Tv 1) : Int32).toInt ≤ 400 ∧ 0 ≤ ((Tv 2) : Int32).toInt ∧ ((Tv 2) : Int32).toInt ≤ 400)) (fun (oo0x1 : Int32) => [((Ga 0), .inr (11, [.ref (Ta 0), .ref (Ga 2), .ref (Ga 3), .ref (Ga 4), .int (Gv 0), .ref (Ga 5), .ref (Ga 6), .ref (Ga 7), .ref (Ga 8), .ref (Ga 9), .ref (Ga 10), .ref (Ga 11)])), ((Ta 0), .inr (10, [.ref (Ta 1), .int oo0x1, .int (Tv 1), .int (Tv 2), .int (Tv 3), .int (Tv 4)])), ((Ta 1), .inl (tc 0, 400, .inl (Tf 1)))]) 0 0 := by
  refine Ct.start (by decide) (Nat.le_of_ble_eq_true rfl) (fun p e s m below meth c A ls hx hb hr hlk hin hml hown hts hK hX hP hD hA hl hS => ?_)
  have hl : lv_has ls 2 [(0, .ref (Ga 0)), (1, .int x1)] := hl
  refine lv_iload_n hx hb dX11_end_0 rfl (lv_at hl 1 rfl) ?_
  refine lv_if_lt (tgt := 15) hx hb dX11_end_1 (by decide) (fun c_1 => ?_) (fun c_1 => ?_)
  · skip
    refine lv_iconst (v := (-1)) hx hb dX11_end_15 (by decide) ?_
    have hr_2 : x1.toInt < 0 ∨ (Tv 0).toInt < x1.toInt := by
      have z_1 := Int32.lt_iff_toInt_lt.mp c_1
      have y_0 : (0 : Int32).toInt = 0 := by decide
      omega
    have hr_3 : ((-1) : Int32).toInt = -1 := by
      have z_1 := Int32.lt_iff_toInt_lt.mp c_1
      have y_0 : (0 : Int32).toInt = 0 := by decide
      have y_m1 : (-1 : Int32).toInt = -1 := by decide
      omega
    exact retI (v := (-1)) hx hb hr hlk (rfl) hP hD hS (Tv 0) ⟨_, rfl, (Or.inl ⟨hr_2, hr_3, rfl⟩), h_tape⟩ [0, 1, 2] rfl rfl dX11_end_16 (Nat.le_of_ble_eq_true rfl) (Nat.le_of_ble_eq_true rfl) rfl
  · skip
    refine lv_iload_n hx hb dX11_end_4 rfl (lv_at hl 1 rfl) ?_
    refine lv_aload_n hx hb dX11_end_5 rfl (lv_at hl 0 rfl) ?_
    refine gf_X11_10 hx hb hts hown hK hP 0 rfl rfl dX11_end_6 ?_
    refine gf_X11_94 hx hb hts hown hK hP 1 rfl rfl dX11_end_9 ?_
    refine lv_icmp_le (tgt := 17) hx hb dX11_end_12 (by decide) (fun c_4 => ?_) (fun c_4 => ?_)
    · skip
      refine lv_aload_n hx hb dX11_end_17 rfl (lv_at hl 0 rfl) ?_
      refine gf_X11_10 hx hb hts hown hK hP 0 rfl rfl dX11_end_18 ?_
      refine lv_iload_n hx hb dX11_end_21 rfl (lv_at hl 1 rfl) ?_
      refine pf_X11_94 hx hb hts hown hK hP hD hS 1 rfl (Nat.le_of_ble_eq_true rfl) rfl rfl dX11_end_22 (fun H locs hP₀ hD₀ hS₀ => ?_)
      replace hP : va_P D classes [((Ga 0), .inr (11, [.ref (Ta 0), .ref (Ga 2), .ref (Ga 3), .ref (Ga 4), .int (Gv 0), .ref (Ga 5), .ref (Ga 6), .ref (Ga 7), .ref (Ga 8), .ref (Ga 9), .ref (Ga 10), .ref (Ga 11)])), ((Ta 0), .inr (10, [.ref (Ta 1), .int x1, .int (Tv 1), .int (Tv 2), .int (Tv 3), .int (Tv 4)])), ((Ta 1), .inl (tc 0, 400, .inl (Tf 1)))] H := hP₀
      replace hD : va_D A [((Ga 0), .inr (11, [.ref (Ta 0), .ref (Ga 2), .ref (Ga 3), .ref (Ga 4), .int (Gv 0), .ref (Ga 5), .ref (Ga 6), .ref (Ga 7), .ref (Ga 8), .ref (Ga 9), .ref (Ga 10), .ref (Ga 11)])), ((Ta 0), .inr (10, [.ref (Ta 1), .int x1, .int (Tv 1), .int (Tv 2), .int (Tv 3), .int (Tv 4)])), ((Ta 1), .inl (tc 0, 400, .inl (Tf 1)))] := hD₀
      replace hS := hS₀
      clear hP₀ hD₀ hS₀
      refine lv_iload_n hx hb dX11_end_25 rfl (lv_at hl 1 rfl) ?_
      have ha_5 : 0 ≤ (x1 : Int32).toInt ∧ (x1 : Int32).toInt ≤ 400 ∧ 0 ≤ ((Tv 1) : Int32).toInt ∧ ((Tv 1) : Int32).toInt ≤ 400 ∧ 0 ≤ ((Tv 2) : Int32).toInt ∧ ((Tv 2) : Int32).toInt ≤ 400 := by
        have z_1 := Int32.le_iff_toInt_le.mp (Int32.not_lt.mp c_1)
        have z_2 := Int32.le_iff_toInt_le.mp c_4
        have y_0 : (0 : Int32).toInt = 0 := by decide
        omega
      have hr_6 : 0 ≤ x1.toInt ∧ x1.toInt ≤ (Tv 0).toInt := by
        have z_1 := Int32.le_iff_toInt_le.mp (Int32.not_lt.mp c_1)
        have z_2 := Int32.le_iff_toInt_le.mp c_4
        have y_0 : (0 : Int32).toInt = 0 := by decide
        omega
      exact retI (v := x1) hx hb hr hlk (rfl) hP hD hS x1 ⟨_, rfl, (Or.inr ⟨hr_6, rfl, rfl⟩), ha_5⟩ [0, 1, 2] rfl rfl dX11_end_26 (Nat.le_of_ble_eq_true rfl) (Nat.le_of_ble_eq_true rfl) rfl
    · skip
      refine lv_iconst (v := (-1)) hx hb dX11_end_15 (by decide) ?_
      have hr_7 : x1.toInt < 0 ∨ (Tv 0).toInt < x1.toInt := by
        have z_1 := Int32.le_iff_toInt_le.mp (Int32.not_lt.mp c_1)
        have z_2 := Int32.lt_iff_toInt_lt.mp (Int32.not_le.mp c_4)
        have y_0 : (0 : Int32).toInt = 0 := by decide
        omega
      have hr_8 : ((-1) : Int32).toInt = -1 := by
        have z_1 := Int32.le_iff_toInt_le.mp (Int32.not_lt.mp c_1)
        have z_2 := Int32.lt_iff_toInt_lt.mp (Int32.not_le.mp c_4)
        have y_0 : (0 : Int32).toInt = 0 := by decide
        have y_m1 : (-1 : Int32).toInt = -1 := by decide
        omega
      exact retI (v := (-1)) hx hb hr hlk (rfl) hP hD hS (Tv 0) ⟨_, rfl, (Or.inl ⟨hr_7, hr_8, rfl⟩), h_tape⟩ [0, 1, 2] rfl rfl dX11_end_16 (Nat.le_of_ble_eq_true rfl) (Nat.le_of_ble_eq_true rfl) rfl
set_option maxHeartbeats 4000000 in
set_option maxRecDepth 100000 in
theorem ct_fX12_four (l : Launch) (D : va_G) (tc : Nat → ClassId) (sk : (Nat → Nat) × (Nat → Nat)) (Ma : Nat → Nat) (Mv : Nat → Int32) (Mf : Nat → Nat → Int32) (Mj : Nat → Int64) (x1 : Int32) (h_t : 0 ≤ (Mv 0).toInt ∧ (Mv 0).toInt ≤ 396) (h_bs : ByS (Mf 1)) : Ct l yX12_four cX12_four 3 none { frames := 0, cells := 0, slots := 0, locals := 0 } D tc sk [.ref (Ma 0), .int x1] [((Ma 0), .inr (12, [.ref (Ma 1), .int (Mv 0), .int (Mv 1), .ref (Ma 2), .ref (Ma 3), .ref (Ma 4), .ref (Ma 5), .ref (Ma 6), .int (Mv 2), .int (Mv 3), .int (Mv 4), .int (Mv 5), .int (Mv 6), .int (Mv 7), .int (Mv 8), .ref (Ma 7), .int (Mv 9), .ref (Ma 8), .int (Mv 10), .ref (Ma 9), .ref (Ma 10), .int (Mv 11), .int (Mv 12), .int (Mv 13), .ref (Ma 11), .int (Mv 14), .ref (Ma 12), .ref (Ma 13), .ref (Ma 14), .ref (Ma 15), .ref (Ma 16), .long (Mj 0), .ref (Ma 17), .ref (Ma 18), .ref (Ma 19), .ref (Ma 20)])), ((Ma 1), .inl (tc 2, 400, .inl (Mf 1)))] (fun (v : Option Value) (u : (Int32) × (Nat → Int32)) => match u with | (oo0x1, oo0x2) => v = none ∧ ((oo0x1 : Int32).toInt = (Mv 0).toInt + 4) ∧ (ByS oo0x2) ∧ (FdB (Mf 1) oo0x2 (Mv 0) oo0x1 x1)) (fun (u : (Int32) × (Nat → Int32)) => match u with | (oo0x1, oo0x2) => [((Ma 0), .inr (12, [.ref (Ma 1), .int oo0x1, .int (Mv 1), .ref (Ma 2), .ref (Ma 3), .ref (Ma 4), .ref (Ma 5), .ref (Ma 6), .int (Mv 2), .int (Mv 3), .int (Mv 4), .int (Mv 5), .int (Mv 6), .int (Mv 7), .int (Mv 8), .ref (Ma 7), .int (Mv 9), .ref (Ma 8), .int (Mv 10), .ref (Ma 9), .ref (Ma 10), .int (Mv 11), .int (Mv 12), .int (Mv 13), .ref (Ma 11), .int (Mv 14), .ref (Ma 12), .ref (Ma 13), .ref (Ma 14), .ref (Ma 15), .ref (Ma 16), .long (Mj 0), .ref (Ma 17), .ref (Ma 18), .ref (Ma 19), .ref (Ma 20)])), ((Ma 1), .inl (tc 2, 400, .inl oo0x2))]) 0 0 := by
  refine Ct.start (by decide) (Nat.le_of_ble_eq_true rfl) (fun p e s m below meth c A ls hx hb hr hlk hin hml hown hts hK hX hP hD hA hl hS => ?_)
  have hl : lv_has ls 3 [(0, .ref (Ma 0)), (1, .int x1)] := hl
  refine lv_bipush (v := 24) hx hb dX12_four_0 (by decide) ?_
  refine lv_istore_n (lv' := [(2, .int 24), (0, .ref (Ma 0)), (1, .int x1)]) hx hb dX12_four_2 rfl hl (by decide) rfl (fun ls hl₀ => ?_)
  replace hl := hl₀
  clear hl₀
  refine lv_iload_n hx hb dX12_four_3 rfl (lv_at hl 0 rfl) ?_
  refine lv_if_lt (tgt := 36) hx hb dX12_four_4 (by decide) (fun c_1 => absurd c_1 (by decide)) (fun c_1 => ?_)
  refine lv_aload_n hx hb dX12_four_7 rfl (lv_at hl 1 rfl) ?_
  refine gf_X12_7 hx hb hts hown hK hP 0 rfl rfl dX12_four_8 ?_
  refine lv_aload_n hx hb dX12_four_11 rfl (lv_at hl 1 rfl) ?_
  refine gf_X12_77 hx hb hts hown hK hP 0 rfl rfl dX12_four_12 ?_
  refine lv_iload_n hx hb dX12_four_15 rfl (lv_at hl 2 rfl) ?_
  refine lv_iload_n hx hb dX12_four_16 rfl (lv_at hl 0 rfl) ?_
  refine lv_ishr hx hb dX12_four_17 ?_
  refine lv_topi (fun x_2 ex_2 => ?_)
  obtain ⟨x_3, ex_3⟩ : ∃ y : Int32, y = (x_2 : Int32).toInt8.toInt32 := ⟨_, rfl⟩
  refine lv_i2b (v := x_3) hx hb dX12_four_18 ex_3.symm ?_
  have hi_4 : vp_in (Mv 0) 400 := by
    refine vp_in_iff.mpr ⟨?_, ?_⟩ <;> omega
  refine st_byte hx hb hK hP hD hS 1 2 rfl rfl hi_4 dX12_four_19 (fun g_5 H locs eg_5 hP₀ hD₀ hS₀ => ?_)
  replace hP : va_P D classes [((Ma 0), .inr (12, [.ref (Ma 1), .int (Mv 0), .int (Mv 1), .ref (Ma 2), .ref (Ma 3), .ref (Ma 4), .ref (Ma 5), .ref (Ma 6), .int (Mv 2), .int (Mv 3), .int (Mv 4), .int (Mv 5), .int (Mv 6), .int (Mv 7), .int (Mv 8), .ref (Ma 7), .int (Mv 9), .ref (Ma 8), .int (Mv 10), .ref (Ma 9), .ref (Ma 10), .int (Mv 11), .int (Mv 12), .int (Mv 13), .ref (Ma 11), .int (Mv 14), .ref (Ma 12), .ref (Ma 13), .ref (Ma 14), .ref (Ma 15), .ref (Ma 16), .long (Mj 0), .ref (Ma 17), .ref (Ma 18), .ref (Ma 19), .ref (Ma 20)])), ((Ma 1), .inl (tc 2, 400, .inl g_5))] H := hP₀
  replace hD : va_D A [((Ma 0), .inr (12, [.ref (Ma 1), .int (Mv 0), .int (Mv 1), .ref (Ma 2), .ref (Ma 3), .ref (Ma 4), .ref (Ma 5), .ref (Ma 6), .int (Mv 2), .int (Mv 3), .int (Mv 4), .int (Mv 5), .int (Mv 6), .int (Mv 7), .int (Mv 8), .ref (Ma 7), .int (Mv 9), .ref (Ma 8), .int (Mv 10), .ref (Ma 9), .ref (Ma 10), .int (Mv 11), .int (Mv 12), .int (Mv 13), .ref (Ma 11), .int (Mv 14), .ref (Ma 12), .ref (Ma 13), .ref (Ma 14), .ref (Ma 15), .ref (Ma 16), .long (Mj 0), .ref (Ma 17), .ref (Ma 18), .ref (Ma 19), .ref (Ma 20)])), ((Ma 1), .inl (tc 2, 400, .inl g_5))] := hD₀
  replace hS := hS₀
  clear hP₀ hD₀ hS₀
  have hz_6 := bz_rn (v := x1) (n := 24) (by decide) ex_2 ex_3
  have pf_7 : ByS g_5 := ByS.up h_bs eg_5 hz_6.2
  refine lv_aload_n hx hb dX12_four_20 rfl (lv_at hl 1 rfl) ?_
  refine lv_dup hx hb dX12_four_21 rfl ?_
  refine gf_X12_77 hx hb hts hown hK hP 0 rfl rfl dX12_four_22 ?_
  refine lv_iconst (v := 1) hx hb dX12_four_25 (by decide) ?_
  refine lv_iadd hx hb dX12_four_26 ?_
  refine lv_topi (fun x_8 ex_8 => ?_)
  refine pf_X12_77 hx hb hts hown hK hP hD hS 0 rfl (Nat.le_of_ble_eq_true rfl) rfl rfl dX12_four_27 (fun H locs hP₀ hD₀ hS₀ => ?_)
  replace hP : va_P D classes [((Ma 0), .inr (12, [.ref (Ma 1), .int x_8, .int (Mv 1), .ref (Ma 2), .ref (Ma 3), .ref (Ma 4), .ref (Ma 5), .ref (Ma 6), .int (Mv 2), .int (Mv 3), .int (Mv 4), .int (Mv 5), .int (Mv 6), .int (Mv 7), .int (Mv 8), .ref (Ma 7), .int (Mv 9), .ref (Ma 8), .int (Mv 10), .ref (Ma 9), .ref (Ma 10), .int (Mv 11), .int (Mv 12), .int (Mv 13), .ref (Ma 11), .int (Mv 14), .ref (Ma 12), .ref (Ma 13), .ref (Ma 14), .ref (Ma 15), .ref (Ma 16), .long (Mj 0), .ref (Ma 17), .ref (Ma 18), .ref (Ma 19), .ref (Ma 20)])), ((Ma 1), .inl (tc 2, 400, .inl g_5))] H := hP₀
  replace hD : va_D A [((Ma 0), .inr (12, [.ref (Ma 1), .int x_8, .int (Mv 1), .ref (Ma 2), .ref (Ma 3), .ref (Ma 4), .ref (Ma 5), .ref (Ma 6), .int (Mv 2), .int (Mv 3), .int (Mv 4), .int (Mv 5), .int (Mv 6), .int (Mv 7), .int (Mv 8), .ref (Ma 7), .int (Mv 9), .ref (Ma 8), .int (Mv 10), .ref (Ma 9), .ref (Ma 10), .int (Mv 11), .int (Mv 12), .int (Mv 13), .ref (Ma 11), .int (Mv 14), .ref (Ma 12), .ref (Ma 13), .ref (Ma 14), .ref (Ma 15), .ref (Ma 16), .long (Mj 0), .ref (Ma 17), .ref (Ma 18), .ref (Ma 19), .ref (Ma 20)])), ((Ma 1), .inl (tc 2, 400, .inl g_5))] := hD₀
  replace hS := hS₀
  clear hP₀ hD₀ hS₀
  refine lv_iinc (v := 16) (lv' := [(2, .int 16), (0, .ref (Ma 0)), (1, .int x1)]) hx hb dX12_four_30 hl (k := 0) rfl (by decide) (by decide) rfl (fun ls hl₀ => ?_)
  replace hl := hl₀
  clear hl₀
  refine lv_goto (tgt := 3) hx hb dX12_four_33 (by decide) ?_
  refine lv_iload_n hx hb dX12_four_3 rfl (lv_at hl 0 rfl) ?_
  refine lv_if_lt (tgt := 36) hx hb dX12_four_4 (by decide) (fun c_9 => absurd c_9 (by decide)) (fun c_9 => ?_)
  refine lv_aload_n hx hb dX12_four_7 rfl (lv_at hl 1 rfl) ?_
  refine gf_X12_7 hx hb hts hown hK hP 0 rfl rfl dX12_four_8 ?_
  refine lv_aload_n hx hb dX12_four_11 rfl (lv_at hl 1 rfl) ?_
  refine gf_X12_77 hx hb hts hown hK hP 0 rfl rfl dX12_four_12 ?_
  refine lv_iload_n hx hb dX12_four_15 rfl (lv_at hl 2 rfl) ?_
  refine lv_iload_n hx hb dX12_four_16 rfl (lv_at hl 0 rfl) ?_
  refine lv_ishr hx hb dX12_four_17 ?_
  refine lv_topi (fun x_10 ex_10 => ?_)
  obtain ⟨x_11, ex_11⟩ : ∃ y : Int32, y = (x_10 : Int32).toInt8.toInt32 := ⟨_, rfl⟩
  refine lv_i2b (v := x_11) hx hb dX12_four_18 ex_11.symm ?_
  have hi_12 : vp_in x_8 400 := by
    have y_1 : (1 : Int32).toInt = 1 := by decide
    have t_x_8 : x_8.toInt = ((Mv 0) : Int32).toInt + (1 : Int32).toInt := by rw [ex_8]; exact add_toInt (by omega) (by omega)
    refine vp_in_iff.mpr ⟨?_, ?_⟩ <;> omega
  refine st_byte hx hb hK hP hD hS 1 2 rfl rfl hi_12 dX12_four_19 (fun g_13 H locs eg_13 hP₀ hD₀ hS₀ => ?_)
  replace hP : va_P D classes [((Ma 0), .inr (12, [.ref (Ma 1), .int x_8, .int (Mv 1), .ref (Ma 2), .ref (Ma 3), .ref (Ma 4), .ref (Ma 5), .ref (Ma 6), .int (Mv 2), .int (Mv 3), .int (Mv 4), .int (Mv 5), .int (Mv 6), .int (Mv 7), .int (Mv 8), .ref (Ma 7), .int (Mv 9), .ref (Ma 8), .int (Mv 10), .ref (Ma 9), .ref (Ma 10), .int (Mv 11), .int (Mv 12), .int (Mv 13), .ref (Ma 11), .int (Mv 14), .ref (Ma 12), .ref (Ma 13), .ref (Ma 14), .ref (Ma 15), .ref (Ma 16), .long (Mj 0), .ref (Ma 17), .ref (Ma 18), .ref (Ma 19), .ref (Ma 20)])), ((Ma 1), .inl (tc 2, 400, .inl g_13))] H := hP₀
  replace hD : va_D A [((Ma 0), .inr (12, [.ref (Ma 1), .int x_8, .int (Mv 1), .ref (Ma 2), .ref (Ma 3), .ref (Ma 4), .ref (Ma 5), .ref (Ma 6), .int (Mv 2), .int (Mv 3), .int (Mv 4), .int (Mv 5), .int (Mv 6), .int (Mv 7), .int (Mv 8), .ref (Ma 7), .int (Mv 9), .ref (Ma 8), .int (Mv 10), .ref (Ma 9), .ref (Ma 10), .int (Mv 11), .int (Mv 12), .int (Mv 13), .ref (Ma 11), .int (Mv 14), .ref (Ma 12), .ref (Ma 13), .ref (Ma 14), .ref (Ma 15), .ref (Ma 16), .long (Mj 0), .ref (Ma 17), .ref (Ma 18), .ref (Ma 19), .ref (Ma 20)])), ((Ma 1), .inl (tc 2, 400, .inl g_13))] := hD₀
  replace hS := hS₀
  clear hP₀ hD₀ hS₀
  have hz_14 := bz_rn (v := x1) (n := 16) (by decide) ex_10 ex_11
  have pf_15 : ByS g_13 := ByS.up pf_7 eg_13 hz_14.2
  refine lv_aload_n hx hb dX12_four_20 rfl (lv_at hl 1 rfl) ?_
  refine lv_dup hx hb dX12_four_21 rfl ?_
  refine gf_X12_77 hx hb hts hown hK hP 0 rfl rfl dX12_four_22 ?_
  refine lv_iconst (v := 1) hx hb dX12_four_25 (by decide) ?_
  refine lv_iadd hx hb dX12_four_26 ?_
  refine lv_topi (fun x_16 ex_16 => ?_)
  refine pf_X12_77 hx hb hts hown hK hP hD hS 0 rfl (Nat.le_of_ble_eq_true rfl) rfl rfl dX12_four_27 (fun H locs hP₀ hD₀ hS₀ => ?_)
  replace hP : va_P D classes [((Ma 0), .inr (12, [.ref (Ma 1), .int x_16, .int (Mv 1), .ref (Ma 2), .ref (Ma 3), .ref (Ma 4), .ref (Ma 5), .ref (Ma 6), .int (Mv 2), .int (Mv 3), .int (Mv 4), .int (Mv 5), .int (Mv 6), .int (Mv 7), .int (Mv 8), .ref (Ma 7), .int (Mv 9), .ref (Ma 8), .int (Mv 10), .ref (Ma 9), .ref (Ma 10), .int (Mv 11), .int (Mv 12), .int (Mv 13), .ref (Ma 11), .int (Mv 14), .ref (Ma 12), .ref (Ma 13), .ref (Ma 14), .ref (Ma 15), .ref (Ma 16), .long (Mj 0), .ref (Ma 17), .ref (Ma 18), .ref (Ma 19), .ref (Ma 20)])), ((Ma 1), .inl (tc 2, 400, .inl g_13))] H := hP₀
  replace hD : va_D A [((Ma 0), .inr (12, [.ref (Ma 1), .int x_16, .int (Mv 1), .ref (Ma 2), .ref (Ma 3), .ref (Ma 4), .ref (Ma 5), .ref (Ma 6), .int (Mv 2), .int (Mv 3), .int (Mv 4), .int (Mv 5), .int (Mv 6), .int (Mv 7), .int (Mv 8), .ref (Ma 7), .int (Mv 9), .ref (Ma 8), .int (Mv 10), .ref (Ma 9), .ref (Ma 10), .int (Mv 11), .int (Mv 12), .int (Mv 13), .ref (Ma 11), .int (Mv 14), .ref (Ma 12), .ref (Ma 13), .ref (Ma 14), .ref (Ma 15), .ref (Ma 16), .long (Mj 0), .ref (Ma 17), .ref (Ma 18), .ref (Ma 19), .ref (Ma 20)])), ((Ma 1), .inl (tc 2, 400, .inl g_13))] := hD₀
  replace hS := hS₀
  clear hP₀ hD₀ hS₀
  refine lv_iinc (v := 8) (lv' := [(2, .int 8), (0, .ref (Ma 0)), (1, .int x1)]) hx hb dX12_four_30 hl (k := 0) rfl (by decide) (by decide) rfl (fun ls hl₀ => ?_)
  replace hl := hl₀
  clear hl₀
  refine lv_goto (tgt := 3) hx hb dX12_four_33 (by decide) ?_
  refine lv_iload_n hx hb dX12_four_3 rfl (lv_at hl 0 rfl) ?_
  refine lv_if_lt (tgt := 36) hx hb dX12_four_4 (by decide) (fun c_17 => absurd c_17 (by decide)) (fun c_17 => ?_)
  refine lv_aload_n hx hb dX12_four_7 rfl (lv_at hl 1 rfl) ?_
  refine gf_X12_7 hx hb hts hown hK hP 0 rfl rfl dX12_four_8 ?_
  refine lv_aload_n hx hb dX12_four_11 rfl (lv_at hl 1 rfl) ?_
  refine gf_X12_77 hx hb hts hown hK hP 0 rfl rfl dX12_four_12 ?_
  refine lv_iload_n hx hb dX12_four_15 rfl (lv_at hl 2 rfl) ?_
  refine lv_iload_n hx hb dX12_four_16 rfl (lv_at hl 0 rfl) ?_
  refine lv_ishr hx hb dX12_four_17 ?_
  refine lv_topi (fun x_18 ex_18 => ?_)
  obtain ⟨x_19, ex_19⟩ : ∃ y : Int32, y = (x_18 : Int32).toInt8.toInt32 := ⟨_, rfl⟩
  refine lv_i2b (v := x_19) hx hb dX12_four_18 ex_19.symm ?_
  have hi_20 : vp_in x_16 400 := by
    have y_1 : (1 : Int32).toInt = 1 := by decide
    have t_x_8 : x_8.toInt = ((Mv 0) : Int32).toInt + (1 : Int32).toInt := by rw [ex_8]; exact add_toInt (by omega) (by omega)
    have t_x_16 : x_16.toInt = (x_8 : Int32).toInt + (1 : Int32).toInt := by rw [ex_16]; exact add_toInt (by omega) (by omega)
    refine vp_in_iff.mpr ⟨?_, ?_⟩ <;> omega
  refine st_byte hx hb hK hP hD hS 1 2 rfl rfl hi_20 dX12_four_19 (fun g_21 H locs eg_21 hP₀ hD₀ hS₀ => ?_)
  replace hP : va_P D classes [((Ma 0), .inr (12, [.ref (Ma 1), .int x_16, .int (Mv 1), .ref (Ma 2), .ref (Ma 3), .ref (Ma 4), .ref (Ma 5), .ref (Ma 6), .int (Mv 2), .int (Mv 3), .int (Mv 4), .int (Mv 5), .int (Mv 6), .int (Mv 7), .int (Mv 8), .ref (Ma 7), .int (Mv 9), .ref (Ma 8), .int (Mv 10), .ref (Ma 9), .ref (Ma 10), .int (Mv 11), .int (Mv 12), .int (Mv 13), .ref (Ma 11), .int (Mv 14), .ref (Ma 12), .ref (Ma 13), .ref (Ma 14), .ref (Ma 15), .ref (Ma 16), .long (Mj 0), .ref (Ma 17), .ref (Ma 18), .ref (Ma 19), .ref (Ma 20)])), ((Ma 1), .inl (tc 2, 400, .inl g_21))] H := hP₀
  replace hD : va_D A [((Ma 0), .inr (12, [.ref (Ma 1), .int x_16, .int (Mv 1), .ref (Ma 2), .ref (Ma 3), .ref (Ma 4), .ref (Ma 5), .ref (Ma 6), .int (Mv 2), .int (Mv 3), .int (Mv 4), .int (Mv 5), .int (Mv 6), .int (Mv 7), .int (Mv 8), .ref (Ma 7), .int (Mv 9), .ref (Ma 8), .int (Mv 10), .ref (Ma 9), .ref (Ma 10), .int (Mv 11), .int (Mv 12), .int (Mv 13), .ref (Ma 11), .int (Mv 14), .ref (Ma 12), .ref (Ma 13), .ref (Ma 14), .ref (Ma 15), .ref (Ma 16), .long (Mj 0), .ref (Ma 17), .ref (Ma 18), .ref (Ma 19), .ref (Ma 20)])), ((Ma 1), .inl (tc 2, 400, .inl g_21))] := hD₀
  replace hS := hS₀
  clear hP₀ hD₀ hS₀
  have hz_22 := bz_rn (v := x1) (n := 8) (by decide) ex_18 ex_19
  have pf_23 : ByS g_21 := ByS.up pf_15 eg_21 hz_22.2
  refine lv_aload_n hx hb dX12_four_20 rfl (lv_at hl 1 rfl) ?_
  refine lv_dup hx hb dX12_four_21 rfl ?_
  refine gf_X12_77 hx hb hts hown hK hP 0 rfl rfl dX12_four_22 ?_
  refine lv_iconst (v := 1) hx hb dX12_four_25 (by decide) ?_
  refine lv_iadd hx hb dX12_four_26 ?_
  refine lv_topi (fun x_24 ex_24 => ?_)
  refine pf_X12_77 hx hb hts hown hK hP hD hS 0 rfl (Nat.le_of_ble_eq_true rfl) rfl rfl dX12_four_27 (fun H locs hP₀ hD₀ hS₀ => ?_)
  replace hP : va_P D classes [((Ma 0), .inr (12, [.ref (Ma 1), .int x_24, .int (Mv 1), .ref (Ma 2), .ref (Ma 3), .ref (Ma 4), .ref (Ma 5), .ref (Ma 6), .int (Mv 2), .int (Mv 3), .int (Mv 4), .int (Mv 5), .int (Mv 6), .int (Mv 7), .int (Mv 8), .ref (Ma 7), .int (Mv 9), .ref (Ma 8), .int (Mv 10), .ref (Ma 9), .ref (Ma 10), .int (Mv 11), .int (Mv 12), .int (Mv 13), .ref (Ma 11), .int (Mv 14), .ref (Ma 12), .ref (Ma 13), .ref (Ma 14), .ref (Ma 15), .ref (Ma 16), .long (Mj 0), .ref (Ma 17), .ref (Ma 18), .ref (Ma 19), .ref (Ma 20)])), ((Ma 1), .inl (tc 2, 400, .inl g_21))] H := hP₀
  replace hD : va_D A [((Ma 0), .inr (12, [.ref (Ma 1), .int x_24, .int (Mv 1), .ref (Ma 2), .ref (Ma 3), .ref (Ma 4), .ref (Ma 5), .ref (Ma 6), .int (Mv 2), .int (Mv 3), .int (Mv 4), .int (Mv 5), .int (Mv 6), .int (Mv 7), .int (Mv 8), .ref (Ma 7), .int (Mv 9), .ref (Ma 8), .int (Mv 10), .ref (Ma 9), .ref (Ma 10), .int (Mv 11), .int (Mv 12), .int (Mv 13), .ref (Ma 11), .int (Mv 14), .ref (Ma 12), .ref (Ma 13), .ref (Ma 14), .ref (Ma 15), .ref (Ma 16), .long (Mj 0), .ref (Ma 17), .ref (Ma 18), .ref (Ma 19), .ref (Ma 20)])), ((Ma 1), .inl (tc 2, 400, .inl g_21))] := hD₀
  replace hS := hS₀
  clear hP₀ hD₀ hS₀
  refine lv_iinc (v := 0) (lv' := [(2, .int 0), (0, .ref (Ma 0)), (1, .int x1)]) hx hb dX12_four_30 hl (k := 0) rfl (by decide) (by decide) rfl (fun ls hl₀ => ?_)
  replace hl := hl₀
  clear hl₀
  refine lv_goto (tgt := 3) hx hb dX12_four_33 (by decide) ?_
  refine lv_iload_n hx hb dX12_four_3 rfl (lv_at hl 0 rfl) ?_
  refine lv_if_lt (tgt := 36) hx hb dX12_four_4 (by decide) (fun c_25 => absurd c_25 (by decide)) (fun c_25 => ?_)
  refine lv_aload_n hx hb dX12_four_7 rfl (lv_at hl 1 rfl) ?_
  refine gf_X12_7 hx hb hts hown hK hP 0 rfl rfl dX12_four_8 ?_
  refine lv_aload_n hx hb dX12_four_11 rfl (lv_at hl 1 rfl) ?_
  refine gf_X12_77 hx hb hts hown hK hP 0 rfl rfl dX12_four_12 ?_
  refine lv_iload_n hx hb dX12_four_15 rfl (lv_at hl 2 rfl) ?_
  refine lv_iload_n hx hb dX12_four_16 rfl (lv_at hl 0 rfl) ?_
  refine lv_ishr hx hb dX12_four_17 ?_
  refine lv_topi (fun x_26 ex_26 => ?_)
  obtain ⟨x_27, ex_27⟩ : ∃ y : Int32, y = (x_26 : Int32).toInt8.toInt32 := ⟨_, rfl⟩
  refine lv_i2b (v := x_27) hx hb dX12_four_18 ex_27.symm ?_
  have hi_28 : vp_in x_24 400 := by
    have y_1 : (1 : Int32).toInt = 1 := by decide
    have t_x_8 : x_8.toInt = ((Mv 0) : Int32).toInt + (1 : Int32).toInt := by rw [ex_8]; exact add_toInt (by omega) (by omega)
    have t_x_16 : x_16.toInt = (x_8 : Int32).toInt + (1 : Int32).toInt := by rw [ex_16]; exact add_toInt (by omega) (by omega)
    have t_x_24 : x_24.toInt = (x_16 : Int32).toInt + (1 : Int32).toInt := by rw [ex_24]; exact add_toInt (by omega) (by omega)
    refine vp_in_iff.mpr ⟨?_, ?_⟩ <;> omega
  refine st_byte hx hb hK hP hD hS 1 2 rfl rfl hi_28 dX12_four_19 (fun g_29 H locs eg_29 hP₀ hD₀ hS₀ => ?_)
  replace hP : va_P D classes [((Ma 0), .inr (12, [.ref (Ma 1), .int x_24, .int (Mv 1), .ref (Ma 2), .ref (Ma 3), .ref (Ma 4), .ref (Ma 5), .ref (Ma 6), .int (Mv 2), .int (Mv 3), .int (Mv 4), .int (Mv 5), .int (Mv 6), .int (Mv 7), .int (Mv 8), .ref (Ma 7), .int (Mv 9), .ref (Ma 8), .int (Mv 10), .ref (Ma 9), .ref (Ma 10), .int (Mv 11), .int (Mv 12), .int (Mv 13), .ref (Ma 11), .int (Mv 14), .ref (Ma 12), .ref (Ma 13), .ref (Ma 14), .ref (Ma 15), .ref (Ma 16), .long (Mj 0), .ref (Ma 17), .ref (Ma 18), .ref (Ma 19), .ref (Ma 20)])), ((Ma 1), .inl (tc 2, 400, .inl g_29))] H := hP₀
  replace hD : va_D A [((Ma 0), .inr (12, [.ref (Ma 1), .int x_24, .int (Mv 1), .ref (Ma 2), .ref (Ma 3), .ref (Ma 4), .ref (Ma 5), .ref (Ma 6), .int (Mv 2), .int (Mv 3), .int (Mv 4), .int (Mv 5), .int (Mv 6), .int (Mv 7), .int (Mv 8), .ref (Ma 7), .int (Mv 9), .ref (Ma 8), .int (Mv 10), .ref (Ma 9), .ref (Ma 10), .int (Mv 11), .int (Mv 12), .int (Mv 13), .ref (Ma 11), .int (Mv 14), .ref (Ma 12), .ref (Ma 13), .ref (Ma 14), .ref (Ma 15), .ref (Ma 16), .long (Mj 0), .ref (Ma 17), .ref (Ma 18), .ref (Ma 19), .ref (Ma 20)])), ((Ma 1), .inl (tc 2, 400, .inl g_29))] := hD₀
  replace hS := hS₀
  clear hP₀ hD₀ hS₀
  have hz_30 := bz_rn (v := x1) (n := 0) (by decide) ex_26 ex_27
  have pf_31 : ByS g_29 := ByS.up pf_23 eg_29 hz_30.2
  refine lv_aload_n hx hb dX12_four_20 rfl (lv_at hl 1 rfl) ?_
  refine lv_dup hx hb dX12_four_21 rfl ?_
  refine gf_X12_77 hx hb hts hown hK hP 0 rfl rfl dX12_four_22 ?_
  refine lv_iconst (v := 1) hx hb dX12_four_25 (by decide) ?_
  refine lv_iadd hx hb dX12_four_26 ?_
  refine lv_topi (fun x_32 ex_32 => ?_)
  refine pf_X12_77 hx hb hts hown hK hP hD hS 0 rfl (Nat.le_of_ble_eq_true rfl) rfl rfl dX12_four_27 (fun H locs hP₀ hD₀ hS₀ => ?_)
  replace hP : va_P D classes [((Ma 0), .inr (12, [.ref (Ma 1), .int x_32, .int (Mv 1), .ref (Ma 2), .ref (Ma 3), .ref (Ma 4), .ref (Ma 5), .ref (Ma 6), .int (Mv 2), .int (Mv 3), .int (Mv 4), .int (Mv 5), .int (Mv 6), .int (Mv 7), .int (Mv 8), .ref (Ma 7), .int (Mv 9), .ref (Ma 8), .int (Mv 10), .ref (Ma 9), .ref (Ma 10), .int (Mv 11), .int (Mv 12), .int (Mv 13), .ref (Ma 11), .int (Mv 14), .ref (Ma 12), .ref (Ma 13), .ref (Ma 14), .ref (Ma 15), .ref (Ma 16), .long (Mj 0), .ref (Ma 17), .ref (Ma 18), .ref (Ma 19), .ref (Ma 20)])), ((Ma 1), .inl (tc 2, 400, .inl g_29))] H := hP₀
  replace hD : va_D A [((Ma 0), .inr (12, [.ref (Ma 1), .int x_32, .int (Mv 1), .ref (Ma 2), .ref (Ma 3), .ref (Ma 4), .ref (Ma 5), .ref (Ma 6), .int (Mv 2), .int (Mv 3), .int (Mv 4), .int (Mv 5), .int (Mv 6), .int (Mv 7), .int (Mv 8), .ref (Ma 7), .int (Mv 9), .ref (Ma 8), .int (Mv 10), .ref (Ma 9), .ref (Ma 10), .int (Mv 11), .int (Mv 12), .int (Mv 13), .ref (Ma 11), .int (Mv 14), .ref (Ma 12), .ref (Ma 13), .ref (Ma 14), .ref (Ma 15), .ref (Ma 16), .long (Mj 0), .ref (Ma 17), .ref (Ma 18), .ref (Ma 19), .ref (Ma 20)])), ((Ma 1), .inl (tc 2, 400, .inl g_29))] := hD₀
  replace hS := hS₀
  clear hP₀ hD₀ hS₀
  refine lv_iinc (v := (-8)) (lv' := [(2, .int (-8)), (0, .ref (Ma 0)), (1, .int x1)]) hx hb dX12_four_30 hl (k := 0) rfl (by decide) (by decide) rfl (fun ls hl₀ => ?_)
  replace hl := hl₀
  clear hl₀
  refine lv_goto (tgt := 3) hx hb dX12_four_33 (by decide) ?_
  refine lv_iload_n hx hb dX12_four_3 rfl (lv_at hl 0 rfl) ?_
  refine lv_if_lt (tgt := 36) hx hb dX12_four_4 (by decide) (fun c_33 => ?_) (fun c_33 => absurd c_33 (by decide))
  have ha_34 : (x_32 : Int32).toInt = (Mv 0).toInt + 4 := by
    have y_1 : (1 : Int32).toInt = 1 := by decide
    have t_x_8 : x_8.toInt = ((Mv 0) : Int32).toInt + (1 : Int32).toInt := by rw [ex_8]; exact add_toInt (by omega) (by omega)
    have t_x_16 : x_16.toInt = (x_8 : Int32).toInt + (1 : Int32).toInt := by rw [ex_16]; exact add_toInt (by omega) (by omega)
    have t_x_24 : x_24.toInt = (x_16 : Int32).toInt + (1 : Int32).toInt := by rw [ex_24]; exact add_toInt (by omega) (by omega)
    have t_x_32 : x_32.toInt = (x_24 : Int32).toInt + (1 : Int32).toInt := by rw [ex_32]; exact add_toInt (by omega) (by omega)
    omega
  have hr_35 : ((Mv 0) : Int32).toInt = ((Mv 0) : Int32).toInt ∧ (x_8 : Int32).toInt = ((Mv 0) : Int32).toInt + 1 ∧ (x_16 : Int32).toInt = ((Mv 0) : Int32).toInt + 2 ∧ (x_24 : Int32).toInt = ((Mv 0) : Int32).toInt + 3 ∧ (x_32 : Int32).toInt = ((Mv 0) : Int32).toInt + 4 := by
    have y_1 : (1 : Int32).toInt = 1 := by decide
    have t_x_8 : x_8.toInt = ((Mv 0) : Int32).toInt + (1 : Int32).toInt := by rw [ex_8]; exact add_toInt (by omega) (by omega)
    have t_x_16 : x_16.toInt = (x_8 : Int32).toInt + (1 : Int32).toInt := by rw [ex_16]; exact add_toInt (by omega) (by omega)
    have t_x_24 : x_24.toInt = (x_16 : Int32).toInt + (1 : Int32).toInt := by rw [ex_24]; exact add_toInt (by omega) (by omega)
    have t_x_32 : x_32.toInt = (x_24 : Int32).toInt + (1 : Int32).toInt := by rw [ex_32]; exact add_toInt (by omega) (by omega)
    omega
  have hr_36 : 0 ≤ ((Mv 0) : Int32).toInt := by
    omega
  exact retV hx hb hr hlk hP hD hS (x_32, g_29) ⟨rfl, ha_34, pf_31, (FdB.of hr_36 eg_5 eg_13 eg_21 eg_29 hr_35 hz_6.1 hz_14.1 hz_22.1 hz_30.1)⟩ [0, 1] rfl rfl dX12_four_36 (Nat.le_of_ble_eq_true rfl) (Nat.le_of_ble_eq_true rfl) rfl
set_option maxRecDepth 100000 in
theorem cu_fX12_four (l : Launch) (D : va_G) (tc : Nat → ClassId) (sk : (Nat → Nat) × (Nat → Nat)) (Ma_0 : Nat) (Ma_1 : Nat) (Ma_2 : Nat) (Ma_3 : Nat) (Ma_4 : Nat) (Ma_5 : Nat) (Ma_6 : Nat) (Ma_7 : Nat) (Ma_8 : Nat) (Ma_9 : Nat) (Ma_10 : Nat) (Ma_11 : Nat) (Ma_12 : Nat) (Ma_13 : Nat) (Ma_14 : Nat) (Ma_15 : Nat) (Ma_16 : Nat) (Ma_17 : Nat) (Ma_18 : Nat) (Ma_19 : Nat) (Ma_20 : Nat) (Mv_0 : Int32) (Mv_1 : Int32) (Mv_2 : Int32) (Mv_3 : Int32) (Mv_4 : Int32) (Mv_5 : Int32) (Mv_6 : Int32) (Mv_7 : Int32) (Mv_8 : Int32) (Mv_9 : Int32) (Mv_10 : Int32) (Mv_11 : Int32) (Mv_12 : Int32) (Mv_13 : Int32) (Mv_14 : Int32) (Mf_1 : Nat → Int32) (Mj_0 : Int64) (x1 : Int32) (h_t : 0 ≤ Mv_0.toInt ∧ Mv_0.toInt ≤ 396) (h_bs : ByS Mf_1) : Ct l yX12_four cX12_four 3 none { frames := 0, cells := 0, slots := 0, locals := 0 } D tc sk [.ref Ma_0, .int x1] [(Ma_0, .inr (12, [.ref Ma_1, .int Mv_0, .int Mv_1, .ref Ma_2, .ref Ma_3, .ref Ma_4, .ref Ma_5, .ref Ma_6, .int Mv_2, .int Mv_3, .int Mv_4, .int Mv_5, .int Mv_6, .int Mv_7, .int Mv_8, .ref Ma_7, .int Mv_9, .ref Ma_8, .int Mv_10, .ref Ma_9, .ref Ma_10, .int Mv_11, .int Mv_12, .int Mv_13, .ref Ma_11, .int Mv_14, .ref Ma_12, .ref Ma_13, .ref Ma_14, .ref Ma_15, .ref Ma_16, .long Mj_0, .ref Ma_17, .ref Ma_18, .ref Ma_19, .ref Ma_20])), (Ma_1, .inl (tc 2, 400, .inl Mf_1))] (fun (v : Option Value) (u : (Int32) × (Nat → Int32)) => match u with | (oo0x1, oo0x2) => v = none ∧ ((oo0x1 : Int32).toInt = Mv_0.toInt + 4) ∧ (ByS oo0x2) ∧ (FdB Mf_1 oo0x2 Mv_0 oo0x1 x1)) (fun (u : (Int32) × (Nat → Int32)) => match u with | (oo0x1, oo0x2) => [(Ma_0, .inr (12, [.ref Ma_1, .int oo0x1, .int Mv_1, .ref Ma_2, .ref Ma_3, .ref Ma_4, .ref Ma_5, .ref Ma_6, .int Mv_2, .int Mv_3, .int Mv_4, .int Mv_5, .int Mv_6, .int Mv_7, .int Mv_8, .ref Ma_7, .int Mv_9, .ref Ma_8, .int Mv_10, .ref Ma_9, .ref Ma_10, .int Mv_11, .int Mv_12, .int Mv_13, .ref Ma_11, .int Mv_14, .ref Ma_12, .ref Ma_13, .ref Ma_14, .ref Ma_15, .ref Ma_16, .long Mj_0, .ref Ma_17, .ref Ma_18, .ref Ma_19, .ref Ma_20])), (Ma_1, .inl (tc 2, 400, .inl oo0x2))]) 0 0 :=
  ct_fX12_four l D tc sk (fun k => ([Ma_0, Ma_1, Ma_2, Ma_3, Ma_4, Ma_5, Ma_6, Ma_7, Ma_8, Ma_9, Ma_10, Ma_11, Ma_12, Ma_13, Ma_14, Ma_15, Ma_16, Ma_17, Ma_18, Ma_19, Ma_20] : List (Nat)).getD k 0) (fun k => ([Mv_0, Mv_1, Mv_2, Mv_3, Mv_4, Mv_5, Mv_6, Mv_7, Mv_8, Mv_9, Mv_10, Mv_11, Mv_12, Mv_13, Mv_14] : List (Int32)).getD k 0) (fun k => ([(fun _ => 0), Mf_1] : List (Nat → Int32)).getD k (fun _ => 0)) (fun k => ([Mj_0] : List (Int64)).getD k 0) x1 h_t h_bs
set_option maxHeartbeats 4000000 in
set_option maxRecDepth 100000 in
theorem ct_fX12_feed (l : Launch) (D : va_G) (tc : Nat → ClassId) (sk : (Nat → Nat) × (Nat → Nat)) (Ma : Nat → Nat) (Mv : Nat → Int32) (Mf : Nat → Nat → Int32) (Mj : Nat → Int64) (x1 : Int32) (x2 : Int32) (x3 : Int32) (x4 : Int32) (x5 : Int32) (h_t : 0 ≤ ((Mv 0) : Int32).toInt ∧ ((Mv 0) : Int32).toInt ≤ 400) (h_bs : ByS (Mf 1)) : Ct l yX12_feed cX12_feed 6 (some .int) { frames := 1, cells := 0, slots := 0, locals := 22 } D tc sk [.ref (Ma 0), .int x1, .int x2, .int x3, .int x4, .int x5] [((Ma 0), .inr (12, [.ref (Ma 1), .int (Mv 0), .int (Mv 1), .ref (Ma 2), .ref (Ma 3), .ref (Ma 4), .ref (Ma 5), .ref (Ma 6), .int (Mv 2), .int (Mv 3), .int (Mv 4), .int (Mv 5), .int (Mv 6), .int (Mv 7), .int (Mv 8), .ref (Ma 7), .int (Mv 9), .ref (Ma 8), .int (Mv 10), .ref (Ma 9), .ref (Ma 10), .int (Mv 11), .int (Mv 12), .int (Mv 13), .ref (Ma 11), .int (Mv 14), .ref (Ma 12), .ref (Ma 13), .ref (Ma 14), .ref (Ma 15), .ref (Ma 16), .long (Mj 0), .ref (Ma 17), .ref (Ma 18), .ref (Ma 19), .ref (Ma 20)])), ((Ma 1), .inl (tc 2, 400, .inl (Mf 1)))] (fun (v : Option Value) (u : (Int32) × (Nat → Int32)) => match u with | (oo0x1, oo0x2) => ∃ r : Int32, v = some (.int r) ∧ (FeP (Mf 1) oo0x2 (Mv 0) oo0x1 x1 x2 x3 x4 x5 r) ∧ (0 ≤ (oo0x1 : Int32).toInt ∧ (oo0x1 : Int32).toInt ≤ 400) ∧ (ByS oo0x2)) (fun (u : (Int32) × (Nat → Int32)) => match u with | (oo0x1, oo0x2) => [((Ma 0), .inr (12, [.ref (Ma 1), .int oo0x1, .int (Mv 1), .ref (Ma 2), .ref (Ma 3), .ref (Ma 4), .ref (Ma 5), .ref (Ma 6), .int (Mv 2), .int (Mv 3), .int (Mv 4), .int (Mv 5), .int (Mv 6), .int (Mv 7), .int (Mv 8), .ref (Ma 7), .int (Mv 9), .ref (Ma 8), .int (Mv 10), .ref (Ma 9), .ref (Ma 10), .int (Mv 11), .int (Mv 12), .int (Mv 13), .ref (Ma 11), .int (Mv 14), .ref (Ma 12), .ref (Ma 13), .ref (Ma 14), .ref (Ma 15), .ref (Ma 16), .long (Mj 0), .ref (Ma 17), .ref (Ma 18), .ref (Ma 19), .ref (Ma 20)])), ((Ma 1), .inl (tc 2, 400, .inl oo0x2))]) 0 0 := by
  refine Ct.start (by decide) (Nat.le_of_ble_eq_true rfl) (fun p e s m below meth c A ls hx hb hr hlk hin hml hown hts hK hX hP hD hA hl hS => ?_)
  have hl : lv_has ls 6 [(0, .ref (Ma 0)), (1, .int x1), (2, .int x2), (3, .int x3), (4, .int x4), (5, .int x5)] := hl
  refine lv_aload_n hx hb dX12_feed_0 rfl (lv_at hl 0 rfl) ?_
  refine gf_X12_77 hx hb hts hown hK hP 0 rfl rfl dX12_feed_1 ?_
  refine lv_bipush (v := 20) hx hb dX12_feed_4 (by decide) ?_
  refine lv_iadd hx hb dX12_feed_6 ?_
  refine lv_topi (fun x_1 ex_1 => ?_)
  refine lv_sipush (v := 400) hx hb dX12_feed_7 (by decide) ?_
  refine lv_icmp_le (tgt := 15) hx hb dX12_feed_10 (by decide) (fun c_2 => ?_) (fun c_2 => ?_)
  · skip
    refine lv_aload_n hx hb dX12_feed_15 rfl (lv_at hl 0 rfl) ?_
    refine lv_iload_n hx hb dX12_feed_16 rfl (lv_at hl 1 rfl) ?_
    have ha_3 : 0 ≤ (Mv 0).toInt ∧ (Mv 0).toInt ≤ 396 := by
      have z_1 := Int32.le_iff_toInt_le.mp c_2
      have y_400 : (400 : Int32).toInt = 400 := by decide
      have y_20 : (20 : Int32).toInt = 20 := by decide
      have t_x_1 : x_1.toInt = ((Mv 0) : Int32).toInt + (20 : Int32).toInt := by rw [ex_1]; exact add_toInt (by omega) (by omega)
      omega
    refine cV (a := (Ma 0)) (As := [.int x1]) (rest := []) (wr := []) ⟨hx, hb, hml, hown, hts⟩ hK hX hA (cu_fX12_four l D tc sk (Ma 0) (Ma 1) (Ma 2) (Ma 3) (Ma 4) (Ma 5) (Ma 6) (Ma 7) (Ma 8) (Ma 9) (Ma 10) (Ma 11) (Ma 12) (Ma 13) (Ma 14) (Ma 15) (Ma 16) (Ma 17) (Ma 18) (Ma 19) (Ma 20) (Mv 0) (Mv 1) (Mv 2) (Mv 3) (Mv 4) (Mv 5) (Mv 6) (Mv 7) (Mv 8) (Mv 9) (Mv 10) (Mv 11) (Mv 12) (Mv 13) (Mv 14) (Mf 1) (Mj 0) x1 ha_3 h_bs) k_1191 k_1188 k_1190 k_24 k_106 pl_X12_four ⟨Nat.le_of_ble_eq_true rfl, Nat.le_of_ble_eq_true rfl⟩ rfl rfl (va_recv hK hP (ci := 12) (q0 := 0) rfl rfl) hP hD hS [0, 1] [] rfl rfl rfl rfl rfl (by decide) rfl hl.1 rfl (Nat.le_of_ble_eq_true rfl) dX12_feed_17 ⟨Nat.le_of_ble_eq_true rfl, Nat.le_of_ble_eq_true rfl⟩ (fun v_4 u_5 H locs hv_6 hP₀ hD₀ hS₀ => ?_)
    obtain ⟨sv_7, sv_8⟩ := u_5
    obtain ⟨rfl, pf_9, pf_10, pf_11⟩ := hv_6
    have pf_9 : (sv_7 : Int32).toInt = (Mv 0).toInt + 4 := pf_9
    have pf_10 : ByS sv_8 := pf_10
    have pf_11 : FdB (Mf 1) sv_8 (Mv 0) sv_7 x1 := pf_11
    have ar_pf_11 := pf_11.1
    refine W.eq (g2 := F0 m 20 ls []) rfl ?_
    replace hP : va_P D classes [((Ma 0), .inr (12, [.ref (Ma 1), .int sv_7, .int (Mv 1), .ref (Ma 2), .ref (Ma 3), .ref (Ma 4), .ref (Ma 5), .ref (Ma 6), .int (Mv 2), .int (Mv 3), .int (Mv 4), .int (Mv 5), .int (Mv 6), .int (Mv 7), .int (Mv 8), .ref (Ma 7), .int (Mv 9), .ref (Ma 8), .int (Mv 10), .ref (Ma 9), .ref (Ma 10), .int (Mv 11), .int (Mv 12), .int (Mv 13), .ref (Ma 11), .int (Mv 14), .ref (Ma 12), .ref (Ma 13), .ref (Ma 14), .ref (Ma 15), .ref (Ma 16), .long (Mj 0), .ref (Ma 17), .ref (Ma 18), .ref (Ma 19), .ref (Ma 20)])), ((Ma 1), .inl (tc 2, 400, .inl sv_8))] H := hP₀
    replace hD : va_D A [((Ma 0), .inr (12, [.ref (Ma 1), .int sv_7, .int (Mv 1), .ref (Ma 2), .ref (Ma 3), .ref (Ma 4), .ref (Ma 5), .ref (Ma 6), .int (Mv 2), .int (Mv 3), .int (Mv 4), .int (Mv 5), .int (Mv 6), .int (Mv 7), .int (Mv 8), .ref (Ma 7), .int (Mv 9), .ref (Ma 8), .int (Mv 10), .ref (Ma 9), .ref (Ma 10), .int (Mv 11), .int (Mv 12), .int (Mv 13), .ref (Ma 11), .int (Mv 14), .ref (Ma 12), .ref (Ma 13), .ref (Ma 14), .ref (Ma 15), .ref (Ma 16), .long (Mj 0), .ref (Ma 17), .ref (Ma 18), .ref (Ma 19), .ref (Ma 20)])), ((Ma 1), .inl (tc 2, 400, .inl sv_8))] := hD₀
    replace hS := hS₀
    clear hP₀ hD₀ hS₀
    refine lv_aload_n hx hb dX12_feed_20 rfl (lv_at hl 0 rfl) ?_
    refine lv_iload_n hx hb dX12_feed_21 rfl (lv_at hl 2 rfl) ?_
    have ha_12 : 0 ≤ sv_7.toInt ∧ sv_7.toInt ≤ 396 := by
      have z_1 := Int32.le_iff_toInt_le.mp c_2
      have y_400 : (400 : Int32).toInt = 400 := by decide
      have y_20 : (20 : Int32).toInt = 20 := by decide
      have t_x_1 : x_1.toInt = ((Mv 0) : Int32).toInt + (20 : Int32).toInt := by rw [ex_1]; exact add_toInt (by omega) (by omega)
      omega
    refine cV (a := (Ma 0)) (As := [.int x2]) (rest := []) (wr := []) ⟨hx, hb, hml, hown, hts⟩ hK hX hA (cu_fX12_four l D tc sk (Ma 0) (Ma 1) (Ma 2) (Ma 3) (Ma 4) (Ma 5) (Ma 6) (Ma 7) (Ma 8) (Ma 9) (Ma 10) (Ma 11) (Ma 12) (Ma 13) (Ma 14) (Ma 15) (Ma 16) (Ma 17) (Ma 18) (Ma 19) (Ma 20) sv_7 (Mv 1) (Mv 2) (Mv 3) (Mv 4) (Mv 5) (Mv 6) (Mv 7) (Mv 8) (Mv 9) (Mv 10) (Mv 11) (Mv 12) (Mv 13) (Mv 14) sv_8 (Mj 0) x2 ha_12 pf_10) k_1191 k_1188 k_1190 k_24 k_106 pl_X12_four ⟨Nat.le_of_ble_eq_true rfl, Nat.le_of_ble_eq_true rfl⟩ rfl rfl (va_recv hK hP (ci := 12) (q0 := 0) rfl rfl) hP hD hS [0, 1] [] rfl rfl rfl rfl rfl (by decide) rfl hl.1 rfl (Nat.le_of_ble_eq_true rfl) dX12_feed_22 ⟨Nat.le_of_ble_eq_true rfl, Nat.le_of_ble_eq_true rfl⟩ (fun v_13 u_14 H locs hv_15 hP₀ hD₀ hS₀ => ?_)
    obtain ⟨sv_16, sv_17⟩ := u_14
    obtain ⟨rfl, pf_18, pf_19, pf_20⟩ := hv_15
    have pf_18 : (sv_16 : Int32).toInt = sv_7.toInt + 4 := pf_18
    have pf_19 : ByS sv_17 := pf_19
    have pf_20 : FdB sv_8 sv_17 sv_7 sv_16 x2 := pf_20
    have ar_pf_20 := pf_20.1
    refine W.eq (g2 := F0 m 25 ls []) rfl ?_
    replace hP : va_P D classes [((Ma 0), .inr (12, [.ref (Ma 1), .int sv_16, .int (Mv 1), .ref (Ma 2), .ref (Ma 3), .ref (Ma 4), .ref (Ma 5), .ref (Ma 6), .int (Mv 2), .int (Mv 3), .int (Mv 4), .int (Mv 5), .int (Mv 6), .int (Mv 7), .int (Mv 8), .ref (Ma 7), .int (Mv 9), .ref (Ma 8), .int (Mv 10), .ref (Ma 9), .ref (Ma 10), .int (Mv 11), .int (Mv 12), .int (Mv 13), .ref (Ma 11), .int (Mv 14), .ref (Ma 12), .ref (Ma 13), .ref (Ma 14), .ref (Ma 15), .ref (Ma 16), .long (Mj 0), .ref (Ma 17), .ref (Ma 18), .ref (Ma 19), .ref (Ma 20)])), ((Ma 1), .inl (tc 2, 400, .inl sv_17))] H := hP₀
    replace hD : va_D A [((Ma 0), .inr (12, [.ref (Ma 1), .int sv_16, .int (Mv 1), .ref (Ma 2), .ref (Ma 3), .ref (Ma 4), .ref (Ma 5), .ref (Ma 6), .int (Mv 2), .int (Mv 3), .int (Mv 4), .int (Mv 5), .int (Mv 6), .int (Mv 7), .int (Mv 8), .ref (Ma 7), .int (Mv 9), .ref (Ma 8), .int (Mv 10), .ref (Ma 9), .ref (Ma 10), .int (Mv 11), .int (Mv 12), .int (Mv 13), .ref (Ma 11), .int (Mv 14), .ref (Ma 12), .ref (Ma 13), .ref (Ma 14), .ref (Ma 15), .ref (Ma 16), .long (Mj 0), .ref (Ma 17), .ref (Ma 18), .ref (Ma 19), .ref (Ma 20)])), ((Ma 1), .inl (tc 2, 400, .inl sv_17))] := hD₀
    replace hS := hS₀
    clear hP₀ hD₀ hS₀
    refine lv_aload_n hx hb dX12_feed_25 rfl (lv_at hl 0 rfl) ?_
    refine lv_iload_n hx hb dX12_feed_26 rfl (lv_at hl 3 rfl) ?_
    have ha_21 : 0 ≤ sv_16.toInt ∧ sv_16.toInt ≤ 396 := by
      have z_1 := Int32.le_iff_toInt_le.mp c_2
      have y_400 : (400 : Int32).toInt = 400 := by decide
      have y_20 : (20 : Int32).toInt = 20 := by decide
      have t_x_1 : x_1.toInt = ((Mv 0) : Int32).toInt + (20 : Int32).toInt := by rw [ex_1]; exact add_toInt (by omega) (by omega)
      omega
    refine cV (a := (Ma 0)) (As := [.int x3]) (rest := []) (wr := []) ⟨hx, hb, hml, hown, hts⟩ hK hX hA (cu_fX12_four l D tc sk (Ma 0) (Ma 1) (Ma 2) (Ma 3) (Ma 4) (Ma 5) (Ma 6) (Ma 7) (Ma 8) (Ma 9) (Ma 10) (Ma 11) (Ma 12) (Ma 13) (Ma 14) (Ma 15) (Ma 16) (Ma 17) (Ma 18) (Ma 19) (Ma 20) sv_16 (Mv 1) (Mv 2) (Mv 3) (Mv 4) (Mv 5) (Mv 6) (Mv 7) (Mv 8) (Mv 9) (Mv 10) (Mv 11) (Mv 12) (Mv 13) (Mv 14) sv_17 (Mj 0) x3 ha_21 pf_19) k_1191 k_1188 k_1190 k_24 k_106 pl_X12_four ⟨Nat.le_of_ble_eq_true rfl, Nat.le_of_ble_eq_true rfl⟩ rfl rfl (va_recv hK hP (ci := 12) (q0 := 0) rfl rfl) hP hD hS [0, 1] [] rfl rfl rfl rfl rfl (by decide) rfl hl.1 rfl (Nat.le_of_ble_eq_true rfl) dX12_feed_27 ⟨Nat.le_of_ble_eq_true rfl, Nat.le_of_ble_eq_true rfl⟩ (fun v_22 u_23 H locs hv_24 hP₀ hD₀ hS₀ => ?_)
    obtain ⟨sv_25, sv_26⟩ := u_23
    obtain ⟨rfl, pf_27, pf_28, pf_29⟩ := hv_24
    have pf_27 : (sv_25 : Int32).toInt = sv_16.toInt + 4 := pf_27
    have pf_28 : ByS sv_26 := pf_28
    have pf_29 : FdB sv_17 sv_26 sv_16 sv_25 x3 := pf_29
    have ar_pf_29 := pf_29.1
    refine W.eq (g2 := F0 m 30 ls []) rfl ?_
    replace hP : va_P D classes [((Ma 0), .inr (12, [.ref (Ma 1), .int sv_25, .int (Mv 1), .ref (Ma 2), .ref (Ma 3), .ref (Ma 4), .ref (Ma 5), .ref (Ma 6), .int (Mv 2), .int (Mv 3), .int (Mv 4), .int (Mv 5), .int (Mv 6), .int (Mv 7), .int (Mv 8), .ref (Ma 7), .int (Mv 9), .ref (Ma 8), .int (Mv 10), .ref (Ma 9), .ref (Ma 10), .int (Mv 11), .int (Mv 12), .int (Mv 13), .ref (Ma 11), .int (Mv 14), .ref (Ma 12), .ref (Ma 13), .ref (Ma 14), .ref (Ma 15), .ref (Ma 16), .long (Mj 0), .ref (Ma 17), .ref (Ma 18), .ref (Ma 19), .ref (Ma 20)])), ((Ma 1), .inl (tc 2, 400, .inl sv_26))] H := hP₀
    replace hD : va_D A [((Ma 0), .inr (12, [.ref (Ma 1), .int sv_25, .int (Mv 1), .ref (Ma 2), .ref (Ma 3), .ref (Ma 4), .ref (Ma 5), .ref (Ma 6), .int (Mv 2), .int (Mv 3), .int (Mv 4), .int (Mv 5), .int (Mv 6), .int (Mv 7), .int (Mv 8), .ref (Ma 7), .int (Mv 9), .ref (Ma 8), .int (Mv 10), .ref (Ma 9), .ref (Ma 10), .int (Mv 11), .int (Mv 12), .int (Mv 13), .ref (Ma 11), .int (Mv 14), .ref (Ma 12), .ref (Ma 13), .ref (Ma 14), .ref (Ma 15), .ref (Ma 16), .long (Mj 0), .ref (Ma 17), .ref (Ma 18), .ref (Ma 19), .ref (Ma 20)])), ((Ma 1), .inl (tc 2, 400, .inl sv_26))] := hD₀
    replace hS := hS₀
    clear hP₀ hD₀ hS₀
    refine lv_aload_n hx hb dX12_feed_30 rfl (lv_at hl 0 rfl) ?_
    refine lv_iload hx hb dX12_feed_31 (lv_at hl 4 rfl) ?_
    have ha_30 : 0 ≤ sv_25.toInt ∧ sv_25.toInt ≤ 396 := by
      have z_1 := Int32.le_iff_toInt_le.mp c_2
      have y_400 : (400 : Int32).toInt = 400 := by decide
      have y_20 : (20 : Int32).toInt = 20 := by decide
      have t_x_1 : x_1.toInt = ((Mv 0) : Int32).toInt + (20 : Int32).toInt := by rw [ex_1]; exact add_toInt (by omega) (by omega)
      omega
    refine cV (a := (Ma 0)) (As := [.int x4]) (rest := []) (wr := []) ⟨hx, hb, hml, hown, hts⟩ hK hX hA (cu_fX12_four l D tc sk (Ma 0) (Ma 1) (Ma 2) (Ma 3) (Ma 4) (Ma 5) (Ma 6) (Ma 7) (Ma 8) (Ma 9) (Ma 10) (Ma 11) (Ma 12) (Ma 13) (Ma 14) (Ma 15) (Ma 16) (Ma 17) (Ma 18) (Ma 19) (Ma 20) sv_25 (Mv 1) (Mv 2) (Mv 3) (Mv 4) (Mv 5) (Mv 6) (Mv 7) (Mv 8) (Mv 9) (Mv 10) (Mv 11) (Mv 12) (Mv 13) (Mv 14) sv_26 (Mj 0) x4 ha_30 pf_28) k_1191 k_1188 k_1190 k_24 k_106 pl_X12_four ⟨Nat.le_of_ble_eq_true rfl, Nat.le_of_ble_eq_true rfl⟩ rfl rfl (va_recv hK hP (ci := 12) (q0 := 0) rfl rfl) hP hD hS [0, 1] [] rfl rfl rfl rfl rfl (by decide) rfl hl.1 rfl (Nat.le_of_ble_eq_true rfl) dX12_feed_33 ⟨Nat.le_of_ble_eq_true rfl, Nat.le_of_ble_eq_true rfl⟩ (fun v_31 u_32 H locs hv_33 hP₀ hD₀ hS₀ => ?_)
    obtain ⟨sv_34, sv_35⟩ := u_32
    obtain ⟨rfl, pf_36, pf_37, pf_38⟩ := hv_33
    have pf_36 : (sv_34 : Int32).toInt = sv_25.toInt + 4 := pf_36
    have pf_37 : ByS sv_35 := pf_37
    have pf_38 : FdB sv_26 sv_35 sv_25 sv_34 x4 := pf_38
    have ar_pf_38 := pf_38.1
    refine W.eq (g2 := F0 m 36 ls []) rfl ?_
    replace hP : va_P D classes [((Ma 0), .inr (12, [.ref (Ma 1), .int sv_34, .int (Mv 1), .ref (Ma 2), .ref (Ma 3), .ref (Ma 4), .ref (Ma 5), .ref (Ma 6), .int (Mv 2), .int (Mv 3), .int (Mv 4), .int (Mv 5), .int (Mv 6), .int (Mv 7), .int (Mv 8), .ref (Ma 7), .int (Mv 9), .ref (Ma 8), .int (Mv 10), .ref (Ma 9), .ref (Ma 10), .int (Mv 11), .int (Mv 12), .int (Mv 13), .ref (Ma 11), .int (Mv 14), .ref (Ma 12), .ref (Ma 13), .ref (Ma 14), .ref (Ma 15), .ref (Ma 16), .long (Mj 0), .ref (Ma 17), .ref (Ma 18), .ref (Ma 19), .ref (Ma 20)])), ((Ma 1), .inl (tc 2, 400, .inl sv_35))] H := hP₀
    replace hD : va_D A [((Ma 0), .inr (12, [.ref (Ma 1), .int sv_34, .int (Mv 1), .ref (Ma 2), .ref (Ma 3), .ref (Ma 4), .ref (Ma 5), .ref (Ma 6), .int (Mv 2), .int (Mv 3), .int (Mv 4), .int (Mv 5), .int (Mv 6), .int (Mv 7), .int (Mv 8), .ref (Ma 7), .int (Mv 9), .ref (Ma 8), .int (Mv 10), .ref (Ma 9), .ref (Ma 10), .int (Mv 11), .int (Mv 12), .int (Mv 13), .ref (Ma 11), .int (Mv 14), .ref (Ma 12), .ref (Ma 13), .ref (Ma 14), .ref (Ma 15), .ref (Ma 16), .long (Mj 0), .ref (Ma 17), .ref (Ma 18), .ref (Ma 19), .ref (Ma 20)])), ((Ma 1), .inl (tc 2, 400, .inl sv_35))] := hD₀
    replace hS := hS₀
    clear hP₀ hD₀ hS₀
    refine lv_aload_n hx hb dX12_feed_36 rfl (lv_at hl 0 rfl) ?_
    refine lv_iload hx hb dX12_feed_37 (lv_at hl 5 rfl) ?_
    have ha_39 : 0 ≤ sv_34.toInt ∧ sv_34.toInt ≤ 396 := by
      have z_1 := Int32.le_iff_toInt_le.mp c_2
      have y_400 : (400 : Int32).toInt = 400 := by decide
      have y_20 : (20 : Int32).toInt = 20 := by decide
      have t_x_1 : x_1.toInt = ((Mv 0) : Int32).toInt + (20 : Int32).toInt := by rw [ex_1]; exact add_toInt (by omega) (by omega)
      omega
    refine cV (a := (Ma 0)) (As := [.int x5]) (rest := []) (wr := []) ⟨hx, hb, hml, hown, hts⟩ hK hX hA (cu_fX12_four l D tc sk (Ma 0) (Ma 1) (Ma 2) (Ma 3) (Ma 4) (Ma 5) (Ma 6) (Ma 7) (Ma 8) (Ma 9) (Ma 10) (Ma 11) (Ma 12) (Ma 13) (Ma 14) (Ma 15) (Ma 16) (Ma 17) (Ma 18) (Ma 19) (Ma 20) sv_34 (Mv 1) (Mv 2) (Mv 3) (Mv 4) (Mv 5) (Mv 6) (Mv 7) (Mv 8) (Mv 9) (Mv 10) (Mv 11) (Mv 12) (Mv 13) (Mv 14) sv_35 (Mj 0) x5 ha_39 pf_37) k_1191 k_1188 k_1190 k_24 k_106 pl_X12_four ⟨Nat.le_of_ble_eq_true rfl, Nat.le_of_ble_eq_true rfl⟩ rfl rfl (va_recv hK hP (ci := 12) (q0 := 0) rfl rfl) hP hD hS [0, 1] [] rfl rfl rfl rfl rfl (by decide) rfl hl.1 rfl (Nat.le_of_ble_eq_true rfl) dX12_feed_39 ⟨Nat.le_of_ble_eq_true rfl, Nat.le_of_ble_eq_true rfl⟩ (fun v_40 u_41 H locs hv_42 hP₀ hD₀ hS₀ => ?_)
    obtain ⟨sv_43, sv_44⟩ := u_41
    obtain ⟨rfl, pf_45, pf_46, pf_47⟩ := hv_42
    have pf_45 : (sv_43 : Int32).toInt = sv_34.toInt + 4 := pf_45
    have pf_46 : ByS sv_44 := pf_46
    have pf_47 : FdB sv_35 sv_44 sv_34 sv_43 x5 := pf_47
    have ar_pf_47 := pf_47.1
    refine W.eq (g2 := F0 m 42 ls []) rfl ?_
    replace hP : va_P D classes [((Ma 0), .inr (12, [.ref (Ma 1), .int sv_43, .int (Mv 1), .ref (Ma 2), .ref (Ma 3), .ref (Ma 4), .ref (Ma 5), .ref (Ma 6), .int (Mv 2), .int (Mv 3), .int (Mv 4), .int (Mv 5), .int (Mv 6), .int (Mv 7), .int (Mv 8), .ref (Ma 7), .int (Mv 9), .ref (Ma 8), .int (Mv 10), .ref (Ma 9), .ref (Ma 10), .int (Mv 11), .int (Mv 12), .int (Mv 13), .ref (Ma 11), .int (Mv 14), .ref (Ma 12), .ref (Ma 13), .ref (Ma 14), .ref (Ma 15), .ref (Ma 16), .long (Mj 0), .ref (Ma 17), .ref (Ma 18), .ref (Ma 19), .ref (Ma 20)])), ((Ma 1), .inl (tc 2, 400, .inl sv_44))] H := hP₀
    replace hD : va_D A [((Ma 0), .inr (12, [.ref (Ma 1), .int sv_43, .int (Mv 1), .ref (Ma 2), .ref (Ma 3), .ref (Ma 4), .ref (Ma 5), .ref (Ma 6), .int (Mv 2), .int (Mv 3), .int (Mv 4), .int (Mv 5), .int (Mv 6), .int (Mv 7), .int (Mv 8), .ref (Ma 7), .int (Mv 9), .ref (Ma 8), .int (Mv 10), .ref (Ma 9), .ref (Ma 10), .int (Mv 11), .int (Mv 12), .int (Mv 13), .ref (Ma 11), .int (Mv 14), .ref (Ma 12), .ref (Ma 13), .ref (Ma 14), .ref (Ma 15), .ref (Ma 16), .long (Mj 0), .ref (Ma 17), .ref (Ma 18), .ref (Ma 19), .ref (Ma 20)])), ((Ma 1), .inl (tc 2, 400, .inl sv_44))] := hD₀
    replace hS := hS₀
    clear hP₀ hD₀ hS₀
    refine lv_aload_n hx hb dX12_feed_42 rfl (lv_at hl 0 rfl) ?_
    refine gf_X12_77 hx hb hts hown hK hP 0 rfl rfl dX12_feed_43 ?_
    have ha_48 : 0 ≤ (sv_43 : Int32).toInt ∧ (sv_43 : Int32).toInt ≤ 400 := by
      have z_1 := Int32.le_iff_toInt_le.mp c_2
      have y_400 : (400 : Int32).toInt = 400 := by decide
      have y_20 : (20 : Int32).toInt = 20 := by decide
      have t_x_1 : x_1.toInt = ((Mv 0) : Int32).toInt + (20 : Int32).toInt := by rw [ex_1]; exact add_toInt (by omega) (by omega)
      omega
    have hr_49 : (Mv 0).toInt ≤ 380 := by
      have z_1 := Int32.le_iff_toInt_le.mp c_2
      have y_400 : (400 : Int32).toInt = 400 := by decide
      have y_20 : (20 : Int32).toInt = 20 := by decide
      have t_x_1 : x_1.toInt = ((Mv 0) : Int32).toInt + (20 : Int32).toInt := by rw [ex_1]; exact add_toInt (by omega) (by omega)
      omega
    exact retI (v := sv_43) hx hb hr hlk (rfl) hP hD hS (sv_43, sv_44) ⟨_, rfl, (Or.inr ⟨hr_49, rfl, _, _, _, _, _, _, _, _, pf_11, pf_20, pf_29, pf_38, pf_47⟩), ha_48, pf_46⟩ [0, 1] rfl rfl dX12_feed_46 (Nat.le_of_ble_eq_true rfl) (Nat.le_of_ble_eq_true rfl) rfl
  · skip
    refine lv_iconst (v := (-1)) hx hb dX12_feed_13 (by decide) ?_
    have hr_50 : 380 < (Mv 0).toInt := by
      have z_1 := Int32.lt_iff_toInt_lt.mp (Int32.not_le.mp c_2)
      have y_400 : (400 : Int32).toInt = 400 := by decide
      have y_20 : (20 : Int32).toInt = 20 := by decide
      have t_x_1 : x_1.toInt = ((Mv 0) : Int32).toInt + (20 : Int32).toInt := by rw [ex_1]; exact add_toInt (by omega) (by omega)
      omega
    have hr_51 : ((-1) : Int32).toInt = -1 := by
      have z_1 := Int32.lt_iff_toInt_lt.mp (Int32.not_le.mp c_2)
      have y_400 : (400 : Int32).toInt = 400 := by decide
      have y_m1 : (-1 : Int32).toInt = -1 := by decide
      have y_20 : (20 : Int32).toInt = 20 := by decide
      have t_x_1 : x_1.toInt = ((Mv 0) : Int32).toInt + (20 : Int32).toInt := by rw [ex_1]; exact add_toInt (by omega) (by omega)
      omega
    exact retI (v := (-1)) hx hb hr hlk (rfl) hP hD hS ((Mv 0), (Mf 1)) ⟨_, rfl, (Or.inl ⟨hr_50, hr_51, rfl, rfl⟩), h_t, h_bs⟩ [0, 1] rfl rfl dX12_feed_14 (Nat.le_of_ble_eq_true rfl) (Nat.le_of_ble_eq_true rfl) rfl
set_option maxHeartbeats 4000000 in
set_option maxRecDepth 100000 in
theorem ct_fX12_end (l : Launch) (D : va_G) (tc : Nat → ClassId) (sk : (Nat → Nat) × (Nat → Nat)) (Ma : Nat → Nat) (Mv : Nat → Int32) (Mj : Nat → Int64) (x1 : Int32) (h_t : 0 ≤ ((Mv 0) : Int32).toInt ∧ ((Mv 0) : Int32).toInt ≤ 400) : Ct l yX12_end cX12_end 2 (some .int) { frames := 0, cells := 0, slots := 0, locals := 0 } D tc sk [.ref (Ma 0), .int x1] [((Ma 0), .inr (12, [.ref (Ma 1), .int (Mv 0), .int (Mv 1), .ref (Ma 2), .ref (Ma 3), .ref (Ma 4), .ref (Ma 5), .ref (Ma 6), .int (Mv 2), .int (Mv 3), .int (Mv 4), .int (Mv 5), .int (Mv 6), .int (Mv 7), .int (Mv 8), .ref (Ma 7), .int (Mv 9), .ref (Ma 8), .int (Mv 10), .ref (Ma 9), .ref (Ma 10), .int (Mv 11), .int (Mv 12), .int (Mv 13), .ref (Ma 11), .int (Mv 14), .ref (Ma 12), .ref (Ma 13), .ref (Ma 14), .ref (Ma 15), .ref (Ma 16), .long (Mj 0), .ref (Ma 17), .ref (Ma 18), .ref (Ma 19), .ref (Ma 20)]))] (fun (v : Option Value) (oo0x1 : Int32) => ∃ r : Int32, v = some (.int r) ∧ (EnP (Mv 0) oo0x1 x1 r) ∧ (0 ≤ (oo0x1 : Int32).toInt ∧ (oo0x1 : Int32).toInt ≤ 400)) (fun (oo0x1 : Int32) => [((Ma 0), .inr (12, [.ref (Ma 1), .int oo0x1, .int (Mv 1), .ref (Ma 2), .ref (Ma 3), .ref (Ma 4), .ref (Ma 5), .ref (Ma 6), .int (Mv 2), .int (Mv 3), .int (Mv 4), .int (Mv 5), .int (Mv 6), .int (Mv 7), .int (Mv 8), .ref (Ma 7), .int (Mv 9), .ref (Ma 8), .int (Mv 10), .ref (Ma 9), .ref (Ma 10), .int (Mv 11), .int (Mv 12), .int (Mv 13), .ref (Ma 11), .int (Mv 14), .ref (Ma 12), .ref (Ma 13), .ref (Ma 14), .ref (Ma 15), .ref (Ma 16), .long (Mj 0), .ref (Ma 17), .ref (Ma 18), .ref (Ma 19), .ref (Ma 20)]))]) 0 0 := by
  refine Ct.start (by decide) (Nat.le_of_ble_eq_true rfl) (fun p e s m below meth c A ls hx hb hr hlk hin hml hown hts hK hX hP hD hA hl hS => ?_)
  have hl : lv_has ls 2 [(0, .ref (Ma 0)), (1, .int x1)] := hl
  refine lv_iload_n hx hb dX12_end_0 rfl (lv_at hl 1 rfl) ?_
  refine lv_if_lt (tgt := 12) hx hb dX12_end_1 (by decide) (fun c_1 => ?_) (fun c_1 => ?_)
  · skip
    refine lv_iconst (v := (-1)) hx hb dX12_end_12 (by decide) ?_
    have hr_2 : x1.toInt < 0 ∨ (Mv 0).toInt < x1.toInt := by
      have z_1 := Int32.lt_iff_toInt_lt.mp c_1
      have y_0 : (0 : Int32).toInt = 0 := by decide
      omega
    have hr_3 : ((-1) : Int32).toInt = -1 := by
      have z_1 := Int32.lt_iff_toInt_lt.mp c_1
      have y_0 : (0 : Int32).toInt = 0 := by decide
      have y_m1 : (-1 : Int32).toInt = -1 := by decide
      omega
    exact retI (v := (-1)) hx hb hr hlk (rfl) hP hD hS (Mv 0) ⟨_, rfl, (Or.inl ⟨hr_2, hr_3, rfl⟩), h_t⟩ [0] rfl rfl dX12_end_13 (Nat.le_of_ble_eq_true rfl) (Nat.le_of_ble_eq_true rfl) rfl
  · skip
    refine lv_iload_n hx hb dX12_end_4 rfl (lv_at hl 1 rfl) ?_
    refine lv_aload_n hx hb dX12_end_5 rfl (lv_at hl 0 rfl) ?_
    refine gf_X12_77 hx hb hts hown hK hP 0 rfl rfl dX12_end_6 ?_
    refine lv_icmp_le (tgt := 14) hx hb dX12_end_9 (by decide) (fun c_4 => ?_) (fun c_4 => ?_)
    · skip
      refine lv_aload_n hx hb dX12_end_14 rfl (lv_at hl 0 rfl) ?_
      refine lv_iload_n hx hb dX12_end_15 rfl (lv_at hl 1 rfl) ?_
      refine pf_X12_77 hx hb hts hown hK hP hD hS 0 rfl (Nat.le_of_ble_eq_true rfl) rfl rfl dX12_end_16 (fun H locs hP₀ hD₀ hS₀ => ?_)
      replace hP : va_P D classes [((Ma 0), .inr (12, [.ref (Ma 1), .int x1, .int (Mv 1), .ref (Ma 2), .ref (Ma 3), .ref (Ma 4), .ref (Ma 5), .ref (Ma 6), .int (Mv 2), .int (Mv 3), .int (Mv 4), .int (Mv 5), .int (Mv 6), .int (Mv 7), .int (Mv 8), .ref (Ma 7), .int (Mv 9), .ref (Ma 8), .int (Mv 10), .ref (Ma 9), .ref (Ma 10), .int (Mv 11), .int (Mv 12), .int (Mv 13), .ref (Ma 11), .int (Mv 14), .ref (Ma 12), .ref (Ma 13), .ref (Ma 14), .ref (Ma 15), .ref (Ma 16), .long (Mj 0), .ref (Ma 17), .ref (Ma 18), .ref (Ma 19), .ref (Ma 20)]))] H := hP₀
      replace hD : va_D A [((Ma 0), .inr (12, [.ref (Ma 1), .int x1, .int (Mv 1), .ref (Ma 2), .ref (Ma 3), .ref (Ma 4), .ref (Ma 5), .ref (Ma 6), .int (Mv 2), .int (Mv 3), .int (Mv 4), .int (Mv 5), .int (Mv 6), .int (Mv 7), .int (Mv 8), .ref (Ma 7), .int (Mv 9), .ref (Ma 8), .int (Mv 10), .ref (Ma 9), .ref (Ma 10), .int (Mv 11), .int (Mv 12), .int (Mv 13), .ref (Ma 11), .int (Mv 14), .ref (Ma 12), .ref (Ma 13), .ref (Ma 14), .ref (Ma 15), .ref (Ma 16), .long (Mj 0), .ref (Ma 17), .ref (Ma 18), .ref (Ma 19), .ref (Ma 20)]))] := hD₀
      replace hS := hS₀
      clear hP₀ hD₀ hS₀
      refine lv_iload_n hx hb dX12_end_19 rfl (lv_at hl 1 rfl) ?_
      have ha_5 : 0 ≤ (x1 : Int32).toInt ∧ (x1 : Int32).toInt ≤ 400 := by
        have z_1 := Int32.le_iff_toInt_le.mp (Int32.not_lt.mp c_1)
        have z_2 := Int32.le_iff_toInt_le.mp c_4
        have y_0 : (0 : Int32).toInt = 0 := by decide
        omega
      have hr_6 : 0 ≤ x1.toInt ∧ x1.toInt ≤ (Mv 0).toInt := by
        have z_1 := Int32.le_iff_toInt_le.mp (Int32.not_lt.mp c_1)
        have z_2 := Int32.le_iff_toInt_le.mp c_4
        have y_0 : (0 : Int32).toInt = 0 := by decide
        omega
      exact retI (v := x1) hx hb hr hlk (rfl) hP hD hS x1 ⟨_, rfl, (Or.inr ⟨hr_6, rfl, rfl⟩), ha_5⟩ [0] rfl rfl dX12_end_20 (Nat.le_of_ble_eq_true rfl) (Nat.le_of_ble_eq_true rfl) rfl
    · skip
      refine lv_iconst (v := (-1)) hx hb dX12_end_12 (by decide) ?_
      have hr_7 : x1.toInt < 0 ∨ (Mv 0).toInt < x1.toInt := by
        have z_1 := Int32.le_iff_toInt_le.mp (Int32.not_lt.mp c_1)
        have z_2 := Int32.lt_iff_toInt_lt.mp (Int32.not_le.mp c_4)
        have y_0 : (0 : Int32).toInt = 0 := by decide
        omega
      have hr_8 : ((-1) : Int32).toInt = -1 := by
        have z_1 := Int32.le_iff_toInt_le.mp (Int32.not_lt.mp c_1)
        have z_2 := Int32.lt_iff_toInt_lt.mp (Int32.not_le.mp c_4)
        have y_0 : (0 : Int32).toInt = 0 := by decide
        have y_m1 : (-1 : Int32).toInt = -1 := by decide
        omega
      exact retI (v := (-1)) hx hb hr hlk (rfl) hP hD hS (Mv 0) ⟨_, rfl, (Or.inl ⟨hr_7, hr_8, rfl⟩), h_t⟩ [0] rfl rfl dX12_end_13 (Nat.le_of_ble_eq_true rfl) (Nat.le_of_ble_eq_true rfl) rfl
