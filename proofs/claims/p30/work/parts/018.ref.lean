set_option maxRecDepth 100000 in
theorem cu_X12_soldAll {T : Nat → Option Int32} (l : Launch) (D : va_G) (tc : Nat → ClassId) (sk : (Nat → Nat) × (Nat → Nat)) (Ma_0 : Nat) (Ma_1 : Nat) (Ma_2 : Nat) (Ma_3 : Nat) (Ma_4 : Nat) (Ma_5 : Nat) (Ma_6 : Nat) (Ma_7 : Nat) (Ma_8 : Nat) (Ma_9 : Nat) (Ma_10 : Nat) (Ma_11 : Nat) (Ma_12 : Nat) (Ma_13 : Nat) (Ma_14 : Nat) (Ma_15 : Nat) (Ma_16 : Nat) (Ma_17 : Nat) (Ma_18 : Nat) (Ma_19 : Nat) (Ma_20 : Nat) (Mv_0 : Int32) (Mv_1 : Int32) (Mv_2 : Int32) (Mv_3 : Int32) (Mv_4 : Int32) (Mv_5 : Int32) (Mv_6 : Int32) (Mv_7 : Int32) (Mv_8 : Int32) (Mv_9 : Int32) (Mv_10 : Int32) (Mv_11 : Int32) (Mv_12 : Int32) (Mv_13 : Int32) (Mv_14 : Int32) (Mf_10 : Nat → Int32) (Mj_0 : Int64) (h_said : SaidB T Mf_10) : Ct l yX12_soldAll cX12_soldAll 3 (some .int) { frames := 1, cells := 0, slots := 0, locals := 21 } D tc sk [.ref Ma_0] [(Ma_0, .inr (12, [.ref Ma_1, .int Mv_0, .int Mv_1, .ref Ma_2, .ref Ma_3, .ref Ma_4, .ref Ma_5, .ref Ma_6, .int Mv_2, .int Mv_3, .int Mv_4, .int Mv_5, .int Mv_6, .int Mv_7, .int Mv_8, .ref Ma_7, .int Mv_9, .ref Ma_8, .int Mv_10, .ref Ma_9, .ref Ma_10, .int Mv_11, .int Mv_12, .int Mv_13, .ref Ma_11, .int Mv_14, .ref Ma_12, .ref Ma_13, .ref Ma_14, .ref Ma_15, .ref Ma_16, .long Mj_0, .ref Ma_17, .ref Ma_18, .ref Ma_19, .ref Ma_20])), (Ma_10, .inl (tc 0, 126, .inl Mf_10))] (fun (v : Option Value) (_ : Unit) => ∃ r : Int32, v = some (.int r) ∧ (True)) (fun (_ : Unit) => [(Ma_0, .inr (12, [.ref Ma_1, .int Mv_0, .int Mv_1, .ref Ma_2, .ref Ma_3, .ref Ma_4, .ref Ma_5, .ref Ma_6, .int Mv_2, .int Mv_3, .int Mv_4, .int Mv_5, .int Mv_6, .int Mv_7, .int Mv_8, .ref Ma_7, .int Mv_9, .ref Ma_8, .int Mv_10, .ref Ma_9, .ref Ma_10, .int Mv_11, .int Mv_12, .int Mv_13, .ref Ma_11, .int Mv_14, .ref Ma_12, .ref Ma_13, .ref Ma_14, .ref Ma_15, .ref Ma_16, .long Mj_0, .ref Ma_17, .ref Ma_18, .ref Ma_19, .ref Ma_20])), (Ma_10, .inl (tc 0, 126, .inl Mf_10))]) 0 0 :=
  ct_X12_soldAll l D tc sk (fun k => ([Ma_0, Ma_1, Ma_2, Ma_3, Ma_4, Ma_5, Ma_6, Ma_7, Ma_8, Ma_9, Ma_10, Ma_11, Ma_12, Ma_13, Ma_14, Ma_15, Ma_16, Ma_17, Ma_18, Ma_19, Ma_20] : List (Nat)).getD k 0) (fun k => ([Mv_0, Mv_1, Mv_2, Mv_3, Mv_4, Mv_5, Mv_6, Mv_7, Mv_8, Mv_9, Mv_10, Mv_11, Mv_12, Mv_13, Mv_14] : List (Int32)).getD k 0) (fun k => ([(fun _ => 0), (fun _ => 0), (fun _ => 0), (fun _ => 0), (fun _ => 0), (fun _ => 0), (fun _ => 0), (fun _ => 0), (fun _ => 0), (fun _ => 0), Mf_10] : List (Nat → Int32)).getD k (fun _ => 0)) (fun k => ([Mj_0] : List (Int64)).getD k 0) h_said
set_option maxHeartbeats 4000000 in
set_option maxRecDepth 100000 in
theorem ct_X12_metAll {T : Nat → Option Int32} (l : Launch) (D : va_G) (tc : Nat → ClassId) (sk : (Nat → Nat) × (Nat → Nat)) (Ma : Nat → Nat) (Mv : Nat → Int32) (Mf : Nat → Nat → Int32) (Mj : Nat → Int64) (h_said : SaidB T (Mf 10)) : Ct l yX12_metAll cX12_metAll 3 (some .int) { frames := 1, cells := 0, slots := 0, locals := 21 } D tc sk [.ref (Ma 0)] [((Ma 0), .inr (12, [.ref (Ma 1), .int (Mv 0), .int (Mv 1), .ref (Ma 2), .ref (Ma 3), .ref (Ma 4), .ref (Ma 5), .ref (Ma 6), .int (Mv 2), .int (Mv 3), .int (Mv 4), .int (Mv 5), .int (Mv 6), .int (Mv 7), .int (Mv 8), .ref (Ma 7), .int (Mv 9), .ref (Ma 8), .int (Mv 10), .ref (Ma 9), .ref (Ma 10), .int (Mv 11), .int (Mv 12), .int (Mv 13), .ref (Ma 11), .int (Mv 14), .ref (Ma 12), .ref (Ma 13), .ref (Ma 14), .ref (Ma 15), .ref (Ma 16), .long (Mj 0), .ref (Ma 17), .ref (Ma 18), .ref (Ma 19), .ref (Ma 20)])), ((Ma 10), .inl (tc 0, 126, .inl (Mf 10)))] (fun (v : Option Value) (_ : Unit) => ∃ r : Int32, v = some (.int r) ∧ (True)) (fun (_ : Unit) => [((Ma 0), .inr (12, [.ref (Ma 1), .int (Mv 0), .int (Mv 1), .ref (Ma 2), .ref (Ma 3), .ref (Ma 4), .ref (Ma 5), .ref (Ma 6), .int (Mv 2), .int (Mv 3), .int (Mv 4), .int (Mv 5), .int (Mv 6), .int (Mv 7), .int (Mv 8), .ref (Ma 7), .int (Mv 9), .ref (Ma 8), .int (Mv 10), .ref (Ma 9), .ref (Ma 10), .int (Mv 11), .int (Mv 12), .int (Mv 13), .ref (Ma 11), .int (Mv 14), .ref (Ma 12), .ref (Ma 13), .ref (Ma 14), .ref (Ma 15), .ref (Ma 16), .long (Mj 0), .ref (Ma 17), .ref (Ma 18), .ref (Ma 19), .ref (Ma 20)])), ((Ma 10), .inl (tc 0, 126, .inl (Mf 10)))]) 0 0 := by
  refine Ct.start (by decide) (Nat.le_of_ble_eq_true rfl) (fun p e s m below meth c A ls hx hb hr hlk hin hml hown hts hK hX hP hD hA hl hS => ?_)
  have hl : lv_has ls 3 [(0, .ref (Ma 0))] := hl
  have ar_h_said := SaidB.ar h_said
  refine lv_iconst (v := 0) hx hb dX12_metAll_0 (by decide) ?_
  refine lv_istore_n (lv' := [(1, .int 0), (0, .ref (Ma 0))]) hx hb dX12_metAll_1 rfl hl (by decide) rfl (fun ls hl₀ => ?_)
  replace hl := hl₀
  clear hl₀
  refine lv_iconst (v := 0) hx hb dX12_metAll_2 (by decide) ?_
  refine lv_istore_n (lv' := [(2, .int 0), (1, .int 0), (0, .ref (Ma 0))]) hx hb dX12_metAll_3 rfl hl (by decide) rfl (fun ls hl₀ => ?_)
  replace hl := hl₀
  clear hl₀
  have loop_7 : ∀ (n_5 : Nat) (vy_3 : Int32) (vy_4 : Int32) (H : Heap) (locs : List Loc) (ls : Array Slot), (6 - (vy_3 : Int32).toInt).toNat < n_5 → (0 ≤ (vy_3 : Int32).toInt) → va_P D classes [((Ma 0), .inr (12, [.ref (Ma 1), .int (Mv 0), .int (Mv 1), .ref (Ma 2), .ref (Ma 3), .ref (Ma 4), .ref (Ma 5), .ref (Ma 6), .int (Mv 2), .int (Mv 3), .int (Mv 4), .int (Mv 5), .int (Mv 6), .int (Mv 7), .int (Mv 8), .ref (Ma 7), .int (Mv 9), .ref (Ma 8), .int (Mv 10), .ref (Ma 9), .ref (Ma 10), .int (Mv 11), .int (Mv 12), .int (Mv 13), .ref (Ma 11), .int (Mv 14), .ref (Ma 12), .ref (Ma 13), .ref (Ma 14), .ref (Ma 15), .ref (Ma 16), .long (Mj 0), .ref (Ma 17), .ref (Ma 18), .ref (Ma 19), .ref (Ma 20)])), ((Ma 10), .inl (tc 0, 126, .inl (Mf 10)))] H → va_D A [((Ma 0), .inr (12, [.ref (Ma 1), .int (Mv 0), .int (Mv 1), .ref (Ma 2), .ref (Ma 3), .ref (Ma 4), .ref (Ma 5), .ref (Ma 6), .int (Mv 2), .int (Mv 3), .int (Mv 4), .int (Mv 5), .int (Mv 6), .int (Mv 7), .int (Mv 8), .ref (Ma 7), .int (Mv 9), .ref (Ma 8), .int (Mv 10), .ref (Ma 9), .ref (Ma 10), .int (Mv 11), .int (Mv 12), .int (Mv 13), .ref (Ma 11), .int (Mv 14), .ref (Ma 12), .ref (Ma 13), .ref (Ma 14), .ref (Ma 15), .ref (Ma 16), .long (Mj 0), .ref (Ma 17), .ref (Ma 18), .ref (Ma 19), .ref (Ma 20)])), ((Ma 10), .inl (tc 0, 126, .inl (Mf 10)))] → va_S A s.heap H locs → lv_has ls 3 [(2, .int vy_3), (1, .int vy_4), (0, .ref (Ma 0))] → W p l e ({ frames := 1, cells := 0, slots := 0, locals := 21 }) s m ([.ref (Ma 0)].toArray) below meth c H locs 0 0 (MQ below (QW (fun (v : Option Value) (_ : Unit) => ∃ r : Int32, v = some (.int r) ∧ (True)) (BW D (fun (_ : Unit) => [((Ma 0), .inr (12, [.ref (Ma 1), .int (Mv 0), .int (Mv 1), .ref (Ma 2), .ref (Ma 3), .ref (Ma 4), .ref (Ma 5), .ref (Ma 6), .int (Mv 2), .int (Mv 3), .int (Mv 4), .int (Mv 5), .int (Mv 6), .int (Mv 7), .int (Mv 8), .ref (Ma 7), .int (Mv 9), .ref (Ma 8), .int (Mv 10), .ref (Ma 9), .ref (Ma 10), .int (Mv 11), .int (Mv 12), .int (Mv 13), .ref (Ma 11), .int (Mv 14), .ref (Ma 12), .ref (Ma 13), .ref (Ma 14), .ref (Ma 15), .ref (Ma 16), .long (Mj 0), .ref (Ma 17), .ref (Ma 18), .ref (Ma 19), .ref (Ma 20)])), ((Ma 10), .inl (tc 0, 126, .inl (Mf 10)))]) A) A) ([.ref (Ma 0)].toArray) s 0 0 A) (F0 m 4 ls []) := by
    clear hP hD hS hl
    intro n_5
    induction n_5 with
    | zero =>
      intro vy_3 vy_4 H locs ls h1
      exact absurd h1 (Nat.not_lt_zero _)
    | succ n_5 ih_6 =>
      intro vy_3 vy_4 H locs ls hn_9 pf_8 hP hD hS hl
      refine lv_iload_n hx hb dX12_metAll_4 rfl (lv_at hl 0 rfl) ?_
      refine lv_aload_n hx hb dX12_metAll_5 rfl (lv_at hl 2 rfl) ?_
      refine gf_X12_39 hx hb hts hown hK hP 0 rfl rfl dX12_metAll_6 ?_
      refine lv_iconst (v := 3) hx hb dX12_metAll_9 (by decide) ?_
      refine va_iald hx hb hK hP 1 0 rfl rfl (vin_dec (by decide +kernel)) dX12_metAll_10 ?_
      refine lv_topi (fun x_10 ex_10 => ?_)
      have lx_10 : x_10.toInt = ((Mf 10) 3).toInt := congrArg Int32.toInt ex_10
      refine lv_icmp_ge (tgt := 28) hx hb dX12_metAll_11 (by decide) (fun c_11 => ?_) (fun c_11 => ?_)
      · skip
        refine lv_iload_n hx hb dX12_metAll_28 rfl (lv_at hl 1 rfl) ?_
        exact retI (v := vy_4) hx hb hr hlk (rfl) hP hD hS () ⟨_, rfl, trivial⟩ [0, 1] rfl rfl dX12_metAll_29 (Nat.le_of_ble_eq_true rfl) (Nat.le_of_ble_eq_true rfl) rfl
      · skip
        refine lv_iload_n hx hb dX12_metAll_14 rfl (lv_at hl 1 rfl) ?_
        refine lv_aload_n hx hb dX12_metAll_15 rfl (lv_at hl 2 rfl) ?_
        refine lv_iload_n hx hb dX12_metAll_16 rfl (lv_at hl 0 rfl) ?_
        have ha_12 : 0 ≤ vy_3.toInt ∧ vy_3.toInt < 6 := by
          have z_1 := Int32.lt_iff_toInt_lt.mp (Int32.not_le.mp c_11)
          omega
        refine cV (a := (Ma 0)) (As := [.int vy_3]) (rest := [.int vy_4]) (wr := []) ⟨hx, hb, hml, hown, hts⟩ hK hX hA (cu_X12_metOf l D tc sk (Ma 0) (Ma 1) (Ma 2) (Ma 3) (Ma 4) (Ma 5) (Ma 6) (Ma 7) (Ma 8) (Ma 9) (Ma 10) (Ma 11) (Ma 12) (Ma 13) (Ma 14) (Ma 15) (Ma 16) (Ma 17) (Ma 18) (Ma 19) (Ma 20) (Mv 0) (Mv 1) (Mv 2) (Mv 3) (Mv 4) (Mv 5) (Mv 6) (Mv 7) (Mv 8) (Mv 9) (Mv 10) (Mv 11) (Mv 12) (Mv 13) (Mv 14) (Mf 10) (Mj 0) vy_3 ha_12) k_1387 k_1384 k_1386 k_61 k_106 pl_X12_metOf ⟨Nat.le_of_ble_eq_true rfl, Nat.le_of_ble_eq_true rfl⟩ rfl rfl (va_recv hK hP (ci := 12) (q0 := 0) rfl rfl) hP hD hS [0, 1] [] rfl rfl rfl rfl rfl (by decide) rfl hl.1 rfl (Nat.le_of_ble_eq_true rfl) dX12_metAll_17 ⟨Nat.le_of_ble_eq_true rfl, Nat.le_of_ble_eq_true rfl⟩ (fun v_13 u_14 H locs hv_15 hP₀ hD₀ hS₀ => ?_)
        obtain ⟨r_16, rfl, he_17⟩ := hv_15
        refine W.eq (g2 := F0 m 20 ls [.int r_16, .int vy_4]) rfl ?_
        replace hP : va_P D classes [((Ma 0), .inr (12, [.ref (Ma 1), .int (Mv 0), .int (Mv 1), .ref (Ma 2), .ref (Ma 3), .ref (Ma 4), .ref (Ma 5), .ref (Ma 6), .int (Mv 2), .int (Mv 3), .int (Mv 4), .int (Mv 5), .int (Mv 6), .int (Mv 7), .int (Mv 8), .ref (Ma 7), .int (Mv 9), .ref (Ma 8), .int (Mv 10), .ref (Ma 9), .ref (Ma 10), .int (Mv 11), .int (Mv 12), .int (Mv 13), .ref (Ma 11), .int (Mv 14), .ref (Ma 12), .ref (Ma 13), .ref (Ma 14), .ref (Ma 15), .ref (Ma 16), .long (Mj 0), .ref (Ma 17), .ref (Ma 18), .ref (Ma 19), .ref (Ma 20)])), ((Ma 10), .inl (tc 0, 126, .inl (Mf 10)))] H := hP₀
        replace hD : va_D A [((Ma 0), .inr (12, [.ref (Ma 1), .int (Mv 0), .int (Mv 1), .ref (Ma 2), .ref (Ma 3), .ref (Ma 4), .ref (Ma 5), .ref (Ma 6), .int (Mv 2), .int (Mv 3), .int (Mv 4), .int (Mv 5), .int (Mv 6), .int (Mv 7), .int (Mv 8), .ref (Ma 7), .int (Mv 9), .ref (Ma 8), .int (Mv 10), .ref (Ma 9), .ref (Ma 10), .int (Mv 11), .int (Mv 12), .int (Mv 13), .ref (Ma 11), .int (Mv 14), .ref (Ma 12), .ref (Ma 13), .ref (Ma 14), .ref (Ma 15), .ref (Ma 16), .long (Mj 0), .ref (Ma 17), .ref (Ma 18), .ref (Ma 19), .ref (Ma 20)])), ((Ma 10), .inl (tc 0, 126, .inl (Mf 10)))] := hD₀
        replace hS := hS₀
        clear hP₀ hD₀ hS₀
        refine lv_iadd hx hb dX12_metAll_20 ?_
        refine lv_topi (fun x_19 ex_19 => ?_)
        refine lv_istore_n (lv' := [(1, .int x_19), (2, .int vy_3), (0, .ref (Ma 0))]) hx hb dX12_metAll_21 rfl hl (by decide) rfl (fun ls hl₀ => ?_)
        replace hl := hl₀
        clear hl₀
        obtain ⟨x_20, ex_20⟩ : ∃ y : Int32, y = vy_3 + 1 := ⟨_, rfl⟩
        refine lv_iinc (v := x_20) (lv' := [(2, .int x_20), (1, .int x_19), (0, .ref (Ma 0))]) hx hb dX12_metAll_22 hl (k := 1) rfl (by rw [ex_20]; rfl) (by decide) rfl (fun ls hl₀ => ?_)
        replace hl := hl₀
        clear hl₀
        refine lv_goto (tgt := 4) hx hb dX12_metAll_25 (by decide) ?_
        have hb_21 : 6 - (x_20 : Int32).toInt < 6 - (vy_3 : Int32).toInt ∧ 1 ≤ 6 - (vy_3 : Int32).toInt := by
          have z_1 := Int32.lt_iff_toInt_lt.mp (Int32.not_le.mp c_11)
          have y_1 : (1 : Int32).toInt = 1 := by decide
          have t_x_20 : x_20.toInt = (vy_3 : Int32).toInt + (1 : Int32).toInt := by rw [ex_20]; exact add_toInt (by omega) (by omega)
          omega
        have ha_22 : 0 ≤ (x_20 : Int32).toInt := by
          have z_1 := Int32.lt_iff_toInt_lt.mp (Int32.not_le.mp c_11)
          have y_1 : (1 : Int32).toInt = 1 := by decide
          have t_x_20 : x_20.toInt = (vy_3 : Int32).toInt + (1 : Int32).toInt := by rw [ex_20]; exact add_toInt (by omega) (by omega)
          omega
        exact ih_6 x_20 x_19 _ _ _ (by omega) ha_22 (hP.sub [0, 1] rfl) (hD.sub [0, 1] rfl rfl) hS (lv_sub hl [0, 1, 2] rfl)
  have ha_23 : 0 ≤ (0 : Int32).toInt := by
    have y_0 : (0 : Int32).toInt = 0 := by decide
    omega
  exact loop_7 _ 0 0 _ _ _ (Nat.lt_succ_self _) ha_23 hP hD hS hl
set_option maxRecDepth 100000 in
theorem cu_X12_metAll {T : Nat → Option Int32} (l : Launch) (D : va_G) (tc : Nat → ClassId) (sk : (Nat → Nat) × (Nat → Nat)) (Ma_0 : Nat) (Ma_1 : Nat) (Ma_2 : Nat) (Ma_3 : Nat) (Ma_4 : Nat) (Ma_5 : Nat) (Ma_6 : Nat) (Ma_7 : Nat) (Ma_8 : Nat) (Ma_9 : Nat) (Ma_10 : Nat) (Ma_11 : Nat) (Ma_12 : Nat) (Ma_13 : Nat) (Ma_14 : Nat) (Ma_15 : Nat) (Ma_16 : Nat) (Ma_17 : Nat) (Ma_18 : Nat) (Ma_19 : Nat) (Ma_20 : Nat) (Mv_0 : Int32) (Mv_1 : Int32) (Mv_2 : Int32) (Mv_3 : Int32) (Mv_4 : Int32) (Mv_5 : Int32) (Mv_6 : Int32) (Mv_7 : Int32) (Mv_8 : Int32) (Mv_9 : Int32) (Mv_10 : Int32) (Mv_11 : Int32) (Mv_12 : Int32) (Mv_13 : Int32) (Mv_14 : Int32) (Mf_10 : Nat → Int32) (Mj_0 : Int64) (h_said : SaidB T Mf_10) : Ct l yX12_metAll cX12_metAll 3 (some .int) { frames := 1, cells := 0, slots := 0, locals := 21 } D tc sk [.ref Ma_0] [(Ma_0, .inr (12, [.ref Ma_1, .int Mv_0, .int Mv_1, .ref Ma_2, .ref Ma_3, .ref Ma_4, .ref Ma_5, .ref Ma_6, .int Mv_2, .int Mv_3, .int Mv_4, .int Mv_5, .int Mv_6, .int Mv_7, .int Mv_8, .ref Ma_7, .int Mv_9, .ref Ma_8, .int Mv_10, .ref Ma_9, .ref Ma_10, .int Mv_11, .int Mv_12, .int Mv_13, .ref Ma_11, .int Mv_14, .ref Ma_12, .ref Ma_13, .ref Ma_14, .ref Ma_15, .ref Ma_16, .long Mj_0, .ref Ma_17, .ref Ma_18, .ref Ma_19, .ref Ma_20])), (Ma_10, .inl (tc 0, 126, .inl Mf_10))] (fun (v : Option Value) (_ : Unit) => ∃ r : Int32, v = some (.int r) ∧ (True)) (fun (_ : Unit) => [(Ma_0, .inr (12, [.ref Ma_1, .int Mv_0, .int Mv_1, .ref Ma_2, .ref Ma_3, .ref Ma_4, .ref Ma_5, .ref Ma_6, .int Mv_2, .int Mv_3, .int Mv_4, .int Mv_5, .int Mv_6, .int Mv_7, .int Mv_8, .ref Ma_7, .int Mv_9, .ref Ma_8, .int Mv_10, .ref Ma_9, .ref Ma_10, .int Mv_11, .int Mv_12, .int Mv_13, .ref Ma_11, .int Mv_14, .ref Ma_12, .ref Ma_13, .ref Ma_14, .ref Ma_15, .ref Ma_16, .long Mj_0, .ref Ma_17, .ref Ma_18, .ref Ma_19, .ref Ma_20])), (Ma_10, .inl (tc 0, 126, .inl Mf_10))]) 0 0 :=
  ct_X12_metAll l D tc sk (fun k => ([Ma_0, Ma_1, Ma_2, Ma_3, Ma_4, Ma_5, Ma_6, Ma_7, Ma_8, Ma_9, Ma_10, Ma_11, Ma_12, Ma_13, Ma_14, Ma_15, Ma_16, Ma_17, Ma_18, Ma_19, Ma_20] : List (Nat)).getD k 0) (fun k => ([Mv_0, Mv_1, Mv_2, Mv_3, Mv_4, Mv_5, Mv_6, Mv_7, Mv_8, Mv_9, Mv_10, Mv_11, Mv_12, Mv_13, Mv_14] : List (Int32)).getD k 0) (fun k => ([(fun _ => 0), (fun _ => 0), (fun _ => 0), (fun _ => 0), (fun _ => 0), (fun _ => 0), (fun _ => 0), (fun _ => 0), (fun _ => 0), (fun _ => 0), Mf_10] : List (Nat → Int32)).getD k (fun _ => 0)) (fun k => ([Mj_0] : List (Int64)).getD k 0) h_said
set_option maxHeartbeats 4000000 in
set_option maxRecDepth 100000 in
theorem ct_X12_canBuy (l : Launch) (D : va_G) (tc : Nat → ClassId) (sk : (Nat → Nat) × (Nat → Nat)) (Ma : Nat → Nat) (Mv : Nat → Int32) (Mf : Nat → Nat → Int32) (Mj : Nat → Int64) (x1 : Int32) (h_b : 0 ≤ x1.toInt ∧ x1.toInt < 6) : Ct l yX12_canBuy cX12_canBuy 2 (some .boolean) { frames := 1, cells := 0, slots := 0, locals := 21 } D tc sk [.ref (Ma 0), .int x1] [((Ma 0), .inr (12, [.ref (Ma 1), .int (Mv 0), .int (Mv 1), .ref (Ma 2), .ref (Ma 3), .ref (Ma 4), .ref (Ma 5), .ref (Ma 6), .int (Mv 2), .int (Mv 3), .int (Mv 4), .int (Mv 5), .int (Mv 6), .int (Mv 7), .int (Mv 8), .ref (Ma 7), .int (Mv 9), .ref (Ma 8), .int (Mv 10), .ref (Ma 9), .ref (Ma 10), .int (Mv 11), .int (Mv 12), .int (Mv 13), .ref (Ma 11), .int (Mv 14), .ref (Ma 12), .ref (Ma 13), .ref (Ma 14), .ref (Ma 15), .ref (Ma 16), .long (Mj 0), .ref (Ma 17), .ref (Ma 18), .ref (Ma 19), .ref (Ma 20)])), ((Ma 10), .inl (tc 0, 126, .inl (Mf 10)))] (fun (v : Option Value) (_ : Unit) => ∃ r : Int32, v = some (.int r) ∧ ((r.toInt = 0 ∨ r.toInt = 1))) (fun (_ : Unit) => [((Ma 0), .inr (12, [.ref (Ma 1), .int (Mv 0), .int (Mv 1), .ref (Ma 2), .ref (Ma 3), .ref (Ma 4), .ref (Ma 5), .ref (Ma 6), .int (Mv 2), .int (Mv 3), .int (Mv 4), .int (Mv 5), .int (Mv 6), .int (Mv 7), .int (Mv 8), .ref (Ma 7), .int (Mv 9), .ref (Ma 8), .int (Mv 10), .ref (Ma 9), .ref (Ma 10), .int (Mv 11), .int (Mv 12), .int (Mv 13), .ref (Ma 11), .int (Mv 14), .ref (Ma 12), .ref (Ma 13), .ref (Ma 14), .ref (Ma 15), .ref (Ma 16), .long (Mj 0), .ref (Ma 17), .ref (Ma 18), .ref (Ma 19), .ref (Ma 20)])), ((Ma 10), .inl (tc 0, 126, .inl (Mf 10)))]) 0 0 := by
  refine Ct.start (by decide) (Nat.le_of_ble_eq_true rfl) (fun p e s m below meth c A ls hx hb hr hlk hin hml hown hts hK hX hP hD hA hl hS => ?_)
  have hl : lv_has ls 2 [(0, .ref (Ma 0)), (1, .int x1)] := hl
  refine lv_aload_n hx hb dX12_canBuy_0 rfl (lv_at hl 0 rfl) ?_
  refine gf_X12_39 hx hb hts hown hK hP 0 rfl rfl dX12_canBuy_1 ?_
  refine lv_bipush (v := 11) hx hb dX12_canBuy_4 (by decide) ?_
  refine va_iald hx hb hK hP 1 0 rfl rfl (vin_dec (by decide +kernel)) dX12_canBuy_6 ?_
  refine lv_topi (fun x_1 ex_1 => ?_)
  refine lv_aload_n hx hb dX12_canBuy_7 rfl (lv_at hl 0 rfl) ?_
  refine gf_X12_39 hx hb hts hown hK hP 0 rfl rfl dX12_canBuy_8 ?_
  refine lv_bipush (v := 56) hx hb dX12_canBuy_11 (by decide) ?_
  refine lv_iload_n hx hb dX12_canBuy_13 rfl (lv_at hl 1 rfl) ?_
  refine lv_iadd hx hb dX12_canBuy_14 ?_
  refine lv_topi (fun x_2 ex_2 => ?_)
  have hi_3 : vp_in x_2 126 := by
    have y_56 : (56 : Int32).toInt = 56 := by decide
    have t_x_2 : x_2.toInt = (56 : Int32).toInt + (x1 : Int32).toInt := by rw [ex_2]; exact add_toInt (by omega) (by omega)
    refine vp_in_iff.mpr ⟨?_, ?_⟩ <;> omega
  refine va_iald hx hb hK hP 1 0 rfl rfl hi_3 dX12_canBuy_15 ?_
  refine lv_topi (fun x_4 ex_4 => ?_)
  refine lv_icmp_lt (tgt := 56) hx hb dX12_canBuy_16 (by decide) (fun c_5 => ?_) (fun c_5 => ?_)
  · skip
    refine lv_iconst (v := 0) hx hb dX12_canBuy_56 (by decide) ?_
    have hp_6 : ((0 : Int32).toInt = 0 ∨ (0 : Int32).toInt = 1) := by
      have z_1 := Int32.lt_iff_toInt_lt.mp c_5
      have y_0 : (0 : Int32).toInt = 0 := by decide
      have yr : (0 : Int32).toInt = 0 := by decide
      omega
    exact retI (v := 0) hx hb hr hlk (rfl) hP hD hS () ⟨_, rfl, hp_6⟩ [0, 1] rfl rfl dX12_canBuy_57 (Nat.le_of_ble_eq_true rfl) (Nat.le_of_ble_eq_true rfl) rfl
  · skip
    refine lv_aload_n hx hb dX12_canBuy_19 rfl (lv_at hl 0 rfl) ?_
    refine lv_iload_n hx hb dX12_canBuy_20 rfl (lv_at hl 1 rfl) ?_
    refine cV (a := (Ma 0)) (As := [.int x1]) (rest := []) (wr := []) ⟨hx, hb, hml, hown, hts⟩ hK hX hA (cu_X12_lastOf l D tc sk (Ma 0) (Ma 1) (Ma 2) (Ma 3) (Ma 4) (Ma 5) (Ma 6) (Ma 7) (Ma 8) (Ma 9) (Ma 10) (Ma 11) (Ma 12) (Ma 13) (Ma 14) (Ma 15) (Ma 16) (Ma 17) (Ma 18) (Ma 19) (Ma 20) (Mv 0) (Mv 1) (Mv 2) (Mv 3) (Mv 4) (Mv 5) (Mv 6) (Mv 7) (Mv 8) (Mv 9) (Mv 10) (Mv 11) (Mv 12) (Mv 13) (Mv 14) (Mf 10) (Mj 0) x1 h_b) k_1395 k_1392 k_1394 k_63 k_106 pl_X12_lastOf ⟨Nat.le_of_ble_eq_true rfl, Nat.le_of_ble_eq_true rfl⟩ rfl rfl (va_recv hK hP (ci := 12) (q0 := 0) rfl rfl) hP hD hS [0, 1] [] rfl rfl rfl rfl rfl (by decide) rfl hl.1 rfl (Nat.le_of_ble_eq_true rfl) dX12_canBuy_21 ⟨Nat.le_of_ble_eq_true rfl, Nat.le_of_ble_eq_true rfl⟩ (fun v_7 u_8 H locs hv_9 hP₀ hD₀ hS₀ => ?_)
    obtain ⟨r_10, rfl, he_11⟩ := hv_9
    refine W.eq (g2 := F0 m 24 ls [.int r_10]) rfl ?_
    replace hP : va_P D classes [((Ma 0), .inr (12, [.ref (Ma 1), .int (Mv 0), .int (Mv 1), .ref (Ma 2), .ref (Ma 3), .ref (Ma 4), .ref (Ma 5), .ref (Ma 6), .int (Mv 2), .int (Mv 3), .int (Mv 4), .int (Mv 5), .int (Mv 6), .int (Mv 7), .int (Mv 8), .ref (Ma 7), .int (Mv 9), .ref (Ma 8), .int (Mv 10), .ref (Ma 9), .ref (Ma 10), .int (Mv 11), .int (Mv 12), .int (Mv 13), .ref (Ma 11), .int (Mv 14), .ref (Ma 12), .ref (Ma 13), .ref (Ma 14), .ref (Ma 15), .ref (Ma 16), .long (Mj 0), .ref (Ma 17), .ref (Ma 18), .ref (Ma 19), .ref (Ma 20)])), ((Ma 10), .inl (tc 0, 126, .inl (Mf 10)))] H := hP₀
    replace hD : va_D A [((Ma 0), .inr (12, [.ref (Ma 1), .int (Mv 0), .int (Mv 1), .ref (Ma 2), .ref (Ma 3), .ref (Ma 4), .ref (Ma 5), .ref (Ma 6), .int (Mv 2), .int (Mv 3), .int (Mv 4), .int (Mv 5), .int (Mv 6), .int (Mv 7), .int (Mv 8), .ref (Ma 7), .int (Mv 9), .ref (Ma 8), .int (Mv 10), .ref (Ma 9), .ref (Ma 10), .int (Mv 11), .int (Mv 12), .int (Mv 13), .ref (Ma 11), .int (Mv 14), .ref (Ma 12), .ref (Ma 13), .ref (Ma 14), .ref (Ma 15), .ref (Ma 16), .long (Mj 0), .ref (Ma 17), .ref (Ma 18), .ref (Ma 19), .ref (Ma 20)])), ((Ma 10), .inl (tc 0, 126, .inl (Mf 10)))] := hD₀
    replace hS := hS₀
    clear hP₀ hD₀ hS₀
    refine lv_if_lt (tgt := 52) hx hb dX12_canBuy_24 (by decide) (fun c_13 => ?_) (fun c_13 => ?_)
    · skip
      refine lv_iconst (v := 1) hx hb dX12_canBuy_52 (by decide) ?_
      refine lv_goto (tgt := 57) hx hb dX12_canBuy_53 (by decide) ?_
      have hp_14 : ((1 : Int32).toInt = 0 ∨ (1 : Int32).toInt = 1) := by
        have z_1 := Int32.le_iff_toInt_le.mp (Int32.not_lt.mp c_5)
        have z_2 := Int32.lt_iff_toInt_lt.mp c_13
        have y_0 : (0 : Int32).toInt = 0 := by decide
        have y_1 : (1 : Int32).toInt = 1 := by decide
        have yr : (1 : Int32).toInt = 1 := by decide
        omega
      exact retI (v := 1) hx hb hr hlk (rfl) hP hD hS () ⟨_, rfl, hp_14⟩ [0, 1] rfl rfl dX12_canBuy_57 (Nat.le_of_ble_eq_true rfl) (Nat.le_of_ble_eq_true rfl) rfl
    · skip
      refine lv_aload_n hx hb dX12_canBuy_27 rfl (lv_at hl 0 rfl) ?_
      refine gf_X12_39 hx hb hts hown hK hP 0 rfl rfl dX12_canBuy_28 ?_
      refine lv_bipush (v := 10) hx hb dX12_canBuy_31 (by decide) ?_
      refine va_iald hx hb hK hP 1 0 rfl rfl (vin_dec (by decide +kernel)) dX12_canBuy_33 ?_
      refine lv_topi (fun x_15 ex_15 => ?_)
      refine lv_aload_n hx hb dX12_canBuy_34 rfl (lv_at hl 0 rfl) ?_
      refine lv_iload_n hx hb dX12_canBuy_35 rfl (lv_at hl 1 rfl) ?_
      refine cV (a := (Ma 0)) (As := [.int x1]) (rest := [.int x_15]) (wr := []) ⟨hx, hb, hml, hown, hts⟩ hK hX hA (cu_X12_lastOf l D tc sk (Ma 0) (Ma 1) (Ma 2) (Ma 3) (Ma 4) (Ma 5) (Ma 6) (Ma 7) (Ma 8) (Ma 9) (Ma 10) (Ma 11) (Ma 12) (Ma 13) (Ma 14) (Ma 15) (Ma 16) (Ma 17) (Ma 18) (Ma 19) (Ma 20) (Mv 0) (Mv 1) (Mv 2) (Mv 3) (Mv 4) (Mv 5) (Mv 6) (Mv 7) (Mv 8) (Mv 9) (Mv 10) (Mv 11) (Mv 12) (Mv 13) (Mv 14) (Mf 10) (Mj 0) x1 h_b) k_1395 k_1392 k_1394 k_63 k_106 pl_X12_lastOf ⟨Nat.le_of_ble_eq_true rfl, Nat.le_of_ble_eq_true rfl⟩ rfl rfl (va_recv hK hP (ci := 12) (q0 := 0) rfl rfl) hP hD hS [0, 1] [] rfl rfl rfl rfl rfl (by decide) rfl hl.1 rfl (Nat.le_of_ble_eq_true rfl) dX12_canBuy_36 ⟨Nat.le_of_ble_eq_true rfl, Nat.le_of_ble_eq_true rfl⟩ (fun v_16 u_17 H locs hv_18 hP₀ hD₀ hS₀ => ?_)
      obtain ⟨r_19, rfl, he_20⟩ := hv_18
      refine W.eq (g2 := F0 m 39 ls [.int r_19, .int x_15]) rfl ?_
      replace hP : va_P D classes [((Ma 0), .inr (12, [.ref (Ma 1), .int (Mv 0), .int (Mv 1), .ref (Ma 2), .ref (Ma 3), .ref (Ma 4), .ref (Ma 5), .ref (Ma 6), .int (Mv 2), .int (Mv 3), .int (Mv 4), .int (Mv 5), .int (Mv 6), .int (Mv 7), .int (Mv 8), .ref (Ma 7), .int (Mv 9), .ref (Ma 8), .int (Mv 10), .ref (Ma 9), .ref (Ma 10), .int (Mv 11), .int (Mv 12), .int (Mv 13), .ref (Ma 11), .int (Mv 14), .ref (Ma 12), .ref (Ma 13), .ref (Ma 14), .ref (Ma 15), .ref (Ma 16), .long (Mj 0), .ref (Ma 17), .ref (Ma 18), .ref (Ma 19), .ref (Ma 20)])), ((Ma 10), .inl (tc 0, 126, .inl (Mf 10)))] H := hP₀
      replace hD : va_D A [((Ma 0), .inr (12, [.ref (Ma 1), .int (Mv 0), .int (Mv 1), .ref (Ma 2), .ref (Ma 3), .ref (Ma 4), .ref (Ma 5), .ref (Ma 6), .int (Mv 2), .int (Mv 3), .int (Mv 4), .int (Mv 5), .int (Mv 6), .int (Mv 7), .int (Mv 8), .ref (Ma 7), .int (Mv 9), .ref (Ma 8), .int (Mv 10), .ref (Ma 9), .ref (Ma 10), .int (Mv 11), .int (Mv 12), .int (Mv 13), .ref (Ma 11), .int (Mv 14), .ref (Ma 12), .ref (Ma 13), .ref (Ma 14), .ref (Ma 15), .ref (Ma 16), .long (Mj 0), .ref (Ma 17), .ref (Ma 18), .ref (Ma 19), .ref (Ma 20)])), ((Ma 10), .inl (tc 0, 126, .inl (Mf 10)))] := hD₀
      replace hS := hS₀
      clear hP₀ hD₀ hS₀
      refine lv_isub hx hb dX12_canBuy_39 ?_
      refine lv_topi (fun x_22 ex_22 => ?_)
      refine lv_aload_n hx hb dX12_canBuy_40 rfl (lv_at hl 0 rfl) ?_
      refine gf_X12_39 hx hb hts hown hK hP 0 rfl rfl dX12_canBuy_41 ?_
      refine lv_bipush (v := 62) hx hb dX12_canBuy_44 (by decide) ?_
      refine lv_iload_n hx hb dX12_canBuy_46 rfl (lv_at hl 1 rfl) ?_
      refine lv_iadd hx hb dX12_canBuy_47 ?_
      refine lv_topi (fun x_23 ex_23 => ?_)
      have hi_24 : vp_in x_23 126 := by
        have z_1 := Int32.le_iff_toInt_le.mp (Int32.not_lt.mp c_5)
        have z_2 := Int32.le_iff_toInt_le.mp (Int32.not_lt.mp c_13)
        have y_0 : (0 : Int32).toInt = 0 := by decide
        have y_62 : (62 : Int32).toInt = 62 := by decide
        have t_x_23 : x_23.toInt = (62 : Int32).toInt + (x1 : Int32).toInt := by rw [ex_23]; exact add_toInt (by omega) (by omega)
        refine vp_in_iff.mpr ⟨?_, ?_⟩ <;> omega
      refine va_iald hx hb hK hP 1 0 rfl rfl hi_24 dX12_canBuy_48 ?_
      refine lv_topi (fun x_25 ex_25 => ?_)
      refine lv_icmp_le (tgt := 56) hx hb dX12_canBuy_49 (by decide) (fun c_26 => ?_) (fun c_26 => ?_)
      · skip
        refine lv_iconst (v := 0) hx hb dX12_canBuy_56 (by decide) ?_
        have hp_27 : ((0 : Int32).toInt = 0 ∨ (0 : Int32).toInt = 1) := by
          have z_1 := Int32.le_iff_toInt_le.mp (Int32.not_lt.mp c_5)
          have z_2 := Int32.le_iff_toInt_le.mp (Int32.not_lt.mp c_13)
          have z_3 := Int32.le_iff_toInt_le.mp c_26
          have y_0 : (0 : Int32).toInt = 0 := by decide
          omega
        exact retI (v := 0) hx hb hr hlk (rfl) hP hD hS () ⟨_, rfl, hp_27⟩ [0, 1] rfl rfl dX12_canBuy_57 (Nat.le_of_ble_eq_true rfl) (Nat.le_of_ble_eq_true rfl) rfl
      · skip
        refine lv_iconst (v := 1) hx hb dX12_canBuy_52 (by decide) ?_
        refine lv_goto (tgt := 57) hx hb dX12_canBuy_53 (by decide) ?_
        have hp_28 : ((1 : Int32).toInt = 0 ∨ (1 : Int32).toInt = 1) := by
          have z_1 := Int32.le_iff_toInt_le.mp (Int32.not_lt.mp c_5)
          have z_2 := Int32.le_iff_toInt_le.mp (Int32.not_lt.mp c_13)
          have z_3 := Int32.lt_iff_toInt_lt.mp (Int32.not_le.mp c_26)
          have y_0 : (0 : Int32).toInt = 0 := by decide
          have y_1 : (1 : Int32).toInt = 1 := by decide
          have yr : (1 : Int32).toInt = 1 := by decide
          omega
        exact retI (v := 1) hx hb hr hlk (rfl) hP hD hS () ⟨_, rfl, hp_28⟩ [0, 1] rfl rfl dX12_canBuy_57 (Nat.le_of_ble_eq_true rfl) (Nat.le_of_ble_eq_true rfl) rfl
set_option maxRecDepth 100000 in
theorem cu_X12_canBuy (l : Launch) (D : va_G) (tc : Nat → ClassId) (sk : (Nat → Nat) × (Nat → Nat)) (Ma_0 : Nat) (Ma_1 : Nat) (Ma_2 : Nat) (Ma_3 : Nat) (Ma_4 : Nat) (Ma_5 : Nat) (Ma_6 : Nat) (Ma_7 : Nat) (Ma_8 : Nat) (Ma_9 : Nat) (Ma_10 : Nat) (Ma_11 : Nat) (Ma_12 : Nat) (Ma_13 : Nat) (Ma_14 : Nat) (Ma_15 : Nat) (Ma_16 : Nat) (Ma_17 : Nat) (Ma_18 : Nat) (Ma_19 : Nat) (Ma_20 : Nat) (Mv_0 : Int32) (Mv_1 : Int32) (Mv_2 : Int32) (Mv_3 : Int32) (Mv_4 : Int32) (Mv_5 : Int32) (Mv_6 : Int32) (Mv_7 : Int32) (Mv_8 : Int32) (Mv_9 : Int32) (Mv_10 : Int32) (Mv_11 : Int32) (Mv_12 : Int32) (Mv_13 : Int32) (Mv_14 : Int32) (Mf_10 : Nat → Int32) (Mj_0 : Int64) (x1 : Int32) (h_b : 0 ≤ x1.toInt ∧ x1.toInt < 6) : Ct l yX12_canBuy cX12_canBuy 2 (some .boolean) { frames := 1, cells := 0, slots := 0, locals := 21 } D tc sk [.ref Ma_0, .int x1] [(Ma_0, .inr (12, [.ref Ma_1, .int Mv_0, .int Mv_1, .ref Ma_2, .ref Ma_3, .ref Ma_4, .ref Ma_5, .ref Ma_6, .int Mv_2, .int Mv_3, .int Mv_4, .int Mv_5, .int Mv_6, .int Mv_7, .int Mv_8, .ref Ma_7, .int Mv_9, .ref Ma_8, .int Mv_10, .ref Ma_9, .ref Ma_10, .int Mv_11, .int Mv_12, .int Mv_13, .ref Ma_11, .int Mv_14, .ref Ma_12, .ref Ma_13, .ref Ma_14, .ref Ma_15, .ref Ma_16, .long Mj_0, .ref Ma_17, .ref Ma_18, .ref Ma_19, .ref Ma_20])), (Ma_10, .inl (tc 0, 126, .inl Mf_10))] (fun (v : Option Value) (_ : Unit) => ∃ r : Int32, v = some (.int r) ∧ ((r.toInt = 0 ∨ r.toInt = 1))) (fun (_ : Unit) => [(Ma_0, .inr (12, [.ref Ma_1, .int Mv_0, .int Mv_1, .ref Ma_2, .ref Ma_3, .ref Ma_4, .ref Ma_5, .ref Ma_6, .int Mv_2, .int Mv_3, .int Mv_4, .int Mv_5, .int Mv_6, .int Mv_7, .int Mv_8, .ref Ma_7, .int Mv_9, .ref Ma_8, .int Mv_10, .ref Ma_9, .ref Ma_10, .int Mv_11, .int Mv_12, .int Mv_13, .ref Ma_11, .int Mv_14, .ref Ma_12, .ref Ma_13, .ref Ma_14, .ref Ma_15, .ref Ma_16, .long Mj_0, .ref Ma_17, .ref Ma_18, .ref Ma_19, .ref Ma_20])), (Ma_10, .inl (tc 0, 126, .inl Mf_10))]) 0 0 :=
  ct_X12_canBuy l D tc sk (fun k => ([Ma_0, Ma_1, Ma_2, Ma_3, Ma_4, Ma_5, Ma_6, Ma_7, Ma_8, Ma_9, Ma_10, Ma_11, Ma_12, Ma_13, Ma_14, Ma_15, Ma_16, Ma_17, Ma_18, Ma_19, Ma_20] : List (Nat)).getD k 0) (fun k => ([Mv_0, Mv_1, Mv_2, Mv_3, Mv_4, Mv_5, Mv_6, Mv_7, Mv_8, Mv_9, Mv_10, Mv_11, Mv_12, Mv_13, Mv_14] : List (Int32)).getD k 0) (fun k => ([(fun _ => 0), (fun _ => 0), (fun _ => 0), (fun _ => 0), (fun _ => 0), (fun _ => 0), (fun _ => 0), (fun _ => 0), (fun _ => 0), (fun _ => 0), Mf_10] : List (Nat → Int32)).getD k (fun _ => 0)) (fun k => ([Mj_0] : List (Int64)).getD k 0) x1 h_b
set_option maxHeartbeats 4000000 in
set_option maxRecDepth 100000 in
theorem ct_X12_begins {T : Nat → Option Int32} (l : Launch) (D : va_G) (tc : Nat → ClassId) (sk : (Nat → Nat) × (Nat → Nat)) (Ma : Nat → Nat) (Mv : Nat → Int32) (Mf : Nat → Nat → Int32) (Mj : Nat → Int64) (h_said : SaidB T (Mf 10)) : Ct l yX12_begins cX12_begins 3 none { frames := 0, cells := 0, slots := 0, locals := 0 } D tc sk [.ref (Ma 0)] [((Ma 0), .inr (12, [.ref (Ma 1), .int (Mv 0), .int (Mv 1), .ref (Ma 2), .ref (Ma 3), .ref (Ma 4), .ref (Ma 5), .ref (Ma 6), .int (Mv 2), .int (Mv 3), .int (Mv 4), .int (Mv 5), .int (Mv 6), .int (Mv 7), .int (Mv 8), .ref (Ma 7), .int (Mv 9), .ref (Ma 8), .int (Mv 10), .ref (Ma 9), .ref (Ma 10), .int (Mv 11), .int (Mv 12), .int (Mv 13), .ref (Ma 11), .int (Mv 14), .ref (Ma 12), .ref (Ma 13), .ref (Ma 14), .ref (Ma 15), .ref (Ma 16), .long (Mj 0), .ref (Ma 17), .ref (Ma 18), .ref (Ma 19), .ref (Ma 20)])), ((Ma 10), .inl (tc 0, 126, .inl (Mf 10)))] (fun (v : Option Value) (oo0x1 : Nat → Int32) => v = none ∧ (SaidD T oo0x1 0)) (fun (oo0x1 : Nat → Int32) => [((Ma 0), .inr (12, [.ref (Ma 1), .int (Mv 0), .int (Mv 1), .ref (Ma 2), .ref (Ma 3), .ref (Ma 4), .ref (Ma 5), .ref (Ma 6), .int (Mv 2), .int (Mv 3), .int (Mv 4), .int (Mv 5), .int (Mv 6), .int (Mv 7), .int (Mv 8), .ref (Ma 7), .int (Mv 9), .ref (Ma 8), .int (Mv 10), .ref (Ma 9), .ref (Ma 10), .int (Mv 11), .int (Mv 12), .int (Mv 13), .ref (Ma 11), .int (Mv 14), .ref (Ma 12), .ref (Ma 13), .ref (Ma 14), .ref (Ma 15), .ref (Ma 16), .long (Mj 0), .ref (Ma 17), .ref (Ma 18), .ref (Ma 19), .ref (Ma 20)])), ((Ma 10), .inl (tc 0, 126, .inl oo0x1))]) 0 0 := by
  refine Ct.start (by decide) (Nat.le_of_ble_eq_true rfl) (fun p e s m below meth c A ls hx hb hr hlk hin hml hown hts hK hX hP hD hA hl hS => ?_)
  have hl : lv_has ls 3 [(0, .ref (Ma 0))] := hl
  have ar_h_said := SaidB.ar h_said
  refine lv_aload_n hx hb dX12_begins_0 rfl (lv_at hl 0 rfl) ?_
  refine gf_X12_39 hx hb hts hown hK hP 0 rfl rfl dX12_begins_1 ?_
  refine lv_bipush (v := 10) hx hb dX12_begins_4 (by decide) ?_
  refine lv_iconst (v := 0) hx hb dX12_begins_6 (by decide) ?_
  refine st_int hx hb hK hP hD hS 1 0 rfl rfl (vin_dec (by decide +kernel)) dX12_begins_7 (fun g_1 H locs eg_1 hP₀ hD₀ hS₀ => ?_)
  replace hP : va_P D classes [((Ma 0), .inr (12, [.ref (Ma 1), .int (Mv 0), .int (Mv 1), .ref (Ma 2), .ref (Ma 3), .ref (Ma 4), .ref (Ma 5), .ref (Ma 6), .int (Mv 2), .int (Mv 3), .int (Mv 4), .int (Mv 5), .int (Mv 6), .int (Mv 7), .int (Mv 8), .ref (Ma 7), .int (Mv 9), .ref (Ma 8), .int (Mv 10), .ref (Ma 9), .ref (Ma 10), .int (Mv 11), .int (Mv 12), .int (Mv 13), .ref (Ma 11), .int (Mv 14), .ref (Ma 12), .ref (Ma 13), .ref (Ma 14), .ref (Ma 15), .ref (Ma 16), .long (Mj 0), .ref (Ma 17), .ref (Ma 18), .ref (Ma 19), .ref (Ma 20)])), ((Ma 10), .inl (tc 0, 126, .inl g_1))] H := hP₀
  replace hD : va_D A [((Ma 0), .inr (12, [.ref (Ma 1), .int (Mv 0), .int (Mv 1), .ref (Ma 2), .ref (Ma 3), .ref (Ma 4), .ref (Ma 5), .ref (Ma 6), .int (Mv 2), .int (Mv 3), .int (Mv 4), .int (Mv 5), .int (Mv 6), .int (Mv 7), .int (Mv 8), .ref (Ma 7), .int (Mv 9), .ref (Ma 8), .int (Mv 10), .ref (Ma 9), .ref (Ma 10), .int (Mv 11), .int (Mv 12), .int (Mv 13), .ref (Ma 11), .int (Mv 14), .ref (Ma 12), .ref (Ma 13), .ref (Ma 14), .ref (Ma 15), .ref (Ma 16), .long (Mj 0), .ref (Ma 17), .ref (Ma 18), .ref (Ma 19), .ref (Ma 20)])), ((Ma 10), .inl (tc 0, 126, .inl g_1))] := hD₀
  replace hS := hS₀
  clear hP₀ hD₀ hS₀
  have pf_2 : SaidD T g_1 0 := SaidD.day h_said eg_1 (by decide) (by decide)
  have ar_pf_2 := SaidD.ar pf_2
  refine lv_aload_n hx hb dX12_begins_8 rfl (lv_at hl 0 rfl) ?_
  refine gf_X12_39 hx hb hts hown hK hP 0 rfl rfl dX12_begins_9 ?_
  refine lv_bipush (v := 11) hx hb dX12_begins_12 (by decide) ?_
  refine lv_aload_n hx hb dX12_begins_14 rfl (lv_at hl 0 rfl) ?_
  refine gf_X12_39 hx hb hts hown hK hP 0 rfl rfl dX12_begins_15 ?_
  refine lv_bipush (v := 94) hx hb dX12_begins_18 (by decide) ?_
  refine va_iald hx hb hK hP 1 0 rfl rfl (vin_dec (by decide +kernel)) dX12_begins_20 ?_
  refine lv_topi (fun x_3 ex_3 => ?_)
  have lx_3 : x_3.toInt = (g_1 94).toInt := congrArg Int32.toInt ex_3
  refine st_int hx hb hK hP hD hS 1 0 rfl rfl (vin_dec (by decide +kernel)) dX12_begins_21 (fun g_4 H locs eg_4 hP₀ hD₀ hS₀ => ?_)
  replace hP : va_P D classes [((Ma 0), .inr (12, [.ref (Ma 1), .int (Mv 0), .int (Mv 1), .ref (Ma 2), .ref (Ma 3), .ref (Ma 4), .ref (Ma 5), .ref (Ma 6), .int (Mv 2), .int (Mv 3), .int (Mv 4), .int (Mv 5), .int (Mv 6), .int (Mv 7), .int (Mv 8), .ref (Ma 7), .int (Mv 9), .ref (Ma 8), .int (Mv 10), .ref (Ma 9), .ref (Ma 10), .int (Mv 11), .int (Mv 12), .int (Mv 13), .ref (Ma 11), .int (Mv 14), .ref (Ma 12), .ref (Ma 13), .ref (Ma 14), .ref (Ma 15), .ref (Ma 16), .long (Mj 0), .ref (Ma 17), .ref (Ma 18), .ref (Ma 19), .ref (Ma 20)])), ((Ma 10), .inl (tc 0, 126, .inl g_4))] H := hP₀
  replace hD : va_D A [((Ma 0), .inr (12, [.ref (Ma 1), .int (Mv 0), .int (Mv 1), .ref (Ma 2), .ref (Ma 3), .ref (Ma 4), .ref (Ma 5), .ref (Ma 6), .int (Mv 2), .int (Mv 3), .int (Mv 4), .int (Mv 5), .int (Mv 6), .int (Mv 7), .int (Mv 8), .ref (Ma 7), .int (Mv 9), .ref (Ma 8), .int (Mv 10), .ref (Ma 9), .ref (Ma 10), .int (Mv 11), .int (Mv 12), .int (Mv 13), .ref (Ma 11), .int (Mv 14), .ref (Ma 12), .ref (Ma 13), .ref (Ma 14), .ref (Ma 15), .ref (Ma 16), .long (Mj 0), .ref (Ma 17), .ref (Ma 18), .ref (Ma 19), .ref (Ma 20)])), ((Ma 10), .inl (tc 0, 126, .inl g_4))] := hD₀
  replace hS := hS₀
  clear hP₀ hD₀ hS₀
  have pf_5 : SaidD T g_4 0 := SaidD.keep pf_2 eg_4 (by decide)
  have ar_pf_5 := SaidD.ar pf_5
  refine lv_iconst (v := 0) hx hb dX12_begins_22 (by decide) ?_
  refine lv_istore_n (lv' := [(1, .int 0), (0, .ref (Ma 0))]) hx hb dX12_begins_23 rfl hl (by decide) rfl (fun ls hl₀ => ?_)
  replace hl := hl₀
  clear hl₀
  have loop_12 : ∀ (n_10 : Nat) (vy_8 : Int32) (vy_9 : Nat → Int32) (H : Heap) (locs : List Loc) (ls : Array Slot), (6 - (vy_8 : Int32).toInt).toNat < n_10 → (0 ≤ (vy_8 : Int32).toInt) → (SaidD T vy_9 0) → va_P D classes [((Ma 0), .inr (12, [.ref (Ma 1), .int (Mv 0), .int (Mv 1), .ref (Ma 2), .ref (Ma 3), .ref (Ma 4), .ref (Ma 5), .ref (Ma 6), .int (Mv 2), .int (Mv 3), .int (Mv 4), .int (Mv 5), .int (Mv 6), .int (Mv 7), .int (Mv 8), .ref (Ma 7), .int (Mv 9), .ref (Ma 8), .int (Mv 10), .ref (Ma 9), .ref (Ma 10), .int (Mv 11), .int (Mv 12), .int (Mv 13), .ref (Ma 11), .int (Mv 14), .ref (Ma 12), .ref (Ma 13), .ref (Ma 14), .ref (Ma 15), .ref (Ma 16), .long (Mj 0), .ref (Ma 17), .ref (Ma 18), .ref (Ma 19), .ref (Ma 20)])), ((Ma 10), .inl (tc 0, 126, .inl vy_9))] H → va_D A [((Ma 0), .inr (12, [.ref (Ma 1), .int (Mv 0), .int (Mv 1), .ref (Ma 2), .ref (Ma 3), .ref (Ma 4), .ref (Ma 5), .ref (Ma 6), .int (Mv 2), .int (Mv 3), .int (Mv 4), .int (Mv 5), .int (Mv 6), .int (Mv 7), .int (Mv 8), .ref (Ma 7), .int (Mv 9), .ref (Ma 8), .int (Mv 10), .ref (Ma 9), .ref (Ma 10), .int (Mv 11), .int (Mv 12), .int (Mv 13), .ref (Ma 11), .int (Mv 14), .ref (Ma 12), .ref (Ma 13), .ref (Ma 14), .ref (Ma 15), .ref (Ma 16), .long (Mj 0), .ref (Ma 17), .ref (Ma 18), .ref (Ma 19), .ref (Ma 20)])), ((Ma 10), .inl (tc 0, 126, .inl vy_9))] → va_S A s.heap H locs → lv_has ls 3 [(1, .int vy_8), (0, .ref (Ma 0))] → W p l e ({ frames := 0, cells := 0, slots := 0, locals := 0 }) s m ([.ref (Ma 0)].toArray) below meth c H locs 0 0 (MQ below (QW (fun (v : Option Value) (oo0x1 : Nat → Int32) => v = none ∧ (SaidD T oo0x1 0)) (BW D (fun (oo0x1 : Nat → Int32) => [((Ma 0), .inr (12, [.ref (Ma 1), .int (Mv 0), .int (Mv 1), .ref (Ma 2), .ref (Ma 3), .ref (Ma 4), .ref (Ma 5), .ref (Ma 6), .int (Mv 2), .int (Mv 3), .int (Mv 4), .int (Mv 5), .int (Mv 6), .int (Mv 7), .int (Mv 8), .ref (Ma 7), .int (Mv 9), .ref (Ma 8), .int (Mv 10), .ref (Ma 9), .ref (Ma 10), .int (Mv 11), .int (Mv 12), .int (Mv 13), .ref (Ma 11), .int (Mv 14), .ref (Ma 12), .ref (Ma 13), .ref (Ma 14), .ref (Ma 15), .ref (Ma 16), .long (Mj 0), .ref (Ma 17), .ref (Ma 18), .ref (Ma 19), .ref (Ma 20)])), ((Ma 10), .inl (tc 0, 126, .inl oo0x1))]) A) A) ([.ref (Ma 0)].toArray) s 0 0 A) (F0 m 24 ls []) := by
    clear hP hD hS hl
    intro n_10
    induction n_10 with
    | zero =>
      intro vy_8 vy_9 H locs ls h1
      exact absurd h1 (Nat.not_lt_zero _)
    | succ n_10 ih_11 =>
      intro vy_8 vy_9 H locs ls hn_15 pf_13 pf_14 hP hD hS hl
      have ar_pf_14 := SaidD.ar pf_14
      refine lv_iload_n hx hb dX12_begins_24 rfl (lv_at hl 0 rfl) ?_
      refine lv_bipush (v := 6) hx hb dX12_begins_25 (by decide) ?_
      refine lv_icmp_ge (tgt := 85) hx hb dX12_begins_27 (by decide) (fun c_16 => ?_) (fun c_16 => ?_)
      · skip
        refine lv_iconst (v := 0) hx hb dX12_begins_85 (by decide) ?_
        refine lv_istore_n (lv' := [(1, .int 0), (0, .ref (Ma 0))]) hx hb dX12_begins_86 rfl hl (by decide) rfl (fun ls hl₀ => ?_)
        replace hl := hl₀
        clear hl₀
        have loop_23 : ∀ (n_21 : Nat) (vy_19 : Int32) (vy_20 : Nat → Int32) (H : Heap) (locs : List Loc) (ls : Array Slot), (10 - (vy_19 : Int32).toInt).toNat < n_21 → (0 ≤ (vy_19 : Int32).toInt) → (SaidD T vy_20 0) → va_P D classes [((Ma 0), .inr (12, [.ref (Ma 1), .int (Mv 0), .int (Mv 1), .ref (Ma 2), .ref (Ma 3), .ref (Ma 4), .ref (Ma 5), .ref (Ma 6), .int (Mv 2), .int (Mv 3), .int (Mv 4), .int (Mv 5), .int (Mv 6), .int (Mv 7), .int (Mv 8), .ref (Ma 7), .int (Mv 9), .ref (Ma 8), .int (Mv 10), .ref (Ma 9), .ref (Ma 10), .int (Mv 11), .int (Mv 12), .int (Mv 13), .ref (Ma 11), .int (Mv 14), .ref (Ma 12), .ref (Ma 13), .ref (Ma 14), .ref (Ma 15), .ref (Ma 16), .long (Mj 0), .ref (Ma 17), .ref (Ma 18), .ref (Ma 19), .ref (Ma 20)])), ((Ma 10), .inl (tc 0, 126, .inl vy_20))] H → va_D A [((Ma 0), .inr (12, [.ref (Ma 1), .int (Mv 0), .int (Mv 1), .ref (Ma 2), .ref (Ma 3), .ref (Ma 4), .ref (Ma 5), .ref (Ma 6), .int (Mv 2), .int (Mv 3), .int (Mv 4), .int (Mv 5), .int (Mv 6), .int (Mv 7), .int (Mv 8), .ref (Ma 7), .int (Mv 9), .ref (Ma 8), .int (Mv 10), .ref (Ma 9), .ref (Ma 10), .int (Mv 11), .int (Mv 12), .int (Mv 13), .ref (Ma 11), .int (Mv 14), .ref (Ma 12), .ref (Ma 13), .ref (Ma 14), .ref (Ma 15), .ref (Ma 16), .long (Mj 0), .ref (Ma 17), .ref (Ma 18), .ref (Ma 19), .ref (Ma 20)])), ((Ma 10), .inl (tc 0, 126, .inl vy_20))] → va_S A s.heap H locs → lv_has ls 3 [(1, .int vy_19), (0, .ref (Ma 0))] → W p l e ({ frames := 0, cells := 0, slots := 0, locals := 0 }) s m ([.ref (Ma 0)].toArray) below meth c H locs 0 0 (MQ below (QW (fun (v : Option Value) (oo0x1 : Nat → Int32) => v = none ∧ (SaidD T oo0x1 0)) (BW D (fun (oo0x1 : Nat → Int32) => [((Ma 0), .inr (12, [.ref (Ma 1), .int (Mv 0), .int (Mv 1), .ref (Ma 2), .ref (Ma 3), .ref (Ma 4), .ref (Ma 5), .ref (Ma 6), .int (Mv 2), .int (Mv 3), .int (Mv 4), .int (Mv 5), .int (Mv 6), .int (Mv 7), .int (Mv 8), .ref (Ma 7), .int (Mv 9), .ref (Ma 8), .int (Mv 10), .ref (Ma 9), .ref (Ma 10), .int (Mv 11), .int (Mv 12), .int (Mv 13), .ref (Ma 11), .int (Mv 14), .ref (Ma 12), .ref (Ma 13), .ref (Ma 14), .ref (Ma 15), .ref (Ma 16), .long (Mj 0), .ref (Ma 17), .ref (Ma 18), .ref (Ma 19), .ref (Ma 20)])), ((Ma 10), .inl (tc 0, 126, .inl oo0x1))]) A) A) ([.ref (Ma 0)].toArray) s 0 0 A) (F0 m 87 ls []) := by
          clear hP hD hS hl
          intro n_21
          induction n_21 with
          | zero =>
            intro vy_19 vy_20 H locs ls h1
            exact absurd h1 (Nat.not_lt_zero _)
          | succ n_21 ih_22 =>
            intro vy_19 vy_20 H locs ls hn_26 pf_24 pf_25 hP hD hS hl
            have ar_pf_25 := SaidD.ar pf_25
            refine lv_iload_n hx hb dX12_begins_87 rfl (lv_at hl 0 rfl) ?_
            refine lv_bipush (v := 10) hx hb dX12_begins_88 (by decide) ?_
            refine lv_icmp_ge (tgt := 135) hx hb dX12_begins_90 (by decide) (fun c_27 => ?_) (fun c_27 => ?_)
            · skip
              exact retV hx hb hr hlk hP hD hS vy_20 ⟨rfl, pf_25⟩ [0, 1] rfl rfl dX12_begins_135 (Nat.le_of_ble_eq_true rfl) (Nat.le_of_ble_eq_true rfl) rfl
            · skip
              refine lv_aload_n hx hb dX12_begins_93 rfl (lv_at hl 1 rfl) ?_
              refine gf_X12_39 hx hb hts hown hK hP 0 rfl rfl dX12_begins_94 ?_
              refine lv_bipush (v := 36) hx hb dX12_begins_97 (by decide) ?_
              refine lv_iload_n hx hb dX12_begins_99 rfl (lv_at hl 0 rfl) ?_
              refine lv_iadd hx hb dX12_begins_100 ?_
              refine lv_topi (fun x_28 ex_28 => ?_)
              refine lv_aload_n hx hb dX12_begins_101 rfl (lv_at hl 1 rfl) ?_
              refine gf_X12_39 hx hb hts hown hK hP 0 rfl rfl dX12_begins_102 ?_
              refine lv_bipush (v := 74) hx hb dX12_begins_105 (by decide) ?_
              refine lv_iload_n hx hb dX12_begins_107 rfl (lv_at hl 0 rfl) ?_
              refine lv_iadd hx hb dX12_begins_108 ?_
              refine lv_topi (fun x_29 ex_29 => ?_)
              have hi_30 : vp_in x_29 126 := by
                have z_1 := Int32.le_iff_toInt_le.mp c_16
                have z_2 := Int32.lt_iff_toInt_lt.mp (Int32.not_le.mp c_27)
                have y_6 : (6 : Int32).toInt = 6 := by decide
                have y_10 : (10 : Int32).toInt = 10 := by decide
                have y_74 : (74 : Int32).toInt = 74 := by decide
                have t_x_29 : x_29.toInt = (74 : Int32).toInt + (vy_19 : Int32).toInt := by rw [ex_29]; exact add_toInt (by omega) (by omega)
                refine vp_in_iff.mpr ⟨?_, ?_⟩ <;> omega
              refine va_iald hx hb hK hP 1 0 rfl rfl hi_30 dX12_begins_109 ?_
              refine lv_topi (fun x_31 ex_31 => ?_)
              have hi_32 : vp_in x_28 126 := by
                have z_1 := Int32.le_iff_toInt_le.mp c_16
                have z_2 := Int32.lt_iff_toInt_lt.mp (Int32.not_le.mp c_27)
                have y_6 : (6 : Int32).toInt = 6 := by decide
                have y_10 : (10 : Int32).toInt = 10 := by decide
                have y_36 : (36 : Int32).toInt = 36 := by decide
                have t_x_28 : x_28.toInt = (36 : Int32).toInt + (vy_19 : Int32).toInt := by rw [ex_28]; exact add_toInt (by omega) (by omega)
                refine vp_in_iff.mpr ⟨?_, ?_⟩ <;> omega
              refine st_int hx hb hK hP hD hS 1 0 rfl rfl hi_32 dX12_begins_110 (fun g_33 H locs eg_33 hP₀ hD₀ hS₀ => ?_)
              replace hP : va_P D classes [((Ma 0), .inr (12, [.ref (Ma 1), .int (Mv 0), .int (Mv 1), .ref (Ma 2), .ref (Ma 3), .ref (Ma 4), .ref (Ma 5), .ref (Ma 6), .int (Mv 2), .int (Mv 3), .int (Mv 4), .int (Mv 5), .int (Mv 6), .int (Mv 7), .int (Mv 8), .ref (Ma 7), .int (Mv 9), .ref (Ma 8), .int (Mv 10), .ref (Ma 9), .ref (Ma 10), .int (Mv 11), .int (Mv 12), .int (Mv 13), .ref (Ma 11), .int (Mv 14), .ref (Ma 12), .ref (Ma 13), .ref (Ma 14), .ref (Ma 15), .ref (Ma 16), .long (Mj 0), .ref (Ma 17), .ref (Ma 18), .ref (Ma 19), .ref (Ma 20)])), ((Ma 10), .inl (tc 0, 126, .inl g_33))] H := hP₀
              replace hD : va_D A [((Ma 0), .inr (12, [.ref (Ma 1), .int (Mv 0), .int (Mv 1), .ref (Ma 2), .ref (Ma 3), .ref (Ma 4), .ref (Ma 5), .ref (Ma 6), .int (Mv 2), .int (Mv 3), .int (Mv 4), .int (Mv 5), .int (Mv 6), .int (Mv 7), .int (Mv 8), .ref (Ma 7), .int (Mv 9), .ref (Ma 8), .int (Mv 10), .ref (Ma 9), .ref (Ma 10), .int (Mv 11), .int (Mv 12), .int (Mv 13), .ref (Ma 11), .int (Mv 14), .ref (Ma 12), .ref (Ma 13), .ref (Ma 14), .ref (Ma 15), .ref (Ma 16), .long (Mj 0), .ref (Ma 17), .ref (Ma 18), .ref (Ma 19), .ref (Ma 20)])), ((Ma 10), .inl (tc 0, 126, .inl g_33))] := hD₀
              replace hS := hS₀
              clear hP₀ hD₀ hS₀
              have hx_35 : 11 ≤ (x_28 : Int32).toNatClampNeg ∧ (x_28 : Int32).toNatClampNeg < 56 := by
                have z_1 := Int32.le_iff_toInt_le.mp c_16
                have z_2 := Int32.lt_iff_toInt_lt.mp (Int32.not_le.mp c_27)
                have y_6 : (6 : Int32).toInt = 6 := by decide
                have y_10 : (10 : Int32).toInt = 10 := by decide
                have y_36 : (36 : Int32).toInt = 36 := by decide
                have t_x_28 : x_28.toInt = (36 : Int32).toInt + (vy_19 : Int32).toInt := by rw [ex_28]; exact add_toInt (by omega) (by omega)
                have hcl : (x_28 : Int32).toNatClampNeg = (x_28 : Int32).toInt.toNat := rfl
                omega
              have pf_34 : SaidD T g_33 0 := SaidD.keep pf_25 eg_33 hx_35
              have ar_pf_34 := SaidD.ar pf_34
              refine lv_aload_n hx hb dX12_begins_111 rfl (lv_at hl 1 rfl) ?_
              refine gf_X12_39 hx hb hts hown hK hP 0 rfl rfl dX12_begins_112 ?_
              refine lv_bipush (v := 46) hx hb dX12_begins_115 (by decide) ?_
              refine lv_iload_n hx hb dX12_begins_117 rfl (lv_at hl 0 rfl) ?_
              refine lv_iadd hx hb dX12_begins_118 ?_
              refine lv_topi (fun x_36 ex_36 => ?_)
              refine lv_aload_n hx hb dX12_begins_119 rfl (lv_at hl 1 rfl) ?_
              refine gf_X12_39 hx hb hts hown hK hP 0 rfl rfl dX12_begins_120 ?_
              refine lv_bipush (v := 84) hx hb dX12_begins_123 (by decide) ?_
              refine lv_iload_n hx hb dX12_begins_125 rfl (lv_at hl 0 rfl) ?_
              refine lv_iadd hx hb dX12_begins_126 ?_
              refine lv_topi (fun x_37 ex_37 => ?_)
              have hi_38 : vp_in x_37 126 := by
                have z_1 := Int32.le_iff_toInt_le.mp c_16
                have z_2 := Int32.lt_iff_toInt_lt.mp (Int32.not_le.mp c_27)
                have y_6 : (6 : Int32).toInt = 6 := by decide
                have y_10 : (10 : Int32).toInt = 10 := by decide
                have y_84 : (84 : Int32).toInt = 84 := by decide
                have t_x_37 : x_37.toInt = (84 : Int32).toInt + (vy_19 : Int32).toInt := by rw [ex_37]; exact add_toInt (by omega) (by omega)
                refine vp_in_iff.mpr ⟨?_, ?_⟩ <;> omega
              refine va_iald hx hb hK hP 1 0 rfl rfl hi_38 dX12_begins_127 ?_
              refine lv_topi (fun x_39 ex_39 => ?_)
              have hi_40 : vp_in x_36 126 := by
                have z_1 := Int32.le_iff_toInt_le.mp c_16
                have z_2 := Int32.lt_iff_toInt_lt.mp (Int32.not_le.mp c_27)
                have y_6 : (6 : Int32).toInt = 6 := by decide
                have y_10 : (10 : Int32).toInt = 10 := by decide
                have y_46 : (46 : Int32).toInt = 46 := by decide
                have t_x_36 : x_36.toInt = (46 : Int32).toInt + (vy_19 : Int32).toInt := by rw [ex_36]; exact add_toInt (by omega) (by omega)
                refine vp_in_iff.mpr ⟨?_, ?_⟩ <;> omega
              refine st_int hx hb hK hP hD hS 1 0 rfl rfl hi_40 dX12_begins_128 (fun g_41 H locs eg_41 hP₀ hD₀ hS₀ => ?_)
              replace hP : va_P D classes [((Ma 0), .inr (12, [.ref (Ma 1), .int (Mv 0), .int (Mv 1), .ref (Ma 2), .ref (Ma 3), .ref (Ma 4), .ref (Ma 5), .ref (Ma 6), .int (Mv 2), .int (Mv 3), .int (Mv 4), .int (Mv 5), .int (Mv 6), .int (Mv 7), .int (Mv 8), .ref (Ma 7), .int (Mv 9), .ref (Ma 8), .int (Mv 10), .ref (Ma 9), .ref (Ma 10), .int (Mv 11), .int (Mv 12), .int (Mv 13), .ref (Ma 11), .int (Mv 14), .ref (Ma 12), .ref (Ma 13), .ref (Ma 14), .ref (Ma 15), .ref (Ma 16), .long (Mj 0), .ref (Ma 17), .ref (Ma 18), .ref (Ma 19), .ref (Ma 20)])), ((Ma 10), .inl (tc 0, 126, .inl g_41))] H := hP₀
              replace hD : va_D A [((Ma 0), .inr (12, [.ref (Ma 1), .int (Mv 0), .int (Mv 1), .ref (Ma 2), .ref (Ma 3), .ref (Ma 4), .ref (Ma 5), .ref (Ma 6), .int (Mv 2), .int (Mv 3), .int (Mv 4), .int (Mv 5), .int (Mv 6), .int (Mv 7), .int (Mv 8), .ref (Ma 7), .int (Mv 9), .ref (Ma 8), .int (Mv 10), .ref (Ma 9), .ref (Ma 10), .int (Mv 11), .int (Mv 12), .int (Mv 13), .ref (Ma 11), .int (Mv 14), .ref (Ma 12), .ref (Ma 13), .ref (Ma 14), .ref (Ma 15), .ref (Ma 16), .long (Mj 0), .ref (Ma 17), .ref (Ma 18), .ref (Ma 19), .ref (Ma 20)])), ((Ma 10), .inl (tc 0, 126, .inl g_41))] := hD₀
              replace hS := hS₀
              clear hP₀ hD₀ hS₀
              have hx_43 : 11 ≤ (x_36 : Int32).toNatClampNeg ∧ (x_36 : Int32).toNatClampNeg < 56 := by
                have z_1 := Int32.le_iff_toInt_le.mp c_16
                have z_2 := Int32.lt_iff_toInt_lt.mp (Int32.not_le.mp c_27)
                have y_6 : (6 : Int32).toInt = 6 := by decide
                have y_10 : (10 : Int32).toInt = 10 := by decide
                have y_46 : (46 : Int32).toInt = 46 := by decide
                have t_x_36 : x_36.toInt = (46 : Int32).toInt + (vy_19 : Int32).toInt := by rw [ex_36]; exact add_toInt (by omega) (by omega)
                have hcl : (x_36 : Int32).toNatClampNeg = (x_36 : Int32).toInt.toNat := rfl
                omega
              have pf_42 : SaidD T g_41 0 := SaidD.keep pf_34 eg_41 hx_43
              have ar_pf_42 := SaidD.ar pf_42
              obtain ⟨x_44, ex_44⟩ : ∃ y : Int32, y = vy_19 + 1 := ⟨_, rfl⟩
              refine lv_iinc (v := x_44) (lv' := [(1, .int x_44), (0, .ref (Ma 0))]) hx hb dX12_begins_129 hl (k := 0) rfl (by rw [ex_44]; rfl) (by decide) rfl (fun ls hl₀ => ?_)
              replace hl := hl₀
              clear hl₀
              refine lv_goto (tgt := 87) hx hb dX12_begins_132 (by decide) ?_
              have hb_45 : 10 - (x_44 : Int32).toInt < 10 - (vy_19 : Int32).toInt ∧ 1 ≤ 10 - (vy_19 : Int32).toInt := by
                have z_1 := Int32.le_iff_toInt_le.mp c_16
                have z_2 := Int32.lt_iff_toInt_lt.mp (Int32.not_le.mp c_27)
                have y_6 : (6 : Int32).toInt = 6 := by decide
                have y_10 : (10 : Int32).toInt = 10 := by decide
                have y_1 : (1 : Int32).toInt = 1 := by decide
                have t_x_44 : x_44.toInt = (vy_19 : Int32).toInt + (1 : Int32).toInt := by rw [ex_44]; exact add_toInt (by omega) (by omega)
                omega
              have ha_46 : 0 ≤ (x_44 : Int32).toInt := by
                have z_1 := Int32.le_iff_toInt_le.mp c_16
                have z_2 := Int32.lt_iff_toInt_lt.mp (Int32.not_le.mp c_27)
                have y_6 : (6 : Int32).toInt = 6 := by decide
                have y_10 : (10 : Int32).toInt = 10 := by decide
                have y_1 : (1 : Int32).toInt = 1 := by decide
                have t_x_44 : x_44.toInt = (vy_19 : Int32).toInt + (1 : Int32).toInt := by rw [ex_44]; exact add_toInt (by omega) (by omega)
                omega
              exact ih_22 x_44 g_41 _ _ _ (by omega) ha_46 pf_42 (hP.sub [0, 1] rfl) (hD.sub [0, 1] rfl rfl) hS (lv_sub hl [0, 1] rfl)
        have ha_47 : 0 ≤ (0 : Int32).toInt := by
          have z_1 := Int32.le_iff_toInt_le.mp c_16
          have y_6 : (6 : Int32).toInt = 6 := by decide
          have y_0 : (0 : Int32).toInt = 0 := by decide
          omega
        exact loop_23 _ 0 vy_9 _ _ _ (Nat.lt_succ_self _) ha_47 pf_14 hP hD hS hl
      · skip
        refine lv_bipush (v := 12) hx hb dX12_begins_30 (by decide) ?_
        refine lv_iconst (v := 4) hx hb dX12_begins_32 (by decide) ?_
        refine lv_iload_n hx hb dX12_begins_33 rfl (lv_at hl 0 rfl) ?_
        refine lv_imul hx hb dX12_begins_34 ?_
        refine lv_topi (fun x_48 ex_48 => ?_)
        refine lv_iadd hx hb dX12_begins_35 ?_
        refine lv_topi (fun x_49 ex_49 => ?_)
        refine lv_istore_n (lv' := [(2, .int x_49), (1, .int vy_8), (0, .ref (Ma 0))]) hx hb dX12_begins_36 rfl hl (by decide) rfl (fun ls hl₀ => ?_)
        replace hl := hl₀
        clear hl₀
        refine lv_aload_n hx hb dX12_begins_37 rfl (lv_at hl 2 rfl) ?_
        refine gf_X12_39 hx hb hts hown hK hP 0 rfl rfl dX12_begins_38 ?_
        refine lv_iload_n hx hb dX12_begins_41 rfl (lv_at hl 0 rfl) ?_
        refine lv_aload_n hx hb dX12_begins_42 rfl (lv_at hl 2 rfl) ?_
        refine gf_X12_39 hx hb hts hown hK hP 0 rfl rfl dX12_begins_43 ?_
        refine lv_bipush (v := 68) hx hb dX12_begins_46 (by decide) ?_
        refine lv_iload_n hx hb dX12_begins_48 rfl (lv_at hl 1 rfl) ?_
        refine lv_iadd hx hb dX12_begins_49 ?_
        refine lv_topi (fun x_50 ex_50 => ?_)
        have hi_51 : vp_in x_50 126 := by
          have z_1 := Int32.lt_iff_toInt_lt.mp (Int32.not_le.mp c_16)
          have y_6 : (6 : Int32).toInt = 6 := by decide
          have y_68 : (68 : Int32).toInt = 68 := by decide
          have t_x_50 : x_50.toInt = (68 : Int32).toInt + (vy_8 : Int32).toInt := by rw [ex_50]; exact add_toInt (by omega) (by omega)
          refine vp_in_iff.mpr ⟨?_, ?_⟩ <;> omega
        refine va_iald hx hb hK hP 1 0 rfl rfl hi_51 dX12_begins_50 ?_
        refine lv_topi (fun x_52 ex_52 => ?_)
        have hi_53 : vp_in x_49 126 := by
          have z_1 := Int32.lt_iff_toInt_lt.mp (Int32.not_le.mp c_16)
          have y_6 : (6 : Int32).toInt = 6 := by decide
          have y_4 : (4 : Int32).toInt = 4 := by decide
          have y_12 : (12 : Int32).toInt = 12 := by decide
          have t_x_48 : x_48.toInt = (4 : Int32).toInt * (vy_8 : Int32).toInt := by rw [ex_48]; exact mul_toInt (by first | omega | (rw [y_4]; omega)) (by first | omega | (rw [y_4]; omega))
          rw [y_4] at t_x_48
          have t_x_49 : x_49.toInt = (12 : Int32).toInt + (x_48 : Int32).toInt := by rw [ex_49]; exact add_toInt (by omega) (by omega)
          refine vp_in_iff.mpr ⟨?_, ?_⟩ <;> omega
        refine st_int hx hb hK hP hD hS 1 0 rfl rfl hi_53 dX12_begins_51 (fun g_54 H locs eg_54 hP₀ hD₀ hS₀ => ?_)
        replace hP : va_P D classes [((Ma 0), .inr (12, [.ref (Ma 1), .int (Mv 0), .int (Mv 1), .ref (Ma 2), .ref (Ma 3), .ref (Ma 4), .ref (Ma 5), .ref (Ma 6), .int (Mv 2), .int (Mv 3), .int (Mv 4), .int (Mv 5), .int (Mv 6), .int (Mv 7), .int (Mv 8), .ref (Ma 7), .int (Mv 9), .ref (Ma 8), .int (Mv 10), .ref (Ma 9), .ref (Ma 10), .int (Mv 11), .int (Mv 12), .int (Mv 13), .ref (Ma 11), .int (Mv 14), .ref (Ma 12), .ref (Ma 13), .ref (Ma 14), .ref (Ma 15), .ref (Ma 16), .long (Mj 0), .ref (Ma 17), .ref (Ma 18), .ref (Ma 19), .ref (Ma 20)])), ((Ma 10), .inl (tc 0, 126, .inl g_54))] H := hP₀
        replace hD : va_D A [((Ma 0), .inr (12, [.ref (Ma 1), .int (Mv 0), .int (Mv 1), .ref (Ma 2), .ref (Ma 3), .ref (Ma 4), .ref (Ma 5), .ref (Ma 6), .int (Mv 2), .int (Mv 3), .int (Mv 4), .int (Mv 5), .int (Mv 6), .int (Mv 7), .int (Mv 8), .ref (Ma 7), .int (Mv 9), .ref (Ma 8), .int (Mv 10), .ref (Ma 9), .ref (Ma 10), .int (Mv 11), .int (Mv 12), .int (Mv 13), .ref (Ma 11), .int (Mv 14), .ref (Ma 12), .ref (Ma 13), .ref (Ma 14), .ref (Ma 15), .ref (Ma 16), .long (Mj 0), .ref (Ma 17), .ref (Ma 18), .ref (Ma 19), .ref (Ma 20)])), ((Ma 10), .inl (tc 0, 126, .inl g_54))] := hD₀
        replace hS := hS₀
        clear hP₀ hD₀ hS₀
        have hx_56 : 11 ≤ (x_49 : Int32).toNatClampNeg ∧ (x_49 : Int32).toNatClampNeg < 56 := by
          have z_1 := Int32.lt_iff_toInt_lt.mp (Int32.not_le.mp c_16)
          have y_6 : (6 : Int32).toInt = 6 := by decide
          have y_4 : (4 : Int32).toInt = 4 := by decide
          have y_12 : (12 : Int32).toInt = 12 := by decide
          have t_x_48 : x_48.toInt = (4 : Int32).toInt * (vy_8 : Int32).toInt := by rw [ex_48]; exact mul_toInt (by first | omega | (rw [y_4]; omega)) (by first | omega | (rw [y_4]; omega))
          rw [y_4] at t_x_48
          have t_x_49 : x_49.toInt = (12 : Int32).toInt + (x_48 : Int32).toInt := by rw [ex_49]; exact add_toInt (by omega) (by omega)
          have hcl : (x_49 : Int32).toNatClampNeg = (x_49 : Int32).toInt.toNat := rfl
          omega
        have pf_55 : SaidD T g_54 0 := SaidD.keep pf_14 eg_54 hx_56
        have ar_pf_55 := SaidD.ar pf_55
        refine lv_aload_n hx hb dX12_begins_52 rfl (lv_at hl 2 rfl) ?_
        refine gf_X12_39 hx hb hts hown hK hP 0 rfl rfl dX12_begins_53 ?_
        refine lv_iload_n hx hb dX12_begins_56 rfl (lv_at hl 0 rfl) ?_
        refine lv_iconst (v := 1) hx hb dX12_begins_57 (by decide) ?_
        refine lv_iadd hx hb dX12_begins_58 ?_
        refine lv_topi (fun x_57 ex_57 => ?_)
        refine lv_iconst (v := 0) hx hb dX12_begins_59 (by decide) ?_
        have hi_58 : vp_in x_57 126 := by
          have z_1 := Int32.lt_iff_toInt_lt.mp (Int32.not_le.mp c_16)
          have y_6 : (6 : Int32).toInt = 6 := by decide
          have y_1 : (1 : Int32).toInt = 1 := by decide
          have y_4 : (4 : Int32).toInt = 4 := by decide
          have y_12 : (12 : Int32).toInt = 12 := by decide
          have t_x_48 : x_48.toInt = (4 : Int32).toInt * (vy_8 : Int32).toInt := by rw [ex_48]; exact mul_toInt (by first | omega | (rw [y_4]; omega)) (by first | omega | (rw [y_4]; omega))
          rw [y_4] at t_x_48
          have t_x_49 : x_49.toInt = (12 : Int32).toInt + (x_48 : Int32).toInt := by rw [ex_49]; exact add_toInt (by omega) (by omega)
          have t_x_57 : x_57.toInt = (x_49 : Int32).toInt + (1 : Int32).toInt := by rw [ex_57]; exact add_toInt (by omega) (by omega)
          refine vp_in_iff.mpr ⟨?_, ?_⟩ <;> omega
        refine st_int hx hb hK hP hD hS 1 0 rfl rfl hi_58 dX12_begins_60 (fun g_59 H locs eg_59 hP₀ hD₀ hS₀ => ?_)
        replace hP : va_P D classes [((Ma 0), .inr (12, [.ref (Ma 1), .int (Mv 0), .int (Mv 1), .ref (Ma 2), .ref (Ma 3), .ref (Ma 4), .ref (Ma 5), .ref (Ma 6), .int (Mv 2), .int (Mv 3), .int (Mv 4), .int (Mv 5), .int (Mv 6), .int (Mv 7), .int (Mv 8), .ref (Ma 7), .int (Mv 9), .ref (Ma 8), .int (Mv 10), .ref (Ma 9), .ref (Ma 10), .int (Mv 11), .int (Mv 12), .int (Mv 13), .ref (Ma 11), .int (Mv 14), .ref (Ma 12), .ref (Ma 13), .ref (Ma 14), .ref (Ma 15), .ref (Ma 16), .long (Mj 0), .ref (Ma 17), .ref (Ma 18), .ref (Ma 19), .ref (Ma 20)])), ((Ma 10), .inl (tc 0, 126, .inl g_59))] H := hP₀
        replace hD : va_D A [((Ma 0), .inr (12, [.ref (Ma 1), .int (Mv 0), .int (Mv 1), .ref (Ma 2), .ref (Ma 3), .ref (Ma 4), .ref (Ma 5), .ref (Ma 6), .int (Mv 2), .int (Mv 3), .int (Mv 4), .int (Mv 5), .int (Mv 6), .int (Mv 7), .int (Mv 8), .ref (Ma 7), .int (Mv 9), .ref (Ma 8), .int (Mv 10), .ref (Ma 9), .ref (Ma 10), .int (Mv 11), .int (Mv 12), .int (Mv 13), .ref (Ma 11), .int (Mv 14), .ref (Ma 12), .ref (Ma 13), .ref (Ma 14), .ref (Ma 15), .ref (Ma 16), .long (Mj 0), .ref (Ma 17), .ref (Ma 18), .ref (Ma 19), .ref (Ma 20)])), ((Ma 10), .inl (tc 0, 126, .inl g_59))] := hD₀
        replace hS := hS₀
        clear hP₀ hD₀ hS₀
        have hx_61 : 11 ≤ (x_57 : Int32).toNatClampNeg ∧ (x_57 : Int32).toNatClampNeg < 56 := by
          have z_1 := Int32.lt_iff_toInt_lt.mp (Int32.not_le.mp c_16)
          have y_6 : (6 : Int32).toInt = 6 := by decide
          have y_1 : (1 : Int32).toInt = 1 := by decide
          have y_4 : (4 : Int32).toInt = 4 := by decide
          have y_12 : (12 : Int32).toInt = 12 := by decide
          have t_x_48 : x_48.toInt = (4 : Int32).toInt * (vy_8 : Int32).toInt := by rw [ex_48]; exact mul_toInt (by first | omega | (rw [y_4]; omega)) (by first | omega | (rw [y_4]; omega))
          rw [y_4] at t_x_48
          have t_x_49 : x_49.toInt = (12 : Int32).toInt + (x_48 : Int32).toInt := by rw [ex_49]; exact add_toInt (by omega) (by omega)
          have t_x_57 : x_57.toInt = (x_49 : Int32).toInt + (1 : Int32).toInt := by rw [ex_57]; exact add_toInt (by omega) (by omega)
          have hcl : (x_57 : Int32).toNatClampNeg = (x_57 : Int32).toInt.toNat := rfl
          omega
        have pf_60 : SaidD T g_59 0 := SaidD.keep pf_55 eg_59 hx_61
        have ar_pf_60 := SaidD.ar pf_60
        refine lv_aload_n hx hb dX12_begins_61 rfl (lv_at hl 2 rfl) ?_
        refine gf_X12_39 hx hb hts hown hK hP 0 rfl rfl dX12_begins_62 ?_
        refine lv_iload_n hx hb dX12_begins_65 rfl (lv_at hl 0 rfl) ?_
        refine lv_iconst (v := 2) hx hb dX12_begins_66 (by decide) ?_
        refine lv_iadd hx hb dX12_begins_67 ?_
        refine lv_topi (fun x_62 ex_62 => ?_)
        refine lv_iconst (v := 0) hx hb dX12_begins_68 (by decide) ?_
        have hi_63 : vp_in x_62 126 := by
          have z_1 := Int32.lt_iff_toInt_lt.mp (Int32.not_le.mp c_16)
          have y_6 : (6 : Int32).toInt = 6 := by decide
          have y_2 : (2 : Int32).toInt = 2 := by decide
          have y_4 : (4 : Int32).toInt = 4 := by decide
          have y_12 : (12 : Int32).toInt = 12 := by decide
          have t_x_48 : x_48.toInt = (4 : Int32).toInt * (vy_8 : Int32).toInt := by rw [ex_48]; exact mul_toInt (by first | omega | (rw [y_4]; omega)) (by first | omega | (rw [y_4]; omega))
          rw [y_4] at t_x_48
          have t_x_49 : x_49.toInt = (12 : Int32).toInt + (x_48 : Int32).toInt := by rw [ex_49]; exact add_toInt (by omega) (by omega)
          have t_x_62 : x_62.toInt = (x_49 : Int32).toInt + (2 : Int32).toInt := by rw [ex_62]; exact add_toInt (by omega) (by omega)
          refine vp_in_iff.mpr ⟨?_, ?_⟩ <;> omega
        refine st_int hx hb hK hP hD hS 1 0 rfl rfl hi_63 dX12_begins_69 (fun g_64 H locs eg_64 hP₀ hD₀ hS₀ => ?_)
        replace hP : va_P D classes [((Ma 0), .inr (12, [.ref (Ma 1), .int (Mv 0), .int (Mv 1), .ref (Ma 2), .ref (Ma 3), .ref (Ma 4), .ref (Ma 5), .ref (Ma 6), .int (Mv 2), .int (Mv 3), .int (Mv 4), .int (Mv 5), .int (Mv 6), .int (Mv 7), .int (Mv 8), .ref (Ma 7), .int (Mv 9), .ref (Ma 8), .int (Mv 10), .ref (Ma 9), .ref (Ma 10), .int (Mv 11), .int (Mv 12), .int (Mv 13), .ref (Ma 11), .int (Mv 14), .ref (Ma 12), .ref (Ma 13), .ref (Ma 14), .ref (Ma 15), .ref (Ma 16), .long (Mj 0), .ref (Ma 17), .ref (Ma 18), .ref (Ma 19), .ref (Ma 20)])), ((Ma 10), .inl (tc 0, 126, .inl g_64))] H := hP₀
        replace hD : va_D A [((Ma 0), .inr (12, [.ref (Ma 1), .int (Mv 0), .int (Mv 1), .ref (Ma 2), .ref (Ma 3), .ref (Ma 4), .ref (Ma 5), .ref (Ma 6), .int (Mv 2), .int (Mv 3), .int (Mv 4), .int (Mv 5), .int (Mv 6), .int (Mv 7), .int (Mv 8), .ref (Ma 7), .int (Mv 9), .ref (Ma 8), .int (Mv 10), .ref (Ma 9), .ref (Ma 10), .int (Mv 11), .int (Mv 12), .int (Mv 13), .ref (Ma 11), .int (Mv 14), .ref (Ma 12), .ref (Ma 13), .ref (Ma 14), .ref (Ma 15), .ref (Ma 16), .long (Mj 0), .ref (Ma 17), .ref (Ma 18), .ref (Ma 19), .ref (Ma 20)])), ((Ma 10), .inl (tc 0, 126, .inl g_64))] := hD₀
        replace hS := hS₀
        clear hP₀ hD₀ hS₀
        have hx_66 : 11 ≤ (x_62 : Int32).toNatClampNeg ∧ (x_62 : Int32).toNatClampNeg < 56 := by
          have z_1 := Int32.lt_iff_toInt_lt.mp (Int32.not_le.mp c_16)
          have y_6 : (6 : Int32).toInt = 6 := by decide
          have y_2 : (2 : Int32).toInt = 2 := by decide
          have y_4 : (4 : Int32).toInt = 4 := by decide
          have y_12 : (12 : Int32).toInt = 12 := by decide
          have t_x_48 : x_48.toInt = (4 : Int32).toInt * (vy_8 : Int32).toInt := by rw [ex_48]; exact mul_toInt (by first | omega | (rw [y_4]; omega)) (by first | omega | (rw [y_4]; omega))
          rw [y_4] at t_x_48
          have t_x_49 : x_49.toInt = (12 : Int32).toInt + (x_48 : Int32).toInt := by rw [ex_49]; exact add_toInt (by omega) (by omega)
          have t_x_62 : x_62.toInt = (x_49 : Int32).toInt + (2 : Int32).toInt := by rw [ex_62]; exact add_toInt (by omega) (by omega)
          have hcl : (x_62 : Int32).toNatClampNeg = (x_62 : Int32).toInt.toNat := rfl
          omega
        have pf_65 : SaidD T g_64 0 := SaidD.keep pf_60 eg_64 hx_66
        have ar_pf_65 := SaidD.ar pf_65
        refine lv_aload_n hx hb dX12_begins_70 rfl (lv_at hl 2 rfl) ?_
        refine gf_X12_39 hx hb hts hown hK hP 0 rfl rfl dX12_begins_71 ?_
        refine lv_iload_n hx hb dX12_begins_74 rfl (lv_at hl 0 rfl) ?_
        refine lv_iconst (v := 3) hx hb dX12_begins_75 (by decide) ?_
        refine lv_iadd hx hb dX12_begins_76 ?_
        refine lv_topi (fun x_67 ex_67 => ?_)
        refine lv_iconst (v := (-1)) hx hb dX12_begins_77 (by decide) ?_
        have hi_68 : vp_in x_67 126 := by
          have z_1 := Int32.lt_iff_toInt_lt.mp (Int32.not_le.mp c_16)
          have y_6 : (6 : Int32).toInt = 6 := by decide
          have y_3 : (3 : Int32).toInt = 3 := by decide
          have y_4 : (4 : Int32).toInt = 4 := by decide
          have y_12 : (12 : Int32).toInt = 12 := by decide
          have t_x_48 : x_48.toInt = (4 : Int32).toInt * (vy_8 : Int32).toInt := by rw [ex_48]; exact mul_toInt (by first | omega | (rw [y_4]; omega)) (by first | omega | (rw [y_4]; omega))
          rw [y_4] at t_x_48
          have t_x_49 : x_49.toInt = (12 : Int32).toInt + (x_48 : Int32).toInt := by rw [ex_49]; exact add_toInt (by omega) (by omega)
          have t_x_67 : x_67.toInt = (x_49 : Int32).toInt + (3 : Int32).toInt := by rw [ex_67]; exact add_toInt (by omega) (by omega)
          refine vp_in_iff.mpr ⟨?_, ?_⟩ <;> omega
        refine st_int hx hb hK hP hD hS 1 0 rfl rfl hi_68 dX12_begins_78 (fun g_69 H locs eg_69 hP₀ hD₀ hS₀ => ?_)
        replace hP : va_P D classes [((Ma 0), .inr (12, [.ref (Ma 1), .int (Mv 0), .int (Mv 1), .ref (Ma 2), .ref (Ma 3), .ref (Ma 4), .ref (Ma 5), .ref (Ma 6), .int (Mv 2), .int (Mv 3), .int (Mv 4), .int (Mv 5), .int (Mv 6), .int (Mv 7), .int (Mv 8), .ref (Ma 7), .int (Mv 9), .ref (Ma 8), .int (Mv 10), .ref (Ma 9), .ref (Ma 10), .int (Mv 11), .int (Mv 12), .int (Mv 13), .ref (Ma 11), .int (Mv 14), .ref (Ma 12), .ref (Ma 13), .ref (Ma 14), .ref (Ma 15), .ref (Ma 16), .long (Mj 0), .ref (Ma 17), .ref (Ma 18), .ref (Ma 19), .ref (Ma 20)])), ((Ma 10), .inl (tc 0, 126, .inl g_69))] H := hP₀
        replace hD : va_D A [((Ma 0), .inr (12, [.ref (Ma 1), .int (Mv 0), .int (Mv 1), .ref (Ma 2), .ref (Ma 3), .ref (Ma 4), .ref (Ma 5), .ref (Ma 6), .int (Mv 2), .int (Mv 3), .int (Mv 4), .int (Mv 5), .int (Mv 6), .int (Mv 7), .int (Mv 8), .ref (Ma 7), .int (Mv 9), .ref (Ma 8), .int (Mv 10), .ref (Ma 9), .ref (Ma 10), .int (Mv 11), .int (Mv 12), .int (Mv 13), .ref (Ma 11), .int (Mv 14), .ref (Ma 12), .ref (Ma 13), .ref (Ma 14), .ref (Ma 15), .ref (Ma 16), .long (Mj 0), .ref (Ma 17), .ref (Ma 18), .ref (Ma 19), .ref (Ma 20)])), ((Ma 10), .inl (tc 0, 126, .inl g_69))] := hD₀
        replace hS := hS₀
        clear hP₀ hD₀ hS₀
        have hx_71 : 11 ≤ (x_67 : Int32).toNatClampNeg ∧ (x_67 : Int32).toNatClampNeg < 56 := by
          have z_1 := Int32.lt_iff_toInt_lt.mp (Int32.not_le.mp c_16)
          have y_6 : (6 : Int32).toInt = 6 := by decide
          have y_3 : (3 : Int32).toInt = 3 := by decide
          have y_4 : (4 : Int32).toInt = 4 := by decide
          have y_12 : (12 : Int32).toInt = 12 := by decide
          have t_x_48 : x_48.toInt = (4 : Int32).toInt * (vy_8 : Int32).toInt := by rw [ex_48]; exact mul_toInt (by first | omega | (rw [y_4]; omega)) (by first | omega | (rw [y_4]; omega))
          rw [y_4] at t_x_48
          have t_x_49 : x_49.toInt = (12 : Int32).toInt + (x_48 : Int32).toInt := by rw [ex_49]; exact add_toInt (by omega) (by omega)
          have t_x_67 : x_67.toInt = (x_49 : Int32).toInt + (3 : Int32).toInt := by rw [ex_67]; exact add_toInt (by omega) (by omega)
          have hcl : (x_67 : Int32).toNatClampNeg = (x_67 : Int32).toInt.toNat := rfl
          omega
        have pf_70 : SaidD T g_69 0 := SaidD.keep pf_65 eg_69 hx_71
        have ar_pf_70 := SaidD.ar pf_70
        obtain ⟨x_72, ex_72⟩ : ∃ y : Int32, y = vy_8 + 1 := ⟨_, rfl⟩
        refine lv_iinc (v := x_72) (lv' := [(1, .int x_72), (2, .int x_49), (0, .ref (Ma 0))]) hx hb dX12_begins_79 hl (k := 1) rfl (by rw [ex_72]; rfl) (by decide) rfl (fun ls hl₀ => ?_)
        replace hl := hl₀
        clear hl₀
        refine lv_goto (tgt := 24) hx hb dX12_begins_82 (by decide) ?_
        have hb_73 : 6 - (x_72 : Int32).toInt < 6 - (vy_8 : Int32).toInt ∧ 1 ≤ 6 - (vy_8 : Int32).toInt := by
          have z_1 := Int32.lt_iff_toInt_lt.mp (Int32.not_le.mp c_16)
          have y_6 : (6 : Int32).toInt = 6 := by decide
          have y_1 : (1 : Int32).toInt = 1 := by decide
          have t_x_72 : x_72.toInt = (vy_8 : Int32).toInt + (1 : Int32).toInt := by rw [ex_72]; exact add_toInt (by omega) (by omega)
          omega
        have ha_74 : 0 ≤ (x_72 : Int32).toInt := by
          have z_1 := Int32.lt_iff_toInt_lt.mp (Int32.not_le.mp c_16)
          have y_6 : (6 : Int32).toInt = 6 := by decide
          have y_1 : (1 : Int32).toInt = 1 := by decide
          have t_x_72 : x_72.toInt = (vy_8 : Int32).toInt + (1 : Int32).toInt := by rw [ex_72]; exact add_toInt (by omega) (by omega)
          omega
        exact ih_11 x_72 g_69 _ _ _ (by omega) ha_74 pf_70 (hP.sub [0, 1] rfl) (hD.sub [0, 1] rfl rfl) hS (lv_sub hl [0, 2] rfl)
  have ha_75 : 0 ≤ (0 : Int32).toInt := by
    have y_0 : (0 : Int32).toInt = 0 := by decide
    omega
  exact loop_12 _ 0 g_4 _ _ _ (Nat.lt_succ_self _) ha_75 pf_5 hP hD hS hl
set_option maxRecDepth 100000 in
theorem cu_X12_begins {T : Nat → Option Int32} (l : Launch) (D : va_G) (tc : Nat → ClassId) (sk : (Nat → Nat) × (Nat → Nat)) (Ma_0 : Nat) (Ma_1 : Nat) (Ma_2 : Nat) (Ma_3 : Nat) (Ma_4 : Nat) (Ma_5 : Nat) (Ma_6 : Nat) (Ma_7 : Nat) (Ma_8 : Nat) (Ma_9 : Nat) (Ma_10 : Nat) (Ma_11 : Nat) (Ma_12 : Nat) (Ma_13 : Nat) (Ma_14 : Nat) (Ma_15 : Nat) (Ma_16 : Nat) (Ma_17 : Nat) (Ma_18 : Nat) (Ma_19 : Nat) (Ma_20 : Nat) (Mv_0 : Int32) (Mv_1 : Int32) (Mv_2 : Int32) (Mv_3 : Int32) (Mv_4 : Int32) (Mv_5 : Int32) (Mv_6 : Int32) (Mv_7 : Int32) (Mv_8 : Int32) (Mv_9 : Int32) (Mv_10 : Int32) (Mv_11 : Int32) (Mv_12 : Int32) (Mv_13 : Int32) (Mv_14 : Int32) (Mf_10 : Nat → Int32) (Mj_0 : Int64) (h_said : SaidB T Mf_10) : Ct l yX12_begins cX12_begins 3 none { frames := 0, cells := 0, slots := 0, locals := 0 } D tc sk [.ref Ma_0] [(Ma_0, .inr (12, [.ref Ma_1, .int Mv_0, .int Mv_1, .ref Ma_2, .ref Ma_3, .ref Ma_4, .ref Ma_5, .ref Ma_6, .int Mv_2, .int Mv_3, .int Mv_4, .int Mv_5, .int Mv_6, .int Mv_7, .int Mv_8, .ref Ma_7, .int Mv_9, .ref Ma_8, .int Mv_10, .ref Ma_9, .ref Ma_10, .int Mv_11, .int Mv_12, .int Mv_13, .ref Ma_11, .int Mv_14, .ref Ma_12, .ref Ma_13, .ref Ma_14, .ref Ma_15, .ref Ma_16, .long Mj_0, .ref Ma_17, .ref Ma_18, .ref Ma_19, .ref Ma_20])), (Ma_10, .inl (tc 0, 126, .inl Mf_10))] (fun (v : Option Value) (oo0x1 : Nat → Int32) => v = none ∧ (SaidD T oo0x1 0)) (fun (oo0x1 : Nat → Int32) => [(Ma_0, .inr (12, [.ref Ma_1, .int Mv_0, .int Mv_1, .ref Ma_2, .ref Ma_3, .ref Ma_4, .ref Ma_5, .ref Ma_6, .int Mv_2, .int Mv_3, .int Mv_4, .int Mv_5, .int Mv_6, .int Mv_7, .int Mv_8, .ref Ma_7, .int Mv_9, .ref Ma_8, .int Mv_10, .ref Ma_9, .ref Ma_10, .int Mv_11, .int Mv_12, .int Mv_13, .ref Ma_11, .int Mv_14, .ref Ma_12, .ref Ma_13, .ref Ma_14, .ref Ma_15, .ref Ma_16, .long Mj_0, .ref Ma_17, .ref Ma_18, .ref Ma_19, .ref Ma_20])), (Ma_10, .inl (tc 0, 126, .inl oo0x1))]) 0 0 :=
  ct_X12_begins l D tc sk (fun k => ([Ma_0, Ma_1, Ma_2, Ma_3, Ma_4, Ma_5, Ma_6, Ma_7, Ma_8, Ma_9, Ma_10, Ma_11, Ma_12, Ma_13, Ma_14, Ma_15, Ma_16, Ma_17, Ma_18, Ma_19, Ma_20] : List (Nat)).getD k 0) (fun k => ([Mv_0, Mv_1, Mv_2, Mv_3, Mv_4, Mv_5, Mv_6, Mv_7, Mv_8, Mv_9, Mv_10, Mv_11, Mv_12, Mv_13, Mv_14] : List (Int32)).getD k 0) (fun k => ([(fun _ => 0), (fun _ => 0), (fun _ => 0), (fun _ => 0), (fun _ => 0), (fun _ => 0), (fun _ => 0), (fun _ => 0), (fun _ => 0), (fun _ => 0), Mf_10] : List (Nat → Int32)).getD k (fun _ => 0)) (fun k => ([Mj_0] : List (Int64)).getD k 0) h_said
set_option maxHeartbeats 4000000 in
set_option maxRecDepth 100000 in
theorem ct_X12_isWilling {T : Nat → Option Int32} (l : Launch) (D : va_G) (tc : Nat → ClassId) (sk : (Nat → Nat) × (Nat → Nat)) (Ma : Nat → Nat) (Mv : Nat → Int32) (Mf : Nat → Nat → Int32) (Mj : Nat → Int64) (Mg : Nat → Nat → Int64) (x1 : Int32) (d : Int) (h_b : 0 ≤ x1.toInt ∧ x1.toInt < 6) (h_said : SaidD T (Mf 10) d) (h_d : d ≤ 1000000) (h_rul : RulD (Mf 2) (Mf 4) (Mf 5) (Mv 1)) (h_frc : -1 ≤ (Mv 11).toInt ∧ (Mv 11).toInt < (Mv 1).toInt ∧ (Mv 1).toInt ≤ 6) (h_2 : 1 ≤ ((Mf 10) 2).toInt ∧ ((Mf 10) 2).toInt ≤ 10) : Ct l yX12_isWilling cX12_isWilling 3 (some .boolean) { frames := 3, cells := 0, slots := 0, locals := 77 } D tc sk [.ref (Ma 0), .int x1] [((Ma 0), .inr (12, [.ref (Ma 1), .int (Mv 0), .int (Mv 1), .ref (Ma 2), .ref (Ma 3), .ref (Ma 4), .ref (Ma 5), .ref (Ma 6), .int (Mv 2), .int (Mv 3), .int (Mv 4), .int (Mv 5), .int (Mv 6), .int (Mv 7), .int (Mv 8), .ref (Ma 7), .int (Mv 9), .ref (Ma 8), .int (Mv 10), .ref (Ma 9), .ref (Ma 10), .int (Mv 11), .int (Mv 12), .int (Mv 13), .ref (Ma 11), .int (Mv 14), .ref (Ma 12), .ref (Ma 13), .ref (Ma 14), .ref (Ma 15), .ref (Ma 16), .long (Mj 0), .ref (Ma 17), .ref (Ma 18), .ref (Ma 19), .ref (Ma 20)])), ((Ma 2), .inl (tc 0, 2400, .inl (Mf 2))), ((Ma 4), .inl (tc 0, 288, .inl (Mf 4))), ((Ma 5), .inl (tc 0, 6, .inl (Mf 5))), ((Ma 8), .inl (tc 1, 64, .inr (.inl (Mg 8)))), ((Ma 9), .inl (tc 1, 13, .inr (.inl (Mg 9)))), ((Ma 10), .inl (tc 0, 126, .inl (Mf 10)))] (fun (v : Option Value) (u : (Int32) × (Nat → Int64) × (Nat → Int64)) => match u with | (oo0x1, oo0x2, oo0x3) => ∃ r : Int32, v = some (.int r) ∧ ((r.toInt = 0 ∨ r.toInt = 1))) (fun (u : (Int32) × (Nat → Int64) × (Nat → Int64)) => match u with | (oo0x1, oo0x2, oo0x3) => [((Ma 0), .inr (12, [.ref (Ma 1), .int (Mv 0), .int (Mv 1), .ref (Ma 2), .ref (Ma 3), .ref (Ma 4), .ref (Ma 5), .ref (Ma 6), .int (Mv 2), .int (Mv 3), .int (Mv 4), .int (Mv 5), .int (Mv 6), .int (Mv 7), .int (Mv 8), .ref (Ma 7), .int (Mv 9), .ref (Ma 8), .int oo0x1, .ref (Ma 9), .ref (Ma 10), .int (Mv 11), .int (Mv 12), .int (Mv 13), .ref (Ma 11), .int (Mv 14), .ref (Ma 12), .ref (Ma 13), .ref (Ma 14), .ref (Ma 15), .ref (Ma 16), .long (Mj 0), .ref (Ma 17), .ref (Ma 18), .ref (Ma 19), .ref (Ma 20)])), ((Ma 2), .inl (tc 0, 2400, .inl (Mf 2))), ((Ma 4), .inl (tc 0, 288, .inl (Mf 4))), ((Ma 5), .inl (tc 0, 6, .inl (Mf 5))), ((Ma 8), .inl (tc 1, 64, .inr (.inl oo0x2))), ((Ma 9), .inl (tc 1, 13, .inr (.inl oo0x3))), ((Ma 10), .inl (tc 0, 126, .inl (Mf 10)))]) 0 0 := by
  refine Ct.start (by decide) (Nat.le_of_ble_eq_true rfl) (fun p e s m below meth c A ls hx hb hr hlk hin hml hown hts hK hX hP hD hA hl hS => ?_)
  have hl : lv_has ls 3 [(0, .ref (Ma 0)), (1, .int x1)] := hl
  have ar_h_said := SaidD.ar h_said
  refine lv_aload_n hx hb dX12_isWilling_0 rfl (lv_at hl 0 rfl) ?_
  refine gf_X12_39 hx hb hts hown hK hP 0 rfl rfl dX12_isWilling_1 ?_
  refine lv_bipush (v := 36) hx hb dX12_isWilling_4 (by decide) ?_
  refine lv_aload_n hx hb dX12_isWilling_6 rfl (lv_at hl 0 rfl) ?_
  refine cV (a := (Ma 0)) (As := []) (rest := [.int 36, .ref (Ma 10)]) (wr := [((Ma 2), .inl (tc 0, 2400, .inl (Mf 2))), ((Ma 4), .inl (tc 0, 288, .inl (Mf 4))), ((Ma 5), .inl (tc 0, 6, .inl (Mf 5))), ((Ma 8), .inl (tc 1, 64, .inr (.inl (Mg 8)))), ((Ma 9), .inl (tc 1, 13, .inr (.inl (Mg 9))))]) ⟨hx, hb, hml, hown, hts⟩ hK hX hA (cu_X12_clock l D tc sk (Ma 0) (Ma 1) (Ma 2) (Ma 3) (Ma 4) (Ma 5) (Ma 6) (Ma 7) (Ma 8) (Ma 9) (Ma 10) (Ma 11) (Ma 12) (Ma 13) (Ma 14) (Ma 15) (Ma 16) (Ma 17) (Ma 18) (Ma 19) (Ma 20) (Mv 0) (Mv 1) (Mv 2) (Mv 3) (Mv 4) (Mv 5) (Mv 6) (Mv 7) (Mv 8) (Mv 9) (Mv 10) (Mv 11) (Mv 12) (Mv 13) (Mv 14) (Mf 10) (Mj 0) d h_said) k_1435 k_1432 k_1434 k_70 k_106 pl_X12_clock ⟨Nat.le_of_ble_eq_true rfl, Nat.le_of_ble_eq_true rfl⟩ rfl rfl (va_recv hK hP (ci := 12) (q0 := 0) rfl rfl) hP hD hS [0, 6] [1, 2, 3, 4, 5] rfl rfl rfl rfl rfl (by decide) rfl hl.1 rfl (Nat.le_of_ble_eq_true rfl) dX12_isWilling_7 ⟨Nat.le_of_ble_eq_true rfl, Nat.le_of_ble_eq_true rfl⟩ (fun v_1 u_2 H locs hv_3 hP₀ hD₀ hS₀ => ?_)
  obtain ⟨r_4, rfl, he_5⟩ := hv_3
  have he_5 : (0 ≤ r_4.toInt ∧ r_4.toInt < 10) := he_5
  refine W.eq (g2 := F0 m 10 ls [.int r_4, .int 36, .ref (Ma 10)]) rfl ?_
  replace hP : va_P D classes [((Ma 2), .inl (tc 0, 2400, .inl (Mf 2))), ((Ma 4), .inl (tc 0, 288, .inl (Mf 4))), ((Ma 5), .inl (tc 0, 6, .inl (Mf 5))), ((Ma 8), .inl (tc 1, 64, .inr (.inl (Mg 8)))), ((Ma 9), .inl (tc 1, 13, .inr (.inl (Mg 9)))), ((Ma 0), .inr (12, [.ref (Ma 1), .int (Mv 0), .int (Mv 1), .ref (Ma 2), .ref (Ma 3), .ref (Ma 4), .ref (Ma 5), .ref (Ma 6), .int (Mv 2), .int (Mv 3), .int (Mv 4), .int (Mv 5), .int (Mv 6), .int (Mv 7), .int (Mv 8), .ref (Ma 7), .int (Mv 9), .ref (Ma 8), .int (Mv 10), .ref (Ma 9), .ref (Ma 10), .int (Mv 11), .int (Mv 12), .int (Mv 13), .ref (Ma 11), .int (Mv 14), .ref (Ma 12), .ref (Ma 13), .ref (Ma 14), .ref (Ma 15), .ref (Ma 16), .long (Mj 0), .ref (Ma 17), .ref (Ma 18), .ref (Ma 19), .ref (Ma 20)])), ((Ma 10), .inl (tc 0, 126, .inl (Mf 10)))] H := hP₀
  replace hD : va_D A [((Ma 2), .inl (tc 0, 2400, .inl (Mf 2))), ((Ma 4), .inl (tc 0, 288, .inl (Mf 4))), ((Ma 5), .inl (tc 0, 6, .inl (Mf 5))), ((Ma 8), .inl (tc 1, 64, .inr (.inl (Mg 8)))), ((Ma 9), .inl (tc 1, 13, .inr (.inl (Mg 9)))), ((Ma 0), .inr (12, [.ref (Ma 1), .int (Mv 0), .int (Mv 1), .ref (Ma 2), .ref (Ma 3), .ref (Ma 4), .ref (Ma 5), .ref (Ma 6), .int (Mv 2), .int (Mv 3), .int (Mv 4), .int (Mv 5), .int (Mv 6), .int (Mv 7), .int (Mv 8), .ref (Ma 7), .int (Mv 9), .ref (Ma 8), .int (Mv 10), .ref (Ma 9), .ref (Ma 10), .int (Mv 11), .int (Mv 12), .int (Mv 13), .ref (Ma 11), .int (Mv 14), .ref (Ma 12), .ref (Ma 13), .ref (Ma 14), .ref (Ma 15), .ref (Ma 16), .long (Mj 0), .ref (Ma 17), .ref (Ma 18), .ref (Ma 19), .ref (Ma 20)])), ((Ma 10), .inl (tc 0, 126, .inl (Mf 10)))] := hD₀
  replace hS := hS₀
  clear hP₀ hD₀ hS₀
  refine lv_iadd hx hb dX12_isWilling_10 ?_
  refine lv_topi (fun x_7 ex_7 => ?_)
  have hi_8 : vp_in x_7 126 := by
    have y_36 : (36 : Int32).toInt = 36 := by decide
    have t_x_7 : x_7.toInt = (36 : Int32).toInt + (r_4 : Int32).toInt := by rw [ex_7]; exact add_toInt (by omega) (by omega)
    refine vp_in_iff.mpr ⟨?_, ?_⟩ <;> omega
  refine va_iald hx hb hK hP 6 0 rfl rfl hi_8 dX12_isWilling_11 ?_
  refine lv_topi (fun x_9 ex_9 => ?_)
  refine lv_istore_n (lv' := [(2, .int x_9), (0, .ref (Ma 0)), (1, .int x1)]) hx hb dX12_isWilling_12 rfl hl (by decide) rfl (fun ls hl₀ => ?_)
  replace hl := hl₀
  clear hl₀
  refine lv_aload_n hx hb dX12_isWilling_13 rfl (lv_at hl 1 rfl) ?_
  refine gf_X12_42 hx hb hts hown hK hP 5 rfl rfl dX12_isWilling_14 ?_
  refine lv_if_ge (tgt := 38) hx hb dX12_isWilling_17 (by decide) (fun c_10 => ?_) (fun c_10 => ?_)
  · skip
    refine lv_aload_n hx hb dX12_isWilling_38 rfl (lv_at hl 1 rfl) ?_
    refine gf_X12_36 hx hb hts hown hK hP 5 rfl rfl dX12_isWilling_39 ?_
    refine lv_iconst (v := 0) hx hb dX12_isWilling_42 (by decide) ?_
    refine lv_iload_n hx hb dX12_isWilling_43 rfl (lv_at hl 2 rfl) ?_
    refine lv_i2l (v := (x1).toInt64) hx hb dX12_isWilling_44 rfl ?_
    refine st_long hx hb hK hP hD hS 4 1 rfl rfl (vin_dec (by decide +kernel)) dX12_isWilling_45 (fun g_11 H locs eg_11 hP₀ hD₀ hS₀ => ?_)
    replace hP : va_P D classes [((Ma 2), .inl (tc 0, 2400, .inl (Mf 2))), ((Ma 4), .inl (tc 0, 288, .inl (Mf 4))), ((Ma 5), .inl (tc 0, 6, .inl (Mf 5))), ((Ma 8), .inl (tc 1, 64, .inr (.inl (Mg 8)))), ((Ma 9), .inl (tc 1, 13, .inr (.inl g_11))), ((Ma 0), .inr (12, [.ref (Ma 1), .int (Mv 0), .int (Mv 1), .ref (Ma 2), .ref (Ma 3), .ref (Ma 4), .ref (Ma 5), .ref (Ma 6), .int (Mv 2), .int (Mv 3), .int (Mv 4), .int (Mv 5), .int (Mv 6), .int (Mv 7), .int (Mv 8), .ref (Ma 7), .int (Mv 9), .ref (Ma 8), .int (Mv 10), .ref (Ma 9), .ref (Ma 10), .int (Mv 11), .int (Mv 12), .int (Mv 13), .ref (Ma 11), .int (Mv 14), .ref (Ma 12), .ref (Ma 13), .ref (Ma 14), .ref (Ma 15), .ref (Ma 16), .long (Mj 0), .ref (Ma 17), .ref (Ma 18), .ref (Ma 19), .ref (Ma 20)])), ((Ma 10), .inl (tc 0, 126, .inl (Mf 10)))] H := hP₀
    replace hD : va_D A [((Ma 2), .inl (tc 0, 2400, .inl (Mf 2))), ((Ma 4), .inl (tc 0, 288, .inl (Mf 4))), ((Ma 5), .inl (tc 0, 6, .inl (Mf 5))), ((Ma 8), .inl (tc 1, 64, .inr (.inl (Mg 8)))), ((Ma 9), .inl (tc 1, 13, .inr (.inl g_11))), ((Ma 0), .inr (12, [.ref (Ma 1), .int (Mv 0), .int (Mv 1), .ref (Ma 2), .ref (Ma 3), .ref (Ma 4), .ref (Ma 5), .ref (Ma 6), .int (Mv 2), .int (Mv 3), .int (Mv 4), .int (Mv 5), .int (Mv 6), .int (Mv 7), .int (Mv 8), .ref (Ma 7), .int (Mv 9), .ref (Ma 8), .int (Mv 10), .ref (Ma 9), .ref (Ma 10), .int (Mv 11), .int (Mv 12), .int (Mv 13), .ref (Ma 11), .int (Mv 14), .ref (Ma 12), .ref (Ma 13), .ref (Ma 14), .ref (Ma 15), .ref (Ma 16), .long (Mj 0), .ref (Ma 17), .ref (Ma 18), .ref (Ma 19), .ref (Ma 20)])), ((Ma 10), .inl (tc 0, 126, .inl (Mf 10)))] := hD₀
    replace hS := hS₀
    clear hP₀ hD₀ hS₀
    refine lv_aload_n hx hb dX12_isWilling_46 rfl (lv_at hl 1 rfl) ?_
    refine gf_X12_36 hx hb hts hown hK hP 5 rfl rfl dX12_isWilling_47 ?_
    refine lv_iconst (v := 1) hx hb dX12_isWilling_50 (by decide) ?_
    refine lv_aload_n hx hb dX12_isWilling_51 rfl (lv_at hl 1 rfl) ?_
    refine lv_iload_n hx hb dX12_isWilling_52 rfl (lv_at hl 2 rfl) ?_
    refine cV (a := (Ma 0)) (As := [.int x1]) (rest := [.int 1, .ref (Ma 9)]) (wr := [((Ma 2), .inl (tc 0, 2400, .inl (Mf 2))), ((Ma 4), .inl (tc 0, 288, .inl (Mf 4))), ((Ma 5), .inl (tc 0, 6, .inl (Mf 5))), ((Ma 8), .inl (tc 1, 64, .inr (.inl (Mg 8)))), ((Ma 9), .inl (tc 1, 13, .inr (.inl g_11)))]) ⟨hx, hb, hml, hown, hts⟩ hK hX hA (cu_X12_temperOf l D tc sk (Ma 0) (Ma 1) (Ma 2) (Ma 3) (Ma 4) (Ma 5) (Ma 6) (Ma 7) (Ma 8) (Ma 9) (Ma 10) (Ma 11) (Ma 12) (Ma 13) (Ma 14) (Ma 15) (Ma 16) (Ma 17) (Ma 18) (Ma 19) (Ma 20) (Mv 0) (Mv 1) (Mv 2) (Mv 3) (Mv 4) (Mv 5) (Mv 6) (Mv 7) (Mv 8) (Mv 9) (Mv 10) (Mv 11) (Mv 12) (Mv 13) (Mv 14) (Mf 10) (Mj 0) x1 h_b) k_1379 k_1376 k_1378 k_59 k_106 pl_X12_temperOf ⟨Nat.le_of_ble_eq_true rfl, Nat.le_of_ble_eq_true rfl⟩ rfl rfl (va_recv hK hP (ci := 12) (q0 := 5) rfl rfl) hP hD hS [5, 6] [0, 1, 2, 3, 4] rfl rfl rfl rfl rfl (by decide) rfl hl.1 rfl (Nat.le_of_ble_eq_true rfl) dX12_isWilling_53 ⟨Nat.le_of_ble_eq_true rfl, Nat.le_of_ble_eq_true rfl⟩ (fun v_12 u_13 H locs hv_14 hP₀ hD₀ hS₀ => ?_)
    obtain ⟨r_15, rfl, he_16⟩ := hv_14
    refine W.eq (g2 := F0 m 56 ls [.int r_15, .int 1, .ref (Ma 9)]) rfl ?_
    replace hP : va_P D classes [((Ma 2), .inl (tc 0, 2400, .inl (Mf 2))), ((Ma 4), .inl (tc 0, 288, .inl (Mf 4))), ((Ma 5), .inl (tc 0, 6, .inl (Mf 5))), ((Ma 8), .inl (tc 1, 64, .inr (.inl (Mg 8)))), ((Ma 9), .inl (tc 1, 13, .inr (.inl g_11))), ((Ma 0), .inr (12, [.ref (Ma 1), .int (Mv 0), .int (Mv 1), .ref (Ma 2), .ref (Ma 3), .ref (Ma 4), .ref (Ma 5), .ref (Ma 6), .int (Mv 2), .int (Mv 3), .int (Mv 4), .int (Mv 5), .int (Mv 6), .int (Mv 7), .int (Mv 8), .ref (Ma 7), .int (Mv 9), .ref (Ma 8), .int (Mv 10), .ref (Ma 9), .ref (Ma 10), .int (Mv 11), .int (Mv 12), .int (Mv 13), .ref (Ma 11), .int (Mv 14), .ref (Ma 12), .ref (Ma 13), .ref (Ma 14), .ref (Ma 15), .ref (Ma 16), .long (Mj 0), .ref (Ma 17), .ref (Ma 18), .ref (Ma 19), .ref (Ma 20)])), ((Ma 10), .inl (tc 0, 126, .inl (Mf 10)))] H := hP₀
    replace hD : va_D A [((Ma 2), .inl (tc 0, 2400, .inl (Mf 2))), ((Ma 4), .inl (tc 0, 288, .inl (Mf 4))), ((Ma 5), .inl (tc 0, 6, .inl (Mf 5))), ((Ma 8), .inl (tc 1, 64, .inr (.inl (Mg 8)))), ((Ma 9), .inl (tc 1, 13, .inr (.inl g_11))), ((Ma 0), .inr (12, [.ref (Ma 1), .int (Mv 0), .int (Mv 1), .ref (Ma 2), .ref (Ma 3), .ref (Ma 4), .ref (Ma 5), .ref (Ma 6), .int (Mv 2), .int (Mv 3), .int (Mv 4), .int (Mv 5), .int (Mv 6), .int (Mv 7), .int (Mv 8), .ref (Ma 7), .int (Mv 9), .ref (Ma 8), .int (Mv 10), .ref (Ma 9), .ref (Ma 10), .int (Mv 11), .int (Mv 12), .int (Mv 13), .ref (Ma 11), .int (Mv 14), .ref (Ma 12), .ref (Ma 13), .ref (Ma 14), .ref (Ma 15), .ref (Ma 16), .long (Mj 0), .ref (Ma 17), .ref (Ma 18), .ref (Ma 19), .ref (Ma 20)])), ((Ma 10), .inl (tc 0, 126, .inl (Mf 10)))] := hD₀
    replace hS := hS₀
    clear hP₀ hD₀ hS₀
    refine lv_i2l (v := (r_15).toInt64) hx hb dX12_isWilling_56 rfl ?_
    refine st_long hx hb hK hP hD hS 4 1 rfl rfl (vin_dec (by decide +kernel)) dX12_isWilling_57 (fun g_18 H locs eg_18 hP₀ hD₀ hS₀ => ?_)
    replace hP : va_P D classes [((Ma 2), .inl (tc 0, 2400, .inl (Mf 2))), ((Ma 4), .inl (tc 0, 288, .inl (Mf 4))), ((Ma 5), .inl (tc 0, 6, .inl (Mf 5))), ((Ma 8), .inl (tc 1, 64, .inr (.inl (Mg 8)))), ((Ma 9), .inl (tc 1, 13, .inr (.inl g_18))), ((Ma 0), .inr (12, [.ref (Ma 1), .int (Mv 0), .int (Mv 1), .ref (Ma 2), .ref (Ma 3), .ref (Ma 4), .ref (Ma 5), .ref (Ma 6), .int (Mv 2), .int (Mv 3), .int (Mv 4), .int (Mv 5), .int (Mv 6), .int (Mv 7), .int (Mv 8), .ref (Ma 7), .int (Mv 9), .ref (Ma 8), .int (Mv 10), .ref (Ma 9), .ref (Ma 10), .int (Mv 11), .int (Mv 12), .int (Mv 13), .ref (Ma 11), .int (Mv 14), .ref (Ma 12), .ref (Ma 13), .ref (Ma 14), .ref (Ma 15), .ref (Ma 16), .long (Mj 0), .ref (Ma 17), .ref (Ma 18), .ref (Ma 19), .ref (Ma 20)])), ((Ma 10), .inl (tc 0, 126, .inl (Mf 10)))] H := hP₀
    replace hD : va_D A [((Ma 2), .inl (tc 0, 2400, .inl (Mf 2))), ((Ma 4), .inl (tc 0, 288, .inl (Mf 4))), ((Ma 5), .inl (tc 0, 6, .inl (Mf 5))), ((Ma 8), .inl (tc 1, 64, .inr (.inl (Mg 8)))), ((Ma 9), .inl (tc 1, 13, .inr (.inl g_18))), ((Ma 0), .inr (12, [.ref (Ma 1), .int (Mv 0), .int (Mv 1), .ref (Ma 2), .ref (Ma 3), .ref (Ma 4), .ref (Ma 5), .ref (Ma 6), .int (Mv 2), .int (Mv 3), .int (Mv 4), .int (Mv 5), .int (Mv 6), .int (Mv 7), .int (Mv 8), .ref (Ma 7), .int (Mv 9), .ref (Ma 8), .int (Mv 10), .ref (Ma 9), .ref (Ma 10), .int (Mv 11), .int (Mv 12), .int (Mv 13), .ref (Ma 11), .int (Mv 14), .ref (Ma 12), .ref (Ma 13), .ref (Ma 14), .ref (Ma 15), .ref (Ma 16), .long (Mj 0), .ref (Ma 17), .ref (Ma 18), .ref (Ma 19), .ref (Ma 20)])), ((Ma 10), .inl (tc 0, 126, .inl (Mf 10)))] := hD₀
    replace hS := hS₀
    clear hP₀ hD₀ hS₀
    refine lv_aload_n hx hb dX12_isWilling_58 rfl (lv_at hl 1 rfl) ?_
    refine gf_X12_36 hx hb hts hown hK hP 5 rfl rfl dX12_isWilling_59 ?_
    refine lv_iconst (v := 2) hx hb dX12_isWilling_62 (by decide) ?_
    refine lv_aload_n hx hb dX12_isWilling_63 rfl (lv_at hl 1 rfl) ?_
    refine gf_X12_39 hx hb hts hown hK hP 5 rfl rfl dX12_isWilling_64 ?_
    refine lv_bipush (v := 56) hx hb dX12_isWilling_67 (by decide) ?_
    refine lv_iload_n hx hb dX12_isWilling_69 rfl (lv_at hl 2 rfl) ?_
    refine lv_iadd hx hb dX12_isWilling_70 ?_
    refine lv_topi (fun x_19 ex_19 => ?_)
    have hi_20 : vp_in x_19 126 := by
      have z_1 := Int32.le_iff_toInt_le.mp c_10
      have y_0 : (0 : Int32).toInt = 0 := by decide
      have y_56 : (56 : Int32).toInt = 56 := by decide
      have t_x_19 : x_19.toInt = (56 : Int32).toInt + (x1 : Int32).toInt := by rw [ex_19]; exact add_toInt (by omega) (by omega)
      refine vp_in_iff.mpr ⟨?_, ?_⟩ <;> omega
    refine va_iald hx hb hK hP 6 0 rfl rfl hi_20 dX12_isWilling_71 ?_
    refine lv_topi (fun x_21 ex_21 => ?_)
    refine lv_i2l (v := (x_21).toInt64) hx hb dX12_isWilling_72 rfl ?_
    refine st_long hx hb hK hP hD hS 4 1 rfl rfl (vin_dec (by decide +kernel)) dX12_isWilling_73 (fun g_22 H locs eg_22 hP₀ hD₀ hS₀ => ?_)
    replace hP : va_P D classes [((Ma 2), .inl (tc 0, 2400, .inl (Mf 2))), ((Ma 4), .inl (tc 0, 288, .inl (Mf 4))), ((Ma 5), .inl (tc 0, 6, .inl (Mf 5))), ((Ma 8), .inl (tc 1, 64, .inr (.inl (Mg 8)))), ((Ma 9), .inl (tc 1, 13, .inr (.inl g_22))), ((Ma 0), .inr (12, [.ref (Ma 1), .int (Mv 0), .int (Mv 1), .ref (Ma 2), .ref (Ma 3), .ref (Ma 4), .ref (Ma 5), .ref (Ma 6), .int (Mv 2), .int (Mv 3), .int (Mv 4), .int (Mv 5), .int (Mv 6), .int (Mv 7), .int (Mv 8), .ref (Ma 7), .int (Mv 9), .ref (Ma 8), .int (Mv 10), .ref (Ma 9), .ref (Ma 10), .int (Mv 11), .int (Mv 12), .int (Mv 13), .ref (Ma 11), .int (Mv 14), .ref (Ma 12), .ref (Ma 13), .ref (Ma 14), .ref (Ma 15), .ref (Ma 16), .long (Mj 0), .ref (Ma 17), .ref (Ma 18), .ref (Ma 19), .ref (Ma 20)])), ((Ma 10), .inl (tc 0, 126, .inl (Mf 10)))] H := hP₀
    replace hD : va_D A [((Ma 2), .inl (tc 0, 2400, .inl (Mf 2))), ((Ma 4), .inl (tc 0, 288, .inl (Mf 4))), ((Ma 5), .inl (tc 0, 6, .inl (Mf 5))), ((Ma 8), .inl (tc 1, 64, .inr (.inl (Mg 8)))), ((Ma 9), .inl (tc 1, 13, .inr (.inl g_22))), ((Ma 0), .inr (12, [.ref (Ma 1), .int (Mv 0), .int (Mv 1), .ref (Ma 2), .ref (Ma 3), .ref (Ma 4), .ref (Ma 5), .ref (Ma 6), .int (Mv 2), .int (Mv 3), .int (Mv 4), .int (Mv 5), .int (Mv 6), .int (Mv 7), .int (Mv 8), .ref (Ma 7), .int (Mv 9), .ref (Ma 8), .int (Mv 10), .ref (Ma 9), .ref (Ma 10), .int (Mv 11), .int (Mv 12), .int (Mv 13), .ref (Ma 11), .int (Mv 14), .ref (Ma 12), .ref (Ma 13), .ref (Ma 14), .ref (Ma 15), .ref (Ma 16), .long (Mj 0), .ref (Ma 17), .ref (Ma 18), .ref (Ma 19), .ref (Ma 20)])), ((Ma 10), .inl (tc 0, 126, .inl (Mf 10)))] := hD₀
    replace hS := hS₀
    clear hP₀ hD₀ hS₀
    refine lv_aload_n hx hb dX12_isWilling_74 rfl (lv_at hl 1 rfl) ?_
    refine gf_X12_36 hx hb hts hown hK hP 5 rfl rfl dX12_isWilling_75 ?_
    refine lv_iconst (v := 3) hx hb dX12_isWilling_78 (by decide) ?_
    refine lv_aload_n hx hb dX12_isWilling_79 rfl (lv_at hl 1 rfl) ?_
    refine gf_X12_39 hx hb hts hown hK hP 5 rfl rfl dX12_isWilling_80 ?_
    refine lv_bipush (v := 62) hx hb dX12_isWilling_83 (by decide) ?_
    refine lv_iload_n hx hb dX12_isWilling_85 rfl (lv_at hl 2 rfl) ?_
    refine lv_iadd hx hb dX12_isWilling_86 ?_
    refine lv_topi (fun x_23 ex_23 => ?_)
    have hi_24 : vp_in x_23 126 := by
      have z_1 := Int32.le_iff_toInt_le.mp c_10
      have y_0 : (0 : Int32).toInt = 0 := by decide
      have y_62 : (62 : Int32).toInt = 62 := by decide
      have t_x_23 : x_23.toInt = (62 : Int32).toInt + (x1 : Int32).toInt := by rw [ex_23]; exact add_toInt (by omega) (by omega)
      refine vp_in_iff.mpr ⟨?_, ?_⟩ <;> omega
    refine va_iald hx hb hK hP 6 0 rfl rfl hi_24 dX12_isWilling_87 ?_
    refine lv_topi (fun x_25 ex_25 => ?_)
    refine lv_i2l (v := (x_25).toInt64) hx hb dX12_isWilling_88 rfl ?_
    refine st_long hx hb hK hP hD hS 4 1 rfl rfl (vin_dec (by decide +kernel)) dX12_isWilling_89 (fun g_26 H locs eg_26 hP₀ hD₀ hS₀ => ?_)
    replace hP : va_P D classes [((Ma 2), .inl (tc 0, 2400, .inl (Mf 2))), ((Ma 4), .inl (tc 0, 288, .inl (Mf 4))), ((Ma 5), .inl (tc 0, 6, .inl (Mf 5))), ((Ma 8), .inl (tc 1, 64, .inr (.inl (Mg 8)))), ((Ma 9), .inl (tc 1, 13, .inr (.inl g_26))), ((Ma 0), .inr (12, [.ref (Ma 1), .int (Mv 0), .int (Mv 1), .ref (Ma 2), .ref (Ma 3), .ref (Ma 4), .ref (Ma 5), .ref (Ma 6), .int (Mv 2), .int (Mv 3), .int (Mv 4), .int (Mv 5), .int (Mv 6), .int (Mv 7), .int (Mv 8), .ref (Ma 7), .int (Mv 9), .ref (Ma 8), .int (Mv 10), .ref (Ma 9), .ref (Ma 10), .int (Mv 11), .int (Mv 12), .int (Mv 13), .ref (Ma 11), .int (Mv 14), .ref (Ma 12), .ref (Ma 13), .ref (Ma 14), .ref (Ma 15), .ref (Ma 16), .long (Mj 0), .ref (Ma 17), .ref (Ma 18), .ref (Ma 19), .ref (Ma 20)])), ((Ma 10), .inl (tc 0, 126, .inl (Mf 10)))] H := hP₀
    replace hD : va_D A [((Ma 2), .inl (tc 0, 2400, .inl (Mf 2))), ((Ma 4), .inl (tc 0, 288, .inl (Mf 4))), ((Ma 5), .inl (tc 0, 6, .inl (Mf 5))), ((Ma 8), .inl (tc 1, 64, .inr (.inl (Mg 8)))), ((Ma 9), .inl (tc 1, 13, .inr (.inl g_26))), ((Ma 0), .inr (12, [.ref (Ma 1), .int (Mv 0), .int (Mv 1), .ref (Ma 2), .ref (Ma 3), .ref (Ma 4), .ref (Ma 5), .ref (Ma 6), .int (Mv 2), .int (Mv 3), .int (Mv 4), .int (Mv 5), .int (Mv 6), .int (Mv 7), .int (Mv 8), .ref (Ma 7), .int (Mv 9), .ref (Ma 8), .int (Mv 10), .ref (Ma 9), .ref (Ma 10), .int (Mv 11), .int (Mv 12), .int (Mv 13), .ref (Ma 11), .int (Mv 14), .ref (Ma 12), .ref (Ma 13), .ref (Ma 14), .ref (Ma 15), .ref (Ma 16), .long (Mj 0), .ref (Ma 17), .ref (Ma 18), .ref (Ma 19), .ref (Ma 20)])), ((Ma 10), .inl (tc 0, 126, .inl (Mf 10)))] := hD₀
    replace hS := hS₀
    clear hP₀ hD₀ hS₀
    refine lv_aload_n hx hb dX12_isWilling_90 rfl (lv_at hl 1 rfl) ?_
    refine gf_X12_36 hx hb hts hown hK hP 5 rfl rfl dX12_isWilling_91 ?_
    refine lv_iconst (v := 4) hx hb dX12_isWilling_94 (by decide) ?_
    refine lv_iload_n hx hb dX12_isWilling_95 rfl (lv_at hl 0 rfl) ?_
    refine lv_i2l (v := (x_9).toInt64) hx hb dX12_isWilling_96 rfl ?_
    refine st_long hx hb hK hP hD hS 4 1 rfl rfl (vin_dec (by decide +kernel)) dX12_isWilling_97 (fun g_27 H locs eg_27 hP₀ hD₀ hS₀ => ?_)
    replace hP : va_P D classes [((Ma 2), .inl (tc 0, 2400, .inl (Mf 2))), ((Ma 4), .inl (tc 0, 288, .inl (Mf 4))), ((Ma 5), .inl (tc 0, 6, .inl (Mf 5))), ((Ma 8), .inl (tc 1, 64, .inr (.inl (Mg 8)))), ((Ma 9), .inl (tc 1, 13, .inr (.inl g_27))), ((Ma 0), .inr (12, [.ref (Ma 1), .int (Mv 0), .int (Mv 1), .ref (Ma 2), .ref (Ma 3), .ref (Ma 4), .ref (Ma 5), .ref (Ma 6), .int (Mv 2), .int (Mv 3), .int (Mv 4), .int (Mv 5), .int (Mv 6), .int (Mv 7), .int (Mv 8), .ref (Ma 7), .int (Mv 9), .ref (Ma 8), .int (Mv 10), .ref (Ma 9), .ref (Ma 10), .int (Mv 11), .int (Mv 12), .int (Mv 13), .ref (Ma 11), .int (Mv 14), .ref (Ma 12), .ref (Ma 13), .ref (Ma 14), .ref (Ma 15), .ref (Ma 16), .long (Mj 0), .ref (Ma 17), .ref (Ma 18), .ref (Ma 19), .ref (Ma 20)])), ((Ma 10), .inl (tc 0, 126, .inl (Mf 10)))] H := hP₀
    replace hD : va_D A [((Ma 2), .inl (tc 0, 2400, .inl (Mf 2))), ((Ma 4), .inl (tc 0, 288, .inl (Mf 4))), ((Ma 5), .inl (tc 0, 6, .inl (Mf 5))), ((Ma 8), .inl (tc 1, 64, .inr (.inl (Mg 8)))), ((Ma 9), .inl (tc 1, 13, .inr (.inl g_27))), ((Ma 0), .inr (12, [.ref (Ma 1), .int (Mv 0), .int (Mv 1), .ref (Ma 2), .ref (Ma 3), .ref (Ma 4), .ref (Ma 5), .ref (Ma 6), .int (Mv 2), .int (Mv 3), .int (Mv 4), .int (Mv 5), .int (Mv 6), .int (Mv 7), .int (Mv 8), .ref (Ma 7), .int (Mv 9), .ref (Ma 8), .int (Mv 10), .ref (Ma 9), .ref (Ma 10), .int (Mv 11), .int (Mv 12), .int (Mv 13), .ref (Ma 11), .int (Mv 14), .ref (Ma 12), .ref (Ma 13), .ref (Ma 14), .ref (Ma 15), .ref (Ma 16), .long (Mj 0), .ref (Ma 17), .ref (Ma 18), .ref (Ma 19), .ref (Ma 20)])), ((Ma 10), .inl (tc 0, 126, .inl (Mf 10)))] := hD₀
    replace hS := hS₀
    clear hP₀ hD₀ hS₀
    refine lv_aload_n hx hb dX12_isWilling_98 rfl (lv_at hl 1 rfl) ?_
    refine gf_X12_36 hx hb hts hown hK hP 5 rfl rfl dX12_isWilling_99 ?_
    refine lv_iconst (v := 5) hx hb dX12_isWilling_102 (by decide) ?_
    refine lv_aload_n hx hb dX12_isWilling_103 rfl (lv_at hl 1 rfl) ?_
    refine gf_X12_39 hx hb hts hown hK hP 5 rfl rfl dX12_isWilling_104 ?_
    refine lv_bipush (v := 36) hx hb dX12_isWilling_107 (by decide) ?_
    refine lv_aload_n hx hb dX12_isWilling_109 rfl (lv_at hl 1 rfl) ?_
    refine gf_X12_39 hx hb hts hown hK hP 5 rfl rfl dX12_isWilling_110 ?_
    refine lv_bipush (v := 10) hx hb dX12_isWilling_113 (by decide) ?_
    refine va_iald hx hb hK hP 6 0 rfl rfl (vin_dec (by decide +kernel)) dX12_isWilling_115 ?_
    refine lv_topi (fun x_28 ex_28 => ?_)
    have lx_28 : x_28.toInt = ((Mf 10) 10).toInt := congrArg Int32.toInt ex_28
    refine lv_iconst (v := 1) hx hb dX12_isWilling_116 (by decide) ?_
    refine lv_iadd hx hb dX12_isWilling_117 ?_
    refine lv_topi (fun x_29 ex_29 => ?_)
    refine lv_aload_n hx hb dX12_isWilling_118 rfl (lv_at hl 1 rfl) ?_
    refine gf_X12_39 hx hb hts hown hK hP 5 rfl rfl dX12_isWilling_119 ?_
    refine lv_iconst (v := 2) hx hb dX12_isWilling_122 (by decide) ?_
    refine va_iald hx hb hK hP 6 0 rfl rfl (vin_dec (by decide +kernel)) dX12_isWilling_123 ?_
    refine lv_topi (fun x_30 ex_30 => ?_)
    have lx_30 : x_30.toInt = ((Mf 10) 2).toInt := congrArg Int32.toInt ex_30
    have hz_31 : ¬ x_30 = 0 := by
      intro z
      have zz : (x_30 : Int32).toInt = 0 := by rw [z]; decide
      have z_1 := Int32.le_iff_toInt_le.mp c_10
      have y_0 : (0 : Int32).toInt = 0 := by decide
      omega
    refine lv_irem hx hb dX12_isWilling_124 hz_31 ?_
    refine lv_topi (fun x_32 ex_32 => ?_)
    refine lv_iadd hx hb dX12_isWilling_125 ?_
    refine lv_topi (fun x_33 ex_33 => ?_)
    have hi_34 : vp_in x_33 126 := by
      have z_1 := Int32.le_iff_toInt_le.mp c_10
      have y_0 : (0 : Int32).toInt = 0 := by decide
      have y_1 : (1 : Int32).toInt = 1 := by decide
      have y_36 : (36 : Int32).toInt = 36 := by decide
      have t_x_29 : x_29.toInt = (x_28 : Int32).toInt + (1 : Int32).toInt := by rw [ex_29]; exact add_toInt (by omega) (by omega)
      have t_x_32 := rem_bounds (x := x_29) (y := x_30) (by omega)
      rw [← ex_32] at t_x_32
      have t_x_33 : x_33.toInt = (36 : Int32).toInt + (x_32 : Int32).toInt := by rw [ex_33]; exact add_toInt (by omega) (by omega)
      refine vp_in_iff.mpr ⟨?_, ?_⟩ <;> omega
    refine va_iald hx hb hK hP 6 0 rfl rfl hi_34 dX12_isWilling_126 ?_
    refine lv_topi (fun x_35 ex_35 => ?_)
    refine lv_i2l (v := (x_35).toInt64) hx hb dX12_isWilling_127 rfl ?_
    refine st_long hx hb hK hP hD hS 4 1 rfl rfl (vin_dec (by decide +kernel)) dX12_isWilling_128 (fun g_36 H locs eg_36 hP₀ hD₀ hS₀ => ?_)
    replace hP : va_P D classes [((Ma 2), .inl (tc 0, 2400, .inl (Mf 2))), ((Ma 4), .inl (tc 0, 288, .inl (Mf 4))), ((Ma 5), .inl (tc 0, 6, .inl (Mf 5))), ((Ma 8), .inl (tc 1, 64, .inr (.inl (Mg 8)))), ((Ma 9), .inl (tc 1, 13, .inr (.inl g_36))), ((Ma 0), .inr (12, [.ref (Ma 1), .int (Mv 0), .int (Mv 1), .ref (Ma 2), .ref (Ma 3), .ref (Ma 4), .ref (Ma 5), .ref (Ma 6), .int (Mv 2), .int (Mv 3), .int (Mv 4), .int (Mv 5), .int (Mv 6), .int (Mv 7), .int (Mv 8), .ref (Ma 7), .int (Mv 9), .ref (Ma 8), .int (Mv 10), .ref (Ma 9), .ref (Ma 10), .int (Mv 11), .int (Mv 12), .int (Mv 13), .ref (Ma 11), .int (Mv 14), .ref (Ma 12), .ref (Ma 13), .ref (Ma 14), .ref (Ma 15), .ref (Ma 16), .long (Mj 0), .ref (Ma 17), .ref (Ma 18), .ref (Ma 19), .ref (Ma 20)])), ((Ma 10), .inl (tc 0, 126, .inl (Mf 10)))] H := hP₀
    replace hD : va_D A [((Ma 2), .inl (tc 0, 2400, .inl (Mf 2))), ((Ma 4), .inl (tc 0, 288, .inl (Mf 4))), ((Ma 5), .inl (tc 0, 6, .inl (Mf 5))), ((Ma 8), .inl (tc 1, 64, .inr (.inl (Mg 8)))), ((Ma 9), .inl (tc 1, 13, .inr (.inl g_36))), ((Ma 0), .inr (12, [.ref (Ma 1), .int (Mv 0), .int (Mv 1), .ref (Ma 2), .ref (Ma 3), .ref (Ma 4), .ref (Ma 5), .ref (Ma 6), .int (Mv 2), .int (Mv 3), .int (Mv 4), .int (Mv 5), .int (Mv 6), .int (Mv 7), .int (Mv 8), .ref (Ma 7), .int (Mv 9), .ref (Ma 8), .int (Mv 10), .ref (Ma 9), .ref (Ma 10), .int (Mv 11), .int (Mv 12), .int (Mv 13), .ref (Ma 11), .int (Mv 14), .ref (Ma 12), .ref (Ma 13), .ref (Ma 14), .ref (Ma 15), .ref (Ma 16), .long (Mj 0), .ref (Ma 17), .ref (Ma 18), .ref (Ma 19), .ref (Ma 20)])), ((Ma 10), .inl (tc 0, 126, .inl (Mf 10)))] := hD₀
    replace hS := hS₀
    clear hP₀ hD₀ hS₀
    refine lv_aload_n hx hb dX12_isWilling_129 rfl (lv_at hl 1 rfl) ?_
    refine gf_X12_36 hx hb hts hown hK hP 5 rfl rfl dX12_isWilling_130 ?_
    refine lv_bipush (v := 6) hx hb dX12_isWilling_133 (by decide) ?_
    refine lv_aload_n hx hb dX12_isWilling_135 rfl (lv_at hl 1 rfl) ?_
    refine gf_X12_39 hx hb hts hown hK hP 5 rfl rfl dX12_isWilling_136 ?_
    refine lv_bipush (v := 11) hx hb dX12_isWilling_139 (by decide) ?_
    refine va_iald hx hb hK hP 6 0 rfl rfl (vin_dec (by decide +kernel)) dX12_isWilling_141 ?_
    refine lv_topi (fun x_37 ex_37 => ?_)
    have lx_37 : x_37.toInt = ((Mf 10) 11).toInt := congrArg Int32.toInt ex_37
    refine lv_i2l (v := (x_37).toInt64) hx hb dX12_isWilling_142 rfl ?_
    refine st_long hx hb hK hP hD hS 4 1 rfl rfl (vin_dec (by decide +kernel)) dX12_isWilling_143 (fun g_38 H locs eg_38 hP₀ hD₀ hS₀ => ?_)
    replace hP : va_P D classes [((Ma 2), .inl (tc 0, 2400, .inl (Mf 2))), ((Ma 4), .inl (tc 0, 288, .inl (Mf 4))), ((Ma 5), .inl (tc 0, 6, .inl (Mf 5))), ((Ma 8), .inl (tc 1, 64, .inr (.inl (Mg 8)))), ((Ma 9), .inl (tc 1, 13, .inr (.inl g_38))), ((Ma 0), .inr (12, [.ref (Ma 1), .int (Mv 0), .int (Mv 1), .ref (Ma 2), .ref (Ma 3), .ref (Ma 4), .ref (Ma 5), .ref (Ma 6), .int (Mv 2), .int (Mv 3), .int (Mv 4), .int (Mv 5), .int (Mv 6), .int (Mv 7), .int (Mv 8), .ref (Ma 7), .int (Mv 9), .ref (Ma 8), .int (Mv 10), .ref (Ma 9), .ref (Ma 10), .int (Mv 11), .int (Mv 12), .int (Mv 13), .ref (Ma 11), .int (Mv 14), .ref (Ma 12), .ref (Ma 13), .ref (Ma 14), .ref (Ma 15), .ref (Ma 16), .long (Mj 0), .ref (Ma 17), .ref (Ma 18), .ref (Ma 19), .ref (Ma 20)])), ((Ma 10), .inl (tc 0, 126, .inl (Mf 10)))] H := hP₀
    replace hD : va_D A [((Ma 2), .inl (tc 0, 2400, .inl (Mf 2))), ((Ma 4), .inl (tc 0, 288, .inl (Mf 4))), ((Ma 5), .inl (tc 0, 6, .inl (Mf 5))), ((Ma 8), .inl (tc 1, 64, .inr (.inl (Mg 8)))), ((Ma 9), .inl (tc 1, 13, .inr (.inl g_38))), ((Ma 0), .inr (12, [.ref (Ma 1), .int (Mv 0), .int (Mv 1), .ref (Ma 2), .ref (Ma 3), .ref (Ma 4), .ref (Ma 5), .ref (Ma 6), .int (Mv 2), .int (Mv 3), .int (Mv 4), .int (Mv 5), .int (Mv 6), .int (Mv 7), .int (Mv 8), .ref (Ma 7), .int (Mv 9), .ref (Ma 8), .int (Mv 10), .ref (Ma 9), .ref (Ma 10), .int (Mv 11), .int (Mv 12), .int (Mv 13), .ref (Ma 11), .int (Mv 14), .ref (Ma 12), .ref (Ma 13), .ref (Ma 14), .ref (Ma 15), .ref (Ma 16), .long (Mj 0), .ref (Ma 17), .ref (Ma 18), .ref (Ma 19), .ref (Ma 20)])), ((Ma 10), .inl (tc 0, 126, .inl (Mf 10)))] := hD₀
    replace hS := hS₀
    clear hP₀ hD₀ hS₀
    refine lv_aload_n hx hb dX12_isWilling_144 rfl (lv_at hl 1 rfl) ?_
    refine gf_X12_36 hx hb hts hown hK hP 5 rfl rfl dX12_isWilling_145 ?_
    refine lv_bipush (v := 7) hx hb dX12_isWilling_148 (by decide) ?_
    refine lv_aload_n hx hb dX12_isWilling_150 rfl (lv_at hl 1 rfl) ?_
    refine lv_iload_n hx hb dX12_isWilling_151 rfl (lv_at hl 2 rfl) ?_
    refine cV (a := (Ma 0)) (As := [.int x1]) (rest := [.int 7, .ref (Ma 9)]) (wr := [((Ma 2), .inl (tc 0, 2400, .inl (Mf 2))), ((Ma 4), .inl (tc 0, 288, .inl (Mf 4))), ((Ma 5), .inl (tc 0, 6, .inl (Mf 5))), ((Ma 8), .inl (tc 1, 64, .inr (.inl (Mg 8)))), ((Ma 9), .inl (tc 1, 13, .inr (.inl g_38)))]) ⟨hx, hb, hml, hown, hts⟩ hK hX hA (cu_X12_boughtBy l D tc sk (Ma 0) (Ma 1) (Ma 2) (Ma 3) (Ma 4) (Ma 5) (Ma 6) (Ma 7) (Ma 8) (Ma 9) (Ma 10) (Ma 11) (Ma 12) (Ma 13) (Ma 14) (Ma 15) (Ma 16) (Ma 17) (Ma 18) (Ma 19) (Ma 20) (Mv 0) (Mv 1) (Mv 2) (Mv 3) (Mv 4) (Mv 5) (Mv 6) (Mv 7) (Mv 8) (Mv 9) (Mv 10) (Mv 11) (Mv 12) (Mv 13) (Mv 14) (Mf 10) (Mj 0) x1 h_b) k_1383 k_1380 k_1382 k_60 k_106 pl_X12_boughtBy ⟨Nat.le_of_ble_eq_true rfl, Nat.le_of_ble_eq_true rfl⟩ rfl rfl (va_recv hK hP (ci := 12) (q0 := 5) rfl rfl) hP hD hS [5, 6] [0, 1, 2, 3, 4] rfl rfl rfl rfl rfl (by decide) rfl hl.1 rfl (Nat.le_of_ble_eq_true rfl) dX12_isWilling_152 ⟨Nat.le_of_ble_eq_true rfl, Nat.le_of_ble_eq_true rfl⟩ (fun v_39 u_40 H locs hv_41 hP₀ hD₀ hS₀ => ?_)
    obtain ⟨r_42, rfl, he_43⟩ := hv_41
    refine W.eq (g2 := F0 m 155 ls [.int r_42, .int 7, .ref (Ma 9)]) rfl ?_
    replace hP : va_P D classes [((Ma 2), .inl (tc 0, 2400, .inl (Mf 2))), ((Ma 4), .inl (tc 0, 288, .inl (Mf 4))), ((Ma 5), .inl (tc 0, 6, .inl (Mf 5))), ((Ma 8), .inl (tc 1, 64, .inr (.inl (Mg 8)))), ((Ma 9), .inl (tc 1, 13, .inr (.inl g_38))), ((Ma 0), .inr (12, [.ref (Ma 1), .int (Mv 0), .int (Mv 1), .ref (Ma 2), .ref (Ma 3), .ref (Ma 4), .ref (Ma 5), .ref (Ma 6), .int (Mv 2), .int (Mv 3), .int (Mv 4), .int (Mv 5), .int (Mv 6), .int (Mv 7), .int (Mv 8), .ref (Ma 7), .int (Mv 9), .ref (Ma 8), .int (Mv 10), .ref (Ma 9), .ref (Ma 10), .int (Mv 11), .int (Mv 12), .int (Mv 13), .ref (Ma 11), .int (Mv 14), .ref (Ma 12), .ref (Ma 13), .ref (Ma 14), .ref (Ma 15), .ref (Ma 16), .long (Mj 0), .ref (Ma 17), .ref (Ma 18), .ref (Ma 19), .ref (Ma 20)])), ((Ma 10), .inl (tc 0, 126, .inl (Mf 10)))] H := hP₀
    replace hD : va_D A [((Ma 2), .inl (tc 0, 2400, .inl (Mf 2))), ((Ma 4), .inl (tc 0, 288, .inl (Mf 4))), ((Ma 5), .inl (tc 0, 6, .inl (Mf 5))), ((Ma 8), .inl (tc 1, 64, .inr (.inl (Mg 8)))), ((Ma 9), .inl (tc 1, 13, .inr (.inl g_38))), ((Ma 0), .inr (12, [.ref (Ma 1), .int (Mv 0), .int (Mv 1), .ref (Ma 2), .ref (Ma 3), .ref (Ma 4), .ref (Ma 5), .ref (Ma 6), .int (Mv 2), .int (Mv 3), .int (Mv 4), .int (Mv 5), .int (Mv 6), .int (Mv 7), .int (Mv 8), .ref (Ma 7), .int (Mv 9), .ref (Ma 8), .int (Mv 10), .ref (Ma 9), .ref (Ma 10), .int (Mv 11), .int (Mv 12), .int (Mv 13), .ref (Ma 11), .int (Mv 14), .ref (Ma 12), .ref (Ma 13), .ref (Ma 14), .ref (Ma 15), .ref (Ma 16), .long (Mj 0), .ref (Ma 17), .ref (Ma 18), .ref (Ma 19), .ref (Ma 20)])), ((Ma 10), .inl (tc 0, 126, .inl (Mf 10)))] := hD₀
    replace hS := hS₀
    clear hP₀ hD₀ hS₀
    refine lv_i2l (v := (r_42).toInt64) hx hb dX12_isWilling_155 rfl ?_
    refine st_long hx hb hK hP hD hS 4 1 rfl rfl (vin_dec (by decide +kernel)) dX12_isWilling_156 (fun g_45 H locs eg_45 hP₀ hD₀ hS₀ => ?_)
    replace hP : va_P D classes [((Ma 2), .inl (tc 0, 2400, .inl (Mf 2))), ((Ma 4), .inl (tc 0, 288, .inl (Mf 4))), ((Ma 5), .inl (tc 0, 6, .inl (Mf 5))), ((Ma 8), .inl (tc 1, 64, .inr (.inl (Mg 8)))), ((Ma 9), .inl (tc 1, 13, .inr (.inl g_45))), ((Ma 0), .inr (12, [.ref (Ma 1), .int (Mv 0), .int (Mv 1), .ref (Ma 2), .ref (Ma 3), .ref (Ma 4), .ref (Ma 5), .ref (Ma 6), .int (Mv 2), .int (Mv 3), .int (Mv 4), .int (Mv 5), .int (Mv 6), .int (Mv 7), .int (Mv 8), .ref (Ma 7), .int (Mv 9), .ref (Ma 8), .int (Mv 10), .ref (Ma 9), .ref (Ma 10), .int (Mv 11), .int (Mv 12), .int (Mv 13), .ref (Ma 11), .int (Mv 14), .ref (Ma 12), .ref (Ma 13), .ref (Ma 14), .ref (Ma 15), .ref (Ma 16), .long (Mj 0), .ref (Ma 17), .ref (Ma 18), .ref (Ma 19), .ref (Ma 20)])), ((Ma 10), .inl (tc 0, 126, .inl (Mf 10)))] H := hP₀
    replace hD : va_D A [((Ma 2), .inl (tc 0, 2400, .inl (Mf 2))), ((Ma 4), .inl (tc 0, 288, .inl (Mf 4))), ((Ma 5), .inl (tc 0, 6, .inl (Mf 5))), ((Ma 8), .inl (tc 1, 64, .inr (.inl (Mg 8)))), ((Ma 9), .inl (tc 1, 13, .inr (.inl g_45))), ((Ma 0), .inr (12, [.ref (Ma 1), .int (Mv 0), .int (Mv 1), .ref (Ma 2), .ref (Ma 3), .ref (Ma 4), .ref (Ma 5), .ref (Ma 6), .int (Mv 2), .int (Mv 3), .int (Mv 4), .int (Mv 5), .int (Mv 6), .int (Mv 7), .int (Mv 8), .ref (Ma 7), .int (Mv 9), .ref (Ma 8), .int (Mv 10), .ref (Ma 9), .ref (Ma 10), .int (Mv 11), .int (Mv 12), .int (Mv 13), .ref (Ma 11), .int (Mv 14), .ref (Ma 12), .ref (Ma 13), .ref (Ma 14), .ref (Ma 15), .ref (Ma 16), .long (Mj 0), .ref (Ma 17), .ref (Ma 18), .ref (Ma 19), .ref (Ma 20)])), ((Ma 10), .inl (tc 0, 126, .inl (Mf 10)))] := hD₀
    replace hS := hS₀
    clear hP₀ hD₀ hS₀
    refine lv_aload_n hx hb dX12_isWilling_157 rfl (lv_at hl 1 rfl) ?_
    refine gf_X12_36 hx hb hts hown hK hP 5 rfl rfl dX12_isWilling_158 ?_
    refine lv_bipush (v := 8) hx hb dX12_isWilling_161 (by decide) ?_
    refine lv_aload_n hx hb dX12_isWilling_163 rfl (lv_at hl 1 rfl) ?_
    refine lv_iload_n hx hb dX12_isWilling_164 rfl (lv_at hl 2 rfl) ?_
    refine cV (a := (Ma 0)) (As := [.int x1]) (rest := [.int 8, .ref (Ma 9)]) (wr := [((Ma 2), .inl (tc 0, 2400, .inl (Mf 2))), ((Ma 4), .inl (tc 0, 288, .inl (Mf 4))), ((Ma 5), .inl (tc 0, 6, .inl (Mf 5))), ((Ma 8), .inl (tc 1, 64, .inr (.inl (Mg 8)))), ((Ma 9), .inl (tc 1, 13, .inr (.inl g_45)))]) ⟨hx, hb, hml, hown, hts⟩ hK hX hA (cu_X12_metOf l D tc sk (Ma 0) (Ma 1) (Ma 2) (Ma 3) (Ma 4) (Ma 5) (Ma 6) (Ma 7) (Ma 8) (Ma 9) (Ma 10) (Ma 11) (Ma 12) (Ma 13) (Ma 14) (Ma 15) (Ma 16) (Ma 17) (Ma 18) (Ma 19) (Ma 20) (Mv 0) (Mv 1) (Mv 2) (Mv 3) (Mv 4) (Mv 5) (Mv 6) (Mv 7) (Mv 8) (Mv 9) (Mv 10) (Mv 11) (Mv 12) (Mv 13) (Mv 14) (Mf 10) (Mj 0) x1 h_b) k_1387 k_1384 k_1386 k_61 k_106 pl_X12_metOf ⟨Nat.le_of_ble_eq_true rfl, Nat.le_of_ble_eq_true rfl⟩ rfl rfl (va_recv hK hP (ci := 12) (q0 := 5) rfl rfl) hP hD hS [5, 6] [0, 1, 2, 3, 4] rfl rfl rfl rfl rfl (by decide) rfl hl.1 rfl (Nat.le_of_ble_eq_true rfl) dX12_isWilling_165 ⟨Nat.le_of_ble_eq_true rfl, Nat.le_of_ble_eq_true rfl⟩ (fun v_46 u_47 H locs hv_48 hP₀ hD₀ hS₀ => ?_)
    obtain ⟨r_49, rfl, he_50⟩ := hv_48
    refine W.eq (g2 := F0 m 168 ls [.int r_49, .int 8, .ref (Ma 9)]) rfl ?_
    replace hP : va_P D classes [((Ma 2), .inl (tc 0, 2400, .inl (Mf 2))), ((Ma 4), .inl (tc 0, 288, .inl (Mf 4))), ((Ma 5), .inl (tc 0, 6, .inl (Mf 5))), ((Ma 8), .inl (tc 1, 64, .inr (.inl (Mg 8)))), ((Ma 9), .inl (tc 1, 13, .inr (.inl g_45))), ((Ma 0), .inr (12, [.ref (Ma 1), .int (Mv 0), .int (Mv 1), .ref (Ma 2), .ref (Ma 3), .ref (Ma 4), .ref (Ma 5), .ref (Ma 6), .int (Mv 2), .int (Mv 3), .int (Mv 4), .int (Mv 5), .int (Mv 6), .int (Mv 7), .int (Mv 8), .ref (Ma 7), .int (Mv 9), .ref (Ma 8), .int (Mv 10), .ref (Ma 9), .ref (Ma 10), .int (Mv 11), .int (Mv 12), .int (Mv 13), .ref (Ma 11), .int (Mv 14), .ref (Ma 12), .ref (Ma 13), .ref (Ma 14), .ref (Ma 15), .ref (Ma 16), .long (Mj 0), .ref (Ma 17), .ref (Ma 18), .ref (Ma 19), .ref (Ma 20)])), ((Ma 10), .inl (tc 0, 126, .inl (Mf 10)))] H := hP₀
    replace hD : va_D A [((Ma 2), .inl (tc 0, 2400, .inl (Mf 2))), ((Ma 4), .inl (tc 0, 288, .inl (Mf 4))), ((Ma 5), .inl (tc 0, 6, .inl (Mf 5))), ((Ma 8), .inl (tc 1, 64, .inr (.inl (Mg 8)))), ((Ma 9), .inl (tc 1, 13, .inr (.inl g_45))), ((Ma 0), .inr (12, [.ref (Ma 1), .int (Mv 0), .int (Mv 1), .ref (Ma 2), .ref (Ma 3), .ref (Ma 4), .ref (Ma 5), .ref (Ma 6), .int (Mv 2), .int (Mv 3), .int (Mv 4), .int (Mv 5), .int (Mv 6), .int (Mv 7), .int (Mv 8), .ref (Ma 7), .int (Mv 9), .ref (Ma 8), .int (Mv 10), .ref (Ma 9), .ref (Ma 10), .int (Mv 11), .int (Mv 12), .int (Mv 13), .ref (Ma 11), .int (Mv 14), .ref (Ma 12), .ref (Ma 13), .ref (Ma 14), .ref (Ma 15), .ref (Ma 16), .long (Mj 0), .ref (Ma 17), .ref (Ma 18), .ref (Ma 19), .ref (Ma 20)])), ((Ma 10), .inl (tc 0, 126, .inl (Mf 10)))] := hD₀
    replace hS := hS₀
    clear hP₀ hD₀ hS₀
    refine lv_i2l (v := (r_49).toInt64) hx hb dX12_isWilling_168 rfl ?_
    refine st_long hx hb hK hP hD hS 4 1 rfl rfl (vin_dec (by decide +kernel)) dX12_isWilling_169 (fun g_52 H locs eg_52 hP₀ hD₀ hS₀ => ?_)
    replace hP : va_P D classes [((Ma 2), .inl (tc 0, 2400, .inl (Mf 2))), ((Ma 4), .inl (tc 0, 288, .inl (Mf 4))), ((Ma 5), .inl (tc 0, 6, .inl (Mf 5))), ((Ma 8), .inl (tc 1, 64, .inr (.inl (Mg 8)))), ((Ma 9), .inl (tc 1, 13, .inr (.inl g_52))), ((Ma 0), .inr (12, [.ref (Ma 1), .int (Mv 0), .int (Mv 1), .ref (Ma 2), .ref (Ma 3), .ref (Ma 4), .ref (Ma 5), .ref (Ma 6), .int (Mv 2), .int (Mv 3), .int (Mv 4), .int (Mv 5), .int (Mv 6), .int (Mv 7), .int (Mv 8), .ref (Ma 7), .int (Mv 9), .ref (Ma 8), .int (Mv 10), .ref (Ma 9), .ref (Ma 10), .int (Mv 11), .int (Mv 12), .int (Mv 13), .ref (Ma 11), .int (Mv 14), .ref (Ma 12), .ref (Ma 13), .ref (Ma 14), .ref (Ma 15), .ref (Ma 16), .long (Mj 0), .ref (Ma 17), .ref (Ma 18), .ref (Ma 19), .ref (Ma 20)])), ((Ma 10), .inl (tc 0, 126, .inl (Mf 10)))] H := hP₀
    replace hD : va_D A [((Ma 2), .inl (tc 0, 2400, .inl (Mf 2))), ((Ma 4), .inl (tc 0, 288, .inl (Mf 4))), ((Ma 5), .inl (tc 0, 6, .inl (Mf 5))), ((Ma 8), .inl (tc 1, 64, .inr (.inl (Mg 8)))), ((Ma 9), .inl (tc 1, 13, .inr (.inl g_52))), ((Ma 0), .inr (12, [.ref (Ma 1), .int (Mv 0), .int (Mv 1), .ref (Ma 2), .ref (Ma 3), .ref (Ma 4), .ref (Ma 5), .ref (Ma 6), .int (Mv 2), .int (Mv 3), .int (Mv 4), .int (Mv 5), .int (Mv 6), .int (Mv 7), .int (Mv 8), .ref (Ma 7), .int (Mv 9), .ref (Ma 8), .int (Mv 10), .ref (Ma 9), .ref (Ma 10), .int (Mv 11), .int (Mv 12), .int (Mv 13), .ref (Ma 11), .int (Mv 14), .ref (Ma 12), .ref (Ma 13), .ref (Ma 14), .ref (Ma 15), .ref (Ma 16), .long (Mj 0), .ref (Ma 17), .ref (Ma 18), .ref (Ma 19), .ref (Ma 20)])), ((Ma 10), .inl (tc 0, 126, .inl (Mf 10)))] := hD₀
    replace hS := hS₀
    clear hP₀ hD₀ hS₀
    refine lv_aload_n hx hb dX12_isWilling_170 rfl (lv_at hl 1 rfl) ?_
    refine gf_X12_36 hx hb hts hown hK hP 5 rfl rfl dX12_isWilling_171 ?_
    refine lv_bipush (v := 9) hx hb dX12_isWilling_174 (by decide) ?_
    refine lv_aload_n hx hb dX12_isWilling_176 rfl (lv_at hl 1 rfl) ?_
    refine lv_iload_n hx hb dX12_isWilling_177 rfl (lv_at hl 2 rfl) ?_
    refine cV (a := (Ma 0)) (As := [.int x1]) (rest := [.int 9, .ref (Ma 9)]) (wr := [((Ma 2), .inl (tc 0, 2400, .inl (Mf 2))), ((Ma 4), .inl (tc 0, 288, .inl (Mf 4))), ((Ma 5), .inl (tc 0, 6, .inl (Mf 5))), ((Ma 8), .inl (tc 1, 64, .inr (.inl (Mg 8)))), ((Ma 9), .inl (tc 1, 13, .inr (.inl g_52)))]) ⟨hx, hb, hml, hown, hts⟩ hK hX hA (cu_X12_sinceOf l D tc sk (Ma 0) (Ma 1) (Ma 2) (Ma 3) (Ma 4) (Ma 5) (Ma 6) (Ma 7) (Ma 8) (Ma 9) (Ma 10) (Ma 11) (Ma 12) (Ma 13) (Ma 14) (Ma 15) (Ma 16) (Ma 17) (Ma 18) (Ma 19) (Ma 20) (Mv 0) (Mv 1) (Mv 2) (Mv 3) (Mv 4) (Mv 5) (Mv 6) (Mv 7) (Mv 8) (Mv 9) (Mv 10) (Mv 11) (Mv 12) (Mv 13) (Mv 14) (Mf 10) (Mj 0) x1 h_b) k_1391 k_1388 k_1390 k_62 k_106 pl_X12_sinceOf ⟨Nat.le_of_ble_eq_true rfl, Nat.le_of_ble_eq_true rfl⟩ rfl rfl (va_recv hK hP (ci := 12) (q0 := 5) rfl rfl) hP hD hS [5, 6] [0, 1, 2, 3, 4] rfl rfl rfl rfl rfl (by decide) rfl hl.1 rfl (Nat.le_of_ble_eq_true rfl) dX12_isWilling_178 ⟨Nat.le_of_ble_eq_true rfl, Nat.le_of_ble_eq_true rfl⟩ (fun v_53 u_54 H locs hv_55 hP₀ hD₀ hS₀ => ?_)
    obtain ⟨r_56, rfl, he_57⟩ := hv_55
    refine W.eq (g2 := F0 m 181 ls [.int r_56, .int 9, .ref (Ma 9)]) rfl ?_
    replace hP : va_P D classes [((Ma 2), .inl (tc 0, 2400, .inl (Mf 2))), ((Ma 4), .inl (tc 0, 288, .inl (Mf 4))), ((Ma 5), .inl (tc 0, 6, .inl (Mf 5))), ((Ma 8), .inl (tc 1, 64, .inr (.inl (Mg 8)))), ((Ma 9), .inl (tc 1, 13, .inr (.inl g_52))), ((Ma 0), .inr (12, [.ref (Ma 1), .int (Mv 0), .int (Mv 1), .ref (Ma 2), .ref (Ma 3), .ref (Ma 4), .ref (Ma 5), .ref (Ma 6), .int (Mv 2), .int (Mv 3), .int (Mv 4), .int (Mv 5), .int (Mv 6), .int (Mv 7), .int (Mv 8), .ref (Ma 7), .int (Mv 9), .ref (Ma 8), .int (Mv 10), .ref (Ma 9), .ref (Ma 10), .int (Mv 11), .int (Mv 12), .int (Mv 13), .ref (Ma 11), .int (Mv 14), .ref (Ma 12), .ref (Ma 13), .ref (Ma 14), .ref (Ma 15), .ref (Ma 16), .long (Mj 0), .ref (Ma 17), .ref (Ma 18), .ref (Ma 19), .ref (Ma 20)])), ((Ma 10), .inl (tc 0, 126, .inl (Mf 10)))] H := hP₀
    replace hD : va_D A [((Ma 2), .inl (tc 0, 2400, .inl (Mf 2))), ((Ma 4), .inl (tc 0, 288, .inl (Mf 4))), ((Ma 5), .inl (tc 0, 6, .inl (Mf 5))), ((Ma 8), .inl (tc 1, 64, .inr (.inl (Mg 8)))), ((Ma 9), .inl (tc 1, 13, .inr (.inl g_52))), ((Ma 0), .inr (12, [.ref (Ma 1), .int (Mv 0), .int (Mv 1), .ref (Ma 2), .ref (Ma 3), .ref (Ma 4), .ref (Ma 5), .ref (Ma 6), .int (Mv 2), .int (Mv 3), .int (Mv 4), .int (Mv 5), .int (Mv 6), .int (Mv 7), .int (Mv 8), .ref (Ma 7), .int (Mv 9), .ref (Ma 8), .int (Mv 10), .ref (Ma 9), .ref (Ma 10), .int (Mv 11), .int (Mv 12), .int (Mv 13), .ref (Ma 11), .int (Mv 14), .ref (Ma 12), .ref (Ma 13), .ref (Ma 14), .ref (Ma 15), .ref (Ma 16), .long (Mj 0), .ref (Ma 17), .ref (Ma 18), .ref (Ma 19), .ref (Ma 20)])), ((Ma 10), .inl (tc 0, 126, .inl (Mf 10)))] := hD₀
    replace hS := hS₀
    clear hP₀ hD₀ hS₀
    refine lv_i2l (v := (r_56).toInt64) hx hb dX12_isWilling_181 rfl ?_
    refine st_long hx hb hK hP hD hS 4 1 rfl rfl (vin_dec (by decide +kernel)) dX12_isWilling_182 (fun g_59 H locs eg_59 hP₀ hD₀ hS₀ => ?_)
    replace hP : va_P D classes [((Ma 2), .inl (tc 0, 2400, .inl (Mf 2))), ((Ma 4), .inl (tc 0, 288, .inl (Mf 4))), ((Ma 5), .inl (tc 0, 6, .inl (Mf 5))), ((Ma 8), .inl (tc 1, 64, .inr (.inl (Mg 8)))), ((Ma 9), .inl (tc 1, 13, .inr (.inl g_59))), ((Ma 0), .inr (12, [.ref (Ma 1), .int (Mv 0), .int (Mv 1), .ref (Ma 2), .ref (Ma 3), .ref (Ma 4), .ref (Ma 5), .ref (Ma 6), .int (Mv 2), .int (Mv 3), .int (Mv 4), .int (Mv 5), .int (Mv 6), .int (Mv 7), .int (Mv 8), .ref (Ma 7), .int (Mv 9), .ref (Ma 8), .int (Mv 10), .ref (Ma 9), .ref (Ma 10), .int (Mv 11), .int (Mv 12), .int (Mv 13), .ref (Ma 11), .int (Mv 14), .ref (Ma 12), .ref (Ma 13), .ref (Ma 14), .ref (Ma 15), .ref (Ma 16), .long (Mj 0), .ref (Ma 17), .ref (Ma 18), .ref (Ma 19), .ref (Ma 20)])), ((Ma 10), .inl (tc 0, 126, .inl (Mf 10)))] H := hP₀
    replace hD : va_D A [((Ma 2), .inl (tc 0, 2400, .inl (Mf 2))), ((Ma 4), .inl (tc 0, 288, .inl (Mf 4))), ((Ma 5), .inl (tc 0, 6, .inl (Mf 5))), ((Ma 8), .inl (tc 1, 64, .inr (.inl (Mg 8)))), ((Ma 9), .inl (tc 1, 13, .inr (.inl g_59))), ((Ma 0), .inr (12, [.ref (Ma 1), .int (Mv 0), .int (Mv 1), .ref (Ma 2), .ref (Ma 3), .ref (Ma 4), .ref (Ma 5), .ref (Ma 6), .int (Mv 2), .int (Mv 3), .int (Mv 4), .int (Mv 5), .int (Mv 6), .int (Mv 7), .int (Mv 8), .ref (Ma 7), .int (Mv 9), .ref (Ma 8), .int (Mv 10), .ref (Ma 9), .ref (Ma 10), .int (Mv 11), .int (Mv 12), .int (Mv 13), .ref (Ma 11), .int (Mv 14), .ref (Ma 12), .ref (Ma 13), .ref (Ma 14), .ref (Ma 15), .ref (Ma 16), .long (Mj 0), .ref (Ma 17), .ref (Ma 18), .ref (Ma 19), .ref (Ma 20)])), ((Ma 10), .inl (tc 0, 126, .inl (Mf 10)))] := hD₀
    replace hS := hS₀
    clear hP₀ hD₀ hS₀
    refine lv_aload_n hx hb dX12_isWilling_183 rfl (lv_at hl 1 rfl) ?_
    refine gf_X12_36 hx hb hts hown hK hP 5 rfl rfl dX12_isWilling_184 ?_
    refine lv_bipush (v := 10) hx hb dX12_isWilling_187 (by decide) ?_
    refine lv_aload_n hx hb dX12_isWilling_189 rfl (lv_at hl 1 rfl) ?_
    refine cV (a := (Ma 0)) (As := []) (rest := [.int 10, .ref (Ma 9)]) (wr := [((Ma 2), .inl (tc 0, 2400, .inl (Mf 2))), ((Ma 4), .inl (tc 0, 288, .inl (Mf 4))), ((Ma 5), .inl (tc 0, 6, .inl (Mf 5))), ((Ma 8), .inl (tc 1, 64, .inr (.inl (Mg 8)))), ((Ma 9), .inl (tc 1, 13, .inr (.inl g_59)))]) ⟨hx, hb, hml, hown, hts⟩ hK hX hA (cu_X12_soldAll l D tc sk (Ma 0) (Ma 1) (Ma 2) (Ma 3) (Ma 4) (Ma 5) (Ma 6) (Ma 7) (Ma 8) (Ma 9) (Ma 10) (Ma 11) (Ma 12) (Ma 13) (Ma 14) (Ma 15) (Ma 16) (Ma 17) (Ma 18) (Ma 19) (Ma 20) (Mv 0) (Mv 1) (Mv 2) (Mv 3) (Mv 4) (Mv 5) (Mv 6) (Mv 7) (Mv 8) (Mv 9) (Mv 10) (Mv 11) (Mv 12) (Mv 13) (Mv 14) (Mf 10) (Mj 0) h_said.1) k_1439 k_1436 k_1438 k_71 k_106 pl_X12_soldAll ⟨Nat.le_of_ble_eq_true rfl, Nat.le_of_ble_eq_true rfl⟩ rfl rfl (va_recv hK hP (ci := 12) (q0 := 5) rfl rfl) hP hD hS [5, 6] [0, 1, 2, 3, 4] rfl rfl rfl rfl rfl (by decide) rfl hl.1 rfl (Nat.le_of_ble_eq_true rfl) dX12_isWilling_190 ⟨Nat.le_of_ble_eq_true rfl, Nat.le_of_ble_eq_true rfl⟩ (fun v_60 u_61 H locs hv_62 hP₀ hD₀ hS₀ => ?_)
    obtain ⟨r_63, rfl, he_64⟩ := hv_62
    refine W.eq (g2 := F0 m 193 ls [.int r_63, .int 10, .ref (Ma 9)]) rfl ?_
    replace hP : va_P D classes [((Ma 2), .inl (tc 0, 2400, .inl (Mf 2))), ((Ma 4), .inl (tc 0, 288, .inl (Mf 4))), ((Ma 5), .inl (tc 0, 6, .inl (Mf 5))), ((Ma 8), .inl (tc 1, 64, .inr (.inl (Mg 8)))), ((Ma 9), .inl (tc 1, 13, .inr (.inl g_59))), ((Ma 0), .inr (12, [.ref (Ma 1), .int (Mv 0), .int (Mv 1), .ref (Ma 2), .ref (Ma 3), .ref (Ma 4), .ref (Ma 5), .ref (Ma 6), .int (Mv 2), .int (Mv 3), .int (Mv 4), .int (Mv 5), .int (Mv 6), .int (Mv 7), .int (Mv 8), .ref (Ma 7), .int (Mv 9), .ref (Ma 8), .int (Mv 10), .ref (Ma 9), .ref (Ma 10), .int (Mv 11), .int (Mv 12), .int (Mv 13), .ref (Ma 11), .int (Mv 14), .ref (Ma 12), .ref (Ma 13), .ref (Ma 14), .ref (Ma 15), .ref (Ma 16), .long (Mj 0), .ref (Ma 17), .ref (Ma 18), .ref (Ma 19), .ref (Ma 20)])), ((Ma 10), .inl (tc 0, 126, .inl (Mf 10)))] H := hP₀
    replace hD : va_D A [((Ma 2), .inl (tc 0, 2400, .inl (Mf 2))), ((Ma 4), .inl (tc 0, 288, .inl (Mf 4))), ((Ma 5), .inl (tc 0, 6, .inl (Mf 5))), ((Ma 8), .inl (tc 1, 64, .inr (.inl (Mg 8)))), ((Ma 9), .inl (tc 1, 13, .inr (.inl g_59))), ((Ma 0), .inr (12, [.ref (Ma 1), .int (Mv 0), .int (Mv 1), .ref (Ma 2), .ref (Ma 3), .ref (Ma 4), .ref (Ma 5), .ref (Ma 6), .int (Mv 2), .int (Mv 3), .int (Mv 4), .int (Mv 5), .int (Mv 6), .int (Mv 7), .int (Mv 8), .ref (Ma 7), .int (Mv 9), .ref (Ma 8), .int (Mv 10), .ref (Ma 9), .ref (Ma 10), .int (Mv 11), .int (Mv 12), .int (Mv 13), .ref (Ma 11), .int (Mv 14), .ref (Ma 12), .ref (Ma 13), .ref (Ma 14), .ref (Ma 15), .ref (Ma 16), .long (Mj 0), .ref (Ma 17), .ref (Ma 18), .ref (Ma 19), .ref (Ma 20)])), ((Ma 10), .inl (tc 0, 126, .inl (Mf 10)))] := hD₀
    replace hS := hS₀
    clear hP₀ hD₀ hS₀
    refine lv_i2l (v := (r_63).toInt64) hx hb dX12_isWilling_193 rfl ?_
    refine st_long hx hb hK hP hD hS 4 1 rfl rfl (vin_dec (by decide +kernel)) dX12_isWilling_194 (fun g_66 H locs eg_66 hP₀ hD₀ hS₀ => ?_)
    replace hP : va_P D classes [((Ma 2), .inl (tc 0, 2400, .inl (Mf 2))), ((Ma 4), .inl (tc 0, 288, .inl (Mf 4))), ((Ma 5), .inl (tc 0, 6, .inl (Mf 5))), ((Ma 8), .inl (tc 1, 64, .inr (.inl (Mg 8)))), ((Ma 9), .inl (tc 1, 13, .inr (.inl g_66))), ((Ma 0), .inr (12, [.ref (Ma 1), .int (Mv 0), .int (Mv 1), .ref (Ma 2), .ref (Ma 3), .ref (Ma 4), .ref (Ma 5), .ref (Ma 6), .int (Mv 2), .int (Mv 3), .int (Mv 4), .int (Mv 5), .int (Mv 6), .int (Mv 7), .int (Mv 8), .ref (Ma 7), .int (Mv 9), .ref (Ma 8), .int (Mv 10), .ref (Ma 9), .ref (Ma 10), .int (Mv 11), .int (Mv 12), .int (Mv 13), .ref (Ma 11), .int (Mv 14), .ref (Ma 12), .ref (Ma 13), .ref (Ma 14), .ref (Ma 15), .ref (Ma 16), .long (Mj 0), .ref (Ma 17), .ref (Ma 18), .ref (Ma 19), .ref (Ma 20)])), ((Ma 10), .inl (tc 0, 126, .inl (Mf 10)))] H := hP₀
    replace hD : va_D A [((Ma 2), .inl (tc 0, 2400, .inl (Mf 2))), ((Ma 4), .inl (tc 0, 288, .inl (Mf 4))), ((Ma 5), .inl (tc 0, 6, .inl (Mf 5))), ((Ma 8), .inl (tc 1, 64, .inr (.inl (Mg 8)))), ((Ma 9), .inl (tc 1, 13, .inr (.inl g_66))), ((Ma 0), .inr (12, [.ref (Ma 1), .int (Mv 0), .int (Mv 1), .ref (Ma 2), .ref (Ma 3), .ref (Ma 4), .ref (Ma 5), .ref (Ma 6), .int (Mv 2), .int (Mv 3), .int (Mv 4), .int (Mv 5), .int (Mv 6), .int (Mv 7), .int (Mv 8), .ref (Ma 7), .int (Mv 9), .ref (Ma 8), .int (Mv 10), .ref (Ma 9), .ref (Ma 10), .int (Mv 11), .int (Mv 12), .int (Mv 13), .ref (Ma 11), .int (Mv 14), .ref (Ma 12), .ref (Ma 13), .ref (Ma 14), .ref (Ma 15), .ref (Ma 16), .long (Mj 0), .ref (Ma 17), .ref (Ma 18), .ref (Ma 19), .ref (Ma 20)])), ((Ma 10), .inl (tc 0, 126, .inl (Mf 10)))] := hD₀
    replace hS := hS₀
    clear hP₀ hD₀ hS₀
    refine lv_aload_n hx hb dX12_isWilling_195 rfl (lv_at hl 1 rfl) ?_
    refine gf_X12_36 hx hb hts hown hK hP 5 rfl rfl dX12_isWilling_196 ?_
    refine lv_bipush (v := 11) hx hb dX12_isWilling_199 (by decide) ?_
    refine lv_aload_n hx hb dX12_isWilling_201 rfl (lv_at hl 1 rfl) ?_
    refine cV (a := (Ma 0)) (As := []) (rest := [.int 11, .ref (Ma 9)]) (wr := [((Ma 2), .inl (tc 0, 2400, .inl (Mf 2))), ((Ma 4), .inl (tc 0, 288, .inl (Mf 4))), ((Ma 5), .inl (tc 0, 6, .inl (Mf 5))), ((Ma 8), .inl (tc 1, 64, .inr (.inl (Mg 8)))), ((Ma 9), .inl (tc 1, 13, .inr (.inl g_66)))]) ⟨hx, hb, hml, hown, hts⟩ hK hX hA (cu_X12_clock l D tc sk (Ma 0) (Ma 1) (Ma 2) (Ma 3) (Ma 4) (Ma 5) (Ma 6) (Ma 7) (Ma 8) (Ma 9) (Ma 10) (Ma 11) (Ma 12) (Ma 13) (Ma 14) (Ma 15) (Ma 16) (Ma 17) (Ma 18) (Ma 19) (Ma 20) (Mv 0) (Mv 1) (Mv 2) (Mv 3) (Mv 4) (Mv 5) (Mv 6) (Mv 7) (Mv 8) (Mv 9) (Mv 10) (Mv 11) (Mv 12) (Mv 13) (Mv 14) (Mf 10) (Mj 0) d h_said) k_1435 k_1432 k_1434 k_70 k_106 pl_X12_clock ⟨Nat.le_of_ble_eq_true rfl, Nat.le_of_ble_eq_true rfl⟩ rfl rfl (va_recv hK hP (ci := 12) (q0 := 5) rfl rfl) hP hD hS [5, 6] [0, 1, 2, 3, 4] rfl rfl rfl rfl rfl (by decide) rfl hl.1 rfl (Nat.le_of_ble_eq_true rfl) dX12_isWilling_202 ⟨Nat.le_of_ble_eq_true rfl, Nat.le_of_ble_eq_true rfl⟩ (fun v_67 u_68 H locs hv_69 hP₀ hD₀ hS₀ => ?_)
    obtain ⟨r_70, rfl, he_71⟩ := hv_69
    have he_71 : (0 ≤ r_70.toInt ∧ r_70.toInt < 10) := he_71
    refine W.eq (g2 := F0 m 205 ls [.int r_70, .int 11, .ref (Ma 9)]) rfl ?_
    replace hP : va_P D classes [((Ma 2), .inl (tc 0, 2400, .inl (Mf 2))), ((Ma 4), .inl (tc 0, 288, .inl (Mf 4))), ((Ma 5), .inl (tc 0, 6, .inl (Mf 5))), ((Ma 8), .inl (tc 1, 64, .inr (.inl (Mg 8)))), ((Ma 9), .inl (tc 1, 13, .inr (.inl g_66))), ((Ma 0), .inr (12, [.ref (Ma 1), .int (Mv 0), .int (Mv 1), .ref (Ma 2), .ref (Ma 3), .ref (Ma 4), .ref (Ma 5), .ref (Ma 6), .int (Mv 2), .int (Mv 3), .int (Mv 4), .int (Mv 5), .int (Mv 6), .int (Mv 7), .int (Mv 8), .ref (Ma 7), .int (Mv 9), .ref (Ma 8), .int (Mv 10), .ref (Ma 9), .ref (Ma 10), .int (Mv 11), .int (Mv 12), .int (Mv 13), .ref (Ma 11), .int (Mv 14), .ref (Ma 12), .ref (Ma 13), .ref (Ma 14), .ref (Ma 15), .ref (Ma 16), .long (Mj 0), .ref (Ma 17), .ref (Ma 18), .ref (Ma 19), .ref (Ma 20)])), ((Ma 10), .inl (tc 0, 126, .inl (Mf 10)))] H := hP₀
    replace hD : va_D A [((Ma 2), .inl (tc 0, 2400, .inl (Mf 2))), ((Ma 4), .inl (tc 0, 288, .inl (Mf 4))), ((Ma 5), .inl (tc 0, 6, .inl (Mf 5))), ((Ma 8), .inl (tc 1, 64, .inr (.inl (Mg 8)))), ((Ma 9), .inl (tc 1, 13, .inr (.inl g_66))), ((Ma 0), .inr (12, [.ref (Ma 1), .int (Mv 0), .int (Mv 1), .ref (Ma 2), .ref (Ma 3), .ref (Ma 4), .ref (Ma 5), .ref (Ma 6), .int (Mv 2), .int (Mv 3), .int (Mv 4), .int (Mv 5), .int (Mv 6), .int (Mv 7), .int (Mv 8), .ref (Ma 7), .int (Mv 9), .ref (Ma 8), .int (Mv 10), .ref (Ma 9), .ref (Ma 10), .int (Mv 11), .int (Mv 12), .int (Mv 13), .ref (Ma 11), .int (Mv 14), .ref (Ma 12), .ref (Ma 13), .ref (Ma 14), .ref (Ma 15), .ref (Ma 16), .long (Mj 0), .ref (Ma 17), .ref (Ma 18), .ref (Ma 19), .ref (Ma 20)])), ((Ma 10), .inl (tc 0, 126, .inl (Mf 10)))] := hD₀
    replace hS := hS₀
    clear hP₀ hD₀ hS₀
    refine lv_i2l (v := (r_70).toInt64) hx hb dX12_isWilling_205 rfl ?_
    refine st_long hx hb hK hP hD hS 4 1 rfl rfl (vin_dec (by decide +kernel)) dX12_isWilling_206 (fun g_73 H locs eg_73 hP₀ hD₀ hS₀ => ?_)
    replace hP : va_P D classes [((Ma 2), .inl (tc 0, 2400, .inl (Mf 2))), ((Ma 4), .inl (tc 0, 288, .inl (Mf 4))), ((Ma 5), .inl (tc 0, 6, .inl (Mf 5))), ((Ma 8), .inl (tc 1, 64, .inr (.inl (Mg 8)))), ((Ma 9), .inl (tc 1, 13, .inr (.inl g_73))), ((Ma 0), .inr (12, [.ref (Ma 1), .int (Mv 0), .int (Mv 1), .ref (Ma 2), .ref (Ma 3), .ref (Ma 4), .ref (Ma 5), .ref (Ma 6), .int (Mv 2), .int (Mv 3), .int (Mv 4), .int (Mv 5), .int (Mv 6), .int (Mv 7), .int (Mv 8), .ref (Ma 7), .int (Mv 9), .ref (Ma 8), .int (Mv 10), .ref (Ma 9), .ref (Ma 10), .int (Mv 11), .int (Mv 12), .int (Mv 13), .ref (Ma 11), .int (Mv 14), .ref (Ma 12), .ref (Ma 13), .ref (Ma 14), .ref (Ma 15), .ref (Ma 16), .long (Mj 0), .ref (Ma 17), .ref (Ma 18), .ref (Ma 19), .ref (Ma 20)])), ((Ma 10), .inl (tc 0, 126, .inl (Mf 10)))] H := hP₀
    replace hD : va_D A [((Ma 2), .inl (tc 0, 2400, .inl (Mf 2))), ((Ma 4), .inl (tc 0, 288, .inl (Mf 4))), ((Ma 5), .inl (tc 0, 6, .inl (Mf 5))), ((Ma 8), .inl (tc 1, 64, .inr (.inl (Mg 8)))), ((Ma 9), .inl (tc 1, 13, .inr (.inl g_73))), ((Ma 0), .inr (12, [.ref (Ma 1), .int (Mv 0), .int (Mv 1), .ref (Ma 2), .ref (Ma 3), .ref (Ma 4), .ref (Ma 5), .ref (Ma 6), .int (Mv 2), .int (Mv 3), .int (Mv 4), .int (Mv 5), .int (Mv 6), .int (Mv 7), .int (Mv 8), .ref (Ma 7), .int (Mv 9), .ref (Ma 8), .int (Mv 10), .ref (Ma 9), .ref (Ma 10), .int (Mv 11), .int (Mv 12), .int (Mv 13), .ref (Ma 11), .int (Mv 14), .ref (Ma 12), .ref (Ma 13), .ref (Ma 14), .ref (Ma 15), .ref (Ma 16), .long (Mj 0), .ref (Ma 17), .ref (Ma 18), .ref (Ma 19), .ref (Ma 20)])), ((Ma 10), .inl (tc 0, 126, .inl (Mf 10)))] := hD₀
    replace hS := hS₀
    clear hP₀ hD₀ hS₀
    refine lv_aload_n hx hb dX12_isWilling_207 rfl (lv_at hl 1 rfl) ?_
    refine gf_X12_36 hx hb hts hown hK hP 5 rfl rfl dX12_isWilling_208 ?_
    refine lv_bipush (v := 12) hx hb dX12_isWilling_211 (by decide) ?_
    refine lv_aload_n hx hb dX12_isWilling_213 rfl (lv_at hl 1 rfl) ?_
    refine gf_X12_39 hx hb hts hown hK hP 5 rfl rfl dX12_isWilling_214 ?_
    refine lv_bipush (v := 10) hx hb dX12_isWilling_217 (by decide) ?_
    refine va_iald hx hb hK hP 6 0 rfl rfl (vin_dec (by decide +kernel)) dX12_isWilling_219 ?_
    refine lv_topi (fun x_74 ex_74 => ?_)
    have lx_74 : x_74.toInt = ((Mf 10) 10).toInt := congrArg Int32.toInt ex_74
    refine lv_i2l (v := (x_74).toInt64) hx hb dX12_isWilling_220 rfl ?_
    refine st_long hx hb hK hP hD hS 4 1 rfl rfl (vin_dec (by decide +kernel)) dX12_isWilling_221 (fun g_75 H locs eg_75 hP₀ hD₀ hS₀ => ?_)
    replace hP : va_P D classes [((Ma 2), .inl (tc 0, 2400, .inl (Mf 2))), ((Ma 4), .inl (tc 0, 288, .inl (Mf 4))), ((Ma 5), .inl (tc 0, 6, .inl (Mf 5))), ((Ma 8), .inl (tc 1, 64, .inr (.inl (Mg 8)))), ((Ma 9), .inl (tc 1, 13, .inr (.inl g_75))), ((Ma 0), .inr (12, [.ref (Ma 1), .int (Mv 0), .int (Mv 1), .ref (Ma 2), .ref (Ma 3), .ref (Ma 4), .ref (Ma 5), .ref (Ma 6), .int (Mv 2), .int (Mv 3), .int (Mv 4), .int (Mv 5), .int (Mv 6), .int (Mv 7), .int (Mv 8), .ref (Ma 7), .int (Mv 9), .ref (Ma 8), .int (Mv 10), .ref (Ma 9), .ref (Ma 10), .int (Mv 11), .int (Mv 12), .int (Mv 13), .ref (Ma 11), .int (Mv 14), .ref (Ma 12), .ref (Ma 13), .ref (Ma 14), .ref (Ma 15), .ref (Ma 16), .long (Mj 0), .ref (Ma 17), .ref (Ma 18), .ref (Ma 19), .ref (Ma 20)])), ((Ma 10), .inl (tc 0, 126, .inl (Mf 10)))] H := hP₀
    replace hD : va_D A [((Ma 2), .inl (tc 0, 2400, .inl (Mf 2))), ((Ma 4), .inl (tc 0, 288, .inl (Mf 4))), ((Ma 5), .inl (tc 0, 6, .inl (Mf 5))), ((Ma 8), .inl (tc 1, 64, .inr (.inl (Mg 8)))), ((Ma 9), .inl (tc 1, 13, .inr (.inl g_75))), ((Ma 0), .inr (12, [.ref (Ma 1), .int (Mv 0), .int (Mv 1), .ref (Ma 2), .ref (Ma 3), .ref (Ma 4), .ref (Ma 5), .ref (Ma 6), .int (Mv 2), .int (Mv 3), .int (Mv 4), .int (Mv 5), .int (Mv 6), .int (Mv 7), .int (Mv 8), .ref (Ma 7), .int (Mv 9), .ref (Ma 8), .int (Mv 10), .ref (Ma 9), .ref (Ma 10), .int (Mv 11), .int (Mv 12), .int (Mv 13), .ref (Ma 11), .int (Mv 14), .ref (Ma 12), .ref (Ma 13), .ref (Ma 14), .ref (Ma 15), .ref (Ma 16), .long (Mj 0), .ref (Ma 17), .ref (Ma 18), .ref (Ma 19), .ref (Ma 20)])), ((Ma 10), .inl (tc 0, 126, .inl (Mf 10)))] := hD₀
    replace hS := hS₀
    clear hP₀ hD₀ hS₀
    refine lv_aload_n hx hb dX12_isWilling_222 rfl (lv_at hl 1 rfl) ?_
    refine lv_aload_n hx hb dX12_isWilling_223 rfl (lv_at hl 1 rfl) ?_
    refine gf_X12_42 hx hb hts hown hK hP 5 rfl rfl dX12_isWilling_224 ?_
    have ha_76 : 0 ≤ (Mv 11).toInt ∧ (Mv 11).toInt < (Mv 1).toInt := by
      have z_1 := Int32.le_iff_toInt_le.mp c_10
      have y_0 : (0 : Int32).toInt = 0 := by decide
      omega
    have ha_77 : (Mv 1).toInt ≤ 6 := by
      have z_1 := Int32.le_iff_toInt_le.mp c_10
      have y_0 : (0 : Int32).toInt = 0 := by decide
      omega
    refine cV (a := (Ma 0)) (As := [.int (Mv 11)]) (rest := []) (wr := [((Ma 10), .inl (tc 0, 126, .inl (Mf 10)))]) ⟨hx, hb, hml, hown, hts⟩ hK hX hA (cu_X12_summedBy l D tc sk (Ma 0) (Ma 1) (Ma 2) (Ma 3) (Ma 4) (Ma 5) (Ma 6) (Ma 7) (Ma 8) (Ma 9) (Ma 10) (Ma 11) (Ma 12) (Ma 13) (Ma 14) (Ma 15) (Ma 16) (Ma 17) (Ma 18) (Ma 19) (Ma 20) (Mv 0) (Mv 1) (Mv 2) (Mv 3) (Mv 4) (Mv 5) (Mv 6) (Mv 7) (Mv 8) (Mv 9) (Mv 10) (Mv 11) (Mv 12) (Mv 13) (Mv 14) (Mf 2) (Mf 4) (Mf 5) (Mj 0) (Mg 8) g_75 (Mv 11) h_rul ha_76 ha_77) k_1443 k_1440 k_1442 k_72 k_106 pl_X12_summedBy ⟨Nat.le_of_ble_eq_true rfl, Nat.le_of_ble_eq_true rfl⟩ rfl rfl (va_recv hK hP (ci := 12) (q0 := 5) rfl rfl) hP hD hS [5, 0, 1, 2, 3, 4] [6] rfl rfl rfl rfl rfl (by decide) rfl hl.1 rfl (Nat.le_of_ble_eq_true rfl) dX12_isWilling_227 ⟨Nat.le_of_ble_eq_true rfl, Nat.le_of_ble_eq_true rfl⟩ (fun v_78 u_79 H locs hv_80 hP₀ hD₀ hS₀ => ?_)
    obtain ⟨sv_81, sv_82⟩ := u_79
    obtain ⟨r_83, rfl, he_84⟩ := hv_80
    refine W.eq (g2 := F0 m 230 ls [.long r_83]) rfl ?_
    replace hP : va_P D classes [((Ma 10), .inl (tc 0, 126, .inl (Mf 10))), ((Ma 0), .inr (12, [.ref (Ma 1), .int (Mv 0), .int (Mv 1), .ref (Ma 2), .ref (Ma 3), .ref (Ma 4), .ref (Ma 5), .ref (Ma 6), .int (Mv 2), .int (Mv 3), .int (Mv 4), .int (Mv 5), .int (Mv 6), .int (Mv 7), .int (Mv 8), .ref (Ma 7), .int (Mv 9), .ref (Ma 8), .int sv_81, .ref (Ma 9), .ref (Ma 10), .int (Mv 11), .int (Mv 12), .int (Mv 13), .ref (Ma 11), .int (Mv 14), .ref (Ma 12), .ref (Ma 13), .ref (Ma 14), .ref (Ma 15), .ref (Ma 16), .long (Mj 0), .ref (Ma 17), .ref (Ma 18), .ref (Ma 19), .ref (Ma 20)])), ((Ma 2), .inl (tc 0, 2400, .inl (Mf 2))), ((Ma 4), .inl (tc 0, 288, .inl (Mf 4))), ((Ma 5), .inl (tc 0, 6, .inl (Mf 5))), ((Ma 8), .inl (tc 1, 64, .inr (.inl sv_82))), ((Ma 9), .inl (tc 1, 13, .inr (.inl g_75)))] H := hP₀
    replace hD : va_D A [((Ma 10), .inl (tc 0, 126, .inl (Mf 10))), ((Ma 0), .inr (12, [.ref (Ma 1), .int (Mv 0), .int (Mv 1), .ref (Ma 2), .ref (Ma 3), .ref (Ma 4), .ref (Ma 5), .ref (Ma 6), .int (Mv 2), .int (Mv 3), .int (Mv 4), .int (Mv 5), .int (Mv 6), .int (Mv 7), .int (Mv 8), .ref (Ma 7), .int (Mv 9), .ref (Ma 8), .int sv_81, .ref (Ma 9), .ref (Ma 10), .int (Mv 11), .int (Mv 12), .int (Mv 13), .ref (Ma 11), .int (Mv 14), .ref (Ma 12), .ref (Ma 13), .ref (Ma 14), .ref (Ma 15), .ref (Ma 16), .long (Mj 0), .ref (Ma 17), .ref (Ma 18), .ref (Ma 19), .ref (Ma 20)])), ((Ma 2), .inl (tc 0, 2400, .inl (Mf 2))), ((Ma 4), .inl (tc 0, 288, .inl (Mf 4))), ((Ma 5), .inl (tc 0, 6, .inl (Mf 5))), ((Ma 8), .inl (tc 1, 64, .inr (.inl sv_82))), ((Ma 9), .inl (tc 1, 13, .inr (.inl g_75)))] := hD₀
    replace hS := hS₀
    clear hP₀ hD₀ hS₀
    refine lv_lconst (v := 0) hx hb dX12_isWilling_230 (by decide) ?_
    refine W.lcmp hx hb dX12_isWilling_231 ?_
    refine lv_topi (fun x_86 ex_86 => ?_)
    refine lv_if_le (tgt := 239) hx hb dX12_isWilling_232 (by decide) (fun c_87 => ?_) (fun c_87 => ?_)
    · skip
      have lz_88 : (r_83 : Int64).toInt ≤ (0 : Int64).toInt := by have hc := c_87; rw [ex_86] at hc; exact Int64.le_iff_toInt_le.mp ((lg_cmp_le _ _).mp hc)
      refine lv_iconst (v := 0) hx hb dX12_isWilling_239 (by decide) ?_
      have hp_89 : ((0 : Int32).toInt = 0 ∨ (0 : Int32).toInt = 1) := by
        have z_1 := Int32.le_iff_toInt_le.mp c_10
        have z_2 := Int32.le_iff_toInt_le.mp c_87
        have y_0 : (0 : Int32).toInt = 0 := by decide
        omega
      exact retI (v := 0) hx hb hr hlk (rfl) hP hD hS (sv_81, sv_82, g_75) ⟨_, rfl, hp_89⟩ [1, 2, 3, 4, 5, 6, 0] rfl rfl dX12_isWilling_240 (Nat.le_of_ble_eq_true rfl) (Nat.le_of_ble_eq_true rfl) rfl
    · skip
      have lz_90 : (0 : Int64).toInt < (r_83 : Int64).toInt := by have hc := c_87; rw [ex_86] at hc; exact Int64.lt_iff_toInt_lt.mp (Int64.not_le.mp (fun z => hc ((lg_cmp_le _ _).mpr z)))
      refine lv_iconst (v := 1) hx hb dX12_isWilling_235 (by decide) ?_
      refine lv_goto (tgt := 240) hx hb dX12_isWilling_236 (by decide) ?_
      have hp_91 : ((1 : Int32).toInt = 0 ∨ (1 : Int32).toInt = 1) := by
        have z_1 := Int32.le_iff_toInt_le.mp c_10
        have z_2 := Int32.lt_iff_toInt_lt.mp (Int32.not_le.mp c_87)
        have y_0 : (0 : Int32).toInt = 0 := by decide
        have y_1 : (1 : Int32).toInt = 1 := by decide
        have yr : (1 : Int32).toInt = 1 := by decide
        omega
      exact retI (v := 1) hx hb hr hlk (rfl) hP hD hS (sv_81, sv_82, g_75) ⟨_, rfl, hp_91⟩ [1, 2, 3, 4, 5, 6, 0] rfl rfl dX12_isWilling_240 (Nat.le_of_ble_eq_true rfl) (Nat.le_of_ble_eq_true rfl) rfl
  · skip
    refine lv_aload_n hx hb dX12_isWilling_20 rfl (lv_at hl 1 rfl) ?_
    refine lv_iload_n hx hb dX12_isWilling_21 rfl (lv_at hl 2 rfl) ?_
    refine cV (a := (Ma 0)) (As := [.int x1]) (rest := []) (wr := [((Ma 2), .inl (tc 0, 2400, .inl (Mf 2))), ((Ma 4), .inl (tc 0, 288, .inl (Mf 4))), ((Ma 5), .inl (tc 0, 6, .inl (Mf 5))), ((Ma 8), .inl (tc 1, 64, .inr (.inl (Mg 8)))), ((Ma 9), .inl (tc 1, 13, .inr (.inl (Mg 9))))]) ⟨hx, hb, hml, hown, hts⟩ hK hX hA (cu_X12_temperOf l D tc sk (Ma 0) (Ma 1) (Ma 2) (Ma 3) (Ma 4) (Ma 5) (Ma 6) (Ma 7) (Ma 8) (Ma 9) (Ma 10) (Ma 11) (Ma 12) (Ma 13) (Ma 14) (Ma 15) (Ma 16) (Ma 17) (Ma 18) (Ma 19) (Ma 20) (Mv 0) (Mv 1) (Mv 2) (Mv 3) (Mv 4) (Mv 5) (Mv 6) (Mv 7) (Mv 8) (Mv 9) (Mv 10) (Mv 11) (Mv 12) (Mv 13) (Mv 14) (Mf 10) (Mj 0) x1 h_b) k_1379 k_1376 k_1378 k_59 k_106 pl_X12_temperOf ⟨Nat.le_of_ble_eq_true rfl, Nat.le_of_ble_eq_true rfl⟩ rfl rfl (va_recv hK hP (ci := 12) (q0 := 5) rfl rfl) hP hD hS [5, 6] [0, 1, 2, 3, 4] rfl rfl rfl rfl rfl (by decide) rfl hl.1 rfl (Nat.le_of_ble_eq_true rfl) dX12_isWilling_22 ⟨Nat.le_of_ble_eq_true rfl, Nat.le_of_ble_eq_true rfl⟩ (fun v_92 u_93 H locs hv_94 hP₀ hD₀ hS₀ => ?_)
    obtain ⟨r_95, rfl, he_96⟩ := hv_94
    refine W.eq (g2 := F0 m 25 ls [.int r_95]) rfl ?_
    replace hP : va_P D classes [((Ma 2), .inl (tc 0, 2400, .inl (Mf 2))), ((Ma 4), .inl (tc 0, 288, .inl (Mf 4))), ((Ma 5), .inl (tc 0, 6, .inl (Mf 5))), ((Ma 8), .inl (tc 1, 64, .inr (.inl (Mg 8)))), ((Ma 9), .inl (tc 1, 13, .inr (.inl (Mg 9)))), ((Ma 0), .inr (12, [.ref (Ma 1), .int (Mv 0), .int (Mv 1), .ref (Ma 2), .ref (Ma 3), .ref (Ma 4), .ref (Ma 5), .ref (Ma 6), .int (Mv 2), .int (Mv 3), .int (Mv 4), .int (Mv 5), .int (Mv 6), .int (Mv 7), .int (Mv 8), .ref (Ma 7), .int (Mv 9), .ref (Ma 8), .int (Mv 10), .ref (Ma 9), .ref (Ma 10), .int (Mv 11), .int (Mv 12), .int (Mv 13), .ref (Ma 11), .int (Mv 14), .ref (Ma 12), .ref (Ma 13), .ref (Ma 14), .ref (Ma 15), .ref (Ma 16), .long (Mj 0), .ref (Ma 17), .ref (Ma 18), .ref (Ma 19), .ref (Ma 20)])), ((Ma 10), .inl (tc 0, 126, .inl (Mf 10)))] H := hP₀
    replace hD : va_D A [((Ma 2), .inl (tc 0, 2400, .inl (Mf 2))), ((Ma 4), .inl (tc 0, 288, .inl (Mf 4))), ((Ma 5), .inl (tc 0, 6, .inl (Mf 5))), ((Ma 8), .inl (tc 1, 64, .inr (.inl (Mg 8)))), ((Ma 9), .inl (tc 1, 13, .inr (.inl (Mg 9)))), ((Ma 0), .inr (12, [.ref (Ma 1), .int (Mv 0), .int (Mv 1), .ref (Ma 2), .ref (Ma 3), .ref (Ma 4), .ref (Ma 5), .ref (Ma 6), .int (Mv 2), .int (Mv 3), .int (Mv 4), .int (Mv 5), .int (Mv 6), .int (Mv 7), .int (Mv 8), .ref (Ma 7), .int (Mv 9), .ref (Ma 8), .int (Mv 10), .ref (Ma 9), .ref (Ma 10), .int (Mv 11), .int (Mv 12), .int (Mv 13), .ref (Ma 11), .int (Mv 14), .ref (Ma 12), .ref (Ma 13), .ref (Ma 14), .ref (Ma 15), .ref (Ma 16), .long (Mj 0), .ref (Ma 17), .ref (Ma 18), .ref (Ma 19), .ref (Ma 20)])), ((Ma 10), .inl (tc 0, 126, .inl (Mf 10)))] := hD₀
    replace hS := hS₀
    clear hP₀ hD₀ hS₀
    refine lv_iload_n hx hb dX12_isWilling_25 rfl (lv_at hl 0 rfl) ?_
    refine lv_iadd hx hb dX12_isWilling_26 ?_
    refine lv_topi (fun x_98 ex_98 => ?_)
    refine lv_bipush (v := 12) hx hb dX12_isWilling_27 (by decide) ?_
    refine lv_icmp_lt (tgt := 36) hx hb dX12_isWilling_29 (by decide) (fun c_99 => ?_) (fun c_99 => ?_)
    · skip
      refine lv_iconst (v := 0) hx hb dX12_isWilling_36 (by decide) ?_
      have hp_100 : ((0 : Int32).toInt = 0 ∨ (0 : Int32).toInt = 1) := by
        have z_1 := Int32.lt_iff_toInt_lt.mp (Int32.not_le.mp c_10)
        have z_2 := Int32.lt_iff_toInt_lt.mp c_99
        have y_0 : (0 : Int32).toInt = 0 := by decide
        have y_12 : (12 : Int32).toInt = 12 := by decide
        omega
      exact retI (v := 0) hx hb hr hlk (rfl) hP hD hS ((Mv 10), (Mg 8), (Mg 9)) ⟨_, rfl, hp_100⟩ [5, 0, 1, 2, 3, 4, 6] rfl rfl dX12_isWilling_37 (Nat.le_of_ble_eq_true rfl) (Nat.le_of_ble_eq_true rfl) rfl
    · skip
      refine lv_iconst (v := 1) hx hb dX12_isWilling_32 (by decide) ?_
      refine lv_goto (tgt := 37) hx hb dX12_isWilling_33 (by decide) ?_
      have hp_101 : ((1 : Int32).toInt = 0 ∨ (1 : Int32).toInt = 1) := by
        have z_1 := Int32.lt_iff_toInt_lt.mp (Int32.not_le.mp c_10)
        have z_2 := Int32.le_iff_toInt_le.mp (Int32.not_lt.mp c_99)
        have y_0 : (0 : Int32).toInt = 0 := by decide
        have y_12 : (12 : Int32).toInt = 12 := by decide
        have y_1 : (1 : Int32).toInt = 1 := by decide
        have yr : (1 : Int32).toInt = 1 := by decide
        omega
      exact retI (v := 1) hx hb hr hlk (rfl) hP hD hS ((Mv 10), (Mg 8), (Mg 9)) ⟨_, rfl, hp_101⟩ [5, 0, 1, 2, 3, 4, 6] rfl rfl dX12_isWilling_37 (Nat.le_of_ble_eq_true rfl) (Nat.le_of_ble_eq_true rfl) rfl
set_option maxRecDepth 100000 in
theorem cu_X12_isWilling {T : Nat → Option Int32} (l : Launch) (D : va_G) (tc : Nat → ClassId) (sk : (Nat → Nat) × (Nat → Nat)) (Ma_0 : Nat) (Ma_1 : Nat) (Ma_2 : Nat) (Ma_3 : Nat) (Ma_4 : Nat) (Ma_5 : Nat) (Ma_6 : Nat) (Ma_7 : Nat) (Ma_8 : Nat) (Ma_9 : Nat) (Ma_10 : Nat) (Ma_11 : Nat) (Ma_12 : Nat) (Ma_13 : Nat) (Ma_14 : Nat) (Ma_15 : Nat) (Ma_16 : Nat) (Ma_17 : Nat) (Ma_18 : Nat) (Ma_19 : Nat) (Ma_20 : Nat) (Mv_0 : Int32) (Mv_1 : Int32) (Mv_2 : Int32) (Mv_3 : Int32) (Mv_4 : Int32) (Mv_5 : Int32) (Mv_6 : Int32) (Mv_7 : Int32) (Mv_8 : Int32) (Mv_9 : Int32) (Mv_10 : Int32) (Mv_11 : Int32) (Mv_12 : Int32) (Mv_13 : Int32) (Mv_14 : Int32) (Mf_2 : Nat → Int32) (Mf_4 : Nat → Int32) (Mf_5 : Nat → Int32) (Mf_10 : Nat → Int32) (Mj_0 : Int64) (Mg_8 : Nat → Int64) (Mg_9 : Nat → Int64) (x1 : Int32) (d : Int) (h_b : 0 ≤ x1.toInt ∧ x1.toInt < 6) (h_said : SaidD T Mf_10 d) (h_d : d ≤ 1000000) (h_rul : RulD Mf_2 Mf_4 Mf_5 Mv_1) (h_frc : -1 ≤ Mv_11.toInt ∧ Mv_11.toInt < Mv_1.toInt ∧ Mv_1.toInt ≤ 6) (h_2 : 1 ≤ (Mf_10 2).toInt ∧ (Mf_10 2).toInt ≤ 10) : Ct l yX12_isWilling cX12_isWilling 3 (some .boolean) { frames := 3, cells := 0, slots := 0, locals := 77 } D tc sk [.ref Ma_0, .int x1] [(Ma_0, .inr (12, [.ref Ma_1, .int Mv_0, .int Mv_1, .ref Ma_2, .ref Ma_3, .ref Ma_4, .ref Ma_5, .ref Ma_6, .int Mv_2, .int Mv_3, .int Mv_4, .int Mv_5, .int Mv_6, .int Mv_7, .int Mv_8, .ref Ma_7, .int Mv_9, .ref Ma_8, .int Mv_10, .ref Ma_9, .ref Ma_10, .int Mv_11, .int Mv_12, .int Mv_13, .ref Ma_11, .int Mv_14, .ref Ma_12, .ref Ma_13, .ref Ma_14, .ref Ma_15, .ref Ma_16, .long Mj_0, .ref Ma_17, .ref Ma_18, .ref Ma_19, .ref Ma_20])), (Ma_2, .inl (tc 0, 2400, .inl Mf_2)), (Ma_4, .inl (tc 0, 288, .inl Mf_4)), (Ma_5, .inl (tc 0, 6, .inl Mf_5)), (Ma_8, .inl (tc 1, 64, .inr (.inl Mg_8))), (Ma_9, .inl (tc 1, 13, .inr (.inl Mg_9))), (Ma_10, .inl (tc 0, 126, .inl Mf_10))] (fun (v : Option Value) (u : (Int32) × (Nat → Int64) × (Nat → Int64)) => match u with | (oo0x1, oo0x2, oo0x3) => ∃ r : Int32, v = some (.int r) ∧ ((r.toInt = 0 ∨ r.toInt = 1))) (fun (u : (Int32) × (Nat → Int64) × (Nat → Int64)) => match u with | (oo0x1, oo0x2, oo0x3) => [(Ma_0, .inr (12, [.ref Ma_1, .int Mv_0, .int Mv_1, .ref Ma_2, .ref Ma_3, .ref Ma_4, .ref Ma_5, .ref Ma_6, .int Mv_2, .int Mv_3, .int Mv_4, .int Mv_5, .int Mv_6, .int Mv_7, .int Mv_8, .ref Ma_7, .int Mv_9, .ref Ma_8, .int oo0x1, .ref Ma_9, .ref Ma_10, .int Mv_11, .int Mv_12, .int Mv_13, .ref Ma_11, .int Mv_14, .ref Ma_12, .ref Ma_13, .ref Ma_14, .ref Ma_15, .ref Ma_16, .long Mj_0, .ref Ma_17, .ref Ma_18, .ref Ma_19, .ref Ma_20])), (Ma_2, .inl (tc 0, 2400, .inl Mf_2)), (Ma_4, .inl (tc 0, 288, .inl Mf_4)), (Ma_5, .inl (tc 0, 6, .inl Mf_5)), (Ma_8, .inl (tc 1, 64, .inr (.inl oo0x2))), (Ma_9, .inl (tc 1, 13, .inr (.inl oo0x3))), (Ma_10, .inl (tc 0, 126, .inl Mf_10))]) 0 0 :=
  ct_X12_isWilling l D tc sk (fun k => ([Ma_0, Ma_1, Ma_2, Ma_3, Ma_4, Ma_5, Ma_6, Ma_7, Ma_8, Ma_9, Ma_10, Ma_11, Ma_12, Ma_13, Ma_14, Ma_15, Ma_16, Ma_17, Ma_18, Ma_19, Ma_20] : List (Nat)).getD k 0) (fun k => ([Mv_0, Mv_1, Mv_2, Mv_3, Mv_4, Mv_5, Mv_6, Mv_7, Mv_8, Mv_9, Mv_10, Mv_11, Mv_12, Mv_13, Mv_14] : List (Int32)).getD k 0) (fun k => ([(fun _ => 0), (fun _ => 0), Mf_2, (fun _ => 0), Mf_4, Mf_5, (fun _ => 0), (fun _ => 0), (fun _ => 0), (fun _ => 0), Mf_10] : List (Nat → Int32)).getD k (fun _ => 0)) (fun k => ([Mj_0] : List (Int64)).getD k 0) (fun k => ([(fun _ => 0), (fun _ => 0), (fun _ => 0), (fun _ => 0), (fun _ => 0), (fun _ => 0), (fun _ => 0), (fun _ => 0), Mg_8, Mg_9] : List (Nat → Int64)).getD k (fun _ => 0)) x1 d h_b h_said h_d h_rul h_frc h_2
set_option maxHeartbeats 4000000 in
set_option maxRecDepth 100000 in
theorem ct_X12_takes {T : Nat → Option Int32} (l : Launch) (D : va_G) (tc : Nat → ClassId) (sk : (Nat → Nat) × (Nat → Nat)) (Ma : Nat → Nat) (Mv : Nat → Int32) (Mf : Nat → Nat → Int32) (Mj : Nat → Int64) (x1 : Int32) (d : Int) (h_b : 0 ≤ x1.toInt ∧ x1.toInt < 6) (h_said : SaidD T (Mf 10) d) : Ct l yX12_takes cX12_takes 3 none { frames := 0, cells := 0, slots := 0, locals := 0 } D tc sk [.ref (Ma 0), .int x1] [((Ma 0), .inr (12, [.ref (Ma 1), .int (Mv 0), .int (Mv 1), .ref (Ma 2), .ref (Ma 3), .ref (Ma 4), .ref (Ma 5), .ref (Ma 6), .int (Mv 2), .int (Mv 3), .int (Mv 4), .int (Mv 5), .int (Mv 6), .int (Mv 7), .int (Mv 8), .ref (Ma 7), .int (Mv 9), .ref (Ma 8), .int (Mv 10), .ref (Ma 9), .ref (Ma 10), .int (Mv 11), .int (Mv 12), .int (Mv 13), .ref (Ma 11), .int (Mv 14), .ref (Ma 12), .ref (Ma 13), .ref (Ma 14), .ref (Ma 15), .ref (Ma 16), .long (Mj 0), .ref (Ma 17), .ref (Ma 18), .ref (Ma 19), .ref (Ma 20)])), ((Ma 10), .inl (tc 0, 126, .inl (Mf 10)))] (fun (v : Option Value) (oo0x1 : Nat → Int32) => v = none ∧ (SaidD T oo0x1 d)) (fun (oo0x1 : Nat → Int32) => [((Ma 0), .inr (12, [.ref (Ma 1), .int (Mv 0), .int (Mv 1), .ref (Ma 2), .ref (Ma 3), .ref (Ma 4), .ref (Ma 5), .ref (Ma 6), .int (Mv 2), .int (Mv 3), .int (Mv 4), .int (Mv 5), .int (Mv 6), .int (Mv 7), .int (Mv 8), .ref (Ma 7), .int (Mv 9), .ref (Ma 8), .int (Mv 10), .ref (Ma 9), .ref (Ma 10), .int (Mv 11), .int (Mv 12), .int (Mv 13), .ref (Ma 11), .int (Mv 14), .ref (Ma 12), .ref (Ma 13), .ref (Ma 14), .ref (Ma 15), .ref (Ma 16), .long (Mj 0), .ref (Ma 17), .ref (Ma 18), .ref (Ma 19), .ref (Ma 20)])), ((Ma 10), .inl (tc 0, 126, .inl oo0x1))]) 0 0 := by
  refine Ct.start (by decide) (Nat.le_of_ble_eq_true rfl) (fun p e s m below meth c A ls hx hb hr hlk hin hml hown hts hK hX hP hD hA hl hS => ?_)
  have hl : lv_has ls 3 [(0, .ref (Ma 0)), (1, .int x1)] := hl
  have ar_h_said := SaidD.ar h_said
  refine lv_bipush (v := 12) hx hb dX12_takes_0 (by decide) ?_
  refine lv_iconst (v := 4) hx hb dX12_takes_2 (by decide) ?_
  refine lv_iload_n hx hb dX12_takes_3 rfl (lv_at hl 1 rfl) ?_
  refine lv_imul hx hb dX12_takes_4 ?_
  refine lv_topi (fun x_1 ex_1 => ?_)
  refine lv_iadd hx hb dX12_takes_5 ?_
  refine lv_topi (fun x_2 ex_2 => ?_)
  refine lv_istore_n (lv' := [(2, .int x_2), (0, .ref (Ma 0)), (1, .int x1)]) hx hb dX12_takes_6 rfl hl (by decide) rfl (fun ls hl₀ => ?_)
  replace hl := hl₀
  clear hl₀
  refine lv_aload_n hx hb dX12_takes_7 rfl (lv_at hl 1 rfl) ?_
  refine gf_X12_39 hx hb hts hown hK hP 0 rfl rfl dX12_takes_8 ?_
  refine lv_bipush (v := 11) hx hb dX12_takes_11 (by decide) ?_
  refine lv_dup2_11 hx hb dX12_takes_13 rfl rfl ?_
  refine va_iald hx hb hK hP 1 0 rfl rfl (vin_dec (by decide +kernel)) dX12_takes_14 ?_
  refine lv_topi (fun x_3 ex_3 => ?_)
  have lx_3 : x_3.toInt = ((Mf 10) 11).toInt := congrArg Int32.toInt ex_3
  refine lv_aload_n hx hb dX12_takes_15 rfl (lv_at hl 1 rfl) ?_
  refine gf_X12_39 hx hb hts hown hK hP 0 rfl rfl dX12_takes_16 ?_
  refine lv_bipush (v := 56) hx hb dX12_takes_19 (by decide) ?_
  refine lv_iload_n hx hb dX12_takes_21 rfl (lv_at hl 2 rfl) ?_
  refine lv_iadd hx hb dX12_takes_22 ?_
  refine lv_topi (fun x_4 ex_4 => ?_)
  have hi_5 : vp_in x_4 126 := by
    have y_56 : (56 : Int32).toInt = 56 := by decide
    have t_x_4 : x_4.toInt = (56 : Int32).toInt + (x1 : Int32).toInt := by rw [ex_4]; exact add_toInt (by omega) (by omega)
    refine vp_in_iff.mpr ⟨?_, ?_⟩ <;> omega
  refine va_iald hx hb hK hP 1 0 rfl rfl hi_5 dX12_takes_23 ?_
  refine lv_topi (fun x_6 ex_6 => ?_)
  refine lv_isub hx hb dX12_takes_24 ?_
  refine lv_topi (fun x_7 ex_7 => ?_)
  refine st_int hx hb hK hP hD hS 1 0 rfl rfl (vin_dec (by decide +kernel)) dX12_takes_25 (fun g_8 H locs eg_8 hP₀ hD₀ hS₀ => ?_)
  replace hP : va_P D classes [((Ma 0), .inr (12, [.ref (Ma 1), .int (Mv 0), .int (Mv 1), .ref (Ma 2), .ref (Ma 3), .ref (Ma 4), .ref (Ma 5), .ref (Ma 6), .int (Mv 2), .int (Mv 3), .int (Mv 4), .int (Mv 5), .int (Mv 6), .int (Mv 7), .int (Mv 8), .ref (Ma 7), .int (Mv 9), .ref (Ma 8), .int (Mv 10), .ref (Ma 9), .ref (Ma 10), .int (Mv 11), .int (Mv 12), .int (Mv 13), .ref (Ma 11), .int (Mv 14), .ref (Ma 12), .ref (Ma 13), .ref (Ma 14), .ref (Ma 15), .ref (Ma 16), .long (Mj 0), .ref (Ma 17), .ref (Ma 18), .ref (Ma 19), .ref (Ma 20)])), ((Ma 10), .inl (tc 0, 126, .inl g_8))] H := hP₀
  replace hD : va_D A [((Ma 0), .inr (12, [.ref (Ma 1), .int (Mv 0), .int (Mv 1), .ref (Ma 2), .ref (Ma 3), .ref (Ma 4), .ref (Ma 5), .ref (Ma 6), .int (Mv 2), .int (Mv 3), .int (Mv 4), .int (Mv 5), .int (Mv 6), .int (Mv 7), .int (Mv 8), .ref (Ma 7), .int (Mv 9), .ref (Ma 8), .int (Mv 10), .ref (Ma 9), .ref (Ma 10), .int (Mv 11), .int (Mv 12), .int (Mv 13), .ref (Ma 11), .int (Mv 14), .ref (Ma 12), .ref (Ma 13), .ref (Ma 14), .ref (Ma 15), .ref (Ma 16), .long (Mj 0), .ref (Ma 17), .ref (Ma 18), .ref (Ma 19), .ref (Ma 20)])), ((Ma 10), .inl (tc 0, 126, .inl g_8))] := hD₀
  replace hS := hS₀
  clear hP₀ hD₀ hS₀
  have pf_9 : SaidD T g_8 d := SaidD.keep h_said eg_8 (by decide)
  have ar_pf_9 := SaidD.ar pf_9
  refine lv_aload_n hx hb dX12_takes_26 rfl (lv_at hl 1 rfl) ?_
  refine gf_X12_39 hx hb hts hown hK hP 0 rfl rfl dX12_takes_27 ?_
  refine lv_iload_n hx hb dX12_takes_30 rfl (lv_at hl 0 rfl) ?_
  refine lv_aload_n hx hb dX12_takes_31 rfl (lv_at hl 1 rfl) ?_
  refine gf_X12_39 hx hb hts hown hK hP 0 rfl rfl dX12_takes_32 ?_
  refine lv_iload_n hx hb dX12_takes_35 rfl (lv_at hl 0 rfl) ?_
  have hi_10 : vp_in x_2 126 := by
    have y_4 : (4 : Int32).toInt = 4 := by decide
    have y_12 : (12 : Int32).toInt = 12 := by decide
    have t_x_1 : x_1.toInt = (4 : Int32).toInt * (x1 : Int32).toInt := by rw [ex_1]; exact mul_toInt (by first | omega | (rw [y_4]; omega)) (by first | omega | (rw [y_4]; omega))
    rw [y_4] at t_x_1
    have t_x_2 : x_2.toInt = (12 : Int32).toInt + (x_1 : Int32).toInt := by rw [ex_2]; exact add_toInt (by omega) (by omega)
    refine vp_in_iff.mpr ⟨?_, ?_⟩ <;> omega
  refine va_iald hx hb hK hP 1 0 rfl rfl hi_10 dX12_takes_36 ?_
  refine lv_topi (fun x_11 ex_11 => ?_)
  refine lv_bipush (v := 6) hx hb dX12_takes_37 (by decide) ?_
  refine lv_icmp_le (tgt := 54) hx hb dX12_takes_39 (by decide) (fun c_12 => ?_) (fun c_12 => ?_)
  · skip
    refine lv_iconst (v := 0) hx hb dX12_takes_54 (by decide) ?_
    have hi_13 : vp_in x_2 126 := by
      have z_1 := Int32.le_iff_toInt_le.mp c_12
      have y_6 : (6 : Int32).toInt = 6 := by decide
      have y_4 : (4 : Int32).toInt = 4 := by decide
      have y_12 : (12 : Int32).toInt = 12 := by decide
      have t_x_1 : x_1.toInt = (4 : Int32).toInt * (x1 : Int32).toInt := by rw [ex_1]; exact mul_toInt (by first | omega | (rw [y_4]; omega)) (by first | omega | (rw [y_4]; omega))
      rw [y_4] at t_x_1
      have t_x_2 : x_2.toInt = (12 : Int32).toInt + (x_1 : Int32).toInt := by rw [ex_2]; exact add_toInt (by omega) (by omega)
      refine vp_in_iff.mpr ⟨?_, ?_⟩ <;> omega
    refine st_int hx hb hK hP hD hS 1 0 rfl rfl hi_13 dX12_takes_55 (fun g_14 H locs eg_14 hP₀ hD₀ hS₀ => ?_)
    replace hP : va_P D classes [((Ma 0), .inr (12, [.ref (Ma 1), .int (Mv 0), .int (Mv 1), .ref (Ma 2), .ref (Ma 3), .ref (Ma 4), .ref (Ma 5), .ref (Ma 6), .int (Mv 2), .int (Mv 3), .int (Mv 4), .int (Mv 5), .int (Mv 6), .int (Mv 7), .int (Mv 8), .ref (Ma 7), .int (Mv 9), .ref (Ma 8), .int (Mv 10), .ref (Ma 9), .ref (Ma 10), .int (Mv 11), .int (Mv 12), .int (Mv 13), .ref (Ma 11), .int (Mv 14), .ref (Ma 12), .ref (Ma 13), .ref (Ma 14), .ref (Ma 15), .ref (Ma 16), .long (Mj 0), .ref (Ma 17), .ref (Ma 18), .ref (Ma 19), .ref (Ma 20)])), ((Ma 10), .inl (tc 0, 126, .inl g_14))] H := hP₀
    replace hD : va_D A [((Ma 0), .inr (12, [.ref (Ma 1), .int (Mv 0), .int (Mv 1), .ref (Ma 2), .ref (Ma 3), .ref (Ma 4), .ref (Ma 5), .ref (Ma 6), .int (Mv 2), .int (Mv 3), .int (Mv 4), .int (Mv 5), .int (Mv 6), .int (Mv 7), .int (Mv 8), .ref (Ma 7), .int (Mv 9), .ref (Ma 8), .int (Mv 10), .ref (Ma 9), .ref (Ma 10), .int (Mv 11), .int (Mv 12), .int (Mv 13), .ref (Ma 11), .int (Mv 14), .ref (Ma 12), .ref (Ma 13), .ref (Ma 14), .ref (Ma 15), .ref (Ma 16), .long (Mj 0), .ref (Ma 17), .ref (Ma 18), .ref (Ma 19), .ref (Ma 20)])), ((Ma 10), .inl (tc 0, 126, .inl g_14))] := hD₀
    replace hS := hS₀
    clear hP₀ hD₀ hS₀
    have hx_16 : 11 ≤ (x_2 : Int32).toNatClampNeg ∧ (x_2 : Int32).toNatClampNeg < 56 := by
      have z_1 := Int32.le_iff_toInt_le.mp c_12
      have y_6 : (6 : Int32).toInt = 6 := by decide
      have y_4 : (4 : Int32).toInt = 4 := by decide
      have y_12 : (12 : Int32).toInt = 12 := by decide
      have t_x_1 : x_1.toInt = (4 : Int32).toInt * (x1 : Int32).toInt := by rw [ex_1]; exact mul_toInt (by first | omega | (rw [y_4]; omega)) (by first | omega | (rw [y_4]; omega))
      rw [y_4] at t_x_1
      have t_x_2 : x_2.toInt = (12 : Int32).toInt + (x_1 : Int32).toInt := by rw [ex_2]; exact add_toInt (by omega) (by omega)
      have hcl : (x_2 : Int32).toNatClampNeg = (x_2 : Int32).toInt.toNat := rfl
      omega
    have pf_15 : SaidD T g_14 d := SaidD.keep pf_9 eg_14 hx_16
    have ar_pf_15 := SaidD.ar pf_15
    refine lv_aload_n hx hb dX12_takes_56 rfl (lv_at hl 1 rfl) ?_
    refine gf_X12_39 hx hb hts hown hK hP 0 rfl rfl dX12_takes_57 ?_
    refine lv_iload_n hx hb dX12_takes_60 rfl (lv_at hl 0 rfl) ?_
    refine lv_iconst (v := 1) hx hb dX12_takes_61 (by decide) ?_
    refine lv_iadd hx hb dX12_takes_62 ?_
    refine lv_topi (fun x_17 ex_17 => ?_)
    refine lv_dup2_11 hx hb dX12_takes_63 rfl rfl ?_
    have hi_18 : vp_in x_17 126 := by
      have z_1 := Int32.le_iff_toInt_le.mp c_12
      have y_6 : (6 : Int32).toInt = 6 := by decide
      have y_1 : (1 : Int32).toInt = 1 := by decide
      have y_4 : (4 : Int32).toInt = 4 := by decide
      have y_12 : (12 : Int32).toInt = 12 := by decide
      have t_x_1 : x_1.toInt = (4 : Int32).toInt * (x1 : Int32).toInt := by rw [ex_1]; exact mul_toInt (by first | omega | (rw [y_4]; omega)) (by first | omega | (rw [y_4]; omega))
      rw [y_4] at t_x_1
      have t_x_2 : x_2.toInt = (12 : Int32).toInt + (x_1 : Int32).toInt := by rw [ex_2]; exact add_toInt (by omega) (by omega)
      have t_x_17 : x_17.toInt = (x_2 : Int32).toInt + (1 : Int32).toInt := by rw [ex_17]; exact add_toInt (by omega) (by omega)
      refine vp_in_iff.mpr ⟨?_, ?_⟩ <;> omega
    refine va_iald hx hb hK hP 1 0 rfl rfl hi_18 dX12_takes_64 ?_
    refine lv_topi (fun x_19 ex_19 => ?_)
    refine lv_aload_n hx hb dX12_takes_65 rfl (lv_at hl 1 rfl) ?_
    refine gf_X12_39 hx hb hts hown hK hP 0 rfl rfl dX12_takes_66 ?_
    refine lv_bipush (v := 56) hx hb dX12_takes_69 (by decide) ?_
    refine lv_iload_n hx hb dX12_takes_71 rfl (lv_at hl 2 rfl) ?_
    refine lv_iadd hx hb dX12_takes_72 ?_
    refine lv_topi (fun x_20 ex_20 => ?_)
    have hi_21 : vp_in x_20 126 := by
      have z_1 := Int32.le_iff_toInt_le.mp c_12
      have y_6 : (6 : Int32).toInt = 6 := by decide
      have y_56 : (56 : Int32).toInt = 56 := by decide
      have t_x_20 : x_20.toInt = (56 : Int32).toInt + (x1 : Int32).toInt := by rw [ex_20]; exact add_toInt (by omega) (by omega)
      refine vp_in_iff.mpr ⟨?_, ?_⟩ <;> omega
    refine va_iald hx hb hK hP 1 0 rfl rfl hi_21 dX12_takes_73 ?_
    refine lv_topi (fun x_22 ex_22 => ?_)
    refine lv_iadd hx hb dX12_takes_74 ?_
    refine lv_topi (fun x_23 ex_23 => ?_)
    have hi_24 : vp_in x_17 126 := by
      have z_1 := Int32.le_iff_toInt_le.mp c_12
      have y_6 : (6 : Int32).toInt = 6 := by decide
      have y_1 : (1 : Int32).toInt = 1 := by decide
      have y_4 : (4 : Int32).toInt = 4 := by decide
      have y_12 : (12 : Int32).toInt = 12 := by decide
      have t_x_1 : x_1.toInt = (4 : Int32).toInt * (x1 : Int32).toInt := by rw [ex_1]; exact mul_toInt (by first | omega | (rw [y_4]; omega)) (by first | omega | (rw [y_4]; omega))
      rw [y_4] at t_x_1
      have t_x_2 : x_2.toInt = (12 : Int32).toInt + (x_1 : Int32).toInt := by rw [ex_2]; exact add_toInt (by omega) (by omega)
      have t_x_17 : x_17.toInt = (x_2 : Int32).toInt + (1 : Int32).toInt := by rw [ex_17]; exact add_toInt (by omega) (by omega)
      refine vp_in_iff.mpr ⟨?_, ?_⟩ <;> omega
    refine st_int hx hb hK hP hD hS 1 0 rfl rfl hi_24 dX12_takes_75 (fun g_25 H locs eg_25 hP₀ hD₀ hS₀ => ?_)
    replace hP : va_P D classes [((Ma 0), .inr (12, [.ref (Ma 1), .int (Mv 0), .int (Mv 1), .ref (Ma 2), .ref (Ma 3), .ref (Ma 4), .ref (Ma 5), .ref (Ma 6), .int (Mv 2), .int (Mv 3), .int (Mv 4), .int (Mv 5), .int (Mv 6), .int (Mv 7), .int (Mv 8), .ref (Ma 7), .int (Mv 9), .ref (Ma 8), .int (Mv 10), .ref (Ma 9), .ref (Ma 10), .int (Mv 11), .int (Mv 12), .int (Mv 13), .ref (Ma 11), .int (Mv 14), .ref (Ma 12), .ref (Ma 13), .ref (Ma 14), .ref (Ma 15), .ref (Ma 16), .long (Mj 0), .ref (Ma 17), .ref (Ma 18), .ref (Ma 19), .ref (Ma 20)])), ((Ma 10), .inl (tc 0, 126, .inl g_25))] H := hP₀
    replace hD : va_D A [((Ma 0), .inr (12, [.ref (Ma 1), .int (Mv 0), .int (Mv 1), .ref (Ma 2), .ref (Ma 3), .ref (Ma 4), .ref (Ma 5), .ref (Ma 6), .int (Mv 2), .int (Mv 3), .int (Mv 4), .int (Mv 5), .int (Mv 6), .int (Mv 7), .int (Mv 8), .ref (Ma 7), .int (Mv 9), .ref (Ma 8), .int (Mv 10), .ref (Ma 9), .ref (Ma 10), .int (Mv 11), .int (Mv 12), .int (Mv 13), .ref (Ma 11), .int (Mv 14), .ref (Ma 12), .ref (Ma 13), .ref (Ma 14), .ref (Ma 15), .ref (Ma 16), .long (Mj 0), .ref (Ma 17), .ref (Ma 18), .ref (Ma 19), .ref (Ma 20)])), ((Ma 10), .inl (tc 0, 126, .inl g_25))] := hD₀
    replace hS := hS₀
    clear hP₀ hD₀ hS₀
    have hx_27 : 11 ≤ (x_17 : Int32).toNatClampNeg ∧ (x_17 : Int32).toNatClampNeg < 56 := by
      have z_1 := Int32.le_iff_toInt_le.mp c_12
      have y_6 : (6 : Int32).toInt = 6 := by decide
      have y_1 : (1 : Int32).toInt = 1 := by decide
      have y_4 : (4 : Int32).toInt = 4 := by decide
      have y_12 : (12 : Int32).toInt = 12 := by decide
      have t_x_1 : x_1.toInt = (4 : Int32).toInt * (x1 : Int32).toInt := by rw [ex_1]; exact mul_toInt (by first | omega | (rw [y_4]; omega)) (by first | omega | (rw [y_4]; omega))
      rw [y_4] at t_x_1
      have t_x_2 : x_2.toInt = (12 : Int32).toInt + (x_1 : Int32).toInt := by rw [ex_2]; exact add_toInt (by omega) (by omega)
      have t_x_17 : x_17.toInt = (x_2 : Int32).toInt + (1 : Int32).toInt := by rw [ex_17]; exact add_toInt (by omega) (by omega)
      have hcl : (x_17 : Int32).toNatClampNeg = (x_17 : Int32).toInt.toNat := rfl
      omega
    have pf_26 : SaidD T g_25 d := SaidD.keep pf_15 eg_25 hx_27
    have ar_pf_26 := SaidD.ar pf_26
    refine lv_aload_n hx hb dX12_takes_76 rfl (lv_at hl 1 rfl) ?_
    refine gf_X12_39 hx hb hts hown hK hP 0 rfl rfl dX12_takes_77 ?_
    refine lv_iload_n hx hb dX12_takes_80 rfl (lv_at hl 0 rfl) ?_
    refine lv_iconst (v := 3) hx hb dX12_takes_81 (by decide) ?_
    refine lv_iadd hx hb dX12_takes_82 ?_
    refine lv_topi (fun x_28 ex_28 => ?_)
    refine lv_aload_n hx hb dX12_takes_83 rfl (lv_at hl 1 rfl) ?_
    refine gf_X12_39 hx hb hts hown hK hP 0 rfl rfl dX12_takes_84 ?_
    refine lv_bipush (v := 10) hx hb dX12_takes_87 (by decide) ?_
    refine va_iald hx hb hK hP 1 0 rfl rfl (vin_dec (by decide +kernel)) dX12_takes_89 ?_
    refine lv_topi (fun x_29 ex_29 => ?_)
    have lx_29 : x_29.toInt = (g_25 10).toInt := congrArg Int32.toInt ex_29
    have hi_30 : vp_in x_28 126 := by
      have z_1 := Int32.le_iff_toInt_le.mp c_12
      have y_6 : (6 : Int32).toInt = 6 := by decide
      have y_3 : (3 : Int32).toInt = 3 := by decide
      have y_4 : (4 : Int32).toInt = 4 := by decide
      have y_12 : (12 : Int32).toInt = 12 := by decide
      have t_x_1 : x_1.toInt = (4 : Int32).toInt * (x1 : Int32).toInt := by rw [ex_1]; exact mul_toInt (by first | omega | (rw [y_4]; omega)) (by first | omega | (rw [y_4]; omega))
      rw [y_4] at t_x_1
      have t_x_2 : x_2.toInt = (12 : Int32).toInt + (x_1 : Int32).toInt := by rw [ex_2]; exact add_toInt (by omega) (by omega)
      have t_x_28 : x_28.toInt = (x_2 : Int32).toInt + (3 : Int32).toInt := by rw [ex_28]; exact add_toInt (by omega) (by omega)
      refine vp_in_iff.mpr ⟨?_, ?_⟩ <;> omega
    refine st_int hx hb hK hP hD hS 1 0 rfl rfl hi_30 dX12_takes_90 (fun g_31 H locs eg_31 hP₀ hD₀ hS₀ => ?_)
    replace hP : va_P D classes [((Ma 0), .inr (12, [.ref (Ma 1), .int (Mv 0), .int (Mv 1), .ref (Ma 2), .ref (Ma 3), .ref (Ma 4), .ref (Ma 5), .ref (Ma 6), .int (Mv 2), .int (Mv 3), .int (Mv 4), .int (Mv 5), .int (Mv 6), .int (Mv 7), .int (Mv 8), .ref (Ma 7), .int (Mv 9), .ref (Ma 8), .int (Mv 10), .ref (Ma 9), .ref (Ma 10), .int (Mv 11), .int (Mv 12), .int (Mv 13), .ref (Ma 11), .int (Mv 14), .ref (Ma 12), .ref (Ma 13), .ref (Ma 14), .ref (Ma 15), .ref (Ma 16), .long (Mj 0), .ref (Ma 17), .ref (Ma 18), .ref (Ma 19), .ref (Ma 20)])), ((Ma 10), .inl (tc 0, 126, .inl g_31))] H := hP₀
    replace hD : va_D A [((Ma 0), .inr (12, [.ref (Ma 1), .int (Mv 0), .int (Mv 1), .ref (Ma 2), .ref (Ma 3), .ref (Ma 4), .ref (Ma 5), .ref (Ma 6), .int (Mv 2), .int (Mv 3), .int (Mv 4), .int (Mv 5), .int (Mv 6), .int (Mv 7), .int (Mv 8), .ref (Ma 7), .int (Mv 9), .ref (Ma 8), .int (Mv 10), .ref (Ma 9), .ref (Ma 10), .int (Mv 11), .int (Mv 12), .int (Mv 13), .ref (Ma 11), .int (Mv 14), .ref (Ma 12), .ref (Ma 13), .ref (Ma 14), .ref (Ma 15), .ref (Ma 16), .long (Mj 0), .ref (Ma 17), .ref (Ma 18), .ref (Ma 19), .ref (Ma 20)])), ((Ma 10), .inl (tc 0, 126, .inl g_31))] := hD₀
    replace hS := hS₀
    clear hP₀ hD₀ hS₀
    have hx_33 : 11 ≤ (x_28 : Int32).toNatClampNeg ∧ (x_28 : Int32).toNatClampNeg < 56 := by
      have z_1 := Int32.le_iff_toInt_le.mp c_12
      have y_6 : (6 : Int32).toInt = 6 := by decide
      have y_3 : (3 : Int32).toInt = 3 := by decide
      have y_4 : (4 : Int32).toInt = 4 := by decide
      have y_12 : (12 : Int32).toInt = 12 := by decide
      have t_x_1 : x_1.toInt = (4 : Int32).toInt * (x1 : Int32).toInt := by rw [ex_1]; exact mul_toInt (by first | omega | (rw [y_4]; omega)) (by first | omega | (rw [y_4]; omega))
      rw [y_4] at t_x_1
      have t_x_2 : x_2.toInt = (12 : Int32).toInt + (x_1 : Int32).toInt := by rw [ex_2]; exact add_toInt (by omega) (by omega)
      have t_x_28 : x_28.toInt = (x_2 : Int32).toInt + (3 : Int32).toInt := by rw [ex_28]; exact add_toInt (by omega) (by omega)
      have hcl : (x_28 : Int32).toNatClampNeg = (x_28 : Int32).toInt.toNat := rfl
      omega
    have pf_32 : SaidD T g_31 d := SaidD.keep pf_26 eg_31 hx_33
    have ar_pf_32 := SaidD.ar pf_32
    exact retV hx hb hr hlk hP hD hS g_31 ⟨rfl, pf_32⟩ [0, 1] rfl rfl dX12_takes_91 (Nat.le_of_ble_eq_true rfl) (Nat.le_of_ble_eq_true rfl) rfl
  · skip
    refine lv_aload_n hx hb dX12_takes_42 rfl (lv_at hl 1 rfl) ?_
    refine gf_X12_39 hx hb hts hown hK hP 0 rfl rfl dX12_takes_43 ?_
    refine lv_iload_n hx hb dX12_takes_46 rfl (lv_at hl 0 rfl) ?_
    have hi_34 : vp_in x_2 126 := by
      have z_1 := Int32.lt_iff_toInt_lt.mp (Int32.not_le.mp c_12)
      have y_6 : (6 : Int32).toInt = 6 := by decide
      have y_4 : (4 : Int32).toInt = 4 := by decide
      have y_12 : (12 : Int32).toInt = 12 := by decide
      have t_x_1 : x_1.toInt = (4 : Int32).toInt * (x1 : Int32).toInt := by rw [ex_1]; exact mul_toInt (by first | omega | (rw [y_4]; omega)) (by first | omega | (rw [y_4]; omega))
      rw [y_4] at t_x_1
      have t_x_2 : x_2.toInt = (12 : Int32).toInt + (x_1 : Int32).toInt := by rw [ex_2]; exact add_toInt (by omega) (by omega)
      refine vp_in_iff.mpr ⟨?_, ?_⟩ <;> omega
    refine va_iald hx hb hK hP 1 0 rfl rfl hi_34 dX12_takes_47 ?_
    refine lv_topi (fun x_35 ex_35 => ?_)
    refine lv_bipush (v := 6) hx hb dX12_takes_48 (by decide) ?_
    refine lv_isub hx hb dX12_takes_50 ?_
    refine lv_topi (fun x_36 ex_36 => ?_)
    refine lv_goto (tgt := 55) hx hb dX12_takes_51 (by decide) ?_
    have hi_37 : vp_in x_2 126 := by
      have z_1 := Int32.lt_iff_toInt_lt.mp (Int32.not_le.mp c_12)
      have y_6 : (6 : Int32).toInt = 6 := by decide
      have y_4 : (4 : Int32).toInt = 4 := by decide
      have y_12 : (12 : Int32).toInt = 12 := by decide
      have t_x_1 : x_1.toInt = (4 : Int32).toInt * (x1 : Int32).toInt := by rw [ex_1]; exact mul_toInt (by first | omega | (rw [y_4]; omega)) (by first | omega | (rw [y_4]; omega))
      rw [y_4] at t_x_1
      have t_x_2 : x_2.toInt = (12 : Int32).toInt + (x_1 : Int32).toInt := by rw [ex_2]; exact add_toInt (by omega) (by omega)
      refine vp_in_iff.mpr ⟨?_, ?_⟩ <;> omega
    refine st_int hx hb hK hP hD hS 1 0 rfl rfl hi_37 dX12_takes_55 (fun g_38 H locs eg_38 hP₀ hD₀ hS₀ => ?_)
    replace hP : va_P D classes [((Ma 0), .inr (12, [.ref (Ma 1), .int (Mv 0), .int (Mv 1), .ref (Ma 2), .ref (Ma 3), .ref (Ma 4), .ref (Ma 5), .ref (Ma 6), .int (Mv 2), .int (Mv 3), .int (Mv 4), .int (Mv 5), .int (Mv 6), .int (Mv 7), .int (Mv 8), .ref (Ma 7), .int (Mv 9), .ref (Ma 8), .int (Mv 10), .ref (Ma 9), .ref (Ma 10), .int (Mv 11), .int (Mv 12), .int (Mv 13), .ref (Ma 11), .int (Mv 14), .ref (Ma 12), .ref (Ma 13), .ref (Ma 14), .ref (Ma 15), .ref (Ma 16), .long (Mj 0), .ref (Ma 17), .ref (Ma 18), .ref (Ma 19), .ref (Ma 20)])), ((Ma 10), .inl (tc 0, 126, .inl g_38))] H := hP₀
    replace hD : va_D A [((Ma 0), .inr (12, [.ref (Ma 1), .int (Mv 0), .int (Mv 1), .ref (Ma 2), .ref (Ma 3), .ref (Ma 4), .ref (Ma 5), .ref (Ma 6), .int (Mv 2), .int (Mv 3), .int (Mv 4), .int (Mv 5), .int (Mv 6), .int (Mv 7), .int (Mv 8), .ref (Ma 7), .int (Mv 9), .ref (Ma 8), .int (Mv 10), .ref (Ma 9), .ref (Ma 10), .int (Mv 11), .int (Mv 12), .int (Mv 13), .ref (Ma 11), .int (Mv 14), .ref (Ma 12), .ref (Ma 13), .ref (Ma 14), .ref (Ma 15), .ref (Ma 16), .long (Mj 0), .ref (Ma 17), .ref (Ma 18), .ref (Ma 19), .ref (Ma 20)])), ((Ma 10), .inl (tc 0, 126, .inl g_38))] := hD₀
    replace hS := hS₀
    clear hP₀ hD₀ hS₀
    have hx_40 : 11 ≤ (x_2 : Int32).toNatClampNeg ∧ (x_2 : Int32).toNatClampNeg < 56 := by
      have z_1 := Int32.lt_iff_toInt_lt.mp (Int32.not_le.mp c_12)
      have y_6 : (6 : Int32).toInt = 6 := by decide
      have y_4 : (4 : Int32).toInt = 4 := by decide
      have y_12 : (12 : Int32).toInt = 12 := by decide
      have t_x_1 : x_1.toInt = (4 : Int32).toInt * (x1 : Int32).toInt := by rw [ex_1]; exact mul_toInt (by first | omega | (rw [y_4]; omega)) (by first | omega | (rw [y_4]; omega))
      rw [y_4] at t_x_1
      have t_x_2 : x_2.toInt = (12 : Int32).toInt + (x_1 : Int32).toInt := by rw [ex_2]; exact add_toInt (by omega) (by omega)
      have hcl : (x_2 : Int32).toNatClampNeg = (x_2 : Int32).toInt.toNat := rfl
      omega
    have pf_39 : SaidD T g_38 d := SaidD.keep pf_9 eg_38 hx_40
    have ar_pf_39 := SaidD.ar pf_39
    refine lv_aload_n hx hb dX12_takes_56 rfl (lv_at hl 1 rfl) ?_
    refine gf_X12_39 hx hb hts hown hK hP 0 rfl rfl dX12_takes_57 ?_
    refine lv_iload_n hx hb dX12_takes_60 rfl (lv_at hl 0 rfl) ?_
    refine lv_iconst (v := 1) hx hb dX12_takes_61 (by decide) ?_
    refine lv_iadd hx hb dX12_takes_62 ?_
    refine lv_topi (fun x_41 ex_41 => ?_)
    refine lv_dup2_11 hx hb dX12_takes_63 rfl rfl ?_
    have hi_42 : vp_in x_41 126 := by
      have z_1 := Int32.lt_iff_toInt_lt.mp (Int32.not_le.mp c_12)
      have y_6 : (6 : Int32).toInt = 6 := by decide
      have y_1 : (1 : Int32).toInt = 1 := by decide
      have y_4 : (4 : Int32).toInt = 4 := by decide
      have y_12 : (12 : Int32).toInt = 12 := by decide
      have t_x_1 : x_1.toInt = (4 : Int32).toInt * (x1 : Int32).toInt := by rw [ex_1]; exact mul_toInt (by first | omega | (rw [y_4]; omega)) (by first | omega | (rw [y_4]; omega))
      rw [y_4] at t_x_1
      have t_x_2 : x_2.toInt = (12 : Int32).toInt + (x_1 : Int32).toInt := by rw [ex_2]; exact add_toInt (by omega) (by omega)
      have t_x_41 : x_41.toInt = (x_2 : Int32).toInt + (1 : Int32).toInt := by rw [ex_41]; exact add_toInt (by omega) (by omega)
      refine vp_in_iff.mpr ⟨?_, ?_⟩ <;> omega
    refine va_iald hx hb hK hP 1 0 rfl rfl hi_42 dX12_takes_64 ?_
    refine lv_topi (fun x_43 ex_43 => ?_)
    refine lv_aload_n hx hb dX12_takes_65 rfl (lv_at hl 1 rfl) ?_
    refine gf_X12_39 hx hb hts hown hK hP 0 rfl rfl dX12_takes_66 ?_
    refine lv_bipush (v := 56) hx hb dX12_takes_69 (by decide) ?_
    refine lv_iload_n hx hb dX12_takes_71 rfl (lv_at hl 2 rfl) ?_
    refine lv_iadd hx hb dX12_takes_72 ?_
    refine lv_topi (fun x_44 ex_44 => ?_)
    have hi_45 : vp_in x_44 126 := by
      have z_1 := Int32.lt_iff_toInt_lt.mp (Int32.not_le.mp c_12)
      have y_6 : (6 : Int32).toInt = 6 := by decide
      have y_56 : (56 : Int32).toInt = 56 := by decide
      have t_x_44 : x_44.toInt = (56 : Int32).toInt + (x1 : Int32).toInt := by rw [ex_44]; exact add_toInt (by omega) (by omega)
      refine vp_in_iff.mpr ⟨?_, ?_⟩ <;> omega
    refine va_iald hx hb hK hP 1 0 rfl rfl hi_45 dX12_takes_73 ?_
    refine lv_topi (fun x_46 ex_46 => ?_)
    refine lv_iadd hx hb dX12_takes_74 ?_
    refine lv_topi (fun x_47 ex_47 => ?_)
    have hi_48 : vp_in x_41 126 := by
      have z_1 := Int32.lt_iff_toInt_lt.mp (Int32.not_le.mp c_12)
      have y_6 : (6 : Int32).toInt = 6 := by decide
      have y_1 : (1 : Int32).toInt = 1 := by decide
      have y_4 : (4 : Int32).toInt = 4 := by decide
      have y_12 : (12 : Int32).toInt = 12 := by decide
      have t_x_1 : x_1.toInt = (4 : Int32).toInt * (x1 : Int32).toInt := by rw [ex_1]; exact mul_toInt (by first | omega | (rw [y_4]; omega)) (by first | omega | (rw [y_4]; omega))
      rw [y_4] at t_x_1
      have t_x_2 : x_2.toInt = (12 : Int32).toInt + (x_1 : Int32).toInt := by rw [ex_2]; exact add_toInt (by omega) (by omega)
      have t_x_41 : x_41.toInt = (x_2 : Int32).toInt + (1 : Int32).toInt := by rw [ex_41]; exact add_toInt (by omega) (by omega)
      refine vp_in_iff.mpr ⟨?_, ?_⟩ <;> omega
    refine st_int hx hb hK hP hD hS 1 0 rfl rfl hi_48 dX12_takes_75 (fun g_49 H locs eg_49 hP₀ hD₀ hS₀ => ?_)
    replace hP : va_P D classes [((Ma 0), .inr (12, [.ref (Ma 1), .int (Mv 0), .int (Mv 1), .ref (Ma 2), .ref (Ma 3), .ref (Ma 4), .ref (Ma 5), .ref (Ma 6), .int (Mv 2), .int (Mv 3), .int (Mv 4), .int (Mv 5), .int (Mv 6), .int (Mv 7), .int (Mv 8), .ref (Ma 7), .int (Mv 9), .ref (Ma 8), .int (Mv 10), .ref (Ma 9), .ref (Ma 10), .int (Mv 11), .int (Mv 12), .int (Mv 13), .ref (Ma 11), .int (Mv 14), .ref (Ma 12), .ref (Ma 13), .ref (Ma 14), .ref (Ma 15), .ref (Ma 16), .long (Mj 0), .ref (Ma 17), .ref (Ma 18), .ref (Ma 19), .ref (Ma 20)])), ((Ma 10), .inl (tc 0, 126, .inl g_49))] H := hP₀
    replace hD : va_D A [((Ma 0), .inr (12, [.ref (Ma 1), .int (Mv 0), .int (Mv 1), .ref (Ma 2), .ref (Ma 3), .ref (Ma 4), .ref (Ma 5), .ref (Ma 6), .int (Mv 2), .int (Mv 3), .int (Mv 4), .int (Mv 5), .int (Mv 6), .int (Mv 7), .int (Mv 8), .ref (Ma 7), .int (Mv 9), .ref (Ma 8), .int (Mv 10), .ref (Ma 9), .ref (Ma 10), .int (Mv 11), .int (Mv 12), .int (Mv 13), .ref (Ma 11), .int (Mv 14), .ref (Ma 12), .ref (Ma 13), .ref (Ma 14), .ref (Ma 15), .ref (Ma 16), .long (Mj 0), .ref (Ma 17), .ref (Ma 18), .ref (Ma 19), .ref (Ma 20)])), ((Ma 10), .inl (tc 0, 126, .inl g_49))] := hD₀
    replace hS := hS₀
    clear hP₀ hD₀ hS₀
    have hx_51 : 11 ≤ (x_41 : Int32).toNatClampNeg ∧ (x_41 : Int32).toNatClampNeg < 56 := by
      have z_1 := Int32.lt_iff_toInt_lt.mp (Int32.not_le.mp c_12)
      have y_6 : (6 : Int32).toInt = 6 := by decide
      have y_1 : (1 : Int32).toInt = 1 := by decide
      have y_4 : (4 : Int32).toInt = 4 := by decide
      have y_12 : (12 : Int32).toInt = 12 := by decide
      have t_x_1 : x_1.toInt = (4 : Int32).toInt * (x1 : Int32).toInt := by rw [ex_1]; exact mul_toInt (by first | omega | (rw [y_4]; omega)) (by first | omega | (rw [y_4]; omega))
      rw [y_4] at t_x_1
      have t_x_2 : x_2.toInt = (12 : Int32).toInt + (x_1 : Int32).toInt := by rw [ex_2]; exact add_toInt (by omega) (by omega)
      have t_x_41 : x_41.toInt = (x_2 : Int32).toInt + (1 : Int32).toInt := by rw [ex_41]; exact add_toInt (by omega) (by omega)
      have hcl : (x_41 : Int32).toNatClampNeg = (x_41 : Int32).toInt.toNat := rfl
      omega
    have pf_50 : SaidD T g_49 d := SaidD.keep pf_39 eg_49 hx_51
    have ar_pf_50 := SaidD.ar pf_50
    refine lv_aload_n hx hb dX12_takes_76 rfl (lv_at hl 1 rfl) ?_
    refine gf_X12_39 hx hb hts hown hK hP 0 rfl rfl dX12_takes_77 ?_
    refine lv_iload_n hx hb dX12_takes_80 rfl (lv_at hl 0 rfl) ?_
    refine lv_iconst (v := 3) hx hb dX12_takes_81 (by decide) ?_
    refine lv_iadd hx hb dX12_takes_82 ?_
    refine lv_topi (fun x_52 ex_52 => ?_)
    refine lv_aload_n hx hb dX12_takes_83 rfl (lv_at hl 1 rfl) ?_
    refine gf_X12_39 hx hb hts hown hK hP 0 rfl rfl dX12_takes_84 ?_
    refine lv_bipush (v := 10) hx hb dX12_takes_87 (by decide) ?_
    refine va_iald hx hb hK hP 1 0 rfl rfl (vin_dec (by decide +kernel)) dX12_takes_89 ?_
    refine lv_topi (fun x_53 ex_53 => ?_)
    have lx_53 : x_53.toInt = (g_49 10).toInt := congrArg Int32.toInt ex_53
    have hi_54 : vp_in x_52 126 := by
      have z_1 := Int32.lt_iff_toInt_lt.mp (Int32.not_le.mp c_12)
      have y_6 : (6 : Int32).toInt = 6 := by decide
      have y_3 : (3 : Int32).toInt = 3 := by decide
      have y_4 : (4 : Int32).toInt = 4 := by decide
      have y_12 : (12 : Int32).toInt = 12 := by decide
      have t_x_1 : x_1.toInt = (4 : Int32).toInt * (x1 : Int32).toInt := by rw [ex_1]; exact mul_toInt (by first | omega | (rw [y_4]; omega)) (by first | omega | (rw [y_4]; omega))
      rw [y_4] at t_x_1
      have t_x_2 : x_2.toInt = (12 : Int32).toInt + (x_1 : Int32).toInt := by rw [ex_2]; exact add_toInt (by omega) (by omega)
      have t_x_52 : x_52.toInt = (x_2 : Int32).toInt + (3 : Int32).toInt := by rw [ex_52]; exact add_toInt (by omega) (by omega)
      refine vp_in_iff.mpr ⟨?_, ?_⟩ <;> omega
    refine st_int hx hb hK hP hD hS 1 0 rfl rfl hi_54 dX12_takes_90 (fun g_55 H locs eg_55 hP₀ hD₀ hS₀ => ?_)
    replace hP : va_P D classes [((Ma 0), .inr (12, [.ref (Ma 1), .int (Mv 0), .int (Mv 1), .ref (Ma 2), .ref (Ma 3), .ref (Ma 4), .ref (Ma 5), .ref (Ma 6), .int (Mv 2), .int (Mv 3), .int (Mv 4), .int (Mv 5), .int (Mv 6), .int (Mv 7), .int (Mv 8), .ref (Ma 7), .int (Mv 9), .ref (Ma 8), .int (Mv 10), .ref (Ma 9), .ref (Ma 10), .int (Mv 11), .int (Mv 12), .int (Mv 13), .ref (Ma 11), .int (Mv 14), .ref (Ma 12), .ref (Ma 13), .ref (Ma 14), .ref (Ma 15), .ref (Ma 16), .long (Mj 0), .ref (Ma 17), .ref (Ma 18), .ref (Ma 19), .ref (Ma 20)])), ((Ma 10), .inl (tc 0, 126, .inl g_55))] H := hP₀
    replace hD : va_D A [((Ma 0), .inr (12, [.ref (Ma 1), .int (Mv 0), .int (Mv 1), .ref (Ma 2), .ref (Ma 3), .ref (Ma 4), .ref (Ma 5), .ref (Ma 6), .int (Mv 2), .int (Mv 3), .int (Mv 4), .int (Mv 5), .int (Mv 6), .int (Mv 7), .int (Mv 8), .ref (Ma 7), .int (Mv 9), .ref (Ma 8), .int (Mv 10), .ref (Ma 9), .ref (Ma 10), .int (Mv 11), .int (Mv 12), .int (Mv 13), .ref (Ma 11), .int (Mv 14), .ref (Ma 12), .ref (Ma 13), .ref (Ma 14), .ref (Ma 15), .ref (Ma 16), .long (Mj 0), .ref (Ma 17), .ref (Ma 18), .ref (Ma 19), .ref (Ma 20)])), ((Ma 10), .inl (tc 0, 126, .inl g_55))] := hD₀
    replace hS := hS₀
    clear hP₀ hD₀ hS₀
    have hx_57 : 11 ≤ (x_52 : Int32).toNatClampNeg ∧ (x_52 : Int32).toNatClampNeg < 56 := by
      have z_1 := Int32.lt_iff_toInt_lt.mp (Int32.not_le.mp c_12)
      have y_6 : (6 : Int32).toInt = 6 := by decide
      have y_3 : (3 : Int32).toInt = 3 := by decide
      have y_4 : (4 : Int32).toInt = 4 := by decide
      have y_12 : (12 : Int32).toInt = 12 := by decide
      have t_x_1 : x_1.toInt = (4 : Int32).toInt * (x1 : Int32).toInt := by rw [ex_1]; exact mul_toInt (by first | omega | (rw [y_4]; omega)) (by first | omega | (rw [y_4]; omega))
      rw [y_4] at t_x_1
      have t_x_2 : x_2.toInt = (12 : Int32).toInt + (x_1 : Int32).toInt := by rw [ex_2]; exact add_toInt (by omega) (by omega)
      have t_x_52 : x_52.toInt = (x_2 : Int32).toInt + (3 : Int32).toInt := by rw [ex_52]; exact add_toInt (by omega) (by omega)
      have hcl : (x_52 : Int32).toNatClampNeg = (x_52 : Int32).toInt.toNat := rfl
      omega
    have pf_56 : SaidD T g_55 d := SaidD.keep pf_50 eg_55 hx_57
    have ar_pf_56 := SaidD.ar pf_56
    exact retV hx hb hr hlk hP hD hS g_55 ⟨rfl, pf_56⟩ [0, 1] rfl rfl dX12_takes_91 (Nat.le_of_ble_eq_true rfl) (Nat.le_of_ble_eq_true rfl) rfl
set_option maxRecDepth 100000 in
theorem cu_X12_takes {T : Nat → Option Int32} (l : Launch) (D : va_G) (tc : Nat → ClassId) (sk : (Nat → Nat) × (Nat → Nat)) (Ma_0 : Nat) (Ma_1 : Nat) (Ma_2 : Nat) (Ma_3 : Nat) (Ma_4 : Nat) (Ma_5 : Nat) (Ma_6 : Nat) (Ma_7 : Nat) (Ma_8 : Nat) (Ma_9 : Nat) (Ma_10 : Nat) (Ma_11 : Nat) (Ma_12 : Nat) (Ma_13 : Nat) (Ma_14 : Nat) (Ma_15 : Nat) (Ma_16 : Nat) (Ma_17 : Nat) (Ma_18 : Nat) (Ma_19 : Nat) (Ma_20 : Nat) (Mv_0 : Int32) (Mv_1 : Int32) (Mv_2 : Int32) (Mv_3 : Int32) (Mv_4 : Int32) (Mv_5 : Int32) (Mv_6 : Int32) (Mv_7 : Int32) (Mv_8 : Int32) (Mv_9 : Int32) (Mv_10 : Int32) (Mv_11 : Int32) (Mv_12 : Int32) (Mv_13 : Int32) (Mv_14 : Int32) (Mf_10 : Nat → Int32) (Mj_0 : Int64) (x1 : Int32) (d : Int) (h_b : 0 ≤ x1.toInt ∧ x1.toInt < 6) (h_said : SaidD T Mf_10 d) : Ct l yX12_takes cX12_takes 3 none { frames := 0, cells := 0, slots := 0, locals := 0 } D tc sk [.ref Ma_0, .int x1] [(Ma_0, .inr (12, [.ref Ma_1, .int Mv_0, .int Mv_1, .ref Ma_2, .ref Ma_3, .ref Ma_4, .ref Ma_5, .ref Ma_6, .int Mv_2, .int Mv_3, .int Mv_4, .int Mv_5, .int Mv_6, .int Mv_7, .int Mv_8, .ref Ma_7, .int Mv_9, .ref Ma_8, .int Mv_10, .ref Ma_9, .ref Ma_10, .int Mv_11, .int Mv_12, .int Mv_13, .ref Ma_11, .int Mv_14, .ref Ma_12, .ref Ma_13, .ref Ma_14, .ref Ma_15, .ref Ma_16, .long Mj_0, .ref Ma_17, .ref Ma_18, .ref Ma_19, .ref Ma_20])), (Ma_10, .inl (tc 0, 126, .inl Mf_10))] (fun (v : Option Value) (oo0x1 : Nat → Int32) => v = none ∧ (SaidD T oo0x1 d)) (fun (oo0x1 : Nat → Int32) => [(Ma_0, .inr (12, [.ref Ma_1, .int Mv_0, .int Mv_1, .ref Ma_2, .ref Ma_3, .ref Ma_4, .ref Ma_5, .ref Ma_6, .int Mv_2, .int Mv_3, .int Mv_4, .int Mv_5, .int Mv_6, .int Mv_7, .int Mv_8, .ref Ma_7, .int Mv_9, .ref Ma_8, .int Mv_10, .ref Ma_9, .ref Ma_10, .int Mv_11, .int Mv_12, .int Mv_13, .ref Ma_11, .int Mv_14, .ref Ma_12, .ref Ma_13, .ref Ma_14, .ref Ma_15, .ref Ma_16, .long Mj_0, .ref Ma_17, .ref Ma_18, .ref Ma_19, .ref Ma_20])), (Ma_10, .inl (tc 0, 126, .inl oo0x1))]) 0 0 :=
  ct_X12_takes l D tc sk (fun k => ([Ma_0, Ma_1, Ma_2, Ma_3, Ma_4, Ma_5, Ma_6, Ma_7, Ma_8, Ma_9, Ma_10, Ma_11, Ma_12, Ma_13, Ma_14, Ma_15, Ma_16, Ma_17, Ma_18, Ma_19, Ma_20] : List (Nat)).getD k 0) (fun k => ([Mv_0, Mv_1, Mv_2, Mv_3, Mv_4, Mv_5, Mv_6, Mv_7, Mv_8, Mv_9, Mv_10, Mv_11, Mv_12, Mv_13, Mv_14] : List (Int32)).getD k 0) (fun k => ([(fun _ => 0), (fun _ => 0), (fun _ => 0), (fun _ => 0), (fun _ => 0), (fun _ => 0), (fun _ => 0), (fun _ => 0), (fun _ => 0), (fun _ => 0), Mf_10] : List (Nat → Int32)).getD k (fun _ => 0)) (fun k => ([Mj_0] : List (Int64)).getD k 0) x1 d h_b h_said
set_option maxHeartbeats 4000000 in
set_option maxRecDepth 100000 in
theorem ct_X12_isMet {T : Nat → Option Int32} (l : Launch) (D : va_G) (tc : Nat → ClassId) (sk : (Nat → Nat) × (Nat → Nat)) (Ma : Nat → Nat) (Mv : Nat → Int32) (Mf : Nat → Nat → Int32) (Mj : Nat → Int64) (x1 : Int32) (d : Int) (h_b : 0 ≤ x1.toInt ∧ x1.toInt < 6) (h_said : SaidD T (Mf 10) d) : Ct l yX12_isMet cX12_isMet 2 (some .boolean) { frames := 2, cells := 0, slots := 0, locals := 40 } D tc sk [.ref (Ma 0), .int x1] [((Ma 0), .inr (12, [.ref (Ma 1), .int (Mv 0), .int (Mv 1), .ref (Ma 2), .ref (Ma 3), .ref (Ma 4), .ref (Ma 5), .ref (Ma 6), .int (Mv 2), .int (Mv 3), .int (Mv 4), .int (Mv 5), .int (Mv 6), .int (Mv 7), .int (Mv 8), .ref (Ma 7), .int (Mv 9), .ref (Ma 8), .int (Mv 10), .ref (Ma 9), .ref (Ma 10), .int (Mv 11), .int (Mv 12), .int (Mv 13), .ref (Ma 11), .int (Mv 14), .ref (Ma 12), .ref (Ma 13), .ref (Ma 14), .ref (Ma 15), .ref (Ma 16), .long (Mj 0), .ref (Ma 17), .ref (Ma 18), .ref (Ma 19), .ref (Ma 20)])), ((Ma 10), .inl (tc 0, 126, .inl (Mf 10)))] (fun (v : Option Value) (_ : Unit) => ∃ r : Int32, v = some (.int r) ∧ ((r.toInt = 0 ∨ r.toInt = 1))) (fun (_ : Unit) => [((Ma 0), .inr (12, [.ref (Ma 1), .int (Mv 0), .int (Mv 1), .ref (Ma 2), .ref (Ma 3), .ref (Ma 4), .ref (Ma 5), .ref (Ma 6), .int (Mv 2), .int (Mv 3), .int (Mv 4), .int (Mv 5), .int (Mv 6), .int (Mv 7), .int (Mv 8), .ref (Ma 7), .int (Mv 9), .ref (Ma 8), .int (Mv 10), .ref (Ma 9), .ref (Ma 10), .int (Mv 11), .int (Mv 12), .int (Mv 13), .ref (Ma 11), .int (Mv 14), .ref (Ma 12), .ref (Ma 13), .ref (Ma 14), .ref (Ma 15), .ref (Ma 16), .long (Mj 0), .ref (Ma 17), .ref (Ma 18), .ref (Ma 19), .ref (Ma 20)])), ((Ma 10), .inl (tc 0, 126, .inl (Mf 10)))]) 0 0 := by
  refine Ct.start (by decide) (Nat.le_of_ble_eq_true rfl) (fun p e s m below meth c A ls hx hb hr hlk hin hml hown hts hK hX hP hD hA hl hS => ?_)
  have hl : lv_has ls 2 [(0, .ref (Ma 0)), (1, .int x1)] := hl
  have ar_h_said := SaidD.ar h_said
  refine lv_aload_n hx hb dX12_isMet_0 rfl (lv_at hl 0 rfl) ?_
  refine gf_X12_324 hx hb hts hown hK hP 0 rfl rfl dX12_isMet_1 ?_
  refine lv_aload_n hx hb dX12_isMet_4 rfl (lv_at hl 0 rfl) ?_
  refine cV (a := (Ma 0)) (As := []) (rest := [.int (Mv 13)]) (wr := []) ⟨hx, hb, hml, hown, hts⟩ hK hX hA (cu_X12_clock l D tc sk (Ma 0) (Ma 1) (Ma 2) (Ma 3) (Ma 4) (Ma 5) (Ma 6) (Ma 7) (Ma 8) (Ma 9) (Ma 10) (Ma 11) (Ma 12) (Ma 13) (Ma 14) (Ma 15) (Ma 16) (Ma 17) (Ma 18) (Ma 19) (Ma 20) (Mv 0) (Mv 1) (Mv 2) (Mv 3) (Mv 4) (Mv 5) (Mv 6) (Mv 7) (Mv 8) (Mv 9) (Mv 10) (Mv 11) (Mv 12) (Mv 13) (Mv 14) (Mf 10) (Mj 0) d h_said) k_1435 k_1432 k_1434 k_70 k_106 pl_X12_clock ⟨Nat.le_of_ble_eq_true rfl, Nat.le_of_ble_eq_true rfl⟩ rfl rfl (va_recv hK hP (ci := 12) (q0 := 0) rfl rfl) hP hD hS [0, 1] [] rfl rfl rfl rfl rfl (by decide) rfl hl.1 rfl (Nat.le_of_ble_eq_true rfl) dX12_isMet_5 ⟨Nat.le_of_ble_eq_true rfl, Nat.le_of_ble_eq_true rfl⟩ (fun v_1 u_2 H locs hv_3 hP₀ hD₀ hS₀ => ?_)
  obtain ⟨r_4, rfl, he_5⟩ := hv_3
  have he_5 : (0 ≤ r_4.toInt ∧ r_4.toInt < 10) := he_5
  refine W.eq (g2 := F0 m 8 ls [.int r_4, .int (Mv 13)]) rfl ?_
  replace hP : va_P D classes [((Ma 0), .inr (12, [.ref (Ma 1), .int (Mv 0), .int (Mv 1), .ref (Ma 2), .ref (Ma 3), .ref (Ma 4), .ref (Ma 5), .ref (Ma 6), .int (Mv 2), .int (Mv 3), .int (Mv 4), .int (Mv 5), .int (Mv 6), .int (Mv 7), .int (Mv 8), .ref (Ma 7), .int (Mv 9), .ref (Ma 8), .int (Mv 10), .ref (Ma 9), .ref (Ma 10), .int (Mv 11), .int (Mv 12), .int (Mv 13), .ref (Ma 11), .int (Mv 14), .ref (Ma 12), .ref (Ma 13), .ref (Ma 14), .ref (Ma 15), .ref (Ma 16), .long (Mj 0), .ref (Ma 17), .ref (Ma 18), .ref (Ma 19), .ref (Ma 20)])), ((Ma 10), .inl (tc 0, 126, .inl (Mf 10)))] H := hP₀
  replace hD : va_D A [((Ma 0), .inr (12, [.ref (Ma 1), .int (Mv 0), .int (Mv 1), .ref (Ma 2), .ref (Ma 3), .ref (Ma 4), .ref (Ma 5), .ref (Ma 6), .int (Mv 2), .int (Mv 3), .int (Mv 4), .int (Mv 5), .int (Mv 6), .int (Mv 7), .int (Mv 8), .ref (Ma 7), .int (Mv 9), .ref (Ma 8), .int (Mv 10), .ref (Ma 9), .ref (Ma 10), .int (Mv 11), .int (Mv 12), .int (Mv 13), .ref (Ma 11), .int (Mv 14), .ref (Ma 12), .ref (Ma 13), .ref (Ma 14), .ref (Ma 15), .ref (Ma 16), .long (Mj 0), .ref (Ma 17), .ref (Ma 18), .ref (Ma 19), .ref (Ma 20)])), ((Ma 10), .inl (tc 0, 126, .inl (Mf 10)))] := hD₀
  replace hS := hS₀
  clear hP₀ hD₀ hS₀
  refine cS (As := [.int (Mv 13), .int r_4]) (rest := []) (wr := [((Ma 0), .inr (12, [.ref (Ma 1), .int (Mv 0), .int (Mv 1), .ref (Ma 2), .ref (Ma 3), .ref (Ma 4), .ref (Ma 5), .ref (Ma 6), .int (Mv 2), .int (Mv 3), .int (Mv 4), .int (Mv 5), .int (Mv 6), .int (Mv 7), .int (Mv 8), .ref (Ma 7), .int (Mv 9), .ref (Ma 8), .int (Mv 10), .ref (Ma 9), .ref (Ma 10), .int (Mv 11), .int (Mv 12), .int (Mv 13), .ref (Ma 11), .int (Mv 14), .ref (Ma 12), .ref (Ma 13), .ref (Ma 14), .ref (Ma 15), .ref (Ma 16), .long (Mj 0), .ref (Ma 17), .ref (Ma 18), .ref (Ma 19), .ref (Ma 20)])), ((Ma 10), .inl (tc 0, 126, .inl (Mf 10)))]) ⟨hx, hb, hml, hown, hts⟩ hK hX hA (ct_X12_isOf l D tc sk (Mv 13) r_4) k_1469 k_1467 k_1468 k_106 pl_X12_isOf ⟨Nat.le_of_ble_eq_true rfl, Nat.le_of_ble_eq_true rfl⟩ rfl rfl  hP hD hS [] [0, 1] rfl rfl rfl rfl rfl (by decide) rfl hl.1 rfl (Nat.le_of_ble_eq_true rfl) dX12_isMet_8 ⟨Nat.le_of_ble_eq_true rfl, Nat.le_of_ble_eq_true rfl⟩ (fun v_7 u_8 H locs hv_9 hP₀ hD₀ hS₀ => ?_)
  obtain ⟨r_10, rfl, he_11⟩ := hv_9
  have he_11 : (r_10.toInt = 0 ∨ r_10.toInt = 1) := he_11
  refine W.eq (g2 := F0 m 11 ls [.int r_10]) rfl ?_
  replace hP : va_P D classes [((Ma 0), .inr (12, [.ref (Ma 1), .int (Mv 0), .int (Mv 1), .ref (Ma 2), .ref (Ma 3), .ref (Ma 4), .ref (Ma 5), .ref (Ma 6), .int (Mv 2), .int (Mv 3), .int (Mv 4), .int (Mv 5), .int (Mv 6), .int (Mv 7), .int (Mv 8), .ref (Ma 7), .int (Mv 9), .ref (Ma 8), .int (Mv 10), .ref (Ma 9), .ref (Ma 10), .int (Mv 11), .int (Mv 12), .int (Mv 13), .ref (Ma 11), .int (Mv 14), .ref (Ma 12), .ref (Ma 13), .ref (Ma 14), .ref (Ma 15), .ref (Ma 16), .long (Mj 0), .ref (Ma 17), .ref (Ma 18), .ref (Ma 19), .ref (Ma 20)])), ((Ma 10), .inl (tc 0, 126, .inl (Mf 10)))] H := hP₀
  replace hD : va_D A [((Ma 0), .inr (12, [.ref (Ma 1), .int (Mv 0), .int (Mv 1), .ref (Ma 2), .ref (Ma 3), .ref (Ma 4), .ref (Ma 5), .ref (Ma 6), .int (Mv 2), .int (Mv 3), .int (Mv 4), .int (Mv 5), .int (Mv 6), .int (Mv 7), .int (Mv 8), .ref (Ma 7), .int (Mv 9), .ref (Ma 8), .int (Mv 10), .ref (Ma 9), .ref (Ma 10), .int (Mv 11), .int (Mv 12), .int (Mv 13), .ref (Ma 11), .int (Mv 14), .ref (Ma 12), .ref (Ma 13), .ref (Ma 14), .ref (Ma 15), .ref (Ma 16), .long (Mj 0), .ref (Ma 17), .ref (Ma 18), .ref (Ma 19), .ref (Ma 20)])), ((Ma 10), .inl (tc 0, 126, .inl (Mf 10)))] := hD₀
  replace hS := hS₀
  clear hP₀ hD₀ hS₀
  refine lv_if_ne (tgt := 33) hx hb dX12_isMet_11 (by decide) (fun c_13 => ?_) (fun c_13 => ?_)
  · skip
    refine lv_iconst (v := 1) hx hb dX12_isMet_33 (by decide) ?_
    refine lv_goto (tgt := 38) hx hb dX12_isMet_34 (by decide) ?_
    have hp_14 : ((1 : Int32).toInt = 0 ∨ (1 : Int32).toInt = 1) := by
      have z_1 : ¬ (r_10 : Int32).toInt = (0 : Int32).toInt := fun z => c_13 (Int32.toInt_inj.mp z)
      have y_0 : (0 : Int32).toInt = 0 := by decide
      have y_1 : (1 : Int32).toInt = 1 := by decide
      have yr : (1 : Int32).toInt = 1 := by decide
      omega
    exact retI (v := 1) hx hb hr hlk (rfl) hP hD hS () ⟨_, rfl, hp_14⟩ [0, 1] rfl rfl dX12_isMet_38 (Nat.le_of_ble_eq_true rfl) (Nat.le_of_ble_eq_true rfl) rfl
  · skip
    refine lv_aload_n hx hb dX12_isMet_14 rfl (lv_at hl 0 rfl) ?_
    refine gf_X12_39 hx hb hts hown hK hP 0 rfl rfl dX12_isMet_15 ?_
    refine lv_bipush (v := 46) hx hb dX12_isMet_18 (by decide) ?_
    refine lv_aload_n hx hb dX12_isMet_20 rfl (lv_at hl 0 rfl) ?_
    refine cV (a := (Ma 0)) (As := []) (rest := [.int 46, .ref (Ma 10)]) (wr := []) ⟨hx, hb, hml, hown, hts⟩ hK hX hA (cu_X12_clock l D tc sk (Ma 0) (Ma 1) (Ma 2) (Ma 3) (Ma 4) (Ma 5) (Ma 6) (Ma 7) (Ma 8) (Ma 9) (Ma 10) (Ma 11) (Ma 12) (Ma 13) (Ma 14) (Ma 15) (Ma 16) (Ma 17) (Ma 18) (Ma 19) (Ma 20) (Mv 0) (Mv 1) (Mv 2) (Mv 3) (Mv 4) (Mv 5) (Mv 6) (Mv 7) (Mv 8) (Mv 9) (Mv 10) (Mv 11) (Mv 12) (Mv 13) (Mv 14) (Mf 10) (Mj 0) d h_said) k_1435 k_1432 k_1434 k_70 k_106 pl_X12_clock ⟨Nat.le_of_ble_eq_true rfl, Nat.le_of_ble_eq_true rfl⟩ rfl rfl (va_recv hK hP (ci := 12) (q0 := 0) rfl rfl) hP hD hS [0, 1] [] rfl rfl rfl rfl rfl (by decide) rfl hl.1 rfl (Nat.le_of_ble_eq_true rfl) dX12_isMet_21 ⟨Nat.le_of_ble_eq_true rfl, Nat.le_of_ble_eq_true rfl⟩ (fun v_15 u_16 H locs hv_17 hP₀ hD₀ hS₀ => ?_)
    obtain ⟨r_18, rfl, he_19⟩ := hv_17
    have he_19 : (0 ≤ r_18.toInt ∧ r_18.toInt < 10) := he_19
    refine W.eq (g2 := F0 m 24 ls [.int r_18, .int 46, .ref (Ma 10)]) rfl ?_
    replace hP : va_P D classes [((Ma 0), .inr (12, [.ref (Ma 1), .int (Mv 0), .int (Mv 1), .ref (Ma 2), .ref (Ma 3), .ref (Ma 4), .ref (Ma 5), .ref (Ma 6), .int (Mv 2), .int (Mv 3), .int (Mv 4), .int (Mv 5), .int (Mv 6), .int (Mv 7), .int (Mv 8), .ref (Ma 7), .int (Mv 9), .ref (Ma 8), .int (Mv 10), .ref (Ma 9), .ref (Ma 10), .int (Mv 11), .int (Mv 12), .int (Mv 13), .ref (Ma 11), .int (Mv 14), .ref (Ma 12), .ref (Ma 13), .ref (Ma 14), .ref (Ma 15), .ref (Ma 16), .long (Mj 0), .ref (Ma 17), .ref (Ma 18), .ref (Ma 19), .ref (Ma 20)])), ((Ma 10), .inl (tc 0, 126, .inl (Mf 10)))] H := hP₀
    replace hD : va_D A [((Ma 0), .inr (12, [.ref (Ma 1), .int (Mv 0), .int (Mv 1), .ref (Ma 2), .ref (Ma 3), .ref (Ma 4), .ref (Ma 5), .ref (Ma 6), .int (Mv 2), .int (Mv 3), .int (Mv 4), .int (Mv 5), .int (Mv 6), .int (Mv 7), .int (Mv 8), .ref (Ma 7), .int (Mv 9), .ref (Ma 8), .int (Mv 10), .ref (Ma 9), .ref (Ma 10), .int (Mv 11), .int (Mv 12), .int (Mv 13), .ref (Ma 11), .int (Mv 14), .ref (Ma 12), .ref (Ma 13), .ref (Ma 14), .ref (Ma 15), .ref (Ma 16), .long (Mj 0), .ref (Ma 17), .ref (Ma 18), .ref (Ma 19), .ref (Ma 20)])), ((Ma 10), .inl (tc 0, 126, .inl (Mf 10)))] := hD₀
    replace hS := hS₀
    clear hP₀ hD₀ hS₀
    refine lv_iadd hx hb dX12_isMet_24 ?_
    refine lv_topi (fun x_21 ex_21 => ?_)
    have hi_22 : vp_in x_21 126 := by
      have z_1 := congrArg Int32.toInt c_13
      have y_0 : (0 : Int32).toInt = 0 := by decide
      have y_46 : (46 : Int32).toInt = 46 := by decide
      have t_x_21 : x_21.toInt = (46 : Int32).toInt + (r_18 : Int32).toInt := by rw [ex_21]; exact add_toInt (by omega) (by omega)
      refine vp_in_iff.mpr ⟨?_, ?_⟩ <;> omega
    refine va_iald hx hb hK hP 1 0 rfl rfl hi_22 dX12_isMet_25 ?_
    refine lv_topi (fun x_23 ex_23 => ?_)
    refine lv_iload_n hx hb dX12_isMet_26 rfl (lv_at hl 1 rfl) ?_
    refine cS (As := [.int x_23, .int x1]) (rest := []) (wr := [((Ma 0), .inr (12, [.ref (Ma 1), .int (Mv 0), .int (Mv 1), .ref (Ma 2), .ref (Ma 3), .ref (Ma 4), .ref (Ma 5), .ref (Ma 6), .int (Mv 2), .int (Mv 3), .int (Mv 4), .int (Mv 5), .int (Mv 6), .int (Mv 7), .int (Mv 8), .ref (Ma 7), .int (Mv 9), .ref (Ma 8), .int (Mv 10), .ref (Ma 9), .ref (Ma 10), .int (Mv 11), .int (Mv 12), .int (Mv 13), .ref (Ma 11), .int (Mv 14), .ref (Ma 12), .ref (Ma 13), .ref (Ma 14), .ref (Ma 15), .ref (Ma 16), .long (Mj 0), .ref (Ma 17), .ref (Ma 18), .ref (Ma 19), .ref (Ma 20)])), ((Ma 10), .inl (tc 0, 126, .inl (Mf 10)))]) ⟨hx, hb, hml, hown, hts⟩ hK hX hA (ct_X12_isOf l D tc sk x_23 x1) k_1469 k_1467 k_1468 k_106 pl_X12_isOf ⟨Nat.le_of_ble_eq_true rfl, Nat.le_of_ble_eq_true rfl⟩ rfl rfl  hP hD hS [] [0, 1] rfl rfl rfl rfl rfl (by decide) rfl hl.1 rfl (Nat.le_of_ble_eq_true rfl) dX12_isMet_27 ⟨Nat.le_of_ble_eq_true rfl, Nat.le_of_ble_eq_true rfl⟩ (fun v_24 u_25 H locs hv_26 hP₀ hD₀ hS₀ => ?_)
    obtain ⟨r_27, rfl, he_28⟩ := hv_26
    have he_28 : (r_27.toInt = 0 ∨ r_27.toInt = 1) := he_28
    refine W.eq (g2 := F0 m 30 ls [.int r_27]) rfl ?_
    replace hP : va_P D classes [((Ma 0), .inr (12, [.ref (Ma 1), .int (Mv 0), .int (Mv 1), .ref (Ma 2), .ref (Ma 3), .ref (Ma 4), .ref (Ma 5), .ref (Ma 6), .int (Mv 2), .int (Mv 3), .int (Mv 4), .int (Mv 5), .int (Mv 6), .int (Mv 7), .int (Mv 8), .ref (Ma 7), .int (Mv 9), .ref (Ma 8), .int (Mv 10), .ref (Ma 9), .ref (Ma 10), .int (Mv 11), .int (Mv 12), .int (Mv 13), .ref (Ma 11), .int (Mv 14), .ref (Ma 12), .ref (Ma 13), .ref (Ma 14), .ref (Ma 15), .ref (Ma 16), .long (Mj 0), .ref (Ma 17), .ref (Ma 18), .ref (Ma 19), .ref (Ma 20)])), ((Ma 10), .inl (tc 0, 126, .inl (Mf 10)))] H := hP₀
    replace hD : va_D A [((Ma 0), .inr (12, [.ref (Ma 1), .int (Mv 0), .int (Mv 1), .ref (Ma 2), .ref (Ma 3), .ref (Ma 4), .ref (Ma 5), .ref (Ma 6), .int (Mv 2), .int (Mv 3), .int (Mv 4), .int (Mv 5), .int (Mv 6), .int (Mv 7), .int (Mv 8), .ref (Ma 7), .int (Mv 9), .ref (Ma 8), .int (Mv 10), .ref (Ma 9), .ref (Ma 10), .int (Mv 11), .int (Mv 12), .int (Mv 13), .ref (Ma 11), .int (Mv 14), .ref (Ma 12), .ref (Ma 13), .ref (Ma 14), .ref (Ma 15), .ref (Ma 16), .long (Mj 0), .ref (Ma 17), .ref (Ma 18), .ref (Ma 19), .ref (Ma 20)])), ((Ma 10), .inl (tc 0, 126, .inl (Mf 10)))] := hD₀
    replace hS := hS₀
    clear hP₀ hD₀ hS₀
    refine lv_if_eq (tgt := 37) hx hb dX12_isMet_30 (by decide) (fun c_30 => ?_) (fun c_30 => ?_)
    · skip
      refine lv_iconst (v := 0) hx hb dX12_isMet_37 (by decide) ?_
      have hp_31 : ((0 : Int32).toInt = 0 ∨ (0 : Int32).toInt = 1) := by
        have z_1 := congrArg Int32.toInt c_13
        have z_2 := congrArg Int32.toInt c_30
        have y_0 : (0 : Int32).toInt = 0 := by decide
        omega
      exact retI (v := 0) hx hb hr hlk (rfl) hP hD hS () ⟨_, rfl, hp_31⟩ [0, 1] rfl rfl dX12_isMet_38 (Nat.le_of_ble_eq_true rfl) (Nat.le_of_ble_eq_true rfl) rfl
    · skip
      refine lv_iconst (v := 1) hx hb dX12_isMet_33 (by decide) ?_
      refine lv_goto (tgt := 38) hx hb dX12_isMet_34 (by decide) ?_
      have hp_32 : ((1 : Int32).toInt = 0 ∨ (1 : Int32).toInt = 1) := by
        have z_1 := congrArg Int32.toInt c_13
        have z_2 : ¬ (r_27 : Int32).toInt = (0 : Int32).toInt := fun z => c_30 (Int32.toInt_inj.mp z)
        have y_0 : (0 : Int32).toInt = 0 := by decide
        have y_1 : (1 : Int32).toInt = 1 := by decide
        have yr : (1 : Int32).toInt = 1 := by decide
        omega
      exact retI (v := 1) hx hb hr hlk (rfl) hP hD hS () ⟨_, rfl, hp_32⟩ [0, 1] rfl rfl dX12_isMet_38 (Nat.le_of_ble_eq_true rfl) (Nat.le_of_ble_eq_true rfl) rfl
set_option maxRecDepth 100000 in
theorem cu_X12_isMet {T : Nat → Option Int32} (l : Launch) (D : va_G) (tc : Nat → ClassId) (sk : (Nat → Nat) × (Nat → Nat)) (Ma_0 : Nat) (Ma_1 : Nat) (Ma_2 : Nat) (Ma_3 : Nat) (Ma_4 : Nat) (Ma_5 : Nat) (Ma_6 : Nat) (Ma_7 : Nat) (Ma_8 : Nat) (Ma_9 : Nat) (Ma_10 : Nat) (Ma_11 : Nat) (Ma_12 : Nat) (Ma_13 : Nat) (Ma_14 : Nat) (Ma_15 : Nat) (Ma_16 : Nat) (Ma_17 : Nat) (Ma_18 : Nat) (Ma_19 : Nat) (Ma_20 : Nat) (Mv_0 : Int32) (Mv_1 : Int32) (Mv_2 : Int32) (Mv_3 : Int32) (Mv_4 : Int32) (Mv_5 : Int32) (Mv_6 : Int32) (Mv_7 : Int32) (Mv_8 : Int32) (Mv_9 : Int32) (Mv_10 : Int32) (Mv_11 : Int32) (Mv_12 : Int32) (Mv_13 : Int32) (Mv_14 : Int32) (Mf_10 : Nat → Int32) (Mj_0 : Int64) (x1 : Int32) (d : Int) (h_b : 0 ≤ x1.toInt ∧ x1.toInt < 6) (h_said : SaidD T Mf_10 d) : Ct l yX12_isMet cX12_isMet 2 (some .boolean) { frames := 2, cells := 0, slots := 0, locals := 40 } D tc sk [.ref Ma_0, .int x1] [(Ma_0, .inr (12, [.ref Ma_1, .int Mv_0, .int Mv_1, .ref Ma_2, .ref Ma_3, .ref Ma_4, .ref Ma_5, .ref Ma_6, .int Mv_2, .int Mv_3, .int Mv_4, .int Mv_5, .int Mv_6, .int Mv_7, .int Mv_8, .ref Ma_7, .int Mv_9, .ref Ma_8, .int Mv_10, .ref Ma_9, .ref Ma_10, .int Mv_11, .int Mv_12, .int Mv_13, .ref Ma_11, .int Mv_14, .ref Ma_12, .ref Ma_13, .ref Ma_14, .ref Ma_15, .ref Ma_16, .long Mj_0, .ref Ma_17, .ref Ma_18, .ref Ma_19, .ref Ma_20])), (Ma_10, .inl (tc 0, 126, .inl Mf_10))] (fun (v : Option Value) (_ : Unit) => ∃ r : Int32, v = some (.int r) ∧ ((r.toInt = 0 ∨ r.toInt = 1))) (fun (_ : Unit) => [(Ma_0, .inr (12, [.ref Ma_1, .int Mv_0, .int Mv_1, .ref Ma_2, .ref Ma_3, .ref Ma_4, .ref Ma_5, .ref Ma_6, .int Mv_2, .int Mv_3, .int Mv_4, .int Mv_5, .int Mv_6, .int Mv_7, .int Mv_8, .ref Ma_7, .int Mv_9, .ref Ma_8, .int Mv_10, .ref Ma_9, .ref Ma_10, .int Mv_11, .int Mv_12, .int Mv_13, .ref Ma_11, .int Mv_14, .ref Ma_12, .ref Ma_13, .ref Ma_14, .ref Ma_15, .ref Ma_16, .long Mj_0, .ref Ma_17, .ref Ma_18, .ref Ma_19, .ref Ma_20])), (Ma_10, .inl (tc 0, 126, .inl Mf_10))]) 0 0 :=
  ct_X12_isMet l D tc sk (fun k => ([Ma_0, Ma_1, Ma_2, Ma_3, Ma_4, Ma_5, Ma_6, Ma_7, Ma_8, Ma_9, Ma_10, Ma_11, Ma_12, Ma_13, Ma_14, Ma_15, Ma_16, Ma_17, Ma_18, Ma_19, Ma_20] : List (Nat)).getD k 0) (fun k => ([Mv_0, Mv_1, Mv_2, Mv_3, Mv_4, Mv_5, Mv_6, Mv_7, Mv_8, Mv_9, Mv_10, Mv_11, Mv_12, Mv_13, Mv_14] : List (Int32)).getD k 0) (fun k => ([(fun _ => 0), (fun _ => 0), (fun _ => 0), (fun _ => 0), (fun _ => 0), (fun _ => 0), (fun _ => 0), (fun _ => 0), (fun _ => 0), (fun _ => 0), Mf_10] : List (Nat → Int32)).getD k (fun _ => 0)) (fun k => ([Mj_0] : List (Int64)).getD k 0) x1 d h_b h_said
set_option maxHeartbeats 4000000 in
set_option maxRecDepth 100000 in
theorem ct_X12_comes {T : Nat → Option Int32} (l : Launch) (D : va_G) (tc : Nat → ClassId) (sk : (Nat → Nat) × (Nat → Nat)) (Ma : Nat → Nat) (Mv : Nat → Int32) (Mf : Nat → Nat → Int32) (Mj : Nat → Int64) (x1 : Int32) (d : Int) (h_b : 0 ≤ x1.toInt ∧ x1.toInt < 6) (h_said : SaidD T (Mf 10) d) : Ct l yX12_comes cX12_comes 2 (some .boolean) { frames := 3, cells := 0, slots := 0, locals := 61 } D tc sk [.ref (Ma 0), .int x1] [((Ma 0), .inr (12, [.ref (Ma 1), .int (Mv 0), .int (Mv 1), .ref (Ma 2), .ref (Ma 3), .ref (Ma 4), .ref (Ma 5), .ref (Ma 6), .int (Mv 2), .int (Mv 3), .int (Mv 4), .int (Mv 5), .int (Mv 6), .int (Mv 7), .int (Mv 8), .ref (Ma 7), .int (Mv 9), .ref (Ma 8), .int (Mv 10), .ref (Ma 9), .ref (Ma 10), .int (Mv 11), .int (Mv 12), .int (Mv 13), .ref (Ma 11), .int (Mv 14), .ref (Ma 12), .ref (Ma 13), .ref (Ma 14), .ref (Ma 15), .ref (Ma 16), .long (Mj 0), .ref (Ma 17), .ref (Ma 18), .ref (Ma 19), .ref (Ma 20)])), ((Ma 10), .inl (tc 0, 126, .inl (Mf 10)))] (fun (v : Option Value) (oo0x1 : Nat → Int32) => ∃ r : Int32, v = some (.int r) ∧ ((r.toInt = 0 ∨ r.toInt = 1)) ∧ (SaidD T oo0x1 d)) (fun (oo0x1 : Nat → Int32) => [((Ma 0), .inr (12, [.ref (Ma 1), .int (Mv 0), .int (Mv 1), .ref (Ma 2), .ref (Ma 3), .ref (Ma 4), .ref (Ma 5), .ref (Ma 6), .int (Mv 2), .int (Mv 3), .int (Mv 4), .int (Mv 5), .int (Mv 6), .int (Mv 7), .int (Mv 8), .ref (Ma 7), .int (Mv 9), .ref (Ma 8), .int (Mv 10), .ref (Ma 9), .ref (Ma 10), .int (Mv 11), .int (Mv 12), .int (Mv 13), .ref (Ma 11), .int (Mv 14), .ref (Ma 12), .ref (Ma 13), .ref (Ma 14), .ref (Ma 15), .ref (Ma 16), .long (Mj 0), .ref (Ma 17), .ref (Ma 18), .ref (Ma 19), .ref (Ma 20)])), ((Ma 10), .inl (tc 0, 126, .inl oo0x1))]) 0 0 := by
  refine Ct.start (by decide) (Nat.le_of_ble_eq_true rfl) (fun p e s m below meth c A ls hx hb hr hlk hin hml hown hts hK hX hP hD hA hl hS => ?_)
  have hl : lv_has ls 2 [(0, .ref (Ma 0)), (1, .int x1)] := hl
  have ar_h_said := SaidD.ar h_said
  refine lv_aload_n hx hb dX12_comes_0 rfl (lv_at hl 0 rfl) ?_
  refine lv_iload_n hx hb dX12_comes_1 rfl (lv_at hl 1 rfl) ?_
  refine cV (a := (Ma 0)) (As := [.int x1]) (rest := []) (wr := []) ⟨hx, hb, hml, hown, hts⟩ hK hX hA (cu_X12_isMet l D tc sk (Ma 0) (Ma 1) (Ma 2) (Ma 3) (Ma 4) (Ma 5) (Ma 6) (Ma 7) (Ma 8) (Ma 9) (Ma 10) (Ma 11) (Ma 12) (Ma 13) (Ma 14) (Ma 15) (Ma 16) (Ma 17) (Ma 18) (Ma 19) (Ma 20) (Mv 0) (Mv 1) (Mv 2) (Mv 3) (Mv 4) (Mv 5) (Mv 6) (Mv 7) (Mv 8) (Mv 9) (Mv 10) (Mv 11) (Mv 12) (Mv 13) (Mv 14) (Mf 10) (Mj 0) x1 d h_b h_said) k_1466 k_1463 k_1465 k_77 k_106 pl_X12_isMet ⟨Nat.le_of_ble_eq_true rfl, Nat.le_of_ble_eq_true rfl⟩ rfl rfl (va_recv hK hP (ci := 12) (q0 := 0) rfl rfl) hP hD hS [0, 1] [] rfl rfl rfl rfl rfl (by decide) rfl hl.1 rfl (Nat.le_of_ble_eq_true rfl) dX12_comes_2 ⟨Nat.le_of_ble_eq_true rfl, Nat.le_of_ble_eq_true rfl⟩ (fun v_1 u_2 H locs hv_3 hP₀ hD₀ hS₀ => ?_)
  obtain ⟨r_4, rfl, he_5⟩ := hv_3
  have he_5 : (r_4.toInt = 0 ∨ r_4.toInt = 1) := he_5
  refine W.eq (g2 := F0 m 5 ls [.int r_4]) rfl ?_
  replace hP : va_P D classes [((Ma 0), .inr (12, [.ref (Ma 1), .int (Mv 0), .int (Mv 1), .ref (Ma 2), .ref (Ma 3), .ref (Ma 4), .ref (Ma 5), .ref (Ma 6), .int (Mv 2), .int (Mv 3), .int (Mv 4), .int (Mv 5), .int (Mv 6), .int (Mv 7), .int (Mv 8), .ref (Ma 7), .int (Mv 9), .ref (Ma 8), .int (Mv 10), .ref (Ma 9), .ref (Ma 10), .int (Mv 11), .int (Mv 12), .int (Mv 13), .ref (Ma 11), .int (Mv 14), .ref (Ma 12), .ref (Ma 13), .ref (Ma 14), .ref (Ma 15), .ref (Ma 16), .long (Mj 0), .ref (Ma 17), .ref (Ma 18), .ref (Ma 19), .ref (Ma 20)])), ((Ma 10), .inl (tc 0, 126, .inl (Mf 10)))] H := hP₀
  replace hD : va_D A [((Ma 0), .inr (12, [.ref (Ma 1), .int (Mv 0), .int (Mv 1), .ref (Ma 2), .ref (Ma 3), .ref (Ma 4), .ref (Ma 5), .ref (Ma 6), .int (Mv 2), .int (Mv 3), .int (Mv 4), .int (Mv 5), .int (Mv 6), .int (Mv 7), .int (Mv 8), .ref (Ma 7), .int (Mv 9), .ref (Ma 8), .int (Mv 10), .ref (Ma 9), .ref (Ma 10), .int (Mv 11), .int (Mv 12), .int (Mv 13), .ref (Ma 11), .int (Mv 14), .ref (Ma 12), .ref (Ma 13), .ref (Ma 14), .ref (Ma 15), .ref (Ma 16), .long (Mj 0), .ref (Ma 17), .ref (Ma 18), .ref (Ma 19), .ref (Ma 20)])), ((Ma 10), .inl (tc 0, 126, .inl (Mf 10)))] := hD₀
  replace hS := hS₀
  clear hP₀ hD₀ hS₀
  refine lv_if_eq (tgt := 47) hx hb dX12_comes_5 (by decide) (fun c_7 => ?_) (fun c_7 => ?_)
  · skip
    refine lv_aload_n hx hb dX12_comes_47 rfl (lv_at hl 0 rfl) ?_
    refine lv_iload_n hx hb dX12_comes_48 rfl (lv_at hl 1 rfl) ?_
    refine cV (a := (Ma 0)) (As := [.int x1]) (rest := []) (wr := []) ⟨hx, hb, hml, hown, hts⟩ hK hX hA (cu_X12_takes l D tc sk (Ma 0) (Ma 1) (Ma 2) (Ma 3) (Ma 4) (Ma 5) (Ma 6) (Ma 7) (Ma 8) (Ma 9) (Ma 10) (Ma 11) (Ma 12) (Ma 13) (Ma 14) (Ma 15) (Ma 16) (Ma 17) (Ma 18) (Ma 19) (Ma 20) (Mv 0) (Mv 1) (Mv 2) (Mv 3) (Mv 4) (Mv 5) (Mv 6) (Mv 7) (Mv 8) (Mv 9) (Mv 10) (Mv 11) (Mv 12) (Mv 13) (Mv 14) (Mf 10) (Mj 0) x1 d h_b h_said) k_1473 k_1470 k_1472 k_78 k_106 pl_X12_takes ⟨Nat.le_of_ble_eq_true rfl, Nat.le_of_ble_eq_true rfl⟩ rfl rfl (va_recv hK hP (ci := 12) (q0 := 0) rfl rfl) hP hD hS [0, 1] [] rfl rfl rfl rfl rfl (by decide) rfl hl.1 rfl (Nat.le_of_ble_eq_true rfl) dX12_comes_49 ⟨Nat.le_of_ble_eq_true rfl, Nat.le_of_ble_eq_true rfl⟩ (fun v_8 u_9 H locs hv_10 hP₀ hD₀ hS₀ => ?_)
    obtain ⟨sv_11, rfl⟩ : ∃ z, z = u_9 := ⟨_, rfl⟩
    obtain ⟨rfl, pf_12⟩ := hv_10
    have pf_12 : SaidD T sv_11 d := pf_12
    have ar_pf_12 := SaidD.ar pf_12
    refine W.eq (g2 := F0 m 52 ls []) rfl ?_
    replace hP : va_P D classes [((Ma 0), .inr (12, [.ref (Ma 1), .int (Mv 0), .int (Mv 1), .ref (Ma 2), .ref (Ma 3), .ref (Ma 4), .ref (Ma 5), .ref (Ma 6), .int (Mv 2), .int (Mv 3), .int (Mv 4), .int (Mv 5), .int (Mv 6), .int (Mv 7), .int (Mv 8), .ref (Ma 7), .int (Mv 9), .ref (Ma 8), .int (Mv 10), .ref (Ma 9), .ref (Ma 10), .int (Mv 11), .int (Mv 12), .int (Mv 13), .ref (Ma 11), .int (Mv 14), .ref (Ma 12), .ref (Ma 13), .ref (Ma 14), .ref (Ma 15), .ref (Ma 16), .long (Mj 0), .ref (Ma 17), .ref (Ma 18), .ref (Ma 19), .ref (Ma 20)])), ((Ma 10), .inl (tc 0, 126, .inl sv_11))] H := hP₀
    replace hD : va_D A [((Ma 0), .inr (12, [.ref (Ma 1), .int (Mv 0), .int (Mv 1), .ref (Ma 2), .ref (Ma 3), .ref (Ma 4), .ref (Ma 5), .ref (Ma 6), .int (Mv 2), .int (Mv 3), .int (Mv 4), .int (Mv 5), .int (Mv 6), .int (Mv 7), .int (Mv 8), .ref (Ma 7), .int (Mv 9), .ref (Ma 8), .int (Mv 10), .ref (Ma 9), .ref (Ma 10), .int (Mv 11), .int (Mv 12), .int (Mv 13), .ref (Ma 11), .int (Mv 14), .ref (Ma 12), .ref (Ma 13), .ref (Ma 14), .ref (Ma 15), .ref (Ma 16), .long (Mj 0), .ref (Ma 17), .ref (Ma 18), .ref (Ma 19), .ref (Ma 20)])), ((Ma 10), .inl (tc 0, 126, .inl sv_11))] := hD₀
    replace hS := hS₀
    clear hP₀ hD₀ hS₀
    refine lv_iconst (v := 1) hx hb dX12_comes_52 (by decide) ?_
    have hp_13 : ((1 : Int32).toInt = 0 ∨ (1 : Int32).toInt = 1) := by
      have z_1 := congrArg Int32.toInt c_7
      have y_0 : (0 : Int32).toInt = 0 := by decide
      have y_1 : (1 : Int32).toInt = 1 := by decide
      have yr : (1 : Int32).toInt = 1 := by decide
      omega
    exact retI (v := 1) hx hb hr hlk (rfl) hP hD hS sv_11 ⟨_, rfl, hp_13, pf_12⟩ [0, 1] rfl rfl dX12_comes_53 (Nat.le_of_ble_eq_true rfl) (Nat.le_of_ble_eq_true rfl) rfl
  · skip
    refine lv_aload_n hx hb dX12_comes_8 rfl (lv_at hl 0 rfl) ?_
    refine gf_X12_39 hx hb hts hown hK hP 0 rfl rfl dX12_comes_9 ?_
    refine lv_bipush (v := 12) hx hb dX12_comes_12 (by decide) ?_
    refine lv_iconst (v := 4) hx hb dX12_comes_14 (by decide) ?_
    refine lv_iload_n hx hb dX12_comes_15 rfl (lv_at hl 1 rfl) ?_
    refine lv_imul hx hb dX12_comes_16 ?_
    refine lv_topi (fun x_14 ex_14 => ?_)
    refine lv_iadd hx hb dX12_comes_17 ?_
    refine lv_topi (fun x_15 ex_15 => ?_)
    refine lv_iconst (v := 2) hx hb dX12_comes_18 (by decide) ?_
    refine lv_iadd hx hb dX12_comes_19 ?_
    refine lv_topi (fun x_16 ex_16 => ?_)
    refine lv_dup2_11 hx hb dX12_comes_20 rfl rfl ?_
    have hi_17 : vp_in x_16 126 := by
      have z_1 : ¬ (r_4 : Int32).toInt = (0 : Int32).toInt := fun z => c_7 (Int32.toInt_inj.mp z)
      have y_0 : (0 : Int32).toInt = 0 := by decide
      have y_2 : (2 : Int32).toInt = 2 := by decide
      have y_4 : (4 : Int32).toInt = 4 := by decide
      have y_12 : (12 : Int32).toInt = 12 := by decide
      have t_x_14 : x_14.toInt = (4 : Int32).toInt * (x1 : Int32).toInt := by rw [ex_14]; exact mul_toInt (by first | omega | (rw [y_4]; omega)) (by first | omega | (rw [y_4]; omega))
      rw [y_4] at t_x_14
      have t_x_15 : x_15.toInt = (12 : Int32).toInt + (x_14 : Int32).toInt := by rw [ex_15]; exact add_toInt (by omega) (by omega)
      have t_x_16 : x_16.toInt = (x_15 : Int32).toInt + (2 : Int32).toInt := by rw [ex_16]; exact add_toInt (by omega) (by omega)
      refine vp_in_iff.mpr ⟨?_, ?_⟩ <;> omega
    refine va_iald hx hb hK hP 1 0 rfl rfl hi_17 dX12_comes_21 ?_
    refine lv_topi (fun x_18 ex_18 => ?_)
    refine lv_iconst (v := 1) hx hb dX12_comes_22 (by decide) ?_
    refine lv_iadd hx hb dX12_comes_23 ?_
    refine lv_topi (fun x_19 ex_19 => ?_)
    have hi_20 : vp_in x_16 126 := by
      have z_1 : ¬ (r_4 : Int32).toInt = (0 : Int32).toInt := fun z => c_7 (Int32.toInt_inj.mp z)
      have y_0 : (0 : Int32).toInt = 0 := by decide
      have y_2 : (2 : Int32).toInt = 2 := by decide
      have y_4 : (4 : Int32).toInt = 4 := by decide
      have y_12 : (12 : Int32).toInt = 12 := by decide
      have t_x_14 : x_14.toInt = (4 : Int32).toInt * (x1 : Int32).toInt := by rw [ex_14]; exact mul_toInt (by first | omega | (rw [y_4]; omega)) (by first | omega | (rw [y_4]; omega))
      rw [y_4] at t_x_14
      have t_x_15 : x_15.toInt = (12 : Int32).toInt + (x_14 : Int32).toInt := by rw [ex_15]; exact add_toInt (by omega) (by omega)
      have t_x_16 : x_16.toInt = (x_15 : Int32).toInt + (2 : Int32).toInt := by rw [ex_16]; exact add_toInt (by omega) (by omega)
      refine vp_in_iff.mpr ⟨?_, ?_⟩ <;> omega
    refine st_int hx hb hK hP hD hS 1 0 rfl rfl hi_20 dX12_comes_24 (fun g_21 H locs eg_21 hP₀ hD₀ hS₀ => ?_)
    replace hP : va_P D classes [((Ma 0), .inr (12, [.ref (Ma 1), .int (Mv 0), .int (Mv 1), .ref (Ma 2), .ref (Ma 3), .ref (Ma 4), .ref (Ma 5), .ref (Ma 6), .int (Mv 2), .int (Mv 3), .int (Mv 4), .int (Mv 5), .int (Mv 6), .int (Mv 7), .int (Mv 8), .ref (Ma 7), .int (Mv 9), .ref (Ma 8), .int (Mv 10), .ref (Ma 9), .ref (Ma 10), .int (Mv 11), .int (Mv 12), .int (Mv 13), .ref (Ma 11), .int (Mv 14), .ref (Ma 12), .ref (Ma 13), .ref (Ma 14), .ref (Ma 15), .ref (Ma 16), .long (Mj 0), .ref (Ma 17), .ref (Ma 18), .ref (Ma 19), .ref (Ma 20)])), ((Ma 10), .inl (tc 0, 126, .inl g_21))] H := hP₀
    replace hD : va_D A [((Ma 0), .inr (12, [.ref (Ma 1), .int (Mv 0), .int (Mv 1), .ref (Ma 2), .ref (Ma 3), .ref (Ma 4), .ref (Ma 5), .ref (Ma 6), .int (Mv 2), .int (Mv 3), .int (Mv 4), .int (Mv 5), .int (Mv 6), .int (Mv 7), .int (Mv 8), .ref (Ma 7), .int (Mv 9), .ref (Ma 8), .int (Mv 10), .ref (Ma 9), .ref (Ma 10), .int (Mv 11), .int (Mv 12), .int (Mv 13), .ref (Ma 11), .int (Mv 14), .ref (Ma 12), .ref (Ma 13), .ref (Ma 14), .ref (Ma 15), .ref (Ma 16), .long (Mj 0), .ref (Ma 17), .ref (Ma 18), .ref (Ma 19), .ref (Ma 20)])), ((Ma 10), .inl (tc 0, 126, .inl g_21))] := hD₀
    replace hS := hS₀
    clear hP₀ hD₀ hS₀
    have hx_23 : 11 ≤ (x_16 : Int32).toNatClampNeg ∧ (x_16 : Int32).toNatClampNeg < 56 := by
      have z_1 : ¬ (r_4 : Int32).toInt = (0 : Int32).toInt := fun z => c_7 (Int32.toInt_inj.mp z)
      have y_0 : (0 : Int32).toInt = 0 := by decide
      have y_2 : (2 : Int32).toInt = 2 := by decide
      have y_4 : (4 : Int32).toInt = 4 := by decide
      have y_12 : (12 : Int32).toInt = 12 := by decide
      have t_x_14 : x_14.toInt = (4 : Int32).toInt * (x1 : Int32).toInt := by rw [ex_14]; exact mul_toInt (by first | omega | (rw [y_4]; omega)) (by first | omega | (rw [y_4]; omega))
      rw [y_4] at t_x_14
      have t_x_15 : x_15.toInt = (12 : Int32).toInt + (x_14 : Int32).toInt := by rw [ex_15]; exact add_toInt (by omega) (by omega)
      have t_x_16 : x_16.toInt = (x_15 : Int32).toInt + (2 : Int32).toInt := by rw [ex_16]; exact add_toInt (by omega) (by omega)
      have hcl : (x_16 : Int32).toNatClampNeg = (x_16 : Int32).toInt.toNat := rfl
      omega
    have pf_22 : SaidD T g_21 d := SaidD.keep h_said eg_21 hx_23
    have ar_pf_22 := SaidD.ar pf_22
    refine lv_aload_n hx hb dX12_comes_25 rfl (lv_at hl 0 rfl) ?_
    refine gf_X12_39 hx hb hts hown hK hP 0 rfl rfl dX12_comes_26 ?_
    refine lv_bipush (v := 12) hx hb dX12_comes_29 (by decide) ?_
    refine lv_iconst (v := 4) hx hb dX12_comes_31 (by decide) ?_
    refine lv_iload_n hx hb dX12_comes_32 rfl (lv_at hl 1 rfl) ?_
    refine lv_imul hx hb dX12_comes_33 ?_
    refine lv_topi (fun x_24 ex_24 => ?_)
    refine lv_iadd hx hb dX12_comes_34 ?_
    refine lv_topi (fun x_25 ex_25 => ?_)
    refine lv_iconst (v := 3) hx hb dX12_comes_35 (by decide) ?_
    refine lv_iadd hx hb dX12_comes_36 ?_
    refine lv_topi (fun x_26 ex_26 => ?_)
    refine lv_aload_n hx hb dX12_comes_37 rfl (lv_at hl 0 rfl) ?_
    refine gf_X12_39 hx hb hts hown hK hP 0 rfl rfl dX12_comes_38 ?_
    refine lv_bipush (v := 10) hx hb dX12_comes_41 (by decide) ?_
    refine va_iald hx hb hK hP 1 0 rfl rfl (vin_dec (by decide +kernel)) dX12_comes_43 ?_
    refine lv_topi (fun x_27 ex_27 => ?_)
    have lx_27 : x_27.toInt = (g_21 10).toInt := congrArg Int32.toInt ex_27
    have hi_28 : vp_in x_26 126 := by
      have z_1 : ¬ (r_4 : Int32).toInt = (0 : Int32).toInt := fun z => c_7 (Int32.toInt_inj.mp z)
      have y_0 : (0 : Int32).toInt = 0 := by decide
      have y_3 : (3 : Int32).toInt = 3 := by decide
      have y_4 : (4 : Int32).toInt = 4 := by decide
      have y_12 : (12 : Int32).toInt = 12 := by decide
      have t_x_24 : x_24.toInt = (4 : Int32).toInt * (x1 : Int32).toInt := by rw [ex_24]; exact mul_toInt (by first | omega | (rw [y_4]; omega)) (by first | omega | (rw [y_4]; omega))
      rw [y_4] at t_x_24
      have t_x_25 : x_25.toInt = (12 : Int32).toInt + (x_24 : Int32).toInt := by rw [ex_25]; exact add_toInt (by omega) (by omega)
      have t_x_26 : x_26.toInt = (x_25 : Int32).toInt + (3 : Int32).toInt := by rw [ex_26]; exact add_toInt (by omega) (by omega)
      refine vp_in_iff.mpr ⟨?_, ?_⟩ <;> omega
    refine st_int hx hb hK hP hD hS 1 0 rfl rfl hi_28 dX12_comes_44 (fun g_29 H locs eg_29 hP₀ hD₀ hS₀ => ?_)
    replace hP : va_P D classes [((Ma 0), .inr (12, [.ref (Ma 1), .int (Mv 0), .int (Mv 1), .ref (Ma 2), .ref (Ma 3), .ref (Ma 4), .ref (Ma 5), .ref (Ma 6), .int (Mv 2), .int (Mv 3), .int (Mv 4), .int (Mv 5), .int (Mv 6), .int (Mv 7), .int (Mv 8), .ref (Ma 7), .int (Mv 9), .ref (Ma 8), .int (Mv 10), .ref (Ma 9), .ref (Ma 10), .int (Mv 11), .int (Mv 12), .int (Mv 13), .ref (Ma 11), .int (Mv 14), .ref (Ma 12), .ref (Ma 13), .ref (Ma 14), .ref (Ma 15), .ref (Ma 16), .long (Mj 0), .ref (Ma 17), .ref (Ma 18), .ref (Ma 19), .ref (Ma 20)])), ((Ma 10), .inl (tc 0, 126, .inl g_29))] H := hP₀
    replace hD : va_D A [((Ma 0), .inr (12, [.ref (Ma 1), .int (Mv 0), .int (Mv 1), .ref (Ma 2), .ref (Ma 3), .ref (Ma 4), .ref (Ma 5), .ref (Ma 6), .int (Mv 2), .int (Mv 3), .int (Mv 4), .int (Mv 5), .int (Mv 6), .int (Mv 7), .int (Mv 8), .ref (Ma 7), .int (Mv 9), .ref (Ma 8), .int (Mv 10), .ref (Ma 9), .ref (Ma 10), .int (Mv 11), .int (Mv 12), .int (Mv 13), .ref (Ma 11), .int (Mv 14), .ref (Ma 12), .ref (Ma 13), .ref (Ma 14), .ref (Ma 15), .ref (Ma 16), .long (Mj 0), .ref (Ma 17), .ref (Ma 18), .ref (Ma 19), .ref (Ma 20)])), ((Ma 10), .inl (tc 0, 126, .inl g_29))] := hD₀
    replace hS := hS₀
    clear hP₀ hD₀ hS₀
    have hx_31 : 11 ≤ (x_26 : Int32).toNatClampNeg ∧ (x_26 : Int32).toNatClampNeg < 56 := by
      have z_1 : ¬ (r_4 : Int32).toInt = (0 : Int32).toInt := fun z => c_7 (Int32.toInt_inj.mp z)
      have y_0 : (0 : Int32).toInt = 0 := by decide
      have y_3 : (3 : Int32).toInt = 3 := by decide
      have y_4 : (4 : Int32).toInt = 4 := by decide
      have y_12 : (12 : Int32).toInt = 12 := by decide
      have t_x_24 : x_24.toInt = (4 : Int32).toInt * (x1 : Int32).toInt := by rw [ex_24]; exact mul_toInt (by first | omega | (rw [y_4]; omega)) (by first | omega | (rw [y_4]; omega))
      rw [y_4] at t_x_24
      have t_x_25 : x_25.toInt = (12 : Int32).toInt + (x_24 : Int32).toInt := by rw [ex_25]; exact add_toInt (by omega) (by omega)
      have t_x_26 : x_26.toInt = (x_25 : Int32).toInt + (3 : Int32).toInt := by rw [ex_26]; exact add_toInt (by omega) (by omega)
      have hcl : (x_26 : Int32).toNatClampNeg = (x_26 : Int32).toInt.toNat := rfl
      omega
    have pf_30 : SaidD T g_29 d := SaidD.keep pf_22 eg_29 hx_31
    have ar_pf_30 := SaidD.ar pf_30
    refine lv_iconst (v := 0) hx hb dX12_comes_45 (by decide) ?_
    have hp_32 : ((0 : Int32).toInt = 0 ∨ (0 : Int32).toInt = 1) := by
      have z_1 : ¬ (r_4 : Int32).toInt = (0 : Int32).toInt := fun z => c_7 (Int32.toInt_inj.mp z)
      have y_0 : (0 : Int32).toInt = 0 := by decide
      omega
    exact retI (v := 0) hx hb hr hlk (rfl) hP hD hS g_29 ⟨_, rfl, hp_32, pf_30⟩ [0, 1] rfl rfl dX12_comes_46 (Nat.le_of_ble_eq_true rfl) (Nat.le_of_ble_eq_true rfl) rfl
set_option maxRecDepth 100000 in
theorem cu_X12_comes {T : Nat → Option Int32} (l : Launch) (D : va_G) (tc : Nat → ClassId) (sk : (Nat → Nat) × (Nat → Nat)) (Ma_0 : Nat) (Ma_1 : Nat) (Ma_2 : Nat) (Ma_3 : Nat) (Ma_4 : Nat) (Ma_5 : Nat) (Ma_6 : Nat) (Ma_7 : Nat) (Ma_8 : Nat) (Ma_9 : Nat) (Ma_10 : Nat) (Ma_11 : Nat) (Ma_12 : Nat) (Ma_13 : Nat) (Ma_14 : Nat) (Ma_15 : Nat) (Ma_16 : Nat) (Ma_17 : Nat) (Ma_18 : Nat) (Ma_19 : Nat) (Ma_20 : Nat) (Mv_0 : Int32) (Mv_1 : Int32) (Mv_2 : Int32) (Mv_3 : Int32) (Mv_4 : Int32) (Mv_5 : Int32) (Mv_6 : Int32) (Mv_7 : Int32) (Mv_8 : Int32) (Mv_9 : Int32) (Mv_10 : Int32) (Mv_11 : Int32) (Mv_12 : Int32) (Mv_13 : Int32) (Mv_14 : Int32) (Mf_10 : Nat → Int32) (Mj_0 : Int64) (x1 : Int32) (d : Int) (h_b : 0 ≤ x1.toInt ∧ x1.toInt < 6) (h_said : SaidD T Mf_10 d) : Ct l yX12_comes cX12_comes 2 (some .boolean) { frames := 3, cells := 0, slots := 0, locals := 61 } D tc sk [.ref Ma_0, .int x1] [(Ma_0, .inr (12, [.ref Ma_1, .int Mv_0, .int Mv_1, .ref Ma_2, .ref Ma_3, .ref Ma_4, .ref Ma_5, .ref Ma_6, .int Mv_2, .int Mv_3, .int Mv_4, .int Mv_5, .int Mv_6, .int Mv_7, .int Mv_8, .ref Ma_7, .int Mv_9, .ref Ma_8, .int Mv_10, .ref Ma_9, .ref Ma_10, .int Mv_11, .int Mv_12, .int Mv_13, .ref Ma_11, .int Mv_14, .ref Ma_12, .ref Ma_13, .ref Ma_14, .ref Ma_15, .ref Ma_16, .long Mj_0, .ref Ma_17, .ref Ma_18, .ref Ma_19, .ref Ma_20])), (Ma_10, .inl (tc 0, 126, .inl Mf_10))] (fun (v : Option Value) (oo0x1 : Nat → Int32) => ∃ r : Int32, v = some (.int r) ∧ ((r.toInt = 0 ∨ r.toInt = 1)) ∧ (SaidD T oo0x1 d)) (fun (oo0x1 : Nat → Int32) => [(Ma_0, .inr (12, [.ref Ma_1, .int Mv_0, .int Mv_1, .ref Ma_2, .ref Ma_3, .ref Ma_4, .ref Ma_5, .ref Ma_6, .int Mv_2, .int Mv_3, .int Mv_4, .int Mv_5, .int Mv_6, .int Mv_7, .int Mv_8, .ref Ma_7, .int Mv_9, .ref Ma_8, .int Mv_10, .ref Ma_9, .ref Ma_10, .int Mv_11, .int Mv_12, .int Mv_13, .ref Ma_11, .int Mv_14, .ref Ma_12, .ref Ma_13, .ref Ma_14, .ref Ma_15, .ref Ma_16, .long Mj_0, .ref Ma_17, .ref Ma_18, .ref Ma_19, .ref Ma_20])), (Ma_10, .inl (tc 0, 126, .inl oo0x1))]) 0 0 :=
  ct_X12_comes l D tc sk (fun k => ([Ma_0, Ma_1, Ma_2, Ma_3, Ma_4, Ma_5, Ma_6, Ma_7, Ma_8, Ma_9, Ma_10, Ma_11, Ma_12, Ma_13, Ma_14, Ma_15, Ma_16, Ma_17, Ma_18, Ma_19, Ma_20] : List (Nat)).getD k 0) (fun k => ([Mv_0, Mv_1, Mv_2, Mv_3, Mv_4, Mv_5, Mv_6, Mv_7, Mv_8, Mv_9, Mv_10, Mv_11, Mv_12, Mv_13, Mv_14] : List (Int32)).getD k 0) (fun k => ([(fun _ => 0), (fun _ => 0), (fun _ => 0), (fun _ => 0), (fun _ => 0), (fun _ => 0), (fun _ => 0), (fun _ => 0), (fun _ => 0), (fun _ => 0), Mf_10] : List (Nat → Int32)).getD k (fun _ => 0)) (fun k => ([Mj_0] : List (Int64)).getD k 0) x1 d h_b h_said
set_option maxHeartbeats 4000000 in
set_option maxRecDepth 100000 in
theorem ct_X12_weathers {T : Nat → Option Int32} (l : Launch) (D : va_G) (tc : Nat → ClassId) (sk : (Nat → Nat) × (Nat → Nat)) (Ma : Nat → Nat) (Mv : Nat → Int32) (Mf : Nat → Nat → Int32) (Mj : Nat → Int64) (d : Int) (h_said : SaidD T (Mf 10) d) : Ct l yX12_weathers cX12_weathers 4 none { frames := 2, cells := 0, slots := 0, locals := 40 } D tc sk [.ref (Ma 0)] [((Ma 0), .inr (12, [.ref (Ma 1), .int (Mv 0), .int (Mv 1), .ref (Ma 2), .ref (Ma 3), .ref (Ma 4), .ref (Ma 5), .ref (Ma 6), .int (Mv 2), .int (Mv 3), .int (Mv 4), .int (Mv 5), .int (Mv 6), .int (Mv 7), .int (Mv 8), .ref (Ma 7), .int (Mv 9), .ref (Ma 8), .int (Mv 10), .ref (Ma 9), .ref (Ma 10), .int (Mv 11), .int (Mv 12), .int (Mv 13), .ref (Ma 11), .int (Mv 14), .ref (Ma 12), .ref (Ma 13), .ref (Ma 14), .ref (Ma 15), .ref (Ma 16), .long (Mj 0), .ref (Ma 17), .ref (Ma 18), .ref (Ma 19), .ref (Ma 20)])), ((Ma 10), .inl (tc 0, 126, .inl (Mf 10)))] (fun (v : Option Value) (oo0x1 : Nat → Int32) => v = none ∧ (SaidD T oo0x1 d)) (fun (oo0x1 : Nat → Int32) => [((Ma 0), .inr (12, [.ref (Ma 1), .int (Mv 0), .int (Mv 1), .ref (Ma 2), .ref (Ma 3), .ref (Ma 4), .ref (Ma 5), .ref (Ma 6), .int (Mv 2), .int (Mv 3), .int (Mv 4), .int (Mv 5), .int (Mv 6), .int (Mv 7), .int (Mv 8), .ref (Ma 7), .int (Mv 9), .ref (Ma 8), .int (Mv 10), .ref (Ma 9), .ref (Ma 10), .int (Mv 11), .int (Mv 12), .int (Mv 13), .ref (Ma 11), .int (Mv 14), .ref (Ma 12), .ref (Ma 13), .ref (Ma 14), .ref (Ma 15), .ref (Ma 16), .long (Mj 0), .ref (Ma 17), .ref (Ma 18), .ref (Ma 19), .ref (Ma 20)])), ((Ma 10), .inl (tc 0, 126, .inl oo0x1))]) 0 0 := by
  refine Ct.start (by decide) (Nat.le_of_ble_eq_true rfl) (fun p e s m below meth c A ls hx hb hr hlk hin hml hown hts hK hX hP hD hA hl hS => ?_)
  have hl : lv_has ls 4 [(0, .ref (Ma 0))] := hl
  have ar_h_said := SaidD.ar h_said
  refine lv_aload_n hx hb dX12_weathers_0 rfl (lv_at hl 0 rfl) ?_
  refine gf_X12_39 hx hb hts hown hK hP 0 rfl rfl dX12_weathers_1 ?_
  refine lv_bipush (v := 36) hx hb dX12_weathers_4 (by decide) ?_
  refine lv_aload_n hx hb dX12_weathers_6 rfl (lv_at hl 0 rfl) ?_
  refine cV (a := (Ma 0)) (As := []) (rest := [.int 36, .ref (Ma 10)]) (wr := []) ⟨hx, hb, hml, hown, hts⟩ hK hX hA (cu_X12_clock l D tc sk (Ma 0) (Ma 1) (Ma 2) (Ma 3) (Ma 4) (Ma 5) (Ma 6) (Ma 7) (Ma 8) (Ma 9) (Ma 10) (Ma 11) (Ma 12) (Ma 13) (Ma 14) (Ma 15) (Ma 16) (Ma 17) (Ma 18) (Ma 19) (Ma 20) (Mv 0) (Mv 1) (Mv 2) (Mv 3) (Mv 4) (Mv 5) (Mv 6) (Mv 7) (Mv 8) (Mv 9) (Mv 10) (Mv 11) (Mv 12) (Mv 13) (Mv 14) (Mf 10) (Mj 0) d h_said) k_1435 k_1432 k_1434 k_70 k_106 pl_X12_clock ⟨Nat.le_of_ble_eq_true rfl, Nat.le_of_ble_eq_true rfl⟩ rfl rfl (va_recv hK hP (ci := 12) (q0 := 0) rfl rfl) hP hD hS [0, 1] [] rfl rfl rfl rfl rfl (by decide) rfl hl.1 rfl (Nat.le_of_ble_eq_true rfl) dX12_weathers_7 ⟨Nat.le_of_ble_eq_true rfl, Nat.le_of_ble_eq_true rfl⟩ (fun v_1 u_2 H locs hv_3 hP₀ hD₀ hS₀ => ?_)
  obtain ⟨r_4, rfl, he_5⟩ := hv_3
  have he_5 : (0 ≤ r_4.toInt ∧ r_4.toInt < 10) := he_5
  refine W.eq (g2 := F0 m 10 ls [.int r_4, .int 36, .ref (Ma 10)]) rfl ?_
  replace hP : va_P D classes [((Ma 0), .inr (12, [.ref (Ma 1), .int (Mv 0), .int (Mv 1), .ref (Ma 2), .ref (Ma 3), .ref (Ma 4), .ref (Ma 5), .ref (Ma 6), .int (Mv 2), .int (Mv 3), .int (Mv 4), .int (Mv 5), .int (Mv 6), .int (Mv 7), .int (Mv 8), .ref (Ma 7), .int (Mv 9), .ref (Ma 8), .int (Mv 10), .ref (Ma 9), .ref (Ma 10), .int (Mv 11), .int (Mv 12), .int (Mv 13), .ref (Ma 11), .int (Mv 14), .ref (Ma 12), .ref (Ma 13), .ref (Ma 14), .ref (Ma 15), .ref (Ma 16), .long (Mj 0), .ref (Ma 17), .ref (Ma 18), .ref (Ma 19), .ref (Ma 20)])), ((Ma 10), .inl (tc 0, 126, .inl (Mf 10)))] H := hP₀
  replace hD : va_D A [((Ma 0), .inr (12, [.ref (Ma 1), .int (Mv 0), .int (Mv 1), .ref (Ma 2), .ref (Ma 3), .ref (Ma 4), .ref (Ma 5), .ref (Ma 6), .int (Mv 2), .int (Mv 3), .int (Mv 4), .int (Mv 5), .int (Mv 6), .int (Mv 7), .int (Mv 8), .ref (Ma 7), .int (Mv 9), .ref (Ma 8), .int (Mv 10), .ref (Ma 9), .ref (Ma 10), .int (Mv 11), .int (Mv 12), .int (Mv 13), .ref (Ma 11), .int (Mv 14), .ref (Ma 12), .ref (Ma 13), .ref (Ma 14), .ref (Ma 15), .ref (Ma 16), .long (Mj 0), .ref (Ma 17), .ref (Ma 18), .ref (Ma 19), .ref (Ma 20)])), ((Ma 10), .inl (tc 0, 126, .inl (Mf 10)))] := hD₀
  replace hS := hS₀
  clear hP₀ hD₀ hS₀
  refine lv_iadd hx hb dX12_weathers_10 ?_
  refine lv_topi (fun x_7 ex_7 => ?_)
  have hi_8 : vp_in x_7 126 := by
    have y_36 : (36 : Int32).toInt = 36 := by decide
    have t_x_7 : x_7.toInt = (36 : Int32).toInt + (r_4 : Int32).toInt := by rw [ex_7]; exact add_toInt (by omega) (by omega)
    refine vp_in_iff.mpr ⟨?_, ?_⟩ <;> omega
  refine va_iald hx hb hK hP 1 0 rfl rfl hi_8 dX12_weathers_11 ?_
  refine lv_topi (fun x_9 ex_9 => ?_)
  refine lv_istore_n (lv' := [(1, .int x_9), (0, .ref (Ma 0))]) hx hb dX12_weathers_12 rfl hl (by decide) rfl (fun ls hl₀ => ?_)
  replace hl := hl₀
  clear hl₀
  refine lv_iconst (v := 0) hx hb dX12_weathers_13 (by decide) ?_
  refine lv_istore_n (lv' := [(2, .int 0), (1, .int x_9), (0, .ref (Ma 0))]) hx hb dX12_weathers_14 rfl hl (by decide) rfl (fun ls hl₀ => ?_)
  replace hl := hl₀
  clear hl₀
  have loop_16 : ∀ (n_14 : Nat) (vy_12 : Int32) (vy_13 : Nat → Int32) (H : Heap) (locs : List Loc) (ls : Array Slot), (6 - (vy_12 : Int32).toInt).toNat < n_14 → (0 ≤ (vy_12 : Int32).toInt) → (SaidD T vy_13 d) → va_P D classes [((Ma 0), .inr (12, [.ref (Ma 1), .int (Mv 0), .int (Mv 1), .ref (Ma 2), .ref (Ma 3), .ref (Ma 4), .ref (Ma 5), .ref (Ma 6), .int (Mv 2), .int (Mv 3), .int (Mv 4), .int (Mv 5), .int (Mv 6), .int (Mv 7), .int (Mv 8), .ref (Ma 7), .int (Mv 9), .ref (Ma 8), .int (Mv 10), .ref (Ma 9), .ref (Ma 10), .int (Mv 11), .int (Mv 12), .int (Mv 13), .ref (Ma 11), .int (Mv 14), .ref (Ma 12), .ref (Ma 13), .ref (Ma 14), .ref (Ma 15), .ref (Ma 16), .long (Mj 0), .ref (Ma 17), .ref (Ma 18), .ref (Ma 19), .ref (Ma 20)])), ((Ma 10), .inl (tc 0, 126, .inl vy_13))] H → va_D A [((Ma 0), .inr (12, [.ref (Ma 1), .int (Mv 0), .int (Mv 1), .ref (Ma 2), .ref (Ma 3), .ref (Ma 4), .ref (Ma 5), .ref (Ma 6), .int (Mv 2), .int (Mv 3), .int (Mv 4), .int (Mv 5), .int (Mv 6), .int (Mv 7), .int (Mv 8), .ref (Ma 7), .int (Mv 9), .ref (Ma 8), .int (Mv 10), .ref (Ma 9), .ref (Ma 10), .int (Mv 11), .int (Mv 12), .int (Mv 13), .ref (Ma 11), .int (Mv 14), .ref (Ma 12), .ref (Ma 13), .ref (Ma 14), .ref (Ma 15), .ref (Ma 16), .long (Mj 0), .ref (Ma 17), .ref (Ma 18), .ref (Ma 19), .ref (Ma 20)])), ((Ma 10), .inl (tc 0, 126, .inl vy_13))] → va_S A s.heap H locs → lv_has ls 4 [(2, .int vy_12), (1, .int x_9), (0, .ref (Ma 0))] → W p l e ({ frames := 2, cells := 0, slots := 0, locals := 40 }) s m ([.ref (Ma 0)].toArray) below meth c H locs 0 0 (MQ below (QW (fun (v : Option Value) (oo0x1 : Nat → Int32) => v = none ∧ (SaidD T oo0x1 d)) (BW D (fun (oo0x1 : Nat → Int32) => [((Ma 0), .inr (12, [.ref (Ma 1), .int (Mv 0), .int (Mv 1), .ref (Ma 2), .ref (Ma 3), .ref (Ma 4), .ref (Ma 5), .ref (Ma 6), .int (Mv 2), .int (Mv 3), .int (Mv 4), .int (Mv 5), .int (Mv 6), .int (Mv 7), .int (Mv 8), .ref (Ma 7), .int (Mv 9), .ref (Ma 8), .int (Mv 10), .ref (Ma 9), .ref (Ma 10), .int (Mv 11), .int (Mv 12), .int (Mv 13), .ref (Ma 11), .int (Mv 14), .ref (Ma 12), .ref (Ma 13), .ref (Ma 14), .ref (Ma 15), .ref (Ma 16), .long (Mj 0), .ref (Ma 17), .ref (Ma 18), .ref (Ma 19), .ref (Ma 20)])), ((Ma 10), .inl (tc 0, 126, .inl oo0x1))]) A) A) ([.ref (Ma 0)].toArray) s 0 0 A) (F0 m 15 ls []) := by
    clear hP hD hS hl
    intro n_14
    induction n_14 with
    | zero =>
      intro vy_12 vy_13 H locs ls h1
      exact absurd h1 (Nat.not_lt_zero _)
    | succ n_14 ih_15 =>
      intro vy_12 vy_13 H locs ls hn_19 pf_17 pf_18 hP hD hS hl
      have ar_pf_18 := SaidD.ar pf_18
      refine lv_iload_n hx hb dX12_weathers_15 rfl (lv_at hl 0 rfl) ?_
      refine lv_aload_n hx hb dX12_weathers_16 rfl (lv_at hl 2 rfl) ?_
      refine gf_X12_39 hx hb hts hown hK hP 0 rfl rfl dX12_weathers_17 ?_
      refine lv_iconst (v := 3) hx hb dX12_weathers_20 (by decide) ?_
      refine va_iald hx hb hK hP 1 0 rfl rfl (vin_dec (by decide +kernel)) dX12_weathers_21 ?_
      refine lv_topi (fun x_20 ex_20 => ?_)
      have lx_20 : x_20.toInt = (vy_13 3).toInt := congrArg Int32.toInt ex_20
      refine lv_icmp_ge (tgt := 99) hx hb dX12_weathers_22 (by decide) (fun c_21 => ?_) (fun c_21 => ?_)
      · skip
        exact retV hx hb hr hlk hP hD hS vy_13 ⟨rfl, pf_18⟩ [0, 1] rfl rfl dX12_weathers_99 (Nat.le_of_ble_eq_true rfl) (Nat.le_of_ble_eq_true rfl) rfl
      · skip
        refine lv_bipush (v := 12) hx hb dX12_weathers_25 (by decide) ?_
        refine lv_iconst (v := 4) hx hb dX12_weathers_27 (by decide) ?_
        refine lv_iload_n hx hb dX12_weathers_28 rfl (lv_at hl 0 rfl) ?_
        refine lv_imul hx hb dX12_weathers_29 ?_
        refine lv_topi (fun x_22 ex_22 => ?_)
        refine lv_iadd hx hb dX12_weathers_30 ?_
        refine lv_topi (fun x_23 ex_23 => ?_)
        refine lv_istore_n (lv' := [(3, .int x_23), (2, .int vy_12), (1, .int x_9), (0, .ref (Ma 0))]) hx hb dX12_weathers_31 rfl hl (by decide) rfl (fun ls hl₀ => ?_)
        replace hl := hl₀
        clear hl₀
        refine lv_iload_n hx hb dX12_weathers_32 rfl (lv_at hl 2 rfl) ?_
        refine lv_iconst (v := 5) hx hb dX12_weathers_33 (by decide) ?_
        refine lv_icmp_lt (tgt := 65) hx hb dX12_weathers_34 (by decide) (fun c_24 => ?_) (fun c_24 => ?_)
        · skip
          refine lv_iload_n hx hb dX12_weathers_65 rfl (lv_at hl 2 rfl) ?_
          refine lv_iconst (v := 2) hx hb dX12_weathers_66 (by decide) ?_
          refine lv_icmp_gt (tgt := 93) hx hb dX12_weathers_67 (by decide) (fun c_25 => ?_) (fun c_25 => ?_)
          · skip
            obtain ⟨x_26, ex_26⟩ : ∃ y : Int32, y = vy_12 + 1 := ⟨_, rfl⟩
            refine lv_iinc (v := x_26) (lv' := [(2, .int x_26), (3, .int x_23), (1, .int x_9), (0, .ref (Ma 0))]) hx hb dX12_weathers_93 hl (k := 1) rfl (by rw [ex_26]; rfl) (by decide) rfl (fun ls hl₀ => ?_)
            replace hl := hl₀
            clear hl₀
            refine lv_goto (tgt := 15) hx hb dX12_weathers_96 (by decide) ?_
            have hb_27 : 6 - (x_26 : Int32).toInt < 6 - (vy_12 : Int32).toInt ∧ 1 ≤ 6 - (vy_12 : Int32).toInt := by
              have z_1 := Int32.lt_iff_toInt_lt.mp (Int32.not_le.mp c_21)
              have z_2 := Int32.lt_iff_toInt_lt.mp c_24
              have z_3 := Int32.lt_iff_toInt_lt.mp c_25
              have y_2 : (2 : Int32).toInt = 2 := by decide
              have y_5 : (5 : Int32).toInt = 5 := by decide
              have y_1 : (1 : Int32).toInt = 1 := by decide
              have t_x_26 : x_26.toInt = (vy_12 : Int32).toInt + (1 : Int32).toInt := by rw [ex_26]; exact add_toInt (by omega) (by omega)
              omega
            have ha_28 : 0 ≤ (x_26 : Int32).toInt := by
              have z_1 := Int32.lt_iff_toInt_lt.mp (Int32.not_le.mp c_21)
              have z_2 := Int32.lt_iff_toInt_lt.mp c_24
              have z_3 := Int32.lt_iff_toInt_lt.mp c_25
              have y_2 : (2 : Int32).toInt = 2 := by decide
              have y_5 : (5 : Int32).toInt = 5 := by decide
              have y_1 : (1 : Int32).toInt = 1 := by decide
              have t_x_26 : x_26.toInt = (vy_12 : Int32).toInt + (1 : Int32).toInt := by rw [ex_26]; exact add_toInt (by omega) (by omega)
              omega
            exact ih_15 x_26 vy_13 _ _ _ (by omega) ha_28 pf_18 (hP.sub [0, 1] rfl) (hD.sub [0, 1] rfl rfl) hS (lv_sub hl [0, 2, 3] rfl)
          · skip
            refine lv_aload_n hx hb dX12_weathers_70 rfl (lv_at hl 3 rfl) ?_
            refine gf_X12_39 hx hb hts hown hK hP 0 rfl rfl dX12_weathers_71 ?_
            refine lv_iload_n hx hb dX12_weathers_74 rfl (lv_at hl 0 rfl) ?_
            refine lv_dup2_11 hx hb dX12_weathers_75 rfl rfl ?_
            have hi_29 : vp_in x_23 126 := by
              have z_1 := Int32.lt_iff_toInt_lt.mp (Int32.not_le.mp c_21)
              have z_2 := Int32.lt_iff_toInt_lt.mp c_24
              have z_3 := Int32.le_iff_toInt_le.mp (Int32.not_lt.mp c_25)
              have y_2 : (2 : Int32).toInt = 2 := by decide
              have y_5 : (5 : Int32).toInt = 5 := by decide
              have y_4 : (4 : Int32).toInt = 4 := by decide
              have y_12 : (12 : Int32).toInt = 12 := by decide
              have t_x_22 : x_22.toInt = (4 : Int32).toInt * (vy_12 : Int32).toInt := by rw [ex_22]; exact mul_toInt (by first | omega | (rw [y_4]; omega)) (by first | omega | (rw [y_4]; omega))
              rw [y_4] at t_x_22
              have t_x_23 : x_23.toInt = (12 : Int32).toInt + (x_22 : Int32).toInt := by rw [ex_23]; exact add_toInt (by omega) (by omega)
              refine vp_in_iff.mpr ⟨?_, ?_⟩ <;> omega
            refine va_iald hx hb hK hP 1 0 rfl rfl hi_29 dX12_weathers_76 ?_
            refine lv_topi (fun x_30 ex_30 => ?_)
            refine lv_aload_n hx hb dX12_weathers_77 rfl (lv_at hl 3 rfl) ?_
            refine gf_X12_39 hx hb hts hown hK hP 0 rfl rfl dX12_weathers_78 ?_
            refine lv_iload_n hx hb dX12_weathers_81 rfl (lv_at hl 0 rfl) ?_
            have hi_31 : vp_in x_23 126 := by
              have z_1 := Int32.lt_iff_toInt_lt.mp (Int32.not_le.mp c_21)
              have z_2 := Int32.lt_iff_toInt_lt.mp c_24
              have z_3 := Int32.le_iff_toInt_le.mp (Int32.not_lt.mp c_25)
              have y_2 : (2 : Int32).toInt = 2 := by decide
              have y_5 : (5 : Int32).toInt = 5 := by decide
              have y_4 : (4 : Int32).toInt = 4 := by decide
              have y_12 : (12 : Int32).toInt = 12 := by decide
              have t_x_22 : x_22.toInt = (4 : Int32).toInt * (vy_12 : Int32).toInt := by rw [ex_22]; exact mul_toInt (by first | omega | (rw [y_4]; omega)) (by first | omega | (rw [y_4]; omega))
              rw [y_4] at t_x_22
              have t_x_23 : x_23.toInt = (12 : Int32).toInt + (x_22 : Int32).toInt := by rw [ex_23]; exact add_toInt (by omega) (by omega)
              refine vp_in_iff.mpr ⟨?_, ?_⟩ <;> omega
            refine va_iald hx hb hK hP 1 0 rfl rfl hi_31 dX12_weathers_82 ?_
            refine lv_topi (fun x_32 ex_32 => ?_)
            refine lv_if_le (tgt := 90) hx hb dX12_weathers_83 (by decide) (fun c_33 => ?_) (fun c_33 => ?_)
            · skip
              refine lv_iconst (v := 0) hx hb dX12_weathers_90 (by decide) ?_
              refine lv_isub hx hb dX12_weathers_91 ?_
              refine lv_topi (fun x_34 ex_34 => ?_)
              have hi_35 : vp_in x_23 126 := by
                have z_1 := Int32.lt_iff_toInt_lt.mp (Int32.not_le.mp c_21)
                have z_2 := Int32.lt_iff_toInt_lt.mp c_24
                have z_3 := Int32.le_iff_toInt_le.mp (Int32.not_lt.mp c_25)
                have z_4 := Int32.le_iff_toInt_le.mp c_33
                have y_0 : (0 : Int32).toInt = 0 := by decide
                have y_2 : (2 : Int32).toInt = 2 := by decide
                have y_5 : (5 : Int32).toInt = 5 := by decide
                have y_4 : (4 : Int32).toInt = 4 := by decide
                have y_12 : (12 : Int32).toInt = 12 := by decide
                have t_x_22 : x_22.toInt = (4 : Int32).toInt * (vy_12 : Int32).toInt := by rw [ex_22]; exact mul_toInt (by first | omega | (rw [y_4]; omega)) (by first | omega | (rw [y_4]; omega))
                rw [y_4] at t_x_22
                have t_x_23 : x_23.toInt = (12 : Int32).toInt + (x_22 : Int32).toInt := by rw [ex_23]; exact add_toInt (by omega) (by omega)
                refine vp_in_iff.mpr ⟨?_, ?_⟩ <;> omega
              refine st_int hx hb hK hP hD hS 1 0 rfl rfl hi_35 dX12_weathers_92 (fun g_36 H locs eg_36 hP₀ hD₀ hS₀ => ?_)
              replace hP : va_P D classes [((Ma 0), .inr (12, [.ref (Ma 1), .int (Mv 0), .int (Mv 1), .ref (Ma 2), .ref (Ma 3), .ref (Ma 4), .ref (Ma 5), .ref (Ma 6), .int (Mv 2), .int (Mv 3), .int (Mv 4), .int (Mv 5), .int (Mv 6), .int (Mv 7), .int (Mv 8), .ref (Ma 7), .int (Mv 9), .ref (Ma 8), .int (Mv 10), .ref (Ma 9), .ref (Ma 10), .int (Mv 11), .int (Mv 12), .int (Mv 13), .ref (Ma 11), .int (Mv 14), .ref (Ma 12), .ref (Ma 13), .ref (Ma 14), .ref (Ma 15), .ref (Ma 16), .long (Mj 0), .ref (Ma 17), .ref (Ma 18), .ref (Ma 19), .ref (Ma 20)])), ((Ma 10), .inl (tc 0, 126, .inl g_36))] H := hP₀
              replace hD : va_D A [((Ma 0), .inr (12, [.ref (Ma 1), .int (Mv 0), .int (Mv 1), .ref (Ma 2), .ref (Ma 3), .ref (Ma 4), .ref (Ma 5), .ref (Ma 6), .int (Mv 2), .int (Mv 3), .int (Mv 4), .int (Mv 5), .int (Mv 6), .int (Mv 7), .int (Mv 8), .ref (Ma 7), .int (Mv 9), .ref (Ma 8), .int (Mv 10), .ref (Ma 9), .ref (Ma 10), .int (Mv 11), .int (Mv 12), .int (Mv 13), .ref (Ma 11), .int (Mv 14), .ref (Ma 12), .ref (Ma 13), .ref (Ma 14), .ref (Ma 15), .ref (Ma 16), .long (Mj 0), .ref (Ma 17), .ref (Ma 18), .ref (Ma 19), .ref (Ma 20)])), ((Ma 10), .inl (tc 0, 126, .inl g_36))] := hD₀
              replace hS := hS₀
              clear hP₀ hD₀ hS₀
              have hx_38 : 11 ≤ (x_23 : Int32).toNatClampNeg ∧ (x_23 : Int32).toNatClampNeg < 56 := by
                have z_1 := Int32.lt_iff_toInt_lt.mp (Int32.not_le.mp c_21)
                have z_2 := Int32.lt_iff_toInt_lt.mp c_24
                have z_3 := Int32.le_iff_toInt_le.mp (Int32.not_lt.mp c_25)
                have z_4 := Int32.le_iff_toInt_le.mp c_33
                have y_0 : (0 : Int32).toInt = 0 := by decide
                have y_2 : (2 : Int32).toInt = 2 := by decide
                have y_5 : (5 : Int32).toInt = 5 := by decide
                have y_4 : (4 : Int32).toInt = 4 := by decide
                have y_12 : (12 : Int32).toInt = 12 := by decide
                have t_x_22 : x_22.toInt = (4 : Int32).toInt * (vy_12 : Int32).toInt := by rw [ex_22]; exact mul_toInt (by first | omega | (rw [y_4]; omega)) (by first | omega | (rw [y_4]; omega))
                rw [y_4] at t_x_22
                have t_x_23 : x_23.toInt = (12 : Int32).toInt + (x_22 : Int32).toInt := by rw [ex_23]; exact add_toInt (by omega) (by omega)
                have hcl : (x_23 : Int32).toNatClampNeg = (x_23 : Int32).toInt.toNat := rfl
                omega
              have pf_37 : SaidD T g_36 d := SaidD.keep pf_18 eg_36 hx_38
              have ar_pf_37 := SaidD.ar pf_37
              obtain ⟨x_39, ex_39⟩ : ∃ y : Int32, y = vy_12 + 1 := ⟨_, rfl⟩
              refine lv_iinc (v := x_39) (lv' := [(2, .int x_39), (3, .int x_23), (1, .int x_9), (0, .ref (Ma 0))]) hx hb dX12_weathers_93 hl (k := 1) rfl (by rw [ex_39]; rfl) (by decide) rfl (fun ls hl₀ => ?_)
              replace hl := hl₀
              clear hl₀
              refine lv_goto (tgt := 15) hx hb dX12_weathers_96 (by decide) ?_
              have hb_40 : 6 - (x_39 : Int32).toInt < 6 - (vy_12 : Int32).toInt ∧ 1 ≤ 6 - (vy_12 : Int32).toInt := by
                have z_1 := Int32.lt_iff_toInt_lt.mp (Int32.not_le.mp c_21)
                have z_2 := Int32.lt_iff_toInt_lt.mp c_24
                have z_3 := Int32.le_iff_toInt_le.mp (Int32.not_lt.mp c_25)
                have z_4 := Int32.le_iff_toInt_le.mp c_33
                have y_0 : (0 : Int32).toInt = 0 := by decide
                have y_2 : (2 : Int32).toInt = 2 := by decide
                have y_5 : (5 : Int32).toInt = 5 := by decide
                have y_1 : (1 : Int32).toInt = 1 := by decide
                have t_x_39 : x_39.toInt = (vy_12 : Int32).toInt + (1 : Int32).toInt := by rw [ex_39]; exact add_toInt (by omega) (by omega)
                omega
              have ha_41 : 0 ≤ (x_39 : Int32).toInt := by
                have z_1 := Int32.lt_iff_toInt_lt.mp (Int32.not_le.mp c_21)
                have z_2 := Int32.lt_iff_toInt_lt.mp c_24
                have z_3 := Int32.le_iff_toInt_le.mp (Int32.not_lt.mp c_25)
                have z_4 := Int32.le_iff_toInt_le.mp c_33
                have y_0 : (0 : Int32).toInt = 0 := by decide
                have y_2 : (2 : Int32).toInt = 2 := by decide
                have y_5 : (5 : Int32).toInt = 5 := by decide
                have y_1 : (1 : Int32).toInt = 1 := by decide
                have t_x_39 : x_39.toInt = (vy_12 : Int32).toInt + (1 : Int32).toInt := by rw [ex_39]; exact add_toInt (by omega) (by omega)
                omega
              exact ih_15 x_39 g_36 _ _ _ (by omega) ha_41 pf_37 (hP.sub [0, 1] rfl) (hD.sub [0, 1] rfl rfl) hS (lv_sub hl [0, 2, 3] rfl)
            · skip
              refine lv_iconst (v := 1) hx hb dX12_weathers_86 (by decide) ?_
              refine lv_goto (tgt := 91) hx hb dX12_weathers_87 (by decide) ?_
              refine lv_isub hx hb dX12_weathers_91 ?_
              refine lv_topi (fun x_42 ex_42 => ?_)
              have hi_43 : vp_in x_23 126 := by
                have z_1 := Int32.lt_iff_toInt_lt.mp (Int32.not_le.mp c_21)
                have z_2 := Int32.lt_iff_toInt_lt.mp c_24
                have z_3 := Int32.le_iff_toInt_le.mp (Int32.not_lt.mp c_25)
                have z_4 := Int32.lt_iff_toInt_lt.mp (Int32.not_le.mp c_33)
                have y_0 : (0 : Int32).toInt = 0 := by decide
                have y_2 : (2 : Int32).toInt = 2 := by decide
                have y_5 : (5 : Int32).toInt = 5 := by decide
                have y_4 : (4 : Int32).toInt = 4 := by decide
                have y_12 : (12 : Int32).toInt = 12 := by decide
                have t_x_22 : x_22.toInt = (4 : Int32).toInt * (vy_12 : Int32).toInt := by rw [ex_22]; exact mul_toInt (by first | omega | (rw [y_4]; omega)) (by first | omega | (rw [y_4]; omega))
                rw [y_4] at t_x_22
                have t_x_23 : x_23.toInt = (12 : Int32).toInt + (x_22 : Int32).toInt := by rw [ex_23]; exact add_toInt (by omega) (by omega)
                refine vp_in_iff.mpr ⟨?_, ?_⟩ <;> omega
              refine st_int hx hb hK hP hD hS 1 0 rfl rfl hi_43 dX12_weathers_92 (fun g_44 H locs eg_44 hP₀ hD₀ hS₀ => ?_)
              replace hP : va_P D classes [((Ma 0), .inr (12, [.ref (Ma 1), .int (Mv 0), .int (Mv 1), .ref (Ma 2), .ref (Ma 3), .ref (Ma 4), .ref (Ma 5), .ref (Ma 6), .int (Mv 2), .int (Mv 3), .int (Mv 4), .int (Mv 5), .int (Mv 6), .int (Mv 7), .int (Mv 8), .ref (Ma 7), .int (Mv 9), .ref (Ma 8), .int (Mv 10), .ref (Ma 9), .ref (Ma 10), .int (Mv 11), .int (Mv 12), .int (Mv 13), .ref (Ma 11), .int (Mv 14), .ref (Ma 12), .ref (Ma 13), .ref (Ma 14), .ref (Ma 15), .ref (Ma 16), .long (Mj 0), .ref (Ma 17), .ref (Ma 18), .ref (Ma 19), .ref (Ma 20)])), ((Ma 10), .inl (tc 0, 126, .inl g_44))] H := hP₀
              replace hD : va_D A [((Ma 0), .inr (12, [.ref (Ma 1), .int (Mv 0), .int (Mv 1), .ref (Ma 2), .ref (Ma 3), .ref (Ma 4), .ref (Ma 5), .ref (Ma 6), .int (Mv 2), .int (Mv 3), .int (Mv 4), .int (Mv 5), .int (Mv 6), .int (Mv 7), .int (Mv 8), .ref (Ma 7), .int (Mv 9), .ref (Ma 8), .int (Mv 10), .ref (Ma 9), .ref (Ma 10), .int (Mv 11), .int (Mv 12), .int (Mv 13), .ref (Ma 11), .int (Mv 14), .ref (Ma 12), .ref (Ma 13), .ref (Ma 14), .ref (Ma 15), .ref (Ma 16), .long (Mj 0), .ref (Ma 17), .ref (Ma 18), .ref (Ma 19), .ref (Ma 20)])), ((Ma 10), .inl (tc 0, 126, .inl g_44))] := hD₀
              replace hS := hS₀
              clear hP₀ hD₀ hS₀
              have hx_46 : 11 ≤ (x_23 : Int32).toNatClampNeg ∧ (x_23 : Int32).toNatClampNeg < 56 := by
                have z_1 := Int32.lt_iff_toInt_lt.mp (Int32.not_le.mp c_21)
                have z_2 := Int32.lt_iff_toInt_lt.mp c_24
                have z_3 := Int32.le_iff_toInt_le.mp (Int32.not_lt.mp c_25)
                have z_4 := Int32.lt_iff_toInt_lt.mp (Int32.not_le.mp c_33)
                have y_0 : (0 : Int32).toInt = 0 := by decide
                have y_2 : (2 : Int32).toInt = 2 := by decide
                have y_5 : (5 : Int32).toInt = 5 := by decide
                have y_4 : (4 : Int32).toInt = 4 := by decide
                have y_12 : (12 : Int32).toInt = 12 := by decide
                have t_x_22 : x_22.toInt = (4 : Int32).toInt * (vy_12 : Int32).toInt := by rw [ex_22]; exact mul_toInt (by first | omega | (rw [y_4]; omega)) (by first | omega | (rw [y_4]; omega))
                rw [y_4] at t_x_22
                have t_x_23 : x_23.toInt = (12 : Int32).toInt + (x_22 : Int32).toInt := by rw [ex_23]; exact add_toInt (by omega) (by omega)
                have hcl : (x_23 : Int32).toNatClampNeg = (x_23 : Int32).toInt.toNat := rfl
                omega
              have pf_45 : SaidD T g_44 d := SaidD.keep pf_18 eg_44 hx_46
              have ar_pf_45 := SaidD.ar pf_45
              obtain ⟨x_47, ex_47⟩ : ∃ y : Int32, y = vy_12 + 1 := ⟨_, rfl⟩
              refine lv_iinc (v := x_47) (lv' := [(2, .int x_47), (3, .int x_23), (1, .int x_9), (0, .ref (Ma 0))]) hx hb dX12_weathers_93 hl (k := 1) rfl (by rw [ex_47]; rfl) (by decide) rfl (fun ls hl₀ => ?_)
              replace hl := hl₀
              clear hl₀
              refine lv_goto (tgt := 15) hx hb dX12_weathers_96 (by decide) ?_
              have hb_48 : 6 - (x_47 : Int32).toInt < 6 - (vy_12 : Int32).toInt ∧ 1 ≤ 6 - (vy_12 : Int32).toInt := by
                have z_1 := Int32.lt_iff_toInt_lt.mp (Int32.not_le.mp c_21)
                have z_2 := Int32.lt_iff_toInt_lt.mp c_24
                have z_3 := Int32.le_iff_toInt_le.mp (Int32.not_lt.mp c_25)
                have z_4 := Int32.lt_iff_toInt_lt.mp (Int32.not_le.mp c_33)
                have y_0 : (0 : Int32).toInt = 0 := by decide
                have y_2 : (2 : Int32).toInt = 2 := by decide
                have y_5 : (5 : Int32).toInt = 5 := by decide
                have y_1 : (1 : Int32).toInt = 1 := by decide
                have t_x_47 : x_47.toInt = (vy_12 : Int32).toInt + (1 : Int32).toInt := by rw [ex_47]; exact add_toInt (by omega) (by omega)
                omega
              have ha_49 : 0 ≤ (x_47 : Int32).toInt := by
                have z_1 := Int32.lt_iff_toInt_lt.mp (Int32.not_le.mp c_21)
                have z_2 := Int32.lt_iff_toInt_lt.mp c_24
                have z_3 := Int32.le_iff_toInt_le.mp (Int32.not_lt.mp c_25)
                have z_4 := Int32.lt_iff_toInt_lt.mp (Int32.not_le.mp c_33)
                have y_0 : (0 : Int32).toInt = 0 := by decide
                have y_2 : (2 : Int32).toInt = 2 := by decide
                have y_5 : (5 : Int32).toInt = 5 := by decide
                have y_1 : (1 : Int32).toInt = 1 := by decide
                have t_x_47 : x_47.toInt = (vy_12 : Int32).toInt + (1 : Int32).toInt := by rw [ex_47]; exact add_toInt (by omega) (by omega)
                omega
              exact ih_15 x_47 g_44 _ _ _ (by omega) ha_49 pf_45 (hP.sub [0, 1] rfl) (hD.sub [0, 1] rfl rfl) hS (lv_sub hl [0, 2, 3] rfl)
        · skip
          refine lv_aload_n hx hb dX12_weathers_37 rfl (lv_at hl 3 rfl) ?_
          refine gf_X12_39 hx hb hts hown hK hP 0 rfl rfl dX12_weathers_38 ?_
          refine lv_iload_n hx hb dX12_weathers_41 rfl (lv_at hl 0 rfl) ?_
          refine lv_dup2_11 hx hb dX12_weathers_42 rfl rfl ?_
          have hi_50 : vp_in x_23 126 := by
            have z_1 := Int32.lt_iff_toInt_lt.mp (Int32.not_le.mp c_21)
            have z_2 := Int32.le_iff_toInt_le.mp (Int32.not_lt.mp c_24)
            have y_5 : (5 : Int32).toInt = 5 := by decide
            have y_4 : (4 : Int32).toInt = 4 := by decide
            have y_12 : (12 : Int32).toInt = 12 := by decide
            have t_x_22 : x_22.toInt = (4 : Int32).toInt * (vy_12 : Int32).toInt := by rw [ex_22]; exact mul_toInt (by first | omega | (rw [y_4]; omega)) (by first | omega | (rw [y_4]; omega))
            rw [y_4] at t_x_22
            have t_x_23 : x_23.toInt = (12 : Int32).toInt + (x_22 : Int32).toInt := by rw [ex_23]; exact add_toInt (by omega) (by omega)
            refine vp_in_iff.mpr ⟨?_, ?_⟩ <;> omega
          refine va_iald hx hb hK hP 1 0 rfl rfl hi_50 dX12_weathers_43 ?_
          refine lv_topi (fun x_51 ex_51 => ?_)
          refine lv_aload_n hx hb dX12_weathers_44 rfl (lv_at hl 3 rfl) ?_
          refine gf_X12_39 hx hb hts hown hK hP 0 rfl rfl dX12_weathers_45 ?_
          refine lv_iload_n hx hb dX12_weathers_48 rfl (lv_at hl 0 rfl) ?_
          have hi_52 : vp_in x_23 126 := by
            have z_1 := Int32.lt_iff_toInt_lt.mp (Int32.not_le.mp c_21)
            have z_2 := Int32.le_iff_toInt_le.mp (Int32.not_lt.mp c_24)
            have y_5 : (5 : Int32).toInt = 5 := by decide
            have y_4 : (4 : Int32).toInt = 4 := by decide
            have y_12 : (12 : Int32).toInt = 12 := by decide
            have t_x_22 : x_22.toInt = (4 : Int32).toInt * (vy_12 : Int32).toInt := by rw [ex_22]; exact mul_toInt (by first | omega | (rw [y_4]; omega)) (by first | omega | (rw [y_4]; omega))
            rw [y_4] at t_x_22
            have t_x_23 : x_23.toInt = (12 : Int32).toInt + (x_22 : Int32).toInt := by rw [ex_23]; exact add_toInt (by omega) (by omega)
            refine vp_in_iff.mpr ⟨?_, ?_⟩ <;> omega
          refine va_iald hx hb hK hP 1 0 rfl rfl hi_52 dX12_weathers_49 ?_
          refine lv_topi (fun x_53 ex_53 => ?_)
          refine lv_bipush (v := 20) hx hb dX12_weathers_50 (by decide) ?_
          refine lv_icmp_ge (tgt := 59) hx hb dX12_weathers_52 (by decide) (fun c_54 => ?_) (fun c_54 => ?_)
          · skip
            refine lv_iconst (v := 0) hx hb dX12_weathers_59 (by decide) ?_
            refine lv_iadd hx hb dX12_weathers_60 ?_
            refine lv_topi (fun x_55 ex_55 => ?_)
            have hi_56 : vp_in x_23 126 := by
              have z_1 := Int32.lt_iff_toInt_lt.mp (Int32.not_le.mp c_21)
              have z_2 := Int32.le_iff_toInt_le.mp (Int32.not_lt.mp c_24)
              have z_3 := Int32.le_iff_toInt_le.mp c_54
              have y_5 : (5 : Int32).toInt = 5 := by decide
              have y_20 : (20 : Int32).toInt = 20 := by decide
              have y_4 : (4 : Int32).toInt = 4 := by decide
              have y_12 : (12 : Int32).toInt = 12 := by decide
              have t_x_22 : x_22.toInt = (4 : Int32).toInt * (vy_12 : Int32).toInt := by rw [ex_22]; exact mul_toInt (by first | omega | (rw [y_4]; omega)) (by first | omega | (rw [y_4]; omega))
              rw [y_4] at t_x_22
              have t_x_23 : x_23.toInt = (12 : Int32).toInt + (x_22 : Int32).toInt := by rw [ex_23]; exact add_toInt (by omega) (by omega)
              refine vp_in_iff.mpr ⟨?_, ?_⟩ <;> omega
            refine st_int hx hb hK hP hD hS 1 0 rfl rfl hi_56 dX12_weathers_61 (fun g_57 H locs eg_57 hP₀ hD₀ hS₀ => ?_)
            replace hP : va_P D classes [((Ma 0), .inr (12, [.ref (Ma 1), .int (Mv 0), .int (Mv 1), .ref (Ma 2), .ref (Ma 3), .ref (Ma 4), .ref (Ma 5), .ref (Ma 6), .int (Mv 2), .int (Mv 3), .int (Mv 4), .int (Mv 5), .int (Mv 6), .int (Mv 7), .int (Mv 8), .ref (Ma 7), .int (Mv 9), .ref (Ma 8), .int (Mv 10), .ref (Ma 9), .ref (Ma 10), .int (Mv 11), .int (Mv 12), .int (Mv 13), .ref (Ma 11), .int (Mv 14), .ref (Ma 12), .ref (Ma 13), .ref (Ma 14), .ref (Ma 15), .ref (Ma 16), .long (Mj 0), .ref (Ma 17), .ref (Ma 18), .ref (Ma 19), .ref (Ma 20)])), ((Ma 10), .inl (tc 0, 126, .inl g_57))] H := hP₀
            replace hD : va_D A [((Ma 0), .inr (12, [.ref (Ma 1), .int (Mv 0), .int (Mv 1), .ref (Ma 2), .ref (Ma 3), .ref (Ma 4), .ref (Ma 5), .ref (Ma 6), .int (Mv 2), .int (Mv 3), .int (Mv 4), .int (Mv 5), .int (Mv 6), .int (Mv 7), .int (Mv 8), .ref (Ma 7), .int (Mv 9), .ref (Ma 8), .int (Mv 10), .ref (Ma 9), .ref (Ma 10), .int (Mv 11), .int (Mv 12), .int (Mv 13), .ref (Ma 11), .int (Mv 14), .ref (Ma 12), .ref (Ma 13), .ref (Ma 14), .ref (Ma 15), .ref (Ma 16), .long (Mj 0), .ref (Ma 17), .ref (Ma 18), .ref (Ma 19), .ref (Ma 20)])), ((Ma 10), .inl (tc 0, 126, .inl g_57))] := hD₀
            replace hS := hS₀
            clear hP₀ hD₀ hS₀
            have hx_59 : 11 ≤ (x_23 : Int32).toNatClampNeg ∧ (x_23 : Int32).toNatClampNeg < 56 := by
              have z_1 := Int32.lt_iff_toInt_lt.mp (Int32.not_le.mp c_21)
              have z_2 := Int32.le_iff_toInt_le.mp (Int32.not_lt.mp c_24)
              have z_3 := Int32.le_iff_toInt_le.mp c_54
              have y_5 : (5 : Int32).toInt = 5 := by decide
              have y_20 : (20 : Int32).toInt = 20 := by decide
              have y_4 : (4 : Int32).toInt = 4 := by decide
              have y_12 : (12 : Int32).toInt = 12 := by decide
              have t_x_22 : x_22.toInt = (4 : Int32).toInt * (vy_12 : Int32).toInt := by rw [ex_22]; exact mul_toInt (by first | omega | (rw [y_4]; omega)) (by first | omega | (rw [y_4]; omega))
              rw [y_4] at t_x_22
              have t_x_23 : x_23.toInt = (12 : Int32).toInt + (x_22 : Int32).toInt := by rw [ex_23]; exact add_toInt (by omega) (by omega)
              have hcl : (x_23 : Int32).toNatClampNeg = (x_23 : Int32).toInt.toNat := rfl
              omega
            have pf_58 : SaidD T g_57 d := SaidD.keep pf_18 eg_57 hx_59
            have ar_pf_58 := SaidD.ar pf_58
            refine lv_goto (tgt := 93) hx hb dX12_weathers_62 (by decide) ?_
            obtain ⟨x_60, ex_60⟩ : ∃ y : Int32, y = vy_12 + 1 := ⟨_, rfl⟩
            refine lv_iinc (v := x_60) (lv' := [(2, .int x_60), (3, .int x_23), (1, .int x_9), (0, .ref (Ma 0))]) hx hb dX12_weathers_93 hl (k := 1) rfl (by rw [ex_60]; rfl) (by decide) rfl (fun ls hl₀ => ?_)
            replace hl := hl₀
            clear hl₀
            refine lv_goto (tgt := 15) hx hb dX12_weathers_96 (by decide) ?_
            have hb_61 : 6 - (x_60 : Int32).toInt < 6 - (vy_12 : Int32).toInt ∧ 1 ≤ 6 - (vy_12 : Int32).toInt := by
              have z_1 := Int32.lt_iff_toInt_lt.mp (Int32.not_le.mp c_21)
              have z_2 := Int32.le_iff_toInt_le.mp (Int32.not_lt.mp c_24)
              have z_3 := Int32.le_iff_toInt_le.mp c_54
              have y_5 : (5 : Int32).toInt = 5 := by decide
              have y_20 : (20 : Int32).toInt = 20 := by decide
              have y_1 : (1 : Int32).toInt = 1 := by decide
              have t_x_60 : x_60.toInt = (vy_12 : Int32).toInt + (1 : Int32).toInt := by rw [ex_60]; exact add_toInt (by omega) (by omega)
              omega
            have ha_62 : 0 ≤ (x_60 : Int32).toInt := by
              have z_1 := Int32.lt_iff_toInt_lt.mp (Int32.not_le.mp c_21)
              have z_2 := Int32.le_iff_toInt_le.mp (Int32.not_lt.mp c_24)
              have z_3 := Int32.le_iff_toInt_le.mp c_54
              have y_5 : (5 : Int32).toInt = 5 := by decide
              have y_20 : (20 : Int32).toInt = 20 := by decide
              have y_1 : (1 : Int32).toInt = 1 := by decide
              have t_x_60 : x_60.toInt = (vy_12 : Int32).toInt + (1 : Int32).toInt := by rw [ex_60]; exact add_toInt (by omega) (by omega)
              omega
            exact ih_15 x_60 g_57 _ _ _ (by omega) ha_62 pf_58 (hP.sub [0, 1] rfl) (hD.sub [0, 1] rfl rfl) hS (lv_sub hl [0, 2, 3] rfl)
          · skip
            refine lv_iconst (v := 1) hx hb dX12_weathers_55 (by decide) ?_
            refine lv_goto (tgt := 60) hx hb dX12_weathers_56 (by decide) ?_
            refine lv_iadd hx hb dX12_weathers_60 ?_
            refine lv_topi (fun x_63 ex_63 => ?_)
            have hi_64 : vp_in x_23 126 := by
              have z_1 := Int32.lt_iff_toInt_lt.mp (Int32.not_le.mp c_21)
              have z_2 := Int32.le_iff_toInt_le.mp (Int32.not_lt.mp c_24)
              have z_3 := Int32.lt_iff_toInt_lt.mp (Int32.not_le.mp c_54)
              have y_5 : (5 : Int32).toInt = 5 := by decide
              have y_20 : (20 : Int32).toInt = 20 := by decide
              have y_4 : (4 : Int32).toInt = 4 := by decide
              have y_12 : (12 : Int32).toInt = 12 := by decide
              have t_x_22 : x_22.toInt = (4 : Int32).toInt * (vy_12 : Int32).toInt := by rw [ex_22]; exact mul_toInt (by first | omega | (rw [y_4]; omega)) (by first | omega | (rw [y_4]; omega))
              rw [y_4] at t_x_22
              have t_x_23 : x_23.toInt = (12 : Int32).toInt + (x_22 : Int32).toInt := by rw [ex_23]; exact add_toInt (by omega) (by omega)
              refine vp_in_iff.mpr ⟨?_, ?_⟩ <;> omega
            refine st_int hx hb hK hP hD hS 1 0 rfl rfl hi_64 dX12_weathers_61 (fun g_65 H locs eg_65 hP₀ hD₀ hS₀ => ?_)
            replace hP : va_P D classes [((Ma 0), .inr (12, [.ref (Ma 1), .int (Mv 0), .int (Mv 1), .ref (Ma 2), .ref (Ma 3), .ref (Ma 4), .ref (Ma 5), .ref (Ma 6), .int (Mv 2), .int (Mv 3), .int (Mv 4), .int (Mv 5), .int (Mv 6), .int (Mv 7), .int (Mv 8), .ref (Ma 7), .int (Mv 9), .ref (Ma 8), .int (Mv 10), .ref (Ma 9), .ref (Ma 10), .int (Mv 11), .int (Mv 12), .int (Mv 13), .ref (Ma 11), .int (Mv 14), .ref (Ma 12), .ref (Ma 13), .ref (Ma 14), .ref (Ma 15), .ref (Ma 16), .long (Mj 0), .ref (Ma 17), .ref (Ma 18), .ref (Ma 19), .ref (Ma 20)])), ((Ma 10), .inl (tc 0, 126, .inl g_65))] H := hP₀
            replace hD : va_D A [((Ma 0), .inr (12, [.ref (Ma 1), .int (Mv 0), .int (Mv 1), .ref (Ma 2), .ref (Ma 3), .ref (Ma 4), .ref (Ma 5), .ref (Ma 6), .int (Mv 2), .int (Mv 3), .int (Mv 4), .int (Mv 5), .int (Mv 6), .int (Mv 7), .int (Mv 8), .ref (Ma 7), .int (Mv 9), .ref (Ma 8), .int (Mv 10), .ref (Ma 9), .ref (Ma 10), .int (Mv 11), .int (Mv 12), .int (Mv 13), .ref (Ma 11), .int (Mv 14), .ref (Ma 12), .ref (Ma 13), .ref (Ma 14), .ref (Ma 15), .ref (Ma 16), .long (Mj 0), .ref (Ma 17), .ref (Ma 18), .ref (Ma 19), .ref (Ma 20)])), ((Ma 10), .inl (tc 0, 126, .inl g_65))] := hD₀
            replace hS := hS₀
            clear hP₀ hD₀ hS₀
            have hx_67 : 11 ≤ (x_23 : Int32).toNatClampNeg ∧ (x_23 : Int32).toNatClampNeg < 56 := by
              have z_1 := Int32.lt_iff_toInt_lt.mp (Int32.not_le.mp c_21)
              have z_2 := Int32.le_iff_toInt_le.mp (Int32.not_lt.mp c_24)
              have z_3 := Int32.lt_iff_toInt_lt.mp (Int32.not_le.mp c_54)
              have y_5 : (5 : Int32).toInt = 5 := by decide
              have y_20 : (20 : Int32).toInt = 20 := by decide
              have y_4 : (4 : Int32).toInt = 4 := by decide
              have y_12 : (12 : Int32).toInt = 12 := by decide
              have t_x_22 : x_22.toInt = (4 : Int32).toInt * (vy_12 : Int32).toInt := by rw [ex_22]; exact mul_toInt (by first | omega | (rw [y_4]; omega)) (by first | omega | (rw [y_4]; omega))
              rw [y_4] at t_x_22
              have t_x_23 : x_23.toInt = (12 : Int32).toInt + (x_22 : Int32).toInt := by rw [ex_23]; exact add_toInt (by omega) (by omega)
              have hcl : (x_23 : Int32).toNatClampNeg = (x_23 : Int32).toInt.toNat := rfl
              omega
            have pf_66 : SaidD T g_65 d := SaidD.keep pf_18 eg_65 hx_67
            have ar_pf_66 := SaidD.ar pf_66
            refine lv_goto (tgt := 93) hx hb dX12_weathers_62 (by decide) ?_
            obtain ⟨x_68, ex_68⟩ : ∃ y : Int32, y = vy_12 + 1 := ⟨_, rfl⟩
            refine lv_iinc (v := x_68) (lv' := [(2, .int x_68), (3, .int x_23), (1, .int x_9), (0, .ref (Ma 0))]) hx hb dX12_weathers_93 hl (k := 1) rfl (by rw [ex_68]; rfl) (by decide) rfl (fun ls hl₀ => ?_)
            replace hl := hl₀
            clear hl₀
            refine lv_goto (tgt := 15) hx hb dX12_weathers_96 (by decide) ?_
            have hb_69 : 6 - (x_68 : Int32).toInt < 6 - (vy_12 : Int32).toInt ∧ 1 ≤ 6 - (vy_12 : Int32).toInt := by
              have z_1 := Int32.lt_iff_toInt_lt.mp (Int32.not_le.mp c_21)
              have z_2 := Int32.le_iff_toInt_le.mp (Int32.not_lt.mp c_24)
              have z_3 := Int32.lt_iff_toInt_lt.mp (Int32.not_le.mp c_54)
              have y_5 : (5 : Int32).toInt = 5 := by decide
              have y_20 : (20 : Int32).toInt = 20 := by decide
              have y_1 : (1 : Int32).toInt = 1 := by decide
              have t_x_68 : x_68.toInt = (vy_12 : Int32).toInt + (1 : Int32).toInt := by rw [ex_68]; exact add_toInt (by omega) (by omega)
              omega
            have ha_70 : 0 ≤ (x_68 : Int32).toInt := by
              have z_1 := Int32.lt_iff_toInt_lt.mp (Int32.not_le.mp c_21)
              have z_2 := Int32.le_iff_toInt_le.mp (Int32.not_lt.mp c_24)
              have z_3 := Int32.lt_iff_toInt_lt.mp (Int32.not_le.mp c_54)
              have y_5 : (5 : Int32).toInt = 5 := by decide
              have y_20 : (20 : Int32).toInt = 20 := by decide
              have y_1 : (1 : Int32).toInt = 1 := by decide
              have t_x_68 : x_68.toInt = (vy_12 : Int32).toInt + (1 : Int32).toInt := by rw [ex_68]; exact add_toInt (by omega) (by omega)
              omega
            exact ih_15 x_68 g_65 _ _ _ (by omega) ha_70 pf_66 (hP.sub [0, 1] rfl) (hD.sub [0, 1] rfl rfl) hS (lv_sub hl [0, 2, 3] rfl)
  have ha_71 : 0 ≤ (0 : Int32).toInt := by
    have y_0 : (0 : Int32).toInt = 0 := by decide
    omega
  exact loop_16 _ 0 (Mf 10) _ _ _ (Nat.lt_succ_self _) ha_71 h_said hP hD hS hl
set_option maxRecDepth 100000 in
theorem cu_X12_weathers {T : Nat → Option Int32} (l : Launch) (D : va_G) (tc : Nat → ClassId) (sk : (Nat → Nat) × (Nat → Nat)) (Ma_0 : Nat) (Ma_1 : Nat) (Ma_2 : Nat) (Ma_3 : Nat) (Ma_4 : Nat) (Ma_5 : Nat) (Ma_6 : Nat) (Ma_7 : Nat) (Ma_8 : Nat) (Ma_9 : Nat) (Ma_10 : Nat) (Ma_11 : Nat) (Ma_12 : Nat) (Ma_13 : Nat) (Ma_14 : Nat) (Ma_15 : Nat) (Ma_16 : Nat) (Ma_17 : Nat) (Ma_18 : Nat) (Ma_19 : Nat) (Ma_20 : Nat) (Mv_0 : Int32) (Mv_1 : Int32) (Mv_2 : Int32) (Mv_3 : Int32) (Mv_4 : Int32) (Mv_5 : Int32) (Mv_6 : Int32) (Mv_7 : Int32) (Mv_8 : Int32) (Mv_9 : Int32) (Mv_10 : Int32) (Mv_11 : Int32) (Mv_12 : Int32) (Mv_13 : Int32) (Mv_14 : Int32) (Mf_10 : Nat → Int32) (Mj_0 : Int64) (d : Int) (h_said : SaidD T Mf_10 d) : Ct l yX12_weathers cX12_weathers 4 none { frames := 2, cells := 0, slots := 0, locals := 40 } D tc sk [.ref Ma_0] [(Ma_0, .inr (12, [.ref Ma_1, .int Mv_0, .int Mv_1, .ref Ma_2, .ref Ma_3, .ref Ma_4, .ref Ma_5, .ref Ma_6, .int Mv_2, .int Mv_3, .int Mv_4, .int Mv_5, .int Mv_6, .int Mv_7, .int Mv_8, .ref Ma_7, .int Mv_9, .ref Ma_8, .int Mv_10, .ref Ma_9, .ref Ma_10, .int Mv_11, .int Mv_12, .int Mv_13, .ref Ma_11, .int Mv_14, .ref Ma_12, .ref Ma_13, .ref Ma_14, .ref Ma_15, .ref Ma_16, .long Mj_0, .ref Ma_17, .ref Ma_18, .ref Ma_19, .ref Ma_20])), (Ma_10, .inl (tc 0, 126, .inl Mf_10))] (fun (v : Option Value) (oo0x1 : Nat → Int32) => v = none ∧ (SaidD T oo0x1 d)) (fun (oo0x1 : Nat → Int32) => [(Ma_0, .inr (12, [.ref Ma_1, .int Mv_0, .int Mv_1, .ref Ma_2, .ref Ma_3, .ref Ma_4, .ref Ma_5, .ref Ma_6, .int Mv_2, .int Mv_3, .int Mv_4, .int Mv_5, .int Mv_6, .int Mv_7, .int Mv_8, .ref Ma_7, .int Mv_9, .ref Ma_8, .int Mv_10, .ref Ma_9, .ref Ma_10, .int Mv_11, .int Mv_12, .int Mv_13, .ref Ma_11, .int Mv_14, .ref Ma_12, .ref Ma_13, .ref Ma_14, .ref Ma_15, .ref Ma_16, .long Mj_0, .ref Ma_17, .ref Ma_18, .ref Ma_19, .ref Ma_20])), (Ma_10, .inl (tc 0, 126, .inl oo0x1))]) 0 0 :=
  ct_X12_weathers l D tc sk (fun k => ([Ma_0, Ma_1, Ma_2, Ma_3, Ma_4, Ma_5, Ma_6, Ma_7, Ma_8, Ma_9, Ma_10, Ma_11, Ma_12, Ma_13, Ma_14, Ma_15, Ma_16, Ma_17, Ma_18, Ma_19, Ma_20] : List (Nat)).getD k 0) (fun k => ([Mv_0, Mv_1, Mv_2, Mv_3, Mv_4, Mv_5, Mv_6, Mv_7, Mv_8, Mv_9, Mv_10, Mv_11, Mv_12, Mv_13, Mv_14] : List (Int32)).getD k 0) (fun k => ([(fun _ => 0), (fun _ => 0), (fun _ => 0), (fun _ => 0), (fun _ => 0), (fun _ => 0), (fun _ => 0), (fun _ => 0), (fun _ => 0), (fun _ => 0), Mf_10] : List (Nat → Int32)).getD k (fun _ => 0)) (fun k => ([Mj_0] : List (Int64)).getD k 0) d h_said
set_option maxHeartbeats 4000000 in
set_option maxRecDepth 100000 in
theorem ct_X12_passes {T : Nat → Option Int32} (l : Launch) (D : va_G) (tc : Nat → ClassId) (sk : (Nat → Nat) × (Nat → Nat)) (Ma : Nat → Nat) (Mv : Nat → Int32) (Mf : Nat → Nat → Int32) (Mj : Nat → Int64) (Mg : Nat → Nat → Int64) (d : Int) (h_said : SaidD T (Mf 10) d) (h_d : d ≤ 1000000) (h_rul : RulD (Mf 2) (Mf 4) (Mf 5) (Mv 1)) (h_frc : -1 ≤ (Mv 11).toInt ∧ (Mv 11).toInt < (Mv 1).toInt ∧ (Mv 1).toInt ≤ 6) : Ct l yX12_passes cX12_passes 3 (some .int) { frames := 4, cells := 0, slots := 0, locals := 99 } D tc sk [.ref (Ma 0)] [((Ma 0), .inr (12, [.ref (Ma 1), .int (Mv 0), .int (Mv 1), .ref (Ma 2), .ref (Ma 3), .ref (Ma 4), .ref (Ma 5), .ref (Ma 6), .int (Mv 2), .int (Mv 3), .int (Mv 4), .int (Mv 5), .int (Mv 6), .int (Mv 7), .int (Mv 8), .ref (Ma 7), .int (Mv 9), .ref (Ma 8), .int (Mv 10), .ref (Ma 9), .ref (Ma 10), .int (Mv 11), .int (Mv 12), .int (Mv 13), .ref (Ma 11), .int (Mv 14), .ref (Ma 12), .ref (Ma 13), .ref (Ma 14), .ref (Ma 15), .ref (Ma 16), .long (Mj 0), .ref (Ma 17), .ref (Ma 18), .ref (Ma 19), .ref (Ma 20)])), ((Ma 2), .inl (tc 0, 2400, .inl (Mf 2))), ((Ma 4), .inl (tc 0, 288, .inl (Mf 4))), ((Ma 5), .inl (tc 0, 6, .inl (Mf 5))), ((Ma 8), .inl (tc 1, 64, .inr (.inl (Mg 8)))), ((Ma 9), .inl (tc 1, 13, .inr (.inl (Mg 9)))), ((Ma 10), .inl (tc 0, 126, .inl (Mf 10)))] (fun (v : Option Value) (u : (Int32) × (Nat → Int64) × (Nat → Int64) × (Nat → Int32)) => match u with | (oo0x1, oo0x2, oo0x3, oo0x4) => ∃ r : Int32, v = some (.int r) ∧ (True) ∧ (SaidD T oo0x4 (d + 1))) (fun (u : (Int32) × (Nat → Int64) × (Nat → Int64) × (Nat → Int32)) => match u with | (oo0x1, oo0x2, oo0x3, oo0x4) => [((Ma 0), .inr (12, [.ref (Ma 1), .int (Mv 0), .int (Mv 1), .ref (Ma 2), .ref (Ma 3), .ref (Ma 4), .ref (Ma 5), .ref (Ma 6), .int (Mv 2), .int (Mv 3), .int (Mv 4), .int (Mv 5), .int (Mv 6), .int (Mv 7), .int (Mv 8), .ref (Ma 7), .int (Mv 9), .ref (Ma 8), .int oo0x1, .ref (Ma 9), .ref (Ma 10), .int (Mv 11), .int (Mv 12), .int (Mv 13), .ref (Ma 11), .int (Mv 14), .ref (Ma 12), .ref (Ma 13), .ref (Ma 14), .ref (Ma 15), .ref (Ma 16), .long (Mj 0), .ref (Ma 17), .ref (Ma 18), .ref (Ma 19), .ref (Ma 20)])), ((Ma 2), .inl (tc 0, 2400, .inl (Mf 2))), ((Ma 4), .inl (tc 0, 288, .inl (Mf 4))), ((Ma 5), .inl (tc 0, 6, .inl (Mf 5))), ((Ma 8), .inl (tc 1, 64, .inr (.inl oo0x2))), ((Ma 9), .inl (tc 1, 13, .inr (.inl oo0x3))), ((Ma 10), .inl (tc 0, 126, .inl oo0x4))]) 0 0 := by
  refine Ct.start (by decide) (Nat.le_of_ble_eq_true rfl) (fun p e s m below meth c A ls hx hb hr hlk hin hml hown hts hK hX hP hD hA hl hS => ?_)
  have hl : lv_has ls 3 [(0, .ref (Ma 0))] := hl
  have ar_h_said := SaidD.ar h_said
  refine lv_iconst (v := 0) hx hb dX12_passes_0 (by decide) ?_
  refine lv_istore_n (lv' := [(1, .int 0), (0, .ref (Ma 0))]) hx hb dX12_passes_1 rfl hl (by decide) rfl (fun ls hl₀ => ?_)
  replace hl := hl₀
  clear hl₀
  refine lv_iconst (v := 0) hx hb dX12_passes_2 (by decide) ?_
  refine lv_istore_n (lv' := [(2, .int 0), (1, .int 0), (0, .ref (Ma 0))]) hx hb dX12_passes_3 rfl hl (by decide) rfl (fun ls hl₀ => ?_)
  replace hl := hl₀
  clear hl₀
  have loop_15 : ∀ (n_13 : Nat) (vy_7 : Int32) (vy_8 : Int32) (vy_9 : Nat → Int64) (vy_10 : Nat → Int64) (vy_11 : Nat → Int32) (vy_12 : Int32) (H : Heap) (locs : List Loc) (ls : Array Slot), (6 - (vy_7 : Int32).toInt).toNat < n_13 → (0 ≤ (vy_7 : Int32).toInt) → (SaidD T vy_11 d) → va_P D classes [((Ma 0), .inr (12, [.ref (Ma 1), .int (Mv 0), .int (Mv 1), .ref (Ma 2), .ref (Ma 3), .ref (Ma 4), .ref (Ma 5), .ref (Ma 6), .int (Mv 2), .int (Mv 3), .int (Mv 4), .int (Mv 5), .int (Mv 6), .int (Mv 7), .int (Mv 8), .ref (Ma 7), .int (Mv 9), .ref (Ma 8), .int vy_8, .ref (Ma 9), .ref (Ma 10), .int (Mv 11), .int (Mv 12), .int (Mv 13), .ref (Ma 11), .int (Mv 14), .ref (Ma 12), .ref (Ma 13), .ref (Ma 14), .ref (Ma 15), .ref (Ma 16), .long (Mj 0), .ref (Ma 17), .ref (Ma 18), .ref (Ma 19), .ref (Ma 20)])), ((Ma 2), .inl (tc 0, 2400, .inl (Mf 2))), ((Ma 4), .inl (tc 0, 288, .inl (Mf 4))), ((Ma 5), .inl (tc 0, 6, .inl (Mf 5))), ((Ma 8), .inl (tc 1, 64, .inr (.inl vy_9))), ((Ma 9), .inl (tc 1, 13, .inr (.inl vy_10))), ((Ma 10), .inl (tc 0, 126, .inl vy_11))] H → va_D A [((Ma 0), .inr (12, [.ref (Ma 1), .int (Mv 0), .int (Mv 1), .ref (Ma 2), .ref (Ma 3), .ref (Ma 4), .ref (Ma 5), .ref (Ma 6), .int (Mv 2), .int (Mv 3), .int (Mv 4), .int (Mv 5), .int (Mv 6), .int (Mv 7), .int (Mv 8), .ref (Ma 7), .int (Mv 9), .ref (Ma 8), .int vy_8, .ref (Ma 9), .ref (Ma 10), .int (Mv 11), .int (Mv 12), .int (Mv 13), .ref (Ma 11), .int (Mv 14), .ref (Ma 12), .ref (Ma 13), .ref (Ma 14), .ref (Ma 15), .ref (Ma 16), .long (Mj 0), .ref (Ma 17), .ref (Ma 18), .ref (Ma 19), .ref (Ma 20)])), ((Ma 2), .inl (tc 0, 2400, .inl (Mf 2))), ((Ma 4), .inl (tc 0, 288, .inl (Mf 4))), ((Ma 5), .inl (tc 0, 6, .inl (Mf 5))), ((Ma 8), .inl (tc 1, 64, .inr (.inl vy_9))), ((Ma 9), .inl (tc 1, 13, .inr (.inl vy_10))), ((Ma 10), .inl (tc 0, 126, .inl vy_11))] → va_S A s.heap H locs → lv_has ls 3 [(2, .int vy_7), (1, .int vy_12), (0, .ref (Ma 0))] → W p l e ({ frames := 4, cells := 0, slots := 0, locals := 99 }) s m ([.ref (Ma 0)].toArray) below meth c H locs 0 0 (MQ below (QW (fun (v : Option Value) (u : (Int32) × (Nat → Int64) × (Nat → Int64) × (Nat → Int32)) => match u with | (oo0x1, oo0x2, oo0x3, oo0x4) => ∃ r : Int32, v = some (.int r) ∧ (True) ∧ (SaidD T oo0x4 (d + 1))) (BW D (fun (u : (Int32) × (Nat → Int64) × (Nat → Int64) × (Nat → Int32)) => match u with | (oo0x1, oo0x2, oo0x3, oo0x4) => [((Ma 0), .inr (12, [.ref (Ma 1), .int (Mv 0), .int (Mv 1), .ref (Ma 2), .ref (Ma 3), .ref (Ma 4), .ref (Ma 5), .ref (Ma 6), .int (Mv 2), .int (Mv 3), .int (Mv 4), .int (Mv 5), .int (Mv 6), .int (Mv 7), .int (Mv 8), .ref (Ma 7), .int (Mv 9), .ref (Ma 8), .int oo0x1, .ref (Ma 9), .ref (Ma 10), .int (Mv 11), .int (Mv 12), .int (Mv 13), .ref (Ma 11), .int (Mv 14), .ref (Ma 12), .ref (Ma 13), .ref (Ma 14), .ref (Ma 15), .ref (Ma 16), .long (Mj 0), .ref (Ma 17), .ref (Ma 18), .ref (Ma 19), .ref (Ma 20)])), ((Ma 2), .inl (tc 0, 2400, .inl (Mf 2))), ((Ma 4), .inl (tc 0, 288, .inl (Mf 4))), ((Ma 5), .inl (tc 0, 6, .inl (Mf 5))), ((Ma 8), .inl (tc 1, 64, .inr (.inl oo0x2))), ((Ma 9), .inl (tc 1, 13, .inr (.inl oo0x3))), ((Ma 10), .inl (tc 0, 126, .inl oo0x4))]) A) A) ([.ref (Ma 0)].toArray) s 0 0 A) (F0 m 4 ls []) := by
    clear hP hD hS hl
    intro n_13
    induction n_13 with
    | zero =>
      intro vy_7 vy_8 vy_9 vy_10 vy_11 vy_12 H locs ls h1
      exact absurd h1 (Nat.not_lt_zero _)
    | succ n_13 ih_14 =>
      intro vy_7 vy_8 vy_9 vy_10 vy_11 vy_12 H locs ls hn_18 pf_16 pf_17 hP hD hS hl
      have ar_pf_17 := SaidD.ar pf_17
      refine lv_iload_n hx hb dX12_passes_4 rfl (lv_at hl 0 rfl) ?_
      refine lv_aload_n hx hb dX12_passes_5 rfl (lv_at hl 2 rfl) ?_
      refine gf_X12_39 hx hb hts hown hK hP 0 rfl rfl dX12_passes_6 ?_
      refine lv_iconst (v := 3) hx hb dX12_passes_9 (by decide) ?_
      refine va_iald hx hb hK hP 6 0 rfl rfl (vin_dec (by decide +kernel)) dX12_passes_10 ?_
      refine lv_topi (fun x_19 ex_19 => ?_)
      have lx_19 : x_19.toInt = (vy_11 3).toInt := congrArg Int32.toInt ex_19
      refine lv_icmp_ge (tgt := 50) hx hb dX12_passes_11 (by decide) (fun c_20 => ?_) (fun c_20 => ?_)
      · skip
        refine lv_aload_n hx hb dX12_passes_50 rfl (lv_at hl 2 rfl) ?_
        refine cV (a := (Ma 0)) (As := []) (rest := []) (wr := [((Ma 2), .inl (tc 0, 2400, .inl (Mf 2))), ((Ma 4), .inl (tc 0, 288, .inl (Mf 4))), ((Ma 5), .inl (tc 0, 6, .inl (Mf 5))), ((Ma 8), .inl (tc 1, 64, .inr (.inl vy_9))), ((Ma 9), .inl (tc 1, 13, .inr (.inl vy_10)))]) ⟨hx, hb, hml, hown, hts⟩ hK hX hA (cu_X12_weathers l D tc sk (Ma 0) (Ma 1) (Ma 2) (Ma 3) (Ma 4) (Ma 5) (Ma 6) (Ma 7) (Ma 8) (Ma 9) (Ma 10) (Ma 11) (Ma 12) (Ma 13) (Ma 14) (Ma 15) (Ma 16) (Ma 17) (Ma 18) (Ma 19) (Ma 20) (Mv 0) (Mv 1) (Mv 2) (Mv 3) (Mv 4) (Mv 5) (Mv 6) (Mv 7) (Mv 8) (Mv 9) vy_8 (Mv 11) (Mv 12) (Mv 13) (Mv 14) vy_11 (Mj 0) d pf_17) k_1477 k_1474 k_1476 k_79 k_106 pl_X12_weathers ⟨Nat.le_of_ble_eq_true rfl, Nat.le_of_ble_eq_true rfl⟩ rfl rfl (va_recv hK hP (ci := 12) (q0 := 0) rfl rfl) hP hD hS [0, 6] [1, 2, 3, 4, 5] rfl rfl rfl rfl rfl (by decide) rfl hl.1 rfl (Nat.le_of_ble_eq_true rfl) dX12_passes_51 ⟨Nat.le_of_ble_eq_true rfl, Nat.le_of_ble_eq_true rfl⟩ (fun v_21 u_22 H locs hv_23 hP₀ hD₀ hS₀ => ?_)
        obtain ⟨sv_24, rfl⟩ : ∃ z, z = u_22 := ⟨_, rfl⟩
        obtain ⟨rfl, pf_25⟩ := hv_23
        have pf_25 : SaidD T sv_24 d := pf_25
        have ar_pf_25 := SaidD.ar pf_25
        refine W.eq (g2 := F0 m 54 ls []) rfl ?_
        replace hP : va_P D classes [((Ma 2), .inl (tc 0, 2400, .inl (Mf 2))), ((Ma 4), .inl (tc 0, 288, .inl (Mf 4))), ((Ma 5), .inl (tc 0, 6, .inl (Mf 5))), ((Ma 8), .inl (tc 1, 64, .inr (.inl vy_9))), ((Ma 9), .inl (tc 1, 13, .inr (.inl vy_10))), ((Ma 0), .inr (12, [.ref (Ma 1), .int (Mv 0), .int (Mv 1), .ref (Ma 2), .ref (Ma 3), .ref (Ma 4), .ref (Ma 5), .ref (Ma 6), .int (Mv 2), .int (Mv 3), .int (Mv 4), .int (Mv 5), .int (Mv 6), .int (Mv 7), .int (Mv 8), .ref (Ma 7), .int (Mv 9), .ref (Ma 8), .int vy_8, .ref (Ma 9), .ref (Ma 10), .int (Mv 11), .int (Mv 12), .int (Mv 13), .ref (Ma 11), .int (Mv 14), .ref (Ma 12), .ref (Ma 13), .ref (Ma 14), .ref (Ma 15), .ref (Ma 16), .long (Mj 0), .ref (Ma 17), .ref (Ma 18), .ref (Ma 19), .ref (Ma 20)])), ((Ma 10), .inl (tc 0, 126, .inl sv_24))] H := hP₀
        replace hD : va_D A [((Ma 2), .inl (tc 0, 2400, .inl (Mf 2))), ((Ma 4), .inl (tc 0, 288, .inl (Mf 4))), ((Ma 5), .inl (tc 0, 6, .inl (Mf 5))), ((Ma 8), .inl (tc 1, 64, .inr (.inl vy_9))), ((Ma 9), .inl (tc 1, 13, .inr (.inl vy_10))), ((Ma 0), .inr (12, [.ref (Ma 1), .int (Mv 0), .int (Mv 1), .ref (Ma 2), .ref (Ma 3), .ref (Ma 4), .ref (Ma 5), .ref (Ma 6), .int (Mv 2), .int (Mv 3), .int (Mv 4), .int (Mv 5), .int (Mv 6), .int (Mv 7), .int (Mv 8), .ref (Ma 7), .int (Mv 9), .ref (Ma 8), .int vy_8, .ref (Ma 9), .ref (Ma 10), .int (Mv 11), .int (Mv 12), .int (Mv 13), .ref (Ma 11), .int (Mv 14), .ref (Ma 12), .ref (Ma 13), .ref (Ma 14), .ref (Ma 15), .ref (Ma 16), .long (Mj 0), .ref (Ma 17), .ref (Ma 18), .ref (Ma 19), .ref (Ma 20)])), ((Ma 10), .inl (tc 0, 126, .inl sv_24))] := hD₀
        replace hS := hS₀
        clear hP₀ hD₀ hS₀
        refine lv_aload_n hx hb dX12_passes_54 rfl (lv_at hl 2 rfl) ?_
        refine gf_X12_39 hx hb hts hown hK hP 5 rfl rfl dX12_passes_55 ?_
        refine lv_bipush (v := 10) hx hb dX12_passes_58 (by decide) ?_
        refine va_iald hx hb hK hP 6 0 rfl rfl (vin_dec (by decide +kernel)) dX12_passes_60 ?_
        refine lv_topi (fun x_26 ex_26 => ?_)
        have lx_26 : x_26.toInt = (sv_24 10).toInt := congrArg Int32.toInt ex_26
        refine lv_bipush (v := 7) hx hb dX12_passes_61 (by decide) ?_
        refine lv_irem hx hb dX12_passes_63 (by decide) ?_
        refine lv_topi (fun x_27 ex_27 => ?_)
        refine lv_bipush (v := 6) hx hb dX12_passes_64 (by decide) ?_
        refine lv_icmp_ne (tgt := 106) hx hb dX12_passes_66 (by decide) (fun c_28 => ?_) (fun c_28 => ?_)
        · skip
          refine lv_aload_n hx hb dX12_passes_106 rfl (lv_at hl 2 rfl) ?_
          refine gf_X12_39 hx hb hts hown hK hP 5 rfl rfl dX12_passes_107 ?_
          refine lv_bipush (v := 10) hx hb dX12_passes_110 (by decide) ?_
          refine lv_dup2_11 hx hb dX12_passes_112 rfl rfl ?_
          refine va_iald hx hb hK hP 6 0 rfl rfl (vin_dec (by decide +kernel)) dX12_passes_113 ?_
          refine lv_topi (fun x_29 ex_29 => ?_)
          have lx_29 : x_29.toInt = (sv_24 10).toInt := congrArg Int32.toInt ex_29
          refine lv_iconst (v := 1) hx hb dX12_passes_114 (by decide) ?_
          refine lv_iadd hx hb dX12_passes_115 ?_
          refine lv_topi (fun x_30 ex_30 => ?_)
          refine st_int hx hb hK hP hD hS 6 0 rfl rfl (vin_dec (by decide +kernel)) dX12_passes_116 (fun g_31 H locs eg_31 hP₀ hD₀ hS₀ => ?_)
          replace hP : va_P D classes [((Ma 2), .inl (tc 0, 2400, .inl (Mf 2))), ((Ma 4), .inl (tc 0, 288, .inl (Mf 4))), ((Ma 5), .inl (tc 0, 6, .inl (Mf 5))), ((Ma 8), .inl (tc 1, 64, .inr (.inl vy_9))), ((Ma 9), .inl (tc 1, 13, .inr (.inl vy_10))), ((Ma 0), .inr (12, [.ref (Ma 1), .int (Mv 0), .int (Mv 1), .ref (Ma 2), .ref (Ma 3), .ref (Ma 4), .ref (Ma 5), .ref (Ma 6), .int (Mv 2), .int (Mv 3), .int (Mv 4), .int (Mv 5), .int (Mv 6), .int (Mv 7), .int (Mv 8), .ref (Ma 7), .int (Mv 9), .ref (Ma 8), .int vy_8, .ref (Ma 9), .ref (Ma 10), .int (Mv 11), .int (Mv 12), .int (Mv 13), .ref (Ma 11), .int (Mv 14), .ref (Ma 12), .ref (Ma 13), .ref (Ma 14), .ref (Ma 15), .ref (Ma 16), .long (Mj 0), .ref (Ma 17), .ref (Ma 18), .ref (Ma 19), .ref (Ma 20)])), ((Ma 10), .inl (tc 0, 126, .inl g_31))] H := hP₀
          replace hD : va_D A [((Ma 2), .inl (tc 0, 2400, .inl (Mf 2))), ((Ma 4), .inl (tc 0, 288, .inl (Mf 4))), ((Ma 5), .inl (tc 0, 6, .inl (Mf 5))), ((Ma 8), .inl (tc 1, 64, .inr (.inl vy_9))), ((Ma 9), .inl (tc 1, 13, .inr (.inl vy_10))), ((Ma 0), .inr (12, [.ref (Ma 1), .int (Mv 0), .int (Mv 1), .ref (Ma 2), .ref (Ma 3), .ref (Ma 4), .ref (Ma 5), .ref (Ma 6), .int (Mv 2), .int (Mv 3), .int (Mv 4), .int (Mv 5), .int (Mv 6), .int (Mv 7), .int (Mv 8), .ref (Ma 7), .int (Mv 9), .ref (Ma 8), .int vy_8, .ref (Ma 9), .ref (Ma 10), .int (Mv 11), .int (Mv 12), .int (Mv 13), .ref (Ma 11), .int (Mv 14), .ref (Ma 12), .ref (Ma 13), .ref (Ma 14), .ref (Ma 15), .ref (Ma 16), .long (Mj 0), .ref (Ma 17), .ref (Ma 18), .ref (Ma 19), .ref (Ma 20)])), ((Ma 10), .inl (tc 0, 126, .inl g_31))] := hD₀
          replace hS := hS₀
          clear hP₀ hD₀ hS₀
          have hx_33 : 0 ≤ (x_30 : Int32).toInt ∧ (x_30 : Int32).toInt ≤ (d + 1) := by
            have z_1 := Int32.le_iff_toInt_le.mp c_20
            have z_2 : ¬ (x_27 : Int32).toInt = (6 : Int32).toInt := fun z => c_28 (Int32.toInt_inj.mp z)
            have y_6 : (6 : Int32).toInt = 6 := by decide
            have y_1 : (1 : Int32).toInt = 1 := by decide
            have y_7 : (7 : Int32).toInt = 7 := by decide
            have t_x_30 : x_30.toInt = (x_29 : Int32).toInt + (1 : Int32).toInt := by rw [ex_30]; exact add_toInt (by omega) (by omega)
            have t_x_27 := rem_bounds (x := x_26) (y := 7) (by omega)
            rw [← ex_27] at t_x_27
            omega
          have pf_32 : SaidD T g_31 (d + 1) := SaidD.day pf_25.1 eg_31 (by decide) hx_33
          have ar_pf_32 := SaidD.ar pf_32
          refine lv_iload_n hx hb dX12_passes_117 rfl (lv_at hl 1 rfl) ?_
          exact retI (v := vy_12) hx hb hr hlk (rfl) hP hD hS (vy_8, vy_9, vy_10, g_31) ⟨_, rfl, trivial, pf_32⟩ [5, 0, 1, 2, 3, 4, 6] rfl rfl dX12_passes_118 (Nat.le_of_ble_eq_true rfl) (Nat.le_of_ble_eq_true rfl) rfl
        · skip
          refine lv_aload_n hx hb dX12_passes_69 rfl (lv_at hl 2 rfl) ?_
          refine gf_X12_39 hx hb hts hown hK hP 5 rfl rfl dX12_passes_70 ?_
          refine lv_bipush (v := 11) hx hb dX12_passes_73 (by decide) ?_
          refine lv_dup2_11 hx hb dX12_passes_75 rfl rfl ?_
          refine va_iald hx hb hK hP 6 0 rfl rfl (vin_dec (by decide +kernel)) dX12_passes_76 ?_
          refine lv_topi (fun x_34 ex_34 => ?_)
          have lx_34 : x_34.toInt = (sv_24 11).toInt := congrArg Int32.toInt ex_34
          refine lv_aload_n hx hb dX12_passes_77 rfl (lv_at hl 2 rfl) ?_
          refine gf_X12_39 hx hb hts hown hK hP 5 rfl rfl dX12_passes_78 ?_
          refine lv_iconst (v := 1) hx hb dX12_passes_81 (by decide) ?_
          refine va_iald hx hb hK hP 6 0 rfl rfl (vin_dec (by decide +kernel)) dX12_passes_82 ?_
          refine lv_topi (fun x_35 ex_35 => ?_)
          have lx_35 : x_35.toInt = (sv_24 1).toInt := congrArg Int32.toInt ex_35
          refine lv_iadd hx hb dX12_passes_83 ?_
          refine lv_topi (fun x_36 ex_36 => ?_)
          refine st_int hx hb hK hP hD hS 6 0 rfl rfl (vin_dec (by decide +kernel)) dX12_passes_84 (fun g_37 H locs eg_37 hP₀ hD₀ hS₀ => ?_)
          replace hP : va_P D classes [((Ma 2), .inl (tc 0, 2400, .inl (Mf 2))), ((Ma 4), .inl (tc 0, 288, .inl (Mf 4))), ((Ma 5), .inl (tc 0, 6, .inl (Mf 5))), ((Ma 8), .inl (tc 1, 64, .inr (.inl vy_9))), ((Ma 9), .inl (tc 1, 13, .inr (.inl vy_10))), ((Ma 0), .inr (12, [.ref (Ma 1), .int (Mv 0), .int (Mv 1), .ref (Ma 2), .ref (Ma 3), .ref (Ma 4), .ref (Ma 5), .ref (Ma 6), .int (Mv 2), .int (Mv 3), .int (Mv 4), .int (Mv 5), .int (Mv 6), .int (Mv 7), .int (Mv 8), .ref (Ma 7), .int (Mv 9), .ref (Ma 8), .int vy_8, .ref (Ma 9), .ref (Ma 10), .int (Mv 11), .int (Mv 12), .int (Mv 13), .ref (Ma 11), .int (Mv 14), .ref (Ma 12), .ref (Ma 13), .ref (Ma 14), .ref (Ma 15), .ref (Ma 16), .long (Mj 0), .ref (Ma 17), .ref (Ma 18), .ref (Ma 19), .ref (Ma 20)])), ((Ma 10), .inl (tc 0, 126, .inl g_37))] H := hP₀
          replace hD : va_D A [((Ma 2), .inl (tc 0, 2400, .inl (Mf 2))), ((Ma 4), .inl (tc 0, 288, .inl (Mf 4))), ((Ma 5), .inl (tc 0, 6, .inl (Mf 5))), ((Ma 8), .inl (tc 1, 64, .inr (.inl vy_9))), ((Ma 9), .inl (tc 1, 13, .inr (.inl vy_10))), ((Ma 0), .inr (12, [.ref (Ma 1), .int (Mv 0), .int (Mv 1), .ref (Ma 2), .ref (Ma 3), .ref (Ma 4), .ref (Ma 5), .ref (Ma 6), .int (Mv 2), .int (Mv 3), .int (Mv 4), .int (Mv 5), .int (Mv 6), .int (Mv 7), .int (Mv 8), .ref (Ma 7), .int (Mv 9), .ref (Ma 8), .int vy_8, .ref (Ma 9), .ref (Ma 10), .int (Mv 11), .int (Mv 12), .int (Mv 13), .ref (Ma 11), .int (Mv 14), .ref (Ma 12), .ref (Ma 13), .ref (Ma 14), .ref (Ma 15), .ref (Ma 16), .long (Mj 0), .ref (Ma 17), .ref (Ma 18), .ref (Ma 19), .ref (Ma 20)])), ((Ma 10), .inl (tc 0, 126, .inl g_37))] := hD₀
          replace hS := hS₀
          clear hP₀ hD₀ hS₀
          have pf_38 : SaidD T g_37 d := SaidD.keep pf_25 eg_37 (by decide)
          have ar_pf_38 := SaidD.ar pf_38
          refine lv_aload_n hx hb dX12_passes_85 rfl (lv_at hl 2 rfl) ?_
          refine gf_X12_39 hx hb hts hown hK hP 5 rfl rfl dX12_passes_86 ?_
          refine lv_bipush (v := 11) hx hb dX12_passes_89 (by decide) ?_
          refine va_iald hx hb hK hP 6 0 rfl rfl (vin_dec (by decide +kernel)) dX12_passes_91 ?_
          refine lv_topi (fun x_39 ex_39 => ?_)
          have lx_39 : x_39.toInt = (g_37 11).toInt := congrArg Int32.toInt ex_39
          refine lv_bipush (v := 99) hx hb dX12_passes_92 (by decide) ?_
          refine lv_icmp_le (tgt := 106) hx hb dX12_passes_94 (by decide) (fun c_40 => ?_) (fun c_40 => ?_)
          · skip
            refine lv_aload_n hx hb dX12_passes_106 rfl (lv_at hl 2 rfl) ?_
            refine gf_X12_39 hx hb hts hown hK hP 5 rfl rfl dX12_passes_107 ?_
            refine lv_bipush (v := 10) hx hb dX12_passes_110 (by decide) ?_
            refine lv_dup2_11 hx hb dX12_passes_112 rfl rfl ?_
            refine va_iald hx hb hK hP 6 0 rfl rfl (vin_dec (by decide +kernel)) dX12_passes_113 ?_
            refine lv_topi (fun x_41 ex_41 => ?_)
            have lx_41 : x_41.toInt = (g_37 10).toInt := congrArg Int32.toInt ex_41
            refine lv_iconst (v := 1) hx hb dX12_passes_114 (by decide) ?_
            refine lv_iadd hx hb dX12_passes_115 ?_
            refine lv_topi (fun x_42 ex_42 => ?_)
            refine st_int hx hb hK hP hD hS 6 0 rfl rfl (vin_dec (by decide +kernel)) dX12_passes_116 (fun g_43 H locs eg_43 hP₀ hD₀ hS₀ => ?_)
            replace hP : va_P D classes [((Ma 2), .inl (tc 0, 2400, .inl (Mf 2))), ((Ma 4), .inl (tc 0, 288, .inl (Mf 4))), ((Ma 5), .inl (tc 0, 6, .inl (Mf 5))), ((Ma 8), .inl (tc 1, 64, .inr (.inl vy_9))), ((Ma 9), .inl (tc 1, 13, .inr (.inl vy_10))), ((Ma 0), .inr (12, [.ref (Ma 1), .int (Mv 0), .int (Mv 1), .ref (Ma 2), .ref (Ma 3), .ref (Ma 4), .ref (Ma 5), .ref (Ma 6), .int (Mv 2), .int (Mv 3), .int (Mv 4), .int (Mv 5), .int (Mv 6), .int (Mv 7), .int (Mv 8), .ref (Ma 7), .int (Mv 9), .ref (Ma 8), .int vy_8, .ref (Ma 9), .ref (Ma 10), .int (Mv 11), .int (Mv 12), .int (Mv 13), .ref (Ma 11), .int (Mv 14), .ref (Ma 12), .ref (Ma 13), .ref (Ma 14), .ref (Ma 15), .ref (Ma 16), .long (Mj 0), .ref (Ma 17), .ref (Ma 18), .ref (Ma 19), .ref (Ma 20)])), ((Ma 10), .inl (tc 0, 126, .inl g_43))] H := hP₀
            replace hD : va_D A [((Ma 2), .inl (tc 0, 2400, .inl (Mf 2))), ((Ma 4), .inl (tc 0, 288, .inl (Mf 4))), ((Ma 5), .inl (tc 0, 6, .inl (Mf 5))), ((Ma 8), .inl (tc 1, 64, .inr (.inl vy_9))), ((Ma 9), .inl (tc 1, 13, .inr (.inl vy_10))), ((Ma 0), .inr (12, [.ref (Ma 1), .int (Mv 0), .int (Mv 1), .ref (Ma 2), .ref (Ma 3), .ref (Ma 4), .ref (Ma 5), .ref (Ma 6), .int (Mv 2), .int (Mv 3), .int (Mv 4), .int (Mv 5), .int (Mv 6), .int (Mv 7), .int (Mv 8), .ref (Ma 7), .int (Mv 9), .ref (Ma 8), .int vy_8, .ref (Ma 9), .ref (Ma 10), .int (Mv 11), .int (Mv 12), .int (Mv 13), .ref (Ma 11), .int (Mv 14), .ref (Ma 12), .ref (Ma 13), .ref (Ma 14), .ref (Ma 15), .ref (Ma 16), .long (Mj 0), .ref (Ma 17), .ref (Ma 18), .ref (Ma 19), .ref (Ma 20)])), ((Ma 10), .inl (tc 0, 126, .inl g_43))] := hD₀
            replace hS := hS₀
            clear hP₀ hD₀ hS₀
            have hx_45 : 0 ≤ (x_42 : Int32).toInt ∧ (x_42 : Int32).toInt ≤ (d + 1) := by
              have z_1 := Int32.le_iff_toInt_le.mp c_20
              have z_2 := congrArg Int32.toInt c_28
              have z_3 := Int32.le_iff_toInt_le.mp c_40
              have y_6 : (6 : Int32).toInt = 6 := by decide
              have y_99 : (99 : Int32).toInt = 99 := by decide
              have y_1 : (1 : Int32).toInt = 1 := by decide
              have y_7 : (7 : Int32).toInt = 7 := by decide
              have t_x_42 : x_42.toInt = (x_41 : Int32).toInt + (1 : Int32).toInt := by rw [ex_42]; exact add_toInt (by omega) (by omega)
              have t_x_27 := rem_bounds (x := x_26) (y := 7) (by omega)
              rw [← ex_27] at t_x_27
              omega
            have pf_44 : SaidD T g_43 (d + 1) := SaidD.day pf_38.1 eg_43 (by decide) hx_45
            have ar_pf_44 := SaidD.ar pf_44
            refine lv_iload_n hx hb dX12_passes_117 rfl (lv_at hl 1 rfl) ?_
            exact retI (v := vy_12) hx hb hr hlk (rfl) hP hD hS (vy_8, vy_9, vy_10, g_43) ⟨_, rfl, trivial, pf_44⟩ [5, 0, 1, 2, 3, 4, 6] rfl rfl dX12_passes_118 (Nat.le_of_ble_eq_true rfl) (Nat.le_of_ble_eq_true rfl) rfl
          · skip
            refine lv_aload_n hx hb dX12_passes_97 rfl (lv_at hl 2 rfl) ?_
            refine gf_X12_39 hx hb hts hown hK hP 5 rfl rfl dX12_passes_98 ?_
            refine lv_bipush (v := 11) hx hb dX12_passes_101 (by decide) ?_
            refine lv_bipush (v := 99) hx hb dX12_passes_103 (by decide) ?_
            refine st_int hx hb hK hP hD hS 6 0 rfl rfl (vin_dec (by decide +kernel)) dX12_passes_105 (fun g_46 H locs eg_46 hP₀ hD₀ hS₀ => ?_)
            replace hP : va_P D classes [((Ma 2), .inl (tc 0, 2400, .inl (Mf 2))), ((Ma 4), .inl (tc 0, 288, .inl (Mf 4))), ((Ma 5), .inl (tc 0, 6, .inl (Mf 5))), ((Ma 8), .inl (tc 1, 64, .inr (.inl vy_9))), ((Ma 9), .inl (tc 1, 13, .inr (.inl vy_10))), ((Ma 0), .inr (12, [.ref (Ma 1), .int (Mv 0), .int (Mv 1), .ref (Ma 2), .ref (Ma 3), .ref (Ma 4), .ref (Ma 5), .ref (Ma 6), .int (Mv 2), .int (Mv 3), .int (Mv 4), .int (Mv 5), .int (Mv 6), .int (Mv 7), .int (Mv 8), .ref (Ma 7), .int (Mv 9), .ref (Ma 8), .int vy_8, .ref (Ma 9), .ref (Ma 10), .int (Mv 11), .int (Mv 12), .int (Mv 13), .ref (Ma 11), .int (Mv 14), .ref (Ma 12), .ref (Ma 13), .ref (Ma 14), .ref (Ma 15), .ref (Ma 16), .long (Mj 0), .ref (Ma 17), .ref (Ma 18), .ref (Ma 19), .ref (Ma 20)])), ((Ma 10), .inl (tc 0, 126, .inl g_46))] H := hP₀
            replace hD : va_D A [((Ma 2), .inl (tc 0, 2400, .inl (Mf 2))), ((Ma 4), .inl (tc 0, 288, .inl (Mf 4))), ((Ma 5), .inl (tc 0, 6, .inl (Mf 5))), ((Ma 8), .inl (tc 1, 64, .inr (.inl vy_9))), ((Ma 9), .inl (tc 1, 13, .inr (.inl vy_10))), ((Ma 0), .inr (12, [.ref (Ma 1), .int (Mv 0), .int (Mv 1), .ref (Ma 2), .ref (Ma 3), .ref (Ma 4), .ref (Ma 5), .ref (Ma 6), .int (Mv 2), .int (Mv 3), .int (Mv 4), .int (Mv 5), .int (Mv 6), .int (Mv 7), .int (Mv 8), .ref (Ma 7), .int (Mv 9), .ref (Ma 8), .int vy_8, .ref (Ma 9), .ref (Ma 10), .int (Mv 11), .int (Mv 12), .int (Mv 13), .ref (Ma 11), .int (Mv 14), .ref (Ma 12), .ref (Ma 13), .ref (Ma 14), .ref (Ma 15), .ref (Ma 16), .long (Mj 0), .ref (Ma 17), .ref (Ma 18), .ref (Ma 19), .ref (Ma 20)])), ((Ma 10), .inl (tc 0, 126, .inl g_46))] := hD₀
            replace hS := hS₀
            clear hP₀ hD₀ hS₀
            have pf_47 : SaidD T g_46 d := SaidD.keep pf_38 eg_46 (by decide)
            have ar_pf_47 := SaidD.ar pf_47
            refine lv_aload_n hx hb dX12_passes_106 rfl (lv_at hl 2 rfl) ?_
            refine gf_X12_39 hx hb hts hown hK hP 5 rfl rfl dX12_passes_107 ?_
            refine lv_bipush (v := 10) hx hb dX12_passes_110 (by decide) ?_
            refine lv_dup2_11 hx hb dX12_passes_112 rfl rfl ?_
            refine va_iald hx hb hK hP 6 0 rfl rfl (vin_dec (by decide +kernel)) dX12_passes_113 ?_
            refine lv_topi (fun x_48 ex_48 => ?_)
            have lx_48 : x_48.toInt = (g_46 10).toInt := congrArg Int32.toInt ex_48
            refine lv_iconst (v := 1) hx hb dX12_passes_114 (by decide) ?_
            refine lv_iadd hx hb dX12_passes_115 ?_
            refine lv_topi (fun x_49 ex_49 => ?_)
            refine st_int hx hb hK hP hD hS 6 0 rfl rfl (vin_dec (by decide +kernel)) dX12_passes_116 (fun g_50 H locs eg_50 hP₀ hD₀ hS₀ => ?_)
            replace hP : va_P D classes [((Ma 2), .inl (tc 0, 2400, .inl (Mf 2))), ((Ma 4), .inl (tc 0, 288, .inl (Mf 4))), ((Ma 5), .inl (tc 0, 6, .inl (Mf 5))), ((Ma 8), .inl (tc 1, 64, .inr (.inl vy_9))), ((Ma 9), .inl (tc 1, 13, .inr (.inl vy_10))), ((Ma 0), .inr (12, [.ref (Ma 1), .int (Mv 0), .int (Mv 1), .ref (Ma 2), .ref (Ma 3), .ref (Ma 4), .ref (Ma 5), .ref (Ma 6), .int (Mv 2), .int (Mv 3), .int (Mv 4), .int (Mv 5), .int (Mv 6), .int (Mv 7), .int (Mv 8), .ref (Ma 7), .int (Mv 9), .ref (Ma 8), .int vy_8, .ref (Ma 9), .ref (Ma 10), .int (Mv 11), .int (Mv 12), .int (Mv 13), .ref (Ma 11), .int (Mv 14), .ref (Ma 12), .ref (Ma 13), .ref (Ma 14), .ref (Ma 15), .ref (Ma 16), .long (Mj 0), .ref (Ma 17), .ref (Ma 18), .ref (Ma 19), .ref (Ma 20)])), ((Ma 10), .inl (tc 0, 126, .inl g_50))] H := hP₀
            replace hD : va_D A [((Ma 2), .inl (tc 0, 2400, .inl (Mf 2))), ((Ma 4), .inl (tc 0, 288, .inl (Mf 4))), ((Ma 5), .inl (tc 0, 6, .inl (Mf 5))), ((Ma 8), .inl (tc 1, 64, .inr (.inl vy_9))), ((Ma 9), .inl (tc 1, 13, .inr (.inl vy_10))), ((Ma 0), .inr (12, [.ref (Ma 1), .int (Mv 0), .int (Mv 1), .ref (Ma 2), .ref (Ma 3), .ref (Ma 4), .ref (Ma 5), .ref (Ma 6), .int (Mv 2), .int (Mv 3), .int (Mv 4), .int (Mv 5), .int (Mv 6), .int (Mv 7), .int (Mv 8), .ref (Ma 7), .int (Mv 9), .ref (Ma 8), .int vy_8, .ref (Ma 9), .ref (Ma 10), .int (Mv 11), .int (Mv 12), .int (Mv 13), .ref (Ma 11), .int (Mv 14), .ref (Ma 12), .ref (Ma 13), .ref (Ma 14), .ref (Ma 15), .ref (Ma 16), .long (Mj 0), .ref (Ma 17), .ref (Ma 18), .ref (Ma 19), .ref (Ma 20)])), ((Ma 10), .inl (tc 0, 126, .inl g_50))] := hD₀
            replace hS := hS₀
            clear hP₀ hD₀ hS₀
            have hx_52 : 0 ≤ (x_49 : Int32).toInt ∧ (x_49 : Int32).toInt ≤ (d + 1) := by
              have z_1 := Int32.le_iff_toInt_le.mp c_20
              have z_2 := congrArg Int32.toInt c_28
              have z_3 := Int32.lt_iff_toInt_lt.mp (Int32.not_le.mp c_40)
              have y_6 : (6 : Int32).toInt = 6 := by decide
              have y_99 : (99 : Int32).toInt = 99 := by decide
              have y_1 : (1 : Int32).toInt = 1 := by decide
              have y_7 : (7 : Int32).toInt = 7 := by decide
              have t_x_49 : x_49.toInt = (x_48 : Int32).toInt + (1 : Int32).toInt := by rw [ex_49]; exact add_toInt (by omega) (by omega)
              have t_x_27 := rem_bounds (x := x_26) (y := 7) (by omega)
              rw [← ex_27] at t_x_27
              omega
            have pf_51 : SaidD T g_50 (d + 1) := SaidD.day pf_47.1 eg_50 (by decide) hx_52
            have ar_pf_51 := SaidD.ar pf_51
            refine lv_iload_n hx hb dX12_passes_117 rfl (lv_at hl 1 rfl) ?_
            exact retI (v := vy_12) hx hb hr hlk (rfl) hP hD hS (vy_8, vy_9, vy_10, g_50) ⟨_, rfl, trivial, pf_51⟩ [5, 0, 1, 2, 3, 4, 6] rfl rfl dX12_passes_118 (Nat.le_of_ble_eq_true rfl) (Nat.le_of_ble_eq_true rfl) rfl
      · skip
        refine lv_aload_n hx hb dX12_passes_14 rfl (lv_at hl 2 rfl) ?_
        refine lv_iload_n hx hb dX12_passes_15 rfl (lv_at hl 0 rfl) ?_
        have ha_53 : 0 ≤ vy_7.toInt ∧ vy_7.toInt < 6 := by
          have z_1 := Int32.lt_iff_toInt_lt.mp (Int32.not_le.mp c_20)
          omega
        refine cV (a := (Ma 0)) (As := [.int vy_7]) (rest := []) (wr := [((Ma 2), .inl (tc 0, 2400, .inl (Mf 2))), ((Ma 4), .inl (tc 0, 288, .inl (Mf 4))), ((Ma 5), .inl (tc 0, 6, .inl (Mf 5))), ((Ma 8), .inl (tc 1, 64, .inr (.inl vy_9))), ((Ma 9), .inl (tc 1, 13, .inr (.inl vy_10)))]) ⟨hx, hb, hml, hown, hts⟩ hK hX hA (cu_X12_canBuy l D tc sk (Ma 0) (Ma 1) (Ma 2) (Ma 3) (Ma 4) (Ma 5) (Ma 6) (Ma 7) (Ma 8) (Ma 9) (Ma 10) (Ma 11) (Ma 12) (Ma 13) (Ma 14) (Ma 15) (Ma 16) (Ma 17) (Ma 18) (Ma 19) (Ma 20) (Mv 0) (Mv 1) (Mv 2) (Mv 3) (Mv 4) (Mv 5) (Mv 6) (Mv 7) (Mv 8) (Mv 9) vy_8 (Mv 11) (Mv 12) (Mv 13) (Mv 14) vy_11 (Mj 0) vy_7 ha_53) k_1427 k_1424 k_1426 k_68 k_106 pl_X12_canBuy ⟨Nat.le_of_ble_eq_true rfl, Nat.le_of_ble_eq_true rfl⟩ rfl rfl (va_recv hK hP (ci := 12) (q0 := 0) rfl rfl) hP hD hS [0, 6] [1, 2, 3, 4, 5] rfl rfl rfl rfl rfl (by decide) rfl hl.1 rfl (Nat.le_of_ble_eq_true rfl) dX12_passes_16 ⟨Nat.le_of_ble_eq_true rfl, Nat.le_of_ble_eq_true rfl⟩ (fun v_54 u_55 H locs hv_56 hP₀ hD₀ hS₀ => ?_)
        obtain ⟨r_57, rfl, he_58⟩ := hv_56
        have he_58 : (r_57.toInt = 0 ∨ r_57.toInt = 1) := he_58
        refine W.eq (g2 := F0 m 19 ls [.int r_57]) rfl ?_
        replace hP : va_P D classes [((Ma 2), .inl (tc 0, 2400, .inl (Mf 2))), ((Ma 4), .inl (tc 0, 288, .inl (Mf 4))), ((Ma 5), .inl (tc 0, 6, .inl (Mf 5))), ((Ma 8), .inl (tc 1, 64, .inr (.inl vy_9))), ((Ma 9), .inl (tc 1, 13, .inr (.inl vy_10))), ((Ma 0), .inr (12, [.ref (Ma 1), .int (Mv 0), .int (Mv 1), .ref (Ma 2), .ref (Ma 3), .ref (Ma 4), .ref (Ma 5), .ref (Ma 6), .int (Mv 2), .int (Mv 3), .int (Mv 4), .int (Mv 5), .int (Mv 6), .int (Mv 7), .int (Mv 8), .ref (Ma 7), .int (Mv 9), .ref (Ma 8), .int vy_8, .ref (Ma 9), .ref (Ma 10), .int (Mv 11), .int (Mv 12), .int (Mv 13), .ref (Ma 11), .int (Mv 14), .ref (Ma 12), .ref (Ma 13), .ref (Ma 14), .ref (Ma 15), .ref (Ma 16), .long (Mj 0), .ref (Ma 17), .ref (Ma 18), .ref (Ma 19), .ref (Ma 20)])), ((Ma 10), .inl (tc 0, 126, .inl vy_11))] H := hP₀
        replace hD : va_D A [((Ma 2), .inl (tc 0, 2400, .inl (Mf 2))), ((Ma 4), .inl (tc 0, 288, .inl (Mf 4))), ((Ma 5), .inl (tc 0, 6, .inl (Mf 5))), ((Ma 8), .inl (tc 1, 64, .inr (.inl vy_9))), ((Ma 9), .inl (tc 1, 13, .inr (.inl vy_10))), ((Ma 0), .inr (12, [.ref (Ma 1), .int (Mv 0), .int (Mv 1), .ref (Ma 2), .ref (Ma 3), .ref (Ma 4), .ref (Ma 5), .ref (Ma 6), .int (Mv 2), .int (Mv 3), .int (Mv 4), .int (Mv 5), .int (Mv 6), .int (Mv 7), .int (Mv 8), .ref (Ma 7), .int (Mv 9), .ref (Ma 8), .int vy_8, .ref (Ma 9), .ref (Ma 10), .int (Mv 11), .int (Mv 12), .int (Mv 13), .ref (Ma 11), .int (Mv 14), .ref (Ma 12), .ref (Ma 13), .ref (Ma 14), .ref (Ma 15), .ref (Ma 16), .long (Mj 0), .ref (Ma 17), .ref (Ma 18), .ref (Ma 19), .ref (Ma 20)])), ((Ma 10), .inl (tc 0, 126, .inl vy_11))] := hD₀
        replace hS := hS₀
        clear hP₀ hD₀ hS₀
        refine lv_if_eq (tgt := 44) hx hb dX12_passes_19 (by decide) (fun c_60 => ?_) (fun c_60 => ?_)
        · skip
          obtain ⟨x_61, ex_61⟩ : ∃ y : Int32, y = vy_7 + 1 := ⟨_, rfl⟩
          refine lv_iinc (v := x_61) (lv' := [(2, .int x_61), (1, .int vy_12), (0, .ref (Ma 0))]) hx hb dX12_passes_44 hl (k := 0) rfl (by rw [ex_61]; rfl) (by decide) rfl (fun ls hl₀ => ?_)
          replace hl := hl₀
          clear hl₀
          refine lv_goto (tgt := 4) hx hb dX12_passes_47 (by decide) ?_
          have hb_62 : 6 - (x_61 : Int32).toInt < 6 - (vy_7 : Int32).toInt ∧ 1 ≤ 6 - (vy_7 : Int32).toInt := by
            have z_1 := Int32.lt_iff_toInt_lt.mp (Int32.not_le.mp c_20)
            have z_2 := congrArg Int32.toInt c_60
            have y_0 : (0 : Int32).toInt = 0 := by decide
            have y_1 : (1 : Int32).toInt = 1 := by decide
            have t_x_61 : x_61.toInt = (vy_7 : Int32).toInt + (1 : Int32).toInt := by rw [ex_61]; exact add_toInt (by omega) (by omega)
            omega
          have ha_63 : 0 ≤ (x_61 : Int32).toInt := by
            have z_1 := Int32.lt_iff_toInt_lt.mp (Int32.not_le.mp c_20)
            have z_2 := congrArg Int32.toInt c_60
            have y_0 : (0 : Int32).toInt = 0 := by decide
            have y_1 : (1 : Int32).toInt = 1 := by decide
            have t_x_61 : x_61.toInt = (vy_7 : Int32).toInt + (1 : Int32).toInt := by rw [ex_61]; exact add_toInt (by omega) (by omega)
            omega
          exact ih_14 x_61 vy_8 vy_9 vy_10 vy_11 vy_12 _ _ _ (by omega) ha_63 pf_17 (hP.sub [5, 0, 1, 2, 3, 4, 6] rfl) (hD.sub [5, 0, 1, 2, 3, 4, 6] rfl rfl) hS (lv_sub hl [0, 1, 2] rfl)
        · skip
          refine lv_aload_n hx hb dX12_passes_22 rfl (lv_at hl 2 rfl) ?_
          refine lv_iload_n hx hb dX12_passes_23 rfl (lv_at hl 0 rfl) ?_
          have ha_64 : 0 ≤ vy_7.toInt ∧ vy_7.toInt < 6 := by
            have z_1 := Int32.lt_iff_toInt_lt.mp (Int32.not_le.mp c_20)
            have z_2 : ¬ (r_57 : Int32).toInt = (0 : Int32).toInt := fun z => c_60 (Int32.toInt_inj.mp z)
            have y_0 : (0 : Int32).toInt = 0 := by decide
            omega
          have ha_65 : 1 ≤ (vy_11 2).toInt ∧ (vy_11 2).toInt ≤ 10 := by
            have z_1 := Int32.lt_iff_toInt_lt.mp (Int32.not_le.mp c_20)
            have z_2 : ¬ (r_57 : Int32).toInt = (0 : Int32).toInt := fun z => c_60 (Int32.toInt_inj.mp z)
            have y_0 : (0 : Int32).toInt = 0 := by decide
            omega
          refine cV (a := (Ma 0)) (As := [.int vy_7]) (rest := []) (wr := []) ⟨hx, hb, hml, hown, hts⟩ hK hX hA (cu_X12_isWilling l D tc sk (Ma 0) (Ma 1) (Ma 2) (Ma 3) (Ma 4) (Ma 5) (Ma 6) (Ma 7) (Ma 8) (Ma 9) (Ma 10) (Ma 11) (Ma 12) (Ma 13) (Ma 14) (Ma 15) (Ma 16) (Ma 17) (Ma 18) (Ma 19) (Ma 20) (Mv 0) (Mv 1) (Mv 2) (Mv 3) (Mv 4) (Mv 5) (Mv 6) (Mv 7) (Mv 8) (Mv 9) vy_8 (Mv 11) (Mv 12) (Mv 13) (Mv 14) (Mf 2) (Mf 4) (Mf 5) vy_11 (Mj 0) vy_9 vy_10 vy_7 d ha_64 pf_17 h_d h_rul h_frc ha_65) k_1431 k_1428 k_1430 k_69 k_106 pl_X12_isWilling ⟨Nat.le_of_ble_eq_true rfl, Nat.le_of_ble_eq_true rfl⟩ rfl rfl (va_recv hK hP (ci := 12) (q0 := 5) rfl rfl) hP hD hS [5, 0, 1, 2, 3, 4, 6] [] rfl rfl rfl rfl rfl (by decide) rfl hl.1 rfl (Nat.le_of_ble_eq_true rfl) dX12_passes_24 ⟨Nat.le_of_ble_eq_true rfl, Nat.le_of_ble_eq_true rfl⟩ (fun v_66 u_67 H locs hv_68 hP₀ hD₀ hS₀ => ?_)
          obtain ⟨sv_69, sv_70, sv_71⟩ := u_67
          obtain ⟨r_72, rfl, he_73⟩ := hv_68
          have he_73 : (r_72.toInt = 0 ∨ r_72.toInt = 1) := he_73
          refine W.eq (g2 := F0 m 27 ls [.int r_72]) rfl ?_
          replace hP : va_P D classes [((Ma 0), .inr (12, [.ref (Ma 1), .int (Mv 0), .int (Mv 1), .ref (Ma 2), .ref (Ma 3), .ref (Ma 4), .ref (Ma 5), .ref (Ma 6), .int (Mv 2), .int (Mv 3), .int (Mv 4), .int (Mv 5), .int (Mv 6), .int (Mv 7), .int (Mv 8), .ref (Ma 7), .int (Mv 9), .ref (Ma 8), .int sv_69, .ref (Ma 9), .ref (Ma 10), .int (Mv 11), .int (Mv 12), .int (Mv 13), .ref (Ma 11), .int (Mv 14), .ref (Ma 12), .ref (Ma 13), .ref (Ma 14), .ref (Ma 15), .ref (Ma 16), .long (Mj 0), .ref (Ma 17), .ref (Ma 18), .ref (Ma 19), .ref (Ma 20)])), ((Ma 2), .inl (tc 0, 2400, .inl (Mf 2))), ((Ma 4), .inl (tc 0, 288, .inl (Mf 4))), ((Ma 5), .inl (tc 0, 6, .inl (Mf 5))), ((Ma 8), .inl (tc 1, 64, .inr (.inl sv_70))), ((Ma 9), .inl (tc 1, 13, .inr (.inl sv_71))), ((Ma 10), .inl (tc 0, 126, .inl vy_11))] H := hP₀
          replace hD : va_D A [((Ma 0), .inr (12, [.ref (Ma 1), .int (Mv 0), .int (Mv 1), .ref (Ma 2), .ref (Ma 3), .ref (Ma 4), .ref (Ma 5), .ref (Ma 6), .int (Mv 2), .int (Mv 3), .int (Mv 4), .int (Mv 5), .int (Mv 6), .int (Mv 7), .int (Mv 8), .ref (Ma 7), .int (Mv 9), .ref (Ma 8), .int sv_69, .ref (Ma 9), .ref (Ma 10), .int (Mv 11), .int (Mv 12), .int (Mv 13), .ref (Ma 11), .int (Mv 14), .ref (Ma 12), .ref (Ma 13), .ref (Ma 14), .ref (Ma 15), .ref (Ma 16), .long (Mj 0), .ref (Ma 17), .ref (Ma 18), .ref (Ma 19), .ref (Ma 20)])), ((Ma 2), .inl (tc 0, 2400, .inl (Mf 2))), ((Ma 4), .inl (tc 0, 288, .inl (Mf 4))), ((Ma 5), .inl (tc 0, 6, .inl (Mf 5))), ((Ma 8), .inl (tc 1, 64, .inr (.inl sv_70))), ((Ma 9), .inl (tc 1, 13, .inr (.inl sv_71))), ((Ma 10), .inl (tc 0, 126, .inl vy_11))] := hD₀
          replace hS := hS₀
          clear hP₀ hD₀ hS₀
          refine lv_if_eq (tgt := 44) hx hb dX12_passes_27 (by decide) (fun c_75 => ?_) (fun c_75 => ?_)
          · skip
            obtain ⟨x_76, ex_76⟩ : ∃ y : Int32, y = vy_7 + 1 := ⟨_, rfl⟩
            refine lv_iinc (v := x_76) (lv' := [(2, .int x_76), (1, .int vy_12), (0, .ref (Ma 0))]) hx hb dX12_passes_44 hl (k := 0) rfl (by rw [ex_76]; rfl) (by decide) rfl (fun ls hl₀ => ?_)
            replace hl := hl₀
            clear hl₀
            refine lv_goto (tgt := 4) hx hb dX12_passes_47 (by decide) ?_
            have hb_77 : 6 - (x_76 : Int32).toInt < 6 - (vy_7 : Int32).toInt ∧ 1 ≤ 6 - (vy_7 : Int32).toInt := by
              have z_1 := Int32.lt_iff_toInt_lt.mp (Int32.not_le.mp c_20)
              have z_2 : ¬ (r_57 : Int32).toInt = (0 : Int32).toInt := fun z => c_60 (Int32.toInt_inj.mp z)
              have z_3 := congrArg Int32.toInt c_75
              have y_0 : (0 : Int32).toInt = 0 := by decide
              have y_1 : (1 : Int32).toInt = 1 := by decide
              have t_x_76 : x_76.toInt = (vy_7 : Int32).toInt + (1 : Int32).toInt := by rw [ex_76]; exact add_toInt (by omega) (by omega)
              omega
            have ha_78 : 0 ≤ (x_76 : Int32).toInt := by
              have z_1 := Int32.lt_iff_toInt_lt.mp (Int32.not_le.mp c_20)
              have z_2 : ¬ (r_57 : Int32).toInt = (0 : Int32).toInt := fun z => c_60 (Int32.toInt_inj.mp z)
              have z_3 := congrArg Int32.toInt c_75
              have y_0 : (0 : Int32).toInt = 0 := by decide
              have y_1 : (1 : Int32).toInt = 1 := by decide
              have t_x_76 : x_76.toInt = (vy_7 : Int32).toInt + (1 : Int32).toInt := by rw [ex_76]; exact add_toInt (by omega) (by omega)
              omega
            exact ih_14 x_76 sv_69 sv_70 sv_71 vy_11 vy_12 _ _ _ (by omega) ha_78 pf_17 (hP.sub [0, 1, 2, 3, 4, 5, 6] rfl) (hD.sub [0, 1, 2, 3, 4, 5, 6] rfl rfl) hS (lv_sub hl [0, 1, 2] rfl)
          · skip
            refine lv_aload_n hx hb dX12_passes_30 rfl (lv_at hl 2 rfl) ?_
            refine lv_iload_n hx hb dX12_passes_31 rfl (lv_at hl 0 rfl) ?_
            have ha_79 : 0 ≤ vy_7.toInt ∧ vy_7.toInt < 6 := by
              have z_1 := Int32.lt_iff_toInt_lt.mp (Int32.not_le.mp c_20)
              have z_2 : ¬ (r_57 : Int32).toInt = (0 : Int32).toInt := fun z => c_60 (Int32.toInt_inj.mp z)
              have z_3 : ¬ (r_72 : Int32).toInt = (0 : Int32).toInt := fun z => c_75 (Int32.toInt_inj.mp z)
              have y_0 : (0 : Int32).toInt = 0 := by decide
              omega
            refine cV (a := (Ma 0)) (As := [.int vy_7]) (rest := []) (wr := [((Ma 2), .inl (tc 0, 2400, .inl (Mf 2))), ((Ma 4), .inl (tc 0, 288, .inl (Mf 4))), ((Ma 5), .inl (tc 0, 6, .inl (Mf 5))), ((Ma 8), .inl (tc 1, 64, .inr (.inl sv_70))), ((Ma 9), .inl (tc 1, 13, .inr (.inl sv_71)))]) ⟨hx, hb, hml, hown, hts⟩ hK hX hA (cu_X12_comes l D tc sk (Ma 0) (Ma 1) (Ma 2) (Ma 3) (Ma 4) (Ma 5) (Ma 6) (Ma 7) (Ma 8) (Ma 9) (Ma 10) (Ma 11) (Ma 12) (Ma 13) (Ma 14) (Ma 15) (Ma 16) (Ma 17) (Ma 18) (Ma 19) (Ma 20) (Mv 0) (Mv 1) (Mv 2) (Mv 3) (Mv 4) (Mv 5) (Mv 6) (Mv 7) (Mv 8) (Mv 9) sv_69 (Mv 11) (Mv 12) (Mv 13) (Mv 14) vy_11 (Mj 0) vy_7 d ha_79 pf_17) k_1462 k_1459 k_1461 k_76 k_106 pl_X12_comes ⟨Nat.le_of_ble_eq_true rfl, Nat.le_of_ble_eq_true rfl⟩ rfl rfl (va_recv hK hP (ci := 12) (q0 := 0) rfl rfl) hP hD hS [0, 6] [1, 2, 3, 4, 5] rfl rfl rfl rfl rfl (by decide) rfl hl.1 rfl (Nat.le_of_ble_eq_true rfl) dX12_passes_32 ⟨Nat.le_of_ble_eq_true rfl, Nat.le_of_ble_eq_true rfl⟩ (fun v_80 u_81 H locs hv_82 hP₀ hD₀ hS₀ => ?_)
            obtain ⟨sv_83, rfl⟩ : ∃ z, z = u_81 := ⟨_, rfl⟩
            obtain ⟨r_85, rfl, he_86, pf_84⟩ := hv_82
            have he_86 : (r_85.toInt = 0 ∨ r_85.toInt = 1) := he_86
            have pf_84 : SaidD T sv_83 d := pf_84
            have ar_pf_84 := SaidD.ar pf_84
            refine W.eq (g2 := F0 m 35 ls [.int r_85]) rfl ?_
            replace hP : va_P D classes [((Ma 2), .inl (tc 0, 2400, .inl (Mf 2))), ((Ma 4), .inl (tc 0, 288, .inl (Mf 4))), ((Ma 5), .inl (tc 0, 6, .inl (Mf 5))), ((Ma 8), .inl (tc 1, 64, .inr (.inl sv_70))), ((Ma 9), .inl (tc 1, 13, .inr (.inl sv_71))), ((Ma 0), .inr (12, [.ref (Ma 1), .int (Mv 0), .int (Mv 1), .ref (Ma 2), .ref (Ma 3), .ref (Ma 4), .ref (Ma 5), .ref (Ma 6), .int (Mv 2), .int (Mv 3), .int (Mv 4), .int (Mv 5), .int (Mv 6), .int (Mv 7), .int (Mv 8), .ref (Ma 7), .int (Mv 9), .ref (Ma 8), .int sv_69, .ref (Ma 9), .ref (Ma 10), .int (Mv 11), .int (Mv 12), .int (Mv 13), .ref (Ma 11), .int (Mv 14), .ref (Ma 12), .ref (Ma 13), .ref (Ma 14), .ref (Ma 15), .ref (Ma 16), .long (Mj 0), .ref (Ma 17), .ref (Ma 18), .ref (Ma 19), .ref (Ma 20)])), ((Ma 10), .inl (tc 0, 126, .inl sv_83))] H := hP₀
            replace hD : va_D A [((Ma 2), .inl (tc 0, 2400, .inl (Mf 2))), ((Ma 4), .inl (tc 0, 288, .inl (Mf 4))), ((Ma 5), .inl (tc 0, 6, .inl (Mf 5))), ((Ma 8), .inl (tc 1, 64, .inr (.inl sv_70))), ((Ma 9), .inl (tc 1, 13, .inr (.inl sv_71))), ((Ma 0), .inr (12, [.ref (Ma 1), .int (Mv 0), .int (Mv 1), .ref (Ma 2), .ref (Ma 3), .ref (Ma 4), .ref (Ma 5), .ref (Ma 6), .int (Mv 2), .int (Mv 3), .int (Mv 4), .int (Mv 5), .int (Mv 6), .int (Mv 7), .int (Mv 8), .ref (Ma 7), .int (Mv 9), .ref (Ma 8), .int sv_69, .ref (Ma 9), .ref (Ma 10), .int (Mv 11), .int (Mv 12), .int (Mv 13), .ref (Ma 11), .int (Mv 14), .ref (Ma 12), .ref (Ma 13), .ref (Ma 14), .ref (Ma 15), .ref (Ma 16), .long (Mj 0), .ref (Ma 17), .ref (Ma 18), .ref (Ma 19), .ref (Ma 20)])), ((Ma 10), .inl (tc 0, 126, .inl sv_83))] := hD₀
            replace hS := hS₀
            clear hP₀ hD₀ hS₀
            refine lv_if_eq (tgt := 44) hx hb dX12_passes_35 (by decide) (fun c_88 => ?_) (fun c_88 => ?_)
            · skip
              obtain ⟨x_89, ex_89⟩ : ∃ y : Int32, y = vy_7 + 1 := ⟨_, rfl⟩
              refine lv_iinc (v := x_89) (lv' := [(2, .int x_89), (1, .int vy_12), (0, .ref (Ma 0))]) hx hb dX12_passes_44 hl (k := 0) rfl (by rw [ex_89]; rfl) (by decide) rfl (fun ls hl₀ => ?_)
              replace hl := hl₀
              clear hl₀
              refine lv_goto (tgt := 4) hx hb dX12_passes_47 (by decide) ?_
              have hb_90 : 6 - (x_89 : Int32).toInt < 6 - (vy_7 : Int32).toInt ∧ 1 ≤ 6 - (vy_7 : Int32).toInt := by
                have z_1 := Int32.lt_iff_toInt_lt.mp (Int32.not_le.mp c_20)
                have z_2 : ¬ (r_57 : Int32).toInt = (0 : Int32).toInt := fun z => c_60 (Int32.toInt_inj.mp z)
                have z_3 : ¬ (r_72 : Int32).toInt = (0 : Int32).toInt := fun z => c_75 (Int32.toInt_inj.mp z)
                have z_4 := congrArg Int32.toInt c_88
                have y_0 : (0 : Int32).toInt = 0 := by decide
                have y_1 : (1 : Int32).toInt = 1 := by decide
                have t_x_89 : x_89.toInt = (vy_7 : Int32).toInt + (1 : Int32).toInt := by rw [ex_89]; exact add_toInt (by omega) (by omega)
                omega
              have ha_91 : 0 ≤ (x_89 : Int32).toInt := by
                have z_1 := Int32.lt_iff_toInt_lt.mp (Int32.not_le.mp c_20)
                have z_2 : ¬ (r_57 : Int32).toInt = (0 : Int32).toInt := fun z => c_60 (Int32.toInt_inj.mp z)
                have z_3 : ¬ (r_72 : Int32).toInt = (0 : Int32).toInt := fun z => c_75 (Int32.toInt_inj.mp z)
                have z_4 := congrArg Int32.toInt c_88
                have y_0 : (0 : Int32).toInt = 0 := by decide
                have y_1 : (1 : Int32).toInt = 1 := by decide
                have t_x_89 : x_89.toInt = (vy_7 : Int32).toInt + (1 : Int32).toInt := by rw [ex_89]; exact add_toInt (by omega) (by omega)
                omega
              exact ih_14 x_89 sv_69 sv_70 sv_71 sv_83 vy_12 _ _ _ (by omega) ha_91 pf_84 (hP.sub [5, 0, 1, 2, 3, 4, 6] rfl) (hD.sub [5, 0, 1, 2, 3, 4, 6] rfl rfl) hS (lv_sub hl [0, 1, 2] rfl)
            · skip
              refine lv_iload_n hx hb dX12_passes_38 rfl (lv_at hl 1 rfl) ?_
              refine lv_iconst (v := 1) hx hb dX12_passes_39 (by decide) ?_
              refine lv_iload_n hx hb dX12_passes_40 rfl (lv_at hl 0 rfl) ?_
              refine lv_ishl hx hb dX12_passes_41 ?_
              refine lv_topi (fun x_92 ex_92 => ?_)
              refine lv_ior hx hb dX12_passes_42 ?_
              refine lv_topi (fun x_93 ex_93 => ?_)
              refine lv_istore_n (lv' := [(1, .int x_93), (2, .int vy_7), (0, .ref (Ma 0))]) hx hb dX12_passes_43 rfl hl (by decide) rfl (fun ls hl₀ => ?_)
              replace hl := hl₀
              clear hl₀
              obtain ⟨x_94, ex_94⟩ : ∃ y : Int32, y = vy_7 + 1 := ⟨_, rfl⟩
              refine lv_iinc (v := x_94) (lv' := [(2, .int x_94), (1, .int x_93), (0, .ref (Ma 0))]) hx hb dX12_passes_44 hl (k := 1) rfl (by rw [ex_94]; rfl) (by decide) rfl (fun ls hl₀ => ?_)
              replace hl := hl₀
              clear hl₀
              refine lv_goto (tgt := 4) hx hb dX12_passes_47 (by decide) ?_
              have hb_95 : 6 - (x_94 : Int32).toInt < 6 - (vy_7 : Int32).toInt ∧ 1 ≤ 6 - (vy_7 : Int32).toInt := by
                have z_1 := Int32.lt_iff_toInt_lt.mp (Int32.not_le.mp c_20)
                have z_2 : ¬ (r_57 : Int32).toInt = (0 : Int32).toInt := fun z => c_60 (Int32.toInt_inj.mp z)
                have z_3 : ¬ (r_72 : Int32).toInt = (0 : Int32).toInt := fun z => c_75 (Int32.toInt_inj.mp z)
                have z_4 : ¬ (r_85 : Int32).toInt = (0 : Int32).toInt := fun z => c_88 (Int32.toInt_inj.mp z)
                have y_0 : (0 : Int32).toInt = 0 := by decide
                have y_1 : (1 : Int32).toInt = 1 := by decide
                have t_x_94 : x_94.toInt = (vy_7 : Int32).toInt + (1 : Int32).toInt := by rw [ex_94]; exact add_toInt (by omega) (by omega)
                omega
              have ha_96 : 0 ≤ (x_94 : Int32).toInt := by
                have z_1 := Int32.lt_iff_toInt_lt.mp (Int32.not_le.mp c_20)
                have z_2 : ¬ (r_57 : Int32).toInt = (0 : Int32).toInt := fun z => c_60 (Int32.toInt_inj.mp z)
                have z_3 : ¬ (r_72 : Int32).toInt = (0 : Int32).toInt := fun z => c_75 (Int32.toInt_inj.mp z)
                have z_4 : ¬ (r_85 : Int32).toInt = (0 : Int32).toInt := fun z => c_88 (Int32.toInt_inj.mp z)
                have y_0 : (0 : Int32).toInt = 0 := by decide
                have y_1 : (1 : Int32).toInt = 1 := by decide
                have t_x_94 : x_94.toInt = (vy_7 : Int32).toInt + (1 : Int32).toInt := by rw [ex_94]; exact add_toInt (by omega) (by omega)
                omega
              exact ih_14 x_94 sv_69 sv_70 sv_71 sv_83 x_93 _ _ _ (by omega) ha_96 pf_84 (hP.sub [5, 0, 1, 2, 3, 4, 6] rfl) (hD.sub [5, 0, 1, 2, 3, 4, 6] rfl rfl) hS (lv_sub hl [0, 1, 2] rfl)
  have ha_97 : 0 ≤ (0 : Int32).toInt := by
    have y_0 : (0 : Int32).toInt = 0 := by decide
    omega
  exact loop_15 _ 0 (Mv 10) (Mg 8) (Mg 9) (Mf 10) 0 _ _ _ (Nat.lt_succ_self _) ha_97 h_said hP hD hS hl
set_option maxRecDepth 100000 in
theorem cu_X12_passes {T : Nat → Option Int32} (l : Launch) (D : va_G) (tc : Nat → ClassId) (sk : (Nat → Nat) × (Nat → Nat)) (Ma_0 : Nat) (Ma_1 : Nat) (Ma_2 : Nat) (Ma_3 : Nat) (Ma_4 : Nat) (Ma_5 : Nat) (Ma_6 : Nat) (Ma_7 : Nat) (Ma_8 : Nat) (Ma_9 : Nat) (Ma_10 : Nat) (Ma_11 : Nat) (Ma_12 : Nat) (Ma_13 : Nat) (Ma_14 : Nat) (Ma_15 : Nat) (Ma_16 : Nat) (Ma_17 : Nat) (Ma_18 : Nat) (Ma_19 : Nat) (Ma_20 : Nat) (Mv_0 : Int32) (Mv_1 : Int32) (Mv_2 : Int32) (Mv_3 : Int32) (Mv_4 : Int32) (Mv_5 : Int32) (Mv_6 : Int32) (Mv_7 : Int32) (Mv_8 : Int32) (Mv_9 : Int32) (Mv_10 : Int32) (Mv_11 : Int32) (Mv_12 : Int32) (Mv_13 : Int32) (Mv_14 : Int32) (Mf_2 : Nat → Int32) (Mf_4 : Nat → Int32) (Mf_5 : Nat → Int32) (Mf_10 : Nat → Int32) (Mj_0 : Int64) (Mg_8 : Nat → Int64) (Mg_9 : Nat → Int64) (d : Int) (h_said : SaidD T Mf_10 d) (h_d : d ≤ 1000000) (h_rul : RulD Mf_2 Mf_4 Mf_5 Mv_1) (h_frc : -1 ≤ Mv_11.toInt ∧ Mv_11.toInt < Mv_1.toInt ∧ Mv_1.toInt ≤ 6) : Ct l yX12_passes cX12_passes 3 (some .int) { frames := 4, cells := 0, slots := 0, locals := 99 } D tc sk [.ref Ma_0] [(Ma_0, .inr (12, [.ref Ma_1, .int Mv_0, .int Mv_1, .ref Ma_2, .ref Ma_3, .ref Ma_4, .ref Ma_5, .ref Ma_6, .int Mv_2, .int Mv_3, .int Mv_4, .int Mv_5, .int Mv_6, .int Mv_7, .int Mv_8, .ref Ma_7, .int Mv_9, .ref Ma_8, .int Mv_10, .ref Ma_9, .ref Ma_10, .int Mv_11, .int Mv_12, .int Mv_13, .ref Ma_11, .int Mv_14, .ref Ma_12, .ref Ma_13, .ref Ma_14, .ref Ma_15, .ref Ma_16, .long Mj_0, .ref Ma_17, .ref Ma_18, .ref Ma_19, .ref Ma_20])), (Ma_2, .inl (tc 0, 2400, .inl Mf_2)), (Ma_4, .inl (tc 0, 288, .inl Mf_4)), (Ma_5, .inl (tc 0, 6, .inl Mf_5)), (Ma_8, .inl (tc 1, 64, .inr (.inl Mg_8))), (Ma_9, .inl (tc 1, 13, .inr (.inl Mg_9))), (Ma_10, .inl (tc 0, 126, .inl Mf_10))] (fun (v : Option Value) (u : (Int32) × (Nat → Int64) × (Nat → Int64) × (Nat → Int32)) => match u with | (oo0x1, oo0x2, oo0x3, oo0x4) => ∃ r : Int32, v = some (.int r) ∧ (True) ∧ (SaidD T oo0x4 (d + 1))) (fun (u : (Int32) × (Nat → Int64) × (Nat → Int64) × (Nat → Int32)) => match u with | (oo0x1, oo0x2, oo0x3, oo0x4) => [(Ma_0, .inr (12, [.ref Ma_1, .int Mv_0, .int Mv_1, .ref Ma_2, .ref Ma_3, .ref Ma_4, .ref Ma_5, .ref Ma_6, .int Mv_2, .int Mv_3, .int Mv_4, .int Mv_5, .int Mv_6, .int Mv_7, .int Mv_8, .ref Ma_7, .int Mv_9, .ref Ma_8, .int oo0x1, .ref Ma_9, .ref Ma_10, .int Mv_11, .int Mv_12, .int Mv_13, .ref Ma_11, .int Mv_14, .ref Ma_12, .ref Ma_13, .ref Ma_14, .ref Ma_15, .ref Ma_16, .long Mj_0, .ref Ma_17, .ref Ma_18, .ref Ma_19, .ref Ma_20])), (Ma_2, .inl (tc 0, 2400, .inl Mf_2)), (Ma_4, .inl (tc 0, 288, .inl Mf_4)), (Ma_5, .inl (tc 0, 6, .inl Mf_5)), (Ma_8, .inl (tc 1, 64, .inr (.inl oo0x2))), (Ma_9, .inl (tc 1, 13, .inr (.inl oo0x3))), (Ma_10, .inl (tc 0, 126, .inl oo0x4))]) 0 0 :=
  ct_X12_passes l D tc sk (fun k => ([Ma_0, Ma_1, Ma_2, Ma_3, Ma_4, Ma_5, Ma_6, Ma_7, Ma_8, Ma_9, Ma_10, Ma_11, Ma_12, Ma_13, Ma_14, Ma_15, Ma_16, Ma_17, Ma_18, Ma_19, Ma_20] : List (Nat)).getD k 0) (fun k => ([Mv_0, Mv_1, Mv_2, Mv_3, Mv_4, Mv_5, Mv_6, Mv_7, Mv_8, Mv_9, Mv_10, Mv_11, Mv_12, Mv_13, Mv_14] : List (Int32)).getD k 0) (fun k => ([(fun _ => 0), (fun _ => 0), Mf_2, (fun _ => 0), Mf_4, Mf_5, (fun _ => 0), (fun _ => 0), (fun _ => 0), (fun _ => 0), Mf_10] : List (Nat → Int32)).getD k (fun _ => 0)) (fun k => ([Mj_0] : List (Int64)).getD k 0) (fun k => ([(fun _ => 0), (fun _ => 0), (fun _ => 0), (fun _ => 0), (fun _ => 0), (fun _ => 0), (fun _ => 0), (fun _ => 0), Mg_8, Mg_9] : List (Nat → Int64)).getD k (fun _ => 0)) d h_said h_d h_rul h_frc
set_option maxHeartbeats 4000000 in
set_option maxRecDepth 100000 in
theorem ct_X12_passesAll {T : Nat → Option Int32} (l : Launch) (D : va_G) (tc : Nat → ClassId) (sk : (Nat → Nat) × (Nat → Nat)) (Ma : Nat → Nat) (Mv : Nat → Int32) (Mf : Nat → Nat → Int32) (Mj : Nat → Int64) (Mg : Nat → Nat → Int64) (x1 : Int32) (d : Int) (h_said : SaidD T (Mf 10) d) (h_d : d ≤ 1000) (h_rul : RulD (Mf 2) (Mf 4) (Mf 5) (Mv 1)) (h_frc : -1 ≤ (Mv 11).toInt ∧ (Mv 11).toInt < (Mv 1).toInt ∧ (Mv 1).toInt ≤ 6) (h_n : 0 ≤ x1.toInt ∧ x1.toInt ≤ 1000) : Ct l yX12_passesAll cX12_passesAll 3 none { frames := 5, cells := 0, slots := 0, locals := 121 } D tc sk [.ref (Ma 0), .int x1] [((Ma 0), .inr (12, [.ref (Ma 1), .int (Mv 0), .int (Mv 1), .ref (Ma 2), .ref (Ma 3), .ref (Ma 4), .ref (Ma 5), .ref (Ma 6), .int (Mv 2), .int (Mv 3), .int (Mv 4), .int (Mv 5), .int (Mv 6), .int (Mv 7), .int (Mv 8), .ref (Ma 7), .int (Mv 9), .ref (Ma 8), .int (Mv 10), .ref (Ma 9), .ref (Ma 10), .int (Mv 11), .int (Mv 12), .int (Mv 13), .ref (Ma 11), .int (Mv 14), .ref (Ma 12), .ref (Ma 13), .ref (Ma 14), .ref (Ma 15), .ref (Ma 16), .long (Mj 0), .ref (Ma 17), .ref (Ma 18), .ref (Ma 19), .ref (Ma 20)])), ((Ma 2), .inl (tc 0, 2400, .inl (Mf 2))), ((Ma 4), .inl (tc 0, 288, .inl (Mf 4))), ((Ma 5), .inl (tc 0, 6, .inl (Mf 5))), ((Ma 8), .inl (tc 1, 64, .inr (.inl (Mg 8)))), ((Ma 9), .inl (tc 1, 13, .inr (.inl (Mg 9)))), ((Ma 10), .inl (tc 0, 126, .inl (Mf 10)))] (fun (v : Option Value) (u : (Int32) × (Nat → Int64) × (Nat → Int64) × (Nat → Int32)) => match u with | (oo0x1, oo0x2, oo0x3, oo0x4) => v = none ∧ (SaidD T oo0x4 (d + x1.toInt))) (fun (u : (Int32) × (Nat → Int64) × (Nat → Int64) × (Nat → Int32)) => match u with | (oo0x1, oo0x2, oo0x3, oo0x4) => [((Ma 0), .inr (12, [.ref (Ma 1), .int (Mv 0), .int (Mv 1), .ref (Ma 2), .ref (Ma 3), .ref (Ma 4), .ref (Ma 5), .ref (Ma 6), .int (Mv 2), .int (Mv 3), .int (Mv 4), .int (Mv 5), .int (Mv 6), .int (Mv 7), .int (Mv 8), .ref (Ma 7), .int (Mv 9), .ref (Ma 8), .int oo0x1, .ref (Ma 9), .ref (Ma 10), .int (Mv 11), .int (Mv 12), .int (Mv 13), .ref (Ma 11), .int (Mv 14), .ref (Ma 12), .ref (Ma 13), .ref (Ma 14), .ref (Ma 15), .ref (Ma 16), .long (Mj 0), .ref (Ma 17), .ref (Ma 18), .ref (Ma 19), .ref (Ma 20)])), ((Ma 2), .inl (tc 0, 2400, .inl (Mf 2))), ((Ma 4), .inl (tc 0, 288, .inl (Mf 4))), ((Ma 5), .inl (tc 0, 6, .inl (Mf 5))), ((Ma 8), .inl (tc 1, 64, .inr (.inl oo0x2))), ((Ma 9), .inl (tc 1, 13, .inr (.inl oo0x3))), ((Ma 10), .inl (tc 0, 126, .inl oo0x4))]) 0 0 := by
  refine Ct.start (by decide) (Nat.le_of_ble_eq_true rfl) (fun p e s m below meth c A ls hx hb hr hlk hin hml hown hts hK hX hP hD hA hl hS => ?_)
  have hl : lv_has ls 3 [(0, .ref (Ma 0)), (1, .int x1)] := hl
  have ar_h_said := SaidD.ar h_said
  refine lv_iconst (v := 0) hx hb dX12_passesAll_0 (by decide) ?_
  refine lv_istore_n (lv' := [(2, .int 0), (0, .ref (Ma 0)), (1, .int x1)]) hx hb dX12_passesAll_1 rfl hl (by decide) rfl (fun ls hl₀ => ?_)
  replace hl := hl₀
  clear hl₀
  have loop_13 : ∀ (n_11 : Nat) (vy_6 : Int32) (vy_7 : Int32) (vy_8 : Nat → Int64) (vy_9 : Nat → Int64) (vy_10 : Nat → Int32) (H : Heap) (locs : List Loc) (ls : Array Slot), (x1.toInt - (vy_6 : Int32).toInt).toNat < n_11 → (0 ≤ (vy_6 : Int32).toInt ∧ (vy_6 : Int32).toInt ≤ x1.toInt) → (SaidD T vy_10 (d + (vy_6 : Int32).toInt)) → va_P D classes [((Ma 0), .inr (12, [.ref (Ma 1), .int (Mv 0), .int (Mv 1), .ref (Ma 2), .ref (Ma 3), .ref (Ma 4), .ref (Ma 5), .ref (Ma 6), .int (Mv 2), .int (Mv 3), .int (Mv 4), .int (Mv 5), .int (Mv 6), .int (Mv 7), .int (Mv 8), .ref (Ma 7), .int (Mv 9), .ref (Ma 8), .int vy_7, .ref (Ma 9), .ref (Ma 10), .int (Mv 11), .int (Mv 12), .int (Mv 13), .ref (Ma 11), .int (Mv 14), .ref (Ma 12), .ref (Ma 13), .ref (Ma 14), .ref (Ma 15), .ref (Ma 16), .long (Mj 0), .ref (Ma 17), .ref (Ma 18), .ref (Ma 19), .ref (Ma 20)])), ((Ma 2), .inl (tc 0, 2400, .inl (Mf 2))), ((Ma 4), .inl (tc 0, 288, .inl (Mf 4))), ((Ma 5), .inl (tc 0, 6, .inl (Mf 5))), ((Ma 8), .inl (tc 1, 64, .inr (.inl vy_8))), ((Ma 9), .inl (tc 1, 13, .inr (.inl vy_9))), ((Ma 10), .inl (tc 0, 126, .inl vy_10))] H → va_D A [((Ma 0), .inr (12, [.ref (Ma 1), .int (Mv 0), .int (Mv 1), .ref (Ma 2), .ref (Ma 3), .ref (Ma 4), .ref (Ma 5), .ref (Ma 6), .int (Mv 2), .int (Mv 3), .int (Mv 4), .int (Mv 5), .int (Mv 6), .int (Mv 7), .int (Mv 8), .ref (Ma 7), .int (Mv 9), .ref (Ma 8), .int vy_7, .ref (Ma 9), .ref (Ma 10), .int (Mv 11), .int (Mv 12), .int (Mv 13), .ref (Ma 11), .int (Mv 14), .ref (Ma 12), .ref (Ma 13), .ref (Ma 14), .ref (Ma 15), .ref (Ma 16), .long (Mj 0), .ref (Ma 17), .ref (Ma 18), .ref (Ma 19), .ref (Ma 20)])), ((Ma 2), .inl (tc 0, 2400, .inl (Mf 2))), ((Ma 4), .inl (tc 0, 288, .inl (Mf 4))), ((Ma 5), .inl (tc 0, 6, .inl (Mf 5))), ((Ma 8), .inl (tc 1, 64, .inr (.inl vy_8))), ((Ma 9), .inl (tc 1, 13, .inr (.inl vy_9))), ((Ma 10), .inl (tc 0, 126, .inl vy_10))] → va_S A s.heap H locs → lv_has ls 3 [(2, .int vy_6), (0, .ref (Ma 0)), (1, .int x1)] → W p l e ({ frames := 5, cells := 0, slots := 0, locals := 121 }) s m ([.ref (Ma 0), .int x1].toArray) below meth c H locs 0 0 (MQ below (QW (fun (v : Option Value) (u : (Int32) × (Nat → Int64) × (Nat → Int64) × (Nat → Int32)) => match u with | (oo0x1, oo0x2, oo0x3, oo0x4) => v = none ∧ (SaidD T oo0x4 (d + x1.toInt))) (BW D (fun (u : (Int32) × (Nat → Int64) × (Nat → Int64) × (Nat → Int32)) => match u with | (oo0x1, oo0x2, oo0x3, oo0x4) => [((Ma 0), .inr (12, [.ref (Ma 1), .int (Mv 0), .int (Mv 1), .ref (Ma 2), .ref (Ma 3), .ref (Ma 4), .ref (Ma 5), .ref (Ma 6), .int (Mv 2), .int (Mv 3), .int (Mv 4), .int (Mv 5), .int (Mv 6), .int (Mv 7), .int (Mv 8), .ref (Ma 7), .int (Mv 9), .ref (Ma 8), .int oo0x1, .ref (Ma 9), .ref (Ma 10), .int (Mv 11), .int (Mv 12), .int (Mv 13), .ref (Ma 11), .int (Mv 14), .ref (Ma 12), .ref (Ma 13), .ref (Ma 14), .ref (Ma 15), .ref (Ma 16), .long (Mj 0), .ref (Ma 17), .ref (Ma 18), .ref (Ma 19), .ref (Ma 20)])), ((Ma 2), .inl (tc 0, 2400, .inl (Mf 2))), ((Ma 4), .inl (tc 0, 288, .inl (Mf 4))), ((Ma 5), .inl (tc 0, 6, .inl (Mf 5))), ((Ma 8), .inl (tc 1, 64, .inr (.inl oo0x2))), ((Ma 9), .inl (tc 1, 13, .inr (.inl oo0x3))), ((Ma 10), .inl (tc 0, 126, .inl oo0x4))]) A) A) ([.ref (Ma 0), .int x1].toArray) s 0 0 A) (F0 m 2 ls []) := by
    clear hP hD hS hl
    intro n_11
    induction n_11 with
    | zero =>
      intro vy_6 vy_7 vy_8 vy_9 vy_10 H locs ls h1
      exact absurd h1 (Nat.not_lt_zero _)
    | succ n_11 ih_12 =>
      intro vy_6 vy_7 vy_8 vy_9 vy_10 H locs ls hn_16 pf_14 pf_15 hP hD hS hl
      have ar_pf_15 := SaidD.ar pf_15
      refine lv_iload_n hx hb dX12_passesAll_2 rfl (lv_at hl 0 rfl) ?_
      refine lv_iload_n hx hb dX12_passesAll_3 rfl (lv_at hl 2 rfl) ?_
      refine lv_icmp_ge (tgt := 18) hx hb dX12_passesAll_4 (by decide) (fun c_17 => ?_) (fun c_17 => ?_)
      · skip
        have ha_18 : (d + (vy_6 : Int32).toInt) ≤ (d + x1.toInt) := by
          have z_1 := Int32.le_iff_toInt_le.mp c_17
          omega
        exact retV hx hb hr hlk hP hD hS (vy_7, vy_8, vy_9, vy_10) ⟨rfl, (SaidD.mono pf_15 ha_18)⟩ [0, 1, 2, 3, 4, 5, 6] rfl rfl dX12_passesAll_18 (Nat.le_of_ble_eq_true rfl) (Nat.le_of_ble_eq_true rfl) rfl
      · skip
        refine lv_aload_n hx hb dX12_passesAll_7 rfl (lv_at hl 1 rfl) ?_
        have ha_19 : (d + (vy_6 : Int32).toInt) ≤ 1000000 := by
          have z_1 := Int32.lt_iff_toInt_lt.mp (Int32.not_le.mp c_17)
          omega
        refine cV (a := (Ma 0)) (As := []) (rest := []) (wr := []) ⟨hx, hb, hml, hown, hts⟩ hK hX hA (cu_X12_passes l D tc sk (Ma 0) (Ma 1) (Ma 2) (Ma 3) (Ma 4) (Ma 5) (Ma 6) (Ma 7) (Ma 8) (Ma 9) (Ma 10) (Ma 11) (Ma 12) (Ma 13) (Ma 14) (Ma 15) (Ma 16) (Ma 17) (Ma 18) (Ma 19) (Ma 20) (Mv 0) (Mv 1) (Mv 2) (Mv 3) (Mv 4) (Mv 5) (Mv 6) (Mv 7) (Mv 8) (Mv 9) vy_7 (Mv 11) (Mv 12) (Mv 13) (Mv 14) (Mf 2) (Mf 4) (Mf 5) vy_10 (Mj 0) vy_8 vy_9 (d + (vy_6 : Int32).toInt) pf_15 ha_19 h_rul h_frc) k_1423 k_1420 k_1422 k_67 k_106 pl_X12_passes ⟨Nat.le_of_ble_eq_true rfl, Nat.le_of_ble_eq_true rfl⟩ rfl rfl (va_recv hK hP (ci := 12) (q0 := 0) rfl rfl) hP hD hS [0, 1, 2, 3, 4, 5, 6] [] rfl rfl rfl rfl rfl (by decide) rfl hl.1 rfl (Nat.le_of_ble_eq_true rfl) dX12_passesAll_8 ⟨Nat.le_of_ble_eq_true rfl, Nat.le_of_ble_eq_true rfl⟩ (fun v_20 u_21 H locs hv_22 hP₀ hD₀ hS₀ => ?_)
        obtain ⟨sv_23, sv_24, sv_25, sv_26⟩ := u_21
        obtain ⟨r_28, rfl, he_29, pf_27⟩ := hv_22
        have pf_27 : SaidD T sv_26 ((d + (vy_6 : Int32).toInt) + 1) := pf_27
        have ar_pf_27 := SaidD.ar pf_27
        refine W.eq (g2 := F0 m 11 ls [.int r_28]) rfl ?_
        replace hP : va_P D classes [((Ma 0), .inr (12, [.ref (Ma 1), .int (Mv 0), .int (Mv 1), .ref (Ma 2), .ref (Ma 3), .ref (Ma 4), .ref (Ma 5), .ref (Ma 6), .int (Mv 2), .int (Mv 3), .int (Mv 4), .int (Mv 5), .int (Mv 6), .int (Mv 7), .int (Mv 8), .ref (Ma 7), .int (Mv 9), .ref (Ma 8), .int sv_23, .ref (Ma 9), .ref (Ma 10), .int (Mv 11), .int (Mv 12), .int (Mv 13), .ref (Ma 11), .int (Mv 14), .ref (Ma 12), .ref (Ma 13), .ref (Ma 14), .ref (Ma 15), .ref (Ma 16), .long (Mj 0), .ref (Ma 17), .ref (Ma 18), .ref (Ma 19), .ref (Ma 20)])), ((Ma 2), .inl (tc 0, 2400, .inl (Mf 2))), ((Ma 4), .inl (tc 0, 288, .inl (Mf 4))), ((Ma 5), .inl (tc 0, 6, .inl (Mf 5))), ((Ma 8), .inl (tc 1, 64, .inr (.inl sv_24))), ((Ma 9), .inl (tc 1, 13, .inr (.inl sv_25))), ((Ma 10), .inl (tc 0, 126, .inl sv_26))] H := hP₀
        replace hD : va_D A [((Ma 0), .inr (12, [.ref (Ma 1), .int (Mv 0), .int (Mv 1), .ref (Ma 2), .ref (Ma 3), .ref (Ma 4), .ref (Ma 5), .ref (Ma 6), .int (Mv 2), .int (Mv 3), .int (Mv 4), .int (Mv 5), .int (Mv 6), .int (Mv 7), .int (Mv 8), .ref (Ma 7), .int (Mv 9), .ref (Ma 8), .int sv_23, .ref (Ma 9), .ref (Ma 10), .int (Mv 11), .int (Mv 12), .int (Mv 13), .ref (Ma 11), .int (Mv 14), .ref (Ma 12), .ref (Ma 13), .ref (Ma 14), .ref (Ma 15), .ref (Ma 16), .long (Mj 0), .ref (Ma 17), .ref (Ma 18), .ref (Ma 19), .ref (Ma 20)])), ((Ma 2), .inl (tc 0, 2400, .inl (Mf 2))), ((Ma 4), .inl (tc 0, 288, .inl (Mf 4))), ((Ma 5), .inl (tc 0, 6, .inl (Mf 5))), ((Ma 8), .inl (tc 1, 64, .inr (.inl sv_24))), ((Ma 9), .inl (tc 1, 13, .inr (.inl sv_25))), ((Ma 10), .inl (tc 0, 126, .inl sv_26))] := hD₀
        replace hS := hS₀
        clear hP₀ hD₀ hS₀
        refine lv_pop hx hb dX12_passesAll_11 rfl ?_
        obtain ⟨x_31, ex_31⟩ : ∃ y : Int32, y = vy_6 + 1 := ⟨_, rfl⟩
        refine lv_iinc (v := x_31) (lv' := [(2, .int x_31), (0, .ref (Ma 0)), (1, .int x1)]) hx hb dX12_passesAll_12 hl (k := 0) rfl (by rw [ex_31]; rfl) (by decide) rfl (fun ls hl₀ => ?_)
        replace hl := hl₀
        clear hl₀
        refine lv_goto (tgt := 2) hx hb dX12_passesAll_15 (by decide) ?_
        have hb_32 : x1.toInt - (x_31 : Int32).toInt < x1.toInt - (vy_6 : Int32).toInt ∧ 1 ≤ x1.toInt - (vy_6 : Int32).toInt := by
          have z_1 := Int32.lt_iff_toInt_lt.mp (Int32.not_le.mp c_17)
          have y_1 : (1 : Int32).toInt = 1 := by decide
          have t_x_31 : x_31.toInt = (vy_6 : Int32).toInt + (1 : Int32).toInt := by rw [ex_31]; exact add_toInt (by omega) (by omega)
          omega
        have ha_33 : 0 ≤ (x_31 : Int32).toInt ∧ (x_31 : Int32).toInt ≤ x1.toInt := by
          have z_1 := Int32.lt_iff_toInt_lt.mp (Int32.not_le.mp c_17)
          have y_1 : (1 : Int32).toInt = 1 := by decide
          have t_x_31 : x_31.toInt = (vy_6 : Int32).toInt + (1 : Int32).toInt := by rw [ex_31]; exact add_toInt (by omega) (by omega)
          omega
        have ha_34 : ((d + (vy_6 : Int32).toInt) + 1) ≤ (d + (x_31 : Int32).toInt) := by
          have z_1 := Int32.lt_iff_toInt_lt.mp (Int32.not_le.mp c_17)
          have y_1 : (1 : Int32).toInt = 1 := by decide
          have t_x_31 : x_31.toInt = (vy_6 : Int32).toInt + (1 : Int32).toInt := by rw [ex_31]; exact add_toInt (by omega) (by omega)
          omega
        exact ih_12 x_31 sv_23 sv_24 sv_25 sv_26 _ _ _ (by omega) ha_33 (SaidD.mono pf_27 ha_34) (hP.sub [0, 1, 2, 3, 4, 5, 6] rfl) (hD.sub [0, 1, 2, 3, 4, 5, 6] rfl rfl) hS (lv_sub hl [0, 1, 2] rfl)
  have ha_35 : 0 ≤ (0 : Int32).toInt ∧ (0 : Int32).toInt ≤ x1.toInt := by
    have y_0 : (0 : Int32).toInt = 0 := by decide
    omega
  have ha_36 : d ≤ (d + (0 : Int32).toInt) := by
    have y_0 : (0 : Int32).toInt = 0 := by decide
    omega
  exact loop_13 _ 0 (Mv 10) (Mg 8) (Mg 9) (Mf 10) _ _ _ (Nat.lt_succ_self _) ha_35 (SaidD.mono h_said ha_36) hP hD hS hl
set_option maxRecDepth 100000 in
theorem cu_X12_passesAll {T : Nat → Option Int32} (l : Launch) (D : va_G) (tc : Nat → ClassId) (sk : (Nat → Nat) × (Nat → Nat)) (Ma_0 : Nat) (Ma_1 : Nat) (Ma_2 : Nat) (Ma_3 : Nat) (Ma_4 : Nat) (Ma_5 : Nat) (Ma_6 : Nat) (Ma_7 : Nat) (Ma_8 : Nat) (Ma_9 : Nat) (Ma_10 : Nat) (Ma_11 : Nat) (Ma_12 : Nat) (Ma_13 : Nat) (Ma_14 : Nat) (Ma_15 : Nat) (Ma_16 : Nat) (Ma_17 : Nat) (Ma_18 : Nat) (Ma_19 : Nat) (Ma_20 : Nat) (Mv_0 : Int32) (Mv_1 : Int32) (Mv_2 : Int32) (Mv_3 : Int32) (Mv_4 : Int32) (Mv_5 : Int32) (Mv_6 : Int32) (Mv_7 : Int32) (Mv_8 : Int32) (Mv_9 : Int32) (Mv_10 : Int32) (Mv_11 : Int32) (Mv_12 : Int32) (Mv_13 : Int32) (Mv_14 : Int32) (Mf_2 : Nat → Int32) (Mf_4 : Nat → Int32) (Mf_5 : Nat → Int32) (Mf_10 : Nat → Int32) (Mj_0 : Int64) (Mg_8 : Nat → Int64) (Mg_9 : Nat → Int64) (x1 : Int32) (d : Int) (h_said : SaidD T Mf_10 d) (h_d : d ≤ 1000) (h_rul : RulD Mf_2 Mf_4 Mf_5 Mv_1) (h_frc : -1 ≤ Mv_11.toInt ∧ Mv_11.toInt < Mv_1.toInt ∧ Mv_1.toInt ≤ 6) (h_n : 0 ≤ x1.toInt ∧ x1.toInt ≤ 1000) : Ct l yX12_passesAll cX12_passesAll 3 none { frames := 5, cells := 0, slots := 0, locals := 121 } D tc sk [.ref Ma_0, .int x1] [(Ma_0, .inr (12, [.ref Ma_1, .int Mv_0, .int Mv_1, .ref Ma_2, .ref Ma_3, .ref Ma_4, .ref Ma_5, .ref Ma_6, .int Mv_2, .int Mv_3, .int Mv_4, .int Mv_5, .int Mv_6, .int Mv_7, .int Mv_8, .ref Ma_7, .int Mv_9, .ref Ma_8, .int Mv_10, .ref Ma_9, .ref Ma_10, .int Mv_11, .int Mv_12, .int Mv_13, .ref Ma_11, .int Mv_14, .ref Ma_12, .ref Ma_13, .ref Ma_14, .ref Ma_15, .ref Ma_16, .long Mj_0, .ref Ma_17, .ref Ma_18, .ref Ma_19, .ref Ma_20])), (Ma_2, .inl (tc 0, 2400, .inl Mf_2)), (Ma_4, .inl (tc 0, 288, .inl Mf_4)), (Ma_5, .inl (tc 0, 6, .inl Mf_5)), (Ma_8, .inl (tc 1, 64, .inr (.inl Mg_8))), (Ma_9, .inl (tc 1, 13, .inr (.inl Mg_9))), (Ma_10, .inl (tc 0, 126, .inl Mf_10))] (fun (v : Option Value) (u : (Int32) × (Nat → Int64) × (Nat → Int64) × (Nat → Int32)) => match u with | (oo0x1, oo0x2, oo0x3, oo0x4) => v = none ∧ (SaidD T oo0x4 (d + x1.toInt))) (fun (u : (Int32) × (Nat → Int64) × (Nat → Int64) × (Nat → Int32)) => match u with | (oo0x1, oo0x2, oo0x3, oo0x4) => [(Ma_0, .inr (12, [.ref Ma_1, .int Mv_0, .int Mv_1, .ref Ma_2, .ref Ma_3, .ref Ma_4, .ref Ma_5, .ref Ma_6, .int Mv_2, .int Mv_3, .int Mv_4, .int Mv_5, .int Mv_6, .int Mv_7, .int Mv_8, .ref Ma_7, .int Mv_9, .ref Ma_8, .int oo0x1, .ref Ma_9, .ref Ma_10, .int Mv_11, .int Mv_12, .int Mv_13, .ref Ma_11, .int Mv_14, .ref Ma_12, .ref Ma_13, .ref Ma_14, .ref Ma_15, .ref Ma_16, .long Mj_0, .ref Ma_17, .ref Ma_18, .ref Ma_19, .ref Ma_20])), (Ma_2, .inl (tc 0, 2400, .inl Mf_2)), (Ma_4, .inl (tc 0, 288, .inl Mf_4)), (Ma_5, .inl (tc 0, 6, .inl Mf_5)), (Ma_8, .inl (tc 1, 64, .inr (.inl oo0x2))), (Ma_9, .inl (tc 1, 13, .inr (.inl oo0x3))), (Ma_10, .inl (tc 0, 126, .inl oo0x4))]) 0 0 :=
  ct_X12_passesAll l D tc sk (fun k => ([Ma_0, Ma_1, Ma_2, Ma_3, Ma_4, Ma_5, Ma_6, Ma_7, Ma_8, Ma_9, Ma_10, Ma_11, Ma_12, Ma_13, Ma_14, Ma_15, Ma_16, Ma_17, Ma_18, Ma_19, Ma_20] : List (Nat)).getD k 0) (fun k => ([Mv_0, Mv_1, Mv_2, Mv_3, Mv_4, Mv_5, Mv_6, Mv_7, Mv_8, Mv_9, Mv_10, Mv_11, Mv_12, Mv_13, Mv_14] : List (Int32)).getD k 0) (fun k => ([(fun _ => 0), (fun _ => 0), Mf_2, (fun _ => 0), Mf_4, Mf_5, (fun _ => 0), (fun _ => 0), (fun _ => 0), (fun _ => 0), Mf_10] : List (Nat → Int32)).getD k (fun _ => 0)) (fun k => ([Mj_0] : List (Int64)).getD k 0) (fun k => ([(fun _ => 0), (fun _ => 0), (fun _ => 0), (fun _ => 0), (fun _ => 0), (fun _ => 0), (fun _ => 0), (fun _ => 0), Mg_8, Mg_9] : List (Nat → Int64)).getD k (fun _ => 0)) x1 d h_said h_d h_rul h_frc h_n
