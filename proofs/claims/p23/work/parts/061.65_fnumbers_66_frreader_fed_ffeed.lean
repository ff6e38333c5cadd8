set_option maxRecDepth 16384
set_option maxHeartbeats 4000000 in
set_option maxRecDepth 100000 in
theorem ct_fX10_numberHere (l : Launch) (D : va_G) (tc : Nat → ClassId) (sk : (Nat → Nat) × (Nat → Nat)) (Ta : Nat → Nat) (Tv : Nat → Int32) (Tf : Nat → Nat → Int32) (x1 : Int32) (x2 : Int32) (rr : Except Int (Nat × Nat)) (lo : Int) (hi : Int) (h_tape : 0 ≤ ((Tv 0) : Int32).toInt ∧ ((Tv 0) : Int32).toInt ≤ 400 ∧ 0 ≤ ((Tv 1) : Int32).toInt ∧ ((Tv 1) : Int32).toInt ≤ 400 ∧ 0 ≤ ((Tv 2) : Int32).toInt ∧ ((Tv 2) : Int32).toInt ≤ 400) (h_by : Byt (Tf 1)) (h_r : TpR (Tf 1) (Tv 0) rr (Tv 1) (Tv 2) (Tv 3) (Tv 4)) (h_lo : x1.toInt = lo) (h_hi : x2.toInt = hi) : Ct l yX10_numberHere cX10_numberHere 5 (some .int) { frames := 1, cells := 0, slots := 0, locals := 21 } D tc sk [.ref (Ta 0), .int x1, .int x2] [((Ta 0), .inr (10, [.ref (Ta 1), .int (Tv 0), .int (Tv 1), .int (Tv 2), .int (Tv 3), .int (Tv 4)])), ((Ta 1), .inl (tc 0, 400, .inl (Tf 1)))] (fun (v : Option Value) (u : (Int32) × (Int32)) => match u with | (oo0x1, oo0x2) => ∃ r : Int32, v = some (.int r) ∧ (NuV (cB (Tf 1) (Tv 0)) lo hi rr r) ∧ (0 ≤ ((Tv 0) : Int32).toInt ∧ ((Tv 0) : Int32).toInt ≤ 400 ∧ 0 ≤ ((Tv 1) : Int32).toInt ∧ ((Tv 1) : Int32).toInt ≤ 400 ∧ 0 ≤ ((Tv 2) : Int32).toInt ∧ ((Tv 2) : Int32).toInt ≤ 400) ∧ (TpR (Tf 1) (Tv 0) (rNU (cB (Tf 1) (Tv 0)) lo hi rr) (Tv 1) (Tv 2) oo0x1 oo0x2)) (fun (u : (Int32) × (Int32)) => match u with | (oo0x1, oo0x2) => [((Ta 0), .inr (10, [.ref (Ta 1), .int (Tv 0), .int (Tv 1), .int (Tv 2), .int oo0x1, .int oo0x2])), ((Ta 1), .inl (tc 0, 400, .inl (Tf 1)))]) 0 0 := by
  refine Ct.start (by decide) (Nat.le_of_ble_eq_true rfl) (fun p e s m below meth c A ls hx hb hr hlk hin hml hown hts hK hX hP hD hA hl hS => ?_)
  have hl : lv_has ls 5 [(0, .ref (Ta 0)), (1, .int x1), (2, .int x2)] := hl
  have tb_1 : TpB (rTE (cB (Tf 1) (Tv 0)) rr) (Tv 2) (Tv 4) := TpR.tb h_r
  have htlt := fun z : 0 ≤ (Tv 3).toInt => TpR.lt h_r z
  refine lv_aload_n hx hb dX10_numberHere_0 rfl (lv_at hl 0 rfl) ?_
  refine gf_X10_25 hx hb hts hown hK hP 0 rfl rfl dX10_numberHere_1 ?_
  refine cS (As := [.int (Tv 3)]) (rest := []) (wr := [((Ta 0), .inr (10, [.ref (Ta 1), .int (Tv 0), .int (Tv 1), .int (Tv 2), .int (Tv 3), .int (Tv 4)])), ((Ta 1), .inl (tc 0, 400, .inl (Tf 1)))]) ⟨hx, hb, hml, hown, hts⟩ hK hX hA (ct_fX10_isDigit l D tc sk (Tv 3)) k_488 k_486 k_487 k_96 pl_X10_isDigit ⟨Nat.le_of_ble_eq_true rfl, Nat.le_of_ble_eq_true rfl⟩ rfl rfl  hP hD hS [] [0, 1] rfl rfl rfl rfl rfl (by decide) rfl hl.1 rfl (Nat.le_of_ble_eq_true rfl) dX10_numberHere_4 ⟨Nat.le_of_ble_eq_true rfl, Nat.le_of_ble_eq_true rfl⟩ (fun v_2 u_3 H locs hv_4 hP₀ hD₀ hS₀ => ?_)
  obtain ⟨r_5, rfl, he_6⟩ := hv_4
  have he_6 : ((r_5.toInt = 1 ∧ 48 ≤ (Tv 3).toInt ∧ (Tv 3).toInt ≤ 57) ∨ (r_5.toInt = 0 ∧ ((Tv 3).toInt < 48 ∨ 57 < (Tv 3).toInt))) := he_6
  refine W.eq (g2 := F0 m 7 ls [.int r_5]) rfl ?_
  replace hP : va_P D classes [((Ta 0), .inr (10, [.ref (Ta 1), .int (Tv 0), .int (Tv 1), .int (Tv 2), .int (Tv 3), .int (Tv 4)])), ((Ta 1), .inl (tc 0, 400, .inl (Tf 1)))] H := hP₀
  replace hD : va_D A [((Ta 0), .inr (10, [.ref (Ta 1), .int (Tv 0), .int (Tv 1), .int (Tv 2), .int (Tv 3), .int (Tv 4)])), ((Ta 1), .inl (tc 0, 400, .inl (Tf 1)))] := hD₀
  replace hS := hS₀
  clear hP₀ hD₀ hS₀
  refine lv_if_ne (tgt := 17) hx hb dX10_numberHere_7 (by decide) (fun c_8 => ?_) (fun c_8 => ?_)
  · skip
    refine lv_aload_n hx hb dX10_numberHere_17 rfl (lv_at hl 0 rfl) ?_
    refine gf_X10_22 hx hb hts hown hK hP 0 rfl rfl dX10_numberHere_18 ?_
    refine lv_aload_n hx hb dX10_numberHere_21 rfl (lv_at hl 0 rfl) ?_
    refine gf_X10_19 hx hb hts hown hK hP 0 rfl rfl dX10_numberHere_22 ?_
    refine lv_isub hx hb dX10_numberHere_25 ?_
    refine lv_topi (fun x_9 ex_9 => ?_)
    refine lv_iconst (v := 5) hx hb dX10_numberHere_26 (by decide) ?_
    refine lv_icmp_le (tgt := 37) hx hb dX10_numberHere_27 (by decide) (fun c_10 => ?_) (fun c_10 => ?_)
    · skip
      refine lv_iconst (v := 0) hx hb dX10_numberHere_37 (by decide) ?_
      refine lv_istore_n (lv' := [(3, .int 0), (0, .ref (Ta 0)), (1, .int x1), (2, .int x2)]) hx hb dX10_numberHere_38 rfl hl (by decide) rfl (fun ls hl₀ => ?_)
      replace hl := hl₀
      clear hl₀
      refine lv_aload_n hx hb dX10_numberHere_39 rfl (lv_at hl 1 rfl) ?_
      refine gf_X10_19 hx hb hts hown hK hP 0 rfl rfl dX10_numberHere_40 ?_
      refine lv_istore (lv' := [(4, .int (Tv 1)), (3, .int 0), (0, .ref (Ta 0)), (1, .int x1), (2, .int x2)]) hx hb dX10_numberHere_43 hl (by decide) rfl (fun ls hl₀ => ?_)
      replace hl := hl₀
      clear hl₀
      have loop_17 : ∀ (n_15 : Nat) (vy_13 : Int32) (vy_14 : Int32) (H : Heap) (locs : List Loc) (ls : Array Slot), (401 - (vy_13 : Int32).toInt).toNat < n_15 → ((Tv 1).toInt ≤ (vy_13 : Int32).toInt ∧ (vy_13 : Int32).toInt ≤ (Tv 2).toInt) → (Nv (cB (Tf 1) (Tv 0)) (Tv 1) vy_14 vy_13) → va_P D classes [((Ta 0), .inr (10, [.ref (Ta 1), .int (Tv 0), .int (Tv 1), .int (Tv 2), .int (Tv 3), .int (Tv 4)])), ((Ta 1), .inl (tc 0, 400, .inl (Tf 1)))] H → va_D A [((Ta 0), .inr (10, [.ref (Ta 1), .int (Tv 0), .int (Tv 1), .int (Tv 2), .int (Tv 3), .int (Tv 4)])), ((Ta 1), .inl (tc 0, 400, .inl (Tf 1)))] → va_S A s.heap H locs → lv_has ls 5 [(4, .int vy_13), (3, .int vy_14), (0, .ref (Ta 0)), (1, .int x1), (2, .int x2)] → W p l e ({ frames := 1, cells := 0, slots := 0, locals := 21 }) s m ([.ref (Ta 0), .int x1, .int x2].toArray) below meth c H locs 0 0 (MQ below (QW (fun (v : Option Value) (u : (Int32) × (Int32)) => match u with | (oo0x1, oo0x2) => ∃ r : Int32, v = some (.int r) ∧ (NuV (cB (Tf 1) (Tv 0)) lo hi rr r) ∧ (0 ≤ ((Tv 0) : Int32).toInt ∧ ((Tv 0) : Int32).toInt ≤ 400 ∧ 0 ≤ ((Tv 1) : Int32).toInt ∧ ((Tv 1) : Int32).toInt ≤ 400 ∧ 0 ≤ ((Tv 2) : Int32).toInt ∧ ((Tv 2) : Int32).toInt ≤ 400) ∧ (TpR (Tf 1) (Tv 0) (rNU (cB (Tf 1) (Tv 0)) lo hi rr) (Tv 1) (Tv 2) oo0x1 oo0x2)) (BW D (fun (u : (Int32) × (Int32)) => match u with | (oo0x1, oo0x2) => [((Ta 0), .inr (10, [.ref (Ta 1), .int (Tv 0), .int (Tv 1), .int (Tv 2), .int oo0x1, .int oo0x2])), ((Ta 1), .inl (tc 0, 400, .inl (Tf 1)))]) A) A) ([.ref (Ta 0), .int x1, .int x2].toArray) s 0 0 A) (F0 m 45 ls []) := by
        clear hP hD hS hl
        intro n_15
        induction n_15 with
        | zero =>
          intro vy_13 vy_14 H locs ls h1
          exact absurd h1 (Nat.not_lt_zero _)
        | succ n_15 ih_16 =>
          intro vy_13 vy_14 H locs ls hn_20 pf_18 pf_19 hP hD hS hl
          have ar_pf_19 := Nv.ar pf_19
          refine lv_iload hx hb dX10_numberHere_45 (lv_at hl 0 rfl) ?_
          refine lv_aload_n hx hb dX10_numberHere_47 rfl (lv_at hl 2 rfl) ?_
          refine gf_X10_22 hx hb hts hown hK hP 0 rfl rfl dX10_numberHere_48 ?_
          refine lv_icmp_ge (tgt := 75) hx hb dX10_numberHere_51 (by decide) (fun c_21 => ?_) (fun c_21 => ?_)
          · skip
            refine lv_iload_n hx hb dX10_numberHere_75 rfl (lv_at hl 1 rfl) ?_
            refine lv_iload_n hx hb dX10_numberHere_76 rfl (lv_at hl 3 rfl) ?_
            refine lv_icmp_lt (tgt := 85) hx hb dX10_numberHere_77 (by decide) (fun c_22 => ?_) (fun c_22 => ?_)
            · skip
              refine lv_aload_n hx hb dX10_numberHere_85 rfl (lv_at hl 2 rfl) ?_
              refine lv_iconst (v := 1) hx hb dX10_numberHere_86 (by decide) ?_
              have ha_23 : 0 ≤ (1 : Int32).toInt ∧ (1 : Int32).toInt ≤ 4 := by
                have z_1 : ¬ (r_5 : Int32).toInt = (0 : Int32).toInt := fun z => c_8 (Int32.toInt_inj.mp z)
                have z_2 := Int32.le_iff_toInt_le.mp c_10
                have z_3 := Int32.le_iff_toInt_le.mp c_21
                have z_4 := Int32.lt_iff_toInt_lt.mp c_22
                have y_0 : (0 : Int32).toInt = 0 := by decide
                have y_5 : (5 : Int32).toInt = 5 := by decide
                have y_1 : (1 : Int32).toInt = 1 := by decide
                have t_x_9 : x_9.toInt = ((Tv 2) : Int32).toInt - ((Tv 1) : Int32).toInt := by rw [ex_9]; exact sub_toInt (by omega) (by omega)
                omega
              have ha_24 : (1 : Int32).toInt = (1 : Int) := by
                have z_1 : ¬ (r_5 : Int32).toInt = (0 : Int32).toInt := fun z => c_8 (Int32.toInt_inj.mp z)
                have z_2 := Int32.le_iff_toInt_le.mp c_10
                have z_3 := Int32.le_iff_toInt_le.mp c_21
                have z_4 := Int32.lt_iff_toInt_lt.mp c_22
                have y_0 : (0 : Int32).toInt = 0 := by decide
                have y_5 : (5 : Int32).toInt = 5 := by decide
                have y_1 : (1 : Int32).toInt = 1 := by decide
                have t_x_9 : x_9.toInt = ((Tv 2) : Int32).toInt - ((Tv 1) : Int32).toInt := by rw [ex_9]; exact sub_toInt (by omega) (by omega)
                omega
              refine cV (a := (Ta 0)) (As := [.int 1]) (rest := []) (wr := []) ⟨hx, hb, hml, hown, hts⟩ hK hX hA (cu_fX10_fail l D tc sk (Ta 0) (Ta 1) (Tv 0) (Tv 1) (Tv 2) (Tv 3) (Tv 4) (Tf 1) 1 rr 1 h_tape h_r ha_23 ha_24) k_557 k_571 k_555 k_556 k_96 pl_X10_fail ⟨Nat.le_of_ble_eq_true rfl, Nat.le_of_ble_eq_true rfl⟩ rfl rfl (va_recv hK hP (ci := 10) (q0 := 0) rfl rfl) hP hD hS [0, 1] [] rfl rfl rfl rfl rfl (by decide) rfl hl.1 rfl (Nat.le_of_ble_eq_true rfl) dX10_numberHere_87 ⟨Nat.le_of_ble_eq_true rfl, Nat.le_of_ble_eq_true rfl⟩ (fun v_25 u_26 H locs hv_27 hP₀ hD₀ hS₀ => ?_)
              obtain ⟨sv_28, sv_29⟩ := u_26
              obtain ⟨rfl, pf_30, pf_31⟩ := hv_27
              have pf_30 : 0 ≤ ((Tv 0) : Int32).toInt ∧ ((Tv 0) : Int32).toInt ≤ 400 ∧ 0 ≤ ((Tv 1) : Int32).toInt ∧ ((Tv 1) : Int32).toInt ≤ 400 ∧ 0 ≤ ((Tv 2) : Int32).toInt ∧ ((Tv 2) : Int32).toInt ≤ 400 := pf_30
              have pf_31 : TpR (Tf 1) (Tv 0) (rER (1 : Int) rr) (Tv 1) (Tv 2) sv_28 sv_29 := pf_31
              obtain ⟨ro_32, ero_32⟩ : ∃ z : Except Int (Nat × Nat), z = (rER (1 : Int) rr) := ⟨_, rfl⟩
              rw [← ero_32] at pf_31
              have tb_33 : TpB (rTE (cB (Tf 1) (Tv 0)) ro_32) (Tv 2) sv_29 := TpR.tb pf_31
              refine W.eq (g2 := F0 m 90 ls []) rfl ?_
              replace hP : va_P D classes [((Ta 0), .inr (10, [.ref (Ta 1), .int (Tv 0), .int (Tv 1), .int (Tv 2), .int sv_28, .int sv_29])), ((Ta 1), .inl (tc 0, 400, .inl (Tf 1)))] H := hP₀
              replace hD : va_D A [((Ta 0), .inr (10, [.ref (Ta 1), .int (Tv 0), .int (Tv 1), .int (Tv 2), .int sv_28, .int sv_29])), ((Ta 1), .inl (tc 0, 400, .inl (Tf 1)))] := hD₀
              replace hS := hS₀
              clear hP₀ hD₀ hS₀
              refine lv_iload_n hx hb dX10_numberHere_90 rfl (lv_at hl 3 rfl) ?_
              have hk_34 : vy_13 = (Tv 2) := Int32.toInt_inj.mp (by
                have z_1 : ¬ (r_5 : Int32).toInt = (0 : Int32).toInt := fun z => c_8 (Int32.toInt_inj.mp z)
                have z_2 := Int32.le_iff_toInt_le.mp c_10
                have z_3 := Int32.le_iff_toInt_le.mp c_21
                have z_4 := Int32.lt_iff_toInt_lt.mp c_22
                have y_0 : (0 : Int32).toInt = 0 := by decide
                have y_5 : (5 : Int32).toInt = 5 := by decide
                have t_x_9 : x_9.toInt = ((Tv 2) : Int32).toInt - ((Tv 1) : Int32).toInt := by rw [ex_9]; exact sub_toInt (by omega) (by omega)
                omega)
              have hv_35 : Nv (cB (Tf 1) (Tv 0)) (Tv 1) vy_14 (Tv 2) := hk_34 ▸ pf_19
              have hr_36 : 48 ≤ (Tv 3).toInt ∧ (Tv 3).toInt ≤ 57 := by
                have z_1 : ¬ (r_5 : Int32).toInt = (0 : Int32).toInt := fun z => c_8 (Int32.toInt_inj.mp z)
                have z_2 := Int32.le_iff_toInt_le.mp c_10
                have z_3 := Int32.le_iff_toInt_le.mp c_21
                have z_4 := Int32.lt_iff_toInt_lt.mp c_22
                have y_0 : (0 : Int32).toInt = 0 := by decide
                have y_5 : (5 : Int32).toInt = 5 := by decide
                have t_x_9 : x_9.toInt = ((Tv 2) : Int32).toInt - ((Tv 1) : Int32).toInt := by rw [ex_9]; exact sub_toInt (by omega) (by omega)
                omega
              have hr_37 : (Tv 2).toInt - (Tv 1).toInt ≤ 5 := by
                have z_1 : ¬ (r_5 : Int32).toInt = (0 : Int32).toInt := fun z => c_8 (Int32.toInt_inj.mp z)
                have z_2 := Int32.le_iff_toInt_le.mp c_10
                have z_3 := Int32.le_iff_toInt_le.mp c_21
                have z_4 := Int32.lt_iff_toInt_lt.mp c_22
                have y_0 : (0 : Int32).toInt = 0 := by decide
                have y_5 : (5 : Int32).toInt = 5 := by decide
                have t_x_9 : x_9.toInt = ((Tv 2) : Int32).toInt - ((Tv 1) : Int32).toInt := by rw [ex_9]; exact sub_toInt (by omega) (by omega)
                omega
              have hr_38 : ((vy_14 : Int32).toInt < lo ∨ hi < (vy_14 : Int32).toInt) := by
                have z_1 : ¬ (r_5 : Int32).toInt = (0 : Int32).toInt := fun z => c_8 (Int32.toInt_inj.mp z)
                have z_2 := Int32.le_iff_toInt_le.mp c_10
                have z_3 := Int32.le_iff_toInt_le.mp c_21
                have z_4 := Int32.lt_iff_toInt_lt.mp c_22
                have y_0 : (0 : Int32).toInt = 0 := by decide
                have y_5 : (5 : Int32).toInt = 5 := by decide
                have t_x_9 : x_9.toInt = ((Tv 2) : Int32).toInt - ((Tv 1) : Int32).toInt := by rw [ex_9]; exact sub_toInt (by omega) (by omega)
                omega
              have hf_39 : TpR (Tf 1) (Tv 0) (rNU (cB (Tf 1) (Tv 0)) lo hi rr) (Tv 1) (Tv 2) sv_28 sv_29 := by
                have hE_40 : (rNU (cB (Tf 1) (Tv 0)) lo hi rr) = ro_32 := by
                  rw [ero_32]
                  exact (rNU_out h_r hr_36 hr_37 hv_35 hr_38)
                rw [hE_40]
                exact pf_31
              have hk_41 : vy_13 = (Tv 2) := Int32.toInt_inj.mp (by
                have z_1 : ¬ (r_5 : Int32).toInt = (0 : Int32).toInt := fun z => c_8 (Int32.toInt_inj.mp z)
                have z_2 := Int32.le_iff_toInt_le.mp c_10
                have z_3 := Int32.le_iff_toInt_le.mp c_21
                have z_4 := Int32.lt_iff_toInt_lt.mp c_22
                have y_0 : (0 : Int32).toInt = 0 := by decide
                have y_5 : (5 : Int32).toInt = 5 := by decide
                have t_x_9 : x_9.toInt = ((Tv 2) : Int32).toInt - ((Tv 1) : Int32).toInt := by rw [ex_9]; exact sub_toInt (by omega) (by omega)
                omega)
              have hv_42 : Nv (cB (Tf 1) (Tv 0)) (Tv 1) vy_14 (Tv 2) := hk_41 ▸ pf_19
              have hr_43 : 48 ≤ (Tv 3).toInt ∧ (Tv 3).toInt ≤ 57 := by
                have z_1 : ¬ (r_5 : Int32).toInt = (0 : Int32).toInt := fun z => c_8 (Int32.toInt_inj.mp z)
                have z_2 := Int32.le_iff_toInt_le.mp c_10
                have z_3 := Int32.le_iff_toInt_le.mp c_21
                have z_4 := Int32.lt_iff_toInt_lt.mp c_22
                have y_0 : (0 : Int32).toInt = 0 := by decide
                have y_5 : (5 : Int32).toInt = 5 := by decide
                have t_x_9 : x_9.toInt = ((Tv 2) : Int32).toInt - ((Tv 1) : Int32).toInt := by rw [ex_9]; exact sub_toInt (by omega) (by omega)
                omega
              have hr_44 : (Tv 2).toInt - (Tv 1).toInt ≤ 5 := by
                have z_1 : ¬ (r_5 : Int32).toInt = (0 : Int32).toInt := fun z => c_8 (Int32.toInt_inj.mp z)
                have z_2 := Int32.le_iff_toInt_le.mp c_10
                have z_3 := Int32.le_iff_toInt_le.mp c_21
                have z_4 := Int32.lt_iff_toInt_lt.mp c_22
                have y_0 : (0 : Int32).toInt = 0 := by decide
                have y_5 : (5 : Int32).toInt = 5 := by decide
                have t_x_9 : x_9.toInt = ((Tv 2) : Int32).toInt - ((Tv 1) : Int32).toInt := by rw [ex_9]; exact sub_toInt (by omega) (by omega)
                omega
              have hr_45 : ((vy_14 : Int32).toInt < lo ∨ hi < (vy_14 : Int32).toInt) := by
                have z_1 : ¬ (r_5 : Int32).toInt = (0 : Int32).toInt := fun z => c_8 (Int32.toInt_inj.mp z)
                have z_2 := Int32.le_iff_toInt_le.mp c_10
                have z_3 := Int32.le_iff_toInt_le.mp c_21
                have z_4 := Int32.lt_iff_toInt_lt.mp c_22
                have y_0 : (0 : Int32).toInt = 0 := by decide
                have y_5 : (5 : Int32).toInt = 5 := by decide
                have t_x_9 : x_9.toInt = ((Tv 2) : Int32).toInt - ((Tv 1) : Int32).toInt := by rw [ex_9]; exact sub_toInt (by omega) (by omega)
                omega
              exact retI (v := x1) hx hb hr hlk (rfl) hP hD hS (sv_28, sv_29) ⟨_, rfl, (NuV.out h_r hr_43 hr_44 hv_42 hr_45), pf_30, hf_39⟩ [0, 1] rfl rfl dX10_numberHere_91 (Nat.le_of_ble_eq_true rfl) (Nat.le_of_ble_eq_true rfl) rfl
            · skip
              refine lv_iload_n hx hb dX10_numberHere_80 rfl (lv_at hl 1 rfl) ?_
              refine lv_iload_n hx hb dX10_numberHere_81 rfl (lv_at hl 4 rfl) ?_
              refine lv_icmp_le (tgt := 92) hx hb dX10_numberHere_82 (by decide) (fun c_46 => ?_) (fun c_46 => ?_)
              · skip
                refine lv_iload_n hx hb dX10_numberHere_92 rfl (lv_at hl 1 rfl) ?_
                have hk_47 : vy_13 = (Tv 2) := Int32.toInt_inj.mp (by
                  have z_1 : ¬ (r_5 : Int32).toInt = (0 : Int32).toInt := fun z => c_8 (Int32.toInt_inj.mp z)
                  have z_2 := Int32.le_iff_toInt_le.mp c_10
                  have z_3 := Int32.le_iff_toInt_le.mp c_21
                  have z_4 := Int32.le_iff_toInt_le.mp (Int32.not_lt.mp c_22)
                  have z_5 := Int32.le_iff_toInt_le.mp c_46
                  have y_0 : (0 : Int32).toInt = 0 := by decide
                  have y_5 : (5 : Int32).toInt = 5 := by decide
                  have t_x_9 : x_9.toInt = ((Tv 2) : Int32).toInt - ((Tv 1) : Int32).toInt := by rw [ex_9]; exact sub_toInt (by omega) (by omega)
                  omega)
                have hv_48 : Nv (cB (Tf 1) (Tv 0)) (Tv 1) vy_14 (Tv 2) := hk_47 ▸ pf_19
                have hr_49 : 48 ≤ (Tv 3).toInt ∧ (Tv 3).toInt ≤ 57 := by
                  have z_1 : ¬ (r_5 : Int32).toInt = (0 : Int32).toInt := fun z => c_8 (Int32.toInt_inj.mp z)
                  have z_2 := Int32.le_iff_toInt_le.mp c_10
                  have z_3 := Int32.le_iff_toInt_le.mp c_21
                  have z_4 := Int32.le_iff_toInt_le.mp (Int32.not_lt.mp c_22)
                  have z_5 := Int32.le_iff_toInt_le.mp c_46
                  have y_0 : (0 : Int32).toInt = 0 := by decide
                  have y_5 : (5 : Int32).toInt = 5 := by decide
                  have t_x_9 : x_9.toInt = ((Tv 2) : Int32).toInt - ((Tv 1) : Int32).toInt := by rw [ex_9]; exact sub_toInt (by omega) (by omega)
                  omega
                have hr_50 : (Tv 2).toInt - (Tv 1).toInt ≤ 5 := by
                  have z_1 : ¬ (r_5 : Int32).toInt = (0 : Int32).toInt := fun z => c_8 (Int32.toInt_inj.mp z)
                  have z_2 := Int32.le_iff_toInt_le.mp c_10
                  have z_3 := Int32.le_iff_toInt_le.mp c_21
                  have z_4 := Int32.le_iff_toInt_le.mp (Int32.not_lt.mp c_22)
                  have z_5 := Int32.le_iff_toInt_le.mp c_46
                  have y_0 : (0 : Int32).toInt = 0 := by decide
                  have y_5 : (5 : Int32).toInt = 5 := by decide
                  have t_x_9 : x_9.toInt = ((Tv 2) : Int32).toInt - ((Tv 1) : Int32).toInt := by rw [ex_9]; exact sub_toInt (by omega) (by omega)
                  omega
                have hr_51 : ¬ ((vy_14 : Int32).toInt < lo ∨ hi < (vy_14 : Int32).toInt) := by
                  have z_1 : ¬ (r_5 : Int32).toInt = (0 : Int32).toInt := fun z => c_8 (Int32.toInt_inj.mp z)
                  have z_2 := Int32.le_iff_toInt_le.mp c_10
                  have z_3 := Int32.le_iff_toInt_le.mp c_21
                  have z_4 := Int32.le_iff_toInt_le.mp (Int32.not_lt.mp c_22)
                  have z_5 := Int32.le_iff_toInt_le.mp c_46
                  have y_0 : (0 : Int32).toInt = 0 := by decide
                  have y_5 : (5 : Int32).toInt = 5 := by decide
                  have t_x_9 : x_9.toInt = ((Tv 2) : Int32).toInt - ((Tv 1) : Int32).toInt := by rw [ex_9]; exact sub_toInt (by omega) (by omega)
                  omega
                have hf_52 : TpR (Tf 1) (Tv 0) (rNU (cB (Tf 1) (Tv 0)) lo hi rr) (Tv 1) (Tv 2) (Tv 3) (Tv 4) := by
                  have hE_53 : (rNU (cB (Tf 1) (Tv 0)) lo hi rr) = rr := by
                    exact (rNU_ok h_r hr_49 hr_50 hv_48 hr_51)
                  rw [hE_53]
                  exact h_r
                have hk_54 : vy_13 = (Tv 2) := Int32.toInt_inj.mp (by
                  have z_1 : ¬ (r_5 : Int32).toInt = (0 : Int32).toInt := fun z => c_8 (Int32.toInt_inj.mp z)
                  have z_2 := Int32.le_iff_toInt_le.mp c_10
                  have z_3 := Int32.le_iff_toInt_le.mp c_21
                  have z_4 := Int32.le_iff_toInt_le.mp (Int32.not_lt.mp c_22)
                  have z_5 := Int32.le_iff_toInt_le.mp c_46
                  have y_0 : (0 : Int32).toInt = 0 := by decide
                  have y_5 : (5 : Int32).toInt = 5 := by decide
                  have t_x_9 : x_9.toInt = ((Tv 2) : Int32).toInt - ((Tv 1) : Int32).toInt := by rw [ex_9]; exact sub_toInt (by omega) (by omega)
                  omega)
                have hv_55 : Nv (cB (Tf 1) (Tv 0)) (Tv 1) vy_14 (Tv 2) := hk_54 ▸ pf_19
                have hr_56 : 48 ≤ (Tv 3).toInt ∧ (Tv 3).toInt ≤ 57 := by
                  have z_1 : ¬ (r_5 : Int32).toInt = (0 : Int32).toInt := fun z => c_8 (Int32.toInt_inj.mp z)
                  have z_2 := Int32.le_iff_toInt_le.mp c_10
                  have z_3 := Int32.le_iff_toInt_le.mp c_21
                  have z_4 := Int32.le_iff_toInt_le.mp (Int32.not_lt.mp c_22)
                  have z_5 := Int32.le_iff_toInt_le.mp c_46
                  have y_0 : (0 : Int32).toInt = 0 := by decide
                  have y_5 : (5 : Int32).toInt = 5 := by decide
                  have t_x_9 : x_9.toInt = ((Tv 2) : Int32).toInt - ((Tv 1) : Int32).toInt := by rw [ex_9]; exact sub_toInt (by omega) (by omega)
                  omega
                have hr_57 : (Tv 2).toInt - (Tv 1).toInt ≤ 5 := by
                  have z_1 : ¬ (r_5 : Int32).toInt = (0 : Int32).toInt := fun z => c_8 (Int32.toInt_inj.mp z)
                  have z_2 := Int32.le_iff_toInt_le.mp c_10
                  have z_3 := Int32.le_iff_toInt_le.mp c_21
                  have z_4 := Int32.le_iff_toInt_le.mp (Int32.not_lt.mp c_22)
                  have z_5 := Int32.le_iff_toInt_le.mp c_46
                  have y_0 : (0 : Int32).toInt = 0 := by decide
                  have y_5 : (5 : Int32).toInt = 5 := by decide
                  have t_x_9 : x_9.toInt = ((Tv 2) : Int32).toInt - ((Tv 1) : Int32).toInt := by rw [ex_9]; exact sub_toInt (by omega) (by omega)
                  omega
                have hr_58 : ¬ ((vy_14 : Int32).toInt < lo ∨ hi < (vy_14 : Int32).toInt) := by
                  have z_1 : ¬ (r_5 : Int32).toInt = (0 : Int32).toInt := fun z => c_8 (Int32.toInt_inj.mp z)
                  have z_2 := Int32.le_iff_toInt_le.mp c_10
                  have z_3 := Int32.le_iff_toInt_le.mp c_21
                  have z_4 := Int32.le_iff_toInt_le.mp (Int32.not_lt.mp c_22)
                  have z_5 := Int32.le_iff_toInt_le.mp c_46
                  have y_0 : (0 : Int32).toInt = 0 := by decide
                  have y_5 : (5 : Int32).toInt = 5 := by decide
                  have t_x_9 : x_9.toInt = ((Tv 2) : Int32).toInt - ((Tv 1) : Int32).toInt := by rw [ex_9]; exact sub_toInt (by omega) (by omega)
                  omega
                exact retI (v := vy_14) hx hb hr hlk (rfl) hP hD hS ((Tv 3), (Tv 4)) ⟨_, rfl, (NuV.ok h_r hr_56 hr_57 hv_55 hr_58), h_tape, hf_52⟩ [0, 1] rfl rfl dX10_numberHere_93 (Nat.le_of_ble_eq_true rfl) (Nat.le_of_ble_eq_true rfl) rfl
              · skip
                refine lv_aload_n hx hb dX10_numberHere_85 rfl (lv_at hl 2 rfl) ?_
                refine lv_iconst (v := 1) hx hb dX10_numberHere_86 (by decide) ?_
                have ha_59 : 0 ≤ (1 : Int32).toInt ∧ (1 : Int32).toInt ≤ 4 := by
                  have z_1 : ¬ (r_5 : Int32).toInt = (0 : Int32).toInt := fun z => c_8 (Int32.toInt_inj.mp z)
                  have z_2 := Int32.le_iff_toInt_le.mp c_10
                  have z_3 := Int32.le_iff_toInt_le.mp c_21
                  have z_4 := Int32.le_iff_toInt_le.mp (Int32.not_lt.mp c_22)
                  have z_5 := Int32.lt_iff_toInt_lt.mp (Int32.not_le.mp c_46)
                  have y_0 : (0 : Int32).toInt = 0 := by decide
                  have y_5 : (5 : Int32).toInt = 5 := by decide
                  have y_1 : (1 : Int32).toInt = 1 := by decide
                  have t_x_9 : x_9.toInt = ((Tv 2) : Int32).toInt - ((Tv 1) : Int32).toInt := by rw [ex_9]; exact sub_toInt (by omega) (by omega)
                  omega
                have ha_60 : (1 : Int32).toInt = (1 : Int) := by
                  have z_1 : ¬ (r_5 : Int32).toInt = (0 : Int32).toInt := fun z => c_8 (Int32.toInt_inj.mp z)
                  have z_2 := Int32.le_iff_toInt_le.mp c_10
                  have z_3 := Int32.le_iff_toInt_le.mp c_21
                  have z_4 := Int32.le_iff_toInt_le.mp (Int32.not_lt.mp c_22)
                  have z_5 := Int32.lt_iff_toInt_lt.mp (Int32.not_le.mp c_46)
                  have y_0 : (0 : Int32).toInt = 0 := by decide
                  have y_5 : (5 : Int32).toInt = 5 := by decide
                  have y_1 : (1 : Int32).toInt = 1 := by decide
                  have t_x_9 : x_9.toInt = ((Tv 2) : Int32).toInt - ((Tv 1) : Int32).toInt := by rw [ex_9]; exact sub_toInt (by omega) (by omega)
                  omega
                refine cV (a := (Ta 0)) (As := [.int 1]) (rest := []) (wr := []) ⟨hx, hb, hml, hown, hts⟩ hK hX hA (cu_fX10_fail l D tc sk (Ta 0) (Ta 1) (Tv 0) (Tv 1) (Tv 2) (Tv 3) (Tv 4) (Tf 1) 1 rr 1 h_tape h_r ha_59 ha_60) k_557 k_571 k_555 k_556 k_96 pl_X10_fail ⟨Nat.le_of_ble_eq_true rfl, Nat.le_of_ble_eq_true rfl⟩ rfl rfl (va_recv hK hP (ci := 10) (q0 := 0) rfl rfl) hP hD hS [0, 1] [] rfl rfl rfl rfl rfl (by decide) rfl hl.1 rfl (Nat.le_of_ble_eq_true rfl) dX10_numberHere_87 ⟨Nat.le_of_ble_eq_true rfl, Nat.le_of_ble_eq_true rfl⟩ (fun v_61 u_62 H locs hv_63 hP₀ hD₀ hS₀ => ?_)
                obtain ⟨sv_64, sv_65⟩ := u_62
                obtain ⟨rfl, pf_66, pf_67⟩ := hv_63
                have pf_66 : 0 ≤ ((Tv 0) : Int32).toInt ∧ ((Tv 0) : Int32).toInt ≤ 400 ∧ 0 ≤ ((Tv 1) : Int32).toInt ∧ ((Tv 1) : Int32).toInt ≤ 400 ∧ 0 ≤ ((Tv 2) : Int32).toInt ∧ ((Tv 2) : Int32).toInt ≤ 400 := pf_66
                have pf_67 : TpR (Tf 1) (Tv 0) (rER (1 : Int) rr) (Tv 1) (Tv 2) sv_64 sv_65 := pf_67
                obtain ⟨ro_68, ero_68⟩ : ∃ z : Except Int (Nat × Nat), z = (rER (1 : Int) rr) := ⟨_, rfl⟩
                rw [← ero_68] at pf_67
                have tb_69 : TpB (rTE (cB (Tf 1) (Tv 0)) ro_68) (Tv 2) sv_65 := TpR.tb pf_67
                refine W.eq (g2 := F0 m 90 ls []) rfl ?_
                replace hP : va_P D classes [((Ta 0), .inr (10, [.ref (Ta 1), .int (Tv 0), .int (Tv 1), .int (Tv 2), .int sv_64, .int sv_65])), ((Ta 1), .inl (tc 0, 400, .inl (Tf 1)))] H := hP₀
                replace hD : va_D A [((Ta 0), .inr (10, [.ref (Ta 1), .int (Tv 0), .int (Tv 1), .int (Tv 2), .int sv_64, .int sv_65])), ((Ta 1), .inl (tc 0, 400, .inl (Tf 1)))] := hD₀
                replace hS := hS₀
                clear hP₀ hD₀ hS₀
                refine lv_iload_n hx hb dX10_numberHere_90 rfl (lv_at hl 3 rfl) ?_
                have hk_70 : vy_13 = (Tv 2) := Int32.toInt_inj.mp (by
                  have z_1 : ¬ (r_5 : Int32).toInt = (0 : Int32).toInt := fun z => c_8 (Int32.toInt_inj.mp z)
                  have z_2 := Int32.le_iff_toInt_le.mp c_10
                  have z_3 := Int32.le_iff_toInt_le.mp c_21
                  have z_4 := Int32.le_iff_toInt_le.mp (Int32.not_lt.mp c_22)
                  have z_5 := Int32.lt_iff_toInt_lt.mp (Int32.not_le.mp c_46)
                  have y_0 : (0 : Int32).toInt = 0 := by decide
                  have y_5 : (5 : Int32).toInt = 5 := by decide
                  have t_x_9 : x_9.toInt = ((Tv 2) : Int32).toInt - ((Tv 1) : Int32).toInt := by rw [ex_9]; exact sub_toInt (by omega) (by omega)
                  omega)
                have hv_71 : Nv (cB (Tf 1) (Tv 0)) (Tv 1) vy_14 (Tv 2) := hk_70 ▸ pf_19
                have hr_72 : 48 ≤ (Tv 3).toInt ∧ (Tv 3).toInt ≤ 57 := by
                  have z_1 : ¬ (r_5 : Int32).toInt = (0 : Int32).toInt := fun z => c_8 (Int32.toInt_inj.mp z)
                  have z_2 := Int32.le_iff_toInt_le.mp c_10
                  have z_3 := Int32.le_iff_toInt_le.mp c_21
                  have z_4 := Int32.le_iff_toInt_le.mp (Int32.not_lt.mp c_22)
                  have z_5 := Int32.lt_iff_toInt_lt.mp (Int32.not_le.mp c_46)
                  have y_0 : (0 : Int32).toInt = 0 := by decide
                  have y_5 : (5 : Int32).toInt = 5 := by decide
                  have t_x_9 : x_9.toInt = ((Tv 2) : Int32).toInt - ((Tv 1) : Int32).toInt := by rw [ex_9]; exact sub_toInt (by omega) (by omega)
                  omega
                have hr_73 : (Tv 2).toInt - (Tv 1).toInt ≤ 5 := by
                  have z_1 : ¬ (r_5 : Int32).toInt = (0 : Int32).toInt := fun z => c_8 (Int32.toInt_inj.mp z)
                  have z_2 := Int32.le_iff_toInt_le.mp c_10
                  have z_3 := Int32.le_iff_toInt_le.mp c_21
                  have z_4 := Int32.le_iff_toInt_le.mp (Int32.not_lt.mp c_22)
                  have z_5 := Int32.lt_iff_toInt_lt.mp (Int32.not_le.mp c_46)
                  have y_0 : (0 : Int32).toInt = 0 := by decide
                  have y_5 : (5 : Int32).toInt = 5 := by decide
                  have t_x_9 : x_9.toInt = ((Tv 2) : Int32).toInt - ((Tv 1) : Int32).toInt := by rw [ex_9]; exact sub_toInt (by omega) (by omega)
                  omega
                have hr_74 : ((vy_14 : Int32).toInt < lo ∨ hi < (vy_14 : Int32).toInt) := by
                  have z_1 : ¬ (r_5 : Int32).toInt = (0 : Int32).toInt := fun z => c_8 (Int32.toInt_inj.mp z)
                  have z_2 := Int32.le_iff_toInt_le.mp c_10
                  have z_3 := Int32.le_iff_toInt_le.mp c_21
                  have z_4 := Int32.le_iff_toInt_le.mp (Int32.not_lt.mp c_22)
                  have z_5 := Int32.lt_iff_toInt_lt.mp (Int32.not_le.mp c_46)
                  have y_0 : (0 : Int32).toInt = 0 := by decide
                  have y_5 : (5 : Int32).toInt = 5 := by decide
                  have t_x_9 : x_9.toInt = ((Tv 2) : Int32).toInt - ((Tv 1) : Int32).toInt := by rw [ex_9]; exact sub_toInt (by omega) (by omega)
                  omega
                have hf_75 : TpR (Tf 1) (Tv 0) (rNU (cB (Tf 1) (Tv 0)) lo hi rr) (Tv 1) (Tv 2) sv_64 sv_65 := by
                  have hE_76 : (rNU (cB (Tf 1) (Tv 0)) lo hi rr) = ro_68 := by
                    rw [ero_68]
                    exact (rNU_out h_r hr_72 hr_73 hv_71 hr_74)
                  rw [hE_76]
                  exact pf_67
                have hk_77 : vy_13 = (Tv 2) := Int32.toInt_inj.mp (by
                  have z_1 : ¬ (r_5 : Int32).toInt = (0 : Int32).toInt := fun z => c_8 (Int32.toInt_inj.mp z)
                  have z_2 := Int32.le_iff_toInt_le.mp c_10
                  have z_3 := Int32.le_iff_toInt_le.mp c_21
                  have z_4 := Int32.le_iff_toInt_le.mp (Int32.not_lt.mp c_22)
                  have z_5 := Int32.lt_iff_toInt_lt.mp (Int32.not_le.mp c_46)
                  have y_0 : (0 : Int32).toInt = 0 := by decide
                  have y_5 : (5 : Int32).toInt = 5 := by decide
                  have t_x_9 : x_9.toInt = ((Tv 2) : Int32).toInt - ((Tv 1) : Int32).toInt := by rw [ex_9]; exact sub_toInt (by omega) (by omega)
                  omega)
                have hv_78 : Nv (cB (Tf 1) (Tv 0)) (Tv 1) vy_14 (Tv 2) := hk_77 ▸ pf_19
                have hr_79 : 48 ≤ (Tv 3).toInt ∧ (Tv 3).toInt ≤ 57 := by
                  have z_1 : ¬ (r_5 : Int32).toInt = (0 : Int32).toInt := fun z => c_8 (Int32.toInt_inj.mp z)
                  have z_2 := Int32.le_iff_toInt_le.mp c_10
                  have z_3 := Int32.le_iff_toInt_le.mp c_21
                  have z_4 := Int32.le_iff_toInt_le.mp (Int32.not_lt.mp c_22)
                  have z_5 := Int32.lt_iff_toInt_lt.mp (Int32.not_le.mp c_46)
                  have y_0 : (0 : Int32).toInt = 0 := by decide
                  have y_5 : (5 : Int32).toInt = 5 := by decide
                  have t_x_9 : x_9.toInt = ((Tv 2) : Int32).toInt - ((Tv 1) : Int32).toInt := by rw [ex_9]; exact sub_toInt (by omega) (by omega)
                  omega
                have hr_80 : (Tv 2).toInt - (Tv 1).toInt ≤ 5 := by
                  have z_1 : ¬ (r_5 : Int32).toInt = (0 : Int32).toInt := fun z => c_8 (Int32.toInt_inj.mp z)
                  have z_2 := Int32.le_iff_toInt_le.mp c_10
                  have z_3 := Int32.le_iff_toInt_le.mp c_21
                  have z_4 := Int32.le_iff_toInt_le.mp (Int32.not_lt.mp c_22)
                  have z_5 := Int32.lt_iff_toInt_lt.mp (Int32.not_le.mp c_46)
                  have y_0 : (0 : Int32).toInt = 0 := by decide
                  have y_5 : (5 : Int32).toInt = 5 := by decide
                  have t_x_9 : x_9.toInt = ((Tv 2) : Int32).toInt - ((Tv 1) : Int32).toInt := by rw [ex_9]; exact sub_toInt (by omega) (by omega)
                  omega
                have hr_81 : ((vy_14 : Int32).toInt < lo ∨ hi < (vy_14 : Int32).toInt) := by
                  have z_1 : ¬ (r_5 : Int32).toInt = (0 : Int32).toInt := fun z => c_8 (Int32.toInt_inj.mp z)
                  have z_2 := Int32.le_iff_toInt_le.mp c_10
                  have z_3 := Int32.le_iff_toInt_le.mp c_21
                  have z_4 := Int32.le_iff_toInt_le.mp (Int32.not_lt.mp c_22)
                  have z_5 := Int32.lt_iff_toInt_lt.mp (Int32.not_le.mp c_46)
                  have y_0 : (0 : Int32).toInt = 0 := by decide
                  have y_5 : (5 : Int32).toInt = 5 := by decide
                  have t_x_9 : x_9.toInt = ((Tv 2) : Int32).toInt - ((Tv 1) : Int32).toInt := by rw [ex_9]; exact sub_toInt (by omega) (by omega)
                  omega
                exact retI (v := x1) hx hb hr hlk (rfl) hP hD hS (sv_64, sv_65) ⟨_, rfl, (NuV.out h_r hr_79 hr_80 hv_78 hr_81), pf_66, hf_75⟩ [0, 1] rfl rfl dX10_numberHere_91 (Nat.le_of_ble_eq_true rfl) (Nat.le_of_ble_eq_true rfl) rfl
          · skip
            refine lv_iload_n hx hb dX10_numberHere_54 rfl (lv_at hl 1 rfl) ?_
            refine lv_bipush (v := 10) hx hb dX10_numberHere_55 (by decide) ?_
            refine lv_imul hx hb dX10_numberHere_57 ?_
            refine lv_topi (fun x_82 ex_82 => ?_)
            refine lv_aload_n hx hb dX10_numberHere_58 rfl (lv_at hl 2 rfl) ?_
            refine lv_iload hx hb dX10_numberHere_59 (lv_at hl 0 rfl) ?_
            have ha_83 : 0 ≤ vy_13.toInt := by
              have z_1 : ¬ (r_5 : Int32).toInt = (0 : Int32).toInt := fun z => c_8 (Int32.toInt_inj.mp z)
              have z_2 := Int32.le_iff_toInt_le.mp c_10
              have z_3 := Int32.lt_iff_toInt_lt.mp (Int32.not_le.mp c_21)
              have y_0 : (0 : Int32).toInt = 0 := by decide
              have y_5 : (5 : Int32).toInt = 5 := by decide
              have t_x_9 : x_9.toInt = ((Tv 2) : Int32).toInt - ((Tv 1) : Int32).toInt := by rw [ex_9]; exact sub_toInt (by omega) (by omega)
              omega
            refine cV (a := (Ta 0)) (As := [.int vy_13]) (rest := [.int x_82]) (wr := []) ⟨hx, hb, hml, hown, hts⟩ hK hX hA (cu_fX10_byteAt l D tc sk (Ta 0) (Ta 1) (Tv 0) (Tv 1) (Tv 2) (Tv 3) (Tv 4) (Tf 1) vy_13 h_tape h_by ha_83) k_482 k_479 k_481 k_0 k_96 pl_X10_byteAt ⟨Nat.le_of_ble_eq_true rfl, Nat.le_of_ble_eq_true rfl⟩ rfl rfl (va_recv hK hP (ci := 10) (q0 := 0) rfl rfl) hP hD hS [0, 1] [] rfl rfl rfl rfl rfl (by decide) rfl hl.1 rfl (Nat.le_of_ble_eq_true rfl) dX10_numberHere_61 ⟨Nat.le_of_ble_eq_true rfl, Nat.le_of_ble_eq_true rfl⟩ (fun v_84 u_85 H locs hv_86 hP₀ hD₀ hS₀ => ?_)
            obtain ⟨r_87, rfl, he_88⟩ := hv_86
            have he_88 : (r_87.toInt = cB (Tf 1) (Tv 0) vy_13.toInt.toNat ∧ (((Tv 0).toInt ≤ vy_13.toInt ∧ r_87.toInt = -1) ∨ (vy_13.toInt < (Tv 0).toInt ∧ 0 ≤ r_87.toInt ∧ r_87.toInt ≤ 255))) := he_88
            refine W.eq (g2 := F0 m 64 ls [.int r_87, .int x_82]) rfl ?_
            replace hP : va_P D classes [((Ta 0), .inr (10, [.ref (Ta 1), .int (Tv 0), .int (Tv 1), .int (Tv 2), .int (Tv 3), .int (Tv 4)])), ((Ta 1), .inl (tc 0, 400, .inl (Tf 1)))] H := hP₀
            replace hD : va_D A [((Ta 0), .inr (10, [.ref (Ta 1), .int (Tv 0), .int (Tv 1), .int (Tv 2), .int (Tv 3), .int (Tv 4)])), ((Ta 1), .inl (tc 0, 400, .inl (Tf 1)))] := hD₀
            replace hS := hS₀
            clear hP₀ hD₀ hS₀
            refine lv_iadd hx hb dX10_numberHere_64 ?_
            refine lv_topi (fun x_90 ex_90 => ?_)
            refine lv_bipush (v := 48) hx hb dX10_numberHere_65 (by decide) ?_
            refine lv_isub hx hb dX10_numberHere_67 ?_
            refine lv_topi (fun x_91 ex_91 => ?_)
            refine lv_istore_n (lv' := [(3, .int x_91), (4, .int vy_13), (0, .ref (Ta 0)), (1, .int x1), (2, .int x2)]) hx hb dX10_numberHere_68 rfl hl (by decide) rfl (fun ls hl₀ => ?_)
            replace hl := hl₀
            clear hl₀
            obtain ⟨x_92, ex_92⟩ : ∃ y : Int32, y = vy_13 + 1 := ⟨_, rfl⟩
            refine lv_iinc (v := x_92) (lv' := [(4, .int x_92), (3, .int x_91), (0, .ref (Ta 0)), (1, .int x1), (2, .int x2)]) hx hb dX10_numberHere_69 hl (k := 1) rfl (by rw [ex_92]; rfl) (by decide) rfl (fun ls hl₀ => ?_)
            replace hl := hl₀
            clear hl₀
            refine lv_goto (tgt := 45) hx hb dX10_numberHere_72 (by decide) ?_
            have hb_93 : 401 - (x_92 : Int32).toInt < 401 - (vy_13 : Int32).toInt ∧ 1 ≤ 401 - (vy_13 : Int32).toInt := by
              have z_1 : ¬ (r_5 : Int32).toInt = (0 : Int32).toInt := fun z => c_8 (Int32.toInt_inj.mp z)
              have z_2 := Int32.le_iff_toInt_le.mp c_10
              have z_3 := Int32.lt_iff_toInt_lt.mp (Int32.not_le.mp c_21)
              have y_0 : (0 : Int32).toInt = 0 := by decide
              have y_5 : (5 : Int32).toInt = 5 := by decide
              have y_1 : (1 : Int32).toInt = 1 := by decide
              have t_x_9 : x_9.toInt = ((Tv 2) : Int32).toInt - ((Tv 1) : Int32).toInt := by rw [ex_9]; exact sub_toInt (by omega) (by omega)
              have t_x_92 : x_92.toInt = (vy_13 : Int32).toInt + (1 : Int32).toInt := by rw [ex_92]; exact add_toInt (by omega) (by omega)
              omega
            have ha_94 : (Tv 1).toInt ≤ (x_92 : Int32).toInt ∧ (x_92 : Int32).toInt ≤ (Tv 2).toInt := by
              have z_1 : ¬ (r_5 : Int32).toInt = (0 : Int32).toInt := fun z => c_8 (Int32.toInt_inj.mp z)
              have z_2 := Int32.le_iff_toInt_le.mp c_10
              have z_3 := Int32.lt_iff_toInt_lt.mp (Int32.not_le.mp c_21)
              have y_0 : (0 : Int32).toInt = 0 := by decide
              have y_5 : (5 : Int32).toInt = 5 := by decide
              have y_1 : (1 : Int32).toInt = 1 := by decide
              have t_x_9 : x_9.toInt = ((Tv 2) : Int32).toInt - ((Tv 1) : Int32).toInt := by rw [ex_9]; exact sub_toInt (by omega) (by omega)
              have t_x_92 : x_92.toInt = (vy_13 : Int32).toInt + (1 : Int32).toInt := by rw [ex_92]; exact add_toInt (by omega) (by omega)
              omega
            have hr_96 : 48 ≤ (Tv 3).toInt ∧ (Tv 3).toInt ≤ 57 := by
              have z_1 : ¬ (r_5 : Int32).toInt = (0 : Int32).toInt := fun z => c_8 (Int32.toInt_inj.mp z)
              have z_2 := Int32.le_iff_toInt_le.mp c_10
              have z_3 := Int32.lt_iff_toInt_lt.mp (Int32.not_le.mp c_21)
              have y_0 : (0 : Int32).toInt = 0 := by decide
              have y_5 : (5 : Int32).toInt = 5 := by decide
              have t_x_9 : x_9.toInt = ((Tv 2) : Int32).toInt - ((Tv 1) : Int32).toInt := by rw [ex_9]; exact sub_toInt (by omega) (by omega)
              omega
            have hr_97 : (Tv 1).toInt ≤ (vy_13 : Int32).toInt ∧ (vy_13 : Int32).toInt < (Tv 2).toInt := by
              have z_1 : ¬ (r_5 : Int32).toInt = (0 : Int32).toInt := fun z => c_8 (Int32.toInt_inj.mp z)
              have z_2 := Int32.le_iff_toInt_le.mp c_10
              have z_3 := Int32.lt_iff_toInt_lt.mp (Int32.not_le.mp c_21)
              have y_0 : (0 : Int32).toInt = 0 := by decide
              have y_5 : (5 : Int32).toInt = 5 := by decide
              have t_x_9 : x_9.toInt = ((Tv 2) : Int32).toInt - ((Tv 1) : Int32).toInt := by rw [ex_9]; exact sub_toInt (by omega) (by omega)
              omega
            have hd_95 := TpR.dig h_r hr_96 (i := vy_13) hr_97
            rw [← he_88.1] at hd_95
            have hr_98 : 0 ≤ (Tv 1).toInt ∧ (Tv 1).toInt ≤ (vy_13 : Int32).toInt := by
              have z_1 : ¬ (r_5 : Int32).toInt = (0 : Int32).toInt := fun z => c_8 (Int32.toInt_inj.mp z)
              have z_2 := Int32.le_iff_toInt_le.mp c_10
              have z_3 := Int32.lt_iff_toInt_lt.mp (Int32.not_le.mp c_21)
              have y_0 : (0 : Int32).toInt = 0 := by decide
              have y_5 : (5 : Int32).toInt = 5 := by decide
              have t_x_9 : x_9.toInt = ((Tv 2) : Int32).toInt - ((Tv 1) : Int32).toInt := by rw [ex_9]; exact sub_toInt (by omega) (by omega)
              omega
            have hi_99 : (x_91 : Int32).toInt = (vy_14 : Int32).toInt * 10 + (r_87 : Int32).toInt - 48 := by
              have z_1 : ¬ (r_5 : Int32).toInt = (0 : Int32).toInt := fun z => c_8 (Int32.toInt_inj.mp z)
              have z_2 := Int32.le_iff_toInt_le.mp c_10
              have z_3 := Int32.lt_iff_toInt_lt.mp (Int32.not_le.mp c_21)
              have y_0 : (0 : Int32).toInt = 0 := by decide
              have y_5 : (5 : Int32).toInt = 5 := by decide
              have y_10 : (10 : Int32).toInt = 10 := by decide
              have y_48 : (48 : Int32).toInt = 48 := by decide
              have t_x_9 : x_9.toInt = ((Tv 2) : Int32).toInt - ((Tv 1) : Int32).toInt := by rw [ex_9]; exact sub_toInt (by omega) (by omega)
              have t_x_82 : x_82.toInt = (vy_14 : Int32).toInt * (10 : Int32).toInt := by rw [ex_82]; exact mul_toInt (by first | omega | (rw [y_10]; omega)) (by first | omega | (rw [y_10]; omega))
              rw [y_10] at t_x_82
              have t_x_90 : x_90.toInt = (x_82 : Int32).toInt + (r_87 : Int32).toInt := by rw [ex_90]; exact add_toInt (by omega) (by omega)
              have t_x_91 : x_91.toInt = (x_90 : Int32).toInt - (48 : Int32).toInt := by rw [ex_91]; exact sub_toInt (by omega) (by omega)
              omega
            have hi_100 : (x_92 : Int32).toInt = (vy_13 : Int32).toInt + 1 := by
              have z_1 : ¬ (r_5 : Int32).toInt = (0 : Int32).toInt := fun z => c_8 (Int32.toInt_inj.mp z)
              have z_2 := Int32.le_iff_toInt_le.mp c_10
              have z_3 := Int32.lt_iff_toInt_lt.mp (Int32.not_le.mp c_21)
              have y_0 : (0 : Int32).toInt = 0 := by decide
              have y_5 : (5 : Int32).toInt = 5 := by decide
              have y_1 : (1 : Int32).toInt = 1 := by decide
              have t_x_9 : x_9.toInt = ((Tv 2) : Int32).toInt - ((Tv 1) : Int32).toInt := by rw [ex_9]; exact sub_toInt (by omega) (by omega)
              have t_x_92 : x_92.toInt = (vy_13 : Int32).toInt + (1 : Int32).toInt := by rw [ex_92]; exact add_toInt (by omega) (by omega)
              omega
            exact ih_16 x_92 x_91 _ _ _ (by omega) ha_94 (Nv.st pf_19 hr_98 he_88.1 hd_95 hi_99 hi_100) (hP.sub [0, 1] rfl) (hD.sub [0, 1] rfl rfl) hS (lv_sub hl [0, 1, 2, 3, 4] rfl)
      have ha_101 : (Tv 1).toInt ≤ ((Tv 1) : Int32).toInt ∧ ((Tv 1) : Int32).toInt ≤ (Tv 2).toInt := by
        have z_1 : ¬ (r_5 : Int32).toInt = (0 : Int32).toInt := fun z => c_8 (Int32.toInt_inj.mp z)
        have z_2 := Int32.le_iff_toInt_le.mp c_10
        have y_0 : (0 : Int32).toInt = 0 := by decide
        have y_5 : (5 : Int32).toInt = 5 := by decide
        have t_x_9 : x_9.toInt = ((Tv 2) : Int32).toInt - ((Tv 1) : Int32).toInt := by rw [ex_9]; exact sub_toInt (by omega) (by omega)
        omega
      exact loop_17 _ (Tv 1) 0 _ _ _ (Nat.lt_succ_self _) ha_101 (Nv.nil) hP hD hS hl
    · skip
      refine lv_aload_n hx hb dX10_numberHere_30 rfl (lv_at hl 0 rfl) ?_
      refine lv_iconst (v := 1) hx hb dX10_numberHere_31 (by decide) ?_
      have ha_102 : 0 ≤ (1 : Int32).toInt ∧ (1 : Int32).toInt ≤ 4 := by
        have z_1 : ¬ (r_5 : Int32).toInt = (0 : Int32).toInt := fun z => c_8 (Int32.toInt_inj.mp z)
        have z_2 := Int32.lt_iff_toInt_lt.mp (Int32.not_le.mp c_10)
        have y_0 : (0 : Int32).toInt = 0 := by decide
        have y_5 : (5 : Int32).toInt = 5 := by decide
        have y_1 : (1 : Int32).toInt = 1 := by decide
        have t_x_9 : x_9.toInt = ((Tv 2) : Int32).toInt - ((Tv 1) : Int32).toInt := by rw [ex_9]; exact sub_toInt (by omega) (by omega)
        omega
      have ha_103 : (1 : Int32).toInt = (1 : Int) := by
        have z_1 : ¬ (r_5 : Int32).toInt = (0 : Int32).toInt := fun z => c_8 (Int32.toInt_inj.mp z)
        have z_2 := Int32.lt_iff_toInt_lt.mp (Int32.not_le.mp c_10)
        have y_0 : (0 : Int32).toInt = 0 := by decide
        have y_5 : (5 : Int32).toInt = 5 := by decide
        have y_1 : (1 : Int32).toInt = 1 := by decide
        have t_x_9 : x_9.toInt = ((Tv 2) : Int32).toInt - ((Tv 1) : Int32).toInt := by rw [ex_9]; exact sub_toInt (by omega) (by omega)
        omega
      refine cV (a := (Ta 0)) (As := [.int 1]) (rest := []) (wr := []) ⟨hx, hb, hml, hown, hts⟩ hK hX hA (cu_fX10_fail l D tc sk (Ta 0) (Ta 1) (Tv 0) (Tv 1) (Tv 2) (Tv 3) (Tv 4) (Tf 1) 1 rr 1 h_tape h_r ha_102 ha_103) k_557 k_571 k_555 k_556 k_96 pl_X10_fail ⟨Nat.le_of_ble_eq_true rfl, Nat.le_of_ble_eq_true rfl⟩ rfl rfl (va_recv hK hP (ci := 10) (q0 := 0) rfl rfl) hP hD hS [0, 1] [] rfl rfl rfl rfl rfl (by decide) rfl hl.1 rfl (Nat.le_of_ble_eq_true rfl) dX10_numberHere_32 ⟨Nat.le_of_ble_eq_true rfl, Nat.le_of_ble_eq_true rfl⟩ (fun v_104 u_105 H locs hv_106 hP₀ hD₀ hS₀ => ?_)
      obtain ⟨sv_107, sv_108⟩ := u_105
      obtain ⟨rfl, pf_109, pf_110⟩ := hv_106
      have pf_109 : 0 ≤ ((Tv 0) : Int32).toInt ∧ ((Tv 0) : Int32).toInt ≤ 400 ∧ 0 ≤ ((Tv 1) : Int32).toInt ∧ ((Tv 1) : Int32).toInt ≤ 400 ∧ 0 ≤ ((Tv 2) : Int32).toInt ∧ ((Tv 2) : Int32).toInt ≤ 400 := pf_109
      have pf_110 : TpR (Tf 1) (Tv 0) (rER (1 : Int) rr) (Tv 1) (Tv 2) sv_107 sv_108 := pf_110
      obtain ⟨ro_111, ero_111⟩ : ∃ z : Except Int (Nat × Nat), z = (rER (1 : Int) rr) := ⟨_, rfl⟩
      rw [← ero_111] at pf_110
      have tb_112 : TpB (rTE (cB (Tf 1) (Tv 0)) ro_111) (Tv 2) sv_108 := TpR.tb pf_110
      refine W.eq (g2 := F0 m 35 ls []) rfl ?_
      replace hP : va_P D classes [((Ta 0), .inr (10, [.ref (Ta 1), .int (Tv 0), .int (Tv 1), .int (Tv 2), .int sv_107, .int sv_108])), ((Ta 1), .inl (tc 0, 400, .inl (Tf 1)))] H := hP₀
      replace hD : va_D A [((Ta 0), .inr (10, [.ref (Ta 1), .int (Tv 0), .int (Tv 1), .int (Tv 2), .int sv_107, .int sv_108])), ((Ta 1), .inl (tc 0, 400, .inl (Tf 1)))] := hD₀
      replace hS := hS₀
      clear hP₀ hD₀ hS₀
      refine lv_iload_n hx hb dX10_numberHere_35 rfl (lv_at hl 1 rfl) ?_
      have hr_113 : 48 ≤ (Tv 3).toInt ∧ (Tv 3).toInt ≤ 57 := by
        have z_1 : ¬ (r_5 : Int32).toInt = (0 : Int32).toInt := fun z => c_8 (Int32.toInt_inj.mp z)
        have z_2 := Int32.lt_iff_toInt_lt.mp (Int32.not_le.mp c_10)
        have y_0 : (0 : Int32).toInt = 0 := by decide
        have y_5 : (5 : Int32).toInt = 5 := by decide
        have t_x_9 : x_9.toInt = ((Tv 2) : Int32).toInt - ((Tv 1) : Int32).toInt := by rw [ex_9]; exact sub_toInt (by omega) (by omega)
        omega
      have hr_114 : 5 < (Tv 2).toInt - (Tv 1).toInt := by
        have z_1 : ¬ (r_5 : Int32).toInt = (0 : Int32).toInt := fun z => c_8 (Int32.toInt_inj.mp z)
        have z_2 := Int32.lt_iff_toInt_lt.mp (Int32.not_le.mp c_10)
        have y_0 : (0 : Int32).toInt = 0 := by decide
        have y_5 : (5 : Int32).toInt = 5 := by decide
        have t_x_9 : x_9.toInt = ((Tv 2) : Int32).toInt - ((Tv 1) : Int32).toInt := by rw [ex_9]; exact sub_toInt (by omega) (by omega)
        omega
      have hf_115 : TpR (Tf 1) (Tv 0) (rNU (cB (Tf 1) (Tv 0)) lo hi rr) (Tv 1) (Tv 2) sv_107 sv_108 := by
        have hE_116 : (rNU (cB (Tf 1) (Tv 0)) lo hi rr) = ro_111 := by
          rw [ero_111]
          exact (rNU_long h_r hr_113 hr_114)
        rw [hE_116]
        exact pf_110
      have hr_117 : 48 ≤ (Tv 3).toInt ∧ (Tv 3).toInt ≤ 57 := by
        have z_1 : ¬ (r_5 : Int32).toInt = (0 : Int32).toInt := fun z => c_8 (Int32.toInt_inj.mp z)
        have z_2 := Int32.lt_iff_toInt_lt.mp (Int32.not_le.mp c_10)
        have y_0 : (0 : Int32).toInt = 0 := by decide
        have y_5 : (5 : Int32).toInt = 5 := by decide
        have t_x_9 : x_9.toInt = ((Tv 2) : Int32).toInt - ((Tv 1) : Int32).toInt := by rw [ex_9]; exact sub_toInt (by omega) (by omega)
        omega
      have hr_118 : 5 < (Tv 2).toInt - (Tv 1).toInt := by
        have z_1 : ¬ (r_5 : Int32).toInt = (0 : Int32).toInt := fun z => c_8 (Int32.toInt_inj.mp z)
        have z_2 := Int32.lt_iff_toInt_lt.mp (Int32.not_le.mp c_10)
        have y_0 : (0 : Int32).toInt = 0 := by decide
        have y_5 : (5 : Int32).toInt = 5 := by decide
        have t_x_9 : x_9.toInt = ((Tv 2) : Int32).toInt - ((Tv 1) : Int32).toInt := by rw [ex_9]; exact sub_toInt (by omega) (by omega)
        omega
      exact retI (v := x1) hx hb hr hlk (rfl) hP hD hS (sv_107, sv_108) ⟨_, rfl, (NuV.long h_r hr_117 hr_118), pf_109, hf_115⟩ [0, 1] rfl rfl dX10_numberHere_36 (Nat.le_of_ble_eq_true rfl) (Nat.le_of_ble_eq_true rfl) rfl
  · skip
    refine lv_aload_n hx hb dX10_numberHere_10 rfl (lv_at hl 0 rfl) ?_
    refine lv_iconst (v := 0) hx hb dX10_numberHere_11 (by decide) ?_
    have ha_119 : 0 ≤ (0 : Int32).toInt ∧ (0 : Int32).toInt ≤ 4 := by
      have z_1 := congrArg Int32.toInt c_8
      have y_0 : (0 : Int32).toInt = 0 := by decide
      omega
    have ha_120 : (0 : Int32).toInt = (0 : Int) := by
      have z_1 := congrArg Int32.toInt c_8
      have y_0 : (0 : Int32).toInt = 0 := by decide
      omega
    refine cV (a := (Ta 0)) (As := [.int 0]) (rest := []) (wr := []) ⟨hx, hb, hml, hown, hts⟩ hK hX hA (cu_fX10_fail l D tc sk (Ta 0) (Ta 1) (Tv 0) (Tv 1) (Tv 2) (Tv 3) (Tv 4) (Tf 1) 0 rr 0 h_tape h_r ha_119 ha_120) k_557 k_571 k_555 k_556 k_96 pl_X10_fail ⟨Nat.le_of_ble_eq_true rfl, Nat.le_of_ble_eq_true rfl⟩ rfl rfl (va_recv hK hP (ci := 10) (q0 := 0) rfl rfl) hP hD hS [0, 1] [] rfl rfl rfl rfl rfl (by decide) rfl hl.1 rfl (Nat.le_of_ble_eq_true rfl) dX10_numberHere_12 ⟨Nat.le_of_ble_eq_true rfl, Nat.le_of_ble_eq_true rfl⟩ (fun v_121 u_122 H locs hv_123 hP₀ hD₀ hS₀ => ?_)
    obtain ⟨sv_124, sv_125⟩ := u_122
    obtain ⟨rfl, pf_126, pf_127⟩ := hv_123
    have pf_126 : 0 ≤ ((Tv 0) : Int32).toInt ∧ ((Tv 0) : Int32).toInt ≤ 400 ∧ 0 ≤ ((Tv 1) : Int32).toInt ∧ ((Tv 1) : Int32).toInt ≤ 400 ∧ 0 ≤ ((Tv 2) : Int32).toInt ∧ ((Tv 2) : Int32).toInt ≤ 400 := pf_126
    have pf_127 : TpR (Tf 1) (Tv 0) (rER (0 : Int) rr) (Tv 1) (Tv 2) sv_124 sv_125 := pf_127
    obtain ⟨ro_128, ero_128⟩ : ∃ z : Except Int (Nat × Nat), z = (rER (0 : Int) rr) := ⟨_, rfl⟩
    rw [← ero_128] at pf_127
    have tb_129 : TpB (rTE (cB (Tf 1) (Tv 0)) ro_128) (Tv 2) sv_125 := TpR.tb pf_127
    refine W.eq (g2 := F0 m 15 ls []) rfl ?_
    replace hP : va_P D classes [((Ta 0), .inr (10, [.ref (Ta 1), .int (Tv 0), .int (Tv 1), .int (Tv 2), .int sv_124, .int sv_125])), ((Ta 1), .inl (tc 0, 400, .inl (Tf 1)))] H := hP₀
    replace hD : va_D A [((Ta 0), .inr (10, [.ref (Ta 1), .int (Tv 0), .int (Tv 1), .int (Tv 2), .int sv_124, .int sv_125])), ((Ta 1), .inl (tc 0, 400, .inl (Tf 1)))] := hD₀
    replace hS := hS₀
    clear hP₀ hD₀ hS₀
    refine lv_iload_n hx hb dX10_numberHere_15 rfl (lv_at hl 1 rfl) ?_
    have hr_130 : ¬ (48 ≤ (Tv 3).toInt ∧ (Tv 3).toInt ≤ 57) := by
      have z_1 := congrArg Int32.toInt c_8
      have y_0 : (0 : Int32).toInt = 0 := by decide
      omega
    have hf_131 : TpR (Tf 1) (Tv 0) (rNU (cB (Tf 1) (Tv 0)) lo hi rr) (Tv 1) (Tv 2) sv_124 sv_125 := by
      have hE_132 : (rNU (cB (Tf 1) (Tv 0)) lo hi rr) = ro_128 := by
        rw [ero_128]
        exact (rNU_nd h_r hr_130)
      rw [hE_132]
      exact pf_127
    have hr_133 : ¬ (48 ≤ (Tv 3).toInt ∧ (Tv 3).toInt ≤ 57) := by
      have z_1 := congrArg Int32.toInt c_8
      have y_0 : (0 : Int32).toInt = 0 := by decide
      omega
    exact retI (v := x1) hx hb hr hlk (rfl) hP hD hS (sv_124, sv_125) ⟨_, rfl, (NuV.nd h_r hr_133), pf_126, hf_131⟩ [0, 1] rfl rfl dX10_numberHere_16 (Nat.le_of_ble_eq_true rfl) (Nat.le_of_ble_eq_true rfl) rfl
set_option maxRecDepth 100000 in
theorem cu_fX10_numberHere (l : Launch) (D : va_G) (tc : Nat → ClassId) (sk : (Nat → Nat) × (Nat → Nat)) (Ta_0 : Nat) (Ta_1 : Nat) (Tv_0 : Int32) (Tv_1 : Int32) (Tv_2 : Int32) (Tv_3 : Int32) (Tv_4 : Int32) (Tf_1 : Nat → Int32) (x1 : Int32) (x2 : Int32) (rr : Except Int (Nat × Nat)) (lo : Int) (hi : Int) (h_tape : 0 ≤ (Tv_0 : Int32).toInt ∧ (Tv_0 : Int32).toInt ≤ 400 ∧ 0 ≤ (Tv_1 : Int32).toInt ∧ (Tv_1 : Int32).toInt ≤ 400 ∧ 0 ≤ (Tv_2 : Int32).toInt ∧ (Tv_2 : Int32).toInt ≤ 400) (h_by : Byt Tf_1) (h_r : TpR Tf_1 Tv_0 rr Tv_1 Tv_2 Tv_3 Tv_4) (h_lo : x1.toInt = lo) (h_hi : x2.toInt = hi) : Ct l yX10_numberHere cX10_numberHere 5 (some .int) { frames := 1, cells := 0, slots := 0, locals := 21 } D tc sk [.ref Ta_0, .int x1, .int x2] [(Ta_0, .inr (10, [.ref Ta_1, .int Tv_0, .int Tv_1, .int Tv_2, .int Tv_3, .int Tv_4])), (Ta_1, .inl (tc 0, 400, .inl Tf_1))] (fun (v : Option Value) (u : (Int32) × (Int32)) => match u with | (oo0x1, oo0x2) => ∃ r : Int32, v = some (.int r) ∧ (NuV (cB Tf_1 Tv_0) lo hi rr r) ∧ (0 ≤ (Tv_0 : Int32).toInt ∧ (Tv_0 : Int32).toInt ≤ 400 ∧ 0 ≤ (Tv_1 : Int32).toInt ∧ (Tv_1 : Int32).toInt ≤ 400 ∧ 0 ≤ (Tv_2 : Int32).toInt ∧ (Tv_2 : Int32).toInt ≤ 400) ∧ (TpR Tf_1 Tv_0 (rNU (cB Tf_1 Tv_0) lo hi rr) Tv_1 Tv_2 oo0x1 oo0x2)) (fun (u : (Int32) × (Int32)) => match u with | (oo0x1, oo0x2) => [(Ta_0, .inr (10, [.ref Ta_1, .int Tv_0, .int Tv_1, .int Tv_2, .int oo0x1, .int oo0x2])), (Ta_1, .inl (tc 0, 400, .inl Tf_1))]) 0 0 :=
  ct_fX10_numberHere l D tc sk (fun k => ([Ta_0, Ta_1] : List (Nat)).getD k 0) (fun k => ([Tv_0, Tv_1, Tv_2, Tv_3, Tv_4] : List (Int32)).getD k 0) (fun k => ([(fun _ => 0), Tf_1] : List (Nat → Int32)).getD k (fun _ => 0)) x1 x2 rr lo hi h_tape h_by h_r h_lo h_hi
set_option maxHeartbeats 4000000 in
set_option maxRecDepth 100000 in
theorem ct_fX10_takeNumber (l : Launch) (D : va_G) (tc : Nat → ClassId) (sk : (Nat → Nat) × (Nat → Nat)) (Ta : Nat → Nat) (Tv : Nat → Int32) (Tf : Nat → Nat → Int32) (x1 : Int32) (x2 : Int32) (rr : Except Int (Nat × Nat)) (lo : Int) (hi : Int) (h_tape : 0 ≤ ((Tv 0) : Int32).toInt ∧ ((Tv 0) : Int32).toInt ≤ 400 ∧ 0 ≤ ((Tv 1) : Int32).toInt ∧ ((Tv 1) : Int32).toInt ≤ 400 ∧ 0 ≤ ((Tv 2) : Int32).toInt ∧ ((Tv 2) : Int32).toInt ≤ 400) (h_by : Byt (Tf 1)) (h_r : TpR (Tf 1) (Tv 0) rr (Tv 1) (Tv 2) (Tv 3) (Tv 4)) (h_lo : x1.toInt = lo) (h_hi : x2.toInt = hi) : Ct l yX10_takeNumber cX10_takeNumber 4 (some .int) { frames := 2, cells := 0, slots := 0, locals := 45 } D tc sk [.ref (Ta 0), .int x1, .int x2] [((Ta 0), .inr (10, [.ref (Ta 1), .int (Tv 0), .int (Tv 1), .int (Tv 2), .int (Tv 3), .int (Tv 4)])), ((Ta 1), .inl (tc 0, 400, .inl (Tf 1)))] (fun (v : Option Value) (u : (Int32) × (Int32) × (Int32) × (Int32)) => match u with | (oo0x1, oo0x2, oo0x3, oo0x4) => ∃ r : Int32, v = some (.int r) ∧ (NuV (cB (Tf 1) (Tv 0)) lo hi rr r) ∧ (0 ≤ ((Tv 0) : Int32).toInt ∧ ((Tv 0) : Int32).toInt ≤ 400 ∧ 0 ≤ (oo0x1 : Int32).toInt ∧ (oo0x1 : Int32).toInt ≤ 400 ∧ 0 ≤ (oo0x2 : Int32).toInt ∧ (oo0x2 : Int32).toInt ≤ 400) ∧ (TpR (Tf 1) (Tv 0) (rNX (cB (Tf 1) (Tv 0)) (rNU (cB (Tf 1) (Tv 0)) lo hi rr)) oo0x1 oo0x2 oo0x3 oo0x4)) (fun (u : (Int32) × (Int32) × (Int32) × (Int32)) => match u with | (oo0x1, oo0x2, oo0x3, oo0x4) => [((Ta 0), .inr (10, [.ref (Ta 1), .int (Tv 0), .int oo0x1, .int oo0x2, .int oo0x3, .int oo0x4])), ((Ta 1), .inl (tc 0, 400, .inl (Tf 1)))]) 0 0 := by
  refine Ct.start (by decide) (Nat.le_of_ble_eq_true rfl) (fun p e s m below meth c A ls hx hb hr hlk hin hml hown hts hK hX hP hD hA hl hS => ?_)
  have hl : lv_has ls 4 [(0, .ref (Ta 0)), (1, .int x1), (2, .int x2)] := hl
  have tb_1 : TpB (rTE (cB (Tf 1) (Tv 0)) rr) (Tv 2) (Tv 4) := TpR.tb h_r
  refine lv_aload_n hx hb dX10_takeNumber_0 rfl (lv_at hl 0 rfl) ?_
  refine lv_iload_n hx hb dX10_takeNumber_1 rfl (lv_at hl 1 rfl) ?_
  refine lv_iload_n hx hb dX10_takeNumber_2 rfl (lv_at hl 2 rfl) ?_
  refine cV (a := (Ta 0)) (As := [.int x1, .int x2]) (rest := []) (wr := []) ⟨hx, hb, hml, hown, hts⟩ hK hX hA (cu_fX10_numberHere l D tc sk (Ta 0) (Ta 1) (Tv 0) (Tv 1) (Tv 2) (Tv 3) (Tv 4) (Tf 1) x1 x2 rr lo hi h_tape h_by h_r h_lo h_hi) k_570 k_567 k_568 k_569 k_96 pl_X10_numberHere ⟨Nat.le_of_ble_eq_true rfl, Nat.le_of_ble_eq_true rfl⟩ rfl rfl (va_recv hK hP (ci := 10) (q0 := 0) rfl rfl) hP hD hS [0, 1] [] rfl rfl rfl rfl rfl (by decide) rfl hl.1 rfl (Nat.le_of_ble_eq_true rfl) dX10_takeNumber_3 ⟨Nat.le_of_ble_eq_true rfl, Nat.le_of_ble_eq_true rfl⟩ (fun v_2 u_3 H locs hv_4 hP₀ hD₀ hS₀ => ?_)
  obtain ⟨sv_5, sv_6⟩ := u_3
  obtain ⟨r_9, rfl, he_10, pf_7, pf_8⟩ := hv_4
  have he_10 : NuV (cB (Tf 1) (Tv 0)) lo hi rr r_9 := he_10
  have pf_7 : 0 ≤ ((Tv 0) : Int32).toInt ∧ ((Tv 0) : Int32).toInt ≤ 400 ∧ 0 ≤ ((Tv 1) : Int32).toInt ∧ ((Tv 1) : Int32).toInt ≤ 400 ∧ 0 ≤ ((Tv 2) : Int32).toInt ∧ ((Tv 2) : Int32).toInt ≤ 400 := pf_7
  have pf_8 : TpR (Tf 1) (Tv 0) (rNU (cB (Tf 1) (Tv 0)) lo hi rr) (Tv 1) (Tv 2) sv_5 sv_6 := pf_8
  obtain ⟨ro_12, ero_12⟩ : ∃ z : Except Int (Nat × Nat), z = (rNU (cB (Tf 1) (Tv 0)) lo hi rr) := ⟨_, rfl⟩
  rw [← ero_12] at pf_8
  have tb_13 : TpB (rTE (cB (Tf 1) (Tv 0)) ro_12) (Tv 2) sv_6 := TpR.tb pf_8
  refine W.eq (g2 := F0 m 6 ls [.int r_9]) rfl ?_
  replace hP : va_P D classes [((Ta 0), .inr (10, [.ref (Ta 1), .int (Tv 0), .int (Tv 1), .int (Tv 2), .int sv_5, .int sv_6])), ((Ta 1), .inl (tc 0, 400, .inl (Tf 1)))] H := hP₀
  replace hD : va_D A [((Ta 0), .inr (10, [.ref (Ta 1), .int (Tv 0), .int (Tv 1), .int (Tv 2), .int sv_5, .int sv_6])), ((Ta 1), .inl (tc 0, 400, .inl (Tf 1)))] := hD₀
  replace hS := hS₀
  clear hP₀ hD₀ hS₀
  refine lv_istore_n (lv' := [(3, .int r_9), (0, .ref (Ta 0)), (1, .int x1), (2, .int x2)]) hx hb dX10_takeNumber_6 rfl hl (by decide) rfl (fun ls hl₀ => ?_)
  replace hl := hl₀
  clear hl₀
  refine lv_aload_n hx hb dX10_takeNumber_7 rfl (lv_at hl 1 rfl) ?_
  refine cV (a := (Ta 0)) (As := []) (rest := []) (wr := []) ⟨hx, hb, hml, hown, hts⟩ hK hX hA (cu_fX10_step l D tc sk (Ta 0) (Ta 1) (Tv 0) (Tv 1) (Tv 2) sv_5 sv_6 (Tf 1) (rTE (cB (Tf 1) (Tv 0)) ro_12) pf_7 h_by tb_13) k_478 k_475 k_476 k_477 k_96 pl_X10_step ⟨Nat.le_of_ble_eq_true rfl, Nat.le_of_ble_eq_true rfl⟩ rfl rfl (va_recv hK hP (ci := 10) (q0 := 0) rfl rfl) hP hD hS [0, 1] [] rfl rfl rfl rfl rfl (by decide) rfl hl.1 rfl (Nat.le_of_ble_eq_true rfl) dX10_takeNumber_8 ⟨Nat.le_of_ble_eq_true rfl, Nat.le_of_ble_eq_true rfl⟩ (fun v_14 u_15 H locs hv_16 hP₀ hD₀ hS₀ => ?_)
  obtain ⟨sv_17, sv_18, sv_19⟩ := u_15
  obtain ⟨rfl, pf_20, pf_21⟩ := hv_16
  have pf_20 : 0 ≤ ((Tv 0) : Int32).toInt ∧ ((Tv 0) : Int32).toInt ≤ 400 ∧ 0 ≤ (sv_17 : Int32).toInt ∧ (sv_17 : Int32).toInt ≤ 400 ∧ 0 ≤ (sv_18 : Int32).toInt ∧ (sv_18 : Int32).toInt ≤ 400 := pf_20
  have pf_21 : TpR (Tf 1) (Tv 0) (rSK (cB (Tf 1) (Tv 0)) (rTE (cB (Tf 1) (Tv 0)) ro_12)) sv_17 sv_18 sv_19 sv_6 := pf_21
  rw [rNX_eq] at pf_21
  obtain ⟨ro_22, ero_22⟩ : ∃ z : Except Int (Nat × Nat), z = (rNX (cB (Tf 1) (Tv 0)) ro_12) := ⟨_, rfl⟩
  rw [← ero_22] at pf_21
  have tb_23 : TpB (rTE (cB (Tf 1) (Tv 0)) ro_22) sv_18 sv_6 := TpR.tb pf_21
  refine W.eq (g2 := F0 m 11 ls []) rfl ?_
  replace hP : va_P D classes [((Ta 0), .inr (10, [.ref (Ta 1), .int (Tv 0), .int sv_17, .int sv_18, .int sv_19, .int sv_6])), ((Ta 1), .inl (tc 0, 400, .inl (Tf 1)))] H := hP₀
  replace hD : va_D A [((Ta 0), .inr (10, [.ref (Ta 1), .int (Tv 0), .int sv_17, .int sv_18, .int sv_19, .int sv_6])), ((Ta 1), .inl (tc 0, 400, .inl (Tf 1)))] := hD₀
  replace hS := hS₀
  clear hP₀ hD₀ hS₀
  refine lv_iload_n hx hb dX10_takeNumber_11 rfl (lv_at hl 0 rfl) ?_
  have hf_24 : TpR (Tf 1) (Tv 0) (rNX (cB (Tf 1) (Tv 0)) (rNU (cB (Tf 1) (Tv 0)) lo hi rr)) sv_17 sv_18 sv_19 sv_6 := by
    have hE_25 : (rNX (cB (Tf 1) (Tv 0)) (rNU (cB (Tf 1) (Tv 0)) lo hi rr)) = ro_22 := by
      rw [ero_22, ero_12]
    rw [hE_25]
    exact pf_21
  exact retI (v := r_9) hx hb hr hlk (rfl) hP hD hS (sv_17, sv_18, sv_19, sv_6) ⟨_, rfl, he_10, pf_20, hf_24⟩ [0, 1] rfl rfl dX10_takeNumber_12 (Nat.le_of_ble_eq_true rfl) (Nat.le_of_ble_eq_true rfl) rfl
set_option maxRecDepth 100000 in
theorem cu_fX10_takeNumber (l : Launch) (D : va_G) (tc : Nat → ClassId) (sk : (Nat → Nat) × (Nat → Nat)) (Ta_0 : Nat) (Ta_1 : Nat) (Tv_0 : Int32) (Tv_1 : Int32) (Tv_2 : Int32) (Tv_3 : Int32) (Tv_4 : Int32) (Tf_1 : Nat → Int32) (x1 : Int32) (x2 : Int32) (rr : Except Int (Nat × Nat)) (lo : Int) (hi : Int) (h_tape : 0 ≤ (Tv_0 : Int32).toInt ∧ (Tv_0 : Int32).toInt ≤ 400 ∧ 0 ≤ (Tv_1 : Int32).toInt ∧ (Tv_1 : Int32).toInt ≤ 400 ∧ 0 ≤ (Tv_2 : Int32).toInt ∧ (Tv_2 : Int32).toInt ≤ 400) (h_by : Byt Tf_1) (h_r : TpR Tf_1 Tv_0 rr Tv_1 Tv_2 Tv_3 Tv_4) (h_lo : x1.toInt = lo) (h_hi : x2.toInt = hi) : Ct l yX10_takeNumber cX10_takeNumber 4 (some .int) { frames := 2, cells := 0, slots := 0, locals := 45 } D tc sk [.ref Ta_0, .int x1, .int x2] [(Ta_0, .inr (10, [.ref Ta_1, .int Tv_0, .int Tv_1, .int Tv_2, .int Tv_3, .int Tv_4])), (Ta_1, .inl (tc 0, 400, .inl Tf_1))] (fun (v : Option Value) (u : (Int32) × (Int32) × (Int32) × (Int32)) => match u with | (oo0x1, oo0x2, oo0x3, oo0x4) => ∃ r : Int32, v = some (.int r) ∧ (NuV (cB Tf_1 Tv_0) lo hi rr r) ∧ (0 ≤ (Tv_0 : Int32).toInt ∧ (Tv_0 : Int32).toInt ≤ 400 ∧ 0 ≤ (oo0x1 : Int32).toInt ∧ (oo0x1 : Int32).toInt ≤ 400 ∧ 0 ≤ (oo0x2 : Int32).toInt ∧ (oo0x2 : Int32).toInt ≤ 400) ∧ (TpR Tf_1 Tv_0 (rNX (cB Tf_1 Tv_0) (rNU (cB Tf_1 Tv_0) lo hi rr)) oo0x1 oo0x2 oo0x3 oo0x4)) (fun (u : (Int32) × (Int32) × (Int32) × (Int32)) => match u with | (oo0x1, oo0x2, oo0x3, oo0x4) => [(Ta_0, .inr (10, [.ref Ta_1, .int Tv_0, .int oo0x1, .int oo0x2, .int oo0x3, .int oo0x4])), (Ta_1, .inl (tc 0, 400, .inl Tf_1))]) 0 0 :=
  ct_fX10_takeNumber l D tc sk (fun k => ([Ta_0, Ta_1] : List (Nat)).getD k 0) (fun k => ([Tv_0, Tv_1, Tv_2, Tv_3, Tv_4] : List (Int32)).getD k 0) (fun k => ([(fun _ => 0), Tf_1] : List (Nat → Int32)).getD k (fun _ => 0)) x1 x2 rr lo hi h_tape h_by h_r h_lo h_hi
set_option maxHeartbeats 4000000 in
set_option maxRecDepth 100000 in
theorem ct_fX7_countOne (l : Launch) (D : va_G) (tc : Nat → ClassId) (sk : (Nat → Nat) × (Nat → Nat)) (Va : Nat → Nat) (Vv : Nat → Int32) (Vf : Nat → Nat → Int32) (Ta : Nat → Nat) (Tv : Nat → Int32) (Tf : Nat → Nat → Int32) (rr : Except Int (Nat × Nat)) (h_tape : 0 ≤ ((Tv 0) : Int32).toInt ∧ ((Tv 0) : Int32).toInt ≤ 400 ∧ 0 ≤ ((Tv 1) : Int32).toInt ∧ ((Tv 1) : Int32).toInt ≤ 400 ∧ 0 ≤ ((Tv 2) : Int32).toInt ∧ ((Tv 2) : Int32).toInt ≤ 400) (h_u : 0 ≤ ((Vv 0) : Int32).toInt ∧ ((Vv 0) : Int32).toInt ≤ 400) (h_by : Byt (Tf 1)) (h_r : TpR (Tf 1) (Tv 0) rr (Tv 1) (Tv 2) (Tv 3) (Tv 4)) (h_ct : Ctd rr (Vv 1)) : Ct l yX7_countOne cX7_countOne 2 none { frames := 1, cells := 0, slots := 0, locals := 21 } D tc sk [.ref (Va 0), .ref (Ta 0)] [((Va 0), .inr (7, [.ref (Va 1), .int (Vv 0), .int (Vv 1)])), ((Va 1), .inl (tc 0, 400, .inl (Vf 1))), ((Ta 0), .inr (10, [.ref (Ta 1), .int (Tv 0), .int (Tv 1), .int (Tv 2), .int (Tv 3), .int (Tv 4)])), ((Ta 1), .inl (tc 0, 400, .inl (Tf 1)))] (fun (v : Option Value) (u : (Int32) × (Int32) × (Int32)) => match u with | (oo0x1, oo0x2, oo0x3) => v = none ∧ (0 ≤ ((Tv 0) : Int32).toInt ∧ ((Tv 0) : Int32).toInt ≤ 400 ∧ 0 ≤ ((Tv 1) : Int32).toInt ∧ ((Tv 1) : Int32).toInt ≤ 400 ∧ 0 ≤ ((Tv 2) : Int32).toInt ∧ ((Tv 2) : Int32).toInt ≤ 400) ∧ (0 ≤ ((Vv 0) : Int32).toInt ∧ ((Vv 0) : Int32).toInt ≤ 400) ∧ (TpR (Tf 1) (Tv 0) (rC1 rr) (Tv 1) (Tv 2) oo0x2 oo0x3) ∧ (Ctd (rC1 rr) oo0x1)) (fun (u : (Int32) × (Int32) × (Int32)) => match u with | (oo0x1, oo0x2, oo0x3) => [((Va 0), .inr (7, [.ref (Va 1), .int (Vv 0), .int oo0x1])), ((Va 1), .inl (tc 0, 400, .inl (Vf 1))), ((Ta 0), .inr (10, [.ref (Ta 1), .int (Tv 0), .int (Tv 1), .int (Tv 2), .int oo0x2, .int oo0x3])), ((Ta 1), .inl (tc 0, 400, .inl (Tf 1)))]) 0 0 := by
  refine Ct.start (by decide) (Nat.le_of_ble_eq_true rfl) (fun p e s m below meth c A ls hx hb hr hlk hin hml hown hts hK hX hP hD hA hl hS => ?_)
  have hl : lv_has ls 2 [(0, .ref (Va 0)), (1, .ref (Ta 0))] := hl
  have tb_1 : TpB (rTE (cB (Tf 1) (Tv 0)) rr) (Tv 2) (Tv 4) := TpR.tb h_r
  refine lv_aload_n hx hb dX7_countOne_0 rfl (lv_at hl 0 rfl) ?_
  refine gf_X7_19 hx hb hts hown hK hP 0 rfl rfl dX7_countOne_1 ?_
  refine lv_bipush (v := 60) hx hb dX7_countOne_4 (by decide) ?_
  refine lv_icmp_lt (tgt := 14) hx hb dX7_countOne_6 (by decide) (fun c_2 => ?_) (fun c_2 => ?_)
  · skip
    refine lv_aload_n hx hb dX7_countOne_14 rfl (lv_at hl 0 rfl) ?_
    refine lv_dup hx hb dX7_countOne_15 rfl ?_
    refine gf_X7_19 hx hb hts hown hK hP 0 rfl rfl dX7_countOne_16 ?_
    refine lv_iconst (v := 1) hx hb dX7_countOne_19 (by decide) ?_
    refine lv_iadd hx hb dX7_countOne_20 ?_
    refine lv_topi (fun x_3 ex_3 => ?_)
    refine pf_X7_19 hx hb hts hown hK hP hD hS 0 rfl (Nat.le_of_ble_eq_true rfl) rfl rfl dX7_countOne_21 (fun H locs hP₀ hD₀ hS₀ => ?_)
    replace hP : va_P D classes [((Va 0), .inr (7, [.ref (Va 1), .int (Vv 0), .int x_3])), ((Va 1), .inl (tc 0, 400, .inl (Vf 1))), ((Ta 0), .inr (10, [.ref (Ta 1), .int (Tv 0), .int (Tv 1), .int (Tv 2), .int (Tv 3), .int (Tv 4)])), ((Ta 1), .inl (tc 0, 400, .inl (Tf 1)))] H := hP₀
    replace hD : va_D A [((Va 0), .inr (7, [.ref (Va 1), .int (Vv 0), .int x_3])), ((Va 1), .inl (tc 0, 400, .inl (Vf 1))), ((Ta 0), .inr (10, [.ref (Ta 1), .int (Tv 0), .int (Tv 1), .int (Tv 2), .int (Tv 3), .int (Tv 4)])), ((Ta 1), .inl (tc 0, 400, .inl (Tf 1)))] := hD₀
    replace hS := hS₀
    clear hP₀ hD₀ hS₀
    have hr_4 : (Vv 1).toInt < 60 := by
      have z_1 := Int32.lt_iff_toInt_lt.mp c_2
      have y_60 : (60 : Int32).toInt = 60 := by decide
      omega
    have hc_5 : (Vv 1).toInt < 60 → (x_3 : Int32).toInt = (Vv 1).toInt + 1 := by
      intro z
      have y_1 : (1 : Int32).toInt = 1 := by decide
      have yl := (Vv 1).le_toInt
      rw [ex_3, add_toInt (by omega) (by omega)]
      omega
    exact retV hx hb hr hlk hP hD hS (x_3, (Tv 3), (Tv 4)) ⟨rfl, h_tape, h_u, (TpR.c1 h_r h_ct hr_4), (Ctd.c1 h_ct hc_5)⟩ [0, 1, 2, 3] rfl rfl dX7_countOne_24 (Nat.le_of_ble_eq_true rfl) (Nat.le_of_ble_eq_true rfl) rfl
  · skip
    refine lv_aload_n hx hb dX7_countOne_9 rfl (lv_at hl 1 rfl) ?_
    refine lv_iconst (v := 3) hx hb dX7_countOne_10 (by decide) ?_
    have ha_6 : 0 ≤ (3 : Int32).toInt ∧ (3 : Int32).toInt ≤ 4 := by
      have z_1 := Int32.le_iff_toInt_le.mp (Int32.not_lt.mp c_2)
      have y_60 : (60 : Int32).toInt = 60 := by decide
      have y_3 : (3 : Int32).toInt = 3 := by decide
      omega
    have ha_7 : (3 : Int32).toInt = (3 : Int) := by
      have z_1 := Int32.le_iff_toInt_le.mp (Int32.not_lt.mp c_2)
      have y_60 : (60 : Int32).toInt = 60 := by decide
      have y_3 : (3 : Int32).toInt = 3 := by decide
      omega
    refine cV (a := (Ta 0)) (As := [.int 3]) (rest := []) (wr := [((Va 0), .inr (7, [.ref (Va 1), .int (Vv 0), .int (Vv 1)])), ((Va 1), .inl (tc 0, 400, .inl (Vf 1)))]) ⟨hx, hb, hml, hown, hts⟩ hK hX hA (cu_fX10_fail l D tc sk (Ta 0) (Ta 1) (Tv 0) (Tv 1) (Tv 2) (Tv 3) (Tv 4) (Tf 1) 3 rr 3 h_tape h_r ha_6 ha_7) k_557 k_619 k_555 k_556 k_96 pl_X10_fail ⟨Nat.le_of_ble_eq_true rfl, Nat.le_of_ble_eq_true rfl⟩ rfl rfl (va_recv hK hP (ci := 10) (q0 := 2) rfl rfl) hP hD hS [2, 3] [0, 1] rfl rfl rfl rfl rfl (by decide) rfl hl.1 rfl (Nat.le_of_ble_eq_true rfl) dX7_countOne_11 ⟨Nat.le_of_ble_eq_true rfl, Nat.le_of_ble_eq_true rfl⟩ (fun v_8 u_9 H locs hv_10 hP₀ hD₀ hS₀ => ?_)
    obtain ⟨sv_11, sv_12⟩ := u_9
    obtain ⟨rfl, pf_13, pf_14⟩ := hv_10
    have pf_13 : 0 ≤ ((Tv 0) : Int32).toInt ∧ ((Tv 0) : Int32).toInt ≤ 400 ∧ 0 ≤ ((Tv 1) : Int32).toInt ∧ ((Tv 1) : Int32).toInt ≤ 400 ∧ 0 ≤ ((Tv 2) : Int32).toInt ∧ ((Tv 2) : Int32).toInt ≤ 400 := pf_13
    have pf_14 : TpR (Tf 1) (Tv 0) (rER (3 : Int) rr) (Tv 1) (Tv 2) sv_11 sv_12 := pf_14
    obtain ⟨ro_15, ero_15⟩ : ∃ z : Except Int (Nat × Nat), z = (rER 3 rr) := ⟨_, rfl⟩
    rw [← ero_15] at pf_14
    have tb_16 : TpB (rTE (cB (Tf 1) (Tv 0)) ro_15) (Tv 2) sv_12 := TpR.tb pf_14
    have cd_17 : Ctd ro_15 (Vv 1) := by rw [ero_15]; exact (Ctd.er)
    refine W.eq (g2 := F0 m 14 ls []) rfl ?_
    replace hP : va_P D classes [((Va 0), .inr (7, [.ref (Va 1), .int (Vv 0), .int (Vv 1)])), ((Va 1), .inl (tc 0, 400, .inl (Vf 1))), ((Ta 0), .inr (10, [.ref (Ta 1), .int (Tv 0), .int (Tv 1), .int (Tv 2), .int sv_11, .int sv_12])), ((Ta 1), .inl (tc 0, 400, .inl (Tf 1)))] H := hP₀
    replace hD : va_D A [((Va 0), .inr (7, [.ref (Va 1), .int (Vv 0), .int (Vv 1)])), ((Va 1), .inl (tc 0, 400, .inl (Vf 1))), ((Ta 0), .inr (10, [.ref (Ta 1), .int (Tv 0), .int (Tv 1), .int (Tv 2), .int sv_11, .int sv_12])), ((Ta 1), .inl (tc 0, 400, .inl (Tf 1)))] := hD₀
    replace hS := hS₀
    clear hP₀ hD₀ hS₀
    refine lv_aload_n hx hb dX7_countOne_14 rfl (lv_at hl 0 rfl) ?_
    refine lv_dup hx hb dX7_countOne_15 rfl ?_
    refine gf_X7_19 hx hb hts hown hK hP 0 rfl rfl dX7_countOne_16 ?_
    refine lv_iconst (v := 1) hx hb dX7_countOne_19 (by decide) ?_
    refine lv_iadd hx hb dX7_countOne_20 ?_
    refine lv_topi (fun x_18 ex_18 => ?_)
    refine pf_X7_19 hx hb hts hown hK hP hD hS 0 rfl (Nat.le_of_ble_eq_true rfl) rfl rfl dX7_countOne_21 (fun H locs hP₀ hD₀ hS₀ => ?_)
    replace hP : va_P D classes [((Va 0), .inr (7, [.ref (Va 1), .int (Vv 0), .int x_18])), ((Va 1), .inl (tc 0, 400, .inl (Vf 1))), ((Ta 0), .inr (10, [.ref (Ta 1), .int (Tv 0), .int (Tv 1), .int (Tv 2), .int sv_11, .int sv_12])), ((Ta 1), .inl (tc 0, 400, .inl (Tf 1)))] H := hP₀
    replace hD : va_D A [((Va 0), .inr (7, [.ref (Va 1), .int (Vv 0), .int x_18])), ((Va 1), .inl (tc 0, 400, .inl (Vf 1))), ((Ta 0), .inr (10, [.ref (Ta 1), .int (Tv 0), .int (Tv 1), .int (Tv 2), .int sv_11, .int sv_12])), ((Ta 1), .inl (tc 0, 400, .inl (Tf 1)))] := hD₀
    replace hS := hS₀
    clear hP₀ hD₀ hS₀
    have hr_19 : 60 ≤ (Vv 1).toInt := by
      have z_1 := Int32.le_iff_toInt_le.mp (Int32.not_lt.mp c_2)
      have y_60 : (60 : Int32).toInt = 60 := by decide
      omega
    have hf_20 : TpR (Tf 1) (Tv 0) (rC1 rr) (Tv 1) (Tv 2) sv_11 sv_12 := by
      have hE_21 : (rC1 rr) = ro_15 := by
        rw [ero_15]
        exact (rC1_hi h_ct hr_19)
      rw [hE_21]
      exact pf_14
    have hc_22 : (Vv 1).toInt < 60 → (x_18 : Int32).toInt = (Vv 1).toInt + 1 := by
      intro z
      have y_1 : (1 : Int32).toInt = 1 := by decide
      have yl := (Vv 1).le_toInt
      rw [ex_18, add_toInt (by omega) (by omega)]
      omega
    exact retV hx hb hr hlk hP hD hS (x_18, sv_11, sv_12) ⟨rfl, pf_13, h_u, hf_20, (Ctd.c1 h_ct hc_22)⟩ [0, 1, 2, 3] rfl rfl dX7_countOne_24 (Nat.le_of_ble_eq_true rfl) (Nat.le_of_ble_eq_true rfl) rfl
set_option maxRecDepth 100000 in
theorem cu_fX7_countOne (l : Launch) (D : va_G) (tc : Nat → ClassId) (sk : (Nat → Nat) × (Nat → Nat)) (Va_0 : Nat) (Va_1 : Nat) (Vv_0 : Int32) (Vv_1 : Int32) (Vf_1 : Nat → Int32) (Ta_0 : Nat) (Ta_1 : Nat) (Tv_0 : Int32) (Tv_1 : Int32) (Tv_2 : Int32) (Tv_3 : Int32) (Tv_4 : Int32) (Tf_1 : Nat → Int32) (rr : Except Int (Nat × Nat)) (h_tape : 0 ≤ (Tv_0 : Int32).toInt ∧ (Tv_0 : Int32).toInt ≤ 400 ∧ 0 ≤ (Tv_1 : Int32).toInt ∧ (Tv_1 : Int32).toInt ≤ 400 ∧ 0 ≤ (Tv_2 : Int32).toInt ∧ (Tv_2 : Int32).toInt ≤ 400) (h_u : 0 ≤ (Vv_0 : Int32).toInt ∧ (Vv_0 : Int32).toInt ≤ 400) (h_by : Byt Tf_1) (h_r : TpR Tf_1 Tv_0 rr Tv_1 Tv_2 Tv_3 Tv_4) (h_ct : Ctd rr Vv_1) : Ct l yX7_countOne cX7_countOne 2 none { frames := 1, cells := 0, slots := 0, locals := 21 } D tc sk [.ref Va_0, .ref Ta_0] [(Va_0, .inr (7, [.ref Va_1, .int Vv_0, .int Vv_1])), (Va_1, .inl (tc 0, 400, .inl Vf_1)), (Ta_0, .inr (10, [.ref Ta_1, .int Tv_0, .int Tv_1, .int Tv_2, .int Tv_3, .int Tv_4])), (Ta_1, .inl (tc 0, 400, .inl Tf_1))] (fun (v : Option Value) (u : (Int32) × (Int32) × (Int32)) => match u with | (oo0x1, oo0x2, oo0x3) => v = none ∧ (0 ≤ (Tv_0 : Int32).toInt ∧ (Tv_0 : Int32).toInt ≤ 400 ∧ 0 ≤ (Tv_1 : Int32).toInt ∧ (Tv_1 : Int32).toInt ≤ 400 ∧ 0 ≤ (Tv_2 : Int32).toInt ∧ (Tv_2 : Int32).toInt ≤ 400) ∧ (0 ≤ (Vv_0 : Int32).toInt ∧ (Vv_0 : Int32).toInt ≤ 400) ∧ (TpR Tf_1 Tv_0 (rC1 rr) Tv_1 Tv_2 oo0x2 oo0x3) ∧ (Ctd (rC1 rr) oo0x1)) (fun (u : (Int32) × (Int32) × (Int32)) => match u with | (oo0x1, oo0x2, oo0x3) => [(Va_0, .inr (7, [.ref Va_1, .int Vv_0, .int oo0x1])), (Va_1, .inl (tc 0, 400, .inl Vf_1)), (Ta_0, .inr (10, [.ref Ta_1, .int Tv_0, .int Tv_1, .int Tv_2, .int oo0x2, .int oo0x3])), (Ta_1, .inl (tc 0, 400, .inl Tf_1))]) 0 0 :=
  ct_fX7_countOne l D tc sk (fun k => ([Va_0, Va_1] : List (Nat)).getD k 0) (fun k => ([Vv_0, Vv_1] : List (Int32)).getD k 0) (fun k => ([(fun _ => 0), Vf_1] : List (Nat → Int32)).getD k (fun _ => 0)) (fun k => ([Ta_0, Ta_1] : List (Nat)).getD k 0) (fun k => ([Tv_0, Tv_1, Tv_2, Tv_3, Tv_4] : List (Int32)).getD k 0) (fun k => ([(fun _ => 0), Tf_1] : List (Nat → Int32)).getD k (fun _ => 0)) rr h_tape h_u h_by h_r h_ct
theorem bz_rg (v : Int32) (n : Nat) : 0 ≤ bz v n ∧ bz v n ≤ 255 := by
  unfold bz; rw [and255]; omega
theorem bz_c {v x y : Int32} {n : Nat} (e1 : x = (v.toUInt32 >>> ((nI n).toUInt32 &&& Int32.toUInt32 31)).toInt32) (e2 : y = x &&& 255) : y.toInt % 256 = bz v n ∧ 0 ≤ y.toInt ∧ y.toInt ≤ 255 := by
  have h := bz_rg v n
  have e : y.toInt = bz v n := by rw [e2, e1]; rfl
  omega
theorem Byt.up {f g : Nat → Int32} {i x : Int32} (h : Byt f) (e : g = upd f i.toNatClampNeg x) (hx : 0 ≤ x.toInt ∧ x.toInt ≤ 255) : Byt g := fun k => by
  by_cases z : k = i.toNatClampNeg
  · rw [e, z, upd_at]; exact hx
  · rw [e, upd_ne z]; exact h k
def SameR (a b : Int32) (f g : Nat → Option Nat) : Prop := a = b ∧ f = g
set_option maxHeartbeats 4000000 in
set_option maxRecDepth 100000 in
theorem ct_fX10_hasRoom (l : Launch) (D : va_G) (tc : Nat → ClassId) (sk : (Nat → Nat) × (Nat → Nat)) (Ta : Nat → Nat) (Tv : Nat → Int32) (Tf : Nat → Nat → Int32) (h_tape : 0 ≤ ((Tv 0) : Int32).toInt ∧ ((Tv 0) : Int32).toInt ≤ 400 ∧ 0 ≤ ((Tv 1) : Int32).toInt ∧ ((Tv 1) : Int32).toInt ≤ 400 ∧ 0 ≤ ((Tv 2) : Int32).toInt ∧ ((Tv 2) : Int32).toInt ≤ 400) : Ct l yX10_hasRoom cX10_hasRoom 1 (some .boolean) { frames := 0, cells := 0, slots := 0, locals := 0 } D tc sk [.ref (Ta 0)] [((Ta 0), .inr (10, [.ref (Ta 1), .int (Tv 0), .int (Tv 1), .int (Tv 2), .int (Tv 3), .int (Tv 4)])), ((Ta 1), .inl (tc 0, 400, .inl (Tf 1)))] (fun (v : Option Value) (_ : Unit) => ∃ r : Int32, v = some (.int r) ∧ (((r.toInt = 0 ∧ 380 < (Tv 0).toInt) ∨ (r.toInt = 1 ∧ (Tv 0).toInt ≤ 380)))) (fun (_ : Unit) => [((Ta 0), .inr (10, [.ref (Ta 1), .int (Tv 0), .int (Tv 1), .int (Tv 2), .int (Tv 3), .int (Tv 4)])), ((Ta 1), .inl (tc 0, 400, .inl (Tf 1)))]) 0 0 := by
  refine Ct.start (by decide) (Nat.le_of_ble_eq_true rfl) (fun p e s m below meth c A ls hx hb hr hlk hin hml hown hts hK hX hP hD hA hl hS => ?_)
  have hl : lv_has ls 1 [(0, .ref (Ta 0))] := hl
  refine lv_aload_n hx hb dX10_hasRoom_0 rfl (lv_at hl 0 rfl) ?_
  refine gf_X10_15 hx hb hts hown hK hP 0 rfl rfl dX10_hasRoom_1 ?_
  refine lv_bipush (v := 20) hx hb dX10_hasRoom_4 (by decide) ?_
  refine lv_iadd hx hb dX10_hasRoom_6 ?_
  refine lv_topi (fun x_1 ex_1 => ?_)
  refine lv_aload_n hx hb dX10_hasRoom_7 rfl (lv_at hl 0 rfl) ?_
  refine gf_X10_9 hx hb hts hown hK hP 0 rfl rfl dX10_hasRoom_8 ?_
  refine va_alen hx hb hK hP 1 0 rfl rfl (v := 400) rfl dX10_hasRoom_11 ?_
  refine lv_icmp_gt (tgt := 19) hx hb dX10_hasRoom_12 (by decide) (fun c_2 => ?_) (fun c_2 => ?_)
  · skip
    refine lv_iconst (v := 0) hx hb dX10_hasRoom_19 (by decide) ?_
    have hp_3 : (((0 : Int32).toInt = 0 ∧ 380 < (Tv 0).toInt) ∨ ((0 : Int32).toInt = 1 ∧ (Tv 0).toInt ≤ 380)) := by
      have z_1 := Int32.lt_iff_toInt_lt.mp c_2
      have y_400 : (400 : Int32).toInt = 400 := by decide
      have y_0 : (0 : Int32).toInt = 0 := by decide
      have y_20 : (20 : Int32).toInt = 20 := by decide
      have t_x_1 : x_1.toInt = ((Tv 0) : Int32).toInt + (20 : Int32).toInt := by rw [ex_1]; exact add_toInt (by omega) (by omega)
      have yr : (0 : Int32).toInt = 0 := by decide
      omega
    exact retI (v := 0) hx hb hr hlk (rfl) hP hD hS () ⟨_, rfl, hp_3⟩ [0, 1] rfl rfl dX10_hasRoom_20 (Nat.le_of_ble_eq_true rfl) (Nat.le_of_ble_eq_true rfl) rfl
  · skip
    refine lv_iconst (v := 1) hx hb dX10_hasRoom_15 (by decide) ?_
    refine lv_goto (tgt := 20) hx hb dX10_hasRoom_16 (by decide) ?_
    have hp_4 : (((1 : Int32).toInt = 0 ∧ 380 < (Tv 0).toInt) ∨ ((1 : Int32).toInt = 1 ∧ (Tv 0).toInt ≤ 380)) := by
      have z_1 := Int32.le_iff_toInt_le.mp (Int32.not_lt.mp c_2)
      have y_400 : (400 : Int32).toInt = 400 := by decide
      have y_1 : (1 : Int32).toInt = 1 := by decide
      have y_20 : (20 : Int32).toInt = 20 := by decide
      have t_x_1 : x_1.toInt = ((Tv 0) : Int32).toInt + (20 : Int32).toInt := by rw [ex_1]; exact add_toInt (by omega) (by omega)
      have yr : (1 : Int32).toInt = 1 := by decide
      omega
    exact retI (v := 1) hx hb hr hlk (rfl) hP hD hS () ⟨_, rfl, hp_4⟩ [0, 1] rfl rfl dX10_hasRoom_20 (Nat.le_of_ble_eq_true rfl) (Nat.le_of_ble_eq_true rfl) rfl
set_option maxRecDepth 100000 in
theorem cu_fX10_hasRoom (l : Launch) (D : va_G) (tc : Nat → ClassId) (sk : (Nat → Nat) × (Nat → Nat)) (Ta_0 : Nat) (Ta_1 : Nat) (Tv_0 : Int32) (Tv_1 : Int32) (Tv_2 : Int32) (Tv_3 : Int32) (Tv_4 : Int32) (Tf_1 : Nat → Int32) (h_tape : 0 ≤ (Tv_0 : Int32).toInt ∧ (Tv_0 : Int32).toInt ≤ 400 ∧ 0 ≤ (Tv_1 : Int32).toInt ∧ (Tv_1 : Int32).toInt ≤ 400 ∧ 0 ≤ (Tv_2 : Int32).toInt ∧ (Tv_2 : Int32).toInt ≤ 400) : Ct l yX10_hasRoom cX10_hasRoom 1 (some .boolean) { frames := 0, cells := 0, slots := 0, locals := 0 } D tc sk [.ref Ta_0] [(Ta_0, .inr (10, [.ref Ta_1, .int Tv_0, .int Tv_1, .int Tv_2, .int Tv_3, .int Tv_4])), (Ta_1, .inl (tc 0, 400, .inl Tf_1))] (fun (v : Option Value) (_ : Unit) => ∃ r : Int32, v = some (.int r) ∧ (((r.toInt = 0 ∧ 380 < Tv_0.toInt) ∨ (r.toInt = 1 ∧ Tv_0.toInt ≤ 380)))) (fun (_ : Unit) => [(Ta_0, .inr (10, [.ref Ta_1, .int Tv_0, .int Tv_1, .int Tv_2, .int Tv_3, .int Tv_4])), (Ta_1, .inl (tc 0, 400, .inl Tf_1))]) 0 0 :=
  ct_fX10_hasRoom l D tc sk (fun k => ([Ta_0, Ta_1] : List (Nat)).getD k 0) (fun k => ([Tv_0, Tv_1, Tv_2, Tv_3, Tv_4] : List (Int32)).getD k 0) (fun k => ([(fun _ => 0), Tf_1] : List (Nat → Int32)).getD k (fun _ => 0)) h_tape
set_option maxHeartbeats 4000000 in
set_option maxRecDepth 100000 in
theorem ct_fX10_add (l : Launch) (D : va_G) (tc : Nat → ClassId) (sk : (Nat → Nat) × (Nat → Nat)) (Ta : Nat → Nat) (Tv : Nat → Int32) (Tf : Nat → Nat → Int32) (x1 : Int32) (h_tape : 0 ≤ ((Tv 0) : Int32).toInt ∧ ((Tv 0) : Int32).toInt ≤ 400 ∧ 0 ≤ ((Tv 1) : Int32).toInt ∧ ((Tv 1) : Int32).toInt ≤ 400 ∧ 0 ≤ ((Tv 2) : Int32).toInt ∧ ((Tv 2) : Int32).toInt ≤ 400) (h_by : Byt (Tf 1)) (hroom : (Tv 0).toInt ≤ 396) : Ct l yX10_add cX10_add 3 none { frames := 0, cells := 0, slots := 0, locals := 0 } D tc sk [.ref (Ta 0), .int x1] [((Ta 0), .inr (10, [.ref (Ta 1), .int (Tv 0), .int (Tv 1), .int (Tv 2), .int (Tv 3), .int (Tv 4)])), ((Ta 1), .inl (tc 0, 400, .inl (Tf 1)))] (fun (v : Option Value) (u : (Int32) × (Nat → Int32)) => match u with | (oo0x1, oo0x2) => v = none ∧ (0 ≤ (oo0x1 : Int32).toInt ∧ (oo0x1 : Int32).toInt ≤ 400 ∧ 0 ≤ ((Tv 1) : Int32).toInt ∧ ((Tv 1) : Int32).toInt ≤ 400 ∧ 0 ≤ ((Tv 2) : Int32).toInt ∧ ((Tv 2) : Int32).toInt ≤ 400) ∧ ((oo0x1 : Int32).toInt = (Tv 0).toInt + 4) ∧ (Byt oo0x2) ∧ (FdB (Tf 1) oo0x2 (Tv 0) oo0x1 x1)) (fun (u : (Int32) × (Nat → Int32)) => match u with | (oo0x1, oo0x2) => [((Ta 0), .inr (10, [.ref (Ta 1), .int oo0x1, .int (Tv 1), .int (Tv 2), .int (Tv 3), .int (Tv 4)])), ((Ta 1), .inl (tc 0, 400, .inl oo0x2))]) 0 0 := by
  refine Ct.start (by decide) (Nat.le_of_ble_eq_true rfl) (fun p e s m below meth c A ls hx hb hr hlk hin hml hown hts hK hX hP hD hA hl hS => ?_)
  have hl : lv_has ls 3 [(0, .ref (Ta 0)), (1, .int x1)] := hl
  refine lv_bipush (v := 24) hx hb dX10_add_0 (by decide) ?_
  refine lv_istore_n (lv' := [(2, .int 24), (0, .ref (Ta 0)), (1, .int x1)]) hx hb dX10_add_2 rfl hl (by decide) rfl (fun ls hl₀ => ?_)
  replace hl := hl₀
  clear hl₀
  refine lv_iload_n hx hb dX10_add_3 rfl (lv_at hl 0 rfl) ?_
  refine lv_if_lt (tgt := 58) hx hb dX10_add_4 (by decide) (fun c_1 => absurd c_1 (by decide)) (fun c_1 => ?_)
  refine lv_aload_n hx hb dX10_add_7 rfl (lv_at hl 1 rfl) ?_
  refine gf_X10_15 hx hb hts hown hK hP 0 rfl rfl dX10_add_8 ?_
  refine lv_if_lt (tgt := 52) hx hb dX10_add_11 (by decide) (fun c_2 => ?_) (fun c_2 => ?_)
  · skip
    exfalso
    have z_1 := Int32.lt_iff_toInt_lt.mp c_2
    have y_0 : (0 : Int32).toInt = 0 := by decide
    omega
  · skip
    refine lv_aload_n hx hb dX10_add_14 rfl (lv_at hl 1 rfl) ?_
    refine gf_X10_15 hx hb hts hown hK hP 0 rfl rfl dX10_add_15 ?_
    refine lv_aload_n hx hb dX10_add_18 rfl (lv_at hl 1 rfl) ?_
    refine gf_X10_9 hx hb hts hown hK hP 0 rfl rfl dX10_add_19 ?_
    refine va_alen hx hb hK hP 1 0 rfl rfl (v := 400) rfl dX10_add_22 ?_
    refine lv_icmp_ge (tgt := 52) hx hb dX10_add_23 (by decide) (fun c_3 => ?_) (fun c_3 => ?_)
    · skip
      exfalso
      have z_1 := Int32.le_iff_toInt_le.mp (Int32.not_lt.mp c_2)
      have z_2 := Int32.le_iff_toInt_le.mp c_3
      have y_0 : (0 : Int32).toInt = 0 := by decide
      have y_400 : (400 : Int32).toInt = 400 := by decide
      omega
    · skip
      refine lv_aload_n hx hb dX10_add_26 rfl (lv_at hl 1 rfl) ?_
      refine gf_X10_9 hx hb hts hown hK hP 0 rfl rfl dX10_add_27 ?_
      refine lv_aload_n hx hb dX10_add_30 rfl (lv_at hl 1 rfl) ?_
      refine gf_X10_15 hx hb hts hown hK hP 0 rfl rfl dX10_add_31 ?_
      refine lv_iload_n hx hb dX10_add_34 rfl (lv_at hl 2 rfl) ?_
      refine lv_iload_n hx hb dX10_add_35 rfl (lv_at hl 0 rfl) ?_
      obtain ⟨x_4, ex_4⟩ : ∃ y : Int32, y = ((x1 : Int32).toUInt32 >>> ((24 : Int32).toUInt32 &&& Int32.toUInt32 31)).toInt32 := ⟨_, rfl⟩
      refine lv_iushr (v := x_4) hx hb dX10_add_36 ex_4.symm ?_
      refine lv_sipush (v := 255) hx hb dX10_add_37 (by decide) ?_
      refine lv_iand hx hb dX10_add_40 ?_
      refine lv_topi (fun x_5 ex_5 => ?_)
      have hi_6 : vp_in (Tv 0) 400 := by
        have z_1 := Int32.le_iff_toInt_le.mp (Int32.not_lt.mp c_2)
        have z_2 := Int32.lt_iff_toInt_lt.mp (Int32.not_le.mp c_3)
        have y_0 : (0 : Int32).toInt = 0 := by decide
        have y_400 : (400 : Int32).toInt = 400 := by decide
        refine vp_in_iff.mpr ⟨?_, ?_⟩ <;> omega
      refine st_int hx hb hK hP hD hS 1 0 rfl rfl hi_6 dX10_add_41 (fun g_7 H locs eg_7 hP₀ hD₀ hS₀ => ?_)
      replace hP : va_P D classes [((Ta 0), .inr (10, [.ref (Ta 1), .int (Tv 0), .int (Tv 1), .int (Tv 2), .int (Tv 3), .int (Tv 4)])), ((Ta 1), .inl (tc 0, 400, .inl g_7))] H := hP₀
      replace hD : va_D A [((Ta 0), .inr (10, [.ref (Ta 1), .int (Tv 0), .int (Tv 1), .int (Tv 2), .int (Tv 3), .int (Tv 4)])), ((Ta 1), .inl (tc 0, 400, .inl g_7))] := hD₀
      replace hS := hS₀
      clear hP₀ hD₀ hS₀
      have hz_8 := bz_c (v := x1) (n := 24) ex_4 ex_5
      have pf_9 : Byt g_7 := Byt.up h_by eg_7 hz_8.2
      refine lv_aload_n hx hb dX10_add_42 rfl (lv_at hl 1 rfl) ?_
      refine lv_dup hx hb dX10_add_43 rfl ?_
      refine gf_X10_15 hx hb hts hown hK hP 0 rfl rfl dX10_add_44 ?_
      refine lv_iconst (v := 1) hx hb dX10_add_47 (by decide) ?_
      refine lv_iadd hx hb dX10_add_48 ?_
      refine lv_topi (fun x_10 ex_10 => ?_)
      refine pf_X10_15 hx hb hts hown hK hP hD hS 0 rfl (Nat.le_of_ble_eq_true rfl) rfl rfl dX10_add_49 (fun H locs hP₀ hD₀ hS₀ => ?_)
      replace hP : va_P D classes [((Ta 0), .inr (10, [.ref (Ta 1), .int x_10, .int (Tv 1), .int (Tv 2), .int (Tv 3), .int (Tv 4)])), ((Ta 1), .inl (tc 0, 400, .inl g_7))] H := hP₀
      replace hD : va_D A [((Ta 0), .inr (10, [.ref (Ta 1), .int x_10, .int (Tv 1), .int (Tv 2), .int (Tv 3), .int (Tv 4)])), ((Ta 1), .inl (tc 0, 400, .inl g_7))] := hD₀
      replace hS := hS₀
      clear hP₀ hD₀ hS₀
      have tp_x_10 : (x_10 : Int32).toInt = ((Tv 0) : Int32).toInt + 1 := by
        have z_1 := Int32.le_iff_toInt_le.mp (Int32.not_lt.mp c_2)
        have z_2 := Int32.lt_iff_toInt_lt.mp (Int32.not_le.mp c_3)
        have y_0 : (0 : Int32).toInt = 0 := by decide
        have y_400 : (400 : Int32).toInt = 400 := by decide
        have y_1 : (1 : Int32).toInt = 1 := by decide
        have t_x_10 : x_10.toInt = ((Tv 0) : Int32).toInt + (1 : Int32).toInt := by rw [ex_10]; exact add_toInt (by omega) (by omega)
        omega
      refine lv_iinc (v := 16) (lv' := [(2, .int 16), (0, .ref (Ta 0)), (1, .int x1)]) hx hb dX10_add_52 hl (k := 0) rfl (by decide) (by decide) rfl (fun ls hl₀ => ?_)
      replace hl := hl₀
      clear hl₀
      refine lv_goto (tgt := 3) hx hb dX10_add_55 (by decide) ?_
      refine lv_iload_n hx hb dX10_add_3 rfl (lv_at hl 0 rfl) ?_
      refine lv_if_lt (tgt := 58) hx hb dX10_add_4 (by decide) (fun c_11 => absurd c_11 (by decide)) (fun c_11 => ?_)
      refine lv_aload_n hx hb dX10_add_7 rfl (lv_at hl 1 rfl) ?_
      refine gf_X10_15 hx hb hts hown hK hP 0 rfl rfl dX10_add_8 ?_
      refine lv_if_lt (tgt := 52) hx hb dX10_add_11 (by decide) (fun c_12 => ?_) (fun c_12 => ?_)
      · skip
        exfalso
        have z_1 := Int32.le_iff_toInt_le.mp (Int32.not_lt.mp c_2)
        have z_2 := Int32.lt_iff_toInt_lt.mp (Int32.not_le.mp c_3)
        have z_3 := Int32.lt_iff_toInt_lt.mp c_12
        have y_0 : (0 : Int32).toInt = 0 := by decide
        have y_400 : (400 : Int32).toInt = 400 := by decide
        have y_1 : (1 : Int32).toInt = 1 := by decide
        have t_x_10 : x_10.toInt = ((Tv 0) : Int32).toInt + (1 : Int32).toInt := by rw [ex_10]; exact add_toInt (by omega) (by omega)
        omega
      · skip
        refine lv_aload_n hx hb dX10_add_14 rfl (lv_at hl 1 rfl) ?_
        refine gf_X10_15 hx hb hts hown hK hP 0 rfl rfl dX10_add_15 ?_
        refine lv_aload_n hx hb dX10_add_18 rfl (lv_at hl 1 rfl) ?_
        refine gf_X10_9 hx hb hts hown hK hP 0 rfl rfl dX10_add_19 ?_
        refine va_alen hx hb hK hP 1 0 rfl rfl (v := 400) rfl dX10_add_22 ?_
        refine lv_icmp_ge (tgt := 52) hx hb dX10_add_23 (by decide) (fun c_13 => ?_) (fun c_13 => ?_)
        · skip
          exfalso
          have z_1 := Int32.le_iff_toInt_le.mp (Int32.not_lt.mp c_2)
          have z_2 := Int32.lt_iff_toInt_lt.mp (Int32.not_le.mp c_3)
          have z_3 := Int32.le_iff_toInt_le.mp (Int32.not_lt.mp c_12)
          have z_4 := Int32.le_iff_toInt_le.mp c_13
          have y_0 : (0 : Int32).toInt = 0 := by decide
          have y_400 : (400 : Int32).toInt = 400 := by decide
          have y_1 : (1 : Int32).toInt = 1 := by decide
          have t_x_10 : x_10.toInt = ((Tv 0) : Int32).toInt + (1 : Int32).toInt := by rw [ex_10]; exact add_toInt (by omega) (by omega)
          omega
        · skip
          refine lv_aload_n hx hb dX10_add_26 rfl (lv_at hl 1 rfl) ?_
          refine gf_X10_9 hx hb hts hown hK hP 0 rfl rfl dX10_add_27 ?_
          refine lv_aload_n hx hb dX10_add_30 rfl (lv_at hl 1 rfl) ?_
          refine gf_X10_15 hx hb hts hown hK hP 0 rfl rfl dX10_add_31 ?_
          refine lv_iload_n hx hb dX10_add_34 rfl (lv_at hl 2 rfl) ?_
          refine lv_iload_n hx hb dX10_add_35 rfl (lv_at hl 0 rfl) ?_
          obtain ⟨x_14, ex_14⟩ : ∃ y : Int32, y = ((x1 : Int32).toUInt32 >>> ((16 : Int32).toUInt32 &&& Int32.toUInt32 31)).toInt32 := ⟨_, rfl⟩
          refine lv_iushr (v := x_14) hx hb dX10_add_36 ex_14.symm ?_
          refine lv_sipush (v := 255) hx hb dX10_add_37 (by decide) ?_
          refine lv_iand hx hb dX10_add_40 ?_
          refine lv_topi (fun x_15 ex_15 => ?_)
          have hi_16 : vp_in x_10 400 := by
            have z_1 := Int32.le_iff_toInt_le.mp (Int32.not_lt.mp c_2)
            have z_2 := Int32.lt_iff_toInt_lt.mp (Int32.not_le.mp c_3)
            have z_3 := Int32.le_iff_toInt_le.mp (Int32.not_lt.mp c_12)
            have z_4 := Int32.lt_iff_toInt_lt.mp (Int32.not_le.mp c_13)
            have y_0 : (0 : Int32).toInt = 0 := by decide
            have y_400 : (400 : Int32).toInt = 400 := by decide
            have y_1 : (1 : Int32).toInt = 1 := by decide
            have t_x_10 : x_10.toInt = ((Tv 0) : Int32).toInt + (1 : Int32).toInt := by rw [ex_10]; exact add_toInt (by omega) (by omega)
            refine vp_in_iff.mpr ⟨?_, ?_⟩ <;> omega
          refine st_int hx hb hK hP hD hS 1 0 rfl rfl hi_16 dX10_add_41 (fun g_17 H locs eg_17 hP₀ hD₀ hS₀ => ?_)
          replace hP : va_P D classes [((Ta 0), .inr (10, [.ref (Ta 1), .int x_10, .int (Tv 1), .int (Tv 2), .int (Tv 3), .int (Tv 4)])), ((Ta 1), .inl (tc 0, 400, .inl g_17))] H := hP₀
          replace hD : va_D A [((Ta 0), .inr (10, [.ref (Ta 1), .int x_10, .int (Tv 1), .int (Tv 2), .int (Tv 3), .int (Tv 4)])), ((Ta 1), .inl (tc 0, 400, .inl g_17))] := hD₀
          replace hS := hS₀
          clear hP₀ hD₀ hS₀
          have hz_18 := bz_c (v := x1) (n := 16) ex_14 ex_15
          have pf_19 : Byt g_17 := Byt.up pf_9 eg_17 hz_18.2
          refine lv_aload_n hx hb dX10_add_42 rfl (lv_at hl 1 rfl) ?_
          refine lv_dup hx hb dX10_add_43 rfl ?_
          refine gf_X10_15 hx hb hts hown hK hP 0 rfl rfl dX10_add_44 ?_
          refine lv_iconst (v := 1) hx hb dX10_add_47 (by decide) ?_
          refine lv_iadd hx hb dX10_add_48 ?_
          refine lv_topi (fun x_20 ex_20 => ?_)
          refine pf_X10_15 hx hb hts hown hK hP hD hS 0 rfl (Nat.le_of_ble_eq_true rfl) rfl rfl dX10_add_49 (fun H locs hP₀ hD₀ hS₀ => ?_)
          replace hP : va_P D classes [((Ta 0), .inr (10, [.ref (Ta 1), .int x_20, .int (Tv 1), .int (Tv 2), .int (Tv 3), .int (Tv 4)])), ((Ta 1), .inl (tc 0, 400, .inl g_17))] H := hP₀
          replace hD : va_D A [((Ta 0), .inr (10, [.ref (Ta 1), .int x_20, .int (Tv 1), .int (Tv 2), .int (Tv 3), .int (Tv 4)])), ((Ta 1), .inl (tc 0, 400, .inl g_17))] := hD₀
          replace hS := hS₀
          clear hP₀ hD₀ hS₀
          have tp_x_20 : (x_20 : Int32).toInt = (x_10 : Int32).toInt + 1 := by
            have z_1 := Int32.le_iff_toInt_le.mp (Int32.not_lt.mp c_2)
            have z_2 := Int32.lt_iff_toInt_lt.mp (Int32.not_le.mp c_3)
            have z_3 := Int32.le_iff_toInt_le.mp (Int32.not_lt.mp c_12)
            have z_4 := Int32.lt_iff_toInt_lt.mp (Int32.not_le.mp c_13)
            have y_0 : (0 : Int32).toInt = 0 := by decide
            have y_400 : (400 : Int32).toInt = 400 := by decide
            have y_1 : (1 : Int32).toInt = 1 := by decide
            have t_x_10 : x_10.toInt = ((Tv 0) : Int32).toInt + (1 : Int32).toInt := by rw [ex_10]; exact add_toInt (by omega) (by omega)
            have t_x_20 : x_20.toInt = (x_10 : Int32).toInt + (1 : Int32).toInt := by rw [ex_20]; exact add_toInt (by omega) (by omega)
            omega
          refine lv_iinc (v := 8) (lv' := [(2, .int 8), (0, .ref (Ta 0)), (1, .int x1)]) hx hb dX10_add_52 hl (k := 0) rfl (by decide) (by decide) rfl (fun ls hl₀ => ?_)
          replace hl := hl₀
          clear hl₀
          refine lv_goto (tgt := 3) hx hb dX10_add_55 (by decide) ?_
          refine lv_iload_n hx hb dX10_add_3 rfl (lv_at hl 0 rfl) ?_
          refine lv_if_lt (tgt := 58) hx hb dX10_add_4 (by decide) (fun c_21 => absurd c_21 (by decide)) (fun c_21 => ?_)
          refine lv_aload_n hx hb dX10_add_7 rfl (lv_at hl 1 rfl) ?_
          refine gf_X10_15 hx hb hts hown hK hP 0 rfl rfl dX10_add_8 ?_
          refine lv_if_lt (tgt := 52) hx hb dX10_add_11 (by decide) (fun c_22 => ?_) (fun c_22 => ?_)
          · skip
            exfalso
            have z_1 := Int32.le_iff_toInt_le.mp (Int32.not_lt.mp c_2)
            have z_2 := Int32.lt_iff_toInt_lt.mp (Int32.not_le.mp c_3)
            have z_3 := Int32.le_iff_toInt_le.mp (Int32.not_lt.mp c_12)
            have z_4 := Int32.lt_iff_toInt_lt.mp (Int32.not_le.mp c_13)
            have z_5 := Int32.lt_iff_toInt_lt.mp c_22
            have y_0 : (0 : Int32).toInt = 0 := by decide
            have y_400 : (400 : Int32).toInt = 400 := by decide
            have y_1 : (1 : Int32).toInt = 1 := by decide
            have t_x_10 : x_10.toInt = ((Tv 0) : Int32).toInt + (1 : Int32).toInt := by rw [ex_10]; exact add_toInt (by omega) (by omega)
            have t_x_20 : x_20.toInt = (x_10 : Int32).toInt + (1 : Int32).toInt := by rw [ex_20]; exact add_toInt (by omega) (by omega)
            omega
          · skip
            refine lv_aload_n hx hb dX10_add_14 rfl (lv_at hl 1 rfl) ?_
            refine gf_X10_15 hx hb hts hown hK hP 0 rfl rfl dX10_add_15 ?_
            refine lv_aload_n hx hb dX10_add_18 rfl (lv_at hl 1 rfl) ?_
            refine gf_X10_9 hx hb hts hown hK hP 0 rfl rfl dX10_add_19 ?_
            refine va_alen hx hb hK hP 1 0 rfl rfl (v := 400) rfl dX10_add_22 ?_
            refine lv_icmp_ge (tgt := 52) hx hb dX10_add_23 (by decide) (fun c_23 => ?_) (fun c_23 => ?_)
            · skip
              exfalso
              have z_1 := Int32.le_iff_toInt_le.mp (Int32.not_lt.mp c_2)
              have z_2 := Int32.lt_iff_toInt_lt.mp (Int32.not_le.mp c_3)
              have z_3 := Int32.le_iff_toInt_le.mp (Int32.not_lt.mp c_12)
              have z_4 := Int32.lt_iff_toInt_lt.mp (Int32.not_le.mp c_13)
              have z_5 := Int32.le_iff_toInt_le.mp (Int32.not_lt.mp c_22)
              have z_6 := Int32.le_iff_toInt_le.mp c_23
              have y_0 : (0 : Int32).toInt = 0 := by decide
              have y_400 : (400 : Int32).toInt = 400 := by decide
              have y_1 : (1 : Int32).toInt = 1 := by decide
              have t_x_10 : x_10.toInt = ((Tv 0) : Int32).toInt + (1 : Int32).toInt := by rw [ex_10]; exact add_toInt (by omega) (by omega)
              have t_x_20 : x_20.toInt = (x_10 : Int32).toInt + (1 : Int32).toInt := by rw [ex_20]; exact add_toInt (by omega) (by omega)
              omega
            · skip
              refine lv_aload_n hx hb dX10_add_26 rfl (lv_at hl 1 rfl) ?_
              refine gf_X10_9 hx hb hts hown hK hP 0 rfl rfl dX10_add_27 ?_
              refine lv_aload_n hx hb dX10_add_30 rfl (lv_at hl 1 rfl) ?_
              refine gf_X10_15 hx hb hts hown hK hP 0 rfl rfl dX10_add_31 ?_
              refine lv_iload_n hx hb dX10_add_34 rfl (lv_at hl 2 rfl) ?_
              refine lv_iload_n hx hb dX10_add_35 rfl (lv_at hl 0 rfl) ?_
              obtain ⟨x_24, ex_24⟩ : ∃ y : Int32, y = ((x1 : Int32).toUInt32 >>> ((8 : Int32).toUInt32 &&& Int32.toUInt32 31)).toInt32 := ⟨_, rfl⟩
              refine lv_iushr (v := x_24) hx hb dX10_add_36 ex_24.symm ?_
              refine lv_sipush (v := 255) hx hb dX10_add_37 (by decide) ?_
              refine lv_iand hx hb dX10_add_40 ?_
              refine lv_topi (fun x_25 ex_25 => ?_)
              have hi_26 : vp_in x_20 400 := by
                have z_1 := Int32.le_iff_toInt_le.mp (Int32.not_lt.mp c_2)
                have z_2 := Int32.lt_iff_toInt_lt.mp (Int32.not_le.mp c_3)
                have z_3 := Int32.le_iff_toInt_le.mp (Int32.not_lt.mp c_12)
                have z_4 := Int32.lt_iff_toInt_lt.mp (Int32.not_le.mp c_13)
                have z_5 := Int32.le_iff_toInt_le.mp (Int32.not_lt.mp c_22)
                have z_6 := Int32.lt_iff_toInt_lt.mp (Int32.not_le.mp c_23)
                have y_0 : (0 : Int32).toInt = 0 := by decide
                have y_400 : (400 : Int32).toInt = 400 := by decide
                have y_1 : (1 : Int32).toInt = 1 := by decide
                have t_x_10 : x_10.toInt = ((Tv 0) : Int32).toInt + (1 : Int32).toInt := by rw [ex_10]; exact add_toInt (by omega) (by omega)
                have t_x_20 : x_20.toInt = (x_10 : Int32).toInt + (1 : Int32).toInt := by rw [ex_20]; exact add_toInt (by omega) (by omega)
                refine vp_in_iff.mpr ⟨?_, ?_⟩ <;> omega
              refine st_int hx hb hK hP hD hS 1 0 rfl rfl hi_26 dX10_add_41 (fun g_27 H locs eg_27 hP₀ hD₀ hS₀ => ?_)
              replace hP : va_P D classes [((Ta 0), .inr (10, [.ref (Ta 1), .int x_20, .int (Tv 1), .int (Tv 2), .int (Tv 3), .int (Tv 4)])), ((Ta 1), .inl (tc 0, 400, .inl g_27))] H := hP₀
              replace hD : va_D A [((Ta 0), .inr (10, [.ref (Ta 1), .int x_20, .int (Tv 1), .int (Tv 2), .int (Tv 3), .int (Tv 4)])), ((Ta 1), .inl (tc 0, 400, .inl g_27))] := hD₀
              replace hS := hS₀
              clear hP₀ hD₀ hS₀
              have hz_28 := bz_c (v := x1) (n := 8) ex_24 ex_25
              have pf_29 : Byt g_27 := Byt.up pf_19 eg_27 hz_28.2
              refine lv_aload_n hx hb dX10_add_42 rfl (lv_at hl 1 rfl) ?_
              refine lv_dup hx hb dX10_add_43 rfl ?_
              refine gf_X10_15 hx hb hts hown hK hP 0 rfl rfl dX10_add_44 ?_
              refine lv_iconst (v := 1) hx hb dX10_add_47 (by decide) ?_
              refine lv_iadd hx hb dX10_add_48 ?_
              refine lv_topi (fun x_30 ex_30 => ?_)
              refine pf_X10_15 hx hb hts hown hK hP hD hS 0 rfl (Nat.le_of_ble_eq_true rfl) rfl rfl dX10_add_49 (fun H locs hP₀ hD₀ hS₀ => ?_)
              replace hP : va_P D classes [((Ta 0), .inr (10, [.ref (Ta 1), .int x_30, .int (Tv 1), .int (Tv 2), .int (Tv 3), .int (Tv 4)])), ((Ta 1), .inl (tc 0, 400, .inl g_27))] H := hP₀
              replace hD : va_D A [((Ta 0), .inr (10, [.ref (Ta 1), .int x_30, .int (Tv 1), .int (Tv 2), .int (Tv 3), .int (Tv 4)])), ((Ta 1), .inl (tc 0, 400, .inl g_27))] := hD₀
              replace hS := hS₀
              clear hP₀ hD₀ hS₀
              have tp_x_30 : (x_30 : Int32).toInt = (x_20 : Int32).toInt + 1 := by
                have z_1 := Int32.le_iff_toInt_le.mp (Int32.not_lt.mp c_2)
                have z_2 := Int32.lt_iff_toInt_lt.mp (Int32.not_le.mp c_3)
                have z_3 := Int32.le_iff_toInt_le.mp (Int32.not_lt.mp c_12)
                have z_4 := Int32.lt_iff_toInt_lt.mp (Int32.not_le.mp c_13)
                have z_5 := Int32.le_iff_toInt_le.mp (Int32.not_lt.mp c_22)
                have z_6 := Int32.lt_iff_toInt_lt.mp (Int32.not_le.mp c_23)
                have y_0 : (0 : Int32).toInt = 0 := by decide
                have y_400 : (400 : Int32).toInt = 400 := by decide
                have y_1 : (1 : Int32).toInt = 1 := by decide
                have t_x_10 : x_10.toInt = ((Tv 0) : Int32).toInt + (1 : Int32).toInt := by rw [ex_10]; exact add_toInt (by omega) (by omega)
                have t_x_20 : x_20.toInt = (x_10 : Int32).toInt + (1 : Int32).toInt := by rw [ex_20]; exact add_toInt (by omega) (by omega)
                have t_x_30 : x_30.toInt = (x_20 : Int32).toInt + (1 : Int32).toInt := by rw [ex_30]; exact add_toInt (by omega) (by omega)
                omega
              refine lv_iinc (v := 0) (lv' := [(2, .int 0), (0, .ref (Ta 0)), (1, .int x1)]) hx hb dX10_add_52 hl (k := 0) rfl (by decide) (by decide) rfl (fun ls hl₀ => ?_)
              replace hl := hl₀
              clear hl₀
              refine lv_goto (tgt := 3) hx hb dX10_add_55 (by decide) ?_
              refine lv_iload_n hx hb dX10_add_3 rfl (lv_at hl 0 rfl) ?_
              refine lv_if_lt (tgt := 58) hx hb dX10_add_4 (by decide) (fun c_31 => absurd c_31 (by decide)) (fun c_31 => ?_)
              refine lv_aload_n hx hb dX10_add_7 rfl (lv_at hl 1 rfl) ?_
              refine gf_X10_15 hx hb hts hown hK hP 0 rfl rfl dX10_add_8 ?_
              refine lv_if_lt (tgt := 52) hx hb dX10_add_11 (by decide) (fun c_32 => ?_) (fun c_32 => ?_)
              · skip
                exfalso
                have z_1 := Int32.le_iff_toInt_le.mp (Int32.not_lt.mp c_2)
                have z_2 := Int32.lt_iff_toInt_lt.mp (Int32.not_le.mp c_3)
                have z_3 := Int32.le_iff_toInt_le.mp (Int32.not_lt.mp c_12)
                have z_4 := Int32.lt_iff_toInt_lt.mp (Int32.not_le.mp c_13)
                have z_5 := Int32.le_iff_toInt_le.mp (Int32.not_lt.mp c_22)
                have z_6 := Int32.lt_iff_toInt_lt.mp (Int32.not_le.mp c_23)
                have z_7 := Int32.lt_iff_toInt_lt.mp c_32
                have y_0 : (0 : Int32).toInt = 0 := by decide
                have y_400 : (400 : Int32).toInt = 400 := by decide
                have y_1 : (1 : Int32).toInt = 1 := by decide
                have t_x_10 : x_10.toInt = ((Tv 0) : Int32).toInt + (1 : Int32).toInt := by rw [ex_10]; exact add_toInt (by omega) (by omega)
                have t_x_20 : x_20.toInt = (x_10 : Int32).toInt + (1 : Int32).toInt := by rw [ex_20]; exact add_toInt (by omega) (by omega)
                have t_x_30 : x_30.toInt = (x_20 : Int32).toInt + (1 : Int32).toInt := by rw [ex_30]; exact add_toInt (by omega) (by omega)
                omega
              · skip
                refine lv_aload_n hx hb dX10_add_14 rfl (lv_at hl 1 rfl) ?_
                refine gf_X10_15 hx hb hts hown hK hP 0 rfl rfl dX10_add_15 ?_
                refine lv_aload_n hx hb dX10_add_18 rfl (lv_at hl 1 rfl) ?_
                refine gf_X10_9 hx hb hts hown hK hP 0 rfl rfl dX10_add_19 ?_
                refine va_alen hx hb hK hP 1 0 rfl rfl (v := 400) rfl dX10_add_22 ?_
                refine lv_icmp_ge (tgt := 52) hx hb dX10_add_23 (by decide) (fun c_33 => ?_) (fun c_33 => ?_)
                · skip
                  exfalso
                  have z_1 := Int32.le_iff_toInt_le.mp (Int32.not_lt.mp c_2)
                  have z_2 := Int32.lt_iff_toInt_lt.mp (Int32.not_le.mp c_3)
                  have z_3 := Int32.le_iff_toInt_le.mp (Int32.not_lt.mp c_12)
                  have z_4 := Int32.lt_iff_toInt_lt.mp (Int32.not_le.mp c_13)
                  have z_5 := Int32.le_iff_toInt_le.mp (Int32.not_lt.mp c_22)
                  have z_6 := Int32.lt_iff_toInt_lt.mp (Int32.not_le.mp c_23)
                  have z_7 := Int32.le_iff_toInt_le.mp (Int32.not_lt.mp c_32)
                  have z_8 := Int32.le_iff_toInt_le.mp c_33
                  have y_0 : (0 : Int32).toInt = 0 := by decide
                  have y_400 : (400 : Int32).toInt = 400 := by decide
                  have y_1 : (1 : Int32).toInt = 1 := by decide
                  have t_x_10 : x_10.toInt = ((Tv 0) : Int32).toInt + (1 : Int32).toInt := by rw [ex_10]; exact add_toInt (by omega) (by omega)
                  have t_x_20 : x_20.toInt = (x_10 : Int32).toInt + (1 : Int32).toInt := by rw [ex_20]; exact add_toInt (by omega) (by omega)
                  have t_x_30 : x_30.toInt = (x_20 : Int32).toInt + (1 : Int32).toInt := by rw [ex_30]; exact add_toInt (by omega) (by omega)
                  omega
                · skip
                  refine lv_aload_n hx hb dX10_add_26 rfl (lv_at hl 1 rfl) ?_
                  refine gf_X10_9 hx hb hts hown hK hP 0 rfl rfl dX10_add_27 ?_
                  refine lv_aload_n hx hb dX10_add_30 rfl (lv_at hl 1 rfl) ?_
                  refine gf_X10_15 hx hb hts hown hK hP 0 rfl rfl dX10_add_31 ?_
                  refine lv_iload_n hx hb dX10_add_34 rfl (lv_at hl 2 rfl) ?_
                  refine lv_iload_n hx hb dX10_add_35 rfl (lv_at hl 0 rfl) ?_
                  obtain ⟨x_34, ex_34⟩ : ∃ y : Int32, y = ((x1 : Int32).toUInt32 >>> ((0 : Int32).toUInt32 &&& Int32.toUInt32 31)).toInt32 := ⟨_, rfl⟩
                  refine lv_iushr (v := x_34) hx hb dX10_add_36 ex_34.symm ?_
                  refine lv_sipush (v := 255) hx hb dX10_add_37 (by decide) ?_
                  refine lv_iand hx hb dX10_add_40 ?_
                  refine lv_topi (fun x_35 ex_35 => ?_)
                  have hi_36 : vp_in x_30 400 := by
                    have z_1 := Int32.le_iff_toInt_le.mp (Int32.not_lt.mp c_2)
                    have z_2 := Int32.lt_iff_toInt_lt.mp (Int32.not_le.mp c_3)
                    have z_3 := Int32.le_iff_toInt_le.mp (Int32.not_lt.mp c_12)
                    have z_4 := Int32.lt_iff_toInt_lt.mp (Int32.not_le.mp c_13)
                    have z_5 := Int32.le_iff_toInt_le.mp (Int32.not_lt.mp c_22)
                    have z_6 := Int32.lt_iff_toInt_lt.mp (Int32.not_le.mp c_23)
                    have z_7 := Int32.le_iff_toInt_le.mp (Int32.not_lt.mp c_32)
                    have z_8 := Int32.lt_iff_toInt_lt.mp (Int32.not_le.mp c_33)
                    have y_0 : (0 : Int32).toInt = 0 := by decide
                    have y_400 : (400 : Int32).toInt = 400 := by decide
                    have y_1 : (1 : Int32).toInt = 1 := by decide
                    have t_x_10 : x_10.toInt = ((Tv 0) : Int32).toInt + (1 : Int32).toInt := by rw [ex_10]; exact add_toInt (by omega) (by omega)
                    have t_x_20 : x_20.toInt = (x_10 : Int32).toInt + (1 : Int32).toInt := by rw [ex_20]; exact add_toInt (by omega) (by omega)
                    have t_x_30 : x_30.toInt = (x_20 : Int32).toInt + (1 : Int32).toInt := by rw [ex_30]; exact add_toInt (by omega) (by omega)
                    refine vp_in_iff.mpr ⟨?_, ?_⟩ <;> omega
                  refine st_int hx hb hK hP hD hS 1 0 rfl rfl hi_36 dX10_add_41 (fun g_37 H locs eg_37 hP₀ hD₀ hS₀ => ?_)
                  replace hP : va_P D classes [((Ta 0), .inr (10, [.ref (Ta 1), .int x_30, .int (Tv 1), .int (Tv 2), .int (Tv 3), .int (Tv 4)])), ((Ta 1), .inl (tc 0, 400, .inl g_37))] H := hP₀
                  replace hD : va_D A [((Ta 0), .inr (10, [.ref (Ta 1), .int x_30, .int (Tv 1), .int (Tv 2), .int (Tv 3), .int (Tv 4)])), ((Ta 1), .inl (tc 0, 400, .inl g_37))] := hD₀
                  replace hS := hS₀
                  clear hP₀ hD₀ hS₀
                  have hz_38 := bz_c (v := x1) (n := 0) ex_34 ex_35
                  have pf_39 : Byt g_37 := Byt.up pf_29 eg_37 hz_38.2
                  refine lv_aload_n hx hb dX10_add_42 rfl (lv_at hl 1 rfl) ?_
                  refine lv_dup hx hb dX10_add_43 rfl ?_
                  refine gf_X10_15 hx hb hts hown hK hP 0 rfl rfl dX10_add_44 ?_
                  refine lv_iconst (v := 1) hx hb dX10_add_47 (by decide) ?_
                  refine lv_iadd hx hb dX10_add_48 ?_
                  refine lv_topi (fun x_40 ex_40 => ?_)
                  refine pf_X10_15 hx hb hts hown hK hP hD hS 0 rfl (Nat.le_of_ble_eq_true rfl) rfl rfl dX10_add_49 (fun H locs hP₀ hD₀ hS₀ => ?_)
                  replace hP : va_P D classes [((Ta 0), .inr (10, [.ref (Ta 1), .int x_40, .int (Tv 1), .int (Tv 2), .int (Tv 3), .int (Tv 4)])), ((Ta 1), .inl (tc 0, 400, .inl g_37))] H := hP₀
                  replace hD : va_D A [((Ta 0), .inr (10, [.ref (Ta 1), .int x_40, .int (Tv 1), .int (Tv 2), .int (Tv 3), .int (Tv 4)])), ((Ta 1), .inl (tc 0, 400, .inl g_37))] := hD₀
                  replace hS := hS₀
                  clear hP₀ hD₀ hS₀
                  have tp_x_40 : (x_40 : Int32).toInt = (x_30 : Int32).toInt + 1 := by
                    have z_1 := Int32.le_iff_toInt_le.mp (Int32.not_lt.mp c_2)
                    have z_2 := Int32.lt_iff_toInt_lt.mp (Int32.not_le.mp c_3)
                    have z_3 := Int32.le_iff_toInt_le.mp (Int32.not_lt.mp c_12)
                    have z_4 := Int32.lt_iff_toInt_lt.mp (Int32.not_le.mp c_13)
                    have z_5 := Int32.le_iff_toInt_le.mp (Int32.not_lt.mp c_22)
                    have z_6 := Int32.lt_iff_toInt_lt.mp (Int32.not_le.mp c_23)
                    have z_7 := Int32.le_iff_toInt_le.mp (Int32.not_lt.mp c_32)
                    have z_8 := Int32.lt_iff_toInt_lt.mp (Int32.not_le.mp c_33)
                    have y_0 : (0 : Int32).toInt = 0 := by decide
                    have y_400 : (400 : Int32).toInt = 400 := by decide
                    have y_1 : (1 : Int32).toInt = 1 := by decide
                    have t_x_10 : x_10.toInt = ((Tv 0) : Int32).toInt + (1 : Int32).toInt := by rw [ex_10]; exact add_toInt (by omega) (by omega)
                    have t_x_20 : x_20.toInt = (x_10 : Int32).toInt + (1 : Int32).toInt := by rw [ex_20]; exact add_toInt (by omega) (by omega)
                    have t_x_30 : x_30.toInt = (x_20 : Int32).toInt + (1 : Int32).toInt := by rw [ex_30]; exact add_toInt (by omega) (by omega)
                    have t_x_40 : x_40.toInt = (x_30 : Int32).toInt + (1 : Int32).toInt := by rw [ex_40]; exact add_toInt (by omega) (by omega)
                    omega
                  refine lv_iinc (v := (-8)) (lv' := [(2, .int (-8)), (0, .ref (Ta 0)), (1, .int x1)]) hx hb dX10_add_52 hl (k := 0) rfl (by decide) (by decide) rfl (fun ls hl₀ => ?_)
                  replace hl := hl₀
                  clear hl₀
                  refine lv_goto (tgt := 3) hx hb dX10_add_55 (by decide) ?_
                  refine lv_iload_n hx hb dX10_add_3 rfl (lv_at hl 0 rfl) ?_
                  refine lv_if_lt (tgt := 58) hx hb dX10_add_4 (by decide) (fun c_41 => ?_) (fun c_41 => absurd c_41 (by decide))
                  have ha_42 : 0 ≤ (x_40 : Int32).toInt ∧ (x_40 : Int32).toInt ≤ 400 ∧ 0 ≤ ((Tv 1) : Int32).toInt ∧ ((Tv 1) : Int32).toInt ≤ 400 ∧ 0 ≤ ((Tv 2) : Int32).toInt ∧ ((Tv 2) : Int32).toInt ≤ 400 := by
                    have z_1 := Int32.le_iff_toInt_le.mp (Int32.not_lt.mp c_2)
                    have z_2 := Int32.lt_iff_toInt_lt.mp (Int32.not_le.mp c_3)
                    have z_3 := Int32.le_iff_toInt_le.mp (Int32.not_lt.mp c_12)
                    have z_4 := Int32.lt_iff_toInt_lt.mp (Int32.not_le.mp c_13)
                    have z_5 := Int32.le_iff_toInt_le.mp (Int32.not_lt.mp c_22)
                    have z_6 := Int32.lt_iff_toInt_lt.mp (Int32.not_le.mp c_23)
                    have z_7 := Int32.le_iff_toInt_le.mp (Int32.not_lt.mp c_32)
                    have z_8 := Int32.lt_iff_toInt_lt.mp (Int32.not_le.mp c_33)
                    have y_0 : (0 : Int32).toInt = 0 := by decide
                    have y_400 : (400 : Int32).toInt = 400 := by decide
                    have y_1 : (1 : Int32).toInt = 1 := by decide
                    have t_x_10 : x_10.toInt = ((Tv 0) : Int32).toInt + (1 : Int32).toInt := by rw [ex_10]; exact add_toInt (by omega) (by omega)
                    have t_x_20 : x_20.toInt = (x_10 : Int32).toInt + (1 : Int32).toInt := by rw [ex_20]; exact add_toInt (by omega) (by omega)
                    have t_x_30 : x_30.toInt = (x_20 : Int32).toInt + (1 : Int32).toInt := by rw [ex_30]; exact add_toInt (by omega) (by omega)
                    have t_x_40 : x_40.toInt = (x_30 : Int32).toInt + (1 : Int32).toInt := by rw [ex_40]; exact add_toInt (by omega) (by omega)
                    omega
                  have ha_43 : (x_40 : Int32).toInt = (Tv 0).toInt + 4 := by
                    have z_1 := Int32.le_iff_toInt_le.mp (Int32.not_lt.mp c_2)
                    have z_2 := Int32.lt_iff_toInt_lt.mp (Int32.not_le.mp c_3)
                    have z_3 := Int32.le_iff_toInt_le.mp (Int32.not_lt.mp c_12)
                    have z_4 := Int32.lt_iff_toInt_lt.mp (Int32.not_le.mp c_13)
                    have z_5 := Int32.le_iff_toInt_le.mp (Int32.not_lt.mp c_22)
                    have z_6 := Int32.lt_iff_toInt_lt.mp (Int32.not_le.mp c_23)
                    have z_7 := Int32.le_iff_toInt_le.mp (Int32.not_lt.mp c_32)
                    have z_8 := Int32.lt_iff_toInt_lt.mp (Int32.not_le.mp c_33)
                    have y_0 : (0 : Int32).toInt = 0 := by decide
                    have y_400 : (400 : Int32).toInt = 400 := by decide
                    have y_1 : (1 : Int32).toInt = 1 := by decide
                    have t_x_10 : x_10.toInt = ((Tv 0) : Int32).toInt + (1 : Int32).toInt := by rw [ex_10]; exact add_toInt (by omega) (by omega)
                    have t_x_20 : x_20.toInt = (x_10 : Int32).toInt + (1 : Int32).toInt := by rw [ex_20]; exact add_toInt (by omega) (by omega)
                    have t_x_30 : x_30.toInt = (x_20 : Int32).toInt + (1 : Int32).toInt := by rw [ex_30]; exact add_toInt (by omega) (by omega)
                    have t_x_40 : x_40.toInt = (x_30 : Int32).toInt + (1 : Int32).toInt := by rw [ex_40]; exact add_toInt (by omega) (by omega)
                    omega
                  have hr_44 : ((Tv 0) : Int32).toInt = ((Tv 0) : Int32).toInt ∧ (x_10 : Int32).toInt = ((Tv 0) : Int32).toInt + 1 ∧ (x_20 : Int32).toInt = ((Tv 0) : Int32).toInt + 2 ∧ (x_30 : Int32).toInt = ((Tv 0) : Int32).toInt + 3 ∧ (x_40 : Int32).toInt = ((Tv 0) : Int32).toInt + 4 := by
                    have z_1 := Int32.le_iff_toInt_le.mp (Int32.not_lt.mp c_2)
                    have z_2 := Int32.lt_iff_toInt_lt.mp (Int32.not_le.mp c_3)
                    have z_3 := Int32.le_iff_toInt_le.mp (Int32.not_lt.mp c_12)
                    have z_4 := Int32.lt_iff_toInt_lt.mp (Int32.not_le.mp c_13)
                    have z_5 := Int32.le_iff_toInt_le.mp (Int32.not_lt.mp c_22)
                    have z_6 := Int32.lt_iff_toInt_lt.mp (Int32.not_le.mp c_23)
                    have z_7 := Int32.le_iff_toInt_le.mp (Int32.not_lt.mp c_32)
                    have z_8 := Int32.lt_iff_toInt_lt.mp (Int32.not_le.mp c_33)
                    have y_0 : (0 : Int32).toInt = 0 := by decide
                    have y_400 : (400 : Int32).toInt = 400 := by decide
                    have y_1 : (1 : Int32).toInt = 1 := by decide
                    have t_x_10 : x_10.toInt = ((Tv 0) : Int32).toInt + (1 : Int32).toInt := by rw [ex_10]; exact add_toInt (by omega) (by omega)
                    have t_x_20 : x_20.toInt = (x_10 : Int32).toInt + (1 : Int32).toInt := by rw [ex_20]; exact add_toInt (by omega) (by omega)
                    have t_x_30 : x_30.toInt = (x_20 : Int32).toInt + (1 : Int32).toInt := by rw [ex_30]; exact add_toInt (by omega) (by omega)
                    have t_x_40 : x_40.toInt = (x_30 : Int32).toInt + (1 : Int32).toInt := by rw [ex_40]; exact add_toInt (by omega) (by omega)
                    omega
                  have hr_45 : 0 ≤ ((Tv 0) : Int32).toInt := by
                    have z_1 := Int32.le_iff_toInt_le.mp (Int32.not_lt.mp c_2)
                    have z_2 := Int32.lt_iff_toInt_lt.mp (Int32.not_le.mp c_3)
                    have z_3 := Int32.le_iff_toInt_le.mp (Int32.not_lt.mp c_12)
                    have z_4 := Int32.lt_iff_toInt_lt.mp (Int32.not_le.mp c_13)
                    have z_5 := Int32.le_iff_toInt_le.mp (Int32.not_lt.mp c_22)
                    have z_6 := Int32.lt_iff_toInt_lt.mp (Int32.not_le.mp c_23)
                    have z_7 := Int32.le_iff_toInt_le.mp (Int32.not_lt.mp c_32)
                    have z_8 := Int32.lt_iff_toInt_lt.mp (Int32.not_le.mp c_33)
                    have y_0 : (0 : Int32).toInt = 0 := by decide
                    have y_400 : (400 : Int32).toInt = 400 := by decide
                    have y_1 : (1 : Int32).toInt = 1 := by decide
                    have t_x_10 : x_10.toInt = ((Tv 0) : Int32).toInt + (1 : Int32).toInt := by rw [ex_10]; exact add_toInt (by omega) (by omega)
                    have t_x_20 : x_20.toInt = (x_10 : Int32).toInt + (1 : Int32).toInt := by rw [ex_20]; exact add_toInt (by omega) (by omega)
                    have t_x_30 : x_30.toInt = (x_20 : Int32).toInt + (1 : Int32).toInt := by rw [ex_30]; exact add_toInt (by omega) (by omega)
                    omega
                  exact retV hx hb hr hlk hP hD hS (x_40, g_37) ⟨rfl, ha_42, ha_43, pf_39, (FdB.of hr_45 eg_7 eg_17 eg_27 eg_37 hr_44 hz_8.1 hz_18.1 hz_28.1 hz_38.1)⟩ [0, 1] rfl rfl dX10_add_58 (Nat.le_of_ble_eq_true rfl) (Nat.le_of_ble_eq_true rfl) rfl
set_option maxRecDepth 100000 in
theorem cu_fX10_add (l : Launch) (D : va_G) (tc : Nat → ClassId) (sk : (Nat → Nat) × (Nat → Nat)) (Ta_0 : Nat) (Ta_1 : Nat) (Tv_0 : Int32) (Tv_1 : Int32) (Tv_2 : Int32) (Tv_3 : Int32) (Tv_4 : Int32) (Tf_1 : Nat → Int32) (x1 : Int32) (h_tape : 0 ≤ (Tv_0 : Int32).toInt ∧ (Tv_0 : Int32).toInt ≤ 400 ∧ 0 ≤ (Tv_1 : Int32).toInt ∧ (Tv_1 : Int32).toInt ≤ 400 ∧ 0 ≤ (Tv_2 : Int32).toInt ∧ (Tv_2 : Int32).toInt ≤ 400) (h_by : Byt Tf_1) (hroom : Tv_0.toInt ≤ 396) : Ct l yX10_add cX10_add 3 none { frames := 0, cells := 0, slots := 0, locals := 0 } D tc sk [.ref Ta_0, .int x1] [(Ta_0, .inr (10, [.ref Ta_1, .int Tv_0, .int Tv_1, .int Tv_2, .int Tv_3, .int Tv_4])), (Ta_1, .inl (tc 0, 400, .inl Tf_1))] (fun (v : Option Value) (u : (Int32) × (Nat → Int32)) => match u with | (oo0x1, oo0x2) => v = none ∧ (0 ≤ (oo0x1 : Int32).toInt ∧ (oo0x1 : Int32).toInt ≤ 400 ∧ 0 ≤ (Tv_1 : Int32).toInt ∧ (Tv_1 : Int32).toInt ≤ 400 ∧ 0 ≤ (Tv_2 : Int32).toInt ∧ (Tv_2 : Int32).toInt ≤ 400) ∧ ((oo0x1 : Int32).toInt = Tv_0.toInt + 4) ∧ (Byt oo0x2) ∧ (FdB Tf_1 oo0x2 Tv_0 oo0x1 x1)) (fun (u : (Int32) × (Nat → Int32)) => match u with | (oo0x1, oo0x2) => [(Ta_0, .inr (10, [.ref Ta_1, .int oo0x1, .int Tv_1, .int Tv_2, .int Tv_3, .int Tv_4])), (Ta_1, .inl (tc 0, 400, .inl oo0x2))]) 0 0 :=
  ct_fX10_add l D tc sk (fun k => ([Ta_0, Ta_1] : List (Nat)).getD k 0) (fun k => ([Tv_0, Tv_1, Tv_2, Tv_3, Tv_4] : List (Int32)).getD k 0) (fun k => ([(fun _ => 0), Tf_1] : List (Nat → Int32)).getD k (fun _ => 0)) x1 h_tape h_by hroom
set_option maxHeartbeats 4000000 in
set_option maxRecDepth 100000 in
theorem ct_fX11_feed (l : Launch) (D : va_G) (tc : Nat → ClassId) (sk : (Nat → Nat) × (Nat → Nat)) (Ga : Nat → Nat) (Gv : Nat → Int32) (Ta : Nat → Nat) (Tv : Nat → Int32) (Tf : Nat → Nat → Int32) (x1 : Int32) (x2 : Int32) (x3 : Int32) (x4 : Int32) (x5 : Int32) (h_tape : 0 ≤ ((Tv 0) : Int32).toInt ∧ ((Tv 0) : Int32).toInt ≤ 400 ∧ 0 ≤ ((Tv 1) : Int32).toInt ∧ ((Tv 1) : Int32).toInt ≤ 400 ∧ 0 ≤ ((Tv 2) : Int32).toInt ∧ ((Tv 2) : Int32).toInt ≤ 400) (h_by : Byt (Tf 1)) : Ct l yX11_feed cX11_feed 6 (some .int) { frames := 1, cells := 0, slots := 0, locals := 22 } D tc sk [.ref (Ga 0), .int x1, .int x2, .int x3, .int x4, .int x5] [((Ga 0), .inr (11, [.ref (Ta 0), .ref (Ga 2), .ref (Ga 3), .ref (Ga 4), .int (Gv 0), .ref (Ga 5), .ref (Ga 6), .ref (Ga 7), .ref (Ga 8), .ref (Ga 9), .ref (Ga 10), .ref (Ga 11)])), ((Ta 0), .inr (10, [.ref (Ta 1), .int (Tv 0), .int (Tv 1), .int (Tv 2), .int (Tv 3), .int (Tv 4)])), ((Ta 1), .inl (tc 0, 400, .inl (Tf 1)))] (fun (v : Option Value) (u : (Int32) × (Nat → Int32)) => match u with | (oo0x1, oo0x2) => ∃ r : Int32, v = some (.int r) ∧ (FeP (Tf 1) oo0x2 (Tv 0) oo0x1 x1 x2 x3 x4 x5 r) ∧ (0 ≤ (oo0x1 : Int32).toInt ∧ (oo0x1 : Int32).toInt ≤ 400 ∧ 0 ≤ ((Tv 1) : Int32).toInt ∧ ((Tv 1) : Int32).toInt ≤ 400 ∧ 0 ≤ ((Tv 2) : Int32).toInt ∧ ((Tv 2) : Int32).toInt ≤ 400) ∧ (Byt oo0x2)) (fun (u : (Int32) × (Nat → Int32)) => match u with | (oo0x1, oo0x2) => [((Ga 0), .inr (11, [.ref (Ta 0), .ref (Ga 2), .ref (Ga 3), .ref (Ga 4), .int (Gv 0), .ref (Ga 5), .ref (Ga 6), .ref (Ga 7), .ref (Ga 8), .ref (Ga 9), .ref (Ga 10), .ref (Ga 11)])), ((Ta 0), .inr (10, [.ref (Ta 1), .int oo0x1, .int (Tv 1), .int (Tv 2), .int (Tv 3), .int (Tv 4)])), ((Ta 1), .inl (tc 0, 400, .inl oo0x2))]) 0 0 := by
  refine Ct.start (by decide) (Nat.le_of_ble_eq_true rfl) (fun p e s m below meth c A ls hx hb hr hlk hin hml hown hts hK hX hP hD hA hl hS => ?_)
  have hl : lv_has ls 6 [(0, .ref (Ga 0)), (1, .int x1), (2, .int x2), (3, .int x3), (4, .int x4), (5, .int x5)] := hl
  refine lv_aload_n hx hb dX11_feed_0 rfl (lv_at hl 0 rfl) ?_
  refine gf_X11_10 hx hb hts hown hK hP 0 rfl rfl dX11_feed_1 ?_
  refine cV (a := (Ta 0)) (As := []) (rest := []) (wr := [((Ga 0), .inr (11, [.ref (Ta 0), .ref (Ga 2), .ref (Ga 3), .ref (Ga 4), .int (Gv 0), .ref (Ga 5), .ref (Ga 6), .ref (Ga 7), .ref (Ga 8), .ref (Ga 9), .ref (Ga 10), .ref (Ga 11)]))]) ⟨hx, hb, hml, hown, hts⟩ hK hX hA (cu_fX10_hasRoom l D tc sk (Ta 0) (Ta 1) (Tv 0) (Tv 1) (Tv 2) (Tv 3) (Tv 4) (Tf 1) h_tape) k_450 k_447 k_448 k_449 k_96 pl_X10_hasRoom ⟨Nat.le_of_ble_eq_true rfl, Nat.le_of_ble_eq_true rfl⟩ rfl rfl (va_recv hK hP (ci := 10) (q0 := 1) rfl rfl) hP hD hS [1, 2] [0] rfl rfl rfl rfl rfl (by decide) rfl hl.1 rfl (Nat.le_of_ble_eq_true rfl) dX11_feed_4 ⟨Nat.le_of_ble_eq_true rfl, Nat.le_of_ble_eq_true rfl⟩ (fun v_1 u_2 H locs hv_3 hP₀ hD₀ hS₀ => ?_)
  obtain ⟨r_4, rfl, he_5⟩ := hv_3
  have he_5 : ((r_4.toInt = 0 ∧ 380 < (Tv 0).toInt) ∨ (r_4.toInt = 1 ∧ (Tv 0).toInt ≤ 380)) := he_5
  refine W.eq (g2 := F0 m 7 ls [.int r_4]) rfl ?_
  replace hP : va_P D classes [((Ga 0), .inr (11, [.ref (Ta 0), .ref (Ga 2), .ref (Ga 3), .ref (Ga 4), .int (Gv 0), .ref (Ga 5), .ref (Ga 6), .ref (Ga 7), .ref (Ga 8), .ref (Ga 9), .ref (Ga 10), .ref (Ga 11)])), ((Ta 0), .inr (10, [.ref (Ta 1), .int (Tv 0), .int (Tv 1), .int (Tv 2), .int (Tv 3), .int (Tv 4)])), ((Ta 1), .inl (tc 0, 400, .inl (Tf 1)))] H := hP₀
  replace hD : va_D A [((Ga 0), .inr (11, [.ref (Ta 0), .ref (Ga 2), .ref (Ga 3), .ref (Ga 4), .int (Gv 0), .ref (Ga 5), .ref (Ga 6), .ref (Ga 7), .ref (Ga 8), .ref (Ga 9), .ref (Ga 10), .ref (Ga 11)])), ((Ta 0), .inr (10, [.ref (Ta 1), .int (Tv 0), .int (Tv 1), .int (Tv 2), .int (Tv 3), .int (Tv 4)])), ((Ta 1), .inl (tc 0, 400, .inl (Tf 1)))] := hD₀
  replace hS := hS₀
  clear hP₀ hD₀ hS₀
  refine lv_if_ne (tgt := 12) hx hb dX11_feed_7 (by decide) (fun c_7 => ?_) (fun c_7 => ?_)
  · skip
    refine lv_aload_n hx hb dX11_feed_12 rfl (lv_at hl 0 rfl) ?_
    refine gf_X11_10 hx hb hts hown hK hP 0 rfl rfl dX11_feed_13 ?_
    refine lv_iload_n hx hb dX11_feed_16 rfl (lv_at hl 1 rfl) ?_
    have ha_8 : (Tv 0).toInt ≤ 396 := by
      have z_1 : ¬ (r_4 : Int32).toInt = (0 : Int32).toInt := fun z => c_7 (Int32.toInt_inj.mp z)
      have y_0 : (0 : Int32).toInt = 0 := by decide
      omega
    refine cV (a := (Ta 0)) (As := [.int x1]) (rest := []) (wr := [((Ga 0), .inr (11, [.ref (Ta 0), .ref (Ga 2), .ref (Ga 3), .ref (Ga 4), .int (Gv 0), .ref (Ga 5), .ref (Ga 6), .ref (Ga 7), .ref (Ga 8), .ref (Ga 9), .ref (Ga 10), .ref (Ga 11)]))]) ⟨hx, hb, hml, hown, hts⟩ hK hX hA (cu_fX10_add l D tc sk (Ta 0) (Ta 1) (Tv 0) (Tv 1) (Tv 2) (Tv 3) (Tv 4) (Tf 1) x1 h_tape h_by ha_8) k_454 k_451 k_452 k_453 k_96 pl_X10_add ⟨Nat.le_of_ble_eq_true rfl, Nat.le_of_ble_eq_true rfl⟩ rfl rfl (va_recv hK hP (ci := 10) (q0 := 1) rfl rfl) hP hD hS [1, 2] [0] rfl rfl rfl rfl rfl (by decide) rfl hl.1 rfl (Nat.le_of_ble_eq_true rfl) dX11_feed_17 ⟨Nat.le_of_ble_eq_true rfl, Nat.le_of_ble_eq_true rfl⟩ (fun v_9 u_10 H locs hv_11 hP₀ hD₀ hS₀ => ?_)
    obtain ⟨sv_12, sv_13⟩ := u_10
    obtain ⟨rfl, pf_14, pf_15, pf_16, pf_17⟩ := hv_11
    have pf_14 : 0 ≤ (sv_12 : Int32).toInt ∧ (sv_12 : Int32).toInt ≤ 400 ∧ 0 ≤ ((Tv 1) : Int32).toInt ∧ ((Tv 1) : Int32).toInt ≤ 400 ∧ 0 ≤ ((Tv 2) : Int32).toInt ∧ ((Tv 2) : Int32).toInt ≤ 400 := pf_14
    have pf_15 : (sv_12 : Int32).toInt = (Tv 0).toInt + 4 := pf_15
    have pf_16 : Byt sv_13 := pf_16
    have pf_17 : FdB (Tf 1) sv_13 (Tv 0) sv_12 x1 := pf_17
    have ar_pf_17 := pf_17.1
    refine W.eq (g2 := F0 m 20 ls []) rfl ?_
    replace hP : va_P D classes [((Ga 0), .inr (11, [.ref (Ta 0), .ref (Ga 2), .ref (Ga 3), .ref (Ga 4), .int (Gv 0), .ref (Ga 5), .ref (Ga 6), .ref (Ga 7), .ref (Ga 8), .ref (Ga 9), .ref (Ga 10), .ref (Ga 11)])), ((Ta 0), .inr (10, [.ref (Ta 1), .int sv_12, .int (Tv 1), .int (Tv 2), .int (Tv 3), .int (Tv 4)])), ((Ta 1), .inl (tc 0, 400, .inl sv_13))] H := hP₀
    replace hD : va_D A [((Ga 0), .inr (11, [.ref (Ta 0), .ref (Ga 2), .ref (Ga 3), .ref (Ga 4), .int (Gv 0), .ref (Ga 5), .ref (Ga 6), .ref (Ga 7), .ref (Ga 8), .ref (Ga 9), .ref (Ga 10), .ref (Ga 11)])), ((Ta 0), .inr (10, [.ref (Ta 1), .int sv_12, .int (Tv 1), .int (Tv 2), .int (Tv 3), .int (Tv 4)])), ((Ta 1), .inl (tc 0, 400, .inl sv_13))] := hD₀
    replace hS := hS₀
    clear hP₀ hD₀ hS₀
    refine lv_aload_n hx hb dX11_feed_20 rfl (lv_at hl 0 rfl) ?_
    refine gf_X11_10 hx hb hts hown hK hP 0 rfl rfl dX11_feed_21 ?_
    refine lv_iload_n hx hb dX11_feed_24 rfl (lv_at hl 2 rfl) ?_
    have ha_18 : sv_12.toInt ≤ 396 := by
      have z_1 : ¬ (r_4 : Int32).toInt = (0 : Int32).toInt := fun z => c_7 (Int32.toInt_inj.mp z)
      have y_0 : (0 : Int32).toInt = 0 := by decide
      omega
    refine cV (a := (Ta 0)) (As := [.int x2]) (rest := []) (wr := [((Ga 0), .inr (11, [.ref (Ta 0), .ref (Ga 2), .ref (Ga 3), .ref (Ga 4), .int (Gv 0), .ref (Ga 5), .ref (Ga 6), .ref (Ga 7), .ref (Ga 8), .ref (Ga 9), .ref (Ga 10), .ref (Ga 11)]))]) ⟨hx, hb, hml, hown, hts⟩ hK hX hA (cu_fX10_add l D tc sk (Ta 0) (Ta 1) sv_12 (Tv 1) (Tv 2) (Tv 3) (Tv 4) sv_13 x2 pf_14 pf_16 ha_18) k_454 k_451 k_452 k_453 k_96 pl_X10_add ⟨Nat.le_of_ble_eq_true rfl, Nat.le_of_ble_eq_true rfl⟩ rfl rfl (va_recv hK hP (ci := 10) (q0 := 1) rfl rfl) hP hD hS [1, 2] [0] rfl rfl rfl rfl rfl (by decide) rfl hl.1 rfl (Nat.le_of_ble_eq_true rfl) dX11_feed_25 ⟨Nat.le_of_ble_eq_true rfl, Nat.le_of_ble_eq_true rfl⟩ (fun v_19 u_20 H locs hv_21 hP₀ hD₀ hS₀ => ?_)
    obtain ⟨sv_22, sv_23⟩ := u_20
    obtain ⟨rfl, pf_24, pf_25, pf_26, pf_27⟩ := hv_21
    have pf_24 : 0 ≤ (sv_22 : Int32).toInt ∧ (sv_22 : Int32).toInt ≤ 400 ∧ 0 ≤ ((Tv 1) : Int32).toInt ∧ ((Tv 1) : Int32).toInt ≤ 400 ∧ 0 ≤ ((Tv 2) : Int32).toInt ∧ ((Tv 2) : Int32).toInt ≤ 400 := pf_24
    have pf_25 : (sv_22 : Int32).toInt = sv_12.toInt + 4 := pf_25
    have pf_26 : Byt sv_23 := pf_26
    have pf_27 : FdB sv_13 sv_23 sv_12 sv_22 x2 := pf_27
    have ar_pf_27 := pf_27.1
    refine W.eq (g2 := F0 m 28 ls []) rfl ?_
    replace hP : va_P D classes [((Ga 0), .inr (11, [.ref (Ta 0), .ref (Ga 2), .ref (Ga 3), .ref (Ga 4), .int (Gv 0), .ref (Ga 5), .ref (Ga 6), .ref (Ga 7), .ref (Ga 8), .ref (Ga 9), .ref (Ga 10), .ref (Ga 11)])), ((Ta 0), .inr (10, [.ref (Ta 1), .int sv_22, .int (Tv 1), .int (Tv 2), .int (Tv 3), .int (Tv 4)])), ((Ta 1), .inl (tc 0, 400, .inl sv_23))] H := hP₀
    replace hD : va_D A [((Ga 0), .inr (11, [.ref (Ta 0), .ref (Ga 2), .ref (Ga 3), .ref (Ga 4), .int (Gv 0), .ref (Ga 5), .ref (Ga 6), .ref (Ga 7), .ref (Ga 8), .ref (Ga 9), .ref (Ga 10), .ref (Ga 11)])), ((Ta 0), .inr (10, [.ref (Ta 1), .int sv_22, .int (Tv 1), .int (Tv 2), .int (Tv 3), .int (Tv 4)])), ((Ta 1), .inl (tc 0, 400, .inl sv_23))] := hD₀
    replace hS := hS₀
    clear hP₀ hD₀ hS₀
    refine lv_aload_n hx hb dX11_feed_28 rfl (lv_at hl 0 rfl) ?_
    refine gf_X11_10 hx hb hts hown hK hP 0 rfl rfl dX11_feed_29 ?_
    refine lv_iload_n hx hb dX11_feed_32 rfl (lv_at hl 3 rfl) ?_
    have ha_28 : sv_22.toInt ≤ 396 := by
      have z_1 : ¬ (r_4 : Int32).toInt = (0 : Int32).toInt := fun z => c_7 (Int32.toInt_inj.mp z)
      have y_0 : (0 : Int32).toInt = 0 := by decide
      omega
    refine cV (a := (Ta 0)) (As := [.int x3]) (rest := []) (wr := [((Ga 0), .inr (11, [.ref (Ta 0), .ref (Ga 2), .ref (Ga 3), .ref (Ga 4), .int (Gv 0), .ref (Ga 5), .ref (Ga 6), .ref (Ga 7), .ref (Ga 8), .ref (Ga 9), .ref (Ga 10), .ref (Ga 11)]))]) ⟨hx, hb, hml, hown, hts⟩ hK hX hA (cu_fX10_add l D tc sk (Ta 0) (Ta 1) sv_22 (Tv 1) (Tv 2) (Tv 3) (Tv 4) sv_23 x3 pf_24 pf_26 ha_28) k_454 k_451 k_452 k_453 k_96 pl_X10_add ⟨Nat.le_of_ble_eq_true rfl, Nat.le_of_ble_eq_true rfl⟩ rfl rfl (va_recv hK hP (ci := 10) (q0 := 1) rfl rfl) hP hD hS [1, 2] [0] rfl rfl rfl rfl rfl (by decide) rfl hl.1 rfl (Nat.le_of_ble_eq_true rfl) dX11_feed_33 ⟨Nat.le_of_ble_eq_true rfl, Nat.le_of_ble_eq_true rfl⟩ (fun v_29 u_30 H locs hv_31 hP₀ hD₀ hS₀ => ?_)
    obtain ⟨sv_32, sv_33⟩ := u_30
    obtain ⟨rfl, pf_34, pf_35, pf_36, pf_37⟩ := hv_31
    have pf_34 : 0 ≤ (sv_32 : Int32).toInt ∧ (sv_32 : Int32).toInt ≤ 400 ∧ 0 ≤ ((Tv 1) : Int32).toInt ∧ ((Tv 1) : Int32).toInt ≤ 400 ∧ 0 ≤ ((Tv 2) : Int32).toInt ∧ ((Tv 2) : Int32).toInt ≤ 400 := pf_34
    have pf_35 : (sv_32 : Int32).toInt = sv_22.toInt + 4 := pf_35
    have pf_36 : Byt sv_33 := pf_36
    have pf_37 : FdB sv_23 sv_33 sv_22 sv_32 x3 := pf_37
    have ar_pf_37 := pf_37.1
    refine W.eq (g2 := F0 m 36 ls []) rfl ?_
    replace hP : va_P D classes [((Ga 0), .inr (11, [.ref (Ta 0), .ref (Ga 2), .ref (Ga 3), .ref (Ga 4), .int (Gv 0), .ref (Ga 5), .ref (Ga 6), .ref (Ga 7), .ref (Ga 8), .ref (Ga 9), .ref (Ga 10), .ref (Ga 11)])), ((Ta 0), .inr (10, [.ref (Ta 1), .int sv_32, .int (Tv 1), .int (Tv 2), .int (Tv 3), .int (Tv 4)])), ((Ta 1), .inl (tc 0, 400, .inl sv_33))] H := hP₀
    replace hD : va_D A [((Ga 0), .inr (11, [.ref (Ta 0), .ref (Ga 2), .ref (Ga 3), .ref (Ga 4), .int (Gv 0), .ref (Ga 5), .ref (Ga 6), .ref (Ga 7), .ref (Ga 8), .ref (Ga 9), .ref (Ga 10), .ref (Ga 11)])), ((Ta 0), .inr (10, [.ref (Ta 1), .int sv_32, .int (Tv 1), .int (Tv 2), .int (Tv 3), .int (Tv 4)])), ((Ta 1), .inl (tc 0, 400, .inl sv_33))] := hD₀
    replace hS := hS₀
    clear hP₀ hD₀ hS₀
    refine lv_aload_n hx hb dX11_feed_36 rfl (lv_at hl 0 rfl) ?_
    refine gf_X11_10 hx hb hts hown hK hP 0 rfl rfl dX11_feed_37 ?_
    refine lv_iload hx hb dX11_feed_40 (lv_at hl 4 rfl) ?_
    have ha_38 : sv_32.toInt ≤ 396 := by
      have z_1 : ¬ (r_4 : Int32).toInt = (0 : Int32).toInt := fun z => c_7 (Int32.toInt_inj.mp z)
      have y_0 : (0 : Int32).toInt = 0 := by decide
      omega
    refine cV (a := (Ta 0)) (As := [.int x4]) (rest := []) (wr := [((Ga 0), .inr (11, [.ref (Ta 0), .ref (Ga 2), .ref (Ga 3), .ref (Ga 4), .int (Gv 0), .ref (Ga 5), .ref (Ga 6), .ref (Ga 7), .ref (Ga 8), .ref (Ga 9), .ref (Ga 10), .ref (Ga 11)]))]) ⟨hx, hb, hml, hown, hts⟩ hK hX hA (cu_fX10_add l D tc sk (Ta 0) (Ta 1) sv_32 (Tv 1) (Tv 2) (Tv 3) (Tv 4) sv_33 x4 pf_34 pf_36 ha_38) k_454 k_451 k_452 k_453 k_96 pl_X10_add ⟨Nat.le_of_ble_eq_true rfl, Nat.le_of_ble_eq_true rfl⟩ rfl rfl (va_recv hK hP (ci := 10) (q0 := 1) rfl rfl) hP hD hS [1, 2] [0] rfl rfl rfl rfl rfl (by decide) rfl hl.1 rfl (Nat.le_of_ble_eq_true rfl) dX11_feed_42 ⟨Nat.le_of_ble_eq_true rfl, Nat.le_of_ble_eq_true rfl⟩ (fun v_39 u_40 H locs hv_41 hP₀ hD₀ hS₀ => ?_)
    obtain ⟨sv_42, sv_43⟩ := u_40
    obtain ⟨rfl, pf_44, pf_45, pf_46, pf_47⟩ := hv_41
    have pf_44 : 0 ≤ (sv_42 : Int32).toInt ∧ (sv_42 : Int32).toInt ≤ 400 ∧ 0 ≤ ((Tv 1) : Int32).toInt ∧ ((Tv 1) : Int32).toInt ≤ 400 ∧ 0 ≤ ((Tv 2) : Int32).toInt ∧ ((Tv 2) : Int32).toInt ≤ 400 := pf_44
    have pf_45 : (sv_42 : Int32).toInt = sv_32.toInt + 4 := pf_45
    have pf_46 : Byt sv_43 := pf_46
    have pf_47 : FdB sv_33 sv_43 sv_32 sv_42 x4 := pf_47
    have ar_pf_47 := pf_47.1
    refine W.eq (g2 := F0 m 45 ls []) rfl ?_
    replace hP : va_P D classes [((Ga 0), .inr (11, [.ref (Ta 0), .ref (Ga 2), .ref (Ga 3), .ref (Ga 4), .int (Gv 0), .ref (Ga 5), .ref (Ga 6), .ref (Ga 7), .ref (Ga 8), .ref (Ga 9), .ref (Ga 10), .ref (Ga 11)])), ((Ta 0), .inr (10, [.ref (Ta 1), .int sv_42, .int (Tv 1), .int (Tv 2), .int (Tv 3), .int (Tv 4)])), ((Ta 1), .inl (tc 0, 400, .inl sv_43))] H := hP₀
    replace hD : va_D A [((Ga 0), .inr (11, [.ref (Ta 0), .ref (Ga 2), .ref (Ga 3), .ref (Ga 4), .int (Gv 0), .ref (Ga 5), .ref (Ga 6), .ref (Ga 7), .ref (Ga 8), .ref (Ga 9), .ref (Ga 10), .ref (Ga 11)])), ((Ta 0), .inr (10, [.ref (Ta 1), .int sv_42, .int (Tv 1), .int (Tv 2), .int (Tv 3), .int (Tv 4)])), ((Ta 1), .inl (tc 0, 400, .inl sv_43))] := hD₀
    replace hS := hS₀
    clear hP₀ hD₀ hS₀
    refine lv_aload_n hx hb dX11_feed_45 rfl (lv_at hl 0 rfl) ?_
    refine gf_X11_10 hx hb hts hown hK hP 0 rfl rfl dX11_feed_46 ?_
    refine lv_iload hx hb dX11_feed_49 (lv_at hl 5 rfl) ?_
    have ha_48 : sv_42.toInt ≤ 396 := by
      have z_1 : ¬ (r_4 : Int32).toInt = (0 : Int32).toInt := fun z => c_7 (Int32.toInt_inj.mp z)
      have y_0 : (0 : Int32).toInt = 0 := by decide
      omega
    refine cV (a := (Ta 0)) (As := [.int x5]) (rest := []) (wr := [((Ga 0), .inr (11, [.ref (Ta 0), .ref (Ga 2), .ref (Ga 3), .ref (Ga 4), .int (Gv 0), .ref (Ga 5), .ref (Ga 6), .ref (Ga 7), .ref (Ga 8), .ref (Ga 9), .ref (Ga 10), .ref (Ga 11)]))]) ⟨hx, hb, hml, hown, hts⟩ hK hX hA (cu_fX10_add l D tc sk (Ta 0) (Ta 1) sv_42 (Tv 1) (Tv 2) (Tv 3) (Tv 4) sv_43 x5 pf_44 pf_46 ha_48) k_454 k_451 k_452 k_453 k_96 pl_X10_add ⟨Nat.le_of_ble_eq_true rfl, Nat.le_of_ble_eq_true rfl⟩ rfl rfl (va_recv hK hP (ci := 10) (q0 := 1) rfl rfl) hP hD hS [1, 2] [0] rfl rfl rfl rfl rfl (by decide) rfl hl.1 rfl (Nat.le_of_ble_eq_true rfl) dX11_feed_51 ⟨Nat.le_of_ble_eq_true rfl, Nat.le_of_ble_eq_true rfl⟩ (fun v_49 u_50 H locs hv_51 hP₀ hD₀ hS₀ => ?_)
    obtain ⟨sv_52, sv_53⟩ := u_50
    obtain ⟨rfl, pf_54, pf_55, pf_56, pf_57⟩ := hv_51
    have pf_54 : 0 ≤ (sv_52 : Int32).toInt ∧ (sv_52 : Int32).toInt ≤ 400 ∧ 0 ≤ ((Tv 1) : Int32).toInt ∧ ((Tv 1) : Int32).toInt ≤ 400 ∧ 0 ≤ ((Tv 2) : Int32).toInt ∧ ((Tv 2) : Int32).toInt ≤ 400 := pf_54
    have pf_55 : (sv_52 : Int32).toInt = sv_42.toInt + 4 := pf_55
    have pf_56 : Byt sv_53 := pf_56
    have pf_57 : FdB sv_43 sv_53 sv_42 sv_52 x5 := pf_57
    have ar_pf_57 := pf_57.1
    refine W.eq (g2 := F0 m 54 ls []) rfl ?_
    replace hP : va_P D classes [((Ga 0), .inr (11, [.ref (Ta 0), .ref (Ga 2), .ref (Ga 3), .ref (Ga 4), .int (Gv 0), .ref (Ga 5), .ref (Ga 6), .ref (Ga 7), .ref (Ga 8), .ref (Ga 9), .ref (Ga 10), .ref (Ga 11)])), ((Ta 0), .inr (10, [.ref (Ta 1), .int sv_52, .int (Tv 1), .int (Tv 2), .int (Tv 3), .int (Tv 4)])), ((Ta 1), .inl (tc 0, 400, .inl sv_53))] H := hP₀
    replace hD : va_D A [((Ga 0), .inr (11, [.ref (Ta 0), .ref (Ga 2), .ref (Ga 3), .ref (Ga 4), .int (Gv 0), .ref (Ga 5), .ref (Ga 6), .ref (Ga 7), .ref (Ga 8), .ref (Ga 9), .ref (Ga 10), .ref (Ga 11)])), ((Ta 0), .inr (10, [.ref (Ta 1), .int sv_52, .int (Tv 1), .int (Tv 2), .int (Tv 3), .int (Tv 4)])), ((Ta 1), .inl (tc 0, 400, .inl sv_53))] := hD₀
    replace hS := hS₀
    clear hP₀ hD₀ hS₀
    refine lv_aload_n hx hb dX11_feed_54 rfl (lv_at hl 0 rfl) ?_
    refine gf_X11_10 hx hb hts hown hK hP 0 rfl rfl dX11_feed_55 ?_
    refine gf_X11_94 hx hb hts hown hK hP 1 rfl rfl dX11_feed_58 ?_
    have hr_58 : (Tv 0).toInt ≤ 380 := by
      have z_1 : ¬ (r_4 : Int32).toInt = (0 : Int32).toInt := fun z => c_7 (Int32.toInt_inj.mp z)
      have y_0 : (0 : Int32).toInt = 0 := by decide
      omega
    exact retI (v := sv_52) hx hb hr hlk (rfl) hP hD hS (sv_52, sv_53) ⟨_, rfl, (Or.inr ⟨hr_58, rfl, _, _, _, _, _, _, _, _, pf_17, pf_27, pf_37, pf_47, pf_57⟩), pf_54, pf_56⟩ [0, 1, 2] rfl rfl dX11_feed_61 (Nat.le_of_ble_eq_true rfl) (Nat.le_of_ble_eq_true rfl) rfl
  · skip
    refine lv_iconst (v := (-1)) hx hb dX11_feed_10 (by decide) ?_
    have hr_59 : 380 < (Tv 0).toInt := by
      have z_1 := congrArg Int32.toInt c_7
      have y_0 : (0 : Int32).toInt = 0 := by decide
      omega
    have hr_60 : ((-1) : Int32).toInt = -1 := by
      have z_1 := congrArg Int32.toInt c_7
      have y_0 : (0 : Int32).toInt = 0 := by decide
      have y_m1 : (-1 : Int32).toInt = -1 := by decide
      omega
    exact retI (v := (-1)) hx hb hr hlk (rfl) hP hD hS ((Tv 0), (Tf 1)) ⟨_, rfl, (Or.inl ⟨hr_59, hr_60, rfl, rfl⟩), h_tape, h_by⟩ [0, 1, 2] rfl rfl dX11_feed_11 (Nat.le_of_ble_eq_true rfl) (Nat.le_of_ble_eq_true rfl) rfl
set_option maxHeartbeats 4000000 in
set_option maxRecDepth 100000 in
theorem ct_fX11_end (l : Launch) (D : va_G) (tc : Nat → ClassId) (sk : (Nat → Nat) × (Nat → Nat)) (Ga : Nat → Nat) (Gv : Nat → Int32) (Ta : Nat → Nat) (Tv : Nat → Int32) (Tf : Nat → Nat → Int32) (x1 : Int32) (h_tape : 0 ≤ ((Tv 0) : Int32).toInt ∧ ((Tv 0) : Int32).toInt ≤ 400 ∧ 0 ≤ ((Tv 1) : Int32).toInt ∧ ((Tv 1) : Int32).toInt ≤ 400 ∧ 0 ≤ ((Tv 2) : Int32).toInt ∧ ((Tv 2) : Int32).toInt ≤ 400) : Ct l yX11_end cX11_end 2 (some .int) { frames := 0, cells := 0, slots := 0, locals := 0 } D tc sk [.ref (Ga 0), .int x1] [((Ga 0), .inr (11, [.ref (Ta 0), .ref (Ga 2), .ref (Ga 3), .ref (Ga 4), .int (Gv 0), .ref (Ga 5), .ref (Ga 6), .ref (Ga 7), .ref (Ga 8), .ref (Ga 9), .ref (Ga 10), .ref (Ga 11)])), ((Ta 0), .inr (10, [.ref (Ta 1), .int (Tv 0), .int (Tv 1), .int (Tv 2), .int (Tv 3), .int (Tv 4)])), ((Ta 1), .inl (tc 0, 400, .inl (Tf 1)))] (fun (v : Option Value) (oo0x1 : Int32) => ∃ r : Int32, v = some (.int r) ∧ (EnP (Tv 0) oo0x1 x1 r) ∧ (0 ≤ (oo0x1 : Int32).toInt ∧ (oo0x1 : Int32).toInt ≤ 400 ∧ 0 ≤ ((Tv 1) : Int32).toInt ∧ ((Tv 1) : Int32).toInt ≤ 400 ∧ 0 ≤ ((Tv 2) : Int32).toInt ∧ ((Tv 2) : Int32).toInt ≤ 400)) (fun (oo0x1 : Int32) => [((Ga 0), .inr (11, [.ref (Ta 0), .ref (Ga 2), .ref (Ga 3), .ref (Ga 4), .int (Gv 0), .ref (Ga 5), .ref (Ga 6), .ref (Ga 7), .ref (Ga 8), .ref (Ga 9), .ref (Ga 10), .ref (Ga 11)])), ((Ta 0), .inr (10, [.ref (Ta 1), .int oo0x1, .int (Tv 1), .int (Tv 2), .int (Tv 3), .int (Tv 4)])), ((Ta 1), .inl (tc 0, 400, .inl (Tf 1)))]) 0 0 := by
  refine Ct.start (by decide) (Nat.le_of_ble_eq_true rfl) (fun p e s m below meth c A ls hx hb hr hlk hin hml hown hts hK hX hP hD hA hl hS => ?_)
  have hl : lv_has ls 2 [(0, .ref (Ga 0)), (1, .int x1)] := hl
  refine lv_iload_n hx hb dX11_end_0 rfl (lv_at hl 1 rfl) ?_
  refine lv_if_lt (tgt := 15) hx hb dX11_end_1 (by decide) (fun c_1 => ?_) (fun c_1 => ?_)
  · skip
    refine lv_iconst (v := (-1)) hx hb dX11_end_15 (by decide) ?_
    have hr_2 : x1.toInt < 0 ∨ (Tv 0).toInt < x1.toInt := by
      have z_1 := Int32.lt_iff_toInt_lt.mp c_1
      have y_0 : (0 : Int32).toInt = 0 := by decide
      omega
    have hr_3 : ((-1) : Int32).toInt = -1 := by
      have z_1 := Int32.lt_iff_toInt_lt.mp c_1
      have y_0 : (0 : Int32).toInt = 0 := by decide
      have y_m1 : (-1 : Int32).toInt = -1 := by decide
      omega
    exact retI (v := (-1)) hx hb hr hlk (rfl) hP hD hS (Tv 0) ⟨_, rfl, (Or.inl ⟨hr_2, hr_3, rfl⟩), h_tape⟩ [0, 1, 2] rfl rfl dX11_end_16 (Nat.le_of_ble_eq_true rfl) (Nat.le_of_ble_eq_true rfl) rfl
  · skip
    refine lv_iload_n hx hb dX11_end_4 rfl (lv_at hl 1 rfl) ?_
    refine lv_aload_n hx hb dX11_end_5 rfl (lv_at hl 0 rfl) ?_
    refine gf_X11_10 hx hb hts hown hK hP 0 rfl rfl dX11_end_6 ?_
    refine gf_X11_94 hx hb hts hown hK hP 1 rfl rfl dX11_end_9 ?_
    refine lv_icmp_le (tgt := 17) hx hb dX11_end_12 (by decide) (fun c_4 => ?_) (fun c_4 => ?_)
    · skip
      refine lv_aload_n hx hb dX11_end_17 rfl (lv_at hl 0 rfl) ?_
      refine gf_X11_10 hx hb hts hown hK hP 0 rfl rfl dX11_end_18 ?_
      refine lv_iload_n hx hb dX11_end_21 rfl (lv_at hl 1 rfl) ?_
      refine pf_X11_94 hx hb hts hown hK hP hD hS 1 rfl (Nat.le_of_ble_eq_true rfl) rfl rfl dX11_end_22 (fun H locs hP₀ hD₀ hS₀ => ?_)
      replace hP : va_P D classes [((Ga 0), .inr (11, [.ref (Ta 0), .ref (Ga 2), .ref (Ga 3), .ref (Ga 4), .int (Gv 0), .ref (Ga 5), .ref (Ga 6), .ref (Ga 7), .ref (Ga 8), .ref (Ga 9), .ref (Ga 10), .ref (Ga 11)])), ((Ta 0), .inr (10, [.ref (Ta 1), .int x1, .int (Tv 1), .int (Tv 2), .int (Tv 3), .int (Tv 4)])), ((Ta 1), .inl (tc 0, 400, .inl (Tf 1)))] H := hP₀
      replace hD : va_D A [((Ga 0), .inr (11, [.ref (Ta 0), .ref (Ga 2), .ref (Ga 3), .ref (Ga 4), .int (Gv 0), .ref (Ga 5), .ref (Ga 6), .ref (Ga 7), .ref (Ga 8), .ref (Ga 9), .ref (Ga 10), .ref (Ga 11)])), ((Ta 0), .inr (10, [.ref (Ta 1), .int x1, .int (Tv 1), .int (Tv 2), .int (Tv 3), .int (Tv 4)])), ((Ta 1), .inl (tc 0, 400, .inl (Tf 1)))] := hD₀
      replace hS := hS₀
      clear hP₀ hD₀ hS₀
      refine lv_iload_n hx hb dX11_end_25 rfl (lv_at hl 1 rfl) ?_
      have ha_5 : 0 ≤ (x1 : Int32).toInt ∧ (x1 : Int32).toInt ≤ 400 ∧ 0 ≤ ((Tv 1) : Int32).toInt ∧ ((Tv 1) : Int32).toInt ≤ 400 ∧ 0 ≤ ((Tv 2) : Int32).toInt ∧ ((Tv 2) : Int32).toInt ≤ 400 := by
        have z_1 := Int32.le_iff_toInt_le.mp (Int32.not_lt.mp c_1)
        have z_2 := Int32.le_iff_toInt_le.mp c_4
        have y_0 : (0 : Int32).toInt = 0 := by decide
        omega
      have hr_6 : 0 ≤ x1.toInt ∧ x1.toInt ≤ (Tv 0).toInt := by
        have z_1 := Int32.le_iff_toInt_le.mp (Int32.not_lt.mp c_1)
        have z_2 := Int32.le_iff_toInt_le.mp c_4
        have y_0 : (0 : Int32).toInt = 0 := by decide
        omega
      exact retI (v := x1) hx hb hr hlk (rfl) hP hD hS x1 ⟨_, rfl, (Or.inr ⟨hr_6, rfl, rfl⟩), ha_5⟩ [0, 1, 2] rfl rfl dX11_end_26 (Nat.le_of_ble_eq_true rfl) (Nat.le_of_ble_eq_true rfl) rfl
    · skip
      refine lv_iconst (v := (-1)) hx hb dX11_end_15 (by decide) ?_
      have hr_7 : x1.toInt < 0 ∨ (Tv 0).toInt < x1.toInt := by
        have z_1 := Int32.le_iff_toInt_le.mp (Int32.not_lt.mp c_1)
        have z_2 := Int32.lt_iff_toInt_lt.mp (Int32.not_le.mp c_4)
        have y_0 : (0 : Int32).toInt = 0 := by decide
        omega
      have hr_8 : ((-1) : Int32).toInt = -1 := by
        have z_1 := Int32.le_iff_toInt_le.mp (Int32.not_lt.mp c_1)
        have z_2 := Int32.lt_iff_toInt_lt.mp (Int32.not_le.mp c_4)
        have y_0 : (0 : Int32).toInt = 0 := by decide
        have y_m1 : (-1 : Int32).toInt = -1 := by decide
        omega
      exact retI (v := (-1)) hx hb hr hlk (rfl) hP hD hS (Tv 0) ⟨_, rfl, (Or.inl ⟨hr_7, hr_8, rfl⟩), h_tape⟩ [0, 1, 2] rfl rfl dX11_end_16 (Nat.le_of_ble_eq_true rfl) (Nat.le_of_ble_eq_true rfl) rfl
