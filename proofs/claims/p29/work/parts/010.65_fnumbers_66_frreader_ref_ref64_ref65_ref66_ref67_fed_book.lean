set_option maxRecDepth 16384
set_option maxHeartbeats 4000000 in
set_option maxRecDepth 100000 in
theorem ct_fX10_numberHere (l : Launch) (D : va_G) (tc : Nat → ClassId) (sk : (Nat → Nat) × (Nat → Nat)) (Ta : Nat → Nat) (Tv : Nat → Int32) (Tf : Nat → Nat → Int32) (x1 : Int32) (x2 : Int32) (rr : Except Int (Nat × Nat)) (lo : Int) (hi : Int) (h_tape : 0 ≤ ((Tv 0) : Int32).toInt ∧ ((Tv 0) : Int32).toInt ≤ 400 ∧ 0 ≤ ((Tv 1) : Int32).toInt ∧ ((Tv 1) : Int32).toInt ≤ 400 ∧ 0 ≤ ((Tv 2) : Int32).toInt ∧ ((Tv 2) : Int32).toInt ≤ 400) (h_by : Byt (Tf 1)) (h_r : TpR (Tf 1) (Tv 0) rr (Tv 1) (Tv 2) (Tv 3) (Tv 4)) (h_lo : x1.toInt = lo) (h_hi : x2.toInt = hi) : Ct l yX10_numberHere cX10_numberHere 5 (some .int) { frames := 1, cells := 0, slots := 0, locals := 21 } D tc sk [.ref (Ta 0), .int x1, .int x2] [((Ta 0), .inr (10, [.ref (Ta 1), .int (Tv 0), .int (Tv 1), .int (Tv 2), .int (Tv 3), .int (Tv 4)])), ((Ta 1), .inl (tc 0, 400, .inl (Tf 1)))] (fun (v : Option Value) (u : (Int32) × (Int32)) => match u with | (oo0x1, oo0x2) => ∃ r : Int32, v = some (.int r) ∧ (NuV (cB (Tf 1) (Tv 0)) lo hi rr r) ∧ (0 ≤ ((Tv 0) : Int32).toInt ∧ ((Tv 0) : Int32).toInt ≤ 400 ∧ 0 ≤ ((Tv 1) : Int32).toInt ∧ ((Tv 1) : Int32).toInt ≤ 400 ∧ 0 ≤ ((Tv 2) : Int32).toInt ∧ ((Tv 2) : Int32).toInt ≤ 400) ∧ (TpR (Tf 1) (Tv 0) (rNU (cB (Tf 1) (Tv 0)) lo hi rr) (Tv 1) (Tv 2) oo0x1 oo0x2)) (fun (u : (Int32) × (Int32)) => match u with | (oo0x1, oo0x2) => [((Ta 0), .inr (10, [.ref (Ta 1), .int (Tv 0), .int (Tv 1), .int (Tv 2), .int oo0x1, .int oo0x2])), ((Ta 1), .inl (tc 0, 400, .inl (Tf 1)))]) 0 0 := by
  refine Ct.start (by decide) (Nat.le_of_ble_eq_true rfl) (fun p e s m below meth c A ls hx hb hr hlk hin hml hown hts hK hX hP hD hA hl hS => ?_)
  have hl : lv_has ls 5 [(0, .ref (Ta 0)), (1, .int x1), (2, .int x2)] := hl
  have tb_1 : TpB (rTE (cB (Tf 1) (Tv 0)) rr) (Tv 2) (Tv 4) := TpR.tb h_r
  have htlt := fun z : 0 ≤ (Tv 3).toInt => TpR.lt h_r z
  refine lv_aload_n hx hb dX10_numberHere_0 rfl (lv_at hl 0 rfl) ?_
  refine gf_X10_25 hx hb hts hown hK hP 0 rfl rfl dX10_numberHere_1 ?_
  refine cS (As := [.int (Tv 3)]) (rest := []) (wr := [((Ta 0), .inr (10, [.ref (Ta 1), .int (Tv 0), .int (Tv 1), .int (Tv 2), .int (Tv 3), .int (Tv 4)])), ((Ta 1), .inl (tc 0, 400, .inl (Tf 1)))]) ⟨hx, hb, hml, hown, hts⟩ hK hX hA (ct_fX10_isDigit l D tc sk (Tv 3)) k_488 k_486 k_487 k_96 pl_X10_isDigit ⟨Nat.le_of_ble_eq_true rfl, Nat.le_of_ble_eq_true rfl⟩ rfl rfl  hP hD hS [] [0, 1] rfl rfl rfl rfl rfl (by decide) rfl hl.1 rfl (Nat.le_of_ble_eq_true rfl) dX10_numberHere_4 ⟨Nat.le_of_ble_eq_true rfl, Nat.le_of_ble_eq_true rfl⟩ (fun v_2 u_3 H locs hv_4 hP₀ hD₀ hS₀ => ?_)
  obtain ⟨r_5, rfl, he_6⟩ := hv_4
  have he_6 : ((r_5.toInt = 1 ∧ 48 ≤ (Tv 3).toInt ∧ (Tv 3).toInt ≤ 57) ∨ (r_5.toInt = 0 ∧ ((Tv 3).toInt < 48 ∨ 57 < (Tv 3).toInt))) := he_6
  refine W.eq (g2 := F0 m 7 ls [.int r_5]) rfl ?_
  replace hP : va_P D classes [((Ta 0), .inr (10, [.ref (Ta 1), .int (Tv 0), .int (Tv 1), .int (Tv 2), .int (Tv 3), .int (Tv 4)])), ((Ta 1), .inl (tc 0, 400, .inl (Tf 1)))] H := hP₀
  replace hD : va_D A [((Ta 0), .inr (10, [.ref (Ta 1), .int (Tv 0), .int (Tv 1), .int (Tv 2), .int (Tv 3), .int (Tv 4)])), ((Ta 1), .inl (tc 0, 400, .inl (Tf 1)))] := hD₀
  replace hS := hS₀
  clear hP₀ hD₀ hS₀
  refine lv_if_ne (tgt := 17) hx hb dX10_numberHere_7 (by decide) (fun c_8 => ?_) (fun c_8 => ?_)
  · skip
    refine lv_aload_n hx hb dX10_numberHere_17 rfl (lv_at hl 0 rfl) ?_
    refine gf_X10_22 hx hb hts hown hK hP 0 rfl rfl dX10_numberHere_18 ?_
    refine lv_aload_n hx hb dX10_numberHere_21 rfl (lv_at hl 0 rfl) ?_
    refine gf_X10_19 hx hb hts hown hK hP 0 rfl rfl dX10_numberHere_22 ?_
    refine lv_isub hx hb dX10_numberHere_25 ?_
    refine lv_topi (fun x_9 ex_9 => ?_)
    refine lv_iconst (v := 5) hx hb dX10_numberHere_26 (by decide) ?_
    refine lv_icmp_le (tgt := 37) hx hb dX10_numberHere_27 (by decide) (fun c_10 => ?_) (fun c_10 => ?_)
    · skip
      refine lv_iconst (v := 0) hx hb dX10_numberHere_37 (by decide) ?_
      refine lv_istore_n (lv' := [(3, .int 0), (0, .ref (Ta 0)), (1, .int x1), (2, .int x2)]) hx hb dX10_numberHere_38 rfl hl (by decide) rfl (fun ls hl₀ => ?_)
      replace hl := hl₀
      clear hl₀
      refine lv_aload_n hx hb dX10_numberHere_39 rfl (lv_at hl 1 rfl) ?_
      refine gf_X10_19 hx hb hts hown hK hP 0 rfl rfl dX10_numberHere_40 ?_
      refine lv_istore (lv' := [(4, .int (Tv 1)), (3, .int 0), (0, .ref (Ta 0)), (1, .int x1), (2, .int x2)]) hx hb dX10_numberHere_43 hl (by decide) rfl (fun ls hl₀ => ?_)
      replace hl := hl₀
      clear hl₀
      have loop_17 : ∀ (n_15 : Nat) (vy_13 : Int32) (vy_14 : Int32) (H : Heap) (locs : List Loc) (ls : Array Slot), (401 - (vy_13 : Int32).toInt).toNat < n_15 → ((Tv 1).toInt ≤ (vy_13 : Int32).toInt ∧ (vy_13 : Int32).toInt ≤ (Tv 2).toInt) → (Nv (cB (Tf 1) (Tv 0)) (Tv 1) vy_14 vy_13) → va_P D classes [((Ta 0), .inr (10, [.ref (Ta 1), .int (Tv 0), .int (Tv 1), .int (Tv 2), .int (Tv 3), .int (Tv 4)])), ((Ta 1), .inl (tc 0, 400, .inl (Tf 1)))] H → va_D A [((Ta 0), .inr (10, [.ref (Ta 1), .int (Tv 0), .int (Tv 1), .int (Tv 2), .int (Tv 3), .int (Tv 4)])), ((Ta 1), .inl (tc 0, 400, .inl (Tf 1)))] → va_S A s.heap H locs → lv_has ls 5 [(4, .int vy_13), (3, .int vy_14), (0, .ref (Ta 0)), (1, .int x1), (2, .int x2)] → W p l e ({ frames := 1, cells := 0, slots := 0, locals := 21 }) s m ([.ref (Ta 0), .int x1, .int x2].toArray) below meth c H locs 0 0 (MQ below (QW (fun (v : Option Value) (u : (Int32) × (Int32)) => match u with | (oo0x1, oo0x2) => ∃ r : Int32, v = some (.int r) ∧ (NuV (cB (Tf 1) (Tv 0)) lo hi rr r) ∧ (0 ≤ ((Tv 0) : Int32).toInt ∧ ((Tv 0) : Int32).toInt ≤ 400 ∧ 0 ≤ ((Tv 1) : Int32).toInt ∧ ((Tv 1) : Int32).toInt ≤ 400 ∧ 0 ≤ ((Tv 2) : Int32).toInt ∧ ((Tv 2) : Int32).toInt ≤ 400) ∧ (TpR (Tf 1) (Tv 0) (rNU (cB (Tf 1) (Tv 0)) lo hi rr) (Tv 1) (Tv 2) oo0x1 oo0x2)) (BW D (fun (u : (Int32) × (Int32)) => match u with | (oo0x1, oo0x2) => [((Ta 0), .inr (10, [.ref (Ta 1), .int (Tv 0), .int (Tv 1), .int (Tv 2), .int oo0x1, .int oo0x2])), ((Ta 1), .inl (tc 0, 400, .inl (Tf 1)))]) A) A) ([.ref (Ta 0), .int x1, .int x2].toArray) s 0 0 A) (F0 m 45 ls []) := by
        clear hP hD hS hl
        intro n_15
        induction n_15 with
        | zero =>
          intro vy_13 vy_14 H locs ls h1
          exact absurd h1 (Nat.not_lt_zero _)
        | succ n_15 ih_16 =>
          intro vy_13 vy_14 H locs ls hn_20 pf_18 pf_19 hP hD hS hl
          have ar_pf_19 := Nv.ar pf_19
          refine lv_iload hx hb dX10_numberHere_45 (lv_at hl 0 rfl) ?_
          refine lv_aload_n hx hb dX10_numberHere_47 rfl (lv_at hl 2 rfl) ?_
          refine gf_X10_22 hx hb hts hown hK hP 0 rfl rfl dX10_numberHere_48 ?_
          refine lv_icmp_ge (tgt := 75) hx hb dX10_numberHere_51 (by decide) (fun c_21 => ?_) (fun c_21 => ?_)
          · skip
            refine lv_iload_n hx hb dX10_numberHere_75 rfl (lv_at hl 1 rfl) ?_
            refine lv_iload_n hx hb dX10_numberHere_76 rfl (lv_at hl 3 rfl) ?_
            refine lv_icmp_lt (tgt := 85) hx hb dX10_numberHere_77 (by decide) (fun c_22 => ?_) (fun c_22 => ?_)
            · skip
              refine lv_aload_n hx hb dX10_numberHere_85 rfl (lv_at hl 2 rfl) ?_
              refine lv_iconst (v := 1) hx hb dX10_numberHere_86 (by decide) ?_
              have ha_23 : 0 ≤ (1 : Int32).toInt ∧ (1 : Int32).toInt ≤ 4 := by
                have z_1 : ¬ (r_5 : Int32).toInt = (0 : Int32).toInt := fun z => c_8 (Int32.toInt_inj.mp z)
                have z_2 := Int32.le_iff_toInt_le.mp c_10
                have z_3 := Int32.le_iff_toInt_le.mp c_21
                have z_4 := Int32.lt_iff_toInt_lt.mp c_22
                have y_0 : (0 : Int32).toInt = 0 := by decide
                have y_5 : (5 : Int32).toInt = 5 := by decide
                have y_1 : (1 : Int32).toInt = 1 := by decide
                have t_x_9 : x_9.toInt = ((Tv 2) : Int32).toInt - ((Tv 1) : Int32).toInt := by rw [ex_9]; exact sub_toInt (by omega) (by omega)
                omega
              have ha_24 : (1 : Int32).toInt = (1 : Int) := by
                have z_1 : ¬ (r_5 : Int32).toInt = (0 : Int32).toInt := fun z => c_8 (Int32.toInt_inj.mp z)
                have z_2 := Int32.le_iff_toInt_le.mp c_10
                have z_3 := Int32.le_iff_toInt_le.mp c_21
                have z_4 := Int32.lt_iff_toInt_lt.mp c_22
                have y_0 : (0 : Int32).toInt = 0 := by decide
                have y_5 : (5 : Int32).toInt = 5 := by decide
                have y_1 : (1 : Int32).toInt = 1 := by decide
                have t_x_9 : x_9.toInt = ((Tv 2) : Int32).toInt - ((Tv 1) : Int32).toInt := by rw [ex_9]; exact sub_toInt (by omega) (by omega)
                omega
              refine cV (a := (Ta 0)) (As := [.int 1]) (rest := []) (wr := []) ⟨hx, hb, hml, hown, hts⟩ hK hX hA (cu_fX10_fail l D tc sk (Ta 0) (Ta 1) (Tv 0) (Tv 1) (Tv 2) (Tv 3) (Tv 4) (Tf 1) 1 rr 1 h_tape h_r ha_23 ha_24) k_557 k_571 k_555 k_556 k_96 pl_X10_fail ⟨Nat.le_of_ble_eq_true rfl, Nat.le_of_ble_eq_true rfl⟩ rfl rfl (va_recv hK hP (ci := 10) (q0 := 0) rfl rfl) hP hD hS [0, 1] [] rfl rfl rfl rfl rfl (by decide) rfl hl.1 rfl (Nat.le_of_ble_eq_true rfl) dX10_numberHere_87 ⟨Nat.le_of_ble_eq_true rfl, Nat.le_of_ble_eq_true rfl⟩ (fun v_25 u_26 H locs hv_27 hP₀ hD₀ hS₀ => ?_)
              obtain ⟨sv_28, sv_29⟩ := u_26
              obtain ⟨rfl, pf_30, pf_31⟩ := hv_27
              have pf_30 : 0 ≤ ((Tv 0) : Int32).toInt ∧ ((Tv 0) : Int32).toInt ≤ 400 ∧ 0 ≤ ((Tv 1) : Int32).toInt ∧ ((Tv 1) : Int32).toInt ≤ 400 ∧ 0 ≤ ((Tv 2) : Int32).toInt ∧ ((Tv 2) : Int32).toInt ≤ 400 := pf_30
              have pf_31 : TpR (Tf 1) (Tv 0) (rER (1 : Int) rr) (Tv 1) (Tv 2) sv_28 sv_29 := pf_31
              obtain ⟨ro_32, ero_32⟩ : ∃ z : Except Int (Nat × Nat), z = (rER (1 : Int) rr) := ⟨_, rfl⟩
              rw [← ero_32] at pf_31
              have tb_33 : TpB (rTE (cB (Tf 1) (Tv 0)) ro_32) (Tv 2) sv_29 := TpR.tb pf_31
              refine W.eq (g2 := F0 m 90 ls []) rfl ?_
              replace hP : va_P D classes [((Ta 0), .inr (10, [.ref (Ta 1), .int (Tv 0), .int (Tv 1), .int (Tv 2), .int sv_28, .int sv_29])), ((Ta 1), .inl (tc 0, 400, .inl (Tf 1)))] H := hP₀
              replace hD : va_D A [((Ta 0), .inr (10, [.ref (Ta 1), .int (Tv 0), .int (Tv 1), .int (Tv 2), .int sv_28, .int sv_29])), ((Ta 1), .inl (tc 0, 400, .inl (Tf 1)))] := hD₀
              replace hS := hS₀
              clear hP₀ hD₀ hS₀
              refine lv_iload_n hx hb dX10_numberHere_90 rfl (lv_at hl 3 rfl) ?_
              have hk_34 : vy_13 = (Tv 2) := Int32.toInt_inj.mp (by
                have z_1 : ¬ (r_5 : Int32).toInt = (0 : Int32).toInt := fun z => c_8 (Int32.toInt_inj.mp z)
                have z_2 := Int32.le_iff_toInt_le.mp c_10
                have z_3 := Int32.le_iff_toInt_le.mp c_21
                have z_4 := Int32.lt_iff_toInt_lt.mp c_22
                have y_0 : (0 : Int32).toInt = 0 := by decide
                have y_5 : (5 : Int32).toInt = 5 := by decide
                have t_x_9 : x_9.toInt = ((Tv 2) : Int32).toInt - ((Tv 1) : Int32).toInt := by rw [ex_9]; exact sub_toInt (by omega) (by omega)
                omega)
              have hv_35 : Nv (cB (Tf 1) (Tv 0)) (Tv 1) vy_14 (Tv 2) := hk_34 ▸ pf_19
              have hr_36 : 48 ≤ (Tv 3).toInt ∧ (Tv 3).toInt ≤ 57 := by
                have z_1 : ¬ (r_5 : Int32).toInt = (0 : Int32).toInt := fun z => c_8 (Int32.toInt_inj.mp z)
                have z_2 := Int32.le_iff_toInt_le.mp c_10
                have z_3 := Int32.le_iff_toInt_le.mp c_21
                have z_4 := Int32.lt_iff_toInt_lt.mp c_22
                have y_0 : (0 : Int32).toInt = 0 := by decide
                have y_5 : (5 : Int32).toInt = 5 := by decide
                have t_x_9 : x_9.toInt = ((Tv 2) : Int32).toInt - ((Tv 1) : Int32).toInt := by rw [ex_9]; exact sub_toInt (by omega) (by omega)
                omega
              have hr_37 : (Tv 2).toInt - (Tv 1).toInt ≤ 5 := by
                have z_1 : ¬ (r_5 : Int32).toInt = (0 : Int32).toInt := fun z => c_8 (Int32.toInt_inj.mp z)
                have z_2 := Int32.le_iff_toInt_le.mp c_10
                have z_3 := Int32.le_iff_toInt_le.mp c_21
                have z_4 := Int32.lt_iff_toInt_lt.mp c_22
                have y_0 : (0 : Int32).toInt = 0 := by decide
                have y_5 : (5 : Int32).toInt = 5 := by decide
                have t_x_9 : x_9.toInt = ((Tv 2) : Int32).toInt - ((Tv 1) : Int32).toInt := by rw [ex_9]; exact sub_toInt (by omega) (by omega)
                omega
              have hr_38 : ((vy_14 : Int32).toInt < lo ∨ hi < (vy_14 : Int32).toInt) := by
                have z_1 : ¬ (r_5 : Int32).toInt = (0 : Int32).toInt := fun z => c_8 (Int32.toInt_inj.mp z)
                have z_2 := Int32.le_iff_toInt_le.mp c_10
                have z_3 := Int32.le_iff_toInt_le.mp c_21
                have z_4 := Int32.lt_iff_toInt_lt.mp c_22
                have y_0 : (0 : Int32).toInt = 0 := by decide
                have y_5 : (5 : Int32).toInt = 5 := by decide
                have t_x_9 : x_9.toInt = ((Tv 2) : Int32).toInt - ((Tv 1) : Int32).toInt := by rw [ex_9]; exact sub_toInt (by omega) (by omega)
                omega
              have hf_39 : TpR (Tf 1) (Tv 0) (rNU (cB (Tf 1) (Tv 0)) lo hi rr) (Tv 1) (Tv 2) sv_28 sv_29 := by
                have hE_40 : (rNU (cB (Tf 1) (Tv 0)) lo hi rr) = ro_32 := by
                  rw [ero_32]
                  exact (rNU_out h_r hr_36 hr_37 hv_35 hr_38)
                rw [hE_40]
                exact pf_31
              have hk_41 : vy_13 = (Tv 2) := Int32.toInt_inj.mp (by
                have z_1 : ¬ (r_5 : Int32).toInt = (0 : Int32).toInt := fun z => c_8 (Int32.toInt_inj.mp z)
                have z_2 := Int32.le_iff_toInt_le.mp c_10
                have z_3 := Int32.le_iff_toInt_le.mp c_21
                have z_4 := Int32.lt_iff_toInt_lt.mp c_22
                have y_0 : (0 : Int32).toInt = 0 := by decide
                have y_5 : (5 : Int32).toInt = 5 := by decide
                have t_x_9 : x_9.toInt = ((Tv 2) : Int32).toInt - ((Tv 1) : Int32).toInt := by rw [ex_9]; exact sub_toInt (by omega) (by omega)
                omega)
              have hv_42 : Nv (cB (Tf 1) (Tv 0)) (Tv 1) vy_14 (Tv 2) := hk_41 ▸ pf_19
              have hr_43 : 48 ≤ (Tv 3).toInt ∧ (Tv 3).toInt ≤ 57 := by
                have z_1 : ¬ (r_5 : Int32).toInt = (0 : Int32).toInt := fun z => c_8 (Int32.toInt_inj.mp z)
                have z_2 := Int32.le_iff_toInt_le.mp c_10
                have z_3 := Int32.le_iff_toInt_le.mp c_21
                have z_4 := Int32.lt_iff_toInt_lt.mp c_22
                have y_0 : (0 : Int32).toInt = 0 := by decide
                have y_5 : (5 : Int32).toInt = 5 := by decide
                have t_x_9 : x_9.toInt = ((Tv 2) : Int32).toInt - ((Tv 1) : Int32).toInt := by rw [ex_9]; exact sub_toInt (by omega) (by omega)
                omega
              have hr_44 : (Tv 2).toInt - (Tv 1).toInt ≤ 5 := by
                have z_1 : ¬ (r_5 : Int32).toInt = (0 : Int32).toInt := fun z => c_8 (Int32.toInt_inj.mp z)
                have z_2 := Int32.le_iff_toInt_le.mp c_10
                have z_3 := Int32.le_iff_toInt_le.mp c_21
                have z_4 := Int32.lt_iff_toInt_lt.mp c_22
                have y_0 : (0 : Int32).toInt = 0 := by decide
                have y_5 : (5 : Int32).toInt = 5 := by decide
                have t_x_9 : x_9.toInt = ((Tv 2) : Int32).toInt - ((Tv 1) : Int32).toInt := by rw [ex_9]; exact sub_toInt (by omega) (by omega)
                omega
              have hr_45 : ((vy_14 : Int32).toInt < lo ∨ hi < (vy_14 : Int32).toInt) := by
                have z_1 : ¬ (r_5 : Int32).toInt = (0 : Int32).toInt := fun z => c_8 (Int32.toInt_inj.mp z)
                have z_2 := Int32.le_iff_toInt_le.mp c_10
                have z_3 := Int32.le_iff_toInt_le.mp c_21
                have z_4 := Int32.lt_iff_toInt_lt.mp c_22
                have y_0 : (0 : Int32).toInt = 0 := by decide
                have y_5 : (5 : Int32).toInt = 5 := by decide
                have t_x_9 : x_9.toInt = ((Tv 2) : Int32).toInt - ((Tv 1) : Int32).toInt := by rw [ex_9]; exact sub_toInt (by omega) (by omega)
                omega
              exact retI (v := x1) hx hb hr hlk (rfl) hP hD hS (sv_28, sv_29) ⟨_, rfl, (NuV.out h_r hr_43 hr_44 hv_42 hr_45), pf_30, hf_39⟩ [0, 1] rfl rfl dX10_numberHere_91 (Nat.le_of_ble_eq_true rfl) (Nat.le_of_ble_eq_true rfl) rfl
            · skip
              refine lv_iload_n hx hb dX10_numberHere_80 rfl (lv_at hl 1 rfl) ?_
              refine lv_iload_n hx hb dX10_numberHere_81 rfl (lv_at hl 4 rfl) ?_
              refine lv_icmp_le (tgt := 92) hx hb dX10_numberHere_82 (by decide) (fun c_46 => ?_) (fun c_46 => ?_)
              · skip
                refine lv_iload_n hx hb dX10_numberHere_92 rfl (lv_at hl 1 rfl) ?_
                have hk_47 : vy_13 = (Tv 2) := Int32.toInt_inj.mp (by
                  have z_1 : ¬ (r_5 : Int32).toInt = (0 : Int32).toInt := fun z => c_8 (Int32.toInt_inj.mp z)
                  have z_2 := Int32.le_iff_toInt_le.mp c_10
                  have z_3 := Int32.le_iff_toInt_le.mp c_21
                  have z_4 := Int32.le_iff_toInt_le.mp (Int32.not_lt.mp c_22)
                  have z_5 := Int32.le_iff_toInt_le.mp c_46
                  have y_0 : (0 : Int32).toInt = 0 := by decide
                  have y_5 : (5 : Int32).toInt = 5 := by decide
                  have t_x_9 : x_9.toInt = ((Tv 2) : Int32).toInt - ((Tv 1) : Int32).toInt := by rw [ex_9]; exact sub_toInt (by omega) (by omega)
                  omega)
                have hv_48 : Nv (cB (Tf 1) (Tv 0)) (Tv 1) vy_14 (Tv 2) := hk_47 ▸ pf_19
                have hr_49 : 48 ≤ (Tv 3).toInt ∧ (Tv 3).toInt ≤ 57 := by
                  have z_1 : ¬ (r_5 : Int32).toInt = (0 : Int32).toInt := fun z => c_8 (Int32.toInt_inj.mp z)
                  have z_2 := Int32.le_iff_toInt_le.mp c_10
                  have z_3 := Int32.le_iff_toInt_le.mp c_21
                  have z_4 := Int32.le_iff_toInt_le.mp (Int32.not_lt.mp c_22)
                  have z_5 := Int32.le_iff_toInt_le.mp c_46
                  have y_0 : (0 : Int32).toInt = 0 := by decide
                  have y_5 : (5 : Int32).toInt = 5 := by decide
                  have t_x_9 : x_9.toInt = ((Tv 2) : Int32).toInt - ((Tv 1) : Int32).toInt := by rw [ex_9]; exact sub_toInt (by omega) (by omega)
                  omega
                have hr_50 : (Tv 2).toInt - (Tv 1).toInt ≤ 5 := by
                  have z_1 : ¬ (r_5 : Int32).toInt = (0 : Int32).toInt := fun z => c_8 (Int32.toInt_inj.mp z)
                  have z_2 := Int32.le_iff_toInt_le.mp c_10
                  have z_3 := Int32.le_iff_toInt_le.mp c_21
                  have z_4 := Int32.le_iff_toInt_le.mp (Int32.not_lt.mp c_22)
                  have z_5 := Int32.le_iff_toInt_le.mp c_46
                  have y_0 : (0 : Int32).toInt = 0 := by decide
                  have y_5 : (5 : Int32).toInt = 5 := by decide
                  have t_x_9 : x_9.toInt = ((Tv 2) : Int32).toInt - ((Tv 1) : Int32).toInt := by rw [ex_9]; exact sub_toInt (by omega) (by omega)
                  omega
                have hr_51 : ¬ ((vy_14 : Int32).toInt < lo ∨ hi < (vy_14 : Int32).toInt) := by
                  have z_1 : ¬ (r_5 : Int32).toInt = (0 : Int32).toInt := fun z => c_8 (Int32.toInt_inj.mp z)
                  have z_2 := Int32.le_iff_toInt_le.mp c_10
                  have z_3 := Int32.le_iff_toInt_le.mp c_21
                  have z_4 := Int32.le_iff_toInt_le.mp (Int32.not_lt.mp c_22)
                  have z_5 := Int32.le_iff_toInt_le.mp c_46
                  have y_0 : (0 : Int32).toInt = 0 := by decide
                  have y_5 : (5 : Int32).toInt = 5 := by decide
                  have t_x_9 : x_9.toInt = ((Tv 2) : Int32).toInt - ((Tv 1) : Int32).toInt := by rw [ex_9]; exact sub_toInt (by omega) (by omega)
                  omega
                have hf_52 : TpR (Tf 1) (Tv 0) (rNU (cB (Tf 1) (Tv 0)) lo hi rr) (Tv 1) (Tv 2) (Tv 3) (Tv 4) := by
                  have hE_53 : (rNU (cB (Tf 1) (Tv 0)) lo hi rr) = rr := by
                    exact (rNU_ok h_r hr_49 hr_50 hv_48 hr_51)
                  rw [hE_53]
                  exact h_r
                have hk_54 : vy_13 = (Tv 2) := Int32.toInt_inj.mp (by
                  have z_1 : ¬ (r_5 : Int32).toInt = (0 : Int32).toInt := fun z => c_8 (Int32.toInt_inj.mp z)
                  have z_2 := Int32.le_iff_toInt_le.mp c_10
                  have z_3 := Int32.le_iff_toInt_le.mp c_21
                  have z_4 := Int32.le_iff_toInt_le.mp (Int32.not_lt.mp c_22)
                  have z_5 := Int32.le_iff_toInt_le.mp c_46
                  have y_0 : (0 : Int32).toInt = 0 := by decide
                  have y_5 : (5 : Int32).toInt = 5 := by decide
                  have t_x_9 : x_9.toInt = ((Tv 2) : Int32).toInt - ((Tv 1) : Int32).toInt := by rw [ex_9]; exact sub_toInt (by omega) (by omega)
                  omega)
                have hv_55 : Nv (cB (Tf 1) (Tv 0)) (Tv 1) vy_14 (Tv 2) := hk_54 ▸ pf_19
                have hr_56 : 48 ≤ (Tv 3).toInt ∧ (Tv 3).toInt ≤ 57 := by
                  have z_1 : ¬ (r_5 : Int32).toInt = (0 : Int32).toInt := fun z => c_8 (Int32.toInt_inj.mp z)
                  have z_2 := Int32.le_iff_toInt_le.mp c_10
                  have z_3 := Int32.le_iff_toInt_le.mp c_21
                  have z_4 := Int32.le_iff_toInt_le.mp (Int32.not_lt.mp c_22)
                  have z_5 := Int32.le_iff_toInt_le.mp c_46
                  have y_0 : (0 : Int32).toInt = 0 := by decide
                  have y_5 : (5 : Int32).toInt = 5 := by decide
                  have t_x_9 : x_9.toInt = ((Tv 2) : Int32).toInt - ((Tv 1) : Int32).toInt := by rw [ex_9]; exact sub_toInt (by omega) (by omega)
                  omega
                have hr_57 : (Tv 2).toInt - (Tv 1).toInt ≤ 5 := by
                  have z_1 : ¬ (r_5 : Int32).toInt = (0 : Int32).toInt := fun z => c_8 (Int32.toInt_inj.mp z)
                  have z_2 := Int32.le_iff_toInt_le.mp c_10
                  have z_3 := Int32.le_iff_toInt_le.mp c_21
                  have z_4 := Int32.le_iff_toInt_le.mp (Int32.not_lt.mp c_22)
                  have z_5 := Int32.le_iff_toInt_le.mp c_46
                  have y_0 : (0 : Int32).toInt = 0 := by decide
                  have y_5 : (5 : Int32).toInt = 5 := by decide
                  have t_x_9 : x_9.toInt = ((Tv 2) : Int32).toInt - ((Tv 1) : Int32).toInt := by rw [ex_9]; exact sub_toInt (by omega) (by omega)
                  omega
                have hr_58 : ¬ ((vy_14 : Int32).toInt < lo ∨ hi < (vy_14 : Int32).toInt) := by
                  have z_1 : ¬ (r_5 : Int32).toInt = (0 : Int32).toInt := fun z => c_8 (Int32.toInt_inj.mp z)
                  have z_2 := Int32.le_iff_toInt_le.mp c_10
                  have z_3 := Int32.le_iff_toInt_le.mp c_21
                  have z_4 := Int32.le_iff_toInt_le.mp (Int32.not_lt.mp c_22)
                  have z_5 := Int32.le_iff_toInt_le.mp c_46
                  have y_0 : (0 : Int32).toInt = 0 := by decide
                  have y_5 : (5 : Int32).toInt = 5 := by decide
                  have t_x_9 : x_9.toInt = ((Tv 2) : Int32).toInt - ((Tv 1) : Int32).toInt := by rw [ex_9]; exact sub_toInt (by omega) (by omega)
                  omega
                exact retI (v := vy_14) hx hb hr hlk (rfl) hP hD hS ((Tv 3), (Tv 4)) ⟨_, rfl, (NuV.ok h_r hr_56 hr_57 hv_55 hr_58), h_tape, hf_52⟩ [0, 1] rfl rfl dX10_numberHere_93 (Nat.le_of_ble_eq_true rfl) (Nat.le_of_ble_eq_true rfl) rfl
              · skip
                refine lv_aload_n hx hb dX10_numberHere_85 rfl (lv_at hl 2 rfl) ?_
                refine lv_iconst (v := 1) hx hb dX10_numberHere_86 (by decide) ?_
                have ha_59 : 0 ≤ (1 : Int32).toInt ∧ (1 : Int32).toInt ≤ 4 := by
                  have z_1 : ¬ (r_5 : Int32).toInt = (0 : Int32).toInt := fun z => c_8 (Int32.toInt_inj.mp z)
                  have z_2 := Int32.le_iff_toInt_le.mp c_10
                  have z_3 := Int32.le_iff_toInt_le.mp c_21
                  have z_4 := Int32.le_iff_toInt_le.mp (Int32.not_lt.mp c_22)
                  have z_5 := Int32.lt_iff_toInt_lt.mp (Int32.not_le.mp c_46)
                  have y_0 : (0 : Int32).toInt = 0 := by decide
                  have y_5 : (5 : Int32).toInt = 5 := by decide
                  have y_1 : (1 : Int32).toInt = 1 := by decide
                  have t_x_9 : x_9.toInt = ((Tv 2) : Int32).toInt - ((Tv 1) : Int32).toInt := by rw [ex_9]; exact sub_toInt (by omega) (by omega)
                  omega
                have ha_60 : (1 : Int32).toInt = (1 : Int) := by
                  have z_1 : ¬ (r_5 : Int32).toInt = (0 : Int32).toInt := fun z => c_8 (Int32.toInt_inj.mp z)
                  have z_2 := Int32.le_iff_toInt_le.mp c_10
                  have z_3 := Int32.le_iff_toInt_le.mp c_21
                  have z_4 := Int32.le_iff_toInt_le.mp (Int32.not_lt.mp c_22)
                  have z_5 := Int32.lt_iff_toInt_lt.mp (Int32.not_le.mp c_46)
                  have y_0 : (0 : Int32).toInt = 0 := by decide
                  have y_5 : (5 : Int32).toInt = 5 := by decide
                  have y_1 : (1 : Int32).toInt = 1 := by decide
                  have t_x_9 : x_9.toInt = ((Tv 2) : Int32).toInt - ((Tv 1) : Int32).toInt := by rw [ex_9]; exact sub_toInt (by omega) (by omega)
                  omega
                refine cV (a := (Ta 0)) (As := [.int 1]) (rest := []) (wr := []) ⟨hx, hb, hml, hown, hts⟩ hK hX hA (cu_fX10_fail l D tc sk (Ta 0) (Ta 1) (Tv 0) (Tv 1) (Tv 2) (Tv 3) (Tv 4) (Tf 1) 1 rr 1 h_tape h_r ha_59 ha_60) k_557 k_571 k_555 k_556 k_96 pl_X10_fail ⟨Nat.le_of_ble_eq_true rfl, Nat.le_of_ble_eq_true rfl⟩ rfl rfl (va_recv hK hP (ci := 10) (q0 := 0) rfl rfl) hP hD hS [0, 1] [] rfl rfl rfl rfl rfl (by decide) rfl hl.1 rfl (Nat.le_of_ble_eq_true rfl) dX10_numberHere_87 ⟨Nat.le_of_ble_eq_true rfl, Nat.le_of_ble_eq_true rfl⟩ (fun v_61 u_62 H locs hv_63 hP₀ hD₀ hS₀ => ?_)
                obtain ⟨sv_64, sv_65⟩ := u_62
                obtain ⟨rfl, pf_66, pf_67⟩ := hv_63
                have pf_66 : 0 ≤ ((Tv 0) : Int32).toInt ∧ ((Tv 0) : Int32).toInt ≤ 400 ∧ 0 ≤ ((Tv 1) : Int32).toInt ∧ ((Tv 1) : Int32).toInt ≤ 400 ∧ 0 ≤ ((Tv 2) : Int32).toInt ∧ ((Tv 2) : Int32).toInt ≤ 400 := pf_66
                have pf_67 : TpR (Tf 1) (Tv 0) (rER (1 : Int) rr) (Tv 1) (Tv 2) sv_64 sv_65 := pf_67
                obtain ⟨ro_68, ero_68⟩ : ∃ z : Except Int (Nat × Nat), z = (rER (1 : Int) rr) := ⟨_, rfl⟩
                rw [← ero_68] at pf_67
                have tb_69 : TpB (rTE (cB (Tf 1) (Tv 0)) ro_68) (Tv 2) sv_65 := TpR.tb pf_67
                refine W.eq (g2 := F0 m 90 ls []) rfl ?_
                replace hP : va_P D classes [((Ta 0), .inr (10, [.ref (Ta 1), .int (Tv 0), .int (Tv 1), .int (Tv 2), .int sv_64, .int sv_65])), ((Ta 1), .inl (tc 0, 400, .inl (Tf 1)))] H := hP₀
                replace hD : va_D A [((Ta 0), .inr (10, [.ref (Ta 1), .int (Tv 0), .int (Tv 1), .int (Tv 2), .int sv_64, .int sv_65])), ((Ta 1), .inl (tc 0, 400, .inl (Tf 1)))] := hD₀
                replace hS := hS₀
                clear hP₀ hD₀ hS₀
                refine lv_iload_n hx hb dX10_numberHere_90 rfl (lv_at hl 3 rfl) ?_
                have hk_70 : vy_13 = (Tv 2) := Int32.toInt_inj.mp (by
                  have z_1 : ¬ (r_5 : Int32).toInt = (0 : Int32).toInt := fun z => c_8 (Int32.toInt_inj.mp z)
                  have z_2 := Int32.le_iff_toInt_le.mp c_10
                  have z_3 := Int32.le_iff_toInt_le.mp c_21
                  have z_4 := Int32.le_iff_toInt_le.mp (Int32.not_lt.mp c_22)
                  have z_5 := Int32.lt_iff_toInt_lt.mp (Int32.not_le.mp c_46)
                  have y_0 : (0 : Int32).toInt = 0 := by decide
                  have y_5 : (5 : Int32).toInt = 5 := by decide
                  have t_x_9 : x_9.toInt = ((Tv 2) : Int32).toInt - ((Tv 1) : Int32).toInt := by rw [ex_9]; exact sub_toInt (by omega) (by omega)
                  omega)
                have hv_71 : Nv (cB (Tf 1) (Tv 0)) (Tv 1) vy_14 (Tv 2) := hk_70 ▸ pf_19
                have hr_72 : 48 ≤ (Tv 3).toInt ∧ (Tv 3).toInt ≤ 57 := by
                  have z_1 : ¬ (r_5 : Int32).toInt = (0 : Int32).toInt := fun z => c_8 (Int32.toInt_inj.mp z)
                  have z_2 := Int32.le_iff_toInt_le.mp c_10
                  have z_3 := Int32.le_iff_toInt_le.mp c_21
                  have z_4 := Int32.le_iff_toInt_le.mp (Int32.not_lt.mp c_22)
                  have z_5 := Int32.lt_iff_toInt_lt.mp (Int32.not_le.mp c_46)
                  have y_0 : (0 : Int32).toInt = 0 := by decide
                  have y_5 : (5 : Int32).toInt = 5 := by decide
                  have t_x_9 : x_9.toInt = ((Tv 2) : Int32).toInt - ((Tv 1) : Int32).toInt := by rw [ex_9]; exact sub_toInt (by omega) (by omega)
                  omega
                have hr_73 : (Tv 2).toInt - (Tv 1).toInt ≤ 5 := by
                  have z_1 : ¬ (r_5 : Int32).toInt = (0 : Int32).toInt := fun z => c_8 (Int32.toInt_inj.mp z)
                  have z_2 := Int32.le_iff_toInt_le.mp c_10
                  have z_3 := Int32.le_iff_toInt_le.mp c_21
                  have z_4 := Int32.le_iff_toInt_le.mp (Int32.not_lt.mp c_22)
                  have z_5 := Int32.lt_iff_toInt_lt.mp (Int32.not_le.mp c_46)
                  have y_0 : (0 : Int32).toInt = 0 := by decide
                  have y_5 : (5 : Int32).toInt = 5 := by decide
                  have t_x_9 : x_9.toInt = ((Tv 2) : Int32).toInt - ((Tv 1) : Int32).toInt := by rw [ex_9]; exact sub_toInt (by omega) (by omega)
                  omega
                have hr_74 : ((vy_14 : Int32).toInt < lo ∨ hi < (vy_14 : Int32).toInt) := by
                  have z_1 : ¬ (r_5 : Int32).toInt = (0 : Int32).toInt := fun z => c_8 (Int32.toInt_inj.mp z)
                  have z_2 := Int32.le_iff_toInt_le.mp c_10
                  have z_3 := Int32.le_iff_toInt_le.mp c_21
                  have z_4 := Int32.le_iff_toInt_le.mp (Int32.not_lt.mp c_22)
                  have z_5 := Int32.lt_iff_toInt_lt.mp (Int32.not_le.mp c_46)
                  have y_0 : (0 : Int32).toInt = 0 := by decide
                  have y_5 : (5 : Int32).toInt = 5 := by decide
                  have t_x_9 : x_9.toInt = ((Tv 2) : Int32).toInt - ((Tv 1) : Int32).toInt := by rw [ex_9]; exact sub_toInt (by omega) (by omega)
                  omega
                have hf_75 : TpR (Tf 1) (Tv 0) (rNU (cB (Tf 1) (Tv 0)) lo hi rr) (Tv 1) (Tv 2) sv_64 sv_65 := by
                  have hE_76 : (rNU (cB (Tf 1) (Tv 0)) lo hi rr) = ro_68 := by
                    rw [ero_68]
                    exact (rNU_out h_r hr_72 hr_73 hv_71 hr_74)
                  rw [hE_76]
                  exact pf_67
                have hk_77 : vy_13 = (Tv 2) := Int32.toInt_inj.mp (by
                  have z_1 : ¬ (r_5 : Int32).toInt = (0 : Int32).toInt := fun z => c_8 (Int32.toInt_inj.mp z)
                  have z_2 := Int32.le_iff_toInt_le.mp c_10
                  have z_3 := Int32.le_iff_toInt_le.mp c_21
                  have z_4 := Int32.le_iff_toInt_le.mp (Int32.not_lt.mp c_22)
                  have z_5 := Int32.lt_iff_toInt_lt.mp (Int32.not_le.mp c_46)
                  have y_0 : (0 : Int32).toInt = 0 := by decide
                  have y_5 : (5 : Int32).toInt = 5 := by decide
                  have t_x_9 : x_9.toInt = ((Tv 2) : Int32).toInt - ((Tv 1) : Int32).toInt := by rw [ex_9]; exact sub_toInt (by omega) (by omega)
                  omega)
                have hv_78 : Nv (cB (Tf 1) (Tv 0)) (Tv 1) vy_14 (Tv 2) := hk_77 ▸ pf_19
                have hr_79 : 48 ≤ (Tv 3).toInt ∧ (Tv 3).toInt ≤ 57 := by
                  have z_1 : ¬ (r_5 : Int32).toInt = (0 : Int32).toInt := fun z => c_8 (Int32.toInt_inj.mp z)
                  have z_2 := Int32.le_iff_toInt_le.mp c_10
                  have z_3 := Int32.le_iff_toInt_le.mp c_21
                  have z_4 := Int32.le_iff_toInt_le.mp (Int32.not_lt.mp c_22)
                  have z_5 := Int32.lt_iff_toInt_lt.mp (Int32.not_le.mp c_46)
                  have y_0 : (0 : Int32).toInt = 0 := by decide
                  have y_5 : (5 : Int32).toInt = 5 := by decide
                  have t_x_9 : x_9.toInt = ((Tv 2) : Int32).toInt - ((Tv 1) : Int32).toInt := by rw [ex_9]; exact sub_toInt (by omega) (by omega)
                  omega
                have hr_80 : (Tv 2).toInt - (Tv 1).toInt ≤ 5 := by
                  have z_1 : ¬ (r_5 : Int32).toInt = (0 : Int32).toInt := fun z => c_8 (Int32.toInt_inj.mp z)
                  have z_2 := Int32.le_iff_toInt_le.mp c_10
                  have z_3 := Int32.le_iff_toInt_le.mp c_21
                  have z_4 := Int32.le_iff_toInt_le.mp (Int32.not_lt.mp c_22)
                  have z_5 := Int32.lt_iff_toInt_lt.mp (Int32.not_le.mp c_46)
                  have y_0 : (0 : Int32).toInt = 0 := by decide
                  have y_5 : (5 : Int32).toInt = 5 := by decide
                  have t_x_9 : x_9.toInt = ((Tv 2) : Int32).toInt - ((Tv 1) : Int32).toInt := by rw [ex_9]; exact sub_toInt (by omega) (by omega)
                  omega
                have hr_81 : ((vy_14 : Int32).toInt < lo ∨ hi < (vy_14 : Int32).toInt) := by
                  have z_1 : ¬ (r_5 : Int32).toInt = (0 : Int32).toInt := fun z => c_8 (Int32.toInt_inj.mp z)
                  have z_2 := Int32.le_iff_toInt_le.mp c_10
                  have z_3 := Int32.le_iff_toInt_le.mp c_21
                  have z_4 := Int32.le_iff_toInt_le.mp (Int32.not_lt.mp c_22)
                  have z_5 := Int32.lt_iff_toInt_lt.mp (Int32.not_le.mp c_46)
                  have y_0 : (0 : Int32).toInt = 0 := by decide
                  have y_5 : (5 : Int32).toInt = 5 := by decide
                  have t_x_9 : x_9.toInt = ((Tv 2) : Int32).toInt - ((Tv 1) : Int32).toInt := by rw [ex_9]; exact sub_toInt (by omega) (by omega)
                  omega
                exact retI (v := x1) hx hb hr hlk (rfl) hP hD hS (sv_64, sv_65) ⟨_, rfl, (NuV.out h_r hr_79 hr_80 hv_78 hr_81), pf_66, hf_75⟩ [0, 1] rfl rfl dX10_numberHere_91 (Nat.le_of_ble_eq_true rfl) (Nat.le_of_ble_eq_true rfl) rfl
          · skip
            refine lv_iload_n hx hb dX10_numberHere_54 rfl (lv_at hl 1 rfl) ?_
            refine lv_bipush (v := 10) hx hb dX10_numberHere_55 (by decide) ?_
            refine lv_imul hx hb dX10_numberHere_57 ?_
            refine lv_topi (fun x_82 ex_82 => ?_)
            refine lv_aload_n hx hb dX10_numberHere_58 rfl (lv_at hl 2 rfl) ?_
            refine lv_iload hx hb dX10_numberHere_59 (lv_at hl 0 rfl) ?_
            have ha_83 : 0 ≤ vy_13.toInt := by
              have z_1 : ¬ (r_5 : Int32).toInt = (0 : Int32).toInt := fun z => c_8 (Int32.toInt_inj.mp z)
              have z_2 := Int32.le_iff_toInt_le.mp c_10
              have z_3 := Int32.lt_iff_toInt_lt.mp (Int32.not_le.mp c_21)
              have y_0 : (0 : Int32).toInt = 0 := by decide
              have y_5 : (5 : Int32).toInt = 5 := by decide
              have t_x_9 : x_9.toInt = ((Tv 2) : Int32).toInt - ((Tv 1) : Int32).toInt := by rw [ex_9]; exact sub_toInt (by omega) (by omega)
              omega
            refine cV (a := (Ta 0)) (As := [.int vy_13]) (rest := [.int x_82]) (wr := []) ⟨hx, hb, hml, hown, hts⟩ hK hX hA (cu_fX10_byteAt l D tc sk (Ta 0) (Ta 1) (Tv 0) (Tv 1) (Tv 2) (Tv 3) (Tv 4) (Tf 1) vy_13 h_tape h_by ha_83) k_482 k_479 k_481 k_0 k_96 pl_X10_byteAt ⟨Nat.le_of_ble_eq_true rfl, Nat.le_of_ble_eq_true rfl⟩ rfl rfl (va_recv hK hP (ci := 10) (q0 := 0) rfl rfl) hP hD hS [0, 1] [] rfl rfl rfl rfl rfl (by decide) rfl hl.1 rfl (Nat.le_of_ble_eq_true rfl) dX10_numberHere_61 ⟨Nat.le_of_ble_eq_true rfl, Nat.le_of_ble_eq_true rfl⟩ (fun v_84 u_85 H locs hv_86 hP₀ hD₀ hS₀ => ?_)
            obtain ⟨r_87, rfl, he_88⟩ := hv_86
            have he_88 : (r_87.toInt = cB (Tf 1) (Tv 0) vy_13.toInt.toNat ∧ (((Tv 0).toInt ≤ vy_13.toInt ∧ r_87.toInt = -1) ∨ (vy_13.toInt < (Tv 0).toInt ∧ 0 ≤ r_87.toInt ∧ r_87.toInt ≤ 255))) := he_88
            refine W.eq (g2 := F0 m 64 ls [.int r_87, .int x_82]) rfl ?_
            replace hP : va_P D classes [((Ta 0), .inr (10, [.ref (Ta 1), .int (Tv 0), .int (Tv 1), .int (Tv 2), .int (Tv 3), .int (Tv 4)])), ((Ta 1), .inl (tc 0, 400, .inl (Tf 1)))] H := hP₀
            replace hD : va_D A [((Ta 0), .inr (10, [.ref (Ta 1), .int (Tv 0), .int (Tv 1), .int (Tv 2), .int (Tv 3), .int (Tv 4)])), ((Ta 1), .inl (tc 0, 400, .inl (Tf 1)))] := hD₀
            replace hS := hS₀
            clear hP₀ hD₀ hS₀
            refine lv_iadd hx hb dX10_numberHere_64 ?_
            refine lv_topi (fun x_90 ex_90 => ?_)
            refine lv_bipush (v := 48) hx hb dX10_numberHere_65 (by decide) ?_
            refine lv_isub hx hb dX10_numberHere_67 ?_
            refine lv_topi (fun x_91 ex_91 => ?_)
            refine lv_istore_n (lv' := [(3, .int x_91), (4, .int vy_13), (0, .ref (Ta 0)), (1, .int x1), (2, .int x2)]) hx hb dX10_numberHere_68 rfl hl (by decide) rfl (fun ls hl₀ => ?_)
            replace hl := hl₀
            clear hl₀
            obtain ⟨x_92, ex_92⟩ : ∃ y : Int32, y = vy_13 + 1 := ⟨_, rfl⟩
            refine lv_iinc (v := x_92) (lv' := [(4, .int x_92), (3, .int x_91), (0, .ref (Ta 0)), (1, .int x1), (2, .int x2)]) hx hb dX10_numberHere_69 hl (k := 1) rfl (by rw [ex_92]; rfl) (by decide) rfl (fun ls hl₀ => ?_)
            replace hl := hl₀
            clear hl₀
            refine lv_goto (tgt := 45) hx hb dX10_numberHere_72 (by decide) ?_
            have hb_93 : 401 - (x_92 : Int32).toInt < 401 - (vy_13 : Int32).toInt ∧ 1 ≤ 401 - (vy_13 : Int32).toInt := by
              have z_1 : ¬ (r_5 : Int32).toInt = (0 : Int32).toInt := fun z => c_8 (Int32.toInt_inj.mp z)
              have z_2 := Int32.le_iff_toInt_le.mp c_10
              have z_3 := Int32.lt_iff_toInt_lt.mp (Int32.not_le.mp c_21)
              have y_0 : (0 : Int32).toInt = 0 := by decide
              have y_5 : (5 : Int32).toInt = 5 := by decide
              have y_1 : (1 : Int32).toInt = 1 := by decide
              have t_x_9 : x_9.toInt = ((Tv 2) : Int32).toInt - ((Tv 1) : Int32).toInt := by rw [ex_9]; exact sub_toInt (by omega) (by omega)
              have t_x_92 : x_92.toInt = (vy_13 : Int32).toInt + (1 : Int32).toInt := by rw [ex_92]; exact add_toInt (by omega) (by omega)
              omega
            have ha_94 : (Tv 1).toInt ≤ (x_92 : Int32).toInt ∧ (x_92 : Int32).toInt ≤ (Tv 2).toInt := by
              have z_1 : ¬ (r_5 : Int32).toInt = (0 : Int32).toInt := fun z => c_8 (Int32.toInt_inj.mp z)
              have z_2 := Int32.le_iff_toInt_le.mp c_10
              have z_3 := Int32.lt_iff_toInt_lt.mp (Int32.not_le.mp c_21)
              have y_0 : (0 : Int32).toInt = 0 := by decide
              have y_5 : (5 : Int32).toInt = 5 := by decide
              have y_1 : (1 : Int32).toInt = 1 := by decide
              have t_x_9 : x_9.toInt = ((Tv 2) : Int32).toInt - ((Tv 1) : Int32).toInt := by rw [ex_9]; exact sub_toInt (by omega) (by omega)
              have t_x_92 : x_92.toInt = (vy_13 : Int32).toInt + (1 : Int32).toInt := by rw [ex_92]; exact add_toInt (by omega) (by omega)
              omega
            have hr_96 : 48 ≤ (Tv 3).toInt ∧ (Tv 3).toInt ≤ 57 := by
              have z_1 : ¬ (r_5 : Int32).toInt = (0 : Int32).toInt := fun z => c_8 (Int32.toInt_inj.mp z)
              have z_2 := Int32.le_iff_toInt_le.mp c_10
              have z_3 := Int32.lt_iff_toInt_lt.mp (Int32.not_le.mp c_21)
              have y_0 : (0 : Int32).toInt = 0 := by decide
              have y_5 : (5 : Int32).toInt = 5 := by decide
              have t_x_9 : x_9.toInt = ((Tv 2) : Int32).toInt - ((Tv 1) : Int32).toInt := by rw [ex_9]; exact sub_toInt (by omega) (by omega)
              omega
            have hr_97 : (Tv 1).toInt ≤ (vy_13 : Int32).toInt ∧ (vy_13 : Int32).toInt < (Tv 2).toInt := by
              have z_1 : ¬ (r_5 : Int32).toInt = (0 : Int32).toInt := fun z => c_8 (Int32.toInt_inj.mp z)
              have z_2 := Int32.le_iff_toInt_le.mp c_10
              have z_3 := Int32.lt_iff_toInt_lt.mp (Int32.not_le.mp c_21)
              have y_0 : (0 : Int32).toInt = 0 := by decide
              have y_5 : (5 : Int32).toInt = 5 := by decide
              have t_x_9 : x_9.toInt = ((Tv 2) : Int32).toInt - ((Tv 1) : Int32).toInt := by rw [ex_9]; exact sub_toInt (by omega) (by omega)
              omega
            have hd_95 := TpR.dig h_r hr_96 (i := vy_13) hr_97
            rw [← he_88.1] at hd_95
            have hr_98 : 0 ≤ (Tv 1).toInt ∧ (Tv 1).toInt ≤ (vy_13 : Int32).toInt := by
              have z_1 : ¬ (r_5 : Int32).toInt = (0 : Int32).toInt := fun z => c_8 (Int32.toInt_inj.mp z)
              have z_2 := Int32.le_iff_toInt_le.mp c_10
              have z_3 := Int32.lt_iff_toInt_lt.mp (Int32.not_le.mp c_21)
              have y_0 : (0 : Int32).toInt = 0 := by decide
              have y_5 : (5 : Int32).toInt = 5 := by decide
              have t_x_9 : x_9.toInt = ((Tv 2) : Int32).toInt - ((Tv 1) : Int32).toInt := by rw [ex_9]; exact sub_toInt (by omega) (by omega)
              omega
            have hi_99 : (x_91 : Int32).toInt = (vy_14 : Int32).toInt * 10 + (r_87 : Int32).toInt - 48 := by
              have z_1 : ¬ (r_5 : Int32).toInt = (0 : Int32).toInt := fun z => c_8 (Int32.toInt_inj.mp z)
              have z_2 := Int32.le_iff_toInt_le.mp c_10
              have z_3 := Int32.lt_iff_toInt_lt.mp (Int32.not_le.mp c_21)
              have y_0 : (0 : Int32).toInt = 0 := by decide
              have y_5 : (5 : Int32).toInt = 5 := by decide
              have y_10 : (10 : Int32).toInt = 10 := by decide
              have y_48 : (48 : Int32).toInt = 48 := by decide
              have t_x_9 : x_9.toInt = ((Tv 2) : Int32).toInt - ((Tv 1) : Int32).toInt := by rw [ex_9]; exact sub_toInt (by omega) (by omega)
              have t_x_82 : x_82.toInt = (vy_14 : Int32).toInt * (10 : Int32).toInt := by rw [ex_82]; exact mul_toInt (by first | omega | (rw [y_10]; omega)) (by first | omega | (rw [y_10]; omega))
              rw [y_10] at t_x_82
              have t_x_90 : x_90.toInt = (x_82 : Int32).toInt + (r_87 : Int32).toInt := by rw [ex_90]; exact add_toInt (by omega) (by omega)
              have t_x_91 : x_91.toInt = (x_90 : Int32).toInt - (48 : Int32).toInt := by rw [ex_91]; exact sub_toInt (by omega) (by omega)
              omega
            have hi_100 : (x_92 : Int32).toInt = (vy_13 : Int32).toInt + 1 := by
              have z_1 : ¬ (r_5 : Int32).toInt = (0 : Int32).toInt := fun z => c_8 (Int32.toInt_inj.mp z)
              have z_2 := Int32.le_iff_toInt_le.mp c_10
              have z_3 := Int32.lt_iff_toInt_lt.mp (Int32.not_le.mp c_21)
              have y_0 : (0 : Int32).toInt = 0 := by decide
              have y_5 : (5 : Int32).toInt = 5 := by decide
              have y_1 : (1 : Int32).toInt = 1 := by decide
              have t_x_9 : x_9.toInt = ((Tv 2) : Int32).toInt - ((Tv 1) : Int32).toInt := by rw [ex_9]; exact sub_toInt (by omega) (by omega)
              have t_x_92 : x_92.toInt = (vy_13 : Int32).toInt + (1 : Int32).toInt := by rw [ex_92]; exact add_toInt (by omega) (by omega)
              omega
            exact ih_16 x_92 x_91 _ _ _ (by omega) ha_94 (Nv.st pf_19 hr_98 he_88.1 hd_95 hi_99 hi_100) (hP.sub [0, 1] rfl) (hD.sub [0, 1] rfl rfl) hS (lv_sub hl [0, 1, 2, 3, 4] rfl)
      have ha_101 : (Tv 1).toInt ≤ ((Tv 1) : Int32).toInt ∧ ((Tv 1) : Int32).toInt ≤ (Tv 2).toInt := by
        have z_1 : ¬ (r_5 : Int32).toInt = (0 : Int32).toInt := fun z => c_8 (Int32.toInt_inj.mp z)
        have z_2 := Int32.le_iff_toInt_le.mp c_10
        have y_0 : (0 : Int32).toInt = 0 := by decide
        have y_5 : (5 : Int32).toInt = 5 := by decide
        have t_x_9 : x_9.toInt = ((Tv 2) : Int32).toInt - ((Tv 1) : Int32).toInt := by rw [ex_9]; exact sub_toInt (by omega) (by omega)
        omega
      exact loop_17 _ (Tv 1) 0 _ _ _ (Nat.lt_succ_self _) ha_101 (Nv.nil) hP hD hS hl
    · skip
      refine lv_aload_n hx hb dX10_numberHere_30 rfl (lv_at hl 0 rfl) ?_
      refine lv_iconst (v := 1) hx hb dX10_numberHere_31 (by decide) ?_
      have ha_102 : 0 ≤ (1 : Int32).toInt ∧ (1 : Int32).toInt ≤ 4 := by
        have z_1 : ¬ (r_5 : Int32).toInt = (0 : Int32).toInt := fun z => c_8 (Int32.toInt_inj.mp z)
        have z_2 := Int32.lt_iff_toInt_lt.mp (Int32.not_le.mp c_10)
        have y_0 : (0 : Int32).toInt = 0 := by decide
        have y_5 : (5 : Int32).toInt = 5 := by decide
        have y_1 : (1 : Int32).toInt = 1 := by decide
        have t_x_9 : x_9.toInt = ((Tv 2) : Int32).toInt - ((Tv 1) : Int32).toInt := by rw [ex_9]; exact sub_toInt (by omega) (by omega)
        omega
      have ha_103 : (1 : Int32).toInt = (1 : Int) := by
        have z_1 : ¬ (r_5 : Int32).toInt = (0 : Int32).toInt := fun z => c_8 (Int32.toInt_inj.mp z)
        have z_2 := Int32.lt_iff_toInt_lt.mp (Int32.not_le.mp c_10)
        have y_0 : (0 : Int32).toInt = 0 := by decide
        have y_5 : (5 : Int32).toInt = 5 := by decide
        have y_1 : (1 : Int32).toInt = 1 := by decide
        have t_x_9 : x_9.toInt = ((Tv 2) : Int32).toInt - ((Tv 1) : Int32).toInt := by rw [ex_9]; exact sub_toInt (by omega) (by omega)
        omega
      refine cV (a := (Ta 0)) (As := [.int 1]) (rest := []) (wr := []) ⟨hx, hb, hml, hown, hts⟩ hK hX hA (cu_fX10_fail l D tc sk (Ta 0) (Ta 1) (Tv 0) (Tv 1) (Tv 2) (Tv 3) (Tv 4) (Tf 1) 1 rr 1 h_tape h_r ha_102 ha_103) k_557 k_571 k_555 k_556 k_96 pl_X10_fail ⟨Nat.le_of_ble_eq_true rfl, Nat.le_of_ble_eq_true rfl⟩ rfl rfl (va_recv hK hP (ci := 10) (q0 := 0) rfl rfl) hP hD hS [0, 1] [] rfl rfl rfl rfl rfl (by decide) rfl hl.1 rfl (Nat.le_of_ble_eq_true rfl) dX10_numberHere_32 ⟨Nat.le_of_ble_eq_true rfl, Nat.le_of_ble_eq_true rfl⟩ (fun v_104 u_105 H locs hv_106 hP₀ hD₀ hS₀ => ?_)
      obtain ⟨sv_107, sv_108⟩ := u_105
      obtain ⟨rfl, pf_109, pf_110⟩ := hv_106
      have pf_109 : 0 ≤ ((Tv 0) : Int32).toInt ∧ ((Tv 0) : Int32).toInt ≤ 400 ∧ 0 ≤ ((Tv 1) : Int32).toInt ∧ ((Tv 1) : Int32).toInt ≤ 400 ∧ 0 ≤ ((Tv 2) : Int32).toInt ∧ ((Tv 2) : Int32).toInt ≤ 400 := pf_109
      have pf_110 : TpR (Tf 1) (Tv 0) (rER (1 : Int) rr) (Tv 1) (Tv 2) sv_107 sv_108 := pf_110
      obtain ⟨ro_111, ero_111⟩ : ∃ z : Except Int (Nat × Nat), z = (rER (1 : Int) rr) := ⟨_, rfl⟩
      rw [← ero_111] at pf_110
      have tb_112 : TpB (rTE (cB (Tf 1) (Tv 0)) ro_111) (Tv 2) sv_108 := TpR.tb pf_110
      refine W.eq (g2 := F0 m 35 ls []) rfl ?_
      replace hP : va_P D classes [((Ta 0), .inr (10, [.ref (Ta 1), .int (Tv 0), .int (Tv 1), .int (Tv 2), .int sv_107, .int sv_108])), ((Ta 1), .inl (tc 0, 400, .inl (Tf 1)))] H := hP₀
      replace hD : va_D A [((Ta 0), .inr (10, [.ref (Ta 1), .int (Tv 0), .int (Tv 1), .int (Tv 2), .int sv_107, .int sv_108])), ((Ta 1), .inl (tc 0, 400, .inl (Tf 1)))] := hD₀
      replace hS := hS₀
      clear hP₀ hD₀ hS₀
      refine lv_iload_n hx hb dX10_numberHere_35 rfl (lv_at hl 1 rfl) ?_
      have hr_113 : 48 ≤ (Tv 3).toInt ∧ (Tv 3).toInt ≤ 57 := by
        have z_1 : ¬ (r_5 : Int32).toInt = (0 : Int32).toInt := fun z => c_8 (Int32.toInt_inj.mp z)
        have z_2 := Int32.lt_iff_toInt_lt.mp (Int32.not_le.mp c_10)
        have y_0 : (0 : Int32).toInt = 0 := by decide
        have y_5 : (5 : Int32).toInt = 5 := by decide
        have t_x_9 : x_9.toInt = ((Tv 2) : Int32).toInt - ((Tv 1) : Int32).toInt := by rw [ex_9]; exact sub_toInt (by omega) (by omega)
        omega
      have hr_114 : 5 < (Tv 2).toInt - (Tv 1).toInt := by
        have z_1 : ¬ (r_5 : Int32).toInt = (0 : Int32).toInt := fun z => c_8 (Int32.toInt_inj.mp z)
        have z_2 := Int32.lt_iff_toInt_lt.mp (Int32.not_le.mp c_10)
        have y_0 : (0 : Int32).toInt = 0 := by decide
        have y_5 : (5 : Int32).toInt = 5 := by decide
        have t_x_9 : x_9.toInt = ((Tv 2) : Int32).toInt - ((Tv 1) : Int32).toInt := by rw [ex_9]; exact sub_toInt (by omega) (by omega)
        omega
      have hf_115 : TpR (Tf 1) (Tv 0) (rNU (cB (Tf 1) (Tv 0)) lo hi rr) (Tv 1) (Tv 2) sv_107 sv_108 := by
        have hE_116 : (rNU (cB (Tf 1) (Tv 0)) lo hi rr) = ro_111 := by
          rw [ero_111]
          exact (rNU_long h_r hr_113 hr_114)
        rw [hE_116]
        exact pf_110
      have hr_117 : 48 ≤ (Tv 3).toInt ∧ (Tv 3).toInt ≤ 57 := by
        have z_1 : ¬ (r_5 : Int32).toInt = (0 : Int32).toInt := fun z => c_8 (Int32.toInt_inj.mp z)
        have z_2 := Int32.lt_iff_toInt_lt.mp (Int32.not_le.mp c_10)
        have y_0 : (0 : Int32).toInt = 0 := by decide
        have y_5 : (5 : Int32).toInt = 5 := by decide
        have t_x_9 : x_9.toInt = ((Tv 2) : Int32).toInt - ((Tv 1) : Int32).toInt := by rw [ex_9]; exact sub_toInt (by omega) (by omega)
        omega
      have hr_118 : 5 < (Tv 2).toInt - (Tv 1).toInt := by
        have z_1 : ¬ (r_5 : Int32).toInt = (0 : Int32).toInt := fun z => c_8 (Int32.toInt_inj.mp z)
        have z_2 := Int32.lt_iff_toInt_lt.mp (Int32.not_le.mp c_10)
        have y_0 : (0 : Int32).toInt = 0 := by decide
        have y_5 : (5 : Int32).toInt = 5 := by decide
        have t_x_9 : x_9.toInt = ((Tv 2) : Int32).toInt - ((Tv 1) : Int32).toInt := by rw [ex_9]; exact sub_toInt (by omega) (by omega)
        omega
      exact retI (v := x1) hx hb hr hlk (rfl) hP hD hS (sv_107, sv_108) ⟨_, rfl, (NuV.long h_r hr_117 hr_118), pf_109, hf_115⟩ [0, 1] rfl rfl dX10_numberHere_36 (Nat.le_of_ble_eq_true rfl) (Nat.le_of_ble_eq_true rfl) rfl
  · skip
    refine lv_aload_n hx hb dX10_numberHere_10 rfl (lv_at hl 0 rfl) ?_
    refine lv_iconst (v := 0) hx hb dX10_numberHere_11 (by decide) ?_
    have ha_119 : 0 ≤ (0 : Int32).toInt ∧ (0 : Int32).toInt ≤ 4 := by
      have z_1 := congrArg Int32.toInt c_8
      have y_0 : (0 : Int32).toInt = 0 := by decide
      omega
    have ha_120 : (0 : Int32).toInt = (0 : Int) := by
      have z_1 := congrArg Int32.toInt c_8
      have y_0 : (0 : Int32).toInt = 0 := by decide
      omega
    refine cV (a := (Ta 0)) (As := [.int 0]) (rest := []) (wr := []) ⟨hx, hb, hml, hown, hts⟩ hK hX hA (cu_fX10_fail l D tc sk (Ta 0) (Ta 1) (Tv 0) (Tv 1) (Tv 2) (Tv 3) (Tv 4) (Tf 1) 0 rr 0 h_tape h_r ha_119 ha_120) k_557 k_571 k_555 k_556 k_96 pl_X10_fail ⟨Nat.le_of_ble_eq_true rfl, Nat.le_of_ble_eq_true rfl⟩ rfl rfl (va_recv hK hP (ci := 10) (q0 := 0) rfl rfl) hP hD hS [0, 1] [] rfl rfl rfl rfl rfl (by decide) rfl hl.1 rfl (Nat.le_of_ble_eq_true rfl) dX10_numberHere_12 ⟨Nat.le_of_ble_eq_true rfl, Nat.le_of_ble_eq_true rfl⟩ (fun v_121 u_122 H locs hv_123 hP₀ hD₀ hS₀ => ?_)
    obtain ⟨sv_124, sv_125⟩ := u_122
    obtain ⟨rfl, pf_126, pf_127⟩ := hv_123
    have pf_126 : 0 ≤ ((Tv 0) : Int32).toInt ∧ ((Tv 0) : Int32).toInt ≤ 400 ∧ 0 ≤ ((Tv 1) : Int32).toInt ∧ ((Tv 1) : Int32).toInt ≤ 400 ∧ 0 ≤ ((Tv 2) : Int32).toInt ∧ ((Tv 2) : Int32).toInt ≤ 400 := pf_126
    have pf_127 : TpR (Tf 1) (Tv 0) (rER (0 : Int) rr) (Tv 1) (Tv 2) sv_124 sv_125 := pf_127
    obtain ⟨ro_128, ero_128⟩ : ∃ z : Except Int (Nat × Nat), z = (rER (0 : Int) rr) := ⟨_, rfl⟩
    rw [← ero_128] at pf_127
    have tb_129 : TpB (rTE (cB (Tf 1) (Tv 0)) ro_128) (Tv 2) sv_125 := TpR.tb pf_127
    refine W.eq (g2 := F0 m 15 ls []) rfl ?_
    replace hP : va_P D classes [((Ta 0), .inr (10, [.ref (Ta 1), .int (Tv 0), .int (Tv 1), .int (Tv 2), .int sv_124, .int sv_125])), ((Ta 1), .inl (tc 0, 400, .inl (Tf 1)))] H := hP₀
    replace hD : va_D A [((Ta 0), .inr (10, [.ref (Ta 1), .int (Tv 0), .int (Tv 1), .int (Tv 2), .int sv_124, .int sv_125])), ((Ta 1), .inl (tc 0, 400, .inl (Tf 1)))] := hD₀
    replace hS := hS₀
    clear hP₀ hD₀ hS₀
    refine lv_iload_n hx hb dX10_numberHere_15 rfl (lv_at hl 1 rfl) ?_
    have hr_130 : ¬ (48 ≤ (Tv 3).toInt ∧ (Tv 3).toInt ≤ 57) := by
      have z_1 := congrArg Int32.toInt c_8
      have y_0 : (0 : Int32).toInt = 0 := by decide
      omega
    have hf_131 : TpR (Tf 1) (Tv 0) (rNU (cB (Tf 1) (Tv 0)) lo hi rr) (Tv 1) (Tv 2) sv_124 sv_125 := by
      have hE_132 : (rNU (cB (Tf 1) (Tv 0)) lo hi rr) = ro_128 := by
        rw [ero_128]
        exact (rNU_nd h_r hr_130)
      rw [hE_132]
      exact pf_127
    have hr_133 : ¬ (48 ≤ (Tv 3).toInt ∧ (Tv 3).toInt ≤ 57) := by
      have z_1 := congrArg Int32.toInt c_8
      have y_0 : (0 : Int32).toInt = 0 := by decide
      omega
    exact retI (v := x1) hx hb hr hlk (rfl) hP hD hS (sv_124, sv_125) ⟨_, rfl, (NuV.nd h_r hr_133), pf_126, hf_131⟩ [0, 1] rfl rfl dX10_numberHere_16 (Nat.le_of_ble_eq_true rfl) (Nat.le_of_ble_eq_true rfl) rfl
set_option maxRecDepth 100000 in
theorem cu_fX10_numberHere (l : Launch) (D : va_G) (tc : Nat → ClassId) (sk : (Nat → Nat) × (Nat → Nat)) (Ta_0 : Nat) (Ta_1 : Nat) (Tv_0 : Int32) (Tv_1 : Int32) (Tv_2 : Int32) (Tv_3 : Int32) (Tv_4 : Int32) (Tf_1 : Nat → Int32) (x1 : Int32) (x2 : Int32) (rr : Except Int (Nat × Nat)) (lo : Int) (hi : Int) (h_tape : 0 ≤ (Tv_0 : Int32).toInt ∧ (Tv_0 : Int32).toInt ≤ 400 ∧ 0 ≤ (Tv_1 : Int32).toInt ∧ (Tv_1 : Int32).toInt ≤ 400 ∧ 0 ≤ (Tv_2 : Int32).toInt ∧ (Tv_2 : Int32).toInt ≤ 400) (h_by : Byt Tf_1) (h_r : TpR Tf_1 Tv_0 rr Tv_1 Tv_2 Tv_3 Tv_4) (h_lo : x1.toInt = lo) (h_hi : x2.toInt = hi) : Ct l yX10_numberHere cX10_numberHere 5 (some .int) { frames := 1, cells := 0, slots := 0, locals := 21 } D tc sk [.ref Ta_0, .int x1, .int x2] [(Ta_0, .inr (10, [.ref Ta_1, .int Tv_0, .int Tv_1, .int Tv_2, .int Tv_3, .int Tv_4])), (Ta_1, .inl (tc 0, 400, .inl Tf_1))] (fun (v : Option Value) (u : (Int32) × (Int32)) => match u with | (oo0x1, oo0x2) => ∃ r : Int32, v = some (.int r) ∧ (NuV (cB Tf_1 Tv_0) lo hi rr r) ∧ (0 ≤ (Tv_0 : Int32).toInt ∧ (Tv_0 : Int32).toInt ≤ 400 ∧ 0 ≤ (Tv_1 : Int32).toInt ∧ (Tv_1 : Int32).toInt ≤ 400 ∧ 0 ≤ (Tv_2 : Int32).toInt ∧ (Tv_2 : Int32).toInt ≤ 400) ∧ (TpR Tf_1 Tv_0 (rNU (cB Tf_1 Tv_0) lo hi rr) Tv_1 Tv_2 oo0x1 oo0x2)) (fun (u : (Int32) × (Int32)) => match u with | (oo0x1, oo0x2) => [(Ta_0, .inr (10, [.ref Ta_1, .int Tv_0, .int Tv_1, .int Tv_2, .int oo0x1, .int oo0x2])), (Ta_1, .inl (tc 0, 400, .inl Tf_1))]) 0 0 :=
  ct_fX10_numberHere l D tc sk (fun k => ([Ta_0, Ta_1] : List (Nat)).getD k 0) (fun k => ([Tv_0, Tv_1, Tv_2, Tv_3, Tv_4] : List (Int32)).getD k 0) (fun k => ([(fun _ => 0), Tf_1] : List (Nat → Int32)).getD k (fun _ => 0)) x1 x2 rr lo hi h_tape h_by h_r h_lo h_hi
set_option maxHeartbeats 4000000 in
set_option maxRecDepth 100000 in
theorem ct_fX7_countOne (l : Launch) (D : va_G) (tc : Nat → ClassId) (sk : (Nat → Nat) × (Nat → Nat)) (Va : Nat → Nat) (Vv : Nat → Int32) (Vf : Nat → Nat → Int32) (Ta : Nat → Nat) (Tv : Nat → Int32) (Tf : Nat → Nat → Int32) (rr : Except Int (Nat × Nat)) (h_tape : 0 ≤ ((Tv 0) : Int32).toInt ∧ ((Tv 0) : Int32).toInt ≤ 400 ∧ 0 ≤ ((Tv 1) : Int32).toInt ∧ ((Tv 1) : Int32).toInt ≤ 400 ∧ 0 ≤ ((Tv 2) : Int32).toInt ∧ ((Tv 2) : Int32).toInt ≤ 400) (h_u : 0 ≤ ((Vv 0) : Int32).toInt ∧ ((Vv 0) : Int32).toInt ≤ 400) (h_by : Byt (Tf 1)) (h_r : TpR (Tf 1) (Tv 0) rr (Tv 1) (Tv 2) (Tv 3) (Tv 4)) (h_ct : Ctd rr (Vv 1)) : Ct l yX7_countOne cX7_countOne 2 none { frames := 1, cells := 0, slots := 0, locals := 21 } D tc sk [.ref (Va 0), .ref (Ta 0)] [((Va 0), .inr (7, [.ref (Va 1), .int (Vv 0), .int (Vv 1)])), ((Va 1), .inl (tc 0, 400, .inl (Vf 1))), ((Ta 0), .inr (10, [.ref (Ta 1), .int (Tv 0), .int (Tv 1), .int (Tv 2), .int (Tv 3), .int (Tv 4)])), ((Ta 1), .inl (tc 0, 400, .inl (Tf 1)))] (fun (v : Option Value) (u : (Int32) × (Int32) × (Int32)) => match u with | (oo0x1, oo0x2, oo0x3) => v = none ∧ (0 ≤ ((Tv 0) : Int32).toInt ∧ ((Tv 0) : Int32).toInt ≤ 400 ∧ 0 ≤ ((Tv 1) : Int32).toInt ∧ ((Tv 1) : Int32).toInt ≤ 400 ∧ 0 ≤ ((Tv 2) : Int32).toInt ∧ ((Tv 2) : Int32).toInt ≤ 400) ∧ (0 ≤ ((Vv 0) : Int32).toInt ∧ ((Vv 0) : Int32).toInt ≤ 400) ∧ (TpR (Tf 1) (Tv 0) (rC1 rr) (Tv 1) (Tv 2) oo0x2 oo0x3) ∧ (Ctd (rC1 rr) oo0x1)) (fun (u : (Int32) × (Int32) × (Int32)) => match u with | (oo0x1, oo0x2, oo0x3) => [((Va 0), .inr (7, [.ref (Va 1), .int (Vv 0), .int oo0x1])), ((Va 1), .inl (tc 0, 400, .inl (Vf 1))), ((Ta 0), .inr (10, [.ref (Ta 1), .int (Tv 0), .int (Tv 1), .int (Tv 2), .int oo0x2, .int oo0x3])), ((Ta 1), .inl (tc 0, 400, .inl (Tf 1)))]) 0 0 := by
  refine Ct.start (by decide) (Nat.le_of_ble_eq_true rfl) (fun p e s m below meth c A ls hx hb hr hlk hin hml hown hts hK hX hP hD hA hl hS => ?_)
  have hl : lv_has ls 2 [(0, .ref (Va 0)), (1, .ref (Ta 0))] := hl
  have tb_1 : TpB (rTE (cB (Tf 1) (Tv 0)) rr) (Tv 2) (Tv 4) := TpR.tb h_r
  refine lv_aload_n hx hb dX7_countOne_0 rfl (lv_at hl 0 rfl) ?_
  refine gf_X7_19 hx hb hts hown hK hP 0 rfl rfl dX7_countOne_1 ?_
  refine lv_bipush (v := 60) hx hb dX7_countOne_4 (by decide) ?_
  refine lv_icmp_lt (tgt := 14) hx hb dX7_countOne_6 (by decide) (fun c_2 => ?_) (fun c_2 => ?_)
  · skip
    refine lv_aload_n hx hb dX7_countOne_14 rfl (lv_at hl 0 rfl) ?_
    refine lv_dup hx hb dX7_countOne_15 rfl ?_
    refine gf_X7_19 hx hb hts hown hK hP 0 rfl rfl dX7_countOne_16 ?_
    refine lv_iconst (v := 1) hx hb dX7_countOne_19 (by decide) ?_
    refine lv_iadd hx hb dX7_countOne_20 ?_
    refine lv_topi (fun x_3 ex_3 => ?_)
    refine pf_X7_19 hx hb hts hown hK hP hD hS 0 rfl (Nat.le_of_ble_eq_true rfl) rfl rfl dX7_countOne_21 (fun H locs hP₀ hD₀ hS₀ => ?_)
    replace hP : va_P D classes [((Va 0), .inr (7, [.ref (Va 1), .int (Vv 0), .int x_3])), ((Va 1), .inl (tc 0, 400, .inl (Vf 1))), ((Ta 0), .inr (10, [.ref (Ta 1), .int (Tv 0), .int (Tv 1), .int (Tv 2), .int (Tv 3), .int (Tv 4)])), ((Ta 1), .inl (tc 0, 400, .inl (Tf 1)))] H := hP₀
    replace hD : va_D A [((Va 0), .inr (7, [.ref (Va 1), .int (Vv 0), .int x_3])), ((Va 1), .inl (tc 0, 400, .inl (Vf 1))), ((Ta 0), .inr (10, [.ref (Ta 1), .int (Tv 0), .int (Tv 1), .int (Tv 2), .int (Tv 3), .int (Tv 4)])), ((Ta 1), .inl (tc 0, 400, .inl (Tf 1)))] := hD₀
    replace hS := hS₀
    clear hP₀ hD₀ hS₀
    have hr_4 : (Vv 1).toInt < 60 := by
      have z_1 := Int32.lt_iff_toInt_lt.mp c_2
      have y_60 : (60 : Int32).toInt = 60 := by decide
      omega
    have hc_5 : (Vv 1).toInt < 60 → (x_3 : Int32).toInt = (Vv 1).toInt + 1 := by
      intro z
      have y_1 : (1 : Int32).toInt = 1 := by decide
      have yl := (Vv 1).le_toInt
      rw [ex_3, add_toInt (by omega) (by omega)]
      omega
    exact retV hx hb hr hlk hP hD hS (x_3, (Tv 3), (Tv 4)) ⟨rfl, h_tape, h_u, (TpR.c1 h_r h_ct hr_4), (Ctd.c1 h_ct hc_5)⟩ [0, 1, 2, 3] rfl rfl dX7_countOne_24 (Nat.le_of_ble_eq_true rfl) (Nat.le_of_ble_eq_true rfl) rfl
  · skip
    refine lv_aload_n hx hb dX7_countOne_9 rfl (lv_at hl 1 rfl) ?_
    refine lv_iconst (v := 3) hx hb dX7_countOne_10 (by decide) ?_
    have ha_6 : 0 ≤ (3 : Int32).toInt ∧ (3 : Int32).toInt ≤ 4 := by
      have z_1 := Int32.le_iff_toInt_le.mp (Int32.not_lt.mp c_2)
      have y_60 : (60 : Int32).toInt = 60 := by decide
      have y_3 : (3 : Int32).toInt = 3 := by decide
      omega
    have ha_7 : (3 : Int32).toInt = (3 : Int) := by
      have z_1 := Int32.le_iff_toInt_le.mp (Int32.not_lt.mp c_2)
      have y_60 : (60 : Int32).toInt = 60 := by decide
      have y_3 : (3 : Int32).toInt = 3 := by decide
      omega
    refine cV (a := (Ta 0)) (As := [.int 3]) (rest := []) (wr := [((Va 0), .inr (7, [.ref (Va 1), .int (Vv 0), .int (Vv 1)])), ((Va 1), .inl (tc 0, 400, .inl (Vf 1)))]) ⟨hx, hb, hml, hown, hts⟩ hK hX hA (cu_fX10_fail l D tc sk (Ta 0) (Ta 1) (Tv 0) (Tv 1) (Tv 2) (Tv 3) (Tv 4) (Tf 1) 3 rr 3 h_tape h_r ha_6 ha_7) k_557 k_619 k_555 k_556 k_96 pl_X10_fail ⟨Nat.le_of_ble_eq_true rfl, Nat.le_of_ble_eq_true rfl⟩ rfl rfl (va_recv hK hP (ci := 10) (q0 := 2) rfl rfl) hP hD hS [2, 3] [0, 1] rfl rfl rfl rfl rfl (by decide) rfl hl.1 rfl (Nat.le_of_ble_eq_true rfl) dX7_countOne_11 ⟨Nat.le_of_ble_eq_true rfl, Nat.le_of_ble_eq_true rfl⟩ (fun v_8 u_9 H locs hv_10 hP₀ hD₀ hS₀ => ?_)
    obtain ⟨sv_11, sv_12⟩ := u_9
    obtain ⟨rfl, pf_13, pf_14⟩ := hv_10
    have pf_13 : 0 ≤ ((Tv 0) : Int32).toInt ∧ ((Tv 0) : Int32).toInt ≤ 400 ∧ 0 ≤ ((Tv 1) : Int32).toInt ∧ ((Tv 1) : Int32).toInt ≤ 400 ∧ 0 ≤ ((Tv 2) : Int32).toInt ∧ ((Tv 2) : Int32).toInt ≤ 400 := pf_13
    have pf_14 : TpR (Tf 1) (Tv 0) (rER (3 : Int) rr) (Tv 1) (Tv 2) sv_11 sv_12 := pf_14
    obtain ⟨ro_15, ero_15⟩ : ∃ z : Except Int (Nat × Nat), z = (rER 3 rr) := ⟨_, rfl⟩
    rw [← ero_15] at pf_14
    have tb_16 : TpB (rTE (cB (Tf 1) (Tv 0)) ro_15) (Tv 2) sv_12 := TpR.tb pf_14
    have cd_17 : Ctd ro_15 (Vv 1) := by rw [ero_15]; exact (Ctd.er)
    refine W.eq (g2 := F0 m 14 ls []) rfl ?_
    replace hP : va_P D classes [((Va 0), .inr (7, [.ref (Va 1), .int (Vv 0), .int (Vv 1)])), ((Va 1), .inl (tc 0, 400, .inl (Vf 1))), ((Ta 0), .inr (10, [.ref (Ta 1), .int (Tv 0), .int (Tv 1), .int (Tv 2), .int sv_11, .int sv_12])), ((Ta 1), .inl (tc 0, 400, .inl (Tf 1)))] H := hP₀
    replace hD : va_D A [((Va 0), .inr (7, [.ref (Va 1), .int (Vv 0), .int (Vv 1)])), ((Va 1), .inl (tc 0, 400, .inl (Vf 1))), ((Ta 0), .inr (10, [.ref (Ta 1), .int (Tv 0), .int (Tv 1), .int (Tv 2), .int sv_11, .int sv_12])), ((Ta 1), .inl (tc 0, 400, .inl (Tf 1)))] := hD₀
    replace hS := hS₀
    clear hP₀ hD₀ hS₀
    refine lv_aload_n hx hb dX7_countOne_14 rfl (lv_at hl 0 rfl) ?_
    refine lv_dup hx hb dX7_countOne_15 rfl ?_
    refine gf_X7_19 hx hb hts hown hK hP 0 rfl rfl dX7_countOne_16 ?_
    refine lv_iconst (v := 1) hx hb dX7_countOne_19 (by decide) ?_
    refine lv_iadd hx hb dX7_countOne_20 ?_
    refine lv_topi (fun x_18 ex_18 => ?_)
    refine pf_X7_19 hx hb hts hown hK hP hD hS 0 rfl (Nat.le_of_ble_eq_true rfl) rfl rfl dX7_countOne_21 (fun H locs hP₀ hD₀ hS₀ => ?_)
    replace hP : va_P D classes [((Va 0), .inr (7, [.ref (Va 1), .int (Vv 0), .int x_18])), ((Va 1), .inl (tc 0, 400, .inl (Vf 1))), ((Ta 0), .inr (10, [.ref (Ta 1), .int (Tv 0), .int (Tv 1), .int (Tv 2), .int sv_11, .int sv_12])), ((Ta 1), .inl (tc 0, 400, .inl (Tf 1)))] H := hP₀
    replace hD : va_D A [((Va 0), .inr (7, [.ref (Va 1), .int (Vv 0), .int x_18])), ((Va 1), .inl (tc 0, 400, .inl (Vf 1))), ((Ta 0), .inr (10, [.ref (Ta 1), .int (Tv 0), .int (Tv 1), .int (Tv 2), .int sv_11, .int sv_12])), ((Ta 1), .inl (tc 0, 400, .inl (Tf 1)))] := hD₀
    replace hS := hS₀
    clear hP₀ hD₀ hS₀
    have hr_19 : 60 ≤ (Vv 1).toInt := by
      have z_1 := Int32.le_iff_toInt_le.mp (Int32.not_lt.mp c_2)
      have y_60 : (60 : Int32).toInt = 60 := by decide
      omega
    have hf_20 : TpR (Tf 1) (Tv 0) (rC1 rr) (Tv 1) (Tv 2) sv_11 sv_12 := by
      have hE_21 : (rC1 rr) = ro_15 := by
        rw [ero_15]
        exact (rC1_hi h_ct hr_19)
      rw [hE_21]
      exact pf_14
    have hc_22 : (Vv 1).toInt < 60 → (x_18 : Int32).toInt = (Vv 1).toInt + 1 := by
      intro z
      have y_1 : (1 : Int32).toInt = 1 := by decide
      have yl := (Vv 1).le_toInt
      rw [ex_18, add_toInt (by omega) (by omega)]
      omega
    exact retV hx hb hr hlk hP hD hS (x_18, sv_11, sv_12) ⟨rfl, pf_13, h_u, hf_20, (Ctd.c1 h_ct hc_22)⟩ [0, 1, 2, 3] rfl rfl dX7_countOne_24 (Nat.le_of_ble_eq_true rfl) (Nat.le_of_ble_eq_true rfl) rfl
set_option maxRecDepth 100000 in
theorem cu_fX7_countOne (l : Launch) (D : va_G) (tc : Nat → ClassId) (sk : (Nat → Nat) × (Nat → Nat)) (Va_0 : Nat) (Va_1 : Nat) (Vv_0 : Int32) (Vv_1 : Int32) (Vf_1 : Nat → Int32) (Ta_0 : Nat) (Ta_1 : Nat) (Tv_0 : Int32) (Tv_1 : Int32) (Tv_2 : Int32) (Tv_3 : Int32) (Tv_4 : Int32) (Tf_1 : Nat → Int32) (rr : Except Int (Nat × Nat)) (h_tape : 0 ≤ (Tv_0 : Int32).toInt ∧ (Tv_0 : Int32).toInt ≤ 400 ∧ 0 ≤ (Tv_1 : Int32).toInt ∧ (Tv_1 : Int32).toInt ≤ 400 ∧ 0 ≤ (Tv_2 : Int32).toInt ∧ (Tv_2 : Int32).toInt ≤ 400) (h_u : 0 ≤ (Vv_0 : Int32).toInt ∧ (Vv_0 : Int32).toInt ≤ 400) (h_by : Byt Tf_1) (h_r : TpR Tf_1 Tv_0 rr Tv_1 Tv_2 Tv_3 Tv_4) (h_ct : Ctd rr Vv_1) : Ct l yX7_countOne cX7_countOne 2 none { frames := 1, cells := 0, slots := 0, locals := 21 } D tc sk [.ref Va_0, .ref Ta_0] [(Va_0, .inr (7, [.ref Va_1, .int Vv_0, .int Vv_1])), (Va_1, .inl (tc 0, 400, .inl Vf_1)), (Ta_0, .inr (10, [.ref Ta_1, .int Tv_0, .int Tv_1, .int Tv_2, .int Tv_3, .int Tv_4])), (Ta_1, .inl (tc 0, 400, .inl Tf_1))] (fun (v : Option Value) (u : (Int32) × (Int32) × (Int32)) => match u with | (oo0x1, oo0x2, oo0x3) => v = none ∧ (0 ≤ (Tv_0 : Int32).toInt ∧ (Tv_0 : Int32).toInt ≤ 400 ∧ 0 ≤ (Tv_1 : Int32).toInt ∧ (Tv_1 : Int32).toInt ≤ 400 ∧ 0 ≤ (Tv_2 : Int32).toInt ∧ (Tv_2 : Int32).toInt ≤ 400) ∧ (0 ≤ (Vv_0 : Int32).toInt ∧ (Vv_0 : Int32).toInt ≤ 400) ∧ (TpR Tf_1 Tv_0 (rC1 rr) Tv_1 Tv_2 oo0x2 oo0x3) ∧ (Ctd (rC1 rr) oo0x1)) (fun (u : (Int32) × (Int32) × (Int32)) => match u with | (oo0x1, oo0x2, oo0x3) => [(Va_0, .inr (7, [.ref Va_1, .int Vv_0, .int oo0x1])), (Va_1, .inl (tc 0, 400, .inl Vf_1)), (Ta_0, .inr (10, [.ref Ta_1, .int Tv_0, .int Tv_1, .int Tv_2, .int oo0x2, .int oo0x3])), (Ta_1, .inl (tc 0, 400, .inl Tf_1))]) 0 0 :=
  ct_fX7_countOne l D tc sk (fun k => ([Va_0, Va_1] : List (Nat)).getD k 0) (fun k => ([Vv_0, Vv_1] : List (Int32)).getD k 0) (fun k => ([(fun _ => 0), Vf_1] : List (Nat → Int32)).getD k (fun _ => 0)) (fun k => ([Ta_0, Ta_1] : List (Nat)).getD k 0) (fun k => ([Tv_0, Tv_1, Tv_2, Tv_3, Tv_4] : List (Int32)).getD k 0) (fun k => ([(fun _ => 0), Tf_1] : List (Nat → Int32)).getD k (fun _ => 0)) rr h_tape h_u h_by h_r h_ct
def RfO (r : Except Int (Nat × Nat)) (B : Nat → Int) (wr nx md : Int32) : Prop := ∃ s, r = .ok s ∧ wr.toInt = 0 ∧ pz_sk B nx.toInt.toNat = s.1 ∧ md.toInt = (s.2 : Int)
def RfE (r : Except Int (Nat × Nat)) (wr : Int32) : Prop := ∃ e, r = .error e ∧ wr.toInt = e
def St0 (B : Nat → Int) (nx md : Int32) : Nat × Nat := (pz_sk B nx.toInt.toNat, md.toInt.toNat)
def SkR (B : Nat → Int) (a b : Int32) : Prop := b.toInt = (pz_sk B a.toInt.toNat : Int) ∧ pz_sk B b.toInt.toNat = b.toInt.toNat ∧ ¬ B b.toInt.toNat = 32
theorem pz_sk_rf {B : Nat → Int} {p : Nat} (h : ¬ B p = 32) : pz_sk B p = p := pz_run_eq 401 p p (Nat.le_refl _) (by omega) (fun i a b => by omega) (fun z => h (of_decide_eq_true z))
theorem SkR.sk {B : Nat → Int} {a b : Int32} (h : SkR B a b) : pz_sk B b.toInt.toNat = pz_sk B a.toInt.toNat := by
  have := h.1
  rw [h.2.1]; omega
theorem SkR.nat {B : Nat → Int} {a b : Int32} (h : SkR B a b) : pz_sk B a.toInt.toNat = b.toInt.toNat := by
  have := h.1
  omega
theorem SkR.trans {B : Nat → Int} {a b c : Int32} (h : SkR B a b) (h2 : SkR B b c) : SkR B a c := by
  refine ⟨?_, h2.2⟩
  rw [← h.sk]; exact h2.1
def PsR (B : Nat → Int) (a b : Int32) : Prop := b.toInt = (pz_run pz_isL B 401 a.toInt.toNat : Int)
theorem PsR.te {B : Nat → Int} {a b : Int32} (h : PsR B a b) (hL : 97 ≤ B a.toInt.toNat ∧ B a.toInt.toNat ≤ 122) : b.toInt.toNat = pz_te B a.toInt.toNat := by
  have := h
  unfold PsR at this
  unfold pz_te
  rw [if_pos (show pz_isL (B a.toInt.toNat) = true from decide_eq_true hL)]
  omega
def NvF (B : Nat → Int) (a v i : Int32) : Prop := (i.toInt - a.toInt ≤ 5 → Nv B a v i) ∧ 0 ≤ v.toInt ∧ v.toInt ≤ 99999
theorem NvF.go {B : Nat → Int} {a v i i' : Int32} (h : NvF B a v i) (h5 : 5 ≤ i.toInt - a.toInt) (hi' : i'.toInt = i.toInt + 1) : NvF B a v i' := ⟨fun z => by omega, h.2⟩
def NmO (B : Nat → Int) (lo hi : Int) (nx nu nx' wr : Int32) : Prop := pz_num B lo hi (pz_sk B nx.toInt.toNat) = .ok nu.toInt ∧ nx'.toInt = (pz_te B (pz_sk B nx.toInt.toNat) : Int) ∧ wr.toInt = 0
def NmE (B : Nat → Int) (lo hi : Int) (nx wr : Int32) : Prop := pz_num B lo hi (pz_sk B nx.toInt.toNat) = .error wr.toInt
theorem val_word {B : Nat → Int} {p c : Nat} (h : ¬ (48 ≤ B p ∧ B p ≤ 57)) (hw : ¬ pz_wa B p pz_words 0 = -1) : pz_val B (p, c) = pz_cnt B (p, c) := (if_neg (fun z => h (of_decide_eq_true z))).trans (if_neg hw)
theorem cnt_one {B : Nat → Int} {p c : Nat} (h : ¬ 60 ≤ c) : pz_cnt B (p, c) = .ok (pz_nt B p, c + 1) := if_neg h
theorem RfO.word {B : Nat → Int} {nx n1 n2 md md' wr : Int32} (hs : SkR B nx n1) (hd : ¬ (48 ≤ B n1.toInt.toNat ∧ B n1.toInt.toNat ≤ 57)) (hw : ¬ pz_wa B n1.toInt.toNat pz_words 0 = -1) (hL : 97 ≤ B n1.toInt.toNat ∧ B n1.toInt.toNat ≤ 122) (hp : PsR B n1 n2) (hm : 0 ≤ md.toInt ∧ md.toInt < 60 ∧ md'.toInt = md.toInt + 1) (he : wr.toInt = 0) : RfO (pz_val B (St0 B nx md)) B wr n2 md' := by
  refine ⟨(pz_nt B n1.toInt.toNat, md.toInt.toNat + 1), ?_, he, ?_, ?_⟩
  · unfold St0
    rw [hs.nat, val_word hd hw]
    exact cnt_one (by omega)
  · show pz_sk B n2.toInt.toNat = pz_sk B (pz_te B n1.toInt.toNat)
    rw [hp.te hL]
  · show md'.toInt = ((md.toInt.toNat + 1 : Nat) : Int)
    omega
theorem SkR.eq {B : Nat → Int} {a b c : Int32} (h : SkR B a b) (h2 : SkR B b c) : c = b := by
  apply Int32.toInt_inj.mp
  have h3 := h2.1
  have h4 := h.1
  rw [h.2.1] at h3
  omega
theorem RfO.of {r : Except Int (Nat × Nat)} {B : Nat → Int} {wr nx md : Int32} (h : r = .ok (St0 B nx md)) (hw : wr.toInt = 0) (hm : 0 ≤ md.toInt) : RfO r B wr nx md := ⟨St0 B nx md, h, hw, rfl, by show md.toInt = (md.toInt.toNat : Int); omega⟩
theorem St0.sk {B : Nat → Int} {nx n1 md : Int32} (h : SkR B nx n1) : St0 B n1 md = St0 B nx md := by
  unfold St0; rw [h.sk]
theorem St0.at {B : Nat → Int} {nx n1 md : Int32} (h : SkR B nx n1) : St0 B nx md = (n1.toInt.toNat, md.toInt.toNat) := by
  unfold St0; rw [h.nat]
theorem te_op {B : Nat → Int} {p : Nat} (h : B p = 43 ∨ B p = 45 ∨ B p = 42 ∨ B p = 47 ∨ B p = 37) : pz_te B p = p + 1 := by
  unfold pz_te
  rw [if_neg (show ¬ pz_isL (B p) = true from fun z => by have := of_decide_eq_true z; omega), if_neg (show ¬ pz_isD (B p) = true from fun z => by have := of_decide_eq_true z; omega), if_neg (by omega), if_neg (by omega)]
theorem nx_te {B : Nat → Int} {nx n1 nx' md : Int32} (hs : SkR B nx n1) (ht : nx'.toInt = (pz_te B n1.toInt.toNat : Int)) : pz_nx B (St0 B nx md) = St0 B nx' md := by
  rw [St0.at hs]
  show (pz_sk B (pz_te B n1.toInt.toNat), md.toInt.toNat) = (pz_sk B nx'.toInt.toNat, md.toInt.toNat)
  rw [show nx'.toInt.toNat = pz_te B n1.toInt.toNat by omega]
theorem nx_op {B : Nat → Int} {nx n1 nx' md : Int32} (hs : SkR B nx n1) (h : B n1.toInt.toNat = 43 ∨ B n1.toInt.toNat = 45 ∨ B n1.toInt.toNat = 42 ∨ B n1.toInt.toNat = 47 ∨ B n1.toInt.toNat = 37) (h1 : nx'.toInt = n1.toInt + 1) : pz_nx B (St0 B nx md) = St0 B nx' md := nx_te hs (by have := hs.1; rw [te_op h]; omega)
def TmL (R : Except Int (Nat × Nat)) (B : Nat → Int) (wr nx md : Int32) : Prop := wr.toInt = 0 ∧ R = pz_lp (pz_sF B) (St0 B nx md)
def TmO (R : Except Int (Nat × Nat)) (B : Nat → Int) (wr nx md : Int32) : Prop := TmL R B wr nx md ∧ ¬ (B (pz_sk B nx.toInt.toNat) = 42 ∨ B (pz_sk B nx.toInt.toNat) = 47 ∨ B (pz_sk B nx.toInt.toNat) = 37)
theorem RfE.sum1 {B : Nat → Int} {s : Nat × Nat} {wr : Int32} (h : RfE (pz_val B s) wr) : RfE (pz_sum B s) wr := by
  obtain ⟨e, h1, h2⟩ := h
  exact ⟨e, by unfold pz_sum; rw [h1]; rfl, h2⟩
theorem TmL.go {R : Except Int (Nat × Nat)} {B : Nat → Int} {wr nx md n1 nx' : Int32} (hB : pz_fi B) (h : TmL R B wr nx md) (hs : SkR B nx n1) (hop : B n1.toInt.toNat = 43 ∨ B n1.toInt.toNat = 45 ∨ B n1.toInt.toNat = 42 ∨ B n1.toInt.toNat = 47 ∨ B n1.toInt.toNat = 37) (h1 : nx'.toInt = n1.toInt + 1) : R = pz_sum B (St0 B nx' md) := by
  rw [h.2, pz_sum_on hB (by rw [St0.at hs]; exact hop), nx_op hs hop h1]
theorem TmL.er {R : Except Int (Nat × Nat)} {B : Nat → Int} {wr nx md n1 nx' wr2 : Int32} (hB : pz_fi B) (h : TmL R B wr nx md) (hs : SkR B nx n1) (hop : B n1.toInt.toNat = 43 ∨ B n1.toInt.toNat = 45 ∨ B n1.toInt.toNat = 42 ∨ B n1.toInt.toNat = 47 ∨ B n1.toInt.toNat = 37) (h1 : nx'.toInt = n1.toInt + 1) (hv : RfE (pz_val B (St0 B nx' md)) wr2) : RfE R wr2 := by
  rw [h.go hB hs hop h1]; exact RfE.sum1 hv
theorem TmO.er {R : Except Int (Nat × Nat)} {B : Nat → Int} {wr nx md n1 nx' wr2 : Int32} (hB : pz_fi B) (h : TmO R B wr nx md) (hs : SkR B nx n1) (hop : B n1.toInt.toNat = 43 ∨ B n1.toInt.toNat = 45) (h1 : nx'.toInt = n1.toInt + 1) (hv : RfE (pz_sum B (St0 B nx' md)) wr2) : RfE R wr2 := by
  rw [h.1.go hB hs (by omega) h1]; exact hv
theorem TmO.fin {R : Except Int (Nat × Nat)} {B : Nat → Int} {wr nx md n1 : Int32} (h : TmO R B wr nx md) (hs : SkR B nx n1) (hn : ¬ (B n1.toInt.toNat = 43 ∨ B n1.toInt.toNat = 45)) (hm : 0 ≤ md.toInt) : RfO R B wr n1 md := by
  refine RfO.of ?_ h.1.1 hm
  have h2 := h.2
  rw [hs.nat] at h2
  rw [h.1.2, pz_sum_no (by rw [St0.at hs]; intro z; have z : B n1.toInt.toNat = 43 ∨ B n1.toInt.toNat = 45 ∨ B n1.toInt.toNat = 42 ∨ B n1.toInt.toNat = 47 ∨ B n1.toInt.toNat = 37 := z; omega), St0.sk hs]
def ok_os (f : Nat → Int32) : Nat → List Nat × Nat
  | 0 => ([10], 0)
  | k + 1 => if (f k).toInt = 11 then ((ok_os f k).1, (ok_os f k).2 + 1) else if (f k).toInt = 91 then ((10 - ((ok_os f k).2 + 1)) :: (ok_os f k).1, (ok_os f k).2 + 1) else ok_os f k
def ok_gs (f : Nat → Int32) (n : Nat) : Prop := ∀ k, k + 1 < n → ((f (k + 1)).toInt = 12 ∨ (f (k + 1)).toInt = 13) → (f k).toInt ≠ 11
def OsP (f : Nat → Int32) (n dp : Int32) : Prop := 0 ≤ n.toInt ∧ dp.toInt = ((ok_os f n.toInt.toNat).2 : Int) ∧ dp.toInt ≤ 10 ∧ ok_gs f n.toInt.toNat ∧ ∀ k : Nat, (k : Int) < n.toInt → (f k).toInt = 11 ∨ (f k).toInt = 12 ∨ (f k).toInt = 13 ∨ (f k).toInt = 91
def FcI (R : Except Int (Nat × Nat)) (B : Nat → Int) (f : Nat → Int32) (n dp nx md wr : Int32) : Prop := OsP f n dp ∧ wr.toInt = 0 ∧ R = pz_K B (ok_os f n.toInt.toNat).1 (pz_fact B (10 - dp.toInt.toNat) (St0 B nx md))
def FcL (R : Except Int (Nat × Nat)) (B : Nat → Int) (f : Nat → Int32) (n dp nx md wr mo : Int32) : Prop := (OsP f n dp ∧ wr.toInt = 0) ∧ (mo.toInt = 1 → FcI R B f n dp nx md wr) ∧ (mo.toInt = 0 → R = pz_K B (ok_os f n.toInt.toNat).1 (pz_com B (St0 B nx md)))
theorem te_br {B : Nat → Int} {p : Nat} (h : B p = 91 ∨ B p = 93 ∨ B p = 59) : pz_te B p = p + 1 := by
  unfold pz_te
  rw [if_neg (show ¬ pz_isL (B p) = true from fun z => by have := of_decide_eq_true z; omega), if_neg (show ¬ pz_isD (B p) = true from fun z => by have := of_decide_eq_true z; omega), if_neg (by omega), if_neg (by omega)]
theorem FcL.er {R : Except Int (Nat × Nat)} {B : Nat → Int} {f : Nat → Int32} {n dp nx md wr mo wr' : Int32} (h : FcL R B f n dp nx md wr mo) (hm : mo.toInt = 0) (hc : RfE (pz_com B (St0 B nx md)) wr') : RfE R wr' := by
  obtain ⟨e, h1, h2⟩ := hc
  refine ⟨e, ?_, h2⟩
  rw [h.2.2 hm, h1]; exact pz_K_er _
theorem buy_let {B : Nat → Int} {p : Nat} {L : List Int} (h : pz_wd B p L = true) (hl : 0 < L.length) (h0 : 97 ≤ L.getD 0 0 ∧ L.getD 0 0 ≤ 122) : 97 ≤ B p ∧ B p ≤ 122 := by
  have := (of_decide_eq_true h).2 0 hl
  rw [Nat.add_zero] at this
  rw [this]; exact h0
theorem SkR.wd {B : Nat → Int} {a : Int32} (h0 : 0 ≤ a.toInt) (h : 97 ≤ B a.toInt.toNat ∧ B a.toInt.toNat ≤ 122) : SkR B a a := by
  have hn : ¬ B a.toInt.toNat = 32 := by omega
  exact ⟨by rw [pz_sk_rf hn]; omega, pz_sk_rf hn, hn⟩
def BwH (B : Nat → Int) (nx : Int32) : Prop := pz_wd B nx.toInt.toNat pz_buy = true
def BuR (B : Nat → Int) (nx md : Int32) : Except Int (Nat × Nat) := pz_b (pz_sum B (pz_nx B (St0 B nx md))) (fun t => if pz_wd B t.1 pz_if = true then pz_tst B (pz_fact B 10) (pz_nx B t) else .ok t)
theorem nx_ps {B : Nat → Int} {nx n1 nx' md : Int32} (hs : SkR B nx n1) (hL : 97 ≤ B n1.toInt.toNat ∧ B n1.toInt.toNat ≤ 122) (hp : PsR B n1 nx') : pz_nx B (St0 B nx md) = St0 B nx' md := nx_te hs (by have := hp.te hL; have h5 := hp; unfold PsR at h5; omega)
theorem BuR.at {B : Nat → Int} {nx md nx' : Int32} (h0 : 0 ≤ nx.toInt) (hb : BwH B nx) (hp : PsR B nx nx') : pz_nx B (St0 B nx md) = St0 B nx' md := by
  have hL := buy_let hb (by decide) (by decide)
  exact nx_ps (SkR.wd h0 hL) hL hp
theorem BuR.er {B : Nat → Int} {nx md nx' wr : Int32} (h0 : 0 ≤ nx.toInt) (hb : BwH B nx) (hp : PsR B nx nx') (h : RfE (pz_sum B (St0 B nx' md)) wr) : RfE (BuR B nx md) wr := by
  obtain ⟨e, h1, h2⟩ := h
  refine ⟨e, ?_, h2⟩
  unfold BuR
  rw [BuR.at h0 hb hp, h1]; rfl
theorem RfO.eq {r r' : Except Int (Nat × Nat)} {B : Nat → Int} {wr nx md : Int32} (e : r = r') (h : RfO r' B wr nx md) : RfO r B wr nx md := e ▸ h
theorem RfE.eq {r r' : Except Int (Nat × Nat)} {wr : Int32} (e : r = r') (h : RfE r' wr) : RfE r wr := e ▸ h
def RuE (B : Nat → Int) (wr : Int32) : Prop := (wr.toInt = 0 ∧ ∃ p, pz_rule B = .ok p) ∨ (¬ wr.toInt = 0 ∧ pz_rule B = .error wr.toInt)
def bz (v : Int32) (n : Nat) : Int := ((v.toUInt32 >>> ((nI n).toUInt32 &&& Int32.toUInt32 31)).toInt32 &&& 255).toInt
def FdB (f g : Nat → Int32) (l l' v : Int32) : Prop := l'.toInt = l.toInt + 4 ∧ (∀ k : Nat, (k : Int) < l.toInt → (g k).toInt = (f k).toInt) ∧ ∀ j : Nat, j < 4 → (g (l.toInt.toNat + j)).toInt % 256 = bz v (24 - 8 * j)
def TpE (f : Nat → Int32) (n : Int32) (g : Nat → Int32) (m : Int32) : Prop := n.toInt = m.toInt ∧ ∀ k : Nat, (k : Int) < n.toInt → (f k).toInt % 256 = (g k).toInt % 256
theorem FdB.tp {f f' g g' : Nat → Int32} {l l' m m' v : Int32} (h : TpE f l g m) (hl : 0 ≤ l.toInt) (h1 : FdB f f' l l' v) (h2 : FdB g g' m m' v) : TpE f' l' g' m' := by
  obtain ⟨ha, hb⟩ := h
  obtain ⟨a1, a2, a3⟩ := h1
  obtain ⟨b1, b2, b3⟩ := h2
  refine ⟨by omega, fun k hk => ?_⟩
  by_cases z : (k : Int) < l.toInt
  · rw [a2 k z, b2 k (by omega)]; exact hb k z
  · have c1 := a3 (k - l.toInt.toNat) (by omega)
    have c2 := b3 (k - l.toInt.toNat) (by omega)
    rw [show l.toInt.toNat + (k - l.toInt.toNat) = k by omega] at c1
    rw [show m.toInt.toNat + (k - l.toInt.toNat) = k by omega] at c2
    rw [c1, c2]
def FeP (f g : Nat → Int32) (l l' a b c d e r : Int32) : Prop := (380 < l.toInt ∧ r.toInt = -1 ∧ l' = l ∧ g = f) ∨ (l.toInt ≤ 380 ∧ r = l' ∧ ∃ f1 f2 f3 f4 l1 l2 l3 l4, FdB f f1 l l1 a ∧ FdB f1 f2 l1 l2 b ∧ FdB f2 f3 l2 l3 c ∧ FdB f3 f4 l3 l4 d ∧ FdB f4 g l4 l' e)
theorem FeP.eq {f g f' g' : Nat → Int32} {l l' m m' a b c d e r s : Int32} (hl : 0 ≤ l.toInt) (h : TpE f l g m) (h1 : FeP f f' l l' a b c d e r) (h2 : FeP g g' m m' a b c d e s) : r = s ∧ TpE f' l' g' m' := by
  have h0 := h.1
  rcases h1 with ⟨a1, a2, a3, a4⟩ | ⟨a1, a2, f1, f2, f3, f4, l1, l2, l3, l4, p1, p2, p3, p4, p5⟩
  · rcases h2 with ⟨b1, b2, b3, b4⟩ | ⟨b1, _⟩
    · subst a3 a4 b3 b4
      exact ⟨Int32.toInt_inj.mp (by omega), h⟩
    · omega
  · rcases h2 with ⟨b1, _⟩ | ⟨b1, b2, g1, g2, g3, g4, m1, m2, m3, m4, q1, q2, q3, q4, q5⟩
    · omega
    · have e1 := p1.1
      have e2 := p2.1
      have e3 := p3.1
      have e4 := p4.1
      have t1 := FdB.tp h hl p1 q1
      have t2 := FdB.tp t1 (by omega) p2 q2
      have t3 := FdB.tp t2 (by omega) p3 q3
      have t4 := FdB.tp t3 (by omega) p4 q4
      have t5 := FdB.tp t4 (by omega) p5 q5
      exact ⟨by rw [a2, b2]; exact Int32.toInt_inj.mp t5.1, t5⟩
def RrC (B : Nat → Int) (c0 c1 l0 l1 r : Int32) : Prop := (6 ≤ c0.toInt ∧ c1 = c0 ∧ l1 = l0 ∧ r.toInt = -1) ∨ (c0.toInt < 6 ∧ l1.toInt = 0 ∧ ((∃ p, pz_rule B = .ok p) ∧ c1.toInt = c0.toInt + 1 ∧ r.toInt = c0.toInt ∨ ∃ d : Int32, pz_rule B = .error d.toInt ∧ c1 = c0 ∧ r = -2 - d))
theorem RrC.eq {B : Nat → Int} {c0 c1 l0 l1 r m0 m1 s0 s1 q : Int32} (h1 : RrC B c0 c1 l0 l1 r) (h2 : RrC B m0 m1 s0 s1 q) (hc : c0 = m0) (hl : l0 = s0) : r = q ∧ c1 = m1 ∧ l1 = s1 := by
  subst hc hl
  rcases h1 with ⟨a1, a2, a3, a4⟩ | ⟨a1, a2, a3⟩
  · rcases h2 with ⟨b1, b2, b3, b4⟩ | ⟨b1, _⟩
    · exact ⟨Int32.toInt_inj.mp (by omega), by rw [a2, b2], by rw [a3, b3]⟩
    · omega
  · rcases h2 with ⟨b1, _⟩ | ⟨b1, b2, b3⟩
    · omega
    · have el : l1 = s1 := Int32.toInt_inj.mp (by omega)
      rcases a3 with ⟨⟨p, hp⟩, a4, a5⟩ | ⟨d, hd, a4, a5⟩
      · rcases b3 with ⟨_, b4, b5⟩ | ⟨d, hd, _, _⟩
        · exact ⟨Int32.toInt_inj.mp (by omega), Int32.toInt_inj.mp (by omega), el⟩
        · rw [hp] at hd; cases hd
      · rcases b3 with ⟨⟨p, hp⟩, _, _⟩ | ⟨d', hd', b4, b5⟩
        · rw [hp] at hd; cases hd
        · rw [hd] at hd'
          have e : d = d' := Int32.toInt_inj.mp (Except.error.inj hd')
          subst e
          exact ⟨by rw [a5, b5], by rw [a4, b4], el⟩
def EnP (l l' n r : Int32) : Prop := ((n.toInt < 0 ∨ l.toInt < n.toInt) ∧ r.toInt = -1 ∧ l' = l) ∨ ((0 ≤ n.toInt ∧ n.toInt ≤ l.toInt) ∧ r = n ∧ l' = n)
theorem EnP.eq {f g : Nat → Int32} {l l' m m' n r s : Int32} (h : TpE f l g m) (h1 : EnP l l' n r) (h2 : EnP m m' n s) : r = s ∧ TpE f l' g m' := by
  obtain ⟨h3, h4⟩ := h
  rcases h1 with ⟨a1, a2, a3⟩ | ⟨a1, a2, a3⟩
  · rcases h2 with ⟨b1, b2, b3⟩ | ⟨b1, b2, b3⟩
    · subst a3 b3
      exact ⟨Int32.toInt_inj.mp (by omega), h3, h4⟩
    · omega
  · rcases h2 with ⟨b1, b2, b3⟩ | ⟨b1, b2, b3⟩
    · omega
    · subst a2 a3 b2 b3
      exact ⟨rfl, rfl, fun k hk => h4 k (by omega)⟩
def SameR (a b : Int32) (f g : Nat → Option Nat) : Prop := a = b ∧ f = g
theorem RuE.er {B : Nat → Int} {wr : Int32} (h : RuE B wr) (hw : ¬ wr.toInt = 0) : pz_rule B = .error wr.toInt := by
  rcases h with h | h
  · exact absurd h.1 hw
  · exact h.2
theorem RuE.ok {B : Nat → Int} {wr : Int32} (h : RuE B wr) (hw : wr.toInt = 0) : ∃ p, pz_rule B = .ok p := by
  rcases h with h | h
  · exact h.2
  · exact absurd hw h.1
def pz_bws : List (List Int) := [pz_book, pz_sky, pz_buyer, pz_watch]
abbrev BkU := (Nat × Nat) × Int × Int
def rN1 (B : Nat → Int) (a b : Int) (r : Except Int (Nat × Nat)) : Except Int (Nat × Nat) := rNX B (rNU B a b r)
def pz_bk (B : Nat → Int) (k : Int) (u : BkU) (r : Except Int (Nat × Nat)) : Except Int BkU := if k = 0 then pz_b (rN1 B 0 9 (rN1 B 0 99 r)) (fun s => pz_b (pz_num B 1 10 s.1) (fun v => .ok (pz_nx B s, v, u.2.2))) else if k = 1 then pz_b (rN1 B 0 9 (rN1 B 0 (u.2.1 - 1) r)) (fun s => .ok (s, u.2)) else if k = 2 then pz_b (rN1 B 0 9 (rN1 B 1 9 (rN1 B 0 20 r))) (fun s => .ok (s, u.2.1, u.2.2 + 1)) else pz_b (rN1 B 0 (u.2.2 - 1) (rN1 B 0 (u.2.1 - 1) r)) (fun s => .ok (s, u.2))
def pz_bcl (B : Nat → Int) (l : Nat) (u : BkU) : Except Int BkU := if pz_wa B u.1.1 pz_bws 0 = -1 then .error (pz_er 0 u.1.1) else if 40 ≤ l ∨ ¬ (pz_wa B u.1.1 pz_bws 0 = 0 ↔ l = 0) ∨ (pz_wa B u.1.1 pz_bws 0 = 2 ∧ 6 ≤ u.2.2) then .error (pz_er 4 u.1.1) else pz_bk B (pz_wa B u.1.1 pz_bws 0) u (.ok (pz_nx B u.1))
def pz_bF (B : Nat → Int) (w : BkU × Nat) : Option (Except Int (BkU × Nat)) := if B w.1.1.1 = 59 then some (pz_b (pz_bcl B w.2 (pz_nx B w.1.1, w.1.2)) (fun u => .ok (u, w.2 + 1))) else none
def bTG (l : Nat) (q : Except Int BkU) : Except Int (BkU × Nat) := pz_b q (fun u => .ok (u, l))
def pz_bRu (B : Nat → Int) : Except Int (BkU × Nat) := pz_b (bTG 1 (pz_bcl B 0 ((pz_sk B 0, 0), 0, 0))) (pz_lp (pz_bF B))
def bEN (B : Nat → Int) (q : Except Int BkU) : Except Int BkU := pz_b q (fun u => pz_b (pz_end B u.1.1) (fun _ => .ok u))
def pz_bookR (B : Nat → Int) : Except Int BkU := bEN B (pz_b (pz_bRu B) (fun w => .ok w.1))
theorem rN1_gt {B : Nat → Int} {a b : Int} {r : Except Int (Nat × Nat)} {t : Nat × Nat} (h : rN1 B a b r = .ok t) : ∃ s, r = .ok s ∧ s.1 < t.1 ∧ t = pz_nx B s ∧ ∃ v, pz_num B a b s.1 = .ok v := by
  cases r with
  | error e => cases h
  | ok s =>
    have h : pz_b (pz_b (pz_num B a b s.1) (fun _ => .ok s)) (fun s => .ok (pz_nx B s)) = .ok t := h
    cases e : pz_num B a b s.1 with
    | error z => rw [e] at h; cases h
    | ok v =>
      rw [e] at h
      cases h
      refine ⟨s, rfl, ?_, rfl, v, e⟩
      have hd : pz_isD (B s.1) = true := by
        by_cases z : pz_isD (B s.1) = true
        · exact z
        · exfalso
          rw [show pz_num B a b s.1 = .error (pz_er 0 s.1) from if_neg z] at e
          cases e
      exact pz_nt_gt (pz_isD_ne hd)
theorem pz_bws_ne : ∀ w ∈ pz_bws, 0 < w.length ∧ w.getD 0 0 ≠ -1 := by decide
def fstQ (q : Except Int BkU) : Except Int (Nat × Nat) := pz_b q (fun u => .ok u.1)
def BkQ (q : Except Int BkU) (rd bn : Int32) : Prop := ∀ u, q = .ok u → rd.toInt = u.2.1 ∧ bn.toInt = u.2.2 ∧ 0 ≤ u.2.1 ∧ u.2.1 ≤ 10
theorem num_rg {B : Nat → Int} {lo hi v : Int} {p : Nat} (h : pz_num B lo hi p = .ok v) : lo ≤ v ∧ v ≤ hi := by
  unfold pz_num at h
  by_cases z : pz_isD (B p) = true
  · rw [if_pos z] at h
    by_cases y : 5 < pz_te B p - p
    · rw [if_pos y] at h; cases h
    · rw [if_neg y] at h
      by_cases x : pz_nv B p (pz_te B p - p) < lo ∨ hi < pz_nv B p (pz_te B p - p)
      · rw [if_pos x] at h; cases h
      · rw [if_neg x] at h; cases h; omega
  · rw [if_neg z] at h; cases h
theorem rd_1 {rd : Int32} (h : 0 ≤ rd.toInt ∧ rd.toInt ≤ 10) : (rd - 1).toInt = rd.toInt - 1 := by
  have h1 : (1 : Int32).toInt = 1 := by decide
  rw [sub_toInt (by omega) (by omega), h1]
theorem BkQ.er {q : Except Int BkU} {k : Int} {l : Nat} {B : Nat → Int} {rd bn : Int32} (h : fstQ (pz_b q (pz_bcl B l)) = rER k (fstQ q)) : BkQ (pz_b q (pz_bcl B l)) rd bn := fun u hu => by
  rw [hu] at h
  cases q with
  | error e => cases hu
  | ok v => cases h
def BcL (f : Nat → Int32) (n : Int32) (a b c d rd bn l : Int32) : Prop := ∃ q, TpR f n (fstQ q) a b c d ∧ BkQ q rd bn ∧ ((l.toInt = 0 ∧ q = .ok ((pz_sk (cB f n) 0, 0), 0, 0)) ∨ (1 ≤ l.toInt ∧ l.toInt ≤ 40 ∧ pz_bRu (cB f n) = pz_b (bTG l.toInt.toNat q) (pz_lp (pz_bF (cB f n)))) ∨ (l.toInt = 41 ∧ ∃ e, q = .error e ∧ pz_bRu (cB f n) = .error e))
theorem BcL.fin {f : Nat → Int32} {n : Int32} {q : Except Int BkU} {l : Int32} (hq : (l.toInt = 0 ∧ q = .ok ((pz_sk (cB f n) 0, 0), 0, 0)) ∨ (1 ≤ l.toInt ∧ l.toInt ≤ 40 ∧ pz_bRu (cB f n) = pz_b (bTG l.toInt.toNat q) (pz_lp (pz_bF (cB f n)))) ∨ (l.toInt = 41 ∧ ∃ e, q = .error e ∧ pz_bRu (cB f n) = .error e)) (h0 : ¬ l.toInt = 0) (hx : 40 < l.toInt ∨ NSg (cB f n) 59 (fstQ q)) : pz_bookR (cB f n) = bEN (cB f n) q := by
  have e0 : pz_bookR (cB f n) = bEN (cB f n) (pz_b (pz_bRu (cB f n)) (fun w => .ok w.1)) := rfl
  rcases hq with hq | hq | hq
  · omega
  · rw [e0, hq.2.2]
    rcases hx with hx | hx
    · omega
    · cases q with
      | error e => rfl
      | ok u =>
        show bEN (cB f n) (pz_b (pz_lp (pz_bF (cB f n)) (u, l.toInt.toNat)) _) = _
        rw [pz_lp_no (F := pz_bF (cB f n)) (s := (u, l.toInt.toNat)) (if_neg (hx u.1 rfl))]
        rfl
  · obtain ⟨-, e, rfl, he⟩ := hq
    rw [e0, he]
    rfl
def BkR (B : Nat → Int) (d bn : Int32) : Prop := (d.toInt = 0 ∧ ∃ u, pz_bookR B = .ok u ∧ bn.toInt = u.2.2) ∨ (¬ d.toInt = 0 ∧ pz_bookR B = .error d.toInt)
def RbC (B : Nat → Int) (r : Int32) : Prop := (∃ d : Int32, pz_bookR B = .error d.toInt ∧ r = -2 - d) ∨ ∃ u, pz_bookR B = .ok u ∧ r.toInt = u.2.2
theorem RbC.eq {B : Nat → Int} {r s : Int32} (h : RbC B r) (h2 : RbC B s) : r = s := by
  rcases h with ⟨d, h, e⟩ | ⟨u, h, e⟩ <;> rcases h2 with ⟨d', h', e'⟩ | ⟨u', h', e'⟩
  · rw [h] at h'
    have : d = d' := Int32.toInt_inj.mp (Except.error.inj h')
    rw [e, e', this]
  · rw [h] at h'; cases h'
  · rw [h] at h'; cases h'
  · rw [h] at h'
    cases h'
    exact Int32.toInt_inj.mp (e.trans e'.symm)
theorem BkR.er {B : Nat → Int} {d bn : Int32} (h : BkR B d bn) (hd : ¬ d.toInt = 0) : pz_bookR B = .error d.toInt := by
  rcases h with h | h
  · exact absurd h.1 hd
  · exact h.2
theorem BkR.ok {B : Nat → Int} {d bn : Int32} (h : BkR B d bn) (hd : d.toInt = 0) : ∃ u, pz_bookR B = .ok u ∧ bn.toInt = u.2.2 := by
  rcases h with h | h
  · exact h.2
  · exact absurd hd h.1
def RgO (r : Except Int (Nat × Nat)) (B : Nat → Int) (wr nx : Int32) : Prop := r = .ok (pz_sk B nx.toInt.toNat, 0) ∧ wr.toInt = 0
def pNX (B : Nat → Int) (nx : Int32) : Except Int (Nat × Nat) := .ok (pz_nx B (nx.toInt.toNat, 0))
def BfO (q : Except Int BkU) (B : Nat → Int) (wr nx rd bn : Int32) : Prop := q = .ok ((pz_sk B nx.toInt.toNat, 0), rd.toInt, bn.toInt) ∧ wr.toInt = 0
def BfE (q : Except Int BkU) (wr : Int32) : Prop := q = .error wr.toInt
def BkW (B : Nat → Int) (nx : Int32) (k : Int) : Prop := pz_wa B nx.toInt.toNat pz_bws 0 = k
theorem BfO.eq {q q' : Except Int BkU} {B : Nat → Int} {wr nx rd bn : Int32} (e : q = q') (h : BfO q' B wr nx rd bn) : BfO q B wr nx rd bn := e ▸ h
theorem BfE.eq {q q' : Except Int BkU} {wr : Int32} (e : q = q') (h : BfE q' wr) : BfE q wr := e ▸ h
def NoP (x1 x2 x3 nb n r n' : Int32) : Prop := (x1.toInt = -1 ∧ r.toInt = 0 ∧ n'.toInt = 0) ∨ (¬ x1.toInt = -1 ∧ (x1.toInt < 0 ∨ 60 < x1.toInt ∨ x2.toInt < 0 ∨ nb.toInt ≤ x2.toInt ∨ x3.toInt < 0 ∨ 1 < x3.toInt ∨ n.toInt < 0 ∨ 10 ≤ n.toInt) ∧ r.toInt = -2 ∧ n'.toInt = n.toInt) ∨ (0 ≤ x1.toInt ∧ x1.toInt ≤ 60 ∧ 0 ≤ x2.toInt ∧ x2.toInt < nb.toInt ∧ 0 ≤ x3.toInt ∧ x3.toInt ≤ 1 ∧ 0 ≤ n.toInt ∧ n.toInt < 10 ∧ r.toInt = n.toInt + 1 ∧ n'.toInt = n.toInt + 1)
theorem NoP.eq {x1 x2 x3 nb n r1 r2 n1 n2 : Int32} (h1 : NoP x1 x2 x3 nb n r1 n1) (h2 : NoP x1 x2 x3 nb n r2 n2) : r1 = r2 ∧ n1 = n2 := by
  unfold NoP at h1 h2
  exact ⟨Int32.toInt_inj.mp (by omega), Int32.toInt_inj.mp (by omega)⟩
def BkX (B : Nat → Int) (r a n a' n' : Int32) : Prop := (∃ d : Int32, pz_bookR B = .error d.toInt ∧ r = -2 - d ∧ a' = a ∧ n' = n) ∨ ∃ u, pz_bookR B = .ok u ∧ r.toInt = u.2.2 ∧ a' = r ∧ n' = 0
theorem BkX.eq {B : Nat → Int} {r s a n a1 n1 a2 n2 : Int32} (h : BkX B r a n a1 n1) (h2 : BkX B s a n a2 n2) : r = s ∧ a1 = a2 ∧ n1 = n2 := by
  rcases h with ⟨d, e1, e2, e3, e4⟩ | ⟨u, e1, e2, e3, e4⟩ <;> rcases h2 with ⟨d', f1, f2, f3, f4⟩ | ⟨u', f1, f2, f3, f4⟩
  · rw [e1] at f1
    have hd : d = d' := Int32.toInt_inj.mp (Except.error.inj f1)
    exact ⟨by rw [e2, f2, hd], e3.trans f3.symm, e4.trans f4.symm⟩
  · rw [e1] at f1; cases f1
  · rw [e1] at f1; cases f1
  · rw [e1] at f1
    have hu : u = u' := Except.ok.inj f1
    have hr : r = s := Int32.toInt_inj.mp (by rw [e2, f2, hu])
    exact ⟨hr, by rw [e3, f3, hr], e4.trans f4.symm⟩
def ev_v (wd : Nat → Int64) (o : Int) : Int64 := if o < 100000 then Int64.ofInt o else wd (o - 100000).toNat
def ev_j (o : Int) (x y : Int64) : Int64 := if o = -12 then x + y else if o = -13 then x - y else if o = -14 then x * y else if o = -15 then (if y = 0 then 0 else x / y) else if o = -16 then (if y = 0 then 0 else x - x / y * y) else if o = -5 then (if x ≠ 0 ∧ y ≠ 0 then 1 else 0) else if o = -6 then (if x ≠ 0 ∨ y ≠ 0 then 1 else 0) else if o = -7 then (if x < y then 1 else 0) else if o = -8 then (if x ≤ y then 1 else 0) else if o = -9 then (if x = y then 1 else 0) else if o = -10 then (if y ≤ x then 1 else 0) else if o = -11 then (if y < x then 1 else 0) else 0
def ev_r (o : Int) (x y : Int64) : Int64 := if o = -5 then x &&& y else if o = -6 then x ||| y else ev_j o x y
def ev_nt (st : List Int64) : List Int64 := match st with
  | [] => []
  | x :: t => (if x = 0 then 1 else 0) :: t
def ev_c (wd : Nat → Int64) : List Int → List Int64 → Int64
  | [], _ => 0
  | o :: c, st => if 0 ≤ o then (if 64 ≤ st.length then 0 else ev_c wd c (ev_v wd o :: st)) else if o = -2 then st.headD 0 else if o = -4 then ev_c wd c (ev_nt st) else match st with
    | y :: x :: t => if o = -3 then (if y = 0 then ev_c wd c t else x) else ev_c wd c (ev_j o x y :: t)
    | _ => 0
theorem ev_c_nil {wd : Nat → Int64} {st : List Int64} : ev_c wd [] st = 0 := rfl
theorem ev_c_c {wd : Nat → Int64} {o : Int} {c : List Int} {st : List Int64} : ev_c wd (o :: c) st = if 0 ≤ o then (if 64 ≤ st.length then 0 else ev_c wd c (ev_v wd o :: st)) else if o = -2 then st.headD 0 else if o = -4 then ev_c wd c (ev_nt st) else match st with
    | y :: x :: t => if o = -3 then (if y = 0 then ev_c wd c t else x) else ev_c wd c (ev_j o x y :: t)
    | _ => 0 := rfl
theorem ev_c_psh {wd : Nat → Int64} {o : Int} {c : List Int} {st : List Int64} (h : 0 ≤ o) (hl : st.length < 64) : ev_c wd (o :: c) st = ev_c wd c (ev_v wd o :: st) := by
  rw [ev_c_c, if_pos h, if_neg (by omega)]
theorem ev_c_full {wd : Nat → Int64} {o : Int} {c : List Int} {st : List Int64} (h : 0 ≤ o) (hl : 64 ≤ st.length) : ev_c wd (o :: c) st = 0 := by
  rw [ev_c_c, if_pos h, if_pos hl]
theorem ev_c_ans {wd : Nat → Int64} {c : List Int} {st : List Int64} : ev_c wd (-2 :: c) st = st.headD 0 := by
  rw [ev_c_c, if_neg (by decide), if_pos rfl]
theorem ev_c_not {wd : Nat → Int64} {c : List Int} {st : List Int64} : ev_c wd (-4 :: c) st = ev_c wd c (ev_nt st) := by
  rw [ev_c_c, if_neg (by decide), if_neg (by decide), if_pos rfl]
theorem ev_c_if {wd : Nat → Int64} {c : List Int} {y x : Int64} {t : List Int64} : ev_c wd (-3 :: c) (y :: x :: t) = if y = 0 then ev_c wd c t else x := by
  rw [ev_c_c, if_neg (by decide), if_neg (by decide), if_neg (by decide)]
  exact if_pos rfl
theorem ev_c_two {wd : Nat → Int64} {o : Int} {c : List Int} {y x : Int64} {t : List Int64} (h : o < 0) (h2 : o ≠ -2) (h3 : o ≠ -3) (h4 : o ≠ -4) : ev_c wd (o :: c) (y :: x :: t) = ev_c wd c (ev_j o x y :: t) := by
  rw [ev_c_c, if_neg (by omega), if_neg h2, if_neg h4]
  exact if_neg h3
theorem ev_c_few {wd : Nat → Int64} {o : Int} {c : List Int} {st : List Int64} (h : o < 0) (h2 : o ≠ -2) (h4 : o ≠ -4) (hl : st.length < 2) : ev_c wd (o :: c) st = 0 := by
  rw [ev_c_c, if_neg (by omega), if_neg h2, if_neg h4]
  match st, hl with
  | [], _ => rfl
  | [_], _ => rfl
  | _ :: _ :: _, hl => exact absurd hl (by simp)
def ev_u (wd : Nat → Int64) (o : Int) (st : List Int64) : List Int64 := if 0 ≤ o then ev_v wd o :: st else if o = -4 then (match st with
    | [] => []
    | x :: t => (1 - x) :: t) else match st with
    | y :: x :: t => ev_r o x y :: t
    | _ => st
def ev_s (wd : Nat → Int64) : List Int → List Int64 → List Int64
  | [], st => st
  | o :: c, st => ev_s wd c (ev_u wd o st)
theorem ev_s_cons {wd : Nat → Int64} {o : Int} {c : List Int} {st : List Int64} : ev_s wd (o :: c) st = ev_s wd c (ev_u wd o st) := rfl
theorem ev_u_psh {wd : Nat → Int64} {o : Int} {st : List Int64} (h : 0 ≤ o) : ev_u wd o st = ev_v wd o :: st := if_pos h
theorem ev_u_not {wd : Nat → Int64} {x : Int64} {t : List Int64} : ev_u wd (-4) (x :: t) = (1 - x) :: t := (if_neg (by decide)).trans (if_pos rfl)
theorem ev_u_two {wd : Nat → Int64} {o : Int} {y x : Int64} {t : List Int64} (h : o < 0) (h4 : o ≠ -4) : ev_u wd o (y :: x :: t) = ev_r o x y :: t := (if_neg (by omega)).trans (if_neg h4)
def ev_k (o : Int) (k : List Bool) : Option (List Bool) := if 0 ≤ o then (if o < 100013 then some (false :: k) else none) else if o = -4 then (match k with
    | true :: t => some (true :: t)
    | _ => none) else if o = -5 ∨ o = -6 then (match k with
    | true :: true :: t => some (true :: t)
    | _ => none) else if -11 ≤ o ∧ o ≤ -7 then (match k with
    | false :: false :: t => some (true :: t)
    | _ => none) else if -16 ≤ o ∧ o ≤ -12 then (match k with
    | false :: false :: t => some (false :: t)
    | _ => none) else none
def ev_t : List Int → List Bool → Option (List Bool)
  | [], k => some k
  | o :: c, k => match ev_k o k with
    | none => none
    | some k' => ev_t c k'
def ev_ok : List Int64 → List Bool → Prop
  | [], [] => True
  | v :: st, b :: k => (b = true → v = 0 ∨ v = 1) ∧ ev_ok st k
  | _, _ => False
def ev_p (o : Int) : Nat := if 0 ≤ o then 1 else 0
def ev_n : List Int → Nat
  | [] => 0
  | o :: c => ev_p o + ev_n c
theorem ev_n_app : ∀ (c d : List Int), ev_n (c ++ d) = ev_n c + ev_n d
  | [], d => by show ev_n d = 0 + ev_n d; omega
  | o :: c, d => by
    show ev_p o + ev_n (c ++ d) = ev_p o + ev_n c + ev_n d
    rw [ev_n_app c d]; omega
theorem ev_t_app : ∀ (c d : List Int) (k k' : List Bool), ev_t c k = some k' → ev_t (c ++ d) k = ev_t d k'
  | [], d, k, k', h => by cases h; rfl
  | o :: c, d, k, k', h => by
    show (match ev_k o k with | none => none | some k1 => ev_t (c ++ d) k1) = ev_t d k'
    have h : (match ev_k o k with | none => none | some k1 => ev_t c k1) = some k' := h
    cases e : ev_k o k with
    | none => rw [e] at h; cases h
    | some k1 => rw [e] at h; exact ev_t_app c d k1 k' h
theorem ev_j_cmp {o : Int} {x y : Int64} (h : -11 ≤ o ∧ o ≤ -7) : ev_j o x y = 0 ∨ ev_j o x y = 1 := by
  unfold ev_j
  rw [if_neg (by omega), if_neg (by omega), if_neg (by omega), if_neg (by omega), if_neg (by omega), if_neg (by omega), if_neg (by omega)]
  split
  · split
    · exact Or.inr rfl
    · exact Or.inl rfl
  · split
    · split
      · exact Or.inr rfl
      · exact Or.inl rfl
    · split
      · split
        · exact Or.inr rfl
        · exact Or.inl rfl
      · split
        · split
          · exact Or.inr rfl
          · exact Or.inl rfl
        · split
          · split
            · exact Or.inr rfl
            · exact Or.inl rfl
          · exact Or.inl rfl
theorem ev_b2 {o : Int} {x y : Int64} (h : o = -5 ∨ o = -6) (hx : x = 0 ∨ x = 1) (hy : y = 0 ∨ y = 1) : ev_r o x y = ev_j o x y ∧ (ev_j o x y = 0 ∨ ev_j o x y = 1) := by
  rcases h with rfl | rfl <;> rcases hx with rfl | rfl <;> rcases hy with rfl | rfl <;> decide
theorem ev_r_j {o : Int} {x y : Int64} (h : o < -6) : ev_r o x y = ev_j o x y := by
  unfold ev_r
  rw [if_neg (by omega), if_neg (by omega)]
theorem ev_step {wd : Nat → Int64} {o : Int} {c : List Int} {st base : List Int64} {k k' : List Bool} (hk : ev_k o k = some k') (hs : ev_ok st k) (hl : st.length + base.length + ev_p o ≤ 64) : ev_c wd (o :: c) (st ++ base) = ev_c wd c (ev_u wd o st ++ base) ∧ ev_ok (ev_u wd o st) k' ∧ (ev_u wd o st).length ≤ st.length + ev_p o := by
  unfold ev_k at hk
  by_cases h0 : 0 ≤ o
  · rw [if_pos h0] at hk
    have hp : ev_p o = 1 := if_pos h0
    have hk : some (false :: k) = some k' := by
      by_cases y : o < 100013
      · rw [if_pos y] at hk; exact hk
      · rw [if_neg y] at hk; cases hk
    cases hk
    rw [ev_u_psh h0]
    refine ⟨?_, ⟨fun z => (by cases z), hs⟩, ?_⟩
    · exact ev_c_psh h0 (by rw [List.length_append]; omega)
    · show st.length + 1 ≤ st.length + ev_p o; omega
  · rw [if_neg h0] at hk
    by_cases h4 : o = -4
    · rw [if_pos h4] at hk
      subst h4
      match k, st, hs, hk with
      | true :: t, x :: s, hs, hk =>
        have hk : some (true :: t) = some k' := hk
        cases hk
        have hx := hs.1 rfl
        rw [ev_u_not]
        have e : (1 - x : Int64) = if x = 0 then 1 else 0 := by rcases hx with rfl | rfl <;> decide
        refine ⟨?_, ⟨fun _ => ?_, hs.2⟩, Nat.le_add_right _ _⟩
        · show ev_c wd (-4 :: c) (x :: (s ++ base)) = ev_c wd c ((1 - x) :: (s ++ base))
          rw [ev_c_not, e]; rfl
        · rcases hx with rfl | rfl <;> decide
      | false :: t, _, _, hk => cases (show none = some k' from hk)
      | [], _, _, hk => cases (show none = some k' from hk)
      | true :: t, [], hs, _ => exact (show False from hs).elim
    · rw [if_neg h4] at hk
      have two : ∀ (a b : Bool) (t : List Bool) (r : Bool), k = a :: b :: t → (∀ x y : Int64, (b = true → x = 0 ∨ x = 1) → (a = true → y = 0 ∨ y = 1) → ev_r o x y = ev_j o x y ∧ (r = true → ev_j o x y = 0 ∨ ev_j o x y = 1)) → k' = r :: t → o ≠ -2 → o ≠ -3 → ev_c wd (o :: c) (st ++ base) = ev_c wd c (ev_u wd o st ++ base) ∧ ev_ok (ev_u wd o st) k' ∧ (ev_u wd o st).length ≤ st.length + ev_p o := by
        intro a b t r ek hj ek' h2 h3
        subst ek ek'
        match st, hs with
        | y :: x :: s, hs =>
          have h1 := hj x y hs.2.1 hs.1
          rw [ev_u_two (by omega) h4]
          refine ⟨?_, ⟨fun z => ?_, hs.2.2⟩, ?_⟩
          · show ev_c wd (o :: c) (y :: x :: (s ++ base)) = ev_c wd c (ev_r o x y :: (s ++ base))
            rw [ev_c_two (by omega) h2 h3 h4, h1.1]
          · rw [h1.1]; exact h1.2 z
          · show s.length + 1 ≤ s.length + 1 + 1 + ev_p o; omega
        | [], hs => exact (show False from hs).elim
        | [_], hs => exact (show False from hs.2).elim
      by_cases h5 : o = -5 ∨ o = -6
      · rw [if_pos h5] at hk
        match k, hk, two with
        | true :: true :: t, hk, two =>
          have hk : some (true :: t) = some k' := hk
          cases hk
          exact two true true t true rfl (fun x y hx hy => ⟨(ev_b2 h5 (hx rfl) (hy rfl)).1, fun _ => (ev_b2 h5 (hx rfl) (hy rfl)).2⟩) rfl (by omega) (by omega)
        | [], hk, _ => cases (show none = some k' from hk)
        | [true], hk, _ => cases (show none = some k' from hk)
        | false :: _, hk, _ => cases (show none = some k' from hk)
        | true :: false :: _, hk, _ => cases (show none = some k' from hk)
      · rw [if_neg h5] at hk
        by_cases h7 : -11 ≤ o ∧ o ≤ -7
        · rw [if_pos h7] at hk
          match k, hk, two with
          | false :: false :: t, hk, two =>
            have hk : some (true :: t) = some k' := hk
            cases hk
            exact two false false t true rfl (fun x y _ _ => ⟨ev_r_j (by omega), fun _ => ev_j_cmp h7⟩) rfl (by omega) (by omega)
          | [], hk, _ => cases (show none = some k' from hk)
          | [false], hk, _ => cases (show none = some k' from hk)
          | true :: _, hk, _ => cases (show none = some k' from hk)
          | false :: true :: _, hk, _ => cases (show none = some k' from hk)
        · rw [if_neg h7] at hk
          by_cases h12 : -16 ≤ o ∧ o ≤ -12
          · rw [if_pos h12] at hk
            match k, hk, two with
            | false :: false :: t, hk, two =>
              have hk : some (false :: t) = some k' := hk
              cases hk
              exact two false false t false rfl (fun x y _ _ => ⟨ev_r_j (by omega), fun z => by cases z⟩) rfl (by omega) (by omega)
            | [], hk, _ => cases (show none = some k' from hk)
            | [false], hk, _ => cases (show none = some k' from hk)
            | true :: _, hk, _ => cases (show none = some k' from hk)
            | false :: true :: _, hk, _ => cases (show none = some k' from hk)
          · rw [if_neg h12] at hk; cases hk
theorem ev_k_push {o : Int} {k k' : List Bool} (h : ev_k o k = some k') (h0 : 0 ≤ o) : k' = false :: k ∧ o < 100013 := by
  unfold ev_k at h
  rw [if_pos h0] at h
  by_cases y : o < 100013
  · rw [if_pos y] at h; cases h; exact ⟨rfl, y⟩
  · rw [if_neg y] at h; cases h
theorem ev_s_wd {wd wd2 : Nat → Int64} (hw : ∀ k : Nat, k < 13 → wd k = wd2 k) : ∀ (c : List Int) (st : List Int64) (k k' : List Bool), ev_t c k = some k' → ev_s wd c st = ev_s wd2 c st
  | [], _, _, _, _ => rfl
  | o :: c, st, k, k', h => by
    have h : (match ev_k o k with | none => none | some k1 => ev_t c k1) = some k' := h
    cases e : ev_k o k with
    | none => rw [e] at h; cases h
    | some k1 =>
      rw [e] at h
      have eu : ev_u wd o st = ev_u wd2 o st := by
        by_cases h0 : 0 ≤ o
        · have hl := (ev_k_push e h0).2
          rw [ev_u_psh h0, ev_u_psh h0]
          unfold ev_v
          by_cases y : o < 100000
          · rw [if_pos y, if_pos y]
          · rw [if_neg y, if_neg y, hw _ (by omega)]
        · unfold ev_u
          rw [if_neg h0, if_neg h0]
      show ev_s wd c (ev_u wd o st) = ev_s wd2 c (ev_u wd2 o st)
      rw [eu]
      exact ev_s_wd hw c _ k1 k' h
theorem ev_run {wd : Nat → Int64} : ∀ (c d : List Int) (st base : List Int64) (k k' : List Bool), ev_t c k = some k' → ev_ok st k → st.length + base.length + ev_n c ≤ 64 → ev_c wd (c ++ d) (st ++ base) = ev_c wd d (ev_s wd c st ++ base) ∧ ev_ok (ev_s wd c st) k'
  | [], d, st, base, k, k', h, hs, _ => by cases h; exact ⟨rfl, hs⟩
  | o :: c, d, st, base, k, k', h, hs, hl => by
    have h : (match ev_k o k with | none => none | some k1 => ev_t c k1) = some k' := h
    have hn : ev_n (o :: c) = ev_p o + ev_n c := rfl
    cases e : ev_k o k with
    | none => rw [e] at h; cases h
    | some k1 =>
      rw [e] at h
      obtain ⟨h1, h2, h3⟩ := ev_step (wd := wd) (c := c ++ d) (base := base) e hs (by omega)
      obtain ⟨h4, h5⟩ := ev_run c d (ev_u wd o st) base k1 k' h h2 (by omega)
      exact ⟨h1.trans h4, h5⟩
abbrev RuA := List (List Int × Option (List Int))
def ru_fl : RuA → List Int
  | [] => []
  | (s, none) :: cs => s ++ -2 :: ru_fl cs
  | (s, some t) :: cs => s ++ (t ++ -3 :: ru_fl cs)
def ru_sum (wd : Nat → Int64) : RuA → Int64
  | [] => 0
  | (s, none) :: _ => (ev_s wd s []).headD 0
  | (s, some t) :: cs => if (ev_s wd t []).headD 0 = 1 then (ev_s wd s []).headD 0 else ru_sum wd cs
def ru_ok : RuA → Prop
  | [] => True
  | (s, none) :: cs => ev_t s [] = some [false] ∧ ev_n s ≤ 60 ∧ ru_ok cs
  | (s, some t) :: cs => ev_t s [] = some [false] ∧ ev_t t [] = some [true] ∧ ev_n s + ev_n t ≤ 60 ∧ ru_ok cs
theorem ev_one {st : List Int64} {b : Bool} (h : ev_ok st [b]) : ∃ v, st = [v] ∧ (b = true → v = 0 ∨ v = 1) := by
  match st, h with
  | [v], h => exact ⟨v, rfl, h.1⟩
  | [], h => exact (show False from h).elim
  | _ :: _ :: _, h => exact (show False from h.2).elim
theorem ru_eq {wd : Nat → Int64} : ∀ (R : RuA), ru_ok R → ev_c wd (ru_fl R) [] = ru_sum wd R
  | [], _ => ev_c_nil
  | (s, none) :: cs, h => by
    obtain ⟨h1, h2, -⟩ := h
    obtain ⟨e, ho⟩ := ev_run (wd := wd) s (-2 :: ru_fl cs) [] [] [] [false] h1 trivial (by show 0 + 0 + ev_n s ≤ 64; omega)
    show ev_c wd (s ++ -2 :: ru_fl cs) [] = (ev_s wd s []).headD 0
    have e : ev_c wd (s ++ -2 :: ru_fl cs) [] = ev_c wd (-2 :: ru_fl cs) (ev_s wd s [] ++ []) := e
    rw [e, List.append_nil, ev_c_ans]
  | (s, some t) :: cs, h => by
    obtain ⟨h1, h2, h3, h4⟩ := h
    obtain ⟨e, ho⟩ := ev_run (wd := wd) s (t ++ -3 :: ru_fl cs) [] [] [] [false] h1 trivial (by show 0 + 0 + ev_n s ≤ 64; omega)
    obtain ⟨v, ev, -⟩ := ev_one ho
    obtain ⟨e2, ho2⟩ := ev_run (wd := wd) t (-3 :: ru_fl cs) [] [v] [] [true] h2 trivial (by show 0 + 1 + ev_n t ≤ 64; omega)
    obtain ⟨b, eb, hb⟩ := ev_one ho2
    have e : ev_c wd (s ++ (t ++ -3 :: ru_fl cs)) [] = ev_c wd (t ++ -3 :: ru_fl cs) (ev_s wd s [] ++ []) := e
    have e2 : ev_c wd (t ++ -3 :: ru_fl cs) [v] = ev_c wd (-3 :: ru_fl cs) (ev_s wd t [] ++ [v]) := e2
    show ev_c wd (s ++ (t ++ -3 :: ru_fl cs)) [] = if (ev_s wd t []).headD 0 = 1 then (ev_s wd s []).headD 0 else ru_sum wd cs
    rw [e, List.append_nil, ev, e2, eb]
    show ev_c wd (-3 :: ru_fl cs) (b :: v :: []) = if b = 1 then v else ru_sum wd cs
    rw [ev_c_if, ru_eq cs h4]
    rcases hb rfl with rfl | rfl
    · rw [if_pos rfl, if_neg (by decide)]
    · rw [if_neg (by decide), if_pos rfl]
theorem ru_sum_wd {wd wd2 : Nat → Int64} (hw : ∀ k : Nat, k < 13 → wd k = wd2 k) : ∀ (R : RuA), ru_ok R → ru_sum wd R = ru_sum wd2 R
  | [], _ => rfl
  | (s, none) :: cs, h => by
    show (ev_s wd s []).headD 0 = (ev_s wd2 s []).headD 0
    rw [ev_s_wd hw s [] [] [false] h.1]
  | (s, some t) :: cs, h => by
    show (if (ev_s wd t []).headD 0 = 1 then (ev_s wd s []).headD 0 else ru_sum wd cs) = (if (ev_s wd2 t []).headD 0 = 1 then (ev_s wd2 s []).headD 0 else ru_sum wd2 cs)
    rw [ev_s_wd hw s [] [] [false] h.1, ev_s_wd hw t [] [] [true] h.2.1, ru_sum_wd hw cs h.2.2.2]
def hst (g : Nat → Int64) : Nat → List Int64
  | 0 => []
  | n + 1 => g n :: hst g n
theorem hst_len (g : Nat → Int64) : ∀ n, (hst g n).length = n
  | 0 => rfl
  | n + 1 => by show (hst g n).length + 1 = n + 1; rw [hst_len g n]
theorem hst_up {g g' : Nat → Int64} {i : Nat} {x : Int64} (e : g' = vp_updL g i x) : ∀ n, n ≤ i → hst g' n = hst g n
  | 0, _ => rfl
  | n + 1, h => by
    show g' n :: hst g' n = g n :: hst g n
    rw [hst_up e n (by omega), e]
    show (if n = i then x else g n) :: _ = _
    rw [if_neg (by omega)]
theorem hst_at {g g' : Nat → Int64} {i : Nat} {x : Int64} (e : g' = vp_updL g i x) : hst g' (i + 1) = x :: hst g i := by
  show g' i :: hst g' i = x :: hst g i
  rw [hst_up e i (Nat.le_refl _), e]
  show (if i = i then x else g i) :: _ = _
  rw [if_pos rfl]
def ec_v (B : Nat → Int) (p : Nat) : Int := if pz_isD (B p) = true then pz_nv B p (pz_te B p - p) else 100000 + pz_wa B p pz_words 0
def ec_o (x : Int) : Int := if x = 43 then -12 else if x = 45 then -13 else if x = 42 then -14 else if x = 47 then -15 else if x = 37 then -16 else -1
def ec_w (w : Int) : List Int := if w = -1 then [] else [w]
def ec_S (B : Nat → Int) : Nat → Nat → Int → List Int
  | 0, _, w => ec_w w
  | k + 1, p, w => if ec_o (B p) = -1 then ec_w w else if ec_o (B p) = -12 ∨ ec_o (B p) = -13 then ec_w w ++ ec_v B (pz_nt B p) :: ec_S B k (pz_nt B (pz_nt B p)) (ec_o (B p)) else ec_v B (pz_nt B p) :: ec_o (B p) :: ec_S B k (pz_nt B (pz_nt B p)) w
def ec_sL (B : Nat → Int) (p : Nat) (w : Int) : List Int := ec_S B 401 p w
def ec_sum (B : Nat → Int) (p : Nat) : List Int := ec_v B p :: ec_sL B (pz_nt B p) (-1)
def ec_c (B : Nat → Int) (p : Nat) : Int := if B p = 60 then (if pz_te B p = p + 2 then -8 else -7) else if B p = 61 then -9 else (if pz_te B p = p + 2 then -10 else -11)
def ec_com (B : Nat → Int) (s : Nat × Nat) : List Int := ec_sum B s.1 ++ (match pz_sum B s with
    | .ok t => ec_sum B (pz_nt B t.1) ++ [ec_c B t.1]
    | .error _ => [])
def ec_or (o : Bool) : List Int := if o = true then [-6] else []
def ec_TL (B : Nat → Int) (f : Nat × Nat → Except Int (Nat × Nat)) (F : Nat × Nat → List Int) : Nat → Nat × Nat → Bool → List Int
  | 0, _, o => ec_or o
  | k + 1, s, o => if pz_wd B s.1 pz_and = true then F (pz_nx B s) ++ -5 :: (match f (pz_nx B s) with
      | .ok t => ec_TL B f F k t o
      | .error _ => []) else if pz_wd B s.1 pz_or = true then ec_or o ++ (F (pz_nx B s) ++ (match f (pz_nx B s) with
      | .ok t => ec_TL B f F k t true
      | .error _ => [])) else ec_or o
def ec_tst (B : Nat → Int) (f : Nat × Nat → Except Int (Nat × Nat)) (F : Nat × Nat → List Int) (s : Nat × Nat) : List Int := F s ++ (match f s with
    | .ok t => ec_TL B f F 401 t false
    | .error _ => [])
def ec_fact (B : Nat → Int) : Nat → Nat × Nat → List Int
  | 0, s => ec_com B s
  | m + 1, s => if pz_wd B s.1 pz_not = true then ec_fact B m (pz_nx B s) ++ [-4] else if B s.1 = 91 then ec_tst B (pz_fact B m) (ec_fact B m) (pz_nx B s) else ec_com B s
def ru_cl (B : Nat → Int) (s : Nat × Nat) : List Int × Option (List Int) := (ec_sum B (pz_nt B s.1), match pz_sum B (pz_nx B s) with
    | .ok t => if pz_wd B t.1 pz_if = true then some (ec_tst B (pz_fact B 10) (ec_fact B 10) (pz_nx B t)) else none
    | .error _ => none)
def ru_lp (B : Nat → Int) : Nat → (Nat × Nat) × Nat → RuA
  | 0, _ => []
  | k + 1, u => if B u.1.1 = 59 then ru_cl B (pz_nx B u.1) :: (match pz_cla B u.2 (pz_nx B u.1) with
      | .ok t => ru_lp B k (t, u.2 + 1)
      | .error _ => []) else []
def ru_of (B : Nat → Int) : RuA := ru_cl B (pz_sk B 0, 0) :: (match pz_cla B 0 (pz_sk B 0, 0) with
    | .ok t => ru_lp B 401 (t, 1)
    | .error _ => [])
theorem pz_te_ge {B : Nat → Int} {p : Nat} : p ≤ pz_te B p := by
  by_cases h : B p = -1
  · unfold pz_te
    rw [h]
    exact Nat.le_refl _
  · exact Nat.le_of_succ_le (pz_te_gt h)
theorem pz_nt_ge {B : Nat → Int} {p : Nat} : p ≤ pz_nt B p := Nat.le_trans pz_te_ge (pz_run_ge _ _)
theorem ec_o_no {x : Int} : ec_o x = -1 ↔ ¬ (x = 43 ∨ x = 45 ∨ x = 42 ∨ x = 47 ∨ x = 37) := by
  unfold ec_o
  constructor
  · intro h z
    rcases z with rfl | rfl | rfl | rfl | rfl <;> exact absurd h (by decide)
  · intro h
    rw [if_neg (by omega), if_neg (by omega), if_neg (by omega), if_neg (by omega), if_neg (by omega)]
theorem ec_o_rg {x : Int} : ec_o x = -1 ∨ (-16 ≤ ec_o x ∧ ec_o x ≤ -12) := by
  unfold ec_o
  split
  · right; decide
  · split
    · right; decide
    · split
      · right; decide
      · split
        · right; decide
        · split
          · right; decide
          · left; rfl
theorem ec_o_ne {B : Nat → Int} {p : Nat} (h : ¬ ec_o (B p) = -1) : B p ≠ -1 := fun z => h (by rw [z]; decide)
theorem ec_S_big {B : Nat → Int} (hB : pz_fi B) : ∀ (k p : Nat) (w : Int), 400 ≤ p + k → ec_S B (k + 1) p w = ec_S B k p w
  | 0, p, w, h => by
    have e : ec_o (B p) = -1 := by rw [hB p (by omega)]; decide
    show (if ec_o (B p) = -1 then ec_w w else _) = ec_w w
    rw [if_pos e]
  | k + 1, p, w, h => by
    by_cases e : ec_o (B p) = -1
    · show (if ec_o (B p) = -1 then ec_w w else _) = (if ec_o (B p) = -1 then ec_w w else _)
      rw [if_pos e, if_pos e]
    · have h1 := pz_nt_gt (ec_o_ne e)
      have h2 := pz_nt_ge (B := B) (p := pz_nt B p)
      have h3 : ∀ v, ec_S B (k + 1) (pz_nt B (pz_nt B p)) v = ec_S B k (pz_nt B (pz_nt B p)) v := fun v => ec_S_big hB k _ v (by omega)
      show (if ec_o (B p) = -1 then ec_w w else if ec_o (B p) = -12 ∨ ec_o (B p) = -13 then ec_w w ++ ec_v B (pz_nt B p) :: ec_S B (k + 1) (pz_nt B (pz_nt B p)) (ec_o (B p)) else ec_v B (pz_nt B p) :: ec_o (B p) :: ec_S B (k + 1) (pz_nt B (pz_nt B p)) w) = (if ec_o (B p) = -1 then ec_w w else if ec_o (B p) = -12 ∨ ec_o (B p) = -13 then ec_w w ++ ec_v B (pz_nt B p) :: ec_S B k (pz_nt B (pz_nt B p)) (ec_o (B p)) else ec_v B (pz_nt B p) :: ec_o (B p) :: ec_S B k (pz_nt B (pz_nt B p)) w)
      rw [h3, h3]
theorem ec_sL_no {B : Nat → Int} {p : Nat} {w : Int} (h : ec_o (B p) = -1) : ec_sL B p w = ec_w w := by
  show (if ec_o (B p) = -1 then ec_w w else _) = ec_w w
  rw [if_pos h]
theorem ec_sL_pm {B : Nat → Int} (hB : pz_fi B) {p : Nat} {w : Int} (h : ec_o (B p) = -12 ∨ ec_o (B p) = -13) : ec_sL B p w = ec_w w ++ ec_v B (pz_nt B p) :: ec_sL B (pz_nt B (pz_nt B p)) (ec_o (B p)) := by
  have e : ec_S B 401 (pz_nt B (pz_nt B p)) (ec_o (B p)) = ec_S B 400 (pz_nt B (pz_nt B p)) (ec_o (B p)) := ec_S_big hB 400 _ _ (Nat.le_add_left _ _)
  show (if ec_o (B p) = -1 then ec_w w else if ec_o (B p) = -12 ∨ ec_o (B p) = -13 then ec_w w ++ ec_v B (pz_nt B p) :: ec_S B 400 (pz_nt B (pz_nt B p)) (ec_o (B p)) else _) = ec_w w ++ ec_v B (pz_nt B p) :: ec_S B 401 (pz_nt B (pz_nt B p)) (ec_o (B p))
  rw [if_neg (by omega), if_pos h, e]
theorem ec_sL_td {B : Nat → Int} (hB : pz_fi B) {p : Nat} {w : Int} (h0 : ¬ ec_o (B p) = -1) (h : ¬ (ec_o (B p) = -12 ∨ ec_o (B p) = -13)) : ec_sL B p w = ec_v B (pz_nt B p) :: ec_o (B p) :: ec_sL B (pz_nt B (pz_nt B p)) w := by
  have e : ec_S B 401 (pz_nt B (pz_nt B p)) w = ec_S B 400 (pz_nt B (pz_nt B p)) w := ec_S_big hB 400 _ _ (Nat.le_add_left _ _)
  show (if ec_o (B p) = -1 then ec_w w else if ec_o (B p) = -12 ∨ ec_o (B p) = -13 then _ else ec_v B (pz_nt B p) :: ec_o (B p) :: ec_S B 400 (pz_nt B (pz_nt B p)) w) = ec_v B (pz_nt B p) :: ec_o (B p) :: ec_S B 401 (pz_nt B (pz_nt B p)) w
  rw [if_neg h0, if_neg h, e]
theorem ec_TL_big {B : Nat → Int} (hB : pz_fi B) {f : Nat × Nat → Except Int (Nat × Nat)} {F : Nat × Nat → List Int} (hf : ∀ s t, f s = .ok t → B s.1 ≠ -1 ∧ s.1 < t.1) : ∀ (k : Nat) (s : Nat × Nat) (o : Bool), 400 ≤ s.1 + k → ec_TL B f F (k + 1) s o = ec_TL B f F k s o
  | 0, s, o, h => by
    have h1 : ¬ pz_wd B s.1 pz_and = true := fun z => pz_and_ne (Or.inl z) (hB s.1 (by omega))
    have h2 : ¬ pz_wd B s.1 pz_or = true := fun z => pz_and_ne (Or.inr z) (hB s.1 (by omega))
    show (if pz_wd B s.1 pz_and = true then _ else if pz_wd B s.1 pz_or = true then _ else ec_or o) = ec_or o
    rw [if_neg h1, if_neg h2]
  | k + 1, s, o, h => by
    by_cases h1 : pz_wd B s.1 pz_and = true
    · have hb := pz_nt_gt (pz_and_ne (B := B) (p := s.1) (Or.inl h1))
      show (if pz_wd B s.1 pz_and = true then F (pz_nx B s) ++ -5 :: (match f (pz_nx B s) with | .ok t => ec_TL B f F (k + 1) t o | .error _ => []) else _) = (if pz_wd B s.1 pz_and = true then F (pz_nx B s) ++ -5 :: (match f (pz_nx B s) with | .ok t => ec_TL B f F k t o | .error _ => []) else _)
      rw [if_pos h1, if_pos h1]
      cases e : f (pz_nx B s) with
      | error z => rfl
      | ok t =>
        have h3 := (hf _ _ e).2
        have h4 : (pz_nx B s).1 = pz_nt B s.1 := rfl
        show F (pz_nx B s) ++ -5 :: ec_TL B f F (k + 1) t o = F (pz_nx B s) ++ -5 :: ec_TL B f F k t o
        rw [ec_TL_big hB hf k t o (by omega)]
    · by_cases h2 : pz_wd B s.1 pz_or = true
      · have hb := pz_nt_gt (pz_and_ne (B := B) (p := s.1) (Or.inr h2))
        show (if pz_wd B s.1 pz_and = true then _ else if pz_wd B s.1 pz_or = true then ec_or o ++ (F (pz_nx B s) ++ (match f (pz_nx B s) with | .ok t => ec_TL B f F (k + 1) t true | .error _ => [])) else _) = (if pz_wd B s.1 pz_and = true then _ else if pz_wd B s.1 pz_or = true then ec_or o ++ (F (pz_nx B s) ++ (match f (pz_nx B s) with | .ok t => ec_TL B f F k t true | .error _ => [])) else _)
        rw [if_neg h1, if_neg h1, if_pos h2, if_pos h2]
        cases e : f (pz_nx B s) with
        | error z => rfl
        | ok t =>
          have h3 := (hf _ _ e).2
          have h4 : (pz_nx B s).1 = pz_nt B s.1 := rfl
          show ec_or o ++ (F (pz_nx B s) ++ ec_TL B f F (k + 1) t true) = ec_or o ++ (F (pz_nx B s) ++ ec_TL B f F k t true)
          rw [ec_TL_big hB hf k t true (by omega)]
      · show (if pz_wd B s.1 pz_and = true then _ else if pz_wd B s.1 pz_or = true then _ else ec_or o) = (if pz_wd B s.1 pz_and = true then _ else if pz_wd B s.1 pz_or = true then _ else ec_or o)
        rw [if_neg h1, if_neg h2, if_neg h1, if_neg h2]
theorem ec_TL_and {B : Nat → Int} (hB : pz_fi B) {f : Nat × Nat → Except Int (Nat × Nat)} {F : Nat × Nat → List Int} (hf : ∀ s t, f s = .ok t → B s.1 ≠ -1 ∧ s.1 < t.1) {s t : Nat × Nat} {o : Bool} (h : pz_wd B s.1 pz_and = true) (e : f (pz_nx B s) = .ok t) : ec_TL B f F 401 s o = F (pz_nx B s) ++ -5 :: ec_TL B f F 401 t o := by
  show (if pz_wd B s.1 pz_and = true then F (pz_nx B s) ++ -5 :: (match f (pz_nx B s) with | .ok t => ec_TL B f F 400 t o | .error _ => []) else _) = _
  rw [if_pos h, e]
  show F (pz_nx B s) ++ -5 :: ec_TL B f F 400 t o = _
  rw [ec_TL_big hB hf 400 t o (Nat.le_add_left _ _)]
theorem ec_TL_or {B : Nat → Int} (hB : pz_fi B) {f : Nat × Nat → Except Int (Nat × Nat)} {F : Nat × Nat → List Int} (hf : ∀ s t, f s = .ok t → B s.1 ≠ -1 ∧ s.1 < t.1) {s t : Nat × Nat} {o : Bool} (h1 : ¬ pz_wd B s.1 pz_and = true) (h : pz_wd B s.1 pz_or = true) (e : f (pz_nx B s) = .ok t) : ec_TL B f F 401 s o = ec_or o ++ (F (pz_nx B s) ++ ec_TL B f F 401 t true) := by
  show (if pz_wd B s.1 pz_and = true then _ else if pz_wd B s.1 pz_or = true then ec_or o ++ (F (pz_nx B s) ++ (match f (pz_nx B s) with | .ok t => ec_TL B f F 400 t true | .error _ => [])) else _) = _
  rw [if_neg h1, if_pos h, e]
  show ec_or o ++ (F (pz_nx B s) ++ ec_TL B f F 400 t true) = _
  rw [ec_TL_big hB hf 400 t true (Nat.le_add_left _ _)]
theorem ec_TL_no {B : Nat → Int} {f : Nat × Nat → Except Int (Nat × Nat)} {F : Nat × Nat → List Int} {s : Nat × Nat} {o : Bool} (h1 : ¬ pz_wd B s.1 pz_and = true) (h2 : ¬ pz_wd B s.1 pz_or = true) : ec_TL B f F 401 s o = ec_or o := by
  show (if pz_wd B s.1 pz_and = true then _ else if pz_wd B s.1 pz_or = true then _ else ec_or o) = ec_or o
  rw [if_neg h1, if_neg h2]
theorem pz_wa_ge0 {B : Nat → Int} {p : Nat} : ∀ (ws : List (List Int)) (k : Int), 0 ≤ k → -1 ≤ pz_wa B p ws k
  | [], k, _ => by show (-1 : Int) ≤ -1; omega
  | w :: t, k, h => by
    show -1 ≤ (if pz_wd B p w = true then k else pz_wa B p t (k + 1))
    by_cases z : pz_wd B p w = true
    · rw [if_pos z]; omega
    · rw [if_neg z]; exact pz_wa_ge0 t (k + 1) (by omega)
theorem pz_num_v {B : Nat → Int} {lo hi v : Int} {p : Nat} (h : pz_num B lo hi p = .ok v) : v = pz_nv B p (pz_te B p - p) ∧ lo ≤ v ∧ v ≤ hi := by
  unfold pz_num at h
  by_cases z : pz_isD (B p) = true
  · rw [if_pos z] at h
    by_cases y : 5 < pz_te B p - p
    · rw [if_pos y] at h; cases h
    · rw [if_neg y] at h
      by_cases x : pz_nv B p (pz_te B p - p) < lo ∨ hi < pz_nv B p (pz_te B p - p)
      · rw [if_pos x] at h; cases h
      · rw [if_neg x] at h; cases h; exact ⟨rfl, by omega⟩
  · rw [if_neg z] at h; cases h
theorem pz_cnt_ok {B : Nat → Int} {s t : Nat × Nat} (h : pz_cnt B s = .ok t) : t = (pz_nt B s.1, s.2 + 1) ∧ s.2 < 60 := by
  unfold pz_cnt at h
  by_cases z : 60 ≤ s.2
  · rw [if_pos z] at h; cases h
  · rw [if_neg z] at h; cases h; exact ⟨rfl, by omega⟩
theorem pz_wa_lt {B : Nat → Int} {p : Nat} : ∀ (ws : List (List Int)) (k : Int), 0 ≤ k → pz_wa B p ws k < k + (ws.length : Int)
  | [], k, h => by show (-1 : Int) < k + ((0 : Nat) : Int); omega
  | w :: t, k, h => by
    show (if pz_wd B p w = true then k else pz_wa B p t (k + 1)) < k + ((t.length + 1 : Nat) : Int)
    by_cases z : pz_wd B p w = true
    · rw [if_pos z]; omega
    · rw [if_neg z]
      have := pz_wa_lt (B := B) (p := p) t (k + 1) (by omega)
      omega
theorem pz_val_ok {B : Nat → Int} {s t : Nat × Nat} (h : pz_val B s = .ok t) : t = (pz_nt B s.1, s.2 + 1) ∧ s.2 < 60 ∧ 0 ≤ ec_v B s.1 ∧ ec_v B s.1 < 100013 := by
  unfold pz_val at h
  unfold ec_v
  by_cases z : pz_isD (B s.1) = true
  · rw [if_pos z] at h ⊢
    cases e : pz_num B 0 99999 s.1 with
    | error x => rw [e] at h; cases h
    | ok v =>
      rw [e] at h
      have h1 := pz_cnt_ok h
      have h2 := pz_num_v e
      exact ⟨h1.1, h1.2, by rw [← h2.1]; omega⟩
  · rw [if_neg z] at h ⊢
    by_cases y : pz_wa B s.1 pz_words 0 = -1
    · rw [if_pos y] at h; cases h
    · rw [if_neg y] at h
      have h1 := pz_cnt_ok h
      have h2 := pz_wa_ge0 (B := B) (p := s.1) pz_words 0 (Int.le_refl _)
      have h3 := pz_wa_lt (B := B) (p := s.1) pz_words 0 (Int.le_refl _)
      have h4 : (pz_words.length : Int) = 13 := by decide
      exact ⟨h1.1, h1.2, by omega⟩
def ec_wk (w : Int) (k : List Bool) : List Bool := if w = -1 then false :: k else false :: false :: k
def ec_w1 (w : Int) : Nat := if w = -1 then 0 else 1
theorem ev_k_v {o : Int} {k : List Bool} (h : 0 ≤ o ∧ o < 100013) : ev_k o k = some (false :: k) := (if_pos h.1).trans (if_pos h.2)
theorem ev_k_a {o : Int} {k : List Bool} (h : -16 ≤ o ∧ o ≤ -12) : ev_k o (false :: false :: k) = some (false :: k) := by
  unfold ev_k
  rw [if_neg (by omega), if_neg (by omega), if_neg (by omega), if_neg (by omega), if_pos h]
theorem ev_k_c {o : Int} {k : List Bool} (h : -11 ≤ o ∧ o ≤ -7) : ev_k o (false :: false :: k) = some (true :: k) := by
  unfold ev_k
  rw [if_neg (by omega), if_neg (by omega), if_neg (by omega), if_pos h]
theorem ev_k_b {o : Int} {k : List Bool} (h : o = -5 ∨ o = -6) : ev_k o (true :: true :: k) = some (true :: k) := by
  unfold ev_k
  rw [if_neg (by omega), if_neg (by omega), if_pos h]
theorem ev_k_n {k : List Bool} : ev_k (-4) (true :: k) = some (true :: k) := by
  unfold ev_k
  rw [if_neg (by decide), if_pos rfl]
theorem ev_t_c {o : Int} {c : List Int} {k k' : List Bool} (h : ev_k o k = some k') : ev_t (o :: c) k = ev_t c k' := by
  show (match ev_k o k with | none => none | some k1 => ev_t c k1) = _
  rw [h]
theorem ec_w_t {w : Int} {k : List Bool} (hw : w = -1 ∨ w = -12 ∨ w = -13) : ev_t (ec_w w) (ec_wk w k) = some (false :: k) ∧ ev_n (ec_w w) = 0 ∧ (ec_w w).length = ec_w1 w := by
  rcases hw with rfl | rfl | rfl
  · exact ⟨rfl, rfl, rfl⟩
  · refine ⟨?_, rfl, rfl⟩
    show ev_t [-12] (false :: false :: k) = _
    rw [ev_t_c (ev_k_a (by decide))]; rfl
  · refine ⟨?_, rfl, rfl⟩
    show ev_t [-13] (false :: false :: k) = _
    rw [ev_t_c (ev_k_a (by decide))]; rfl
theorem ec_S_t {B : Nat → Int} : ∀ (n : Nat) (s t : Nat × Nat) (w : Int) (k : List Bool), pz_it (pz_sF B) n s = .ok t → (w = -1 ∨ w = -12 ∨ w = -13) → s.2 ≤ 60 → ev_t (ec_S B n s.1 w) (ec_wk w k) = some (false :: k) ∧ ev_n (ec_S B n s.1 w) + s.2 ≤ t.2 ∧ (ec_S B n s.1 w).length + s.1 ≤ t.1 + ec_w1 w ∧ t.2 ≤ 60
  | 0, s, t, w, k, h, hw, h6 => by
    cases h
    obtain ⟨h1, h2, h3⟩ := ec_w_t (k := k) hw
    exact ⟨h1, by show ev_n (ec_w w) + s.2 ≤ s.2; omega, by show (ec_w w).length + s.1 ≤ s.1 + ec_w1 w; omega, h6⟩
  | n + 1, s, t, w, k, h, hw, h6 => by
    rw [pz_it] at h
    obtain ⟨w1, w2, w3⟩ := ec_w_t (k := k) hw
    by_cases e : ec_o (B s.1) = -1
    · have e1 : pz_sF B s = none := if_neg (ec_o_no.mp e)
      rw [e1] at h
      have h : (Except.ok s : Except Int (Nat × Nat)) = .ok t := h
      cases h
      have e2 : ec_S B (n + 1) s.1 w = ec_w w := if_pos e
      rw [e2]
      exact ⟨w1, by omega, by omega, h6⟩
    · have e1 : pz_sF B s = some (pz_val B (pz_nx B s)) := if_pos (Classical.byContradiction (fun z => e (ec_o_no.mpr z)))
      rw [e1] at h
      cases ev : pz_val B (pz_nx B s) with
      | error z => rw [ev] at h; cases h
      | ok sq1 =>
        rw [ev] at h
        have h : pz_it (pz_sF B) n sq1 = .ok t := h
        obtain ⟨v1, v2, v3⟩ := pz_val_ok ev
        have p1 := pz_nt_gt (ec_o_ne e)
        have q1 : (pz_nx B s).1 = pz_nt B s.1 := rfl
        have q2 : (pz_nx B s).2 = s.2 := rfl
        rw [q1, q2] at v1
        rw [q1] at v3
        have q3 : sq1.1 = pz_nt B (pz_nt B s.1) := by rw [v1]
        have q4 : sq1.2 = s.2 + 1 := by rw [v1]
        have p2 : pz_nt B s.1 + 1 ≤ pz_nt B (pz_nt B s.1) := by
          have := (pz_val_gt ev).2
          omega
        have ep : ev_p (ec_v B (pz_nt B s.1)) = 1 := if_pos v3.1
        by_cases o : ec_o (B s.1) = -12 ∨ ec_o (B s.1) = -13
        · have e2 : ec_S B (n + 1) s.1 w = ec_w w ++ ec_v B (pz_nt B s.1) :: ec_S B n (pz_nt B (pz_nt B s.1)) (ec_o (B s.1)) := (if_neg e).trans (if_pos o)
          obtain ⟨i1, i2, i3, i4⟩ := ec_S_t n sq1 t (ec_o (B s.1)) k h (Or.inr o) (by omega)
          rw [q3] at i1 i2 i3
          have k1 : ec_wk (ec_o (B s.1)) k = false :: false :: k := if_neg e
          have k2 : ec_w1 (ec_o (B s.1)) = 1 := if_neg e
          rw [k1] at i1
          rw [e2]
          refine ⟨?_, ?_, ?_, i4⟩
          · rw [ev_t_app _ _ _ _ w1, ev_t_c (ev_k_v v3)]; exact i1
          · rw [ev_n_app]
            show ev_n (ec_w w) + (ev_p (ec_v B (pz_nt B s.1)) + ev_n (ec_S B n (pz_nt B (pz_nt B s.1)) (ec_o (B s.1)))) + s.2 ≤ t.2
            omega
          · rw [List.length_append, List.length_cons]; omega
        · have e2 : ec_S B (n + 1) s.1 w = ec_v B (pz_nt B s.1) :: ec_o (B s.1) :: ec_S B n (pz_nt B (pz_nt B s.1)) w := (if_neg e).trans (if_neg o)
          obtain ⟨i1, i2, i3, i4⟩ := ec_S_t n sq1 t w k h hw (by omega)
          rw [q3] at i1 i2 i3
          have hr : -16 ≤ ec_o (B s.1) ∧ ec_o (B s.1) ≤ -12 := ec_o_rg.resolve_left e
          have en : ev_p (ec_o (B s.1)) = 0 := if_neg (by omega)
          rw [e2]
          refine ⟨?_, ?_, ?_, i4⟩
          · rw [ev_t_c (ev_k_v v3)]
            have hk : ∃ k2, ec_wk w k = false :: k2 := by
              rcases hw with rfl | rfl | rfl
              · exact ⟨_, rfl⟩
              · exact ⟨_, rfl⟩
              · exact ⟨_, rfl⟩
            obtain ⟨k2, hk⟩ := hk
            rw [hk, ev_t_c (ev_k_a hr), ← hk]
            exact i1
          · show ev_p (ec_v B (pz_nt B s.1)) + (ev_p (ec_o (B s.1)) + ev_n (ec_S B n (pz_nt B (pz_nt B s.1)) w)) + s.2 ≤ t.2
            omega
          · rw [List.length_cons, List.length_cons]; omega
def ec_gd (c : List Int) (s t : Nat × Nat) (b : Bool) : Prop := (∀ k, ev_t c k = some (b :: k)) ∧ ev_n c + s.2 ≤ t.2 ∧ c.length + s.1 ≤ t.1 ∧ t.2 ≤ 60
theorem ec_sum_gd {B : Nat → Int} {s t : Nat × Nat} (h : pz_sum B s = .ok t) : ec_gd (ec_sum B s.1) s t false := by
  unfold pz_sum at h
  cases ev : pz_val B s with
  | error z => rw [ev] at h; cases h
  | ok sq1 =>
    rw [ev] at h
    have h : pz_it (pz_sF B) 401 sq1 = .ok t := h
    obtain ⟨v1, v2, v3⟩ := pz_val_ok ev
    have q3 : sq1.1 = pz_nt B s.1 := by rw [v1]
    have q4 : sq1.2 = s.2 + 1 := by rw [v1]
    have p2 := (pz_val_gt ev).2
    have ep : ev_p (ec_v B s.1) = 1 := if_pos v3.1
    refine ⟨fun k => ?_, ?_, ?_, ?_⟩
    · have i := (ec_S_t 401 sq1 t (-1) k h (Or.inl rfl) (by omega)).1
      rw [q3] at i
      show ev_t (ec_v B s.1 :: ec_S B 401 (pz_nt B s.1) (-1)) k = _
      rw [ev_t_c (ev_k_v v3)]
      exact i
    · have i := (ec_S_t 401 sq1 t (-1) [] h (Or.inl rfl) (by omega)).2.1
      rw [q3] at i
      show ev_p (ec_v B s.1) + ev_n (ec_S B 401 (pz_nt B s.1) (-1)) + s.2 ≤ t.2
      omega
    · have i := (ec_S_t 401 sq1 t (-1) [] h (Or.inl rfl) (by omega)).2.2.1
      rw [q3] at i
      have e : ec_w1 (-1) = 0 := rfl
      show (ec_S B 401 (pz_nt B s.1) (-1)).length + 1 + s.1 ≤ t.1
      omega
    · exact (ec_S_t 401 sq1 t (-1) [] h (Or.inl rfl) (by omega)).2.2.2
theorem ec_c_rg {B : Nat → Int} {p : Nat} : -11 ≤ ec_c B p ∧ ec_c B p ≤ -7 := by
  unfold ec_c
  split
  · split <;> decide
  · split
    · decide
    · split <;> decide
theorem ec_com_gd {B : Nat → Int} {s t : Nat × Nat} (h : pz_com B s = .ok t) : ec_gd (ec_com B s) s t true := by
  unfold pz_com at h
  unfold ec_com
  cases e1 : pz_sum B s with
  | error z => rw [e1] at h; cases h
  | ok t1 =>
    rw [e1] at h
    have h : pz_b (pz_cmp B t1) (pz_sum B) = .ok t := h
    cases e2 : pz_cmp B t1 with
    | error z => rw [e2] at h; cases h
    | ok t2 =>
      rw [e2] at h
      have h : pz_sum B t2 = .ok t := h
      unfold pz_cmp at e2
      by_cases z : B t1.1 = 60 ∨ B t1.1 = 61 ∨ B t1.1 = 62
      · rw [if_pos z] at e2
        have hc := pz_cnt_ok e2
        have hp := pz_nt_gt (B := B) (p := t1.1) (by omega)
        have q1 : t2.1 = pz_nt B t1.1 := by rw [hc.1]
        have q2 : t2.2 = t1.2 + 1 := by rw [hc.1]
        obtain ⟨a1, a2, a3, a4⟩ := ec_sum_gd e1
        obtain ⟨b1, b2, b3, b4⟩ := ec_sum_gd h
        rw [q1] at b1 b2 b3
        have en : ev_p (ec_c B t1.1) = 0 := if_neg (by have := ec_c_rg (B := B) (p := t1.1); omega)
        show ec_gd (ec_sum B s.1 ++ (ec_sum B (pz_nt B t1.1) ++ [ec_c B t1.1])) s t true
        refine ⟨fun k => ?_, ?_, ?_, b4⟩
        · rw [ev_t_app _ _ _ _ (a1 k), ev_t_app _ _ _ _ (b1 (false :: k)), ev_t_c (ev_k_c ec_c_rg)]; rfl
        · rw [ev_n_app, ev_n_app]
          show ev_n (ec_sum B s.1) + (ev_n (ec_sum B (pz_nt B t1.1)) + (ev_p (ec_c B t1.1) + 0)) + s.2 ≤ t.2
          omega
        · rw [List.length_append, List.length_append, List.length_singleton]; omega
      · rw [if_neg z] at e2; cases e2
def ec_ok (o : Bool) (k : List Bool) : List Bool := if o = true then true :: true :: k else true :: k
def ec_o1 (o : Bool) : Nat := if o = true then 1 else 0
theorem ec_or_t {o : Bool} {k : List Bool} : ev_t (ec_or o) (ec_ok o k) = some (true :: k) ∧ ev_n (ec_or o) = 0 ∧ (ec_or o).length = ec_o1 o := by
  cases o with
  | false => exact ⟨rfl, rfl, rfl⟩
  | true =>
    refine ⟨?_, rfl, rfl⟩
    show ev_t [-6] (true :: true :: k) = _
    rw [ev_t_c (ev_k_b (Or.inr rfl))]; rfl
theorem ec_TL_t {B : Nat → Int} {f : Nat × Nat → Except Int (Nat × Nat)} {F : Nat × Nat → List Int} (hF : ∀ s t, f s = .ok t → s.2 ≤ 60 → ec_gd (F s) s t true) : ∀ (n : Nat) (s t : Nat × Nat) (o : Bool) (k : List Bool), pz_it (pz_tF B f) n s = .ok t → s.2 ≤ 60 → ev_t (ec_TL B f F n s o) (ec_ok o k) = some (true :: k) ∧ ev_n (ec_TL B f F n s o) + s.2 ≤ t.2 ∧ (ec_TL B f F n s o).length + s.1 ≤ t.1 + ec_o1 o ∧ t.2 ≤ 60
  | 0, s, t, o, k, h, h6 => by
    cases h
    obtain ⟨w1, w2, w3⟩ := ec_or_t (o := o) (k := k)
    exact ⟨w1, by show ev_n (ec_or o) + s.2 ≤ s.2; omega, by show (ec_or o).length + s.1 ≤ s.1 + ec_o1 o; omega, h6⟩
  | n + 1, s, t, o, k, h, h6 => by
    rw [pz_it] at h
    obtain ⟨w1, w2, w3⟩ := ec_or_t (o := o) (k := k)
    by_cases z : pz_wd B s.1 pz_and = true ∨ pz_wd B s.1 pz_or = true
    · have e1 : pz_tF B f s = some (f (pz_nx B s)) := if_pos z
      rw [e1] at h
      have p1 := pz_nt_gt (pz_and_ne z)
      have q1 : (pz_nx B s).1 = pz_nt B s.1 := rfl
      have q2 : (pz_nx B s).2 = s.2 := rfl
      cases ef : f (pz_nx B s) with
      | error y => rw [ef] at h; cases h
      | ok sq1 =>
        rw [ef] at h
        have h : pz_it (pz_tF B f) n sq1 = .ok t := h
        obtain ⟨a1, a2, a3, a4⟩ := hF _ _ ef (by omega)
        by_cases za : pz_wd B s.1 pz_and = true
        · have e2 : ec_TL B f F (n + 1) s o = F (pz_nx B s) ++ -5 :: ec_TL B f F n sq1 o := by
            show (if pz_wd B s.1 pz_and = true then F (pz_nx B s) ++ -5 :: (match f (pz_nx B s) with | .ok t => ec_TL B f F n t o | .error _ => []) else _) = _
            rw [if_pos za, ef]
          obtain ⟨i1, i2, i3, i4⟩ := ec_TL_t hF n sq1 t o k h a4
          rw [e2]
          refine ⟨?_, ?_, ?_, i4⟩
          · rw [ev_t_app _ _ _ _ (a1 _)]
            have hk : ∃ k2, ec_ok o k = true :: k2 := by cases o <;> exact ⟨_, rfl⟩
            obtain ⟨k2, hk⟩ := hk
            rw [hk, ev_t_c (ev_k_b (Or.inl rfl)), ← hk]
            exact i1
          · rw [ev_n_app]
            show ev_n (F (pz_nx B s)) + (0 + ev_n (ec_TL B f F n sq1 o)) + s.2 ≤ t.2
            omega
          · rw [List.length_append, List.length_cons]; omega
        · have zo : pz_wd B s.1 pz_or = true := z.resolve_left za
          have e2 : ec_TL B f F (n + 1) s o = ec_or o ++ (F (pz_nx B s) ++ ec_TL B f F n sq1 true) := by
            show (if pz_wd B s.1 pz_and = true then _ else if pz_wd B s.1 pz_or = true then ec_or o ++ (F (pz_nx B s) ++ (match f (pz_nx B s) with | .ok t => ec_TL B f F n t true | .error _ => [])) else _) = _
            rw [if_neg za, if_pos zo, ef]
          obtain ⟨i1, i2, i3, i4⟩ := ec_TL_t hF n sq1 t true k h a4
          have i1 : ev_t (ec_TL B f F n sq1 true) (true :: true :: k) = some (true :: k) := i1
          have i3 : (ec_TL B f F n sq1 true).length + sq1.1 ≤ t.1 + 1 := i3
          rw [e2]
          refine ⟨?_, ?_, ?_, i4⟩
          · rw [ev_t_app _ _ _ _ w1, ev_t_app _ _ _ _ (a1 _)]; exact i1
          · rw [ev_n_app, ev_n_app]; omega
          · rw [List.length_append, List.length_append]; omega
    · have e1 : pz_tF B f s = none := if_neg z
      rw [e1] at h
      have h : (Except.ok s : Except Int (Nat × Nat)) = .ok t := h
      cases h
      have e2 : ec_TL B f F (n + 1) s o = ec_or o := (if_neg (fun y => z (Or.inl y))).trans (if_neg (fun y => z (Or.inr y)))
      rw [e2]
      exact ⟨w1, by omega, by omega, h6⟩
theorem ec_tst_gd {B : Nat → Int} {f : Nat × Nat → Except Int (Nat × Nat)} {F : Nat × Nat → List Int} (hF : ∀ s t, f s = .ok t → s.2 ≤ 60 → ec_gd (F s) s t true) {s t : Nat × Nat} (h : pz_tst B f s = .ok t) (h6 : s.2 ≤ 60) : ec_gd (ec_tst B f F s) s t true := by
  unfold pz_tst at h
  unfold ec_tst
  cases ef : f s with
  | error y => rw [ef] at h; cases h
  | ok sq1 =>
    rw [ef] at h
    have h : pz_it (pz_tF B f) 401 sq1 = .ok t := h
    obtain ⟨a1, a2, a3, a4⟩ := hF _ _ ef h6
    show ec_gd (F s ++ ec_TL B f F 401 sq1 false) s t true
    refine ⟨fun k => ?_, ?_, ?_, ?_⟩
    · rw [ev_t_app _ _ _ _ (a1 k)]; exact (ec_TL_t hF 401 sq1 t false k h a4).1
    · have i := (ec_TL_t hF 401 sq1 t false [] h a4).2.1
      rw [ev_n_app]; omega
    · have i := (ec_TL_t hF 401 sq1 t false [] h a4).2.2.1
      have e : ec_o1 false = 0 := rfl
      rw [List.length_append]; omega
    · exact (ec_TL_t hF 401 sq1 t false [] h a4).2.2.2
theorem ec_fact_gd {B : Nat → Int} : ∀ (m : Nat) (s t : Nat × Nat), pz_fact B m s = .ok t → s.2 ≤ 60 → ec_gd (ec_fact B m s) s t true
  | 0, s, t, h, h6 => by
    unfold pz_fact at h
    by_cases z : pz_wd B s.1 pz_not = true ∨ B s.1 = 91
    · rw [if_pos z] at h; cases h
    · rw [if_neg z] at h; exact ec_com_gd h
  | m + 1, s, t, h, h6 => by
    unfold pz_fact at h
    unfold ec_fact
    by_cases z : pz_wd B s.1 pz_not = true
    · rw [if_pos z] at h ⊢
      have p1 := pz_nt_gt (pz_not_ne z)
      have q1 : (pz_nx B s).1 = pz_nt B s.1 := rfl
      have q2 : (pz_nx B s).2 = s.2 := rfl
      obtain ⟨a1, a2, a3, a4⟩ := ec_fact_gd m _ _ h (by omega)
      refine ⟨fun k => ?_, ?_, ?_, a4⟩
      · rw [ev_t_app _ _ _ _ (a1 k), ev_t_c ev_k_n]; rfl
      · rw [ev_n_app]
        show ev_n (ec_fact B m (pz_nx B s)) + (0 + 0) + s.2 ≤ t.2
        omega
      · rw [List.length_append, List.length_singleton]; omega
    · rw [if_neg z] at h ⊢
      by_cases y : B s.1 = 91
      · rw [if_pos y] at h ⊢
        have p1 := pz_nt_gt (B := B) (p := s.1) (by omega)
        have q1 : (pz_nx B s).1 = pz_nt B s.1 := rfl
        have q2 : (pz_nx B s).2 = s.2 := rfl
        cases e : pz_tst B (pz_fact B m) (pz_nx B s) with
        | error x => rw [e] at h; cases h
        | ok sq1 =>
          rw [e] at h
          have h : pz_rb B sq1 = .ok t := h
          unfold pz_rb at h
          by_cases x : B sq1.1 = 93
          · rw [if_pos x] at h
            cases h
            obtain ⟨a1, a2, a3, a4⟩ := ec_tst_gd (f := pz_fact B m) (F := ec_fact B m) (fun s t h h6 => ec_fact_gd m s t h h6) e (by omega)
            have q3 : (pz_nx B sq1).1 = pz_nt B sq1.1 := rfl
            have q4 : (pz_nx B sq1).2 = sq1.2 := rfl
            have p2 := pz_nt_ge (B := B) (p := sq1.1)
            exact ⟨a1, by omega, by omega, by omega⟩
          · rw [if_neg x] at h; cases h
      · rw [if_neg y] at h ⊢; exact ec_com_gd h
def ru_1 (c : List Int × Option (List Int)) : List Int := match c with
  | (s, none) => s ++ [-2]
  | (s, some t) => s ++ (t ++ [-3])
theorem ru_fl_c {c : List Int × Option (List Int)} {cs : RuA} : ru_fl (c :: cs) = ru_1 c ++ ru_fl cs := by
  match c with
  | (s, none) => show s ++ -2 :: ru_fl cs = (s ++ [-2]) ++ ru_fl cs; rw [List.append_assoc]; rfl
  | (s, some t) => show s ++ (t ++ -3 :: ru_fl cs) = (s ++ (t ++ [-3])) ++ ru_fl cs; rw [List.append_assoc, List.append_assoc]; rfl
theorem ru_cl_gd {B : Nat → Int} {l : Nat} {s t : Nat × Nat} (h : pz_cla B l s = .ok t) (h6 : s.2 ≤ 60) (cs : RuA) : (ru_ok cs → ru_ok (ru_cl B s :: cs)) ∧ (ru_1 (ru_cl B s)).length + s.1 ≤ t.1 ∧ s.2 ≤ t.2 ∧ t.2 ≤ 60 ∧ l ≠ 12 := by
  unfold pz_cla at h
  unfold ru_cl
  by_cases z : pz_wd B s.1 pz_buy = true
  · rw [if_pos z] at h
    have p1 := pz_nt_gt (B := B) (p := s.1) (pz_wd_ne z (by decide) (by decide))
    have q1 : (pz_nx B s).1 = pz_nt B s.1 := rfl
    have q2 : (pz_nx B s).2 = s.2 := rfl
    by_cases y : l = 12
    · rw [if_pos y] at h; cases h
    · rw [if_neg y] at h
      cases e : pz_sum B (pz_nx B s) with
      | error x => rw [e] at h; cases h
      | ok sq1 =>
        rw [e] at h
        obtain ⟨a1, a2, a3, a4⟩ := ec_sum_gd e
        rw [q1] at a1 a2 a3
        have h : (if pz_wd B sq1.1 pz_if = true then pz_tst B (pz_fact B 10) (pz_nx B sq1) else .ok sq1) = .ok t := h
        by_cases x : pz_wd B sq1.1 pz_if = true
        · rw [if_pos x] at h
          have e2 : (match (Except.ok sq1 : Except Int (Nat × Nat)) with | .ok t => if pz_wd B t.1 pz_if = true then some (ec_tst B (pz_fact B 10) (ec_fact B 10) (pz_nx B t)) else none | .error _ => none) = some (ec_tst B (pz_fact B 10) (ec_fact B 10) (pz_nx B sq1)) := if_pos x
          rw [e2]
          have p2 := pz_nt_gt (B := B) (p := sq1.1) (pz_wd_ne x (by decide) (by decide))
          have q3 : (pz_nx B sq1).1 = pz_nt B sq1.1 := rfl
          have q4 : (pz_nx B sq1).2 = sq1.2 := rfl
          obtain ⟨b1, b2, b3, b4⟩ := ec_tst_gd (f := pz_fact B 10) (F := ec_fact B 10) (fun s t h h6 => ec_fact_gd 10 s t h h6) h (by omega)
          refine ⟨fun hc => ⟨a1 [], b1 [], by omega, hc⟩, ?_, by omega, b4, y⟩
          show (ec_sum B (pz_nt B s.1) ++ (ec_tst B (pz_fact B 10) (ec_fact B 10) (pz_nx B sq1) ++ [-3])).length + s.1 ≤ t.1
          rw [List.length_append, List.length_append, List.length_singleton]; omega
        · rw [if_neg x] at h
          obtain rfl : sq1 = t := Except.ok.inj h
          have e2 : (match (Except.ok sq1 : Except Int (Nat × Nat)) with | .ok t => if pz_wd B t.1 pz_if = true then some (ec_tst B (pz_fact B 10) (ec_fact B 10) (pz_nx B t)) else none | .error _ => none) = none := if_neg x
          rw [e2]
          refine ⟨fun hc => ⟨a1 [], by omega, hc⟩, ?_, by omega, a4, y⟩
          show (ec_sum B (pz_nt B s.1) ++ [-2]).length + s.1 ≤ sq1.1
          rw [List.length_append, List.length_singleton]; omega
  · rw [if_neg z] at h; cases h
theorem ru_lp_big {B : Nat → Int} (hB : pz_fi B) : ∀ (k : Nat) (u : (Nat × Nat) × Nat), 400 ≤ u.1.1 + k → ru_lp B (k + 1) u = ru_lp B k u
  | 0, u, h => by
    have e : ¬ B u.1.1 = 59 := by rw [hB u.1.1 (by omega)]; decide
    show (if B u.1.1 = 59 then _ else []) = []
    rw [if_neg e]
  | k + 1, u, h => by
    by_cases z : B u.1.1 = 59
    · have p1 := pz_nt_gt (B := B) (p := u.1.1) (by omega)
      have q1 : (pz_nx B u.1).1 = pz_nt B u.1.1 := rfl
      show (if B u.1.1 = 59 then ru_cl B (pz_nx B u.1) :: (match pz_cla B u.2 (pz_nx B u.1) with | .ok t => ru_lp B (k + 1) (t, u.2 + 1) | .error _ => []) else []) = (if B u.1.1 = 59 then ru_cl B (pz_nx B u.1) :: (match pz_cla B u.2 (pz_nx B u.1) with | .ok t => ru_lp B k (t, u.2 + 1) | .error _ => []) else [])
      rw [if_pos z, if_pos z]
      cases e : pz_cla B u.2 (pz_nx B u.1) with
      | error y => rfl
      | ok t =>
        have h3 := (pz_cla_gt hB e).2
        show ru_cl B (pz_nx B u.1) :: ru_lp B (k + 1) (t, u.2 + 1) = ru_cl B (pz_nx B u.1) :: ru_lp B k (t, u.2 + 1)
        rw [ru_lp_big hB k (t, u.2 + 1) (by show 400 ≤ t.1 + k; omega)]
    · show (if B u.1.1 = 59 then _ else []) = (if B u.1.1 = 59 then _ else [])
      rw [if_neg z, if_neg z]
theorem ru_lp_on {B : Nat → Int} (hB : pz_fi B) {u : (Nat × Nat) × Nat} {t : Nat × Nat} (h : B u.1.1 = 59) (e : pz_cla B u.2 (pz_nx B u.1) = .ok t) : ru_lp B 401 u = ru_cl B (pz_nx B u.1) :: ru_lp B 401 (t, u.2 + 1) := by
  show (if B u.1.1 = 59 then ru_cl B (pz_nx B u.1) :: (match pz_cla B u.2 (pz_nx B u.1) with | .ok t => ru_lp B 400 (t, u.2 + 1) | .error _ => []) else []) = _
  rw [if_pos h, e]
  show ru_cl B (pz_nx B u.1) :: ru_lp B 400 (t, u.2 + 1) = _
  rw [ru_lp_big hB 400 (t, u.2 + 1) (Nat.le_add_left _ _)]
theorem ru_lp_no {B : Nat → Int} {u : (Nat × Nat) × Nat} (h : ¬ B u.1.1 = 59) : ru_lp B 401 u = [] := if_neg h
theorem ru_lp_gd {B : Nat → Int} : ∀ (n : Nat) (u w : (Nat × Nat) × Nat), pz_it (pz_rF B) n u = .ok w → u.1.2 ≤ 60 → u.2 ≤ 12 → ru_ok (ru_lp B n u) ∧ (ru_fl (ru_lp B n u)).length + u.1.1 ≤ w.1.1 ∧ (ru_lp B n u).length + u.2 ≤ 12
  | 0, u, w, h, _, hl => by cases h; exact ⟨trivial, by show 0 + u.1.1 ≤ u.1.1; omega, by show 0 + u.2 ≤ 12; omega⟩
  | n + 1, u, w, h, h6, hl => by
    rw [pz_it] at h
    by_cases z : B u.1.1 = 59
    · have e1 : pz_rF B u = some (pz_b (pz_cla B u.2 (pz_nx B u.1)) (fun t => .ok (t, u.2 + 1))) := if_pos z
      rw [e1] at h
      have p1 := pz_nt_gt (B := B) (p := u.1.1) (by omega)
      have q1 : (pz_nx B u.1).1 = pz_nt B u.1.1 := rfl
      have q2 : (pz_nx B u.1).2 = u.1.2 := rfl
      cases e : pz_cla B u.2 (pz_nx B u.1) with
      | error y => rw [e] at h; cases h
      | ok t =>
        rw [e] at h
        have h : pz_it (pz_rF B) n (t, u.2 + 1) = .ok w := h
        obtain ⟨a1, a2, a3, a4, a5⟩ := ru_cl_gd e (by omega) (ru_lp B n (t, u.2 + 1))
        obtain ⟨i1, i2, i3⟩ := ru_lp_gd n (t, u.2 + 1) w h a4 (by show u.2 + 1 ≤ 12; omega)
        have e2 : ru_lp B (n + 1) u = ru_cl B (pz_nx B u.1) :: ru_lp B n (t, u.2 + 1) := by
          show (if B u.1.1 = 59 then ru_cl B (pz_nx B u.1) :: (match pz_cla B u.2 (pz_nx B u.1) with | .ok t => ru_lp B n (t, u.2 + 1) | .error _ => []) else []) = _
          rw [if_pos z, e]
        have i2 : (ru_fl (ru_lp B n (t, u.2 + 1))).length + t.1 ≤ w.1.1 := i2
        have i3 : (ru_lp B n (t, u.2 + 1)).length + (u.2 + 1) ≤ 12 := i3
        rw [e2]
        refine ⟨a1 i1, ?_, ?_⟩
        · rw [ru_fl_c, List.length_append]; omega
        · rw [List.length_cons]; omega
    · have e1 : pz_rF B u = none := if_neg z
      rw [e1] at h
      have h : (Except.ok u : Except Int ((Nat × Nat) × Nat)) = .ok w := h
      cases h
      have e2 : ru_lp B (n + 1) u = [] := if_neg z
      rw [e2]
      exact ⟨trivial, by show 0 + u.1.1 ≤ u.1.1; omega, by show 0 + u.2 ≤ 12; omega⟩
theorem ru_of_gd {B : Nat → Int} {p : Nat} (h : pz_rule B = .ok p) : ru_ok (ru_of B) ∧ (ru_fl (ru_of B)).length ≤ p ∧ (ru_of B).length ≤ 12 := by
  unfold pz_rule at h
  unfold ru_of
  cases e : pz_cla B 0 (pz_sk B 0, 0) with
  | error y => rw [e] at h; cases h
  | ok t =>
    rw [e] at h
    have h : pz_b (pz_lp (pz_rF B) (t, 1)) (fun u => pz_end B u.1.1) = .ok p := h
    cases e2 : pz_lp (pz_rF B) (t, 1) with
    | error y => rw [e2] at h; cases h
    | ok w =>
      rw [e2] at h
      have h : pz_end B w.1.1 = .ok p := h
      have ep : w.1.1 = p := by
        unfold pz_end at h
        by_cases z : B w.1.1 = -1
        · rw [if_pos z] at h; cases h; rfl
        · rw [if_neg z] at h; cases h
      obtain ⟨a1, a2, a3, a4, a5⟩ := ru_cl_gd e (by show 0 ≤ 60; omega) (ru_lp B 401 (t, 1))
      obtain ⟨i1, i2, i3⟩ := ru_lp_gd 401 (t, 1) w e2 a4 (by show 1 ≤ 12; omega)
      have i2 : (ru_fl (ru_lp B 401 (t, 1))).length + t.1 ≤ w.1.1 := i2
      have i3 : (ru_lp B 401 (t, 1)).length + 1 ≤ 12 := i3
      show ru_ok (ru_cl B (pz_sk B 0, 0) :: ru_lp B 401 (t, 1)) ∧ (ru_fl (ru_cl B (pz_sk B 0, 0) :: ru_lp B 401 (t, 1))).length ≤ p ∧ (ru_cl B (pz_sk B 0, 0) :: ru_lp B 401 (t, 1)).length ≤ 12
      refine ⟨a1 i1, ?_, ?_⟩
      · rw [ru_fl_c, List.length_append]; omega
      · rw [List.length_cons]; omega
def CdE (rf : Nat → Int32) (L : List Int) : Prop := ∀ i : Nat, i < L.length → (rf i).toInt = L.getD i 0
def rC (o : Int) : Int := if o = -12 then 2 else if o = -13 then 3 else if o = -14 then 4 else if o = -15 then 5 else if o = -7 then 6 else if o = -8 then 7 else if o = -9 then 8 else if o = -10 then 9 else if o = -11 then 10 else if o = -4 then 11 else if o = -5 then 12 else if o = -6 then 13 else 14
def rE (o : Int) : Int := if 100000 ≤ o then 1 + 16 * (o - 100000) else if 0 ≤ o then 16 * o else rC o
def RwE (sg : Nat → Int32) (t p : Nat) (c : List Int) : Prop := ∀ j : Nat, j < c.length → (sg (400 * t + p + j)).toInt = rE (c.getD j 0)
def RoE (sg cl : Nat → Int32) (t c : Nat) (x : List Int × Option (List Int)) : Prop := (∃ p : Nat, (cl (48 * t + 4 * c)).toInt = (p : Int) ∧ (cl (48 * t + 4 * c + 1)).toInt = (p : Int) + (x.1.length : Int) ∧ (cl (48 * t + 4 * c + 1)).toInt ≤ 400 ∧ RwE sg t p x.1) ∧ match x.2 with
  | none => (cl (48 * t + 4 * c + 2)).toInt < 0
  | some u => ∃ q : Nat, (cl (48 * t + 4 * c + 2)).toInt = (q : Int) ∧ (cl (48 * t + 4 * c + 3)).toInt = (q : Int) + (u.length : Int) ∧ (cl (48 * t + 4 * c + 3)).toInt ≤ 400 ∧ RwE sg t q u
def RwR (sg cl cs : Nat → Int32) (t : Nat) (R : RuA) : Prop := (cs t).toInt = (R.length : Int) ∧ R.length ≤ 12 ∧ ∀ c : Nat, c < R.length → RoE sg cl t c (R.getD c ([], none))
