set_option maxRecDepth 16384
set_option maxHeartbeats 4000000 in
set_option maxRecDepth 100000 in
theorem ct_fX10_numberHere (l : Launch) (D : va_G) (tc : Nat → ClassId) (sk : (Nat → Nat) × (Nat → Nat)) (Ta : Nat → Nat) (Tv : Nat → Int32) (Tf : Nat → Nat → Int32) (x1 : Int32) (x2 : Int32) (rr : Except Int (Nat × Nat)) (lo : Int) (hi : Int) (h_tape : 0 ≤ ((Tv 0) : Int32).toInt ∧ ((Tv 0) : Int32).toInt ≤ 400 ∧ 0 ≤ ((Tv 1) : Int32).toInt ∧ ((Tv 1) : Int32).toInt ≤ 400 ∧ 0 ≤ ((Tv 2) : Int32).toInt ∧ ((Tv 2) : Int32).toInt ≤ 400) (h_by : Byt (Tf 1)) (h_r : TpR (Tf 1) (Tv 0) rr (Tv 1) (Tv 2) (Tv 3) (Tv 4)) (h_lo : x1.toInt = lo) (h_hi : x2.toInt = hi) : Ct l yX10_numberHere cX10_numberHere 5 (some .int) { frames := 1, cells := 0, slots := 0, locals := 21 } D tc sk [.ref (Ta 0), .int x1, .int x2] [((Ta 0), .inr (10, [.ref (Ta 1), .int (Tv 0), .int (Tv 1), .int (Tv 2), .int (Tv 3), .int (Tv 4)])), ((Ta 1), .inl (tc 0, 400, .inl (Tf 1)))] (fun (v : Option Value) (u : (Int32) × (Int32)) => match u with | (oo0x1, oo0x2) => ∃ r : Int32, v = some (.int r) ∧ (NuV (cB (Tf 1) (Tv 0)) lo hi rr r) ∧ (0 ≤ ((Tv 0) : Int32).toInt ∧ ((Tv 0) : Int32).toInt ≤ 400 ∧ 0 ≤ ((Tv 1) : Int32).toInt ∧ ((Tv 1) : Int32).toInt ≤ 400 ∧ 0 ≤ ((Tv 2) : Int32).toInt ∧ ((Tv 2) : Int32).toInt ≤ 400) ∧ (TpR (Tf 1) (Tv 0) (rNU (cB (Tf 1) (Tv 0)) lo hi rr) (Tv 1) (Tv 2) oo0x1 oo0x2)) (fun (u : (Int32) × (Int32)) => match u with | (oo0x1, oo0x2) => [((Ta 0), .inr (10, [.ref (Ta 1), .int (Tv 0), .int (Tv 1), .int (Tv 2), .int oo0x1, .int oo0x2])), ((Ta 1), .inl (tc 0, 400, .inl (Tf 1)))]) 0 0 := by
  refine Ct.start (by decide) (Nat.le_of_ble_eq_true rfl) (fun p e s m below meth c A ls hx hb hr hlk hin hml hown hts hK hX hP hD hA hl hS => ?_)
  have hl : lv_has ls 5 [(0, .ref (Ta 0)), (1, .int x1), (2, .int x2)] := hl
  have tb_1 : TpB (rTE (cB (Tf 1) (Tv 0)) rr) (Tv 2) (Tv 4) := TpR.tb h_r
  have htlt := fun z : 0 ≤ (Tv 3).toInt => TpR.lt h_r z
  refine lv_aload_n hx hb dX10_numberHere_0 rfl (lv_at hl 0 rfl) ?_
  refine gf_X10_25 hx hb hts hown hK hP 0 rfl rfl dX10_numberHere_1 ?_
  refine cS (As := [.int (Tv 3)]) (rest := []) (wr := [((Ta 0), .inr (10, [.ref (Ta 1), .int (Tv 0), .int (Tv 1), .int (Tv 2), .int (Tv 3), .int (Tv 4)])), ((Ta 1), .inl (tc 0, 400, .inl (Tf 1)))]) ⟨hx, hb, hml, hown, hts⟩ hK hX hA (ct_fX10_isDigit l D tc sk (Tv 3)) k_488 k_486 k_487 k_96 pl_X10_isDigit ⟨Nat.le_of_ble_eq_true rfl, Nat.le_of_ble_eq_true rfl⟩ rfl rfl  hP hD hS [] [0, 1] rfl rfl rfl rfl rfl (by decide) rfl hl.1 rfl (Nat.le_of_ble_eq_true rfl) dX10_numberHere_4 ⟨Nat.le_of_ble_eq_true rfl, Nat.le_of_ble_eq_true rfl⟩ (fun v_2 u_3 H locs hv_4 hP₀ hD₀ hS₀ => ?_)
  obtain ⟨r_5, rfl, he_6⟩ := hv_4
  have he_6 : ((r_5.toInt = 1 ∧ 48 ≤ (Tv 3).toInt ∧ (Tv 3).toInt ≤ 57) ∨ (r_5.toInt = 0 ∧ ((Tv 3).toInt < 48 ∨ 57 < (Tv 3).toInt))) := he_6
  refine W.eq (g2 := F0 m 7 ls [.int r_5]) rfl ?_
  replace hP : va_P D classes [((Ta 0), .inr (10, [.ref (Ta 1), .int (Tv 0), .int (Tv 1), .int (Tv 2), .int (Tv 3), .int (Tv 4)])), ((Ta 1), .inl (tc 0, 400, .inl (Tf 1)))] H := hP₀
  replace hD : va_D A [((Ta 0), .inr (10, [.ref (Ta 1), .int (Tv 0), .int (Tv 1), .int (Tv 2), .int (Tv 3), .int (Tv 4)])), ((Ta 1), .inl (tc 0, 400, .inl (Tf 1)))] := hD₀
  replace hS := hS₀
  clear hP₀ hD₀ hS₀
  refine lv_if_ne (tgt := 17) hx hb dX10_numberHere_7 (by decide) (fun c_8 => ?_) (fun c_8 => ?_)
  · skip
    refine lv_aload_n hx hb dX10_numberHere_17 rfl (lv_at hl 0 rfl) ?_
    refine gf_X10_22 hx hb hts hown hK hP 0 rfl rfl dX10_numberHere_18 ?_
    refine lv_aload_n hx hb dX10_numberHere_21 rfl (lv_at hl 0 rfl) ?_
    refine gf_X10_19 hx hb hts hown hK hP 0 rfl rfl dX10_numberHere_22 ?_
    refine lv_isub hx hb dX10_numberHere_25 ?_
    refine lv_topi (fun x_9 ex_9 => ?_)
    refine lv_iconst (v := 5) hx hb dX10_numberHere_26 (by decide) ?_
    refine lv_icmp_le (tgt := 37) hx hb dX10_numberHere_27 (by decide) (fun c_10 => ?_) (fun c_10 => ?_)
    · skip
      refine lv_iconst (v := 0) hx hb dX10_numberHere_37 (by decide) ?_
      refine lv_istore_n (lv' := [(3, .int 0), (0, .ref (Ta 0)), (1, .int x1), (2, .int x2)]) hx hb dX10_numberHere_38 rfl hl (by decide) rfl (fun ls hl₀ => ?_)
      replace hl := hl₀
      clear hl₀
      refine lv_aload_n hx hb dX10_numberHere_39 rfl (lv_at hl 1 rfl) ?_
      refine gf_X10_19 hx hb hts hown hK hP 0 rfl rfl dX10_numberHere_40 ?_
      refine lv_istore (lv' := [(4, .int (Tv 1)), (3, .int 0), (0, .ref (Ta 0)), (1, .int x1), (2, .int x2)]) hx hb dX10_numberHere_43 hl (by decide) rfl (fun ls hl₀ => ?_)
      replace hl := hl₀
      clear hl₀
      have loop_17 : ∀ (n_15 : Nat) (vy_13 : Int32) (vy_14 : Int32) (H : Heap) (locs : List Loc) (ls : Array Slot), (401 - (vy_13 : Int32).toInt).toNat < n_15 → ((Tv 1).toInt ≤ (vy_13 : Int32).toInt ∧ (vy_13 : Int32).toInt ≤ (Tv 2).toInt) → (Nv (cB (Tf 1) (Tv 0)) (Tv 1) vy_14 vy_13) → va_P D classes [((Ta 0), .inr (10, [.ref (Ta 1), .int (Tv 0), .int (Tv 1), .int (Tv 2), .int (Tv 3), .int (Tv 4)])), ((Ta 1), .inl (tc 0, 400, .inl (Tf 1)))] H → va_D A [((Ta 0), .inr (10, [.ref (Ta 1), .int (Tv 0), .int (Tv 1), .int (Tv 2), .int (Tv 3), .int (Tv 4)])), ((Ta 1), .inl (tc 0, 400, .inl (Tf 1)))] → va_S A s.heap H locs → lv_has ls 5 [(4, .int vy_13), (3, .int vy_14), (0, .ref (Ta 0)), (1, .int x1), (2, .int x2)] → W p l e ({ frames := 1, cells := 0, slots := 0, locals := 21 }) s m ([.ref (Ta 0), .int x1, .int x2].toArray) below meth c H locs 0 0 (MQ below (QW (fun (v : Option Value) (u : (Int32) × (Int32)) => match u with | (oo0x1, oo0x2) => ∃ r : Int32, v = some (.int r) ∧ (NuV (cB (Tf 1) (Tv 0)) lo hi rr r) ∧ (0 ≤ ((Tv 0) : Int32).toInt ∧ ((Tv 0) : Int32).toInt ≤ 400 ∧ 0 ≤ ((Tv 1) : Int32).toInt ∧ ((Tv 1) : Int32).toInt ≤ 400 ∧ 0 ≤ ((Tv 2) : Int32).toInt ∧ ((Tv 2) : Int32).toInt ≤ 400) ∧ (TpR (Tf 1) (Tv 0) (rNU (cB (Tf 1) (Tv 0)) lo hi rr) (Tv 1) (Tv 2) oo0x1 oo0x2)) (BW D (fun (u : (Int32) × (Int32)) => match u with | (oo0x1, oo0x2) => [((Ta 0), .inr (10, [.ref (Ta 1), .int (Tv 0), .int (Tv 1), .int (Tv 2), .int oo0x1, .int oo0x2])), ((Ta 1), .inl (tc 0, 400, .inl (Tf 1)))]) A) A) ([.ref (Ta 0), .int x1, .int x2].toArray) s 0 0 A) (F0 m 45 ls []) := by
        clear hP hD hS hl
        intro n_15
        induction n_15 with
        | zero =>
          intro vy_13 vy_14 H locs ls h1
          exact absurd h1 (Nat.not_lt_zero _)
        | succ n_15 ih_16 =>
          intro vy_13 vy_14 H locs ls hn_20 pf_18 pf_19 hP hD hS hl
          have ar_pf_19 := Nv.ar pf_19
          refine lv_iload hx hb dX10_numberHere_45 (lv_at hl 0 rfl) ?_
          refine lv_aload_n hx hb dX10_numberHere_47 rfl (lv_at hl 2 rfl) ?_
          refine gf_X10_22 hx hb hts hown hK hP 0 rfl rfl dX10_numberHere_48 ?_
          refine lv_icmp_ge (tgt := 75) hx hb dX10_numberHere_51 (by decide) (fun c_21 => ?_) (fun c_21 => ?_)
          · skip
            refine lv_iload_n hx hb dX10_numberHere_75 rfl (lv_at hl 1 rfl) ?_
            refine lv_iload_n hx hb dX10_numberHere_76 rfl (lv_at hl 3 rfl) ?_
            refine lv_icmp_lt (tgt := 85) hx hb dX10_numberHere_77 (by decide) (fun c_22 => ?_) (fun c_22 => ?_)
            · skip
              refine lv_aload_n hx hb dX10_numberHere_85 rfl (lv_at hl 2 rfl) ?_
              refine lv_iconst (v := 1) hx hb dX10_numberHere_86 (by decide) ?_
              have ha_23 : 0 ≤ (1 : Int32).toInt ∧ (1 : Int32).toInt ≤ 4 := by
                have z_1 : ¬ (r_5 : Int32).toInt = (0 : Int32).toInt := fun z => c_8 (Int32.toInt_inj.mp z)
                have z_2 := Int32.le_iff_toInt_le.mp c_10
                have z_3 := Int32.le_iff_toInt_le.mp c_21
                have z_4 := Int32.lt_iff_toInt_lt.mp c_22
                have y_0 : (0 : Int32).toInt = 0 := by decide
                have y_5 : (5 : Int32).toInt = 5 := by decide
                have y_1 : (1 : Int32).toInt = 1 := by decide
                have t_x_9 : x_9.toInt = ((Tv 2) : Int32).toInt - ((Tv 1) : Int32).toInt := by rw [ex_9]; exact sub_toInt (by omega) (by omega)
                omega
              have ha_24 : (1 : Int32).toInt = (1 : Int) := by
                have z_1 : ¬ (r_5 : Int32).toInt = (0 : Int32).toInt := fun z => c_8 (Int32.toInt_inj.mp z)
                have z_2 := Int32.le_iff_toInt_le.mp c_10
                have z_3 := Int32.le_iff_toInt_le.mp c_21
                have z_4 := Int32.lt_iff_toInt_lt.mp c_22
                have y_0 : (0 : Int32).toInt = 0 := by decide
                have y_5 : (5 : Int32).toInt = 5 := by decide
                have y_1 : (1 : Int32).toInt = 1 := by decide
                have t_x_9 : x_9.toInt = ((Tv 2) : Int32).toInt - ((Tv 1) : Int32).toInt := by rw [ex_9]; exact sub_toInt (by omega) (by omega)
                omega
              refine cV (a := (Ta 0)) (As := [.int 1]) (rest := []) (wr := []) ⟨hx, hb, hml, hown, hts⟩ hK hX hA (cu_fX10_fail l D tc sk (Ta 0) (Ta 1) (Tv 0) (Tv 1) (Tv 2) (Tv 3) (Tv 4) (Tf 1) 1 rr 1 h_tape h_r ha_23 ha_24) k_557 k_571 k_555 k_556 k_96 pl_X10_fail ⟨Nat.le_of_ble_eq_true rfl, Nat.le_of_ble_eq_true rfl⟩ rfl rfl (va_recv hK hP (ci := 10) (q0 := 0) rfl rfl) hP hD hS [0, 1] [] rfl rfl rfl rfl rfl (by decide) rfl hl.1 rfl (Nat.le_of_ble_eq_true rfl) dX10_numberHere_87 ⟨Nat.le_of_ble_eq_true rfl, Nat.le_of_ble_eq_true rfl⟩ (fun v_25 u_26 H locs hv_27 hP₀ hD₀ hS₀ => ?_)
              obtain ⟨sv_28, sv_29⟩ := u_26
              obtain ⟨rfl, pf_30, pf_31⟩ := hv_27
              have pf_30 : 0 ≤ ((Tv 0) : Int32).toInt ∧ ((Tv 0) : Int32).toInt ≤ 400 ∧ 0 ≤ ((Tv 1) : Int32).toInt ∧ ((Tv 1) : Int32).toInt ≤ 400 ∧ 0 ≤ ((Tv 2) : Int32).toInt ∧ ((Tv 2) : Int32).toInt ≤ 400 := pf_30
              have pf_31 : TpR (Tf 1) (Tv 0) (rER (1 : Int) rr) (Tv 1) (Tv 2) sv_28 sv_29 := pf_31
              obtain ⟨ro_32, ero_32⟩ : ∃ z : Except Int (Nat × Nat), z = (rER (1 : Int) rr) := ⟨_, rfl⟩
              rw [← ero_32] at pf_31
              have tb_33 : TpB (rTE (cB (Tf 1) (Tv 0)) ro_32) (Tv 2) sv_29 := TpR.tb pf_31
              refine W.eq (g2 := F0 m 90 ls []) rfl ?_
              replace hP : va_P D classes [((Ta 0), .inr (10, [.ref (Ta 1), .int (Tv 0), .int (Tv 1), .int (Tv 2), .int sv_28, .int sv_29])), ((Ta 1), .inl (tc 0, 400, .inl (Tf 1)))] H := hP₀
              replace hD : va_D A [((Ta 0), .inr (10, [.ref (Ta 1), .int (Tv 0), .int (Tv 1), .int (Tv 2), .int sv_28, .int sv_29])), ((Ta 1), .inl (tc 0, 400, .inl (Tf 1)))] := hD₀
              replace hS := hS₀
              clear hP₀ hD₀ hS₀
              refine lv_iload_n hx hb dX10_numberHere_90 rfl (lv_at hl 3 rfl) ?_
              have hk_34 : vy_13 = (Tv 2) := Int32.toInt_inj.mp (by
                have z_1 : ¬ (r_5 : Int32).toInt = (0 : Int32).toInt := fun z => c_8 (Int32.toInt_inj.mp z)
                have z_2 := Int32.le_iff_toInt_le.mp c_10
                have z_3 := Int32.le_iff_toInt_le.mp c_21
                have z_4 := Int32.lt_iff_toInt_lt.mp c_22
                have y_0 : (0 : Int32).toInt = 0 := by decide
                have y_5 : (5 : Int32).toInt = 5 := by decide
                have t_x_9 : x_9.toInt = ((Tv 2) : Int32).toInt - ((Tv 1) : Int32).toInt := by rw [ex_9]; exact sub_toInt (by omega) (by omega)
                omega)
              have hv_35 : Nv (cB (Tf 1) (Tv 0)) (Tv 1) vy_14 (Tv 2) := hk_34 ▸ pf_19
              have hr_36 : 48 ≤ (Tv 3).toInt ∧ (Tv 3).toInt ≤ 57 := by
                have z_1 : ¬ (r_5 : Int32).toInt = (0 : Int32).toInt := fun z => c_8 (Int32.toInt_inj.mp z)
                have z_2 := Int32.le_iff_toInt_le.mp c_10
                have z_3 := Int32.le_iff_toInt_le.mp c_21
                have z_4 := Int32.lt_iff_toInt_lt.mp c_22
                have y_0 : (0 : Int32).toInt = 0 := by decide
                have y_5 : (5 : Int32).toInt = 5 := by decide
                have t_x_9 : x_9.toInt = ((Tv 2) : Int32).toInt - ((Tv 1) : Int32).toInt := by rw [ex_9]; exact sub_toInt (by omega) (by omega)
                omega
              have hr_37 : (Tv 2).toInt - (Tv 1).toInt ≤ 5 := by
                have z_1 : ¬ (r_5 : Int32).toInt = (0 : Int32).toInt := fun z => c_8 (Int32.toInt_inj.mp z)
                have z_2 := Int32.le_iff_toInt_le.mp c_10
                have z_3 := Int32.le_iff_toInt_le.mp c_21
                have z_4 := Int32.lt_iff_toInt_lt.mp c_22
                have y_0 : (0 : Int32).toInt = 0 := by decide
                have y_5 : (5 : Int32).toInt = 5 := by decide
                have t_x_9 : x_9.toInt = ((Tv 2) : Int32).toInt - ((Tv 1) : Int32).toInt := by rw [ex_9]; exact sub_toInt (by omega) (by omega)
                omega
              have hr_38 : ((vy_14 : Int32).toInt < lo ∨ hi < (vy_14 : Int32).toInt) := by
                have z_1 : ¬ (r_5 : Int32).toInt = (0 : Int32).toInt := fun z => c_8 (Int32.toInt_inj.mp z)
                have z_2 := Int32.le_iff_toInt_le.mp c_10
                have z_3 := Int32.le_iff_toInt_le.mp c_21
                have z_4 := Int32.lt_iff_toInt_lt.mp c_22
                have y_0 : (0 : Int32).toInt = 0 := by decide
                have y_5 : (5 : Int32).toInt = 5 := by decide
                have t_x_9 : x_9.toInt = ((Tv 2) : Int32).toInt - ((Tv 1) : Int32).toInt := by rw [ex_9]; exact sub_toInt (by omega) (by omega)
                omega
              have hf_39 : TpR (Tf 1) (Tv 0) (rNU (cB (Tf 1) (Tv 0)) lo hi rr) (Tv 1) (Tv 2) sv_28 sv_29 := by
                have hE_40 : (rNU (cB (Tf 1) (Tv 0)) lo hi rr) = ro_32 := by
                  rw [ero_32]
                  exact (rNU_out h_r hr_36 hr_37 hv_35 hr_38)
                rw [hE_40]
                exact pf_31
              have hk_41 : vy_13 = (Tv 2) := Int32.toInt_inj.mp (by
                have z_1 : ¬ (r_5 : Int32).toInt = (0 : Int32).toInt := fun z => c_8 (Int32.toInt_inj.mp z)
                have z_2 := Int32.le_iff_toInt_le.mp c_10
                have z_3 := Int32.le_iff_toInt_le.mp c_21
                have z_4 := Int32.lt_iff_toInt_lt.mp c_22
                have y_0 : (0 : Int32).toInt = 0 := by decide
                have y_5 : (5 : Int32).toInt = 5 := by decide
                have t_x_9 : x_9.toInt = ((Tv 2) : Int32).toInt - ((Tv 1) : Int32).toInt := by rw [ex_9]; exact sub_toInt (by omega) (by omega)
                omega)
              have hv_42 : Nv (cB (Tf 1) (Tv 0)) (Tv 1) vy_14 (Tv 2) := hk_41 ▸ pf_19
              have hr_43 : 48 ≤ (Tv 3).toInt ∧ (Tv 3).toInt ≤ 57 := by
                have z_1 : ¬ (r_5 : Int32).toInt = (0 : Int32).toInt := fun z => c_8 (Int32.toInt_inj.mp z)
                have z_2 := Int32.le_iff_toInt_le.mp c_10
                have z_3 := Int32.le_iff_toInt_le.mp c_21
                have z_4 := Int32.lt_iff_toInt_lt.mp c_22
                have y_0 : (0 : Int32).toInt = 0 := by decide
                have y_5 : (5 : Int32).toInt = 5 := by decide
                have t_x_9 : x_9.toInt = ((Tv 2) : Int32).toInt - ((Tv 1) : Int32).toInt := by rw [ex_9]; exact sub_toInt (by omega) (by omega)
                omega
              have hr_44 : (Tv 2).toInt - (Tv 1).toInt ≤ 5 := by
                have z_1 : ¬ (r_5 : Int32).toInt = (0 : Int32).toInt := fun z => c_8 (Int32.toInt_inj.mp z)
                have z_2 := Int32.le_iff_toInt_le.mp c_10
                have z_3 := Int32.le_iff_toInt_le.mp c_21
                have z_4 := Int32.lt_iff_toInt_lt.mp c_22
                have y_0 : (0 : Int32).toInt = 0 := by decide
                have y_5 : (5 : Int32).toInt = 5 := by decide
                have t_x_9 : x_9.toInt = ((Tv 2) : Int32).toInt - ((Tv 1) : Int32).toInt := by rw [ex_9]; exact sub_toInt (by omega) (by omega)
                omega
              have hr_45 : ((vy_14 : Int32).toInt < lo ∨ hi < (vy_14 : Int32).toInt) := by
                have z_1 : ¬ (r_5 : Int32).toInt = (0 : Int32).toInt := fun z => c_8 (Int32.toInt_inj.mp z)
                have z_2 := Int32.le_iff_toInt_le.mp c_10
                have z_3 := Int32.le_iff_toInt_le.mp c_21
                have z_4 := Int32.lt_iff_toInt_lt.mp c_22
                have y_0 : (0 : Int32).toInt = 0 := by decide
                have y_5 : (5 : Int32).toInt = 5 := by decide
                have t_x_9 : x_9.toInt = ((Tv 2) : Int32).toInt - ((Tv 1) : Int32).toInt := by rw [ex_9]; exact sub_toInt (by omega) (by omega)
                omega
              exact retI (v := x1) hx hb hr hlk (rfl) hP hD hS (sv_28, sv_29) ⟨_, rfl, (NuV.out h_r hr_43 hr_44 hv_42 hr_45), pf_30, hf_39⟩ [0, 1] rfl rfl dX10_numberHere_91 (Nat.le_of_ble_eq_true rfl) (Nat.le_of_ble_eq_true rfl) rfl
            · skip
              refine lv_iload_n hx hb dX10_numberHere_80 rfl (lv_at hl 1 rfl) ?_
              refine lv_iload_n hx hb dX10_numberHere_81 rfl (lv_at hl 4 rfl) ?_
              refine lv_icmp_le (tgt := 92) hx hb dX10_numberHere_82 (by decide) (fun c_46 => ?_) (fun c_46 => ?_)
              · skip
                refine lv_iload_n hx hb dX10_numberHere_92 rfl (lv_at hl 1 rfl) ?_
                have hk_47 : vy_13 = (Tv 2) := Int32.toInt_inj.mp (by
                  have z_1 : ¬ (r_5 : Int32).toInt = (0 : Int32).toInt := fun z => c_8 (Int32.toInt_inj.mp z)
                  have z_2 := Int32.le_iff_toInt_le.mp c_10
                  have z_3 := Int32.le_iff_toInt_le.mp c_21
                  have z_4 := Int32.le_iff_toInt_le.mp (Int32.not_lt.mp c_22)
                  have z_5 := Int32.le_iff_toInt_le.mp c_46
                  have y_0 : (0 : Int32).toInt = 0 := by decide
                  have y_5 : (5 : Int32).toInt = 5 := by decide
                  have t_x_9 : x_9.toInt = ((Tv 2) : Int32).toInt - ((Tv 1) : Int32).toInt := by rw [ex_9]; exact sub_toInt (by omega) (by omega)
                  omega)
                have hv_48 : Nv (cB (Tf 1) (Tv 0)) (Tv 1) vy_14 (Tv 2) := hk_47 ▸ pf_19
                have hr_49 : 48 ≤ (Tv 3).toInt ∧ (Tv 3).toInt ≤ 57 := by
                  have z_1 : ¬ (r_5 : Int32).toInt = (0 : Int32).toInt := fun z => c_8 (Int32.toInt_inj.mp z)
                  have z_2 := Int32.le_iff_toInt_le.mp c_10
                  have z_3 := Int32.le_iff_toInt_le.mp c_21
                  have z_4 := Int32.le_iff_toInt_le.mp (Int32.not_lt.mp c_22)
                  have z_5 := Int32.le_iff_toInt_le.mp c_46
                  have y_0 : (0 : Int32).toInt = 0 := by decide
                  have y_5 : (5 : Int32).toInt = 5 := by decide
                  have t_x_9 : x_9.toInt = ((Tv 2) : Int32).toInt - ((Tv 1) : Int32).toInt := by rw [ex_9]; exact sub_toInt (by omega) (by omega)
                  omega
                have hr_50 : (Tv 2).toInt - (Tv 1).toInt ≤ 5 := by
                  have z_1 : ¬ (r_5 : Int32).toInt = (0 : Int32).toInt := fun z => c_8 (Int32.toInt_inj.mp z)
                  have z_2 := Int32.le_iff_toInt_le.mp c_10
                  have z_3 := Int32.le_iff_toInt_le.mp c_21
                  have z_4 := Int32.le_iff_toInt_le.mp (Int32.not_lt.mp c_22)
                  have z_5 := Int32.le_iff_toInt_le.mp c_46
                  have y_0 : (0 : Int32).toInt = 0 := by decide
                  have y_5 : (5 : Int32).toInt = 5 := by decide
                  have t_x_9 : x_9.toInt = ((Tv 2) : Int32).toInt - ((Tv 1) : Int32).toInt := by rw [ex_9]; exact sub_toInt (by omega) (by omega)
                  omega
                have hr_51 : ¬ ((vy_14 : Int32).toInt < lo ∨ hi < (vy_14 : Int32).toInt) := by
                  have z_1 : ¬ (r_5 : Int32).toInt = (0 : Int32).toInt := fun z => c_8 (Int32.toInt_inj.mp z)
                  have z_2 := Int32.le_iff_toInt_le.mp c_10
                  have z_3 := Int32.le_iff_toInt_le.mp c_21
                  have z_4 := Int32.le_iff_toInt_le.mp (Int32.not_lt.mp c_22)
                  have z_5 := Int32.le_iff_toInt_le.mp c_46
                  have y_0 : (0 : Int32).toInt = 0 := by decide
                  have y_5 : (5 : Int32).toInt = 5 := by decide
                  have t_x_9 : x_9.toInt = ((Tv 2) : Int32).toInt - ((Tv 1) : Int32).toInt := by rw [ex_9]; exact sub_toInt (by omega) (by omega)
                  omega
                have hf_52 : TpR (Tf 1) (Tv 0) (rNU (cB (Tf 1) (Tv 0)) lo hi rr) (Tv 1) (Tv 2) (Tv 3) (Tv 4) := by
                  have hE_53 : (rNU (cB (Tf 1) (Tv 0)) lo hi rr) = rr := by
                    exact (rNU_ok h_r hr_49 hr_50 hv_48 hr_51)
                  rw [hE_53]
                  exact h_r
                have hk_54 : vy_13 = (Tv 2) := Int32.toInt_inj.mp (by
                  have z_1 : ¬ (r_5 : Int32).toInt = (0 : Int32).toInt := fun z => c_8 (Int32.toInt_inj.mp z)
                  have z_2 := Int32.le_iff_toInt_le.mp c_10
                  have z_3 := Int32.le_iff_toInt_le.mp c_21
                  have z_4 := Int32.le_iff_toInt_le.mp (Int32.not_lt.mp c_22)
                  have z_5 := Int32.le_iff_toInt_le.mp c_46
                  have y_0 : (0 : Int32).toInt = 0 := by decide
                  have y_5 : (5 : Int32).toInt = 5 := by decide
                  have t_x_9 : x_9.toInt = ((Tv 2) : Int32).toInt - ((Tv 1) : Int32).toInt := by rw [ex_9]; exact sub_toInt (by omega) (by omega)
                  omega)
                have hv_55 : Nv (cB (Tf 1) (Tv 0)) (Tv 1) vy_14 (Tv 2) := hk_54 ▸ pf_19
                have hr_56 : 48 ≤ (Tv 3).toInt ∧ (Tv 3).toInt ≤ 57 := by
                  have z_1 : ¬ (r_5 : Int32).toInt = (0 : Int32).toInt := fun z => c_8 (Int32.toInt_inj.mp z)
                  have z_2 := Int32.le_iff_toInt_le.mp c_10
                  have z_3 := Int32.le_iff_toInt_le.mp c_21
                  have z_4 := Int32.le_iff_toInt_le.mp (Int32.not_lt.mp c_22)
                  have z_5 := Int32.le_iff_toInt_le.mp c_46
                  have y_0 : (0 : Int32).toInt = 0 := by decide
                  have y_5 : (5 : Int32).toInt = 5 := by decide
                  have t_x_9 : x_9.toInt = ((Tv 2) : Int32).toInt - ((Tv 1) : Int32).toInt := by rw [ex_9]; exact sub_toInt (by omega) (by omega)
                  omega
                have hr_57 : (Tv 2).toInt - (Tv 1).toInt ≤ 5 := by
                  have z_1 : ¬ (r_5 : Int32).toInt = (0 : Int32).toInt := fun z => c_8 (Int32.toInt_inj.mp z)
                  have z_2 := Int32.le_iff_toInt_le.mp c_10
                  have z_3 := Int32.le_iff_toInt_le.mp c_21
                  have z_4 := Int32.le_iff_toInt_le.mp (Int32.not_lt.mp c_22)
                  have z_5 := Int32.le_iff_toInt_le.mp c_46
                  have y_0 : (0 : Int32).toInt = 0 := by decide
                  have y_5 : (5 : Int32).toInt = 5 := by decide
                  have t_x_9 : x_9.toInt = ((Tv 2) : Int32).toInt - ((Tv 1) : Int32).toInt := by rw [ex_9]; exact sub_toInt (by omega) (by omega)
                  omega
                have hr_58 : ¬ ((vy_14 : Int32).toInt < lo ∨ hi < (vy_14 : Int32).toInt) := by
                  have z_1 : ¬ (r_5 : Int32).toInt = (0 : Int32).toInt := fun z => c_8 (Int32.toInt_inj.mp z)
                  have z_2 := Int32.le_iff_toInt_le.mp c_10
                  have z_3 := Int32.le_iff_toInt_le.mp c_21
                  have z_4 := Int32.le_iff_toInt_le.mp (Int32.not_lt.mp c_22)
                  have z_5 := Int32.le_iff_toInt_le.mp c_46
                  have y_0 : (0 : Int32).toInt = 0 := by decide
                  have y_5 : (5 : Int32).toInt = 5 := by decide
                  have t_x_9 : x_9.toInt = ((Tv 2) : Int32).toInt - ((Tv 1) : Int32).toInt := by rw [ex_9]; exact sub_toInt (by omega) (by omega)
                  omega
                exact retI (v := vy_14) hx hb hr hlk (rfl) hP hD hS ((Tv 3), (Tv 4)) ⟨_, rfl, (NuV.ok h_r hr_56 hr_57 hv_55 hr_58), h_tape, hf_52⟩ [0, 1] rfl rfl dX10_numberHere_93 (Nat.le_of_ble_eq_true rfl) (Nat.le_of_ble_eq_true rfl) rfl
              · skip
                refine lv_aload_n hx hb dX10_numberHere_85 rfl (lv_at hl 2 rfl) ?_
                refine lv_iconst (v := 1) hx hb dX10_numberHere_86 (by decide) ?_
                have ha_59 : 0 ≤ (1 : Int32).toInt ∧ (1 : Int32).toInt ≤ 4 := by
                  have z_1 : ¬ (r_5 : Int32).toInt = (0 : Int32).toInt := fun z => c_8 (Int32.toInt_inj.mp z)
                  have z_2 := Int32.le_iff_toInt_le.mp c_10
                  have z_3 := Int32.le_iff_toInt_le.mp c_21
                  have z_4 := Int32.le_iff_toInt_le.mp (Int32.not_lt.mp c_22)
                  have z_5 := Int32.lt_iff_toInt_lt.mp (Int32.not_le.mp c_46)
                  have y_0 : (0 : Int32).toInt = 0 := by decide
                  have y_5 : (5 : Int32).toInt = 5 := by decide
                  have y_1 : (1 : Int32).toInt = 1 := by decide
                  have t_x_9 : x_9.toInt = ((Tv 2) : Int32).toInt - ((Tv 1) : Int32).toInt := by rw [ex_9]; exact sub_toInt (by omega) (by omega)
                  omega
                have ha_60 : (1 : Int32).toInt = (1 : Int) := by
                  have z_1 : ¬ (r_5 : Int32).toInt = (0 : Int32).toInt := fun z => c_8 (Int32.toInt_inj.mp z)
                  have z_2 := Int32.le_iff_toInt_le.mp c_10
                  have z_3 := Int32.le_iff_toInt_le.mp c_21
                  have z_4 := Int32.le_iff_toInt_le.mp (Int32.not_lt.mp c_22)
                  have z_5 := Int32.lt_iff_toInt_lt.mp (Int32.not_le.mp c_46)
                  have y_0 : (0 : Int32).toInt = 0 := by decide
                  have y_5 : (5 : Int32).toInt = 5 := by decide
                  have y_1 : (1 : Int32).toInt = 1 := by decide
                  have t_x_9 : x_9.toInt = ((Tv 2) : Int32).toInt - ((Tv 1) : Int32).toInt := by rw [ex_9]; exact sub_toInt (by omega) (by omega)
                  omega
                refine cV (a := (Ta 0)) (As := [.int 1]) (rest := []) (wr := []) ⟨hx, hb, hml, hown, hts⟩ hK hX hA (cu_fX10_fail l D tc sk (Ta 0) (Ta 1) (Tv 0) (Tv 1) (Tv 2) (Tv 3) (Tv 4) (Tf 1) 1 rr 1 h_tape h_r ha_59 ha_60) k_557 k_571 k_555 k_556 k_96 pl_X10_fail ⟨Nat.le_of_ble_eq_true rfl, Nat.le_of_ble_eq_true rfl⟩ rfl rfl (va_recv hK hP (ci := 10) (q0 := 0) rfl rfl) hP hD hS [0, 1] [] rfl rfl rfl rfl rfl (by decide) rfl hl.1 rfl (Nat.le_of_ble_eq_true rfl) dX10_numberHere_87 ⟨Nat.le_of_ble_eq_true rfl, Nat.le_of_ble_eq_true rfl⟩ (fun v_61 u_62 H locs hv_63 hP₀ hD₀ hS₀ => ?_)
                obtain ⟨sv_64, sv_65⟩ := u_62
                obtain ⟨rfl, pf_66, pf_67⟩ := hv_63
                have pf_66 : 0 ≤ ((Tv 0) : Int32).toInt ∧ ((Tv 0) : Int32).toInt ≤ 400 ∧ 0 ≤ ((Tv 1) : Int32).toInt ∧ ((Tv 1) : Int32).toInt ≤ 400 ∧ 0 ≤ ((Tv 2) : Int32).toInt ∧ ((Tv 2) : Int32).toInt ≤ 400 := pf_66
                have pf_67 : TpR (Tf 1) (Tv 0) (rER (1 : Int) rr) (Tv 1) (Tv 2) sv_64 sv_65 := pf_67
                obtain ⟨ro_68, ero_68⟩ : ∃ z : Except Int (Nat × Nat), z = (rER (1 : Int) rr) := ⟨_, rfl⟩
                rw [← ero_68] at pf_67
                have tb_69 : TpB (rTE (cB (Tf 1) (Tv 0)) ro_68) (Tv 2) sv_65 := TpR.tb pf_67
                refine W.eq (g2 := F0 m 90 ls []) rfl ?_
                replace hP : va_P D classes [((Ta 0), .inr (10, [.ref (Ta 1), .int (Tv 0), .int (Tv 1), .int (Tv 2), .int sv_64, .int sv_65])), ((Ta 1), .inl (tc 0, 400, .inl (Tf 1)))] H := hP₀
                replace hD : va_D A [((Ta 0), .inr (10, [.ref (Ta 1), .int (Tv 0), .int (Tv 1), .int (Tv 2), .int sv_64, .int sv_65])), ((Ta 1), .inl (tc 0, 400, .inl (Tf 1)))] := hD₀
                replace hS := hS₀
                clear hP₀ hD₀ hS₀
                refine lv_iload_n hx hb dX10_numberHere_90 rfl (lv_at hl 3 rfl) ?_
                have hk_70 : vy_13 = (Tv 2) := Int32.toInt_inj.mp (by
                  have z_1 : ¬ (r_5 : Int32).toInt = (0 : Int32).toInt := fun z => c_8 (Int32.toInt_inj.mp z)
                  have z_2 := Int32.le_iff_toInt_le.mp c_10
                  have z_3 := Int32.le_iff_toInt_le.mp c_21
                  have z_4 := Int32.le_iff_toInt_le.mp (Int32.not_lt.mp c_22)
                  have z_5 := Int32.lt_iff_toInt_lt.mp (Int32.not_le.mp c_46)
                  have y_0 : (0 : Int32).toInt = 0 := by decide
                  have y_5 : (5 : Int32).toInt = 5 := by decide
                  have t_x_9 : x_9.toInt = ((Tv 2) : Int32).toInt - ((Tv 1) : Int32).toInt := by rw [ex_9]; exact sub_toInt (by omega) (by omega)
                  omega)
                have hv_71 : Nv (cB (Tf 1) (Tv 0)) (Tv 1) vy_14 (Tv 2) := hk_70 ▸ pf_19
                have hr_72 : 48 ≤ (Tv 3).toInt ∧ (Tv 3).toInt ≤ 57 := by
                  have z_1 : ¬ (r_5 : Int32).toInt = (0 : Int32).toInt := fun z => c_8 (Int32.toInt_inj.mp z)
                  have z_2 := Int32.le_iff_toInt_le.mp c_10
                  have z_3 := Int32.le_iff_toInt_le.mp c_21
                  have z_4 := Int32.le_iff_toInt_le.mp (Int32.not_lt.mp c_22)
                  have z_5 := Int32.lt_iff_toInt_lt.mp (Int32.not_le.mp c_46)
                  have y_0 : (0 : Int32).toInt = 0 := by decide
                  have y_5 : (5 : Int32).toInt = 5 := by decide
                  have t_x_9 : x_9.toInt = ((Tv 2) : Int32).toInt - ((Tv 1) : Int32).toInt := by rw [ex_9]; exact sub_toInt (by omega) (by omega)
                  omega
                have hr_73 : (Tv 2).toInt - (Tv 1).toInt ≤ 5 := by
                  have z_1 : ¬ (r_5 : Int32).toInt = (0 : Int32).toInt := fun z => c_8 (Int32.toInt_inj.mp z)
                  have z_2 := Int32.le_iff_toInt_le.mp c_10
                  have z_3 := Int32.le_iff_toInt_le.mp c_21
                  have z_4 := Int32.le_iff_toInt_le.mp (Int32.not_lt.mp c_22)
                  have z_5 := Int32.lt_iff_toInt_lt.mp (Int32.not_le.mp c_46)
                  have y_0 : (0 : Int32).toInt = 0 := by decide
                  have y_5 : (5 : Int32).toInt = 5 := by decide
                  have t_x_9 : x_9.toInt = ((Tv 2) : Int32).toInt - ((Tv 1) : Int32).toInt := by rw [ex_9]; exact sub_toInt (by omega) (by omega)
                  omega
                have hr_74 : ((vy_14 : Int32).toInt < lo ∨ hi < (vy_14 : Int32).toInt) := by
                  have z_1 : ¬ (r_5 : Int32).toInt = (0 : Int32).toInt := fun z => c_8 (Int32.toInt_inj.mp z)
                  have z_2 := Int32.le_iff_toInt_le.mp c_10
                  have z_3 := Int32.le_iff_toInt_le.mp c_21
                  have z_4 := Int32.le_iff_toInt_le.mp (Int32.not_lt.mp c_22)
                  have z_5 := Int32.lt_iff_toInt_lt.mp (Int32.not_le.mp c_46)
                  have y_0 : (0 : Int32).toInt = 0 := by decide
                  have y_5 : (5 : Int32).toInt = 5 := by decide
                  have t_x_9 : x_9.toInt = ((Tv 2) : Int32).toInt - ((Tv 1) : Int32).toInt := by rw [ex_9]; exact sub_toInt (by omega) (by omega)
                  omega
                have hf_75 : TpR (Tf 1) (Tv 0) (rNU (cB (Tf 1) (Tv 0)) lo hi rr) (Tv 1) (Tv 2) sv_64 sv_65 := by
                  have hE_76 : (rNU (cB (Tf 1) (Tv 0)) lo hi rr) = ro_68 := by
                    rw [ero_68]
                    exact (rNU_out h_r hr_72 hr_73 hv_71 hr_74)
                  rw [hE_76]
                  exact pf_67
                have hk_77 : vy_13 = (Tv 2) := Int32.toInt_inj.mp (by
                  have z_1 : ¬ (r_5 : Int32).toInt = (0 : Int32).toInt := fun z => c_8 (Int32.toInt_inj.mp z)
                  have z_2 := Int32.le_iff_toInt_le.mp c_10
                  have z_3 := Int32.le_iff_toInt_le.mp c_21
                  have z_4 := Int32.le_iff_toInt_le.mp (Int32.not_lt.mp c_22)
                  have z_5 := Int32.lt_iff_toInt_lt.mp (Int32.not_le.mp c_46)
                  have y_0 : (0 : Int32).toInt = 0 := by decide
                  have y_5 : (5 : Int32).toInt = 5 := by decide
                  have t_x_9 : x_9.toInt = ((Tv 2) : Int32).toInt - ((Tv 1) : Int32).toInt := by rw [ex_9]; exact sub_toInt (by omega) (by omega)
                  omega)
                have hv_78 : Nv (cB (Tf 1) (Tv 0)) (Tv 1) vy_14 (Tv 2) := hk_77 ▸ pf_19
                have hr_79 : 48 ≤ (Tv 3).toInt ∧ (Tv 3).toInt ≤ 57 := by
                  have z_1 : ¬ (r_5 : Int32).toInt = (0 : Int32).toInt := fun z => c_8 (Int32.toInt_inj.mp z)
                  have z_2 := Int32.le_iff_toInt_le.mp c_10
                  have z_3 := Int32.le_iff_toInt_le.mp c_21
                  have z_4 := Int32.le_iff_toInt_le.mp (Int32.not_lt.mp c_22)
                  have z_5 := Int32.lt_iff_toInt_lt.mp (Int32.not_le.mp c_46)
                  have y_0 : (0 : Int32).toInt = 0 := by decide
                  have y_5 : (5 : Int32).toInt = 5 := by decide
                  have t_x_9 : x_9.toInt = ((Tv 2) : Int32).toInt - ((Tv 1) : Int32).toInt := by rw [ex_9]; exact sub_toInt (by omega) (by omega)
                  omega
                have hr_80 : (Tv 2).toInt - (Tv 1).toInt ≤ 5 := by
                  have z_1 : ¬ (r_5 : Int32).toInt = (0 : Int32).toInt := fun z => c_8 (Int32.toInt_inj.mp z)
                  have z_2 := Int32.le_iff_toInt_le.mp c_10
                  have z_3 := Int32.le_iff_toInt_le.mp c_21
                  have z_4 := Int32.le_iff_toInt_le.mp (Int32.not_lt.mp c_22)
                  have z_5 := Int32.lt_iff_toInt_lt.mp (Int32.not_le.mp c_46)
                  have y_0 : (0 : Int32).toInt = 0 := by decide
                  have y_5 : (5 : Int32).toInt = 5 := by decide
                  have t_x_9 : x_9.toInt = ((Tv 2) : Int32).toInt - ((Tv 1) : Int32).toInt := by rw [ex_9]; exact sub_toInt (by omega) (by omega)
                  omega
                have hr_81 : ((vy_14 : Int32).toInt < lo ∨ hi < (vy_14 : Int32).toInt) := by
                  have z_1 : ¬ (r_5 : Int32).toInt = (0 : Int32).toInt := fun z => c_8 (Int32.toInt_inj.mp z)
                  have z_2 := Int32.le_iff_toInt_le.mp c_10
                  have z_3 := Int32.le_iff_toInt_le.mp c_21
                  have z_4 := Int32.le_iff_toInt_le.mp (Int32.not_lt.mp c_22)
                  have z_5 := Int32.lt_iff_toInt_lt.mp (Int32.not_le.mp c_46)
                  have y_0 : (0 : Int32).toInt = 0 := by decide
                  have y_5 : (5 : Int32).toInt = 5 := by decide
                  have t_x_9 : x_9.toInt = ((Tv 2) : Int32).toInt - ((Tv 1) : Int32).toInt := by rw [ex_9]; exact sub_toInt (by omega) (by omega)
                  omega
                exact retI (v := x1) hx hb hr hlk (rfl) hP hD hS (sv_64, sv_65) ⟨_, rfl, (NuV.out h_r hr_79 hr_80 hv_78 hr_81), pf_66, hf_75⟩ [0, 1] rfl rfl dX10_numberHere_91 (Nat.le_of_ble_eq_true rfl) (Nat.le_of_ble_eq_true rfl) rfl
          · skip
            refine lv_iload_n hx hb dX10_numberHere_54 rfl (lv_at hl 1 rfl) ?_
            refine lv_bipush (v := 10) hx hb dX10_numberHere_55 (by decide) ?_
            refine lv_imul hx hb dX10_numberHere_57 ?_
            refine lv_topi (fun x_82 ex_82 => ?_)
            refine lv_aload_n hx hb dX10_numberHere_58 rfl (lv_at hl 2 rfl) ?_
            refine lv_iload hx hb dX10_numberHere_59 (lv_at hl 0 rfl) ?_
            have ha_83 : 0 ≤ vy_13.toInt := by
              have z_1 : ¬ (r_5 : Int32).toInt = (0 : Int32).toInt := fun z => c_8 (Int32.toInt_inj.mp z)
              have z_2 := Int32.le_iff_toInt_le.mp c_10
              have z_3 := Int32.lt_iff_toInt_lt.mp (Int32.not_le.mp c_21)
              have y_0 : (0 : Int32).toInt = 0 := by decide
              have y_5 : (5 : Int32).toInt = 5 := by decide
              have t_x_9 : x_9.toInt = ((Tv 2) : Int32).toInt - ((Tv 1) : Int32).toInt := by rw [ex_9]; exact sub_toInt (by omega) (by omega)
              omega
            refine cV (a := (Ta 0)) (As := [.int vy_13]) (rest := [.int x_82]) (wr := []) ⟨hx, hb, hml, hown, hts⟩ hK hX hA (cu_fX10_byteAt l D tc sk (Ta 0) (Ta 1) (Tv 0) (Tv 1) (Tv 2) (Tv 3) (Tv 4) (Tf 1) vy_13 h_tape h_by ha_83) k_482 k_479 k_481 k_0 k_96 pl_X10_byteAt ⟨Nat.le_of_ble_eq_true rfl, Nat.le_of_ble_eq_true rfl⟩ rfl rfl (va_recv hK hP (ci := 10) (q0 := 0) rfl rfl) hP hD hS [0, 1] [] rfl rfl rfl rfl rfl (by decide) rfl hl.1 rfl (Nat.le_of_ble_eq_true rfl) dX10_numberHere_61 ⟨Nat.le_of_ble_eq_true rfl, Nat.le_of_ble_eq_true rfl⟩ (fun v_84 u_85 H locs hv_86 hP₀ hD₀ hS₀ => ?_)
            obtain ⟨r_87, rfl, he_88⟩ := hv_86
            have he_88 : (r_87.toInt = cB (Tf 1) (Tv 0) vy_13.toInt.toNat ∧ (((Tv 0).toInt ≤ vy_13.toInt ∧ r_87.toInt = -1) ∨ (vy_13.toInt < (Tv 0).toInt ∧ 0 ≤ r_87.toInt ∧ r_87.toInt ≤ 255))) := he_88
            refine W.eq (g2 := F0 m 64 ls [.int r_87, .int x_82]) rfl ?_
            replace hP : va_P D classes [((Ta 0), .inr (10, [.ref (Ta 1), .int (Tv 0), .int (Tv 1), .int (Tv 2), .int (Tv 3), .int (Tv 4)])), ((Ta 1), .inl (tc 0, 400, .inl (Tf 1)))] H := hP₀
            replace hD : va_D A [((Ta 0), .inr (10, [.ref (Ta 1), .int (Tv 0), .int (Tv 1), .int (Tv 2), .int (Tv 3), .int (Tv 4)])), ((Ta 1), .inl (tc 0, 400, .inl (Tf 1)))] := hD₀
            replace hS := hS₀
            clear hP₀ hD₀ hS₀
            refine lv_iadd hx hb dX10_numberHere_64 ?_
            refine lv_topi (fun x_90 ex_90 => ?_)
            refine lv_bipush (v := 48) hx hb dX10_numberHere_65 (by decide) ?_
            refine lv_isub hx hb dX10_numberHere_67 ?_
            refine lv_topi (fun x_91 ex_91 => ?_)
            refine lv_istore_n (lv' := [(3, .int x_91), (4, .int vy_13), (0, .ref (Ta 0)), (1, .int x1), (2, .int x2)]) hx hb dX10_numberHere_68 rfl hl (by decide) rfl (fun ls hl₀ => ?_)
            replace hl := hl₀
            clear hl₀
            obtain ⟨x_92, ex_92⟩ : ∃ y : Int32, y = vy_13 + 1 := ⟨_, rfl⟩
            refine lv_iinc (v := x_92) (lv' := [(4, .int x_92), (3, .int x_91), (0, .ref (Ta 0)), (1, .int x1), (2, .int x2)]) hx hb dX10_numberHere_69 hl (k := 1) rfl (by rw [ex_92]; rfl) (by decide) rfl (fun ls hl₀ => ?_)
            replace hl := hl₀
            clear hl₀
            refine lv_goto (tgt := 45) hx hb dX10_numberHere_72 (by decide) ?_
            have hb_93 : 401 - (x_92 : Int32).toInt < 401 - (vy_13 : Int32).toInt ∧ 1 ≤ 401 - (vy_13 : Int32).toInt := by
              have z_1 : ¬ (r_5 : Int32).toInt = (0 : Int32).toInt := fun z => c_8 (Int32.toInt_inj.mp z)
              have z_2 := Int32.le_iff_toInt_le.mp c_10
              have z_3 := Int32.lt_iff_toInt_lt.mp (Int32.not_le.mp c_21)
              have y_0 : (0 : Int32).toInt = 0 := by decide
              have y_5 : (5 : Int32).toInt = 5 := by decide
              have y_1 : (1 : Int32).toInt = 1 := by decide
              have t_x_9 : x_9.toInt = ((Tv 2) : Int32).toInt - ((Tv 1) : Int32).toInt := by rw [ex_9]; exact sub_toInt (by omega) (by omega)
              have t_x_92 : x_92.toInt = (vy_13 : Int32).toInt + (1 : Int32).toInt := by rw [ex_92]; exact add_toInt (by omega) (by omega)
              omega
            have ha_94 : (Tv 1).toInt ≤ (x_92 : Int32).toInt ∧ (x_92 : Int32).toInt ≤ (Tv 2).toInt := by
              have z_1 : ¬ (r_5 : Int32).toInt = (0 : Int32).toInt := fun z => c_8 (Int32.toInt_inj.mp z)
              have z_2 := Int32.le_iff_toInt_le.mp c_10
              have z_3 := Int32.lt_iff_toInt_lt.mp (Int32.not_le.mp c_21)
              have y_0 : (0 : Int32).toInt = 0 := by decide
              have y_5 : (5 : Int32).toInt = 5 := by decide
              have y_1 : (1 : Int32).toInt = 1 := by decide
              have t_x_9 : x_9.toInt = ((Tv 2) : Int32).toInt - ((Tv 1) : Int32).toInt := by rw [ex_9]; exact sub_toInt (by omega) (by omega)
              have t_x_92 : x_92.toInt = (vy_13 : Int32).toInt + (1 : Int32).toInt := by rw [ex_92]; exact add_toInt (by omega) (by omega)
              omega
            have hr_96 : 48 ≤ (Tv 3).toInt ∧ (Tv 3).toInt ≤ 57 := by
              have z_1 : ¬ (r_5 : Int32).toInt = (0 : Int32).toInt := fun z => c_8 (Int32.toInt_inj.mp z)
              have z_2 := Int32.le_iff_toInt_le.mp c_10
              have z_3 := Int32.lt_iff_toInt_lt.mp (Int32.not_le.mp c_21)
              have y_0 : (0 : Int32).toInt = 0 := by decide
              have y_5 : (5 : Int32).toInt = 5 := by decide
              have t_x_9 : x_9.toInt = ((Tv 2) : Int32).toInt - ((Tv 1) : Int32).toInt := by rw [ex_9]; exact sub_toInt (by omega) (by omega)
              omega
            have hr_97 : (Tv 1).toInt ≤ (vy_13 : Int32).toInt ∧ (vy_13 : Int32).toInt < (Tv 2).toInt := by
              have z_1 : ¬ (r_5 : Int32).toInt = (0 : Int32).toInt := fun z => c_8 (Int32.toInt_inj.mp z)
              have z_2 := Int32.le_iff_toInt_le.mp c_10
              have z_3 := Int32.lt_iff_toInt_lt.mp (Int32.not_le.mp c_21)
              have y_0 : (0 : Int32).toInt = 0 := by decide
              have y_5 : (5 : Int32).toInt = 5 := by decide
              have t_x_9 : x_9.toInt = ((Tv 2) : Int32).toInt - ((Tv 1) : Int32).toInt := by rw [ex_9]; exact sub_toInt (by omega) (by omega)
              omega
            have hd_95 := TpR.dig h_r hr_96 (i := vy_13) hr_97
            rw [← he_88.1] at hd_95
            have hr_98 : 0 ≤ (Tv 1).toInt ∧ (Tv 1).toInt ≤ (vy_13 : Int32).toInt := by
              have z_1 : ¬ (r_5 : Int32).toInt = (0 : Int32).toInt := fun z => c_8 (Int32.toInt_inj.mp z)
              have z_2 := Int32.le_iff_toInt_le.mp c_10
              have z_3 := Int32.lt_iff_toInt_lt.mp (Int32.not_le.mp c_21)
              have y_0 : (0 : Int32).toInt = 0 := by decide
              have y_5 : (5 : Int32).toInt = 5 := by decide
              have t_x_9 : x_9.toInt = ((Tv 2) : Int32).toInt - ((Tv 1) : Int32).toInt := by rw [ex_9]; exact sub_toInt (by omega) (by omega)
              omega
            have hi_99 : (x_91 : Int32).toInt = (vy_14 : Int32).toInt * 10 + (r_87 : Int32).toInt - 48 := by
              have z_1 : ¬ (r_5 : Int32).toInt = (0 : Int32).toInt := fun z => c_8 (Int32.toInt_inj.mp z)
              have z_2 := Int32.le_iff_toInt_le.mp c_10
              have z_3 := Int32.lt_iff_toInt_lt.mp (Int32.not_le.mp c_21)
              have y_0 : (0 : Int32).toInt = 0 := by decide
              have y_5 : (5 : Int32).toInt = 5 := by decide
              have y_10 : (10 : Int32).toInt = 10 := by decide
              have y_48 : (48 : Int32).toInt = 48 := by decide
              have t_x_9 : x_9.toInt = ((Tv 2) : Int32).toInt - ((Tv 1) : Int32).toInt := by rw [ex_9]; exact sub_toInt (by omega) (by omega)
              have t_x_82 : x_82.toInt = (vy_14 : Int32).toInt * (10 : Int32).toInt := by rw [ex_82]; exact mul_toInt (by first | omega | (rw [y_10]; omega)) (by first | omega | (rw [y_10]; omega))
              rw [y_10] at t_x_82
              have t_x_90 : x_90.toInt = (x_82 : Int32).toInt + (r_87 : Int32).toInt := by rw [ex_90]; exact add_toInt (by omega) (by omega)
              have t_x_91 : x_91.toInt = (x_90 : Int32).toInt - (48 : Int32).toInt := by rw [ex_91]; exact sub_toInt (by omega) (by omega)
              omega
            have hi_100 : (x_92 : Int32).toInt = (vy_13 : Int32).toInt + 1 := by
              have z_1 : ¬ (r_5 : Int32).toInt = (0 : Int32).toInt := fun z => c_8 (Int32.toInt_inj.mp z)
              have z_2 := Int32.le_iff_toInt_le.mp c_10
              have z_3 := Int32.lt_iff_toInt_lt.mp (Int32.not_le.mp c_21)
              have y_0 : (0 : Int32).toInt = 0 := by decide
              have y_5 : (5 : Int32).toInt = 5 := by decide
              have y_1 : (1 : Int32).toInt = 1 := by decide
              have t_x_9 : x_9.toInt = ((Tv 2) : Int32).toInt - ((Tv 1) : Int32).toInt := by rw [ex_9]; exact sub_toInt (by omega) (by omega)
              have t_x_92 : x_92.toInt = (vy_13 : Int32).toInt + (1 : Int32).toInt := by rw [ex_92]; exact add_toInt (by omega) (by omega)
              omega
            exact ih_16 x_92 x_91 _ _ _ (by omega) ha_94 (Nv.st pf_19 hr_98 he_88.1 hd_95 hi_99 hi_100) (hP.sub [0, 1] rfl) (hD.sub [0, 1] rfl rfl) hS (lv_sub hl [0, 1, 2, 3, 4] rfl)
      have ha_101 : (Tv 1).toInt ≤ ((Tv 1) : Int32).toInt ∧ ((Tv 1) : Int32).toInt ≤ (Tv 2).toInt := by
        have z_1 : ¬ (r_5 : Int32).toInt = (0 : Int32).toInt := fun z => c_8 (Int32.toInt_inj.mp z)
        have z_2 := Int32.le_iff_toInt_le.mp c_10
        have y_0 : (0 : Int32).toInt = 0 := by decide
        have y_5 : (5 : Int32).toInt = 5 := by decide
        have t_x_9 : x_9.toInt = ((Tv 2) : Int32).toInt - ((Tv 1) : Int32).toInt := by rw [ex_9]; exact sub_toInt (by omega) (by omega)
        omega
      exact loop_17 _ (Tv 1) 0 _ _ _ (Nat.lt_succ_self _) ha_101 (Nv.nil) hP hD hS hl
    · skip
      refine lv_aload_n hx hb dX10_numberHere_30 rfl (lv_at hl 0 rfl) ?_
      refine lv_iconst (v := 1) hx hb dX10_numberHere_31 (by decide) ?_
      have ha_102 : 0 ≤ (1 : Int32).toInt ∧ (1 : Int32).toInt ≤ 4 := by
        have z_1 : ¬ (r_5 : Int32).toInt = (0 : Int32).toInt := fun z => c_8 (Int32.toInt_inj.mp z)
        have z_2 := Int32.lt_iff_toInt_lt.mp (Int32.not_le.mp c_10)
        have y_0 : (0 : Int32).toInt = 0 := by decide
        have y_5 : (5 : Int32).toInt = 5 := by decide
        have y_1 : (1 : Int32).toInt = 1 := by decide
        have t_x_9 : x_9.toInt = ((Tv 2) : Int32).toInt - ((Tv 1) : Int32).toInt := by rw [ex_9]; exact sub_toInt (by omega) (by omega)
        omega
      have ha_103 : (1 : Int32).toInt = (1 : Int) := by
        have z_1 : ¬ (r_5 : Int32).toInt = (0 : Int32).toInt := fun z => c_8 (Int32.toInt_inj.mp z)
        have z_2 := Int32.lt_iff_toInt_lt.mp (Int32.not_le.mp c_10)
        have y_0 : (0 : Int32).toInt = 0 := by decide
        have y_5 : (5 : Int32).toInt = 5 := by decide
        have y_1 : (1 : Int32).toInt = 1 := by decide
        have t_x_9 : x_9.toInt = ((Tv 2) : Int32).toInt - ((Tv 1) : Int32).toInt := by rw [ex_9]; exact sub_toInt (by omega) (by omega)
        omega
      refine cV (a := (Ta 0)) (As := [.int 1]) (rest := []) (wr := []) ⟨hx, hb, hml, hown, hts⟩ hK hX hA (cu_fX10_fail l D tc sk (Ta 0) (Ta 1) (Tv 0) (Tv 1) (Tv 2) (Tv 3) (Tv 4) (Tf 1) 1 rr 1 h_tape h_r ha_102 ha_103) k_557 k_571 k_555 k_556 k_96 pl_X10_fail ⟨Nat.le_of_ble_eq_true rfl, Nat.le_of_ble_eq_true rfl⟩ rfl rfl (va_recv hK hP (ci := 10) (q0 := 0) rfl rfl) hP hD hS [0, 1] [] rfl rfl rfl rfl rfl (by decide) rfl hl.1 rfl (Nat.le_of_ble_eq_true rfl) dX10_numberHere_32 ⟨Nat.le_of_ble_eq_true rfl, Nat.le_of_ble_eq_true rfl⟩ (fun v_104 u_105 H locs hv_106 hP₀ hD₀ hS₀ => ?_)
      obtain ⟨sv_107, sv_108⟩ := u_105
      obtain ⟨rfl, pf_109, pf_110⟩ := hv_106
      have pf_109 : 0 ≤ ((Tv 0) : Int32).toInt ∧ ((Tv 0) : Int32).toInt ≤ 400 ∧ 0 ≤ ((Tv 1) : Int32).toInt ∧ ((Tv 1) : Int32).toInt ≤ 400 ∧ 0 ≤ ((Tv 2) : Int32).toInt ∧ ((Tv 2) : Int32).toInt ≤ 400 := pf_109
      have pf_110 : TpR (Tf 1) (Tv 0) (rER (1 : Int) rr) (Tv 1) (Tv 2) sv_107 sv_108 := pf_110
      obtain ⟨ro_111, ero_111⟩ : ∃ z : Except Int (Nat × Nat), z = (rER (1 : Int) rr) := ⟨_, rfl⟩
      rw [← ero_111] at pf_110
      have tb_112 : TpB (rTE (cB (Tf 1) (Tv 0)) ro_111) (Tv 2) sv_108 := TpR.tb pf_110
      refine W.eq (g2 := F0 m 35 ls []) rfl ?_
      replace hP : va_P D classes [((Ta 0), .inr (10, [.ref (Ta 1), .int (Tv 0), .int (Tv 1), .int (Tv 2), .int sv_107, .int sv_108])), ((Ta 1), .inl (tc 0, 400, .inl (Tf 1)))] H := hP₀
      replace hD : va_D A [((Ta 0), .inr (10, [.ref (Ta 1), .int (Tv 0), .int (Tv 1), .int (Tv 2), .int sv_107, .int sv_108])), ((Ta 1), .inl (tc 0, 400, .inl (Tf 1)))] := hD₀
      replace hS := hS₀
      clear hP₀ hD₀ hS₀
      refine lv_iload_n hx hb dX10_numberHere_35 rfl (lv_at hl 1 rfl) ?_
      have hr_113 : 48 ≤ (Tv 3).toInt ∧ (Tv 3).toInt ≤ 57 := by
        have z_1 : ¬ (r_5 : Int32).toInt = (0 : Int32).toInt := fun z => c_8 (Int32.toInt_inj.mp z)
        have z_2 := Int32.lt_iff_toInt_lt.mp (Int32.not_le.mp c_10)
        have y_0 : (0 : Int32).toInt = 0 := by decide
        have y_5 : (5 : Int32).toInt = 5 := by decide
        have t_x_9 : x_9.toInt = ((Tv 2) : Int32).toInt - ((Tv 1) : Int32).toInt := by rw [ex_9]; exact sub_toInt (by omega) (by omega)
        omega
      have hr_114 : 5 < (Tv 2).toInt - (Tv 1).toInt := by
        have z_1 : ¬ (r_5 : Int32).toInt = (0 : Int32).toInt := fun z => c_8 (Int32.toInt_inj.mp z)
        have z_2 := Int32.lt_iff_toInt_lt.mp (Int32.not_le.mp c_10)
        have y_0 : (0 : Int32).toInt = 0 := by decide
        have y_5 : (5 : Int32).toInt = 5 := by decide
        have t_x_9 : x_9.toInt = ((Tv 2) : Int32).toInt - ((Tv 1) : Int32).toInt := by rw [ex_9]; exact sub_toInt (by omega) (by omega)
        omega
      have hf_115 : TpR (Tf 1) (Tv 0) (rNU (cB (Tf 1) (Tv 0)) lo hi rr) (Tv 1) (Tv 2) sv_107 sv_108 := by
        have hE_116 : (rNU (cB (Tf 1) (Tv 0)) lo hi rr) = ro_111 := by
          rw [ero_111]
          exact (rNU_long h_r hr_113 hr_114)
        rw [hE_116]
        exact pf_110
      have hr_117 : 48 ≤ (Tv 3).toInt ∧ (Tv 3).toInt ≤ 57 := by
        have z_1 : ¬ (r_5 : Int32).toInt = (0 : Int32).toInt := fun z => c_8 (Int32.toInt_inj.mp z)
        have z_2 := Int32.lt_iff_toInt_lt.mp (Int32.not_le.mp c_10)
        have y_0 : (0 : Int32).toInt = 0 := by decide
        have y_5 : (5 : Int32).toInt = 5 := by decide
        have t_x_9 : x_9.toInt = ((Tv 2) : Int32).toInt - ((Tv 1) : Int32).toInt := by rw [ex_9]; exact sub_toInt (by omega) (by omega)
        omega
      have hr_118 : 5 < (Tv 2).toInt - (Tv 1).toInt := by
        have z_1 : ¬ (r_5 : Int32).toInt = (0 : Int32).toInt := fun z => c_8 (Int32.toInt_inj.mp z)
        have z_2 := Int32.lt_iff_toInt_lt.mp (Int32.not_le.mp c_10)
        have y_0 : (0 : Int32).toInt = 0 := by decide
        have y_5 : (5 : Int32).toInt = 5 := by decide
        have t_x_9 : x_9.toInt = ((Tv 2) : Int32).toInt - ((Tv 1) : Int32).toInt := by rw [ex_9]; exact sub_toInt (by omega) (by omega)
        omega
      exact retI (v := x1) hx hb hr hlk (rfl) hP hD hS (sv_107, sv_108) ⟨_, rfl, (NuV.long h_r hr_117 hr_118), pf_109, hf_115⟩ [0, 1] rfl rfl dX10_numberHere_36 (Nat.le_of_ble_eq_true rfl) (Nat.le_of_ble_eq_true rfl) rfl
  · skip
    refine lv_aload_n hx hb dX10_numberHere_10 rfl (lv_at hl 0 rfl) ?_
    refine lv_iconst (v := 0) hx hb dX10_numberHere_11 (by decide) ?_
    have ha_119 : 0 ≤ (0 : Int32).toInt ∧ (0 : Int32).toInt ≤ 4 := by
      have z_1 := congrArg Int32.toInt c_8
      have y_0 : (0 : Int32).toInt = 0 := by decide
      omega
    have ha_120 : (0 : Int32).toInt = (0 : Int) := by
      have z_1 := congrArg Int32.toInt c_8
      have y_0 : (0 : Int32).toInt = 0 := by decide
      omega
    refine cV (a := (Ta 0)) (As := [.int 0]) (rest := []) (wr := []) ⟨hx, hb, hml, hown, hts⟩ hK hX hA (cu_fX10_fail l D tc sk (Ta 0) (Ta 1) (Tv 0) (Tv 1) (Tv 2) (Tv 3) (Tv 4) (Tf 1) 0 rr 0 h_tape h_r ha_119 ha_120) k_557 k_571 k_555 k_556 k_96 pl_X10_fail ⟨Nat.le_of_ble_eq_true rfl, Nat.le_of_ble_eq_true rfl⟩ rfl rfl (va_recv hK hP (ci := 10) (q0 := 0) rfl rfl) hP hD hS [0, 1] [] rfl rfl rfl rfl rfl (by decide) rfl hl.1 rfl (Nat.le_of_ble_eq_true rfl) dX10_numberHere_12 ⟨Nat.le_of_ble_eq_true rfl, Nat.le_of_ble_eq_true rfl⟩ (fun v_121 u_122 H locs hv_123 hP₀ hD₀ hS₀ => ?_)
    obtain ⟨sv_124, sv_125⟩ := u_122
    obtain ⟨rfl, pf_126, pf_127⟩ := hv_123
    have pf_126 : 0 ≤ ((Tv 0) : Int32).toInt ∧ ((Tv 0) : Int32).toInt ≤ 400 ∧ 0 ≤ ((Tv 1) : Int32).toInt ∧ ((Tv 1) : Int32).toInt ≤ 400 ∧ 0 ≤ ((Tv 2) : Int32).toInt ∧ ((Tv 2) : Int32).toInt ≤ 400 := pf_126
    have pf_127 : TpR (Tf 1) (Tv 0) (rER (0 : Int) rr) (Tv 1) (Tv 2) sv_124 sv_125 := pf_127
    obtain ⟨ro_128, ero_128⟩ : ∃ z : Except Int (Nat × Nat), z = (rER (0 : Int) rr) := ⟨_, rfl⟩
    rw [← ero_128] at pf_127
    have tb_129 : TpB (rTE (cB (Tf 1) (Tv 0)) ro_128) (Tv 2) sv_125 := TpR.tb pf_127
    refine W.eq (g2 := F0 m 15 ls []) rfl ?_
    replace hP : va_P D classes [((Ta 0), .inr (10, [.ref (Ta 1), .int (Tv 0), .int (Tv 1), .int (Tv 2), .int sv_124, .int sv_125])), ((Ta 1), .inl (tc 0, 400, .inl (Tf 1)))] H := hP₀
    replace hD : va_D A [((Ta 0), .inr (10, [.ref (Ta 1), .int (Tv 0), .int (Tv 1), .int (Tv 2), .int sv_124, .int sv_125])), ((Ta 1), .inl (tc 0, 400, .inl (Tf 1)))] := hD₀
    replace hS := hS₀
    clear hP₀ hD₀ hS₀
    refine lv_iload_n hx hb dX10_numberHere_15 rfl (lv_at hl 1 rfl) ?_
    have hr_130 : ¬ (48 ≤ (Tv 3).toInt ∧ (Tv 3).toInt ≤ 57) := by
      have z_1 := congrArg Int32.toInt c_8
      have y_0 : (0 : Int32).toInt = 0 := by decide
      omega
    have hf_131 : TpR (Tf 1) (Tv 0) (rNU (cB (Tf 1) (Tv 0)) lo hi rr) (Tv 1) (Tv 2) sv_124 sv_125 := by
      have hE_132 : (rNU (cB (Tf 1) (Tv 0)) lo hi rr) = ro_128 := by
        rw [ero_128]
        exact (rNU_nd h_r hr_130)
      rw [hE_132]
      exact pf_127
    have hr_133 : ¬ (48 ≤ (Tv 3).toInt ∧ (Tv 3).toInt ≤ 57) := by
      have z_1 := congrArg Int32.toInt c_8
      have y_0 : (0 : Int32).toInt = 0 := by decide
      omega
    exact retI (v := x1) hx hb hr hlk (rfl) hP hD hS (sv_124, sv_125) ⟨_, rfl, (NuV.nd h_r hr_133), pf_126, hf_131⟩ [0, 1] rfl rfl dX10_numberHere_16 (Nat.le_of_ble_eq_true rfl) (Nat.le_of_ble_eq_true rfl) rfl
set_option maxRecDepth 100000 in
theorem cu_fX10_numberHere (l : Launch) (D : va_G) (tc : Nat → ClassId) (sk : (Nat → Nat) × (Nat → Nat)) (Ta_0 : Nat) (Ta_1 : Nat) (Tv_0 : Int32) (Tv_1 : Int32) (Tv_2 : Int32) (Tv_3 : Int32) (Tv_4 : Int32) (Tf_1 : Nat → Int32) (x1 : Int32) (x2 : Int32) (rr : Except Int (Nat × Nat)) (lo : Int) (hi : Int) (h_tape : 0 ≤ (Tv_0 : Int32).toInt ∧ (Tv_0 : Int32).toInt ≤ 400 ∧ 0 ≤ (Tv_1 : Int32).toInt ∧ (Tv_1 : Int32).toInt ≤ 400 ∧ 0 ≤ (Tv_2 : Int32).toInt ∧ (Tv_2 : Int32).toInt ≤ 400) (h_by : Byt Tf_1) (h_r : TpR Tf_1 Tv_0 rr Tv_1 Tv_2 Tv_3 Tv_4) (h_lo : x1.toInt = lo) (h_hi : x2.toInt = hi) : Ct l yX10_numberHere cX10_numberHere 5 (some .int) { frames := 1, cells := 0, slots := 0, locals := 21 } D tc sk [.ref Ta_0, .int x1, .int x2] [(Ta_0, .inr (10, [.ref Ta_1, .int Tv_0, .int Tv_1, .int Tv_2, .int Tv_3, .int Tv_4])), (Ta_1, .inl (tc 0, 400, .inl Tf_1))] (fun (v : Option Value) (u : (Int32) × (Int32)) => match u with | (oo0x1, oo0x2) => ∃ r : Int32, v = some (.int r) ∧ (NuV (cB Tf_1 Tv_0) lo hi rr r) ∧ (0 ≤ (Tv_0 : Int32).toInt ∧ (Tv_0 : Int32).toInt ≤ 400 ∧ 0 ≤ (Tv_1 : Int32).toInt ∧ (Tv_1 : Int32).toInt ≤ 400 ∧ 0 ≤ (Tv_2 : Int32).toInt ∧ (Tv_2 : Int32).toInt ≤ 400) ∧ (TpR Tf_1 Tv_0 (rNU (cB Tf_1 Tv_0) lo hi rr) Tv_1 Tv_2 oo0x1 oo0x2)) (fun (u : (Int32) × (Int32)) => match u with | (oo0x1, oo0x2) => [(Ta_0, .inr (10, [.ref Ta_1, .int Tv_0, .int Tv_1, .int Tv_2, .int oo0x1, .int oo0x2])), (Ta_1, .inl (tc 0, 400, .inl Tf_1))]) 0 0 :=
  ct_fX10_numberHere l D tc sk (fun k => ([Ta_0, Ta_1] : List (Nat)).getD k 0) (fun k => ([Tv_0, Tv_1, Tv_2, Tv_3, Tv_4] : List (Int32)).getD k 0) (fun k => ([(fun _ => 0), Tf_1] : List (Nat → Int32)).getD k (fun _ => 0)) x1 x2 rr lo hi h_tape h_by h_r h_lo h_hi
set_option maxHeartbeats 4000000 in
set_option maxRecDepth 100000 in
theorem ct_fX10_takeNumber (l : Launch) (D : va_G) (tc : Nat → ClassId) (sk : (Nat → Nat) × (Nat → Nat)) (Ta : Nat → Nat) (Tv : Nat → Int32) (Tf : Nat → Nat → Int32) (x1 : Int32) (x2 : Int32) (rr : Except Int (Nat × Nat)) (lo : Int) (hi : Int) (h_tape : 0 ≤ ((Tv 0) : Int32).toInt ∧ ((Tv 0) : Int32).toInt ≤ 400 ∧ 0 ≤ ((Tv 1) : Int32).toInt ∧ ((Tv 1) : Int32).toInt ≤ 400 ∧ 0 ≤ ((Tv 2) : Int32).toInt ∧ ((Tv 2) : Int32).toInt ≤ 400) (h_by : Byt (Tf 1)) (h_r : TpR (Tf 1) (Tv 0) rr (Tv 1) (Tv 2) (Tv 3) (Tv 4)) (h_lo : x1.toInt = lo) (h_hi : x2.toInt = hi) : Ct l yX10_takeNumber cX10_takeNumber 4 (some .int) { frames := 2, cells := 0, slots := 0, locals := 45 } D tc sk [.ref (Ta 0), .int x1, .int x2] [((Ta 0), .inr (10, [.ref (Ta 1), .int (Tv 0), .int (Tv 1), .int (Tv 2), .int (Tv 3), .int (Tv 4)])), ((Ta 1), .inl (tc 0, 400, .inl (Tf 1)))] (fun (v : Option Value) (u : (Int32) × (Int32) × (Int32) × (Int32)) => match u with | (oo0x1, oo0x2, oo0x3, oo0x4) => ∃ r : Int32, v = some (.int r) ∧ (NuV (cB (Tf 1) (Tv 0)) lo hi rr r) ∧ (0 ≤ ((Tv 0) : Int32).toInt ∧ ((Tv 0) : Int32).toInt ≤ 400 ∧ 0 ≤ (oo0x1 : Int32).toInt ∧ (oo0x1 : Int32).toInt ≤ 400 ∧ 0 ≤ (oo0x2 : Int32).toInt ∧ (oo0x2 : Int32).toInt ≤ 400) ∧ (TpR (Tf 1) (Tv 0) (rNX (cB (Tf 1) (Tv 0)) (rNU (cB (Tf 1) (Tv 0)) lo hi rr)) oo0x1 oo0x2 oo0x3 oo0x4)) (fun (u : (Int32) × (Int32) × (Int32) × (Int32)) => match u with | (oo0x1, oo0x2, oo0x3, oo0x4) => [((Ta 0), .inr (10, [.ref (Ta 1), .int (Tv 0), .int oo0x1, .int oo0x2, .int oo0x3, .int oo0x4])), ((Ta 1), .inl (tc 0, 400, .inl (Tf 1)))]) 0 0 := by
  refine Ct.start (by decide) (Nat.le_of_ble_eq_true rfl) (fun p e s m below meth c A ls hx hb hr hlk hin hml hown hts hK hX hP hD hA hl hS => ?_)
  have hl : lv_has ls 4 [(0, .ref (Ta 0)), (1, .int x1), (2, .int x2)] := hl
  have tb_1 : TpB (rTE (cB (Tf 1) (Tv 0)) rr) (Tv 2) (Tv 4) := TpR.tb h_r
  refine lv_aload_n hx hb dX10_takeNumber_0 rfl (lv_at hl 0 rfl) ?_
  refine lv_iload_n hx hb dX10_takeNumber_1 rfl (lv_at hl 1 rfl) ?_
  refine lv_iload_n hx hb dX10_takeNumber_2 rfl (lv_at hl 2 rfl) ?_
  refine cV (a := (Ta 0)) (As := [.int x1, .int x2]) (rest := []) (wr := []) ⟨hx, hb, hml, hown, hts⟩ hK hX hA (cu_fX10_numberHere l D tc sk (Ta 0) (Ta 1) (Tv 0) (Tv 1) (Tv 2) (Tv 3) (Tv 4) (Tf 1) x1 x2 rr lo hi h_tape h_by h_r h_lo h_hi) k_570 k_567 k_568 k_569 k_96 pl_X10_numberHere ⟨Nat.le_of_ble_eq_true rfl, Nat.le_of_ble_eq_true rfl⟩ rfl rfl (va_recv hK hP (ci := 10) (q0 := 0) rfl rfl) hP hD hS [0, 1] [] rfl rfl rfl rfl rfl (by decide) rfl hl.1 rfl (Nat.le_of_ble_eq_true rfl) dX10_takeNumber_3 ⟨Nat.le_of_ble_eq_true rfl, Nat.le_of_ble_eq_true rfl⟩ (fun v_2 u_3 H locs hv_4 hP₀ hD₀ hS₀ => ?_)
  obtain ⟨sv_5, sv_6⟩ := u_3
  obtain ⟨r_9, rfl, he_10, pf_7, pf_8⟩ := hv_4
  have he_10 : NuV (cB (Tf 1) (Tv 0)) lo hi rr r_9 := he_10
  have pf_7 : 0 ≤ ((Tv 0) : Int32).toInt ∧ ((Tv 0) : Int32).toInt ≤ 400 ∧ 0 ≤ ((Tv 1) : Int32).toInt ∧ ((Tv 1) : Int32).toInt ≤ 400 ∧ 0 ≤ ((Tv 2) : Int32).toInt ∧ ((Tv 2) : Int32).toInt ≤ 400 := pf_7
  have pf_8 : TpR (Tf 1) (Tv 0) (rNU (cB (Tf 1) (Tv 0)) lo hi rr) (Tv 1) (Tv 2) sv_5 sv_6 := pf_8
  obtain ⟨ro_12, ero_12⟩ : ∃ z : Except Int (Nat × Nat), z = (rNU (cB (Tf 1) (Tv 0)) lo hi rr) := ⟨_, rfl⟩
  rw [← ero_12] at pf_8
  have tb_13 : TpB (rTE (cB (Tf 1) (Tv 0)) ro_12) (Tv 2) sv_6 := TpR.tb pf_8
  refine W.eq (g2 := F0 m 6 ls [.int r_9]) rfl ?_
  replace hP : va_P D classes [((Ta 0), .inr (10, [.ref (Ta 1), .int (Tv 0), .int (Tv 1), .int (Tv 2), .int sv_5, .int sv_6])), ((Ta 1), .inl (tc 0, 400, .inl (Tf 1)))] H := hP₀
  replace hD : va_D A [((Ta 0), .inr (10, [.ref (Ta 1), .int (Tv 0), .int (Tv 1), .int (Tv 2), .int sv_5, .int sv_6])), ((Ta 1), .inl (tc 0, 400, .inl (Tf 1)))] := hD₀
  replace hS := hS₀
  clear hP₀ hD₀ hS₀
  refine lv_istore_n (lv' := [(3, .int r_9), (0, .ref (Ta 0)), (1, .int x1), (2, .int x2)]) hx hb dX10_takeNumber_6 rfl hl (by decide) rfl (fun ls hl₀ => ?_)
  replace hl := hl₀
  clear hl₀
  refine lv_aload_n hx hb dX10_takeNumber_7 rfl (lv_at hl 1 rfl) ?_
  refine cV (a := (Ta 0)) (As := []) (rest := []) (wr := []) ⟨hx, hb, hml, hown, hts⟩ hK hX hA (cu_fX10_step l D tc sk (Ta 0) (Ta 1) (Tv 0) (Tv 1) (Tv 2) sv_5 sv_6 (Tf 1) (rTE (cB (Tf 1) (Tv 0)) ro_12) pf_7 h_by tb_13) k_478 k_475 k_476 k_477 k_96 pl_X10_step ⟨Nat.le_of_ble_eq_true rfl, Nat.le_of_ble_eq_true rfl⟩ rfl rfl (va_recv hK hP (ci := 10) (q0 := 0) rfl rfl) hP hD hS [0, 1] [] rfl rfl rfl rfl rfl (by decide) rfl hl.1 rfl (Nat.le_of_ble_eq_true rfl) dX10_takeNumber_8 ⟨Nat.le_of_ble_eq_true rfl, Nat.le_of_ble_eq_true rfl⟩ (fun v_14 u_15 H locs hv_16 hP₀ hD₀ hS₀ => ?_)
  obtain ⟨sv_17, sv_18, sv_19⟩ := u_15
  obtain ⟨rfl, pf_20, pf_21⟩ := hv_16
  have pf_20 : 0 ≤ ((Tv 0) : Int32).toInt ∧ ((Tv 0) : Int32).toInt ≤ 400 ∧ 0 ≤ (sv_17 : Int32).toInt ∧ (sv_17 : Int32).toInt ≤ 400 ∧ 0 ≤ (sv_18 : Int32).toInt ∧ (sv_18 : Int32).toInt ≤ 400 := pf_20
  have pf_21 : TpR (Tf 1) (Tv 0) (rSK (cB (Tf 1) (Tv 0)) (rTE (cB (Tf 1) (Tv 0)) ro_12)) sv_17 sv_18 sv_19 sv_6 := pf_21
  rw [rNX_eq] at pf_21
  obtain ⟨ro_22, ero_22⟩ : ∃ z : Except Int (Nat × Nat), z = (rNX (cB (Tf 1) (Tv 0)) ro_12) := ⟨_, rfl⟩
  rw [← ero_22] at pf_21
  have tb_23 : TpB (rTE (cB (Tf 1) (Tv 0)) ro_22) sv_18 sv_6 := TpR.tb pf_21
  refine W.eq (g2 := F0 m 11 ls []) rfl ?_
  replace hP : va_P D classes [((Ta 0), .inr (10, [.ref (Ta 1), .int (Tv 0), .int sv_17, .int sv_18, .int sv_19, .int sv_6])), ((Ta 1), .inl (tc 0, 400, .inl (Tf 1)))] H := hP₀
  replace hD : va_D A [((Ta 0), .inr (10, [.ref (Ta 1), .int (Tv 0), .int sv_17, .int sv_18, .int sv_19, .int sv_6])), ((Ta 1), .inl (tc 0, 400, .inl (Tf 1)))] := hD₀
  replace hS := hS₀
  clear hP₀ hD₀ hS₀
  refine lv_iload_n hx hb dX10_takeNumber_11 rfl (lv_at hl 0 rfl) ?_
  have hf_24 : TpR (Tf 1) (Tv 0) (rNX (cB (Tf 1) (Tv 0)) (rNU (cB (Tf 1) (Tv 0)) lo hi rr)) sv_17 sv_18 sv_19 sv_6 := by
    have hE_25 : (rNX (cB (Tf 1) (Tv 0)) (rNU (cB (Tf 1) (Tv 0)) lo hi rr)) = ro_22 := by
      rw [ero_22, ero_12]
    rw [hE_25]
    exact pf_21
  exact retI (v := r_9) hx hb hr hlk (rfl) hP hD hS (sv_17, sv_18, sv_19, sv_6) ⟨_, rfl, he_10, pf_20, hf_24⟩ [0, 1] rfl rfl dX10_takeNumber_12 (Nat.le_of_ble_eq_true rfl) (Nat.le_of_ble_eq_true rfl) rfl
set_option maxRecDepth 100000 in
theorem cu_fX10_takeNumber (l : Launch) (D : va_G) (tc : Nat → ClassId) (sk : (Nat → Nat) × (Nat → Nat)) (Ta_0 : Nat) (Ta_1 : Nat) (Tv_0 : Int32) (Tv_1 : Int32) (Tv_2 : Int32) (Tv_3 : Int32) (Tv_4 : Int32) (Tf_1 : Nat → Int32) (x1 : Int32) (x2 : Int32) (rr : Except Int (Nat × Nat)) (lo : Int) (hi : Int) (h_tape : 0 ≤ (Tv_0 : Int32).toInt ∧ (Tv_0 : Int32).toInt ≤ 400 ∧ 0 ≤ (Tv_1 : Int32).toInt ∧ (Tv_1 : Int32).toInt ≤ 400 ∧ 0 ≤ (Tv_2 : Int32).toInt ∧ (Tv_2 : Int32).toInt ≤ 400) (h_by : Byt Tf_1) (h_r : TpR Tf_1 Tv_0 rr Tv_1 Tv_2 Tv_3 Tv_4) (h_lo : x1.toInt = lo) (h_hi : x2.toInt = hi) : Ct l yX10_takeNumber cX10_takeNumber 4 (some .int) { frames := 2, cells := 0, slots := 0, locals := 45 } D tc sk [.ref Ta_0, .int x1, .int x2] [(Ta_0, .inr (10, [.ref Ta_1, .int Tv_0, .int Tv_1, .int Tv_2, .int Tv_3, .int Tv_4])), (Ta_1, .inl (tc 0, 400, .inl Tf_1))] (fun (v : Option Value) (u : (Int32) × (Int32) × (Int32) × (Int32)) => match u with | (oo0x1, oo0x2, oo0x3, oo0x4) => ∃ r : Int32, v = some (.int r) ∧ (NuV (cB Tf_1 Tv_0) lo hi rr r) ∧ (0 ≤ (Tv_0 : Int32).toInt ∧ (Tv_0 : Int32).toInt ≤ 400 ∧ 0 ≤ (oo0x1 : Int32).toInt ∧ (oo0x1 : Int32).toInt ≤ 400 ∧ 0 ≤ (oo0x2 : Int32).toInt ∧ (oo0x2 : Int32).toInt ≤ 400) ∧ (TpR Tf_1 Tv_0 (rNX (cB Tf_1 Tv_0) (rNU (cB Tf_1 Tv_0) lo hi rr)) oo0x1 oo0x2 oo0x3 oo0x4)) (fun (u : (Int32) × (Int32) × (Int32) × (Int32)) => match u with | (oo0x1, oo0x2, oo0x3, oo0x4) => [(Ta_0, .inr (10, [.ref Ta_1, .int Tv_0, .int oo0x1, .int oo0x2, .int oo0x3, .int oo0x4])), (Ta_1, .inl (tc 0, 400, .inl Tf_1))]) 0 0 :=
  ct_fX10_takeNumber l D tc sk (fun k => ([Ta_0, Ta_1] : List (Nat)).getD k 0) (fun k => ([Tv_0, Tv_1, Tv_2, Tv_3, Tv_4] : List (Int32)).getD k 0) (fun k => ([(fun _ => 0), Tf_1] : List (Nat → Int32)).getD k (fun _ => 0)) x1 x2 rr lo hi h_tape h_by h_r h_lo h_hi
set_option maxHeartbeats 4000000 in
set_option maxRecDepth 100000 in
theorem ct_fX7_countOne (l : Launch) (D : va_G) (tc : Nat → ClassId) (sk : (Nat → Nat) × (Nat → Nat)) (Va : Nat → Nat) (Vv : Nat → Int32) (Vf : Nat → Nat → Int32) (Ta : Nat → Nat) (Tv : Nat → Int32) (Tf : Nat → Nat → Int32) (rr : Except Int (Nat × Nat)) (h_tape : 0 ≤ ((Tv 0) : Int32).toInt ∧ ((Tv 0) : Int32).toInt ≤ 400 ∧ 0 ≤ ((Tv 1) : Int32).toInt ∧ ((Tv 1) : Int32).toInt ≤ 400 ∧ 0 ≤ ((Tv 2) : Int32).toInt ∧ ((Tv 2) : Int32).toInt ≤ 400) (h_u : 0 ≤ ((Vv 0) : Int32).toInt ∧ ((Vv 0) : Int32).toInt ≤ 400) (h_by : Byt (Tf 1)) (h_r : TpR (Tf 1) (Tv 0) rr (Tv 1) (Tv 2) (Tv 3) (Tv 4)) (h_ct : Ctd rr (Vv 1)) : Ct l yX7_countOne cX7_countOne 2 none { frames := 1, cells := 0, slots := 0, locals := 21 } D tc sk [.ref (Va 0), .ref (Ta 0)] [((Va 0), .inr (7, [.ref (Va 1), .int (Vv 0), .int (Vv 1)])), ((Va 1), .inl (tc 0, 400, .inl (Vf 1))), ((Ta 0), .inr (10, [.ref (Ta 1), .int (Tv 0), .int (Tv 1), .int (Tv 2), .int (Tv 3), .int (Tv 4)])), ((Ta 1), .inl (tc 0, 400, .inl (Tf 1)))] (fun (v : Option Value) (u : (Int32) × (Int32) × (Int32)) => match u with | (oo0x1, oo0x2, oo0x3) => v = none ∧ (0 ≤ ((Tv 0) : Int32).toInt ∧ ((Tv 0) : Int32).toInt ≤ 400 ∧ 0 ≤ ((Tv 1) : Int32).toInt ∧ ((Tv 1) : Int32).toInt ≤ 400 ∧ 0 ≤ ((Tv 2) : Int32).toInt ∧ ((Tv 2) : Int32).toInt ≤ 400) ∧ (0 ≤ ((Vv 0) : Int32).toInt ∧ ((Vv 0) : Int32).toInt ≤ 400) ∧ (TpR (Tf 1) (Tv 0) (rC1 rr) (Tv 1) (Tv 2) oo0x2 oo0x3) ∧ (Ctd (rC1 rr) oo0x1)) (fun (u : (Int32) × (Int32) × (Int32)) => match u with | (oo0x1, oo0x2, oo0x3) => [((Va 0), .inr (7, [.ref (Va 1), .int (Vv 0), .int oo0x1])), ((Va 1), .inl (tc 0, 400, .inl (Vf 1))), ((Ta 0), .inr (10, [.ref (Ta 1), .int (Tv 0), .int (Tv 1), .int (Tv 2), .int oo0x2, .int oo0x3])), ((Ta 1), .inl (tc 0, 400, .inl (Tf 1)))]) 0 0 := by
  refine Ct.start (by decide) (Nat.le_of_ble_eq_true rfl) (fun p e s m below meth c A ls hx hb hr hlk hin hml hown hts hK hX hP hD hA hl hS => ?_)
  have hl : lv_has ls 2 [(0, .ref (Va 0)), (1, .ref (Ta 0))] := hl
  have tb_1 : TpB (rTE (cB (Tf 1) (Tv 0)) rr) (Tv 2) (Tv 4) := TpR.tb h_r
  refine lv_aload_n hx hb dX7_countOne_0 rfl (lv_at hl 0 rfl) ?_
  refine gf_X7_19 hx hb hts hown hK hP 0 rfl rfl dX7_countOne_1 ?_
  refine lv_bipush (v := 60) hx hb dX7_countOne_4 (by decide) ?_
  refine lv_icmp_lt (tgt := 14) hx hb dX7_countOne_6 (by decide) (fun c_2 => ?_) (fun c_2 => ?_)
  · skip
    refine lv_aload_n hx hb dX7_countOne_14 rfl (lv_at hl 0 rfl) ?_
    refine lv_dup hx hb dX7_countOne_15 rfl ?_
    refine gf_X7_19 hx hb hts hown hK hP 0 rfl rfl dX7_countOne_16 ?_
    refine lv_iconst (v := 1) hx hb dX7_countOne_19 (by decide) ?_
    refine lv_iadd hx hb dX7_countOne_20 ?_
    refine lv_topi (fun x_3 ex_3 => ?_)
    refine pf_X7_19 hx hb hts hown hK hP hD hS 0 rfl (Nat.le_of_ble_eq_true rfl) rfl rfl dX7_countOne_21 (fun H locs hP₀ hD₀ hS₀ => ?_)
    replace hP : va_P D classes [((Va 0), .inr (7, [.ref (Va 1), .int (Vv 0), .int x_3])), ((Va 1), .inl (tc 0, 400, .inl (Vf 1))), ((Ta 0), .inr (10, [.ref (Ta 1), .int (Tv 0), .int (Tv 1), .int (Tv 2), .int (Tv 3), .int (Tv 4)])), ((Ta 1), .inl (tc 0, 400, .inl (Tf 1)))] H := hP₀
    replace hD : va_D A [((Va 0), .inr (7, [.ref (Va 1), .int (Vv 0), .int x_3])), ((Va 1), .inl (tc 0, 400, .inl (Vf 1))), ((Ta 0), .inr (10, [.ref (Ta 1), .int (Tv 0), .int (Tv 1), .int (Tv 2), .int (Tv 3), .int (Tv 4)])), ((Ta 1), .inl (tc 0, 400, .inl (Tf 1)))] := hD₀
    replace hS := hS₀
    clear hP₀ hD₀ hS₀
    have hr_4 : (Vv 1).toInt < 60 := by
      have z_1 := Int32.lt_iff_toInt_lt.mp c_2
      have y_60 : (60 : Int32).toInt = 60 := by decide
      omega
    have hc_5 : (Vv 1).toInt < 60 → (x_3 : Int32).toInt = (Vv 1).toInt + 1 := by
      intro z
      have y_1 : (1 : Int32).toInt = 1 := by decide
      have yl := (Vv 1).le_toInt
      rw [ex_3, add_toInt (by omega) (by omega)]
      omega
    exact retV hx hb hr hlk hP hD hS (x_3, (Tv 3), (Tv 4)) ⟨rfl, h_tape, h_u, (TpR.c1 h_r h_ct hr_4), (Ctd.c1 h_ct hc_5)⟩ [0, 1, 2, 3] rfl rfl dX7_countOne_24 (Nat.le_of_ble_eq_true rfl) (Nat.le_of_ble_eq_true rfl) rfl
  · skip
    refine lv_aload_n hx hb dX7_countOne_9 rfl (lv_at hl 1 rfl) ?_
    refine lv_iconst (v := 3) hx hb dX7_countOne_10 (by decide) ?_
    have ha_6 : 0 ≤ (3 : Int32).toInt ∧ (3 : Int32).toInt ≤ 4 := by
      have z_1 := Int32.le_iff_toInt_le.mp (Int32.not_lt.mp c_2)
      have y_60 : (60 : Int32).toInt = 60 := by decide
      have y_3 : (3 : Int32).toInt = 3 := by decide
      omega
    have ha_7 : (3 : Int32).toInt = (3 : Int) := by
      have z_1 := Int32.le_iff_toInt_le.mp (Int32.not_lt.mp c_2)
      have y_60 : (60 : Int32).toInt = 60 := by decide
      have y_3 : (3 : Int32).toInt = 3 := by decide
      omega
    refine cV (a := (Ta 0)) (As := [.int 3]) (rest := []) (wr := [((Va 0), .inr (7, [.ref (Va 1), .int (Vv 0), .int (Vv 1)])), ((Va 1), .inl (tc 0, 400, .inl (Vf 1)))]) ⟨hx, hb, hml, hown, hts⟩ hK hX hA (cu_fX10_fail l D tc sk (Ta 0) (Ta 1) (Tv 0) (Tv 1) (Tv 2) (Tv 3) (Tv 4) (Tf 1) 3 rr 3 h_tape h_r ha_6 ha_7) k_557 k_619 k_555 k_556 k_96 pl_X10_fail ⟨Nat.le_of_ble_eq_true rfl, Nat.le_of_ble_eq_true rfl⟩ rfl rfl (va_recv hK hP (ci := 10) (q0 := 2) rfl rfl) hP hD hS [2, 3] [0, 1] rfl rfl rfl rfl rfl (by decide) rfl hl.1 rfl (Nat.le_of_ble_eq_true rfl) dX7_countOne_11 ⟨Nat.le_of_ble_eq_true rfl, Nat.le_of_ble_eq_true rfl⟩ (fun v_8 u_9 H locs hv_10 hP₀ hD₀ hS₀ => ?_)
    obtain ⟨sv_11, sv_12⟩ := u_9
    obtain ⟨rfl, pf_13, pf_14⟩ := hv_10
    have pf_13 : 0 ≤ ((Tv 0) : Int32).toInt ∧ ((Tv 0) : Int32).toInt ≤ 400 ∧ 0 ≤ ((Tv 1) : Int32).toInt ∧ ((Tv 1) : Int32).toInt ≤ 400 ∧ 0 ≤ ((Tv 2) : Int32).toInt ∧ ((Tv 2) : Int32).toInt ≤ 400 := pf_13
    have pf_14 : TpR (Tf 1) (Tv 0) (rER (3 : Int) rr) (Tv 1) (Tv 2) sv_11 sv_12 := pf_14
    obtain ⟨ro_15, ero_15⟩ : ∃ z : Except Int (Nat × Nat), z = (rER 3 rr) := ⟨_, rfl⟩
    rw [← ero_15] at pf_14
    have tb_16 : TpB (rTE (cB (Tf 1) (Tv 0)) ro_15) (Tv 2) sv_12 := TpR.tb pf_14
    have cd_17 : Ctd ro_15 (Vv 1) := by rw [ero_15]; exact (Ctd.er)
    refine W.eq (g2 := F0 m 14 ls []) rfl ?_
    replace hP : va_P D classes [((Va 0), .inr (7, [.ref (Va 1), .int (Vv 0), .int (Vv 1)])), ((Va 1), .inl (tc 0, 400, .inl (Vf 1))), ((Ta 0), .inr (10, [.ref (Ta 1), .int (Tv 0), .int (Tv 1), .int (Tv 2), .int sv_11, .int sv_12])), ((Ta 1), .inl (tc 0, 400, .inl (Tf 1)))] H := hP₀
    replace hD : va_D A [((Va 0), .inr (7, [.ref (Va 1), .int (Vv 0), .int (Vv 1)])), ((Va 1), .inl (tc 0, 400, .inl (Vf 1))), ((Ta 0), .inr (10, [.ref (Ta 1), .int (Tv 0), .int (Tv 1), .int (Tv 2), .int sv_11, .int sv_12])), ((Ta 1), .inl (tc 0, 400, .inl (Tf 1)))] := hD₀
    replace hS := hS₀
    clear hP₀ hD₀ hS₀
    refine lv_aload_n hx hb dX7_countOne_14 rfl (lv_at hl 0 rfl) ?_
    refine lv_dup hx hb dX7_countOne_15 rfl ?_
    refine gf_X7_19 hx hb hts hown hK hP 0 rfl rfl dX7_countOne_16 ?_
    refine lv_iconst (v := 1) hx hb dX7_countOne_19 (by decide) ?_
    refine lv_iadd hx hb dX7_countOne_20 ?_
    refine lv_topi (fun x_18 ex_18 => ?_)
    refine pf_X7_19 hx hb hts hown hK hP hD hS 0 rfl (Nat.le_of_ble_eq_true rfl) rfl rfl dX7_countOne_21 (fun H locs hP₀ hD₀ hS₀ => ?_)
    replace hP : va_P D classes [((Va 0), .inr (7, [.ref (Va 1), .int (Vv 0), .int x_18])), ((Va 1), .inl (tc 0, 400, .inl (Vf 1))), ((Ta 0), .inr (10, [.ref (Ta 1), .int (Tv 0), .int (Tv 1), .int (Tv 2), .int sv_11, .int sv_12])), ((Ta 1), .inl (tc 0, 400, .inl (Tf 1)))] H := hP₀
    replace hD : va_D A [((Va 0), .inr (7, [.ref (Va 1), .int (Vv 0), .int x_18])), ((Va 1), .inl (tc 0, 400, .inl (Vf 1))), ((Ta 0), .inr (10, [.ref (Ta 1), .int (Tv 0), .int (Tv 1), .int (Tv 2), .int sv_11, .int sv_12])), ((Ta 1), .inl (tc 0, 400, .inl (Tf 1)))] := hD₀
    replace hS := hS₀
    clear hP₀ hD₀ hS₀
    have hr_19 : 60 ≤ (Vv 1).toInt := by
      have z_1 := Int32.le_iff_toInt_le.mp (Int32.not_lt.mp c_2)
      have y_60 : (60 : Int32).toInt = 60 := by decide
      omega
    have hf_20 : TpR (Tf 1) (Tv 0) (rC1 rr) (Tv 1) (Tv 2) sv_11 sv_12 := by
      have hE_21 : (rC1 rr) = ro_15 := by
        rw [ero_15]
        exact (rC1_hi h_ct hr_19)
      rw [hE_21]
      exact pf_14
    have hc_22 : (Vv 1).toInt < 60 → (x_18 : Int32).toInt = (Vv 1).toInt + 1 := by
      intro z
      have y_1 : (1 : Int32).toInt = 1 := by decide
      have yl := (Vv 1).le_toInt
      rw [ex_18, add_toInt (by omega) (by omega)]
      omega
    exact retV hx hb hr hlk hP hD hS (x_18, sv_11, sv_12) ⟨rfl, pf_13, h_u, hf_20, (Ctd.c1 h_ct hc_22)⟩ [0, 1, 2, 3] rfl rfl dX7_countOne_24 (Nat.le_of_ble_eq_true rfl) (Nat.le_of_ble_eq_true rfl) rfl
set_option maxRecDepth 100000 in
theorem cu_fX7_countOne (l : Launch) (D : va_G) (tc : Nat → ClassId) (sk : (Nat → Nat) × (Nat → Nat)) (Va_0 : Nat) (Va_1 : Nat) (Vv_0 : Int32) (Vv_1 : Int32) (Vf_1 : Nat → Int32) (Ta_0 : Nat) (Ta_1 : Nat) (Tv_0 : Int32) (Tv_1 : Int32) (Tv_2 : Int32) (Tv_3 : Int32) (Tv_4 : Int32) (Tf_1 : Nat → Int32) (rr : Except Int (Nat × Nat)) (h_tape : 0 ≤ (Tv_0 : Int32).toInt ∧ (Tv_0 : Int32).toInt ≤ 400 ∧ 0 ≤ (Tv_1 : Int32).toInt ∧ (Tv_1 : Int32).toInt ≤ 400 ∧ 0 ≤ (Tv_2 : Int32).toInt ∧ (Tv_2 : Int32).toInt ≤ 400) (h_u : 0 ≤ (Vv_0 : Int32).toInt ∧ (Vv_0 : Int32).toInt ≤ 400) (h_by : Byt Tf_1) (h_r : TpR Tf_1 Tv_0 rr Tv_1 Tv_2 Tv_3 Tv_4) (h_ct : Ctd rr Vv_1) : Ct l yX7_countOne cX7_countOne 2 none { frames := 1, cells := 0, slots := 0, locals := 21 } D tc sk [.ref Va_0, .ref Ta_0] [(Va_0, .inr (7, [.ref Va_1, .int Vv_0, .int Vv_1])), (Va_1, .inl (tc 0, 400, .inl Vf_1)), (Ta_0, .inr (10, [.ref Ta_1, .int Tv_0, .int Tv_1, .int Tv_2, .int Tv_3, .int Tv_4])), (Ta_1, .inl (tc 0, 400, .inl Tf_1))] (fun (v : Option Value) (u : (Int32) × (Int32) × (Int32)) => match u with | (oo0x1, oo0x2, oo0x3) => v = none ∧ (0 ≤ (Tv_0 : Int32).toInt ∧ (Tv_0 : Int32).toInt ≤ 400 ∧ 0 ≤ (Tv_1 : Int32).toInt ∧ (Tv_1 : Int32).toInt ≤ 400 ∧ 0 ≤ (Tv_2 : Int32).toInt ∧ (Tv_2 : Int32).toInt ≤ 400) ∧ (0 ≤ (Vv_0 : Int32).toInt ∧ (Vv_0 : Int32).toInt ≤ 400) ∧ (TpR Tf_1 Tv_0 (rC1 rr) Tv_1 Tv_2 oo0x2 oo0x3) ∧ (Ctd (rC1 rr) oo0x1)) (fun (u : (Int32) × (Int32) × (Int32)) => match u with | (oo0x1, oo0x2, oo0x3) => [(Va_0, .inr (7, [.ref Va_1, .int Vv_0, .int oo0x1])), (Va_1, .inl (tc 0, 400, .inl Vf_1)), (Ta_0, .inr (10, [.ref Ta_1, .int Tv_0, .int Tv_1, .int Tv_2, .int oo0x2, .int oo0x3])), (Ta_1, .inl (tc 0, 400, .inl Tf_1))]) 0 0 :=
  ct_fX7_countOne l D tc sk (fun k => ([Va_0, Va_1] : List (Nat)).getD k 0) (fun k => ([Vv_0, Vv_1] : List (Int32)).getD k 0) (fun k => ([(fun _ => 0), Vf_1] : List (Nat → Int32)).getD k (fun _ => 0)) (fun k => ([Ta_0, Ta_1] : List (Nat)).getD k 0) (fun k => ([Tv_0, Tv_1, Tv_2, Tv_3, Tv_4] : List (Int32)).getD k 0) (fun k => ([(fun _ => 0), Tf_1] : List (Nat → Int32)).getD k (fun _ => 0)) rr h_tape h_u h_by h_r h_ct
theorem wb_tb (n : Nat) : (lN n).toBitVec = BitVec.ofNat 64 n := rfl
theorem wb_inj {a b : Int64} (h : a.toBitVec = b.toBitVec) : a = b := Int64.toBitVec_inj.mp h
theorem wb_c : ∀ k, k < 64 → ((nI k).toInt64 &&& 63) = lN k := by decide +kernel
theorem wb_sm : ∀ k, k < 64 → (BitVec.ofNat 64 k).smod 64 = BitVec.ofNat 64 k := by decide +kernel
theorem wb_shl (n : Nat) {k : Nat} (hk : k < 64) : lN n <<< ((nI k).toInt64 &&& 63) = lN (n * 2 ^ k) := by
  rw [wb_c k hk]
  apply wb_inj
  rw [Int64.toBitVec_shiftLeft, wb_tb, wb_tb, wb_tb, wb_sm k hk]
  apply BitVec.eq_of_toNat_eq
  rw [BitVec.shiftLeft_eq', BitVec.toNat_shiftLeft, BitVec.toNat_ofNat, BitVec.toNat_ofNat, BitVec.toNat_ofNat, Nat.mod_eq_of_lt (show k < 2 ^ 64 by omega), Nat.shiftLeft_eq, Nat.mul_mod, Nat.mod_mod, ← Nat.mul_mod]
theorem u_tn {n : Nat} (h : n < 2 ^ 64) : (UInt64.ofNat n).toNat = n := Nat.mod_eq_of_lt h
theorem g_or {k p a b : Nat} (hp : 2 ^ k = p) (ha : a < p) (h : b * p + a < 2 ^ 64) : lN (b * p) ||| lN a = lN (b * p + a) := by
  subst hp
  have h1 : b * 2 ^ k ||| a = b * 2 ^ k + a := by rw [← Nat.shiftLeft_eq, Nat.shiftLeft_add_eq_or_of_lt ha]
  have h3 : UInt64.ofNat (b * 2 ^ k) ||| UInt64.ofNat a = UInt64.ofNat (b * 2 ^ k + a) := UInt64.toNat_inj.mp (by rw [UInt64.toNat_or, u_tn (by omega), u_tn (by omega), u_tn h, h1])
  have h2 := congrArg UInt64.toInt64 h3
  exact h2
def rB (f : Nat → Int32) (n : Int32) (k : Nat) : Int := if (k : Int) < n.toInt then (f k).toInt % 256 else -1
def ByS (f : Nat → Int32) : Prop := ∀ k : Nat, -128 ≤ (f k).toInt ∧ (f k).toInt ≤ 127
theorem rB_in {f : Nat → Int32} {n : Int32} {k : Nat} (h : (k : Int) < n.toInt) : rB f n k = (f k).toInt % 256 := if_pos h
theorem rB_out {f : Nat → Int32} {n : Int32} {k : Nat} (h : n.toInt ≤ (k : Int)) : rB f n k = -1 := if_neg (by omega)
theorem rB_fi {f : Nat → Int32} {n : Int32} (h : n.toInt ≤ 400) : pz_fi (rB f n) := fun k hk => rB_out (by omega)
theorem rB_rg {f : Nat → Int32} {n : Int32} (h : ByS f) (k : Nat) : ((k : Int) < n.toInt ∧ 0 ≤ rB f n k ∧ rB f n k ≤ 255 ∧ ((rB f n k = (f k).toInt ∧ rB f n k ≤ 127) ∨ (128 ≤ rB f n k ∧ (f k).toInt < 0))) ∨ (n.toInt ≤ (k : Int) ∧ rB f n k = -1) := by
  by_cases z : (k : Int) < n.toInt
  · left
    have := h k
    rw [rB_in z]
    omega
  · right; exact ⟨by omega, rB_out (by omega)⟩
def RnB (P : Int → Bool) (B : Nat → Int) (p q : Int) : Prop := p ≤ q ∧ ∀ i : Nat, p ≤ (i : Int) → (i : Int) < q → P (B i) = true
theorem RnB.rf {P : Int → Bool} {B : Nat → Int} {p : Int} : RnB P B p p := ⟨Int.le_refl _, fun i a b => by omega⟩
theorem RnB.st {P : Int → Bool} {B : Nat → Int} {p q q' : Int} (h : RnB P B p q) (h0 : 0 ≤ q) (hP : P (B q.toNat) = true) (hq : q' = q + 1) : RnB P B p q' := by
  have hp := h.1
  refine ⟨by omega, fun i a b => ?_⟩
  by_cases z : (i : Int) < q
  · exact h.2 i a z
  · rw [show i = q.toNat by omega]; exact hP
theorem RnB.run {P : Int → Bool} {B : Nat → Int} {p q : Int} (h : RnB P B p q) (h0 : 0 ≤ p) (h4 : q ≤ 400) (hq : ¬ P (B q.toNat) = true) : pz_run P B 401 p.toNat = q.toNat := by
  have hp := h.1
  exact pz_run_eq 401 _ _ (by omega) (by omega) (fun i a b => h.2 i (by omega) (by omega)) hq
theorem getD_ap {t s : List Int} {i : Nat} (h : i < t.length) : (t ++ s).getD i 0 = t.getD i 0 := by
  rw [List.getD_eq_getElem?_getD, List.getD_eq_getElem?_getD, List.getElem?_append_left h]
def pz_pk (B : Nat → Int) (p : Nat) : Nat → Int
  | 0 => 0
  | k + 1 => pz_pk B p k * 256 + B (p + k)
def pz_pl : List Int → Int
  | [] => 0
  | x :: t => x * 256 ^ t.length + pz_pl t
theorem pz_pl_snoc (x : Int) : ∀ t : List Int, pz_pl (t ++ [x]) = pz_pl t * 256 + x
  | [] => by simp [pz_pl]
  | y :: t => by
    have ih := pz_pl_snoc x t
    show y * 256 ^ (t ++ [x]).length + pz_pl (t ++ [x]) = (y * 256 ^ t.length + pz_pl t) * 256 + x
    rw [ih, List.length_append, List.length_singleton, Int.pow_succ, Int.add_mul, Int.mul_assoc]
    omega
theorem pz_pk_nn {B : Nat → Int} {p : Nat} : ∀ n : Nat, (∀ i, i < n → 97 ≤ B (p + i) ∧ B (p + i) ≤ 122) → 0 ≤ pz_pk B p n
  | 0, _ => Int.le_refl _
  | n + 1, h => by
    have h1 := pz_pk_nn n (fun i hi => h i (by omega))
    have h2 := h n (by omega)
    show 0 ≤ pz_pk B p n * 256 + B (p + n)
    omega
theorem pz_pl_nn : ∀ L : List Int, (∀ x ∈ L, 97 ≤ x ∧ x ≤ 122) → 0 ≤ pz_pl L
  | [], _ => Int.le_refl _
  | x :: t, h => by
    have h1 := pz_pl_nn t (fun y hy => h y (List.mem_cons_of_mem _ hy))
    have h2 := h x List.mem_cons_self
    have h3 : 0 ≤ x * 256 ^ t.length := Int.mul_nonneg (by omega) (Int.pow_nonneg (by decide))
    show 0 ≤ x * 256 ^ t.length + pz_pl t
    omega
theorem pz_pk_inj {B : Nat → Int} {p : Nat} : ∀ (n : Nat) (L : List Int), (∀ i, i < n → 97 ≤ B (p + i) ∧ B (p + i) ≤ 122) → (∀ x ∈ L, 97 ≤ x ∧ x ≤ 122) → pz_pk B p n = pz_pl L → n = L.length ∧ ∀ i, i < n → B (p + i) = L.getD i 0
  | 0, L, _, hL, e => by
    cases L with
    | nil => exact ⟨rfl, fun i hi => absurd hi (Nat.not_lt_zero i)⟩
    | cons x t =>
      exfalso
      have h1 := pz_pl_nn t (fun y hy => hL y (List.mem_cons_of_mem _ hy))
      have h2 := hL x List.mem_cons_self
      have h4 : (1 : Int) ≤ 256 ^ t.length := by
        have := Nat.pow_pos (n := t.length) (show 0 < 256 by decide)
        exact_mod_cast this
      have h3 : 97 * 1 ≤ x * 256 ^ t.length := Int.mul_le_mul h2.1 h4 (by decide) (by omega)
      have e : 0 = x * 256 ^ t.length + pz_pl t := e
      omega
  | n + 1, L, hB, hL, e => by
    have hb := hB n (by omega)
    have e : pz_pk B p n * 256 + B (p + n) = pz_pl L := e
    rcases List.eq_nil_or_concat L with rfl | ⟨t, x, rfl⟩
    · exfalso
      have h1 := pz_pk_nn (B := B) (p := p) n (fun i hi => hB i (by omega))
      have e : pz_pk B p n * 256 + B (p + n) = 0 := e
      omega
    · have hx := hL x (by simp)
      rw [List.concat_eq_append, pz_pl_snoc] at e
      have e1 : B (p + n) = x := by omega
      have e2 : pz_pk B p n = pz_pl t := by omega
      obtain ⟨h1, h2⟩ := pz_pk_inj n t (fun i hi => hB i (by omega)) (fun y hy => hL y (by simp [hy])) e2
      refine ⟨by simp [h1], fun i hi => ?_⟩
      by_cases z : i < n
      · rw [h2 i z, List.concat_eq_append, getD_ap (by omega)]
      · have : i = n := by omega
        subst this
        rw [e1, List.concat_eq_append, h1]
        simp
theorem pz_pk_of {B : Nat → Int} {p : Nat} (L : List Int) : (∀ i, i < L.length → B (p + i) = L.getD i 0) → pz_pk B p L.length = pz_pl L := by
  suffices h : ∀ (n : Nat) (L : List Int), L.length = n → (∀ i, i < L.length → B (p + i) = L.getD i 0) → pz_pk B p L.length = pz_pl L from h _ L rfl
  intro n
  induction n with
  | zero => intro L hL _; rw [List.eq_nil_of_length_eq_zero hL]; rfl
  | succ n ih =>
    intro L hL h
    rcases List.eq_nil_or_concat L with rfl | ⟨t, x, rfl⟩
    · simp at hL
    · rw [List.concat_eq_append] at *
      have ht : t.length = n := by simpa using hL
      have h1 := ih t ht (fun i hi => by rw [h i (by simp; omega), getD_ap hi])
      have h2 : B (p + t.length) = x := by rw [h t.length (by simp)]; simp
      rw [pz_pl_snoc, List.length_append, List.length_singleton]
      show pz_pk B p t.length * 256 + B (p + t.length) = _
      rw [h1, h2]
def PkW (B : Nat → Int) (p : Nat) (w : Int) : Prop := ∃ n : Nat, 1 ≤ n ∧ n ≤ 7 ∧ pz_run pz_isL B 401 p = p + n ∧ pz_pk B p n = w
theorem PkW.wd {B : Nat → Int} {p : Nat} {L : List Int} (hL : ∀ x ∈ L, 97 ≤ x ∧ x ≤ 122) (h1 : 1 ≤ L.length) (h7 : L.length ≤ 7) : PkW B p (pz_pl L) ↔ pz_wd B p L = true := by
  constructor
  · rintro ⟨n, hn1, hn7, hr, hp⟩
    have hB : ∀ i, i < n → 97 ≤ B (p + i) ∧ B (p + i) ≤ 122 := fun i hi => of_decide_eq_true (pz_run_all (P := pz_isL) (B := B) 401 p (p + i) (by omega) (by rw [hr]; omega))
    obtain ⟨e1, e2⟩ := pz_pk_inj n L hB hL hp
    subst e1
    refine decide_eq_true ⟨?_, e2⟩
    unfold pz_te
    rw [if_pos (show pz_isL (B p) = true from decide_eq_true (hB 0 (by omega)))]
    exact hr
  · intro h
    obtain ⟨h2, h3⟩ := of_decide_eq_true h
    have hl : ∀ i, i < L.length → 97 ≤ B (p + i) ∧ B (p + i) ≤ 122 := fun i hi => by
      rw [h3 i hi]
      refine hL _ ?_
      rw [List.getD_eq_getElem?_getD, List.getElem?_eq_getElem hi]
      exact List.getElem_mem hi
    refine ⟨L.length, h1, h7, ?_, pz_pk_of L h3⟩
    rw [← h2]
    unfold pz_te
    rw [if_pos (show pz_isL (B p) = true from decide_eq_true (hl 0 (by omega)))]
def RfO (r : Except Int (Nat × Nat)) (B : Nat → Int) (wr nx md : Int32) : Prop := ∃ s, r = .ok s ∧ wr.toInt = 0 ∧ pz_sk B nx.toInt.toNat = s.1 ∧ md.toInt = (s.2 : Int)
def RfE (r : Except Int (Nat × Nat)) (wr : Int32) : Prop := ∃ e, r = .error e ∧ wr.toInt = e
def St0 (B : Nat → Int) (nx md : Int32) : Nat × Nat := (pz_sk B nx.toInt.toNat, md.toInt.toNat)
def SkR (B : Nat → Int) (a b : Int32) : Prop := b.toInt = (pz_sk B a.toInt.toNat : Int) ∧ pz_sk B b.toInt.toNat = b.toInt.toNat ∧ ¬ B b.toInt.toNat = 32
theorem pz_sk_rf {B : Nat → Int} {p : Nat} (h : ¬ B p = 32) : pz_sk B p = p := pz_run_eq 401 p p (Nat.le_refl _) (by omega) (fun i a b => by omega) (fun z => h (of_decide_eq_true z))
theorem SkR.of {B : Nat → Int} {a b : Int32} (h : RnB pz_isS B a.toInt b.toInt) (h0 : 0 ≤ a.toInt) (h4 : b.toInt ≤ 400) (hn : ¬ B b.toInt.toNat = 32) : SkR B a b := by
  have hp := h.1
  refine ⟨?_, pz_sk_rf hn, hn⟩
  have e : pz_sk B a.toInt.toNat = b.toInt.toNat := h.run h0 h4 (fun z => hn (of_decide_eq_true z))
  rw [e]; omega
theorem SkR.sk {B : Nat → Int} {a b : Int32} (h : SkR B a b) : pz_sk B b.toInt.toNat = pz_sk B a.toInt.toNat := by
  have := h.1
  rw [h.2.1]; omega
theorem SkR.nat {B : Nat → Int} {a b : Int32} (h : SkR B a b) : pz_sk B a.toInt.toNat = b.toInt.toNat := by
  have := h.1
  omega
theorem SkR.trans {B : Nat → Int} {a b c : Int32} (h : SkR B a b) (h2 : SkR B b c) : SkR B a c := by
  refine ⟨?_, h2.2⟩
  rw [← h.sk]; exact h2.1
def PsR (B : Nat → Int) (a b : Int32) : Prop := b.toInt = (pz_run pz_isL B 401 a.toInt.toNat : Int)
theorem PsR.of {B : Nat → Int} {a b : Int32} (h : RnB pz_isL B a.toInt b.toInt) (h0 : 0 ≤ a.toInt) (h4 : b.toInt ≤ 400) (hn : ¬ (97 ≤ B b.toInt.toNat ∧ B b.toInt.toNat ≤ 122)) : PsR B a b := by
  have hp := h.1
  have e : pz_run pz_isL B 401 a.toInt.toNat = b.toInt.toNat := h.run h0 h4 (fun z => hn (of_decide_eq_true z))
  unfold PsR
  rw [e]; omega
theorem PsR.te {B : Nat → Int} {a b : Int32} (h : PsR B a b) (hL : 97 ≤ B a.toInt.toNat ∧ B a.toInt.toNat ≤ 122) : b.toInt.toNat = pz_te B a.toInt.toNat := by
  have := h
  unfold PsR at this
  unfold pz_te
  rw [if_pos (show pz_isL (B a.toInt.toNat) = true from decide_eq_true hL)]
  omega
def NPk (B : Nat → Int) (p : Nat) (w : Int) : Prop := ¬ PkW B p w
theorem and255 (y : Int32) : (y &&& 255).toInt = y.toInt % 256 := by
  have h1 : (y &&& 255).toBitVec.toNat = y.toBitVec.toNat % 256 := by
    show (y.toBitVec &&& 255#32).toNat = _
    rw [BitVec.toNat_and]
    exact Nat.and_two_pow_sub_one_eq_mod _ 8
  have h2 : (y &&& 255).toInt = ((y &&& 255).toBitVec.toNat : Int) := by
    show (y &&& 255).toBitVec.toInt = _
    rw [BitVec.toInt_eq_toNat_cond, if_pos (by omega)]
  have h3 : y.toInt = if 2 * y.toBitVec.toNat < 2 ^ 32 then (y.toBitVec.toNat : Int) else (y.toBitVec.toNat : Int) - ((2 ^ 32 : Nat) : Int) := BitVec.toInt_eq_toNat_cond y.toBitVec
  have h4 := y.toBitVec.isLt
  rw [h2, h1]
  split at h3 <;> omega
theorem nI_ofP {y : Int32} (h : 0 ≤ y.toInt) : y = nI y.toInt.toNat := by
  apply Int32.toInt_inj.mp
  rw [nI_toInt (by have := y.toInt_lt; omega)]
  omega
theorem lN_tI {k : Nat} (h : k < 2 ^ 63) : (lN k).toInt = (k : Int) := by
  show (BitVec.ofNat 64 k).toInt = (k : Int)
  rw [BitVec.toInt_eq_toNat_cond, BitVec.toNat_ofNat, Nat.mod_eq_of_lt (by omega), if_pos (by omega)]
theorem pz_pk_lt {B : Nat → Int} {p : Nat} : ∀ n : Nat, (∀ i, i < n → 97 ≤ B (p + i) ∧ B (p + i) ≤ 122) → pz_pk B p n < 256 ^ n
  | 0, _ => Int.zero_lt_one
  | n + 1, h => by
    have h1 := pz_pk_lt n (fun i hi => h i (by omega))
    have h2 := h n (by omega)
    show pz_pk B p n * 256 + B (p + n) < 256 ^ (n + 1)
    rw [Int.pow_succ]
    omega
def PkV (B : Nat → Int) (nx n : Int32) (v : Int64) : Prop := n.toInt ≤ 7 → v = lN (pz_pk B nx.toInt.toNat n.toInt.toNat).toNat
theorem PkV.nil {B : Nat → Int} {nx : Int32} : PkV B nx 0 0 := fun _ => rfl
theorem PkV.big {B : Nat → Int} {nx n : Int32} {v : Int64} (h : 8 ≤ n.toInt) : PkV B nx n v := fun z => by omega
theorem RnB.let {B : Nat → Int} {p q : Int} (h : RnB pz_isL B p q) (h0 : 0 ≤ p) : ∀ i : Nat, i < (q - p).toNat → 97 ≤ B (p.toNat + i) ∧ B (p.toNat + i) ≤ 122 := fun i hi => of_decide_eq_true (h.2 (p.toNat + i) (by omega) (by omega))
theorem PkV.st {B : Nat → Int} {nx n n' y : Int32} {v v' x1 : Int64} (h : PkV B nx n v) (hr : RnB pz_isL B nx.toInt (nx.toInt + n.toInt)) (h0 : 0 ≤ nx.toInt ∧ 0 ≤ n.toInt) (hy : y.toInt = B (nx.toInt.toNat + n.toInt.toNat)) (hL : 97 ≤ y.toInt ∧ y.toInt ≤ 122) (e1 : x1 = v <<< ((8 : Int32).toInt64 &&& 63)) (e2 : v' = x1 ||| y.toInt64) (hn : n'.toInt = n.toInt + 1) : PkV B nx n' v' := fun z => by
  have hv := h (by omega)
  have hlet : ∀ i, i < n.toInt.toNat → 97 ≤ B (nx.toInt.toNat + i) ∧ B (nx.toInt.toNat + i) ≤ 122 := fun i hi => hr.let h0.1 i (by omega)
  have h1 := pz_pk_nn n.toInt.toNat hlet
  have h2 := pz_pk_lt n.toInt.toNat hlet
  have h3 : (256 : Int) ^ n.toInt.toNat ≤ 256 ^ 6 := by
    have := Nat.pow_le_pow_right (n := 256) (by decide) (show n.toInt.toNat ≤ 6 by omega)
    have h4 : ((256 ^ n.toInt.toNat : Nat) : Int) ≤ ((256 ^ 6 : Nat) : Int) := Int.ofNat_le.mpr this
    rw [Int.natCast_pow, Int.natCast_pow] at h4
    exact h4
  obtain ⟨a, ha⟩ : ∃ a : Nat, (pz_pk B nx.toInt.toNat n.toInt.toNat).toNat = a := ⟨_, rfl⟩
  have ha2 : (a : Int) < 281474976710656 := by
    have : (256 : Int) ^ 6 = 281474976710656 := by decide
    omega
  rw [ha] at hv
  have e3 : y.toInt64 = lN y.toInt.toNat := by
    conv => lhs; rw [nI_ofP (y := y) (by omega)]
    exact nI_l (by omega)
  have e4 : lN a <<< ((8 : Int32).toInt64 &&& 63) = lN (a * 256) := wb_shl a (k := 8) (by decide)
  rw [e2, e1, hv, e3, e4, g_or (k := 8) (p := 256) rfl (by omega) (by omega)]
  congr 1
  rw [show n'.toInt.toNat = n.toInt.toNat + 1 by omega]
  show a * 256 + y.toInt.toNat = (pz_pk B nx.toInt.toNat n.toInt.toNat * 256 + B (nx.toInt.toNat + n.toInt.toNat)).toNat
  omega
theorem run_at {B : Nat → Int} {nx n : Int32} (hr : RnB pz_isL B nx.toInt (nx.toInt + n.toInt)) (h0 : 0 ≤ nx.toInt ∧ 0 ≤ n.toInt ∧ nx.toInt + n.toInt ≤ 400) (he : ¬ (97 ≤ B (nx.toInt + n.toInt).toNat ∧ B (nx.toInt + n.toInt).toNat ≤ 122)) : pz_run pz_isL B 401 nx.toInt.toNat = nx.toInt.toNat + n.toInt.toNat := by
  have := hr.run h0.1 h0.2.2 (fun z => he (of_decide_eq_true z))
  rw [this]; omega
theorem PkW.of {B : Nat → Int} {nx n : Int32} {v w : Int64} (h : PkV B nx n v) (hr : RnB pz_isL B nx.toInt (nx.toInt + n.toInt)) (h0 : 0 ≤ nx.toInt ∧ 0 ≤ n.toInt ∧ nx.toInt + n.toInt ≤ 400) (he : ¬ (97 ≤ B (nx.toInt + n.toInt).toNat ∧ B (nx.toInt + n.toInt).toNat ≤ 122)) (hn : 1 ≤ n.toInt ∧ n.toInt ≤ 7) (hw : v.toInt = w.toInt) : PkW B nx.toInt.toNat w.toInt := by
  have hlet : ∀ i, i < n.toInt.toNat → 97 ≤ B (nx.toInt.toNat + i) ∧ B (nx.toInt.toNat + i) ≤ 122 := fun i hi => hr.let h0.1 i (by omega)
  refine ⟨n.toInt.toNat, by omega, by omega, run_at hr h0 he, ?_⟩
  have h1 := pz_pk_nn n.toInt.toNat hlet
  have h2 := pz_pk_lt n.toInt.toNat hlet
  have h3 : (256 : Int) ^ n.toInt.toNat ≤ 256 ^ 7 := by
    have := Nat.pow_le_pow_right (n := 256) (by decide) (show n.toInt.toNat ≤ 7 by omega)
    have h4 : ((256 ^ n.toInt.toNat : Nat) : Int) ≤ ((256 ^ 7 : Nat) : Int) := Int.ofNat_le.mpr this
    rw [Int.natCast_pow, Int.natCast_pow] at h4
    exact h4
  have h4 : (256 : Int) ^ 7 = 72057594037927936 := by decide
  rw [← hw, h hn.2, lN_tI (by omega)]
  omega
theorem NPk.of {B : Nat → Int} {nx n : Int32} {v w : Int64} (h : PkV B nx n v) (hr : RnB pz_isL B nx.toInt (nx.toInt + n.toInt)) (h0 : 0 ≤ nx.toInt ∧ 0 ≤ n.toInt ∧ nx.toInt + n.toInt ≤ 400) (he : ¬ (97 ≤ B (nx.toInt + n.toInt).toNat ∧ B (nx.toInt + n.toInt).toNat ≤ 122)) (hn : n.toInt ≤ 0 ∨ 8 ≤ n.toInt ∨ (n.toInt ≤ 7 ∧ ¬ v.toInt = w.toInt)) : NPk B nx.toInt.toNat w.toInt := fun ⟨k, hk1, hk7, hk, hp⟩ => by
  have hlet : ∀ i, i < n.toInt.toNat → 97 ≤ B (nx.toInt.toNat + i) ∧ B (nx.toInt.toNat + i) ≤ 122 := fun i hi => hr.let h0.1 i (by omega)
  have e := run_at hr h0 he
  have ek : k = n.toInt.toNat := by omega
  subst ek
  rcases hn with hn | hn | hn
  · omega
  · omega
  · refine hn.2 ?_
    have h1 := pz_pk_nn n.toInt.toNat hlet
    have h2 := pz_pk_lt n.toInt.toNat hlet
    have h3 : (256 : Int) ^ n.toInt.toNat ≤ 256 ^ 7 := by
      have := Nat.pow_le_pow_right (n := 256) (by decide) (show n.toInt.toNat ≤ 7 by omega)
      have h4 : ((256 ^ n.toInt.toNat : Nat) : Int) ≤ ((256 ^ 7 : Nat) : Int) := Int.ofNat_le.mpr this
      rw [Int.natCast_pow, Int.natCast_pow] at h4
      exact h4
    have h4 : (256 : Int) ^ 7 = 72057594037927936 := by decide
    rw [h hn.1, lN_tI (by omega), ← hp]
    omega
def NvF (B : Nat → Int) (a v i : Int32) : Prop := (i.toInt - a.toInt ≤ 5 → Nv B a v i) ∧ 0 ≤ v.toInt ∧ v.toInt ≤ 99999
theorem NvF.nil {B : Nat → Int} {a : Int32} : NvF B a 0 a := ⟨fun _ => Nv.nil, by decide, by decide⟩
theorem NvF.st {B : Nat → Int} {a v v' i i' x : Int32} (h : NvF B a v i) (hi : 0 ≤ a.toInt ∧ a.toInt ≤ i.toInt) (h5 : i.toInt - a.toInt < 5) (hx : x.toInt = B i.toInt.toNat) (hd : 48 ≤ x.toInt ∧ x.toInt ≤ 57) (hv : v'.toInt = v.toInt * 10 + x.toInt - 48) (hi' : i'.toInt = i.toInt + 1) : NvF B a v' i' := by
  have h1 := Nv.st (h.1 (by omega)) hi hx hd hv hi'
  have h2 := Nv.ar (h.1 (by omega))
  have h3 := h2.2.2 (by omega)
  exact ⟨fun _ => h1, by omega, by omega⟩
theorem NvF.go {B : Nat → Int} {a v i i' : Int32} (h : NvF B a v i) (h5 : 5 ≤ i.toInt - a.toInt) (hi' : i'.toInt = i.toInt + 1) : NvF B a v i' := ⟨fun z => by omega, h.2⟩
def NmO (B : Nat → Int) (lo hi : Int) (nx nu nx' wr : Int32) : Prop := pz_num B lo hi (pz_sk B nx.toInt.toNat) = .ok nu.toInt ∧ nx'.toInt = (pz_te B (pz_sk B nx.toInt.toNat) : Int) ∧ wr.toInt = 0
def NmE (B : Nat → Int) (lo hi : Int) (nx wr : Int32) : Prop := pz_num B lo hi (pz_sk B nx.toInt.toNat) = .error wr.toInt
theorem te_run {B : Nat → Int} {at' nx : Int32} (h : RnB pz_isD B at'.toInt nx.toInt) (h0 : 0 ≤ at'.toInt) (h4 : nx.toInt ≤ 400) (h1 : 48 ≤ B at'.toInt.toNat ∧ B at'.toInt.toNat ≤ 57) (hn : ¬ (48 ≤ B nx.toInt.toNat ∧ B nx.toInt.toNat ≤ 57)) : pz_te B at'.toInt.toNat = nx.toInt.toNat := by
  unfold pz_te
  rw [if_neg (fun z => by have := of_decide_eq_true z; omega), if_pos (show pz_isD (B at'.toInt.toNat) = true from decide_eq_true h1)]
  exact h.run h0 h4 (fun z => hn (of_decide_eq_true z))
theorem NmE.nd {B : Nat → Int} {lo hi : Int} {nx nx' wr : Int32} (hs : SkR B nx nx') (hd : ¬ (48 ≤ B nx'.toInt.toNat ∧ B nx'.toInt.toNat ≤ 57)) (h0 : 0 ≤ nx'.toInt) (hw : wr.toInt = 1 + 8 * nx'.toInt) : NmE B lo hi nx wr := by
  unfold NmE
  rw [hs.nat]
  rw [show pz_num B lo hi nx'.toInt.toNat = .error (pz_er 0 nx'.toInt.toNat) from if_neg (fun z => hd (of_decide_eq_true z))]
  congr 1
  unfold pz_er; omega
theorem num_at {B : Nat → Int} {lo hi : Int} {at' nx v : Int32} (h : RnB pz_isD B at'.toInt nx.toInt) (h0 : 0 ≤ at'.toInt) (h4 : nx.toInt ≤ 400) (h1 : 48 ≤ B at'.toInt.toNat ∧ B at'.toInt.toNat ≤ 57) (hn : ¬ (48 ≤ B nx.toInt.toNat ∧ B nx.toInt.toNat ≤ 57)) (hv : NvF B at' v nx) : pz_num B lo hi at'.toInt.toNat = if 5 < nx.toInt - at'.toInt ∨ v.toInt < lo ∨ hi < v.toInt then (if 5 < nx.toInt - at'.toInt then .error (pz_er 1 at'.toInt.toNat) else .error (pz_er 1 at'.toInt.toNat)) else .ok v.toInt := by
  have hp := h.1
  rw [num_dig (decide_eq_true h1), te_run h h0 h4 h1 hn]
  by_cases z : 5 < nx.toInt - at'.toInt
  · rw [if_pos (by omega), if_pos (Or.inl z), if_pos z]
  · have e := (hv.1 (by omega)).1
    rw [if_neg (by omega), show nx.toInt.toNat - at'.toInt.toNat = (nx.toInt - at'.toInt).toNat by omega, ← e]
    by_cases y : v.toInt < lo ∨ hi < v.toInt
    · rw [if_pos y, if_pos (Or.inr y), if_neg z]
    · rw [if_neg y, if_neg (by omega)]
theorem NmE.of {B : Nat → Int} {lo hi : Int} {n0 at' nx v wr : Int32} (hs : SkR B n0 at') (h : RnB pz_isD B at'.toInt nx.toInt) (h0 : 0 ≤ at'.toInt) (h4 : nx.toInt ≤ 400) (h1 : 48 ≤ B at'.toInt.toNat ∧ B at'.toInt.toNat ≤ 57) (hn : ¬ (48 ≤ B nx.toInt.toNat ∧ B nx.toInt.toNat ≤ 57)) (hv : NvF B at' v nx) (ho : 5 < nx.toInt - at'.toInt ∨ v.toInt < lo ∨ hi < v.toInt) (hw : wr.toInt = 1 + 8 * at'.toInt + 1) : NmE B lo hi n0 wr := by
  unfold NmE
  rw [hs.nat, num_at h h0 h4 h1 hn hv, if_pos ho]
  have : wr.toInt = pz_er 1 at'.toInt.toNat := by unfold pz_er; omega
  rw [this]
  split <;> rfl
theorem NmO.of {B : Nat → Int} {lo hi : Int} {n0 at' nx v wr : Int32} (hs : SkR B n0 at') (h : RnB pz_isD B at'.toInt nx.toInt) (h0 : 0 ≤ at'.toInt) (h4 : nx.toInt ≤ 400) (h1 : 48 ≤ B at'.toInt.toNat ∧ B at'.toInt.toNat ≤ 57) (hn : ¬ (48 ≤ B nx.toInt.toNat ∧ B nx.toInt.toNat ≤ 57)) (hv : NvF B at' v nx) (ho : ¬ (5 < nx.toInt - at'.toInt ∨ v.toInt < lo ∨ hi < v.toInt)) (hw : wr.toInt = 0) : NmO B lo hi n0 v nx wr := by
  have hp := h.1
  refine ⟨?_, ?_, hw⟩
  · rw [hs.nat, num_at h h0 h4 h1 hn hv, if_neg ho]
  · rw [hs.nat, te_run h h0 h4 h1 hn]; omega
theorem val_num {B : Nat → Int} {p c : Nat} (h : 48 ≤ B p ∧ B p ≤ 57) : pz_val B (p, c) = pz_b (pz_num B 0 99999 p) (fun _ => pz_cnt B (p, c)) := if_pos (decide_eq_true h)
theorem val_word {B : Nat → Int} {p c : Nat} (h : ¬ (48 ≤ B p ∧ B p ≤ 57)) (hw : ¬ pz_wa B p pz_words 0 = -1) : pz_val B (p, c) = pz_cnt B (p, c) := (if_neg (fun z => h (of_decide_eq_true z))).trans (if_neg hw)
theorem val_none {B : Nat → Int} {p c : Nat} (h : ¬ (48 ≤ B p ∧ B p ≤ 57)) (hw : pz_wa B p pz_words 0 = -1) : pz_val B (p, c) = .error (pz_er 0 p) := (if_neg (fun z => h (of_decide_eq_true z))).trans (if_pos hw)
theorem RfE.num {B : Nat → Int} {nx n1 md wr : Int32} (hs : SkR B nx n1) (hd : 48 ≤ B n1.toInt.toNat ∧ B n1.toInt.toNat ≤ 57) (hn : NmE B 0 99999 n1 wr) : RfE (pz_val B (St0 B nx md)) wr := by
  unfold NmE at hn
  rw [hs.sk, hs.nat] at hn
  refine ⟨wr.toInt, ?_, rfl⟩
  unfold St0
  rw [hs.nat, val_num hd, hn]
  rfl
theorem cnt_max {B : Nat → Int} {p c : Nat} (h : 60 ≤ c) : pz_cnt B (p, c) = .error (pz_er 3 p) := if_pos h
theorem cnt_one {B : Nat → Int} {p c : Nat} (h : ¬ 60 ≤ c) : pz_cnt B (p, c) = .ok (pz_nt B p, c + 1) := if_neg h
theorem RfE.numMax {B : Nat → Int} {nx n1 n2 nu md wr0 wr : Int32} (hs : SkR B nx n1) (hd : 48 ≤ B n1.toInt.toNat ∧ B n1.toInt.toNat ≤ 57) (hn : NmO B 0 99999 n1 nu n2 wr0) (hm : 60 ≤ md.toInt) (h0 : 0 ≤ n1.toInt) (hw : wr.toInt = 1 + 8 * n1.toInt + 3) : RfE (pz_val B (St0 B nx md)) wr := by
  have hn := hn.1
  rw [hs.sk, hs.nat] at hn
  refine ⟨wr.toInt, ?_, rfl⟩
  unfold St0
  rw [hs.nat, val_num hd, hn]
  show pz_cnt B (n1.toInt.toNat, md.toInt.toNat) = _
  rw [cnt_max (by omega)]
  congr 1
  unfold pz_er; omega
theorem RfO.num {B : Nat → Int} {nx n1 n2 nu md md' wr0 wr : Int32} (hs : SkR B nx n1) (hd : 48 ≤ B n1.toInt.toNat ∧ B n1.toInt.toNat ≤ 57) (hn : NmO B 0 99999 n1 nu n2 wr0) (hm : 0 ≤ md.toInt ∧ md.toInt < 60 ∧ md'.toInt = md.toInt + 1) (hw : wr.toInt = 0) : RfO (pz_val B (St0 B nx md)) B wr n2 md' := by
  obtain ⟨h1, h2, -⟩ := hn
  rw [hs.sk, hs.nat] at h1 h2
  refine ⟨(pz_nt B n1.toInt.toNat, md.toInt.toNat + 1), ?_, hw, ?_, ?_⟩
  · unfold St0
    rw [hs.nat, val_num hd, h1]
    exact cnt_one (by omega)
  · show pz_sk B n2.toInt.toNat = pz_sk B (pz_te B n1.toInt.toNat)
    rw [show n2.toInt.toNat = pz_te B n1.toInt.toNat by omega]
  · show md'.toInt = ((md.toInt.toNat + 1 : Nat) : Int)
    omega
theorem RfE.none {B : Nat → Int} {nx n1 md wr : Int32} (hs : SkR B nx n1) (hd : ¬ (48 ≤ B n1.toInt.toNat ∧ B n1.toInt.toNat ≤ 57)) (hw : pz_wa B n1.toInt.toNat pz_words 0 = -1) (h0 : 0 ≤ n1.toInt) (he : wr.toInt = 1 + 8 * n1.toInt) : RfE (pz_val B (St0 B nx md)) wr := by
  refine ⟨wr.toInt, ?_, rfl⟩
  unfold St0
  rw [hs.nat, val_none hd hw]
  congr 1
  unfold pz_er; omega
theorem RfE.wordMax {B : Nat → Int} {nx n1 md wr : Int32} (hs : SkR B nx n1) (hd : ¬ (48 ≤ B n1.toInt.toNat ∧ B n1.toInt.toNat ≤ 57)) (hw : ¬ pz_wa B n1.toInt.toNat pz_words 0 = -1) (hm : 60 ≤ md.toInt) (h0 : 0 ≤ n1.toInt) (he : wr.toInt = 1 + 8 * n1.toInt + 3) : RfE (pz_val B (St0 B nx md)) wr := by
  refine ⟨wr.toInt, ?_, rfl⟩
  unfold St0
  rw [hs.nat, val_word hd hw, cnt_max (by omega)]
  congr 1
  unfold pz_er; omega
theorem RfO.word {B : Nat → Int} {nx n1 n2 md md' wr : Int32} (hs : SkR B nx n1) (hd : ¬ (48 ≤ B n1.toInt.toNat ∧ B n1.toInt.toNat ≤ 57)) (hw : ¬ pz_wa B n1.toInt.toNat pz_words 0 = -1) (hL : 97 ≤ B n1.toInt.toNat ∧ B n1.toInt.toNat ≤ 122) (hp : PsR B n1 n2) (hm : 0 ≤ md.toInt ∧ md.toInt < 60 ∧ md'.toInt = md.toInt + 1) (he : wr.toInt = 0) : RfO (pz_val B (St0 B nx md)) B wr n2 md' := by
  refine ⟨(pz_nt B n1.toInt.toNat, md.toInt.toNat + 1), ?_, he, ?_, ?_⟩
  · unfold St0
    rw [hs.nat, val_word hd hw]
    exact cnt_one (by omega)
  · show pz_sk B n2.toInt.toNat = pz_sk B (pz_te B n1.toInt.toNat)
    rw [hp.te hL]
  · show md'.toInt = ((md.toInt.toNat + 1 : Nat) : Int)
    omega
theorem SkR.eq {B : Nat → Int} {a b c : Int32} (h : SkR B a b) (h2 : SkR B b c) : c = b := by
  apply Int32.toInt_inj.mp
  have h3 := h2.1
  have h4 := h.1
  rw [h.2.1] at h3
  omega
theorem SkR.eqB {B : Nat → Int} {a b c : Int32} (h : SkR B a b) (h2 : SkR B b c) : B c.toInt.toNat = B b.toInt.toNat ∧ c.toInt = b.toInt := by
  rw [h.eq h2]; exact ⟨rfl, rfl⟩
theorem SkR.self {B : Nat → Int} {a b : Int32} (h : SkR B a b) : SkR B b b := ⟨by have := h.1; rw [h.2.1]; omega, h.2⟩
theorem RfO.st {r : Except Int (Nat × Nat)} {B : Nat → Int} {wr nx md : Int32} (h : RfO r B wr nx md) : r = .ok (St0 B nx md) := by
  obtain ⟨s, rfl, -, h1, h2⟩ := h
  unfold St0
  rw [h1, show md.toInt.toNat = s.2 by omega]
theorem RfO.wr {r : Except Int (Nat × Nat)} {B : Nat → Int} {wr nx md : Int32} (h : RfO r B wr nx md) : wr.toInt = 0 := h.elim (fun _ z => z.2.1)
theorem RfO.of {r : Except Int (Nat × Nat)} {B : Nat → Int} {wr nx md : Int32} (h : r = .ok (St0 B nx md)) (hw : wr.toInt = 0) (hm : 0 ≤ md.toInt) : RfO r B wr nx md := ⟨St0 B nx md, h, hw, rfl, by show md.toInt = (md.toInt.toNat : Int); omega⟩
theorem St0.sk {B : Nat → Int} {nx n1 md : Int32} (h : SkR B nx n1) : St0 B n1 md = St0 B nx md := by
  unfold St0; rw [h.sk]
theorem St0.at {B : Nat → Int} {nx n1 md : Int32} (h : SkR B nx n1) : St0 B nx md = (n1.toInt.toNat, md.toInt.toNat) := by
  unfold St0; rw [h.nat]
theorem te_op {B : Nat → Int} {p : Nat} (h : B p = 43 ∨ B p = 45 ∨ B p = 42 ∨ B p = 47 ∨ B p = 37) : pz_te B p = p + 1 := by
  unfold pz_te
  rw [if_neg (show ¬ pz_isL (B p) = true from fun z => by have := of_decide_eq_true z; omega), if_neg (show ¬ pz_isD (B p) = true from fun z => by have := of_decide_eq_true z; omega), if_neg (by omega), if_neg (by omega)]
theorem nx_te {B : Nat → Int} {nx n1 nx' md : Int32} (hs : SkR B nx n1) (ht : nx'.toInt = (pz_te B n1.toInt.toNat : Int)) : pz_nx B (St0 B nx md) = St0 B nx' md := by
  rw [St0.at hs]
  show (pz_sk B (pz_te B n1.toInt.toNat), md.toInt.toNat) = (pz_sk B nx'.toInt.toNat, md.toInt.toNat)
  rw [show nx'.toInt.toNat = pz_te B n1.toInt.toNat by omega]
theorem nx_op {B : Nat → Int} {nx n1 nx' md : Int32} (hs : SkR B nx n1) (h : B n1.toInt.toNat = 43 ∨ B n1.toInt.toNat = 45 ∨ B n1.toInt.toNat = 42 ∨ B n1.toInt.toNat = 47 ∨ B n1.toInt.toNat = 37) (h1 : nx'.toInt = n1.toInt + 1) : pz_nx B (St0 B nx md) = St0 B nx' md := nx_te hs (by have := hs.1; rw [te_op h]; omega)
def TmL (R : Except Int (Nat × Nat)) (B : Nat → Int) (wr nx md : Int32) : Prop := wr.toInt = 0 ∧ R = pz_lp (pz_sF B) (St0 B nx md)
def TmO (R : Except Int (Nat × Nat)) (B : Nat → Int) (wr nx md : Int32) : Prop := TmL R B wr nx md ∧ ¬ (B (pz_sk B nx.toInt.toNat) = 42 ∨ B (pz_sk B nx.toInt.toNat) = 47 ∨ B (pz_sk B nx.toInt.toNat) = 37)
theorem TmL.first {B : Nat → Int} {s : Nat × Nat} {wr nx md : Int32} (h : RfO (pz_val B s) B wr nx md) : TmL (pz_sum B s) B wr nx md := ⟨h.elim (fun _ z => z.2.1), by unfold pz_sum; rw [h.st]; rfl⟩
theorem RfE.sum1 {B : Nat → Int} {s : Nat × Nat} {wr : Int32} (h : RfE (pz_val B s) wr) : RfE (pz_sum B s) wr := by
  obtain ⟨e, h1, h2⟩ := h
  exact ⟨e, by unfold pz_sum; rw [h1]; rfl, h2⟩
theorem TmL.go {R : Except Int (Nat × Nat)} {B : Nat → Int} {wr nx md n1 nx' : Int32} (hB : pz_fi B) (h : TmL R B wr nx md) (hs : SkR B nx n1) (hop : B n1.toInt.toNat = 43 ∨ B n1.toInt.toNat = 45 ∨ B n1.toInt.toNat = 42 ∨ B n1.toInt.toNat = 47 ∨ B n1.toInt.toNat = 37) (h1 : nx'.toInt = n1.toInt + 1) : R = pz_sum B (St0 B nx' md) := by
  rw [h.2, pz_sum_on hB (by rw [St0.at hs]; exact hop), nx_op hs hop h1]
theorem TmL.next {R : Except Int (Nat × Nat)} {B : Nat → Int} {wr nx md n1 nx' wr2 nx2 md2 : Int32} (hB : pz_fi B) (h : TmL R B wr nx md) (hs : SkR B nx n1) (hop : B n1.toInt.toNat = 43 ∨ B n1.toInt.toNat = 45 ∨ B n1.toInt.toNat = 42 ∨ B n1.toInt.toNat = 47 ∨ B n1.toInt.toNat = 37) (h1 : nx'.toInt = n1.toInt + 1) (hv : RfO (pz_val B (St0 B nx' md)) B wr2 nx2 md2) : TmL R B wr2 nx2 md2 := by
  rw [h.go hB hs hop h1]; exact TmL.first hv
theorem TmL.er {R : Except Int (Nat × Nat)} {B : Nat → Int} {wr nx md n1 nx' wr2 : Int32} (hB : pz_fi B) (h : TmL R B wr nx md) (hs : SkR B nx n1) (hop : B n1.toInt.toNat = 43 ∨ B n1.toInt.toNat = 45 ∨ B n1.toInt.toNat = 42 ∨ B n1.toInt.toNat = 47 ∨ B n1.toInt.toNat = 37) (h1 : nx'.toInt = n1.toInt + 1) (hv : RfE (pz_val B (St0 B nx' md)) wr2) : RfE R wr2 := by
  rw [h.go hB hs hop h1]; exact RfE.sum1 hv
theorem TmO.of {R : Except Int (Nat × Nat)} {B : Nat → Int} {wr nx md n1 : Int32} (h : TmL R B wr nx md) (hs : SkR B nx n1) (hn : ¬ (B n1.toInt.toNat = 42 ∨ B n1.toInt.toNat = 47 ∨ B n1.toInt.toNat = 37)) : TmO R B wr n1 md := by
  refine ⟨⟨h.1, ?_⟩, ?_⟩
  · rw [St0.sk hs]; exact h.2
  · rw [hs.2.1]; exact hn
theorem TmO.next {R : Except Int (Nat × Nat)} {B : Nat → Int} {wr nx md n1 nx' wr2 nx2 md2 : Int32} (hB : pz_fi B) (h : TmO R B wr nx md) (hs : SkR B nx n1) (hop : B n1.toInt.toNat = 43 ∨ B n1.toInt.toNat = 45) (h1 : nx'.toInt = n1.toInt + 1) (hv : TmO (pz_sum B (St0 B nx' md)) B wr2 nx2 md2) : TmO R B wr2 nx2 md2 := by
  rw [h.1.go hB hs (by omega) h1]; exact hv
theorem TmO.er {R : Except Int (Nat × Nat)} {B : Nat → Int} {wr nx md n1 nx' wr2 : Int32} (hB : pz_fi B) (h : TmO R B wr nx md) (hs : SkR B nx n1) (hop : B n1.toInt.toNat = 43 ∨ B n1.toInt.toNat = 45) (h1 : nx'.toInt = n1.toInt + 1) (hv : RfE (pz_sum B (St0 B nx' md)) wr2) : RfE R wr2 := by
  rw [h.1.go hB hs (by omega) h1]; exact hv
theorem TmO.fin {R : Except Int (Nat × Nat)} {B : Nat → Int} {wr nx md n1 : Int32} (h : TmO R B wr nx md) (hs : SkR B nx n1) (hn : ¬ (B n1.toInt.toNat = 43 ∨ B n1.toInt.toNat = 45)) (hm : 0 ≤ md.toInt) : RfO R B wr n1 md := by
  refine RfO.of ?_ h.1.1 hm
  have h2 := h.2
  rw [hs.nat] at h2
  rw [h.1.2, pz_sum_no (by rw [St0.at hs]; intro z; have z : B n1.toInt.toNat = 43 ∨ B n1.toInt.toNat = 45 ∨ B n1.toInt.toNat = 42 ∨ B n1.toInt.toNat = 47 ∨ B n1.toInt.toNat = 37 := z; omega), St0.sk hs]
theorem RfE.com1 {B : Nat → Int} {s : Nat × Nat} {wr : Int32} (h : RfE (pz_sum B s) wr) : RfE (pz_com B s) wr := by
  obtain ⟨e, h1, h2⟩ := h
  exact ⟨e, by unfold pz_com; rw [h1]; rfl, h2⟩
theorem com_at {B : Nat → Int} {s : Nat × Nat} {wr nx md n1 : Int32} (h : RfO (pz_sum B s) B wr nx md) (hs : SkR B nx n1) : pz_com B s = pz_b (pz_cmp B (n1.toInt.toNat, md.toInt.toNat)) (pz_sum B) := by
  unfold pz_com
  rw [h.st, St0.at hs]; rfl
theorem RfE.com0 {B : Nat → Int} {s : Nat × Nat} {w0 nx md n1 wr : Int32} (h : RfO (pz_sum B s) B w0 nx md) (hs : SkR B nx n1) (hc : ¬ (B n1.toInt.toNat = 60 ∨ B n1.toInt.toNat = 61 ∨ B n1.toInt.toNat = 62)) (hw : wr.toInt = 1 + 8 * n1.toInt) : RfE (pz_com B s) wr := by
  refine ⟨wr.toInt, ?_, rfl⟩
  have := hs.1
  rw [com_at h hs, show pz_cmp B (n1.toInt.toNat, md.toInt.toNat) = .error (pz_er 0 n1.toInt.toNat) from if_neg hc]
  show Except.error _ = _
  congr 1
  unfold pz_er; omega
theorem RfE.com3 {B : Nat → Int} {s : Nat × Nat} {w0 nx md n1 wr : Int32} (h : RfO (pz_sum B s) B w0 nx md) (hs : SkR B nx n1) (hc : B n1.toInt.toNat = 60 ∨ B n1.toInt.toNat = 61 ∨ B n1.toInt.toNat = 62) (hm : 60 ≤ md.toInt) (hw : wr.toInt = 1 + 8 * n1.toInt + 3) : RfE (pz_com B s) wr := by
  refine ⟨wr.toInt, ?_, rfl⟩
  have := hs.1
  rw [com_at h hs, show pz_cmp B (n1.toInt.toNat, md.toInt.toNat) = pz_cnt B (n1.toInt.toNat, md.toInt.toNat) from if_pos hc, cnt_max (by omega)]
  show Except.error _ = _
  congr 1
  unfold pz_er; omega
theorem te_cmp {B : Nat → Int} {p : Nat} (hc : B p = 60 ∨ B p = 61 ∨ B p = 62) : pz_te B p = if (B p = 60 ∨ B p = 62) ∧ B (p + 1) = 61 then p + 2 else p + 1 := by
  unfold pz_te
  rw [if_neg (show ¬ pz_isL (B p) = true from fun z => by have := of_decide_eq_true z; omega), if_neg (show ¬ pz_isD (B p) = true from fun z => by have := of_decide_eq_true z; omega), if_neg (by omega)]
theorem com_go {B : Nat → Int} {s : Nat × Nat} {w0 nx md n1 nx' md' : Int32} (h : RfO (pz_sum B s) B w0 nx md) (hs : SkR B nx n1) (hc : B n1.toInt.toNat = 60 ∨ B n1.toInt.toNat = 61 ∨ B n1.toInt.toNat = 62) (ha : (nx'.toInt = n1.toInt + 1 ∧ ¬ ((B n1.toInt.toNat = 60 ∨ B n1.toInt.toNat = 62) ∧ B (n1.toInt.toNat + 1) = 61)) ∨ (nx'.toInt = n1.toInt + 2 ∧ (B n1.toInt.toNat = 60 ∨ B n1.toInt.toNat = 62) ∧ B (n1.toInt.toNat + 1) = 61)) (hm : 0 ≤ md.toInt ∧ md.toInt < 60 ∧ md'.toInt = md.toInt + 1) : pz_com B s = pz_sum B (St0 B nx' md') := by
  have h0 := hs.1
  have et : nx'.toInt.toNat = pz_te B n1.toInt.toNat := by
    rw [te_cmp hc]
    rcases ha with ⟨h1, h2⟩ | ⟨h1, h2⟩
    · rw [if_neg h2]; omega
    · rw [if_pos h2]; omega
  rw [com_at h hs, show pz_cmp B (n1.toInt.toNat, md.toInt.toNat) = pz_cnt B (n1.toInt.toNat, md.toInt.toNat) from if_pos hc, cnt_one (by omega)]
  show pz_sum B (pz_nt B n1.toInt.toNat, md.toInt.toNat + 1) = pz_sum B (pz_sk B nx'.toInt.toNat, md'.toInt.toNat)
  rw [et, show md'.toInt.toNat = md.toInt.toNat + 1 by omega]
  rfl
theorem RfE.com2 {B : Nat → Int} {s : Nat × Nat} {w0 nx md n1 nx' md' wr : Int32} (h : RfO (pz_sum B s) B w0 nx md) (hs : SkR B nx n1) (hc : B n1.toInt.toNat = 60 ∨ B n1.toInt.toNat = 61 ∨ B n1.toInt.toNat = 62) (ha : (nx'.toInt = n1.toInt + 1 ∧ ¬ ((B n1.toInt.toNat = 60 ∨ B n1.toInt.toNat = 62) ∧ B (n1.toInt.toNat + 1) = 61)) ∨ (nx'.toInt = n1.toInt + 2 ∧ (B n1.toInt.toNat = 60 ∨ B n1.toInt.toNat = 62) ∧ B (n1.toInt.toNat + 1) = 61)) (hm : 0 ≤ md.toInt ∧ md.toInt < 60 ∧ md'.toInt = md.toInt + 1) (hv : RfE (pz_sum B (St0 B nx' md')) wr) : RfE (pz_com B s) wr := by
  rw [com_go h hs hc ha hm]; exact hv
theorem RfO.com {B : Nat → Int} {s : Nat × Nat} {w0 nx md n1 nx' md' wr nx2 md2 : Int32} (h : RfO (pz_sum B s) B w0 nx md) (hs : SkR B nx n1) (hc : B n1.toInt.toNat = 60 ∨ B n1.toInt.toNat = 61 ∨ B n1.toInt.toNat = 62) (ha : (nx'.toInt = n1.toInt + 1 ∧ ¬ ((B n1.toInt.toNat = 60 ∨ B n1.toInt.toNat = 62) ∧ B (n1.toInt.toNat + 1) = 61)) ∨ (nx'.toInt = n1.toInt + 2 ∧ (B n1.toInt.toNat = 60 ∨ B n1.toInt.toNat = 62) ∧ B (n1.toInt.toNat + 1) = 61)) (hm : 0 ≤ md.toInt ∧ md.toInt < 60 ∧ md'.toInt = md.toInt + 1) (hv : RfO (pz_sum B (St0 B nx' md')) B wr nx2 md2) : RfO (pz_com B s) B wr nx2 md2 := by
  rw [com_go h hs hc ha hm]; exact hv
def ok_os (f : Nat → Int32) : Nat → List Nat × Nat
  | 0 => ([10], 0)
  | k + 1 => if (f k).toInt = 11 then ((ok_os f k).1, (ok_os f k).2 + 1) else if (f k).toInt = 91 then ((10 - ((ok_os f k).2 + 1)) :: (ok_os f k).1, (ok_os f k).2 + 1) else ok_os f k
def ok_gs (f : Nat → Int32) (n : Nat) : Prop := ∀ k, k + 1 < n → ((f (k + 1)).toInt = 12 ∨ (f (k + 1)).toInt = 13) → (f k).toInt ≠ 11
theorem ok_os_11 {f : Nat → Int32} {k : Nat} (h : (f k).toInt = 11) : ok_os f (k + 1) = ((ok_os f k).1, (ok_os f k).2 + 1) := if_pos h
theorem ok_os_91 {f : Nat → Int32} {k : Nat} (h : (f k).toInt = 91) : ok_os f (k + 1) = ((10 - ((ok_os f k).2 + 1)) :: (ok_os f k).1, (ok_os f k).2 + 1) := (if_neg (by omega)).trans (if_pos h)
theorem ok_os_no {f : Nat → Int32} {k : Nat} (h : ¬ (f k).toInt = 11) (h2 : ¬ (f k).toInt = 91) : ok_os f (k + 1) = ok_os f k := (if_neg h).trans (if_neg h2)
theorem ok_os_eq {f g : Nat → Int32} : ∀ n, (∀ k, k < n → f k = g k) → ok_os f n = ok_os g n
  | 0, _ => rfl
  | n + 1, h => by
    have e := ok_os_eq n (fun k hk => h k (by omega))
    show (if (f n).toInt = 11 then ((ok_os f n).1, (ok_os f n).2 + 1) else if (f n).toInt = 91 then ((10 - ((ok_os f n).2 + 1)) :: (ok_os f n).1, (ok_os f n).2 + 1) else ok_os f n) = (if (g n).toInt = 11 then ((ok_os g n).1, (ok_os g n).2 + 1) else if (g n).toInt = 91 then ((10 - ((ok_os g n).2 + 1)) :: (ok_os g n).1, (ok_os g n).2 + 1) else ok_os g n)
    rw [e, h n (by omega)]
theorem ok_os_ne {f : Nat → Int32} : ∀ n, ∃ m S, (ok_os f n).1 = m :: S
  | 0 => ⟨10, [], rfl⟩
  | n + 1 => by
    by_cases h : (f n).toInt = 11
    · rw [ok_os_11 h]; exact ok_os_ne n
    · by_cases h2 : (f n).toInt = 91
      · rw [ok_os_91 h2]; exact ⟨_, _, rfl⟩
      · rw [ok_os_no h h2]; exact ok_os_ne n
theorem ok_os_hd {f : Nat → Int32} : ∀ n, ok_gs f n → (∀ k, k < n → (f k).toInt = 11 ∨ (f k).toInt = 12 ∨ (f k).toInt = 13 ∨ (f k).toInt = 91) → (n = 0 ∨ (f (n - 1)).toInt ≠ 11) → ∃ S, (ok_os f n).1 = (10 - (ok_os f n).2) :: S
  | 0, _, _, _ => ⟨[], rfl⟩
  | n + 1, hg, hk, ht => by
    have ht : (f n).toInt ≠ 11 := by
      rcases ht with h | h
      · omega
      · exact h
    by_cases h2 : (f n).toInt = 91
    · rw [ok_os_91 h2]; exact ⟨_, rfl⟩
    · rw [ok_os_no ht h2]
      refine ok_os_hd n (fun k hk => hg k (by omega)) (fun k h => hk k (by omega)) ?_
      by_cases z : n = 0
      · exact Or.inl z
      · right
        have h3 := hk n (by omega)
        have h4 := hg (n - 1) (by omega)
        rw [show n - 1 + 1 = n by omega] at h4
        exact h4 (by omega)
theorem ok_os_nins {f : Nat → Int32} : ∀ n : Nat, (∀ k : Nat, k < n → (f k).toInt ≠ 91) → (ok_os f n).1 = [10]
  | 0, _ => rfl
  | n + 1, h => by
    have e := ok_os_nins n (fun k hk => h k (by omega))
    by_cases h1 : (f n).toInt = 11
    · rw [ok_os_11 h1]; exact e
    · rw [ok_os_no h1 (h n (by omega))]; exact e
theorem ok_os_ins {f : Nat → Int32} : ∀ n : Nat, (∃ k : Nat, k < n ∧ (f k).toInt = 91) → ∃ m m' S, (ok_os f n).1 = m :: m' :: S
  | 0, h => by obtain ⟨k, h1, _⟩ := h; omega
  | n + 1, h => by
    by_cases h2 : (f n).toInt = 91
    · rw [ok_os_91 h2]
      obtain ⟨m, S, e⟩ := ok_os_ne (f := f) n
      rw [e]; exact ⟨_, _, _, rfl⟩
    · have ih : ∃ m m' S, (ok_os f n).1 = m :: m' :: S := ok_os_ins n (by
        obtain ⟨k, h3, h4⟩ := h
        refine ⟨k, ?_, h4⟩
        rcases Nat.lt_or_ge k n with z | z
        · exact z
        · exfalso; exact h2 (by rw [show n = k by omega]; exact h4))
      by_cases h1 : (f n).toInt = 11
      · rw [ok_os_11 h1]; exact ih
      · rw [ok_os_no h1 h2]; exact ih
def OsP (f : Nat → Int32) (n dp : Int32) : Prop := 0 ≤ n.toInt ∧ dp.toInt = ((ok_os f n.toInt.toNat).2 : Int) ∧ dp.toInt ≤ 10 ∧ ok_gs f n.toInt.toNat ∧ ∀ k : Nat, (k : Int) < n.toInt → (f k).toInt = 11 ∨ (f k).toInt = 12 ∨ (f k).toInt = 13 ∨ (f k).toInt = 91
theorem OsP.ar {f : Nat → Int32} {n dp : Int32} (h : OsP f n dp) : 0 ≤ n.toInt ∧ 0 ≤ dp.toInt ∧ dp.toInt ≤ 10 := by
  obtain ⟨h1, h2, h3, -, -⟩ := h
  omega
theorem OsP.nil {f : Nat → Int32} {n dp : Int32} (hn : n.toInt = 0) (hd : dp.toInt = 0) : OsP f n dp := by
  refine ⟨by omega, ?_, by omega, ?_, fun k hk => by omega⟩
  · rw [hn, hd]; rfl
  · rw [hn]; intro k hk; exact absurd hk (by simp)
def T11 (f : Nat → Int32) (n : Int32) : Prop := n.toInt = 0 ∨ (f (n.toInt.toNat - 1)).toInt ≠ 11
theorem OsP.hd {f : Nat → Int32} {n dp : Int32} (h : OsP f n dp) (ht : T11 f n) : ∃ S, (ok_os f n.toInt.toNat).1 = (10 - dp.toInt.toNat) :: S := by
  obtain ⟨h1, h2, h3, h4, h5⟩ := h
  have := ok_os_hd n.toInt.toNat h4 (fun k hk => h5 k (by omega)) (by rcases ht with z | z; exact Or.inl (by omega); exact Or.inr z)
  rw [show dp.toInt.toNat = (ok_os f n.toInt.toNat).2 by omega]
  exact this
theorem OsP.push {f g : Nat → Int32} {n n' dp dp' x : Int32} (h : OsP f n dp) (e : g = upd f n.toNatClampNeg x) (hn : n'.toInt = n.toInt + 1) (hx : (x.toInt = 11 ∧ dp'.toInt = dp.toInt + 1 ∧ dp.toInt < 10) ∨ (x.toInt = 91 ∧ dp'.toInt = dp.toInt + 1 ∧ dp.toInt < 10) ∨ ((x.toInt = 12 ∨ x.toInt = 13) ∧ dp'.toInt = dp.toInt ∧ T11 f n)) : OsP g n' dp' ∧ (ok_os g n'.toInt.toNat).1 = if x.toInt = 91 then (10 - dp'.toInt.toNat) :: (ok_os f n.toInt.toNat).1 else (ok_os f n.toInt.toNat).1 := by
  obtain ⟨h1, h2, h3, h4, h5⟩ := h
  have en : n.toNatClampNeg = n.toInt.toNat := rfl
  rw [en] at e
  have e1 : n'.toInt.toNat = n.toInt.toNat + 1 := by omega
  have eg : ∀ k, k < n.toInt.toNat → g k = f k := fun k hk => by rw [e, upd_ne (by omega)]
  have ex : g n.toInt.toNat = x := by rw [e, upd_at]
  have eo := ok_os_eq n.toInt.toNat eg
  have hk5 : ∀ k : Nat, (k : Int) < n'.toInt → (g k).toInt = 11 ∨ (g k).toInt = 12 ∨ (g k).toInt = 13 ∨ (g k).toInt = 91 := fun k hk => by
    by_cases z : k < n.toInt.toNat
    · rw [eg k z]; exact h5 k (by omega)
    · rw [show k = n.toInt.toNat by omega, ex]; omega
  have hgs : (x.toInt = 12 ∨ x.toInt = 13 → T11 f n) → ok_gs g n'.toInt.toNat := fun ht k hk hv => by
    rw [e1] at hk
    rw [eg k (by omega)]
    by_cases z : k + 1 < n.toInt.toNat
    · rw [eg (k + 1) z] at hv; exact h4 k z hv
    · rw [show k + 1 = n.toInt.toNat by omega, ex] at hv
      rcases ht hv with y | y
      · omega
      · rw [show n.toInt.toNat - 1 = k by omega] at y; exact y
  rcases hx with ⟨a, b, c⟩ | ⟨a, b, c⟩ | ⟨a, b, c⟩
  · have e2 : ok_os g n'.toInt.toNat = ((ok_os f n.toInt.toNat).1, (ok_os f n.toInt.toNat).2 + 1) := by rw [e1, ok_os_11 (by rw [ex]; exact a), eo]
    refine ⟨⟨by omega, ?_, by omega, hgs (fun z => by omega), hk5⟩, ?_⟩
    · rw [e2]; show dp'.toInt = (((ok_os f n.toInt.toNat).2 + 1 : Nat) : Int); omega
    · rw [e2, if_neg (by omega)]
  · have e2 : ok_os g n'.toInt.toNat = ((10 - ((ok_os f n.toInt.toNat).2 + 1)) :: (ok_os f n.toInt.toNat).1, (ok_os f n.toInt.toNat).2 + 1) := by rw [e1, ok_os_91 (by rw [ex]; exact a), eo]
    refine ⟨⟨by omega, ?_, by omega, hgs (fun z => by omega), hk5⟩, ?_⟩
    · rw [e2]; show dp'.toInt = (((ok_os f n.toInt.toNat).2 + 1 : Nat) : Int); omega
    · rw [e2, if_pos a, show dp'.toInt.toNat = (ok_os f n.toInt.toNat).2 + 1 by omega]
  · have e2 : ok_os g n'.toInt.toNat = ok_os f n.toInt.toNat := by rw [e1, ok_os_no (by rw [ex]; omega) (by rw [ex]; omega), eo]
    refine ⟨⟨by omega, ?_, by omega, hgs (fun _ => c), hk5⟩, ?_⟩
    · rw [e2]; omega
    · rw [e2, if_neg (by omega)]
theorem OsP.pop {f : Nat → Int32} {n n' dp dp' x : Int32} (h : OsP f n dp) (ex : x = f n'.toNatClampNeg) (hn : n'.toInt = n.toInt - 1) (h0 : 1 ≤ n.toInt) (hx : (x.toInt = 11 ∧ dp'.toInt = dp.toInt - 1) ∨ ((x.toInt = 12 ∨ x.toInt = 13) ∧ dp'.toInt = dp.toInt) ∨ (x.toInt = 91 ∧ dp'.toInt = dp.toInt - 1)) : OsP f n' dp' ∧ (¬ x.toInt = 91 → (ok_os f n'.toInt.toNat).1 = (ok_os f n.toInt.toNat).1) ∧ (x.toInt = 91 → ∃ m, (ok_os f n.toInt.toNat).1 = m :: (ok_os f n'.toInt.toNat).1) := by
  obtain ⟨h1, h2, h3, h4, h5⟩ := h
  have en : n'.toNatClampNeg = n'.toInt.toNat := rfl
  rw [en] at ex
  have e1 : n.toInt.toNat = n'.toInt.toNat + 1 := by omega
  have hg : ok_gs f n'.toInt.toNat := fun k hk => h4 k (by omega)
  have hk5 : ∀ k : Nat, (k : Int) < n'.toInt → (f k).toInt = 11 ∨ (f k).toInt = 12 ∨ (f k).toInt = 13 ∨ (f k).toInt = 91 := fun k hk => h5 k (by omega)
  rw [e1] at h2
  rcases hx with ⟨a, b⟩ | ⟨a, b⟩ | ⟨a, b⟩
  · have e2 := ok_os_11 (f := f) (k := n'.toInt.toNat) (by rw [← ex]; exact a)
    rw [e2] at h2
    have h2 : dp.toInt = (((ok_os f n'.toInt.toNat).2 + 1 : Nat) : Int) := h2
    refine ⟨⟨by omega, by omega, by omega, hg, hk5⟩, fun _ => ?_, fun z => by omega⟩
    rw [e1, e2]
  · have e2 := ok_os_no (f := f) (k := n'.toInt.toNat) (by rw [← ex]; omega) (by rw [← ex]; omega)
    rw [e2] at h2
    refine ⟨⟨by omega, by omega, by omega, hg, hk5⟩, fun _ => ?_, fun z => by omega⟩
    rw [e1, e2]
  · have e2 := ok_os_91 (f := f) (k := n'.toInt.toNat) (by rw [← ex]; exact a)
    rw [e2] at h2
    have h2 : dp.toInt = (((ok_os f n'.toInt.toNat).2 + 1 : Nat) : Int) := h2
    refine ⟨⟨by omega, by omega, by omega, hg, hk5⟩, fun z => absurd a z, fun _ => ?_⟩
    rw [e1, e2]; exact ⟨_, rfl⟩
def OpP (f : Nat → Int32) (n : Int32) (g : Nat → Int32) (n' dp' x : Int32) : Prop := OsP g n' dp' ∧ (ok_os g n'.toInt.toNat).1 = if x.toInt = 91 then (10 - dp'.toInt.toNat) :: (ok_os f n.toInt.toNat).1 else (ok_os f n.toInt.toNat).1
def LdP (f : Nat → Int32) (n n' dp' : Int32) : Prop := OsP f n' dp' ∧ (ok_os f n'.toInt.toNat).1 = (ok_os f n.toInt.toNat).1
theorem LdP.rf {f : Nat → Int32} {n dp : Int32} (h : OsP f n dp) : LdP f n n dp := ⟨h, rfl⟩
theorem LdP.step {f : Nat → Int32} {n0 n n' dp dp' x : Int32} (h : LdP f n0 n dp) (ex : x = f n'.toNatClampNeg) (hn : n'.toInt = n.toInt - 1) (h0 : 1 ≤ n.toInt) (hx : (x.toInt = 11 ∧ dp'.toInt = dp.toInt - 1) ∨ ((x.toInt = 12 ∨ x.toInt = 13) ∧ dp'.toInt = dp.toInt)) : LdP f n0 n' dp' := by
  have := OsP.pop (dp' := dp') h.1 ex hn h0 (by omega)
  exact ⟨this.1, (this.2.1 (by omega)).trans h.2⟩
theorem T11.of {f : Nat → Int32} {n i x : Int32} (ex : x = f i.toNatClampNeg) (hi : i.toInt = n.toInt - 1) (hn : 1 ≤ n.toInt) (h : ¬ x.toInt = 11) : T11 f n := by
  right
  have e : i.toNatClampNeg = n.toInt.toNat - 1 := by
    show i.toInt.toNat = _
    omega
  rw [← e, ← ex]; exact h
def FcO (R : Except Int (Nat × Nat)) (B : Nat → Int) (f : Nat → Int32) (n dp nx md wr : Int32) : Prop := OsP f n dp ∧ wr.toInt = 0 ∧ R = pz_K B (ok_os f n.toInt.toNat).1 (.ok (St0 B nx md))
def FcI (R : Except Int (Nat × Nat)) (B : Nat → Int) (f : Nat → Int32) (n dp nx md wr : Int32) : Prop := OsP f n dp ∧ wr.toInt = 0 ∧ R = pz_K B (ok_os f n.toInt.toNat).1 (pz_fact B (10 - dp.toInt.toNat) (St0 B nx md))
def FcL (R : Except Int (Nat × Nat)) (B : Nat → Int) (f : Nat → Int32) (n dp nx md wr mo : Int32) : Prop := (OsP f n dp ∧ wr.toInt = 0) ∧ (mo.toInt = 1 → FcI R B f n dp nx md wr) ∧ (mo.toInt = 0 → R = pz_K B (ok_os f n.toInt.toNat).1 (pz_com B (St0 B nx md)))
theorem FcL.first {R : Except Int (Nat × Nat)} {B : Nat → Int} {f : Nat → Int32} {n dp nx md wr mo : Int32} (h : FcI R B f n dp nx md wr) (hm : mo.toInt = 1) : FcL R B f n dp nx md wr mo := ⟨⟨h.1, h.2.1⟩, fun _ => h, fun z => by omega⟩
theorem FcL.not {R : Except Int (Nat × Nat)} {B : Nat → Int} {f g : Nat → Int32} {n dp nx md wr mo n1 n' dp' nx' wr' mo' x : Int32} (h : FcL R B f n dp nx md wr mo) (hm : mo.toInt = 1) (hs : SkR B nx n1) (hw : pz_wd B n1.toInt.toNat pz_not = true) (ho : OpP f n g n' dp' x) (hx : x.toInt = 11) (hd : dp'.toInt = dp.toInt + 1) (hp : PsR B n1 nx') (hwr : wr'.toInt = 0) (hm' : mo'.toInt = 1) : FcL R B g n' dp' nx' md wr' mo' := by
  obtain ⟨h1, -, h3⟩ := h.2.1 hm
  have hc := ho.1.2.2.1
  have hc0 := h1.ar
  refine FcL.first ⟨ho.1, hwr, ?_⟩ hm'
  rw [h3, ho.2, if_neg (by omega), show 10 - dp.toInt.toNat = (10 - dp'.toInt.toNat) + 1 by omega, pz_K_not (by rw [St0.at hs]; exact hw)]
  have hl : 97 ≤ B n1.toInt.toNat ∧ B n1.toInt.toNat ≤ 122 := by
    have := (of_decide_eq_true hw).2 0 (by decide)
    rw [Nat.add_zero] at this
    rw [this]; decide
  rw [nx_te (nx' := nx') hs (by have := hp.te hl; have h5 := hp; unfold PsR at h5; omega)]
theorem te_br {B : Nat → Int} {p : Nat} (h : B p = 91 ∨ B p = 93 ∨ B p = 59) : pz_te B p = p + 1 := by
  unfold pz_te
  rw [if_neg (show ¬ pz_isL (B p) = true from fun z => by have := of_decide_eq_true z; omega), if_neg (show ¬ pz_isD (B p) = true from fun z => by have := of_decide_eq_true z; omega), if_neg (by omega), if_neg (by omega)]
theorem FcL.br {R : Except Int (Nat × Nat)} {B : Nat → Int} {f g : Nat → Int32} {n dp nx md wr mo n1 n' dp' nx' wr' mo' x : Int32} (h : FcL R B f n dp nx md wr mo) (hm : mo.toInt = 1) (hs : SkR B nx n1) (hw : ¬ pz_wd B n1.toInt.toNat pz_not = true) (hb : B n1.toInt.toNat = 91) (ho : OpP f n g n' dp' x) (hx : x.toInt = 91) (hd : dp'.toInt = dp.toInt + 1) (hp : nx'.toInt = n1.toInt + 1) (hwr : wr'.toInt = 0) (hm' : mo'.toInt = 1) : FcL R B g n' dp' nx' md wr' mo' := by
  obtain ⟨h1, -, h3⟩ := h.2.1 hm
  have hc := ho.1.2.2.1
  have hc0 := h1.ar
  have h0 := hs.1
  refine FcL.first ⟨ho.1, hwr, ?_⟩ hm'
  obtain ⟨m, S, e⟩ := ok_os_ne (f := f) n.toInt.toNat
  rw [h3, ho.2, if_pos hx, e, show 10 - dp.toInt.toNat = (10 - dp'.toInt.toNat) + 1 by omega, pz_K_open (by rw [St0.at hs]; exact hw) (by rw [St0.at hs]; exact hb), nx_te (nx' := nx') hs (by rw [te_br (Or.inl hb)]; omega)]
theorem FcL.deep {R : Except Int (Nat × Nat)} {B : Nat → Int} {f : Nat → Int32} {n dp nx md wr mo n1 wr' : Int32} (h : FcL R B f n dp nx md wr mo) (hm : mo.toInt = 1) (hs : SkR B nx n1) (hc : pz_wd B n1.toInt.toNat pz_not = true ∨ B n1.toInt.toNat = 91) (hd : dp.toInt = 10) (hw : wr'.toInt = 1 + 8 * n1.toInt + 2) : RfE R wr' := by
  obtain ⟨h1, -, h3⟩ := h.2.1 hm
  have h0 := hs.1
  refine ⟨wr'.toInt, ?_, rfl⟩
  rw [h3, show 10 - dp.toInt.toNat = 0 by omega, pz_K_deep (by rw [St0.at hs]; exact hc), St0.at hs]
  congr 1
  unfold pz_er; omega
theorem FcL.com {R : Except Int (Nat × Nat)} {B : Nat → Int} {f : Nat → Int32} {n dp nx md wr mo n1 mo' : Int32} (h : FcL R B f n dp nx md wr mo) (hm : mo.toInt = 1) (hs : SkR B nx n1) (hw : ¬ pz_wd B n1.toInt.toNat pz_not = true) (hb : ¬ B n1.toInt.toNat = 91) (hm' : mo'.toInt = 0) : FcL R B f n dp n1 md wr mo' := by
  obtain ⟨h1, h2, h3⟩ := h.2.1 hm
  refine ⟨⟨h1, h2⟩, fun z => by omega, fun _ => ?_⟩
  rw [h3, pz_K_com (by rw [St0.at hs]; exact hw) (by rw [St0.at hs]; exact hb), St0.sk hs]
theorem FcL.out {R : Except Int (Nat × Nat)} {B : Nat → Int} {f : Nat → Int32} {n dp nx md wr mo wr' nx' md' : Int32} (h : FcL R B f n dp nx md wr mo) (hm : mo.toInt = 0) (hc : RfO (pz_com B (St0 B nx md)) B wr' nx' md') : FcO R B f n dp nx' md' wr' := by
  refine ⟨h.1.1, hc.wr, ?_⟩
  rw [h.2.2 hm, hc.st]
theorem FcL.er {R : Except Int (Nat × Nat)} {B : Nat → Int} {f : Nat → Int32} {n dp nx md wr mo wr' : Int32} (h : FcL R B f n dp nx md wr mo) (hm : mo.toInt = 0) (hc : RfE (pz_com B (St0 B nx md)) wr') : RfE R wr' := by
  obtain ⟨e, h1, h2⟩ := hc
  refine ⟨e, ?_, h2⟩
  rw [h.2.2 hm, h1]; exact pz_K_er _
theorem FcO.ld {R : Except Int (Nat × Nat)} {B : Nat → Int} {f : Nat → Int32} {n dp nx md wr n' dp' : Int32} (h : FcO R B f n dp nx md wr) (hl : LdP f n n' dp') : FcO R B f n' dp' nx md wr := ⟨hl.1, h.2.1, by rw [hl.2]; exact h.2.2⟩
theorem FcO.sk {R : Except Int (Nat × Nat)} {B : Nat → Int} {f : Nat → Int32} {n dp nx md wr n1 : Int32} (h : FcO R B f n dp nx md wr) (hs : SkR B nx n1) : FcO R B f n dp n1 md wr := ⟨h.1, h.2.1, by rw [St0.sk hs]; exact h.2.2⟩
theorem FcO.close {R : Except Int (Nat × Nat)} {B : Nat → Int} {f : Nat → Int32} {n dp nx md wr n1 n2 dp2 n3 dp3 nx3 least : Int32} (h : FcO R B f n dp nx md wr) (hi : Ins f n) (hl : LdP f n n2 dp2) (he : LdE f n2 least) (h1 : least.toInt = 1) (hn3 : n3.toInt = n2.toInt - 1) (hd3 : dp3.toInt = dp2.toInt - 1) (hs : SkR B nx n1) (h93 : B n1.toInt.toNat = 93) (hx : nx3.toInt = n1.toInt + 1) : FcO R B f n3 dp3 nx3 md wr := by
  have hn0 := hl.1.1
  have hk := hl.1.2.2.2.2
  have h0 := hs.1
  obtain ⟨m, m', S, e⟩ := ok_os_ins (f := f) n.toInt.toNat (by obtain ⟨k, a, b⟩ := hi; exact ⟨k, by omega, b⟩)
  rw [← hl.2] at e
  have hp : 1 ≤ n2.toInt := by
    refine Int.not_lt.mp (fun z => ?_)
    rw [show n2.toInt.toNat = 0 by omega] at e
    cases e
  have ht : (f (n2.toInt.toNat - 1)).toInt = 91 := by
    have a := hk (n2.toInt.toNat - 1) (by omega)
    rcases he with z | z
    · omega
    · rcases z with z | z
      · have := z (by omega); omega
      · omega
  have hpop := OsP.pop (dp' := dp3) (x := f n3.toNatClampNeg) hl.1 rfl hn3 hp (Or.inr (Or.inr ⟨by rw [show n3.toNatClampNeg = n2.toInt.toNat - 1 by show n3.toInt.toNat = _; omega]; exact ht, hd3⟩))
  obtain ⟨m2, e2⟩ := hpop.2.2 (by rw [show n3.toNatClampNeg = n2.toInt.toNat - 1 by show n3.toInt.toNat = _; omega]; exact ht)
  refine ⟨hpop.1, h.2.1, ?_⟩
  rw [e] at e2
  rw [h.2.2, ← hl.2, e, pz_K_close (by rw [St0.at hs]; exact h93), nx_te (nx' := nx3) hs (by rw [te_br (Or.inr (Or.inl h93))]; omega)]
  rw [← (List.cons.inj e2).2]
def NBr (B : Nat → Int) (f : Nat → Int32) (n nx : Int32) : Prop := NIns f n ∨ ¬ B (pz_sk B nx.toInt.toNat) = 93
theorem NBr.no {B : Nat → Int} {f : Nat → Int32} {n nx n1 : Int32} (hs : SkR B nx n1) (h : ¬ B n1.toInt.toNat = 93) : NBr B f n n1 := Or.inr (by rw [hs.2.1]; exact h)
theorem NBr.sk {B : Nat → Int} {f : Nat → Int32} {n nx n1 : Int32} (h : NBr B f n nx) (hs : SkR B nx n1) : NBr B f n n1 := by
  rcases h with h | h
  · exact Or.inl h
  · exact Or.inr (by rw [hs.sk]; exact h)
def NAo (B : Nat → Int) (p : Nat) : Prop := ¬ (pz_wd B p pz_and = true ∨ pz_wd B p pz_or = true)
def TsL (R : Except Int (Nat × Nat)) (B : Nat → Int) (f : Nat → Int32) (n dp nx md wr mo : Int32) : Prop := (OsP f n dp ∧ wr.toInt = 0) ∧ (mo.toInt = 1 → FcI R B f n dp nx md wr) ∧ (mo.toInt = 0 → FcO R B f n dp nx md wr ∧ NBr B f n nx ∧ NAo B (pz_sk B nx.toInt.toNat))
theorem TsL.first {B : Nat → Int} {f : Nat → Int32} {n dp nx md wr mo : Int32} (hn : n.toInt = 0) (hd : dp.toInt = 0) (hw : wr.toInt = 0) (hm : mo.toInt = 1) : TsL (pz_tst B (pz_fact B 10) (St0 B nx md)) B f n dp nx md wr mo := by
  refine ⟨⟨OsP.nil hn hd, hw⟩, fun _ => ⟨OsP.nil hn hd, hw, ?_⟩, fun z => by omega⟩
  rw [show n.toInt.toNat = 0 by omega, show dp.toInt.toNat = 0 by omega]
  rfl
theorem TsL.and {R : Except Int (Nat × Nat)} {B : Nat → Int} {f g : Nat → Int32} {n dp nx md wr n1 nx' n2 dp2 x n3 mo : Int32} (hB : pz_fi B) (h : FcO R B f n dp nx md wr) (hs : SkR B nx n1) (hw : pz_wd B n1.toInt.toNat pz_and = true ∨ pz_wd B n1.toInt.toNat pz_or = true) (hp : PsR B n1 nx') (hl : LdP f n n2 dp2) (ht : T11 f n2) (e : g = upd f n2.toNatClampNeg x) (hx : x.toInt = 12 ∨ x.toInt = 13) (hn : n3.toInt = n2.toInt + 1) (hm : mo.toInt = 1) : TsL R B g n3 dp2 nx' md wr mo := by
  have hu := OsP.push (dp' := dp2) hl.1 e hn (Or.inr (Or.inr ⟨hx, rfl, ht⟩))
  rw [if_neg (by omega)] at hu
  obtain ⟨S, hS⟩ := hl.1.hd ht
  have hL : 97 ≤ B n1.toInt.toNat ∧ B n1.toInt.toNat ≤ 122 := by
    rcases hw with z | z
    · have := (of_decide_eq_true z).2 0 (by decide); rw [Nat.add_zero] at this; rw [this]; decide
    · have := (of_decide_eq_true z).2 0 (by decide); rw [Nat.add_zero] at this; rw [this]; decide
  refine ⟨⟨hu.1, h.2.1⟩, fun _ => ⟨hu.1, h.2.1, ?_⟩, fun z => by omega⟩
  rw [h.2.2, hu.2, ← hl.2, hS, pz_K_and hB (by rw [St0.at hs]; exact hw), nx_te (nx' := nx') hs (by have := hp.te hL; have h5 := hp; unfold PsR at h5; omega)]
theorem TsL.no {R : Except Int (Nat × Nat)} {B : Nat → Int} {f : Nat → Int32} {n dp nx md wr n1 mo : Int32} (h : FcO R B f n dp nx md wr) (hb : NBr B f n nx) (hs : SkR B nx n1) (hw : ¬ pz_wd B n1.toInt.toNat pz_and = true) (hw2 : ¬ pz_wd B n1.toInt.toNat pz_or = true) (hm : mo.toInt = 0) : TsL R B f n dp n1 md wr mo := by
  refine ⟨⟨h.1, h.2.1⟩, fun z => by omega, fun _ => ⟨h.sk hs, hb.sk hs, ?_⟩⟩
  rw [hs.2.1]
  intro z
  rcases z with z | z
  · exact hw z
  · exact hw2 z
theorem TsL.in {R : Except Int (Nat × Nat)} {B : Nat → Int} {f : Nat → Int32} {n dp nx md wr mo n1 wr' : Int32} (h : TsL R B f n dp nx md wr mo) (hm : mo.toInt = 0) (hi : Ins f n) (hs : SkR B nx n1) (hw : wr'.toInt = 1 + 8 * n1.toInt) : RfE R wr' := by
  obtain ⟨h1, h2, h3⟩ := h.2.2 hm
  have h0 := hs.1
  obtain ⟨m, m', S, e⟩ := ok_os_ins (f := f) n.toInt.toNat (by obtain ⟨k, a, b⟩ := hi; exact ⟨k, by omega, b⟩)
  refine ⟨wr'.toInt, ?_, rfl⟩
  have hz : ¬ B (pz_sk B nx.toInt.toNat) = 93 := by
    rcases h2 with z | z
    · obtain ⟨k, a, b⟩ := hi; exact absurd b (z k a)
    · exact z
  rw [h1.2.2, e, pz_K_in (s := St0 B nx md) h3 hz, St0.at hs]
  congr 1
  unfold pz_er; omega
theorem TsL.out {R : Except Int (Nat × Nat)} {B : Nat → Int} {f : Nat → Int32} {n dp nx md wr mo : Int32} (h : TsL R B f n dp nx md wr mo) (hm : mo.toInt = 0) (hi : NIns f n) (hmd : 0 ≤ md.toInt) : RfO R B wr nx md := by
  obtain ⟨h1, h2, h3⟩ := h.2.2 hm
  refine RfO.of ?_ h1.2.1 hmd
  rw [h1.2.2, ok_os_nins (f := f) n.toInt.toNat (fun k hk => hi k (by omega))]
  exact pz_K_out h3
