set_option maxHeartbeats 4000000 in
set_option maxRecDepth 100000 in
theorem ct_fX10_numberHere (l : Launch) (D : va_G) (tc : Nat → ClassId) (sk : (Nat → Nat) × (Nat → Nat)) (Ta : Nat → Nat) (Tv : Nat → Int32) (Tf : Nat → Nat → Int32) (x1 : Int32) (x2 : Int32) (rr : Except Int (Nat × Nat)) (lo : Int) (hi : Int) (h_tape : 0 ≤ ((Tv 0) : Int32).toInt ∧ ((Tv 0) : Int32).toInt ≤ 400 ∧ 0 ≤ ((Tv 1) : Int32).toInt ∧ ((Tv 1) : Int32).toInt ≤ 400 ∧ 0 ≤ ((Tv 2) : Int32).toInt ∧ ((Tv 2) : Int32).toInt ≤ 400) (h_by : Byt (Tf 1)) (h_r : TpR (Tf 1) (Tv 0) rr (Tv 1) (Tv 2) (Tv 3) (Tv 4)) (h_lo : x1.toInt = lo) (h_hi : x2.toInt = hi) : Ct l yX10_numberHere cX10_numberHere 5 (some .int) { frames := 1, cells := 0, slots := 0, locals := 21 } D tc sk [.ref (Ta 0), .int x1, .int x2] [((Ta 0), .inr (10, [.ref (Ta 1), .int (Tv 0), .int (Tv 1), .int (Tv 2), .int (Tv 3), .int (Tv 4)])), ((Ta 1), .inl (tc 0, 400, .inl (Tf 1)))] (fun (v : Option Value) (u : (Int32) × (Int32)) => match u with | (oo0x1, oo0x2) => ∃ r : Int32, v = some (.int r) ∧ (NuV (cB (Tf 1) (Tv 0)) lo hi rr r) ∧ (0 ≤ ((Tv 0) : Int32).toInt ∧ ((Tv 0) : Int32).toInt ≤ 400 ∧ 0 ≤ ((Tv 1) : Int32).toInt ∧ ((Tv 1) : Int32).toInt ≤ 400 ∧ 0 ≤ ((Tv 2) : Int32).toInt ∧ ((Tv 2) : Int32).toInt ≤ 400) ∧ (TpR (Tf 1) (Tv 0) (rNU (cB (Tf 1) (Tv 0)) lo hi rr) (Tv 1) (Tv 2) oo0x1 oo0x2)) (fun (u : (Int32) × (Int32)) => match u with | (oo0x1, oo0x2) => [((Ta 0), .inr (10, [.ref (Ta 1), .int (Tv 0), .int (Tv 1), .int (Tv 2), .int oo0x1, .int oo0x2])), ((Ta 1), .inl (tc 0, 400, .inl (Tf 1)))]) 0 0 := by
  refine Ct.start (by decide) (Nat.le_of_ble_eq_true rfl) (fun p e s m below meth c A ls hx hb hr hlk hin hml hown hts hK hX hP hD hA hl hS => ?_)
  have hl : lv_has ls 5 [(0, .ref (Ta 0)), (1, .int x1), (2, .int x2)] := hl
  have tb_1 : TpB (rTE (cB (Tf 1) (Tv 0)) rr) (Tv 2) (Tv 4) := TpR.tb h_r
  have htlt := fun z : 0 ≤ (Tv 3).toInt => TpR.lt h_r z
  refine lv_aload_n hx hb dX10_numberHere_0 rfl (lv_at hl 0 rfl) ?_
  refine gf_X10_25 hx hb hts hown hK hP 0 rfl rfl dX10_numberHere_1 ?_
  refine cS (As := [.int (Tv 3)]) (rest := []) (wr := [((Ta 0), .inr (10, [.ref (Ta 1), .int (Tv 0), .int (Tv 1), .int (Tv 2), .int (Tv 3), .int (Tv 4)])), ((Ta 1), .inl (tc 0, 400, .inl (Tf 1)))]) ⟨hx, hb, hml, hown, hts⟩ hK hX hA (ct_fX10_isDigit l D tc sk (Tv 3)) k_488 k_486 k_487 k_96 pl_X10_isDigit ⟨Nat.le_of_ble_eq_true rfl, Nat.le_of_ble_eq_true rfl⟩ rfl rfl  hP hD hS [] [0, 1] rfl rfl rfl rfl rfl (by decide) rfl hl.1 rfl (Nat.le_of_ble_eq_true rfl) dX10_numberHere_4 ⟨Nat.le_of_ble_eq_true rfl, Nat.le_of_ble_eq_true rfl⟩ (fun v_2 u_3 H locs hv_4 hP₀ hD₀ hS₀ => ?_)
  obtain ⟨r_5, rfl, he_6⟩ := hv_4
  have he_6 : ((r_5.toInt = 1 ∧ 48 ≤ (Tv 3).toInt ∧ (Tv 3).toInt ≤ 57) ∨ (r_5.toInt = 0 ∧ ((Tv 3).toInt < 48 ∨ 57 < (Tv 3).toInt))) := he_6
  refine W.eq (g2 := F0 m 7 ls [.int r_5]) rfl ?_
  replace hP : va_P D classes [((Ta 0), .inr (10, [.ref (Ta 1), .int (Tv 0), .int (Tv 1), .int (Tv 2), .int (Tv 3), .int (Tv 4)])), ((Ta 1), .inl (tc 0, 400, .inl (Tf 1)))] H := hP₀
  replace hD : va_D A [((Ta 0), .inr (10, [.ref (Ta 1), .int (Tv 0), .int (Tv 1), .int (Tv 2), .int (Tv 3), .int (Tv 4)])), ((Ta 1), .inl (tc 0, 400, .inl (Tf 1)))] := hD₀
  replace hS := hS₀
  clear hP₀ hD₀ hS₀
  refine lv_if_ne (tgt := 17) hx hb dX10_numberHere_7 (by decide) (fun c_8 => ?_) (fun c_8 => ?_)
  · skip
    refine lv_aload_n hx hb dX10_numberHere_17 rfl (lv_at hl 0 rfl) ?_
    refine gf_X10_22 hx hb hts hown hK hP 0 rfl rfl dX10_numberHere_18 ?_
    refine lv_aload_n hx hb dX10_numberHere_21 rfl (lv_at hl 0 rfl) ?_
    refine gf_X10_19 hx hb hts hown hK hP 0 rfl rfl dX10_numberHere_22 ?_
    refine lv_isub hx hb dX10_numberHere_25 ?_
    refine lv_topi (fun x_9 ex_9 => ?_)
    refine lv_iconst (v := 5) hx hb dX10_numberHere_26 (by decide) ?_
    refine lv_icmp_le (tgt := 37) hx hb dX10_numberHere_27 (by decide) (fun c_10 => ?_) (fun c_10 => ?_)
    · skip
      refine lv_iconst (v := 0) hx hb dX10_numberHere_37 (by decide) ?_
      refine lv_istore_n (lv' := [(3, .int 0), (0, .ref (Ta 0)), (1, .int x1), (2, .int x2)]) hx hb dX10_numberHere_38 rfl hl (by decide) rfl (fun ls hl₀ => ?_)
      replace hl := hl₀
      clear hl₀
      refine lv_aload_n hx hb dX10_numberHere_39 rfl (lv_at hl 1 rfl) ?_
      refine gf_X10_19 hx hb hts hown hK hP 0 rfl rfl dX10_numberHere_40 ?_
      refine lv_istore (lv' := [(4, .int (Tv 1)), (3, .int 0), (0, .ref (Ta 0)), (1, .int x1), (2, .int x2)]) hx hb dX10_numberHere_43 hl (by decide) rfl (fun ls hl₀ => ?_)
      replace hl := hl₀
      clear hl₀
      have loop_17 : ∀ (n_15 : Nat) (vy_13 : Int32) (vy_14 : Int32) (H : Heap) (locs : List Loc) (ls : Array Slot), (401 - (vy_13 : Int32).toInt).toNat < n_15 → ((Tv 1).toInt ≤ (vy_13 : Int32).toInt ∧ (vy_13 : Int32).toInt ≤ (Tv 2).toInt) → (Nv (cB (Tf 1) (Tv 0)) (Tv 1) vy_14 vy_13) → va_P D classes [((Ta 0), .inr (10, [.ref (Ta 1), .int (Tv 0), .int (Tv 1), .int (Tv 2), .int (Tv 3), .int (Tv 4)])), ((Ta 1), .inl (tc 0, 400, .inl (Tf 1)))] H → va_D A [((Ta 0), .inr (10, [.ref (Ta 1), .int (Tv 0), .int (Tv 1), .int (Tv 2), .int (Tv 3), .int (Tv 4)])), ((Ta 1), .inl (tc 0, 400, .inl (Tf 1)))] → va_S A s.heap H locs → lv_has ls 5 [(4, .int vy_13), (3, .int vy_14), (0, .ref (Ta 0)), (1, .int x1), (2, .int x2)] → W p l e ({ frames := 1, cells := 0, slots := 0, locals := 21 }) s m ([.ref (Ta 0), .int x1, .int x2].toArray) below meth c H locs 0 0 (MQ below (QW (fun (v : Option Value) (u : (Int32) × (Int32)) => match u with | (oo0x1, oo0x2) => ∃ r : Int32, v = some (.int r) ∧ (NuV (cB (Tf 1) (Tv 0)) lo hi rr r) ∧ (0 ≤ ((Tv 0) : Int32).toInt ∧ ((Tv 0) : Int32).toInt ≤ 400 ∧ 0 ≤ ((Tv 1) : Int32).toInt ∧ ((Tv 1) : Int32).toInt ≤ 400 ∧ 0 ≤ ((Tv 2) : Int32).toInt ∧ ((Tv 2) : Int32).toInt ≤ 400) ∧ (TpR (Tf 1) (Tv 0) (rNU (cB (Tf 1) (Tv 0)) lo hi rr) (Tv 1) (Tv 2) oo0x1 oo0x2)) (BW D (fun (u : (Int32) × (Int32)) => match u with | (oo0x1, oo0x2) => [((Ta 0), .inr (10, [.ref (Ta 1), .int (Tv 0), .int (Tv 1), .int (Tv 2), .int oo0x1, .int oo0x2])), ((Ta 1), .inl (tc 0, 400, .inl (Tf 1)))]) A) A) ([.ref (Ta 0), .int x1, .int x2].toArray) s 0 0 A) (F0 m 45 ls []) := by
        clear hP hD hS hl
        intro n_15
        induction n_15 with
        | zero =>
          intro vy_13 vy_14 H locs ls h1
          exact absurd h1 (Nat.not_lt_zero _)
        | succ n_15 ih_16 =>
          intro vy_13 vy_14 H locs ls hn_20 pf_18 pf_19 hP hD hS hl
          have ar_pf_19 := Nv.ar pf_19
          refine lv_iload hx hb dX10_numberHere_45 (lv_at hl 0 rfl) ?_
          refine lv_aload_n hx hb dX10_numberHere_47 rfl (lv_at hl 2 rfl) ?_
          refine gf_X10_22 hx hb hts hown hK hP 0 rfl rfl dX10_numberHere_48 ?_
          refine lv_icmp_ge (tgt := 75) hx hb dX10_numberHere_51 (by decide) (fun c_21 => ?_) (fun c_21 => ?_)
          · skip
            refine lv_iload_n hx hb dX10_numberHere_75 rfl (lv_at hl 1 rfl) ?_
            refine lv_iload_n hx hb dX10_numberHere_76 rfl (lv_at hl 3 rfl) ?_
            refine lv_icmp_lt (tgt := 85) hx hb dX10_numberHere_77 (by decide) (fun c_22 => ?_) (fun c_22 => ?_)
            · skip
              refine lv_aload_n hx hb dX10_numberHere_85 rfl (lv_at hl 2 rfl) ?_
              refine lv_iconst (v := 1) hx hb dX10_numberHere_86 (by decide) ?_
              have ha_23 : 0 ≤ (1 : Int32).toInt ∧ (1 : Int32).toInt ≤ 4 := by
                have z_1 : ¬ (r_5 : Int32).toInt = (0 : Int32).toInt := fun z => c_8 (Int32.toInt_inj.mp z)
                have z_2 := Int32.le_iff_toInt_le.mp c_10
                have z_3 := Int32.le_iff_toInt_le.mp c_21
                have z_4 := Int32.lt_iff_toInt_lt.mp c_22
                have y_0 : (0 : Int32).toInt = 0 := by decide
                have y_5 : (5 : Int32).toInt = 5 := by decide
                have y_1 : (1 : Int32).toInt = 1 := by decide
                have t_x_9 : x_9.toInt = ((Tv 2) : Int32).toInt - ((Tv 1) : Int32).toInt := by rw [ex_9]; exact sub_toInt (by omega) (by omega)
                omega
              have ha_24 : (1 : Int32).toInt = (1 : Int) := by
                have z_1 : ¬ (r_5 : Int32).toInt = (0 : Int32).toInt := fun z => c_8 (Int32.toInt_inj.mp z)
                have z_2 := Int32.le_iff_toInt_le.mp c_10
                have z_3 := Int32.le_iff_toInt_le.mp c_21
                have z_4 := Int32.lt_iff_toInt_lt.mp c_22
                have y_0 : (0 : Int32).toInt = 0 := by decide
                have y_5 : (5 : Int32).toInt = 5 := by decide
                have y_1 : (1 : Int32).toInt = 1 := by decide
                have t_x_9 : x_9.toInt = ((Tv 2) : Int32).toInt - ((Tv 1) : Int32).toInt := by rw [ex_9]; exact sub_toInt (by omega) (by omega)
                omega
              refine cV (a := (Ta 0)) (As := [.int 1]) (rest := []) (wr := []) ⟨hx, hb, hml, hown, hts⟩ hK hX hA (cu_fX10_fail l D tc sk (Ta 0) (Ta 1) (Tv 0) (Tv 1) (Tv 2) (Tv 3) (Tv 4) (Tf 1) 1 rr 1 h_tape h_r ha_23 ha_24) k_557 k_571 k_555 k_556 k_96 pl_X10_fail ⟨Nat.le_of_ble_eq_true rfl, Nat.le_of_ble_eq_true rfl⟩ rfl rfl (va_recv hK hP (ci := 10) (q0 := 0) rfl rfl) hP hD hS [0, 1] [] rfl rfl rfl rfl rfl (by decide) rfl hl.1 rfl (Nat.le_of_ble_eq_true rfl) dX10_numberHere_87 ⟨Nat.le_of_ble_eq_true rfl, Nat.le_of_ble_eq_true rfl⟩ (fun v_25 u_26 H locs hv_27 hP₀ hD₀ hS₀ => ?_)
              obtain ⟨sv_28, sv_29⟩ := u_26
              obtain ⟨rfl, pf_30, pf_31⟩ := hv_27
              have pf_30 : 0 ≤ ((Tv 0) : Int32).toInt ∧ ((Tv 0) : Int32).toInt ≤ 400 ∧ 0 ≤ ((Tv 1) : Int32).toInt ∧ ((Tv 1) : Int32).toInt ≤ 400 ∧ 0 ≤ ((Tv 2) : Int32).toInt ∧ ((Tv 2) : Int32).toInt ≤ 400 := pf_30
              have pf_31 : TpR (Tf 1) (Tv 0) (rER (1 : Int) rr) (Tv 1) (Tv 2) sv_28 sv_29 := pf_31
              obtain ⟨ro_32, ero_32⟩ : ∃ z : Except Int (Nat × Nat), z = (rER (1 : Int) rr) := ⟨_, rfl⟩
              rw [← ero_32] at pf_31
              have tb_33 : TpB (rTE (cB (Tf 1) (Tv 0)) ro_32) (Tv 2) sv_29 := TpR.tb pf_31
              refine W.eq (g2 := F0 m 90 ls []) rfl ?_
              replace hP : va_P D classes [((Ta 0), .inr (10, [.ref (Ta 1), .int (Tv 0), .int (Tv 1), .int (Tv 2), .int sv_28, .int sv_29])), ((Ta 1), .inl (tc 0, 400, .inl (Tf 1)))] H := hP₀
              replace hD : va_D A [((Ta 0), .inr (10, [.ref (Ta 1), .int (Tv 0), .int (Tv 1), .int (Tv 2), .int sv_28, .int sv_29])), ((Ta 1), .inl (tc 0, 400, .inl (Tf 1)))] := hD₀
              replace hS := hS₀
              clear hP₀ hD₀ hS₀
              refine lv_iload_n hx hb dX10_numberHere_90 rfl (lv_at hl 3 rfl) ?_
              have hk_34 : vy_13 = (Tv 2) := Int32.toInt_inj.mp (by
                have z_1 : ¬ (r_5 : Int32).toInt = (0 : Int32).toInt := fun z => c_8 (Int32.toInt_inj.mp z)
                have z_2 := Int32.le_iff_toInt_le.mp c_10
                have z_3 := Int32.le_iff_toInt_le.mp c_21
                have z_4 := Int32.lt_iff_toInt_lt.mp c_22
                have y_0 : (0 : Int32).toInt = 0 := by decide
                have y_5 : (5 : Int32).toInt = 5 := by decide
                have t_x_9 : x_9.toInt = ((Tv 2) : Int32).toInt - ((Tv 1) : Int32).toInt := by rw [ex_9]; exact sub_toInt (by omega) (by omega)
                omega)
              have hv_35 : Nv (cB (Tf 1) (Tv 0)) (Tv 1) vy_14 (Tv 2) := hk_34 ▸ pf_19
              have hr_36 : 48 ≤ (Tv 3).toInt ∧ (Tv 3).toInt ≤ 57 := by
                have z_1 : ¬ (r_5 : Int32).toInt = (0 : Int32).toInt := fun z => c_8 (Int32.toInt_inj.mp z)
                have z_2 := Int32.le_iff_toInt_le.mp c_10
                have z_3 := Int32.le_iff_toInt_le.mp c_21
                have z_4 := Int32.lt_iff_toInt_lt.mp c_22
                have y_0 : (0 : Int32).toInt = 0 := by decide
                have y_5 : (5 : Int32).toInt = 5 := by decide
                have t_x_9 : x_9.toInt = ((Tv 2) : Int32).toInt - ((Tv 1) : Int32).toInt := by rw [ex_9]; exact sub_toInt (by omega) (by omega)
                omega
              have hr_37 : (Tv 2).toInt - (Tv 1).toInt ≤ 5 := by
                have z_1 : ¬ (r_5 : Int32).toInt = (0 : Int32).toInt := fun z => c_8 (Int32.toInt_inj.mp z)
                have z_2 := Int32.le_iff_toInt_le.mp c_10
                have z_3 := Int32.le_iff_toInt_le.mp c_21
                have z_4 := Int32.lt_iff_toInt_lt.mp c_22
                have y_0 : (0 : Int32).toInt = 0 := by decide
                have y_5 : (5 : Int32).toInt = 5 := by decide
                have t_x_9 : x_9.toInt = ((Tv 2) : Int32).toInt - ((Tv 1) : Int32).toInt := by rw [ex_9]; exact sub_toInt (by omega) (by omega)
                omega
              have hr_38 : ((vy_14 : Int32).toInt < lo ∨ hi < (vy_14 : Int32).toInt) := by
                have z_1 : ¬ (r_5 : Int32).toInt = (0 : Int32).toInt := fun z => c_8 (Int32.toInt_inj.mp z)
                have z_2 := Int32.le_iff_toInt_le.mp c_10
                have z_3 := Int32.le_iff_toInt_le.mp c_21
                have z_4 := Int32.lt_iff_toInt_lt.mp c_22
                have y_0 : (0 : Int32).toInt = 0 := by decide
                have y_5 : (5 : Int32).toInt = 5 := by decide
                have t_x_9 : x_9.toInt = ((Tv 2) : Int32).toInt - ((Tv 1) : Int32).toInt := by rw [ex_9]; exact sub_toInt (by omega) (by omega)
                omega
              have hf_39 : TpR (Tf 1) (Tv 0) (rNU (cB (Tf 1) (Tv 0)) lo hi rr) (Tv 1) (Tv 2) sv_28 sv_29 := by
                have hE_40 : (rNU (cB (Tf 1) (Tv 0)) lo hi rr) = ro_32 := by
                  rw [ero_32]
                  exact (rNU_out h_r hr_36 hr_37 hv_35 hr_38)
                rw [hE_40]
                exact pf_31
              have hk_41 : vy_13 = (Tv 2) := Int32.toInt_inj.mp (by
                have z_1 : ¬ (r_5 : Int32).toInt = (0 : Int32).toInt := fun z => c_8 (Int32.toInt_inj.mp z)
                have z_2 := Int32.le_iff_toInt_le.mp c_10
                have z_3 := Int32.le_iff_toInt_le.mp c_21
                have z_4 := Int32.lt_iff_toInt_lt.mp c_22
                have y_0 : (0 : Int32).toInt = 0 := by decide
                have y_5 : (5 : Int32).toInt = 5 := by decide
                have t_x_9 : x_9.toInt = ((Tv 2) : Int32).toInt - ((Tv 1) : Int32).toInt := by rw [ex_9]; exact sub_toInt (by omega) (by omega)
                omega)
              have hv_42 : Nv (cB (Tf 1) (Tv 0)) (Tv 1) vy_14 (Tv 2) := hk_41 ▸ pf_19
              have hr_43 : 48 ≤ (Tv 3).toInt ∧ (Tv 3).toInt ≤ 57 := by
                have z_1 : ¬ (r_5 : Int32).toInt = (0 : Int32).toInt := fun z => c_8 (Int32.toInt_inj.mp z)
                have z_2 := Int32.le_iff_toInt_le.mp c_10
                have z_3 := Int32.le_iff_toInt_le.mp c_21
                have z_4 := Int32.lt_iff_toInt_lt.mp c_22
                have y_0 : (0 : Int32).toInt = 0 := by decide
                have y_5 : (5 : Int32).toInt = 5 := by decide
                have t_x_9 : x_9.toInt = ((Tv 2) : Int32).toInt - ((Tv 1) : Int32).toInt := by rw [ex_9]; exact sub_toInt (by omega) (by omega)
                omega
              have hr_44 : (Tv 2).toInt - (Tv 1).toInt ≤ 5 := by
                have z_1 : ¬ (r_5 : Int32).toInt = (0 : Int32).toInt := fun z => c_8 (Int32.toInt_inj.mp z)
                have z_2 := Int32.le_iff_toInt_le.mp c_10
                have z_3 := Int32.le_iff_toInt_le.mp c_21
                have z_4 := Int32.lt_iff_toInt_lt.mp c_22
                have y_0 : (0 : Int32).toInt = 0 := by decide
                have y_5 : (5 : Int32).toInt = 5 := by decide
                have t_x_9 : x_9.toInt = ((Tv 2) : Int32).toInt - ((Tv 1) : Int32).toInt := by rw [ex_9]; exact sub_toInt (by omega) (by omega)
                omega
              have hr_45 : ((vy_14 : Int32).toInt < lo ∨ hi < (vy_14 : Int32).toInt) := by
                have z_1 : ¬ (r_5 : Int32).toInt = (0 : Int32).toInt := fun z => c_8 (Int32.toInt_inj.mp z)
                have z_2 := Int32.le_iff_toInt_le.mp c_10
                have z_3 := Int32.le_iff_toInt_le.mp c_21
                have z_4 := Int32.lt_iff_toInt_lt.mp c_22
                have y_0 : (0 : Int32).toInt = 0 := by decide
                have y_5 : (5 : Int32).toInt = 5 := by decide
                have t_x_9 : x_9.toInt = ((Tv 2) : Int32).toInt - ((Tv 1) : Int32).toInt := by rw [ex_9]; exact sub_toInt (by omega) (by omega)
                omega
              exact retI (v := x1) hx hb hr hlk (rfl) hP hD hS (sv_28, sv_29) ⟨_, rfl, (NuV.out h_r hr_43 hr_44 hv_42 hr_45), pf_30, hf_39⟩ [0, 1] rfl rfl dX10_numberHere_91 (Nat.le_of_ble_eq_true rfl) (Nat.le_of_ble_eq_true rfl) rfl
            · skip
              refine lv_iload_n hx hb dX10_numberHere_80 rfl (lv_at hl 1 rfl) ?_
              refine lv_iload_n hx hb dX10_numberHere_81 rfl (lv_at hl 4 rfl) ?_
              refine lv_icmp_le (tgt := 92) hx hb dX10_numberHere_82 (by decide) (fun c_46 => ?_) (fun c_46 => ?_)
              · skip
                refine lv_iload_n hx hb dX10_numberHere_92 rfl (lv_at hl 1 rfl) ?_
                have hk_47 : vy_13 = (Tv 2) := Int32.toInt_inj.mp (by
                  have z_1 : ¬ (r_5 : Int32).toInt = (0 : Int32).toInt := fun z => c_8 (Int32.toInt_inj.mp z)
                  have z_2 := Int32.le_iff_toInt_le.mp c_10
                  have z_3 := Int32.le_iff_toInt_le.mp c_21
                  have z_4 := Int32.le_iff_toInt_le.mp (Int32.not_lt.mp c_22)
                  have z_5 := Int32.le_iff_toInt_le.mp c_46
                  have y_0 : (0 : Int32).toInt = 0 := by decide
                  have y_5 : (5 : Int32).toInt = 5 := by decide
                  have t_x_9 : x_9.toInt = ((Tv 2) : Int32).toInt - ((Tv 1) : Int32).toInt := by rw [ex_9]; exact sub_toInt (by omega) (by omega)
                  omega)
                have hv_48 : Nv (cB (Tf 1) (Tv 0)) (Tv 1) vy_14 (Tv 2) := hk_47 ▸ pf_19
                have hr_49 : 48 ≤ (Tv 3).toInt ∧ (Tv 3).toInt ≤ 57 := by
                  have z_1 : ¬ (r_5 : Int32).toInt = (0 : Int32).toInt := fun z => c_8 (Int32.toInt_inj.mp z)
                  have z_2 := Int32.le_iff_toInt_le.mp c_10
                  have z_3 := Int32.le_iff_toInt_le.mp c_21
                  have z_4 := Int32.le_iff_toInt_le.mp (Int32.not_lt.mp c_22)
                  have z_5 := Int32.le_iff_toInt_le.mp c_46
                  have y_0 : (0 : Int32).toInt = 0 := by decide
                  have y_5 : (5 : Int32).toInt = 5 := by decide
                  have t_x_9 : x_9.toInt = ((Tv 2) : Int32).toInt - ((Tv 1) : Int32).toInt := by rw [ex_9]; exact sub_toInt (by omega) (by omega)
                  omega
                have hr_50 : (Tv 2).toInt - (Tv 1).toInt ≤ 5 := by
                  have z_1 : ¬ (r_5 : Int32).toInt = (0 : Int32).toInt := fun z => c_8 (Int32.toInt_inj.mp z)
                  have z_2 := Int32.le_iff_toInt_le.mp c_10
                  have z_3 := Int32.le_iff_toInt_le.mp c_21
                  have z_4 := Int32.le_iff_toInt_le.mp (Int32.not_lt.mp c_22)
                  have z_5 := Int32.le_iff_toInt_le.mp c_46
                  have y_0 : (0 : Int32).toInt = 0 := by decide
                  have y_5 : (5 : Int32).toInt = 5 := by decide
                  have t_x_9 : x_9.toInt = ((Tv 2) : Int32).toInt - ((Tv 1) : Int32).toInt := by rw [ex_9]; exact sub_toInt (by omega) (by omega)
                  omega
                have hr_51 : ¬ ((vy_14 : Int32).toInt < lo ∨ hi < (vy_14 : Int32).toInt) := by
                  have z_1 : ¬ (r_5 : Int32).toInt = (0 : Int32).toInt := fun z => c_8 (Int32.toInt_inj.mp z)
                  have z_2 := Int32.le_iff_toInt_le.mp c_10
                  have z_3 := Int32.le_iff_toInt_le.mp c_21
                  have z_4 := Int32.le_iff_toInt_le.mp (Int32.not_lt.mp c_22)
                  have z_5 := Int32.le_iff_toInt_le.mp c_46
                  have y_0 : (0 : Int32).toInt = 0 := by decide
                  have y_5 : (5 : Int32).toInt = 5 := by decide
                  have t_x_9 : x_9.toInt = ((Tv 2) : Int32).toInt - ((Tv 1) : Int32).toInt := by rw [ex_9]; exact sub_toInt (by omega) (by omega)
                  omega
                have hf_52 : TpR (Tf 1) (Tv 0) (rNU (cB (Tf 1) (Tv 0)) lo hi rr) (Tv 1) (Tv 2) (Tv 3) (Tv 4) := by
                  have hE_53 : (rNU (cB (Tf 1) (Tv 0)) lo hi rr) = rr := by
                    exact (rNU_ok h_r hr_49 hr_50 hv_48 hr_51)
                  rw [hE_53]
                  exact h_r
                have hk_54 : vy_13 = (Tv 2) := Int32.toInt_inj.mp (by
                  have z_1 : ¬ (r_5 : Int32).toInt = (0 : Int32).toInt := fun z => c_8 (Int32.toInt_inj.mp z)
                  have z_2 := Int32.le_iff_toInt_le.mp c_10
                  have z_3 := Int32.le_iff_toInt_le.mp c_21
                  have z_4 := Int32.le_iff_toInt_le.mp (Int32.not_lt.mp c_22)
                  have z_5 := Int32.le_iff_toInt_le.mp c_46
                  have y_0 : (0 : Int32).toInt = 0 := by decide
                  have y_5 : (5 : Int32).toInt = 5 := by decide
                  have t_x_9 : x_9.toInt = ((Tv 2) : Int32).toInt - ((Tv 1) : Int32).toInt := by rw [ex_9]; exact sub_toInt (by omega) (by omega)
                  omega)
                have hv_55 : Nv (cB (Tf 1) (Tv 0)) (Tv 1) vy_14 (Tv 2) := hk_54 ▸ pf_19
                have hr_56 : 48 ≤ (Tv 3).toInt ∧ (Tv 3).toInt ≤ 57 := by
                  have z_1 : ¬ (r_5 : Int32).toInt = (0 : Int32).toInt := fun z => c_8 (Int32.toInt_inj.mp z)
                  have z_2 := Int32.le_iff_toInt_le.mp c_10
                  have z_3 := Int32.le_iff_toInt_le.mp c_21
                  have z_4 := Int32.le_iff_toInt_le.mp (Int32.not_lt.mp c_22)
                  have z_5 := Int32.le_iff_toInt_le.mp c_46
                  have y_0 : (0 : Int32).toInt = 0 := by decide
                  have y_5 : (5 : Int32).toInt = 5 := by decide
                  have t_x_9 : x_9.toInt = ((Tv 2) : Int32).toInt - ((Tv 1) : Int32).toInt := by rw [ex_9]; exact sub_toInt (by omega) (by omega)
                  omega
                have hr_57 : (Tv 2).toInt - (Tv 1).toInt ≤ 5 := by
                  have z_1 : ¬ (r_5 : Int32).toInt = (0 : Int32).toInt := fun z => c_8 (Int32.toInt_inj.mp z)
                  have z_2 := Int32.le_iff_toInt_le.mp c_10
                  have z_3 := Int32.le_iff_toInt_le.mp c_21
                  have z_4 := Int32.le_iff_toInt_le.mp (Int32.not_lt.mp c_22)
                  have z_5 := Int32.le_iff_toInt_le.mp c_46
                  have y_0 : (0 : Int32).toInt = 0 := by decide
                  have y_5 : (5 : Int32).toInt = 5 := by decide
                  have t_x_9 : x_9.toInt = ((Tv 2) : Int32).toInt - ((Tv 1) : Int32).toInt := by rw [ex_9]; exact sub_toInt (by omega) (by omega)
                  omega
                have hr_58 : ¬ ((vy_14 : Int32).toInt < lo ∨ hi < (vy_14 : Int32).toInt) := by
                  have z_1 : ¬ (r_5 : Int32).toInt = (0 : Int32).toInt := fun z => c_8 (Int32.toInt_inj.mp z)
                  have z_2 := Int32.le_iff_toInt_le.mp c_10
                  have z_3 := Int32.le_iff_toInt_le.mp c_21
                  have z_4 := Int32.le_iff_toInt_le.mp (Int32.not_lt.mp c_22)
                  have z_5 := Int32.le_iff_toInt_le.mp c_46
                  have y_0 : (0 : Int32).toInt = 0 := by decide
                  have y_5 : (5 : Int32).toInt = 5 := by decide
                  have t_x_9 : x_9.toInt = ((Tv 2) : Int32).toInt - ((Tv 1) : Int32).toInt := by rw [ex_9]; exact sub_toInt (by omega) (by omega)
                  omega
                exact retI (v := vy_14) hx hb hr hlk (rfl) hP hD hS ((Tv 3), (Tv 4)) ⟨_, rfl, (NuV.ok h_r hr_56 hr_57 hv_55 hr_58), h_tape, hf_52⟩ [0, 1] rfl rfl dX10_numberHere_93 (Nat.le_of_ble_eq_true rfl) (Nat.le_of_ble_eq_true rfl) rfl
              · skip
                refine lv_aload_n hx hb dX10_numberHere_85 rfl (lv_at hl 2 rfl) ?_
                refine lv_iconst (v := 1) hx hb dX10_numberHere_86 (by decide) ?_
                have ha_59 : 0 ≤ (1 : Int32).toInt ∧ (1 : Int32).toInt ≤ 4 := by
                  have z_1 : ¬ (r_5 : Int32).toInt = (0 : Int32).toInt := fun z => c_8 (Int32.toInt_inj.mp z)
                  have z_2 := Int32.le_iff_toInt_le.mp c_10
                  have z_3 := Int32.le_iff_toInt_le.mp c_21
                  have z_4 := Int32.le_iff_toInt_le.mp (Int32.not_lt.mp c_22)
                  have z_5 := Int32.lt_iff_toInt_lt.mp (Int32.not_le.mp c_46)
                  have y_0 : (0 : Int32).toInt = 0 := by decide
                  have y_5 : (5 : Int32).toInt = 5 := by decide
                  have y_1 : (1 : Int32).toInt = 1 := by decide
                  have t_x_9 : x_9.toInt = ((Tv 2) : Int32).toInt - ((Tv 1) : Int32).toInt := by rw [ex_9]; exact sub_toInt (by omega) (by omega)
                  omega
                have ha_60 : (1 : Int32).toInt = (1 : Int) := by
                  have z_1 : ¬ (r_5 : Int32).toInt = (0 : Int32).toInt := fun z => c_8 (Int32.toInt_inj.mp z)
                  have z_2 := Int32.le_iff_toInt_le.mp c_10
                  have z_3 := Int32.le_iff_toInt_le.mp c_21
                  have z_4 := Int32.le_iff_toInt_le.mp (Int32.not_lt.mp c_22)
                  have z_5 := Int32.lt_iff_toInt_lt.mp (Int32.not_le.mp c_46)
                  have y_0 : (0 : Int32).toInt = 0 := by decide
                  have y_5 : (5 : Int32).toInt = 5 := by decide
                  have y_1 : (1 : Int32).toInt = 1 := by decide
                  have t_x_9 : x_9.toInt = ((Tv 2) : Int32).toInt - ((Tv 1) : Int32).toInt := by rw [ex_9]; exact sub_toInt (by omega) (by omega)
                  omega
                refine cV (a := (Ta 0)) (As := [.int 1]) (rest := []) (wr := []) ⟨hx, hb, hml, hown, hts⟩ hK hX hA (cu_fX10_fail l D tc sk (Ta 0) (Ta 1) (Tv 0) (Tv 1) (Tv 2) (Tv 3) (Tv 4) (Tf 1) 1 rr 1 h_tape h_r ha_59 ha_60) k_557 k_571 k_555 k_556 k_96 pl_X10_fail ⟨Nat.le_of_ble_eq_true rfl, Nat.le_of_ble_eq_true rfl⟩ rfl rfl (va_recv hK hP (ci := 10) (q0 := 0) rfl rfl) hP hD hS [0, 1] [] rfl rfl rfl rfl rfl (by decide) rfl hl.1 rfl (Nat.le_of_ble_eq_true rfl) dX10_numberHere_87 ⟨Nat.le_of_ble_eq_true rfl, Nat.le_of_ble_eq_true rfl⟩ (fun v_61 u_62 H locs hv_63 hP₀ hD₀ hS₀ => ?_)
                obtain ⟨sv_64, sv_65⟩ := u_62
                obtain ⟨rfl, pf_66, pf_67⟩ := hv_63
                have pf_66 : 0 ≤ ((Tv 0) : Int32).toInt ∧ ((Tv 0) : Int32).toInt ≤ 400 ∧ 0 ≤ ((Tv 1) : Int32).toInt ∧ ((Tv 1) : Int32).toInt ≤ 400 ∧ 0 ≤ ((Tv 2) : Int32).toInt ∧ ((Tv 2) : Int32).toInt ≤ 400 := pf_66
                have pf_67 : TpR (Tf 1) (Tv 0) (rER (1 : Int) rr) (Tv 1) (Tv 2) sv_64 sv_65 := pf_67
                obtain ⟨ro_68, ero_68⟩ : ∃ z : Except Int (Nat × Nat), z = (rER (1 : Int) rr) := ⟨_, rfl⟩
                rw [← ero_68] at pf_67
                have tb_69 : TpB (rTE (cB (Tf 1) (Tv 0)) ro_68) (Tv 2) sv_65 := TpR.tb pf_67
                refine W.eq (g2 := F0 m 90 ls []) rfl ?_
                replace hP : va_P D classes [((Ta 0), .inr (10, [.ref (Ta 1), .int (Tv 0), .int (Tv 1), .int (Tv 2), .int sv_64, .int sv_65])), ((Ta 1), .inl (tc 0, 400, .inl (Tf 1)))] H := hP₀
                replace hD : va_D A [((Ta 0), .inr (10, [.ref (Ta 1), .int (Tv 0), .int (Tv 1), .int (Tv 2), .int sv_64, .int sv_65])), ((Ta 1), .inl (tc 0, 400, .inl (Tf 1)))] := hD₀
                replace hS := hS₀
                clear hP₀ hD₀ hS₀
                refine lv_iload_n hx hb dX10_numberHere_90 rfl (lv_at hl 3 rfl) ?_
                have hk_70 : vy_13 = (Tv 2) := Int32.toInt_inj.mp (by
                  have z_1 : ¬ (r_5 : Int32).toInt = (0 : Int32).toInt := fun z => c_8 (Int32.toInt_inj.mp z)
                  have z_2 := Int32.le_iff_toInt_le.mp c_10
                  have z_3 := Int32.le_iff_toInt_le.mp c_21
                  have z_4 := Int32.le_iff_toInt_le.mp (Int32.not_lt.mp c_22)
                  have z_5 := Int32.lt_iff_toInt_lt.mp (Int32.not_le.mp c_46)
                  have y_0 : (0 : Int32).toInt = 0 := by decide
                  have y_5 : (5 : Int32).toInt = 5 := by decide
                  have t_x_9 : x_9.toInt = ((Tv 2) : Int32).toInt - ((Tv 1) : Int32).toInt := by rw [ex_9]; exact sub_toInt (by omega) (by omega)
                  omega)
                have hv_71 : Nv (cB (Tf 1) (Tv 0)) (Tv 1) vy_14 (Tv 2) := hk_70 ▸ pf_19
                have hr_72 : 48 ≤ (Tv 3).toInt ∧ (Tv 3).toInt ≤ 57 := by
                  have z_1 : ¬ (r_5 : Int32).toInt = (0 : Int32).toInt := fun z => c_8 (Int32.toInt_inj.mp z)
                  have z_2 := Int32.le_iff_toInt_le.mp c_10
                  have z_3 := Int32.le_iff_toInt_le.mp c_21
                  have z_4 := Int32.le_iff_toInt_le.mp (Int32.not_lt.mp c_22)
                  have z_5 := Int32.lt_iff_toInt_lt.mp (Int32.not_le.mp c_46)
                  have y_0 : (0 : Int32).toInt = 0 := by decide
                  have y_5 : (5 : Int32).toInt = 5 := by decide
                  have t_x_9 : x_9.toInt = ((Tv 2) : Int32).toInt - ((Tv 1) : Int32).toInt := by rw [ex_9]; exact sub_toInt (by omega) (by omega)
                  omega
                have hr_73 : (Tv 2).toInt - (Tv 1).toInt ≤ 5 := by
                  have z_1 : ¬ (r_5 : Int32).toInt = (0 : Int32).toInt := fun z => c_8 (Int32.toInt_inj.mp z)
                  have z_2 := Int32.le_iff_toInt_le.mp c_10
                  have z_3 := Int32.le_iff_toInt_le.mp c_21
                  have z_4 := Int32.le_iff_toInt_le.mp (Int32.not_lt.mp c_22)
                  have z_5 := Int32.lt_iff_toInt_lt.mp (Int32.not_le.mp c_46)
                  have y_0 : (0 : Int32).toInt = 0 := by decide
                  have y_5 : (5 : Int32).toInt = 5 := by decide
                  have t_x_9 : x_9.toInt = ((Tv 2) : Int32).toInt - ((Tv 1) : Int32).toInt := by rw [ex_9]; exact sub_toInt (by omega) (by omega)
                  omega
                have hr_74 : ((vy_14 : Int32).toInt < lo ∨ hi < (vy_14 : Int32).toInt) := by
                  have z_1 : ¬ (r_5 : Int32).toInt = (0 : Int32).toInt := fun z => c_8 (Int32.toInt_inj.mp z)
                  have z_2 := Int32.le_iff_toInt_le.mp c_10
                  have z_3 := Int32.le_iff_toInt_le.mp c_21
                  have z_4 := Int32.le_iff_toInt_le.mp (Int32.not_lt.mp c_22)
                  have z_5 := Int32.lt_iff_toInt_lt.mp (Int32.not_le.mp c_46)
                  have y_0 : (0 : Int32).toInt = 0 := by decide
                  have y_5 : (5 : Int32).toInt = 5 := by decide
                  have t_x_9 : x_9.toInt = ((Tv 2) : Int32).toInt - ((Tv 1) : Int32).toInt := by rw [ex_9]; exact sub_toInt (by omega) (by omega)
                  omega
                have hf_75 : TpR (Tf 1) (Tv 0) (rNU (cB (Tf 1) (Tv 0)) lo hi rr) (Tv 1) (Tv 2) sv_64 sv_65 := by
                  have hE_76 : (rNU (cB (Tf 1) (Tv 0)) lo hi rr) = ro_68 := by
                    rw [ero_68]
                    exact (rNU_out h_r hr_72 hr_73 hv_71 hr_74)
                  rw [hE_76]
                  exact pf_67
                have hk_77 : vy_13 = (Tv 2) := Int32.toInt_inj.mp (by
                  have z_1 : ¬ (r_5 : Int32).toInt = (0 : Int32).toInt := fun z => c_8 (Int32.toInt_inj.mp z)
                  have z_2 := Int32.le_iff_toInt_le.mp c_10
                  have z_3 := Int32.le_iff_toInt_le.mp c_21
                  have z_4 := Int32.le_iff_toInt_le.mp (Int32.not_lt.mp c_22)
                  have z_5 := Int32.lt_iff_toInt_lt.mp (Int32.not_le.mp c_46)
                  have y_0 : (0 : Int32).toInt = 0 := by decide
                  have y_5 : (5 : Int32).toInt = 5 := by decide
                  have t_x_9 : x_9.toInt = ((Tv 2) : Int32).toInt - ((Tv 1) : Int32).toInt := by rw [ex_9]; exact sub_toInt (by omega) (by omega)
                  omega)
                have hv_78 : Nv (cB (Tf 1) (Tv 0)) (Tv 1) vy_14 (Tv 2) := hk_77 ▸ pf_19
                have hr_79 : 48 ≤ (Tv 3).toInt ∧ (Tv 3).toInt ≤ 57 := by
                  have z_1 : ¬ (r_5 : Int32).toInt = (0 : Int32).toInt := fun z => c_8 (Int32.toInt_inj.mp z)
                  have z_2 := Int32.le_iff_toInt_le.mp c_10
                  have z_3 := Int32.le_iff_toInt_le.mp c_21
                  have z_4 := Int32.le_iff_toInt_le.mp (Int32.not_lt.mp c_22)
                  have z_5 := Int32.lt_iff_toInt_lt.mp (Int32.not_le.mp c_46)
                  have y_0 : (0 : Int32).toInt = 0 := by decide
                  have y_5 : (5 : Int32).toInt = 5 := by decide
                  have t_x_9 : x_9.toInt = ((Tv 2) : Int32).toInt - ((Tv 1) : Int32).toInt := by rw [ex_9]; exact sub_toInt (by omega) (by omega)
                  omega
                have hr_80 : (Tv 2).toInt - (Tv 1).toInt ≤ 5 := by
                  have z_1 : ¬ (r_5 : Int32).toInt = (0 : Int32).toInt := fun z => c_8 (Int32.toInt_inj.mp z)
                  have z_2 := Int32.le_iff_toInt_le.mp c_10
                  have z_3 := Int32.le_iff_toInt_le.mp c_21
                  have z_4 := Int32.le_iff_toInt_le.mp (Int32.not_lt.mp c_22)
                  have z_5 := Int32.lt_iff_toInt_lt.mp (Int32.not_le.mp c_46)
                  have y_0 : (0 : Int32).toInt = 0 := by decide
                  have y_5 : (5 : Int32).toInt = 5 := by decide
                  have t_x_9 : x_9.toInt = ((Tv 2) : Int32).toInt - ((Tv 1) : Int32).toInt := by rw [ex_9]; exact sub_toInt (by omega) (by omega)
                  omega
                have hr_81 : ((vy_14 : Int32).toInt < lo ∨ hi < (vy_14 : Int32).toInt) := by
                  have z_1 : ¬ (r_5 : Int32).toInt = (0 : Int32).toInt := fun z => c_8 (Int32.toInt_inj.mp z)
                  have z_2 := Int32.le_iff_toInt_le.mp c_10
                  have z_3 := Int32.le_iff_toInt_le.mp c_21
                  have z_4 := Int32.le_iff_toInt_le.mp (Int32.not_lt.mp c_22)
                  have z_5 := Int32.lt_iff_toInt_lt.mp (Int32.not_le.mp c_46)
                  have y_0 : (0 : Int32).toInt = 0 := by decide
                  have y_5 : (5 : Int32).toInt = 5 := by decide
                  have t_x_9 : x_9.toInt = ((Tv 2) : Int32).toInt - ((Tv 1) : Int32).toInt := by rw [ex_9]; exact sub_toInt (by omega) (by omega)
                  omega
                exact retI (v := x1) hx hb hr hlk (rfl) hP hD hS (sv_64, sv_65) ⟨_, rfl, (NuV.out h_r hr_79 hr_80 hv_78 hr_81), pf_66, hf_75⟩ [0, 1] rfl rfl dX10_numberHere_91 (Nat.le_of_ble_eq_true rfl) (Nat.le_of_ble_eq_true rfl) rfl
          · skip
            refine lv_iload_n hx hb dX10_numberHere_54 rfl (lv_at hl 1 rfl) ?_
            refine lv_bipush (v := 10) hx hb dX10_numberHere_55 (by decide) ?_
            refine lv_imul hx hb dX10_numberHere_57 ?_
            refine lv_topi (fun x_82 ex_82 => ?_)
            refine lv_aload_n hx hb dX10_numberHere_58 rfl (lv_at hl 2 rfl) ?_
            refine lv_iload hx hb dX10_numberHere_59 (lv_at hl 0 rfl) ?_
            have ha_83 : 0 ≤ vy_13.toInt := by
              have z_1 : ¬ (r_5 : Int32).toInt = (0 : Int32).toInt := fun z => c_8 (Int32.toInt_inj.mp z)
              have z_2 := Int32.le_iff_toInt_le.mp c_10
              have z_3 := Int32.lt_iff_toInt_lt.mp (Int32.not_le.mp c_21)
              have y_0 : (0 : Int32).toInt = 0 := by decide
              have y_5 : (5 : Int32).toInt = 5 := by decide
              have t_x_9 : x_9.toInt = ((Tv 2) : Int32).toInt - ((Tv 1) : Int32).toInt := by rw [ex_9]; exact sub_toInt (by omega) (by omega)
              omega
            refine cV (a := (Ta 0)) (As := [.int vy_13]) (rest := [.int x_82]) (wr := []) ⟨hx, hb, hml, hown, hts⟩ hK hX hA (cu_fX10_byteAt l D tc sk (Ta 0) (Ta 1) (Tv 0) (Tv 1) (Tv 2) (Tv 3) (Tv 4) (Tf 1) vy_13 h_tape h_by ha_83) k_482 k_479 k_481 k_0 k_96 pl_X10_byteAt ⟨Nat.le_of_ble_eq_true rfl, Nat.le_of_ble_eq_true rfl⟩ rfl rfl (va_recv hK hP (ci := 10) (q0 := 0) rfl rfl) hP hD hS [0, 1] [] rfl rfl rfl rfl rfl (by decide) rfl hl.1 rfl (Nat.le_of_ble_eq_true rfl) dX10_numberHere_61 ⟨Nat.le_of_ble_eq_true rfl, Nat.le_of_ble_eq_true rfl⟩ (fun v_84 u_85 H locs hv_86 hP₀ hD₀ hS₀ => ?_)
            obtain ⟨r_87, rfl, he_88⟩ := hv_86
            have he_88 : (r_87.toInt = cB (Tf 1) (Tv 0) vy_13.toInt.toNat ∧ (((Tv 0).toInt ≤ vy_13.toInt ∧ r_87.toInt = -1) ∨ (vy_13.toInt < (Tv 0).toInt ∧ 0 ≤ r_87.toInt ∧ r_87.toInt ≤ 255))) := he_88
            refine W.eq (g2 := F0 m 64 ls [.int r_87, .int x_82]) rfl ?_
            replace hP : va_P D classes [((Ta 0), .inr (10, [.ref (Ta 1), .int (Tv 0), .int (Tv 1), .int (Tv 2), .int (Tv 3), .int (Tv 4)])), ((Ta 1), .inl (tc 0, 400, .inl (Tf 1)))] H := hP₀
            replace hD : va_D A [((Ta 0), .inr (10, [.ref (Ta 1), .int (Tv 0), .int (Tv 1), .int (Tv 2), .int (Tv 3), .int (Tv 4)])), ((Ta 1), .inl (tc 0, 400, .inl (Tf 1)))] := hD₀
            replace hS := hS₀
            clear hP₀ hD₀ hS₀
            refine lv_iadd hx hb dX10_numberHere_64 ?_
            refine lv_topi (fun x_90 ex_90 => ?_)
            refine lv_bipush (v := 48) hx hb dX10_numberHere_65 (by decide) ?_
            refine lv_isub hx hb dX10_numberHere_67 ?_
            refine lv_topi (fun x_91 ex_91 => ?_)
            refine lv_istore_n (lv' := [(3, .int x_91), (4, .int vy_13), (0, .ref (Ta 0)), (1, .int x1), (2, .int x2)]) hx hb dX10_numberHere_68 rfl hl (by decide) rfl (fun ls hl₀ => ?_)
            replace hl := hl₀
            clear hl₀
            obtain ⟨x_92, ex_92⟩ : ∃ y : Int32, y = vy_13 + 1 := ⟨_, rfl⟩
            refine lv_iinc (v := x_92) (lv' := [(4, .int x_92), (3, .int x_91), (0, .ref (Ta 0)), (1, .int x1), (2, .int x2)]) hx hb dX10_numberHere_69 hl (k := 1) rfl (by rw [ex_92]; rfl) (by decide) rfl (fun ls hl₀ => ?_)
            replace hl := hl₀
            clear hl₀
            refine lv_goto (tgt := 45) hx hb dX10_numberHere_72 (by decide) ?_
            have hb_93 : 401 - (x_92 : Int32).toInt < 401 - (vy_13 : Int32).toInt ∧ 1 ≤ 401 - (vy_13 : Int32).toInt := by
              have z_1 : ¬ (r_5 : Int32).toInt = (0 : Int32).toInt := fun z => c_8 (Int32.toInt_inj.mp z)
              have z_2 := Int32.le_iff_toInt_le.mp c_10
              have z_3 := Int32.lt_iff_toInt_lt.mp (Int32.not_le.mp c_21)
              have y_0 : (0 : Int32).toInt = 0 := by decide
              have y_5 : (5 : Int32).toInt = 5 := by decide
              have y_1 : (1 : Int32).toInt = 1 := by decide
              have t_x_9 : x_9.toInt = ((Tv 2) : Int32).toInt - ((Tv 1) : Int32).toInt := by rw [ex_9]; exact sub_toInt (by omega) (by omega)
              have t_x_92 : x_92.toInt = (vy_13 : Int32).toInt + (1 : Int32).toInt := by rw [ex_92]; exact add_toInt (by omega) (by omega)
              omega
            have ha_94 : (Tv 1).toInt ≤ (x_92 : Int32).toInt ∧ (x_92 : Int32).toInt ≤ (Tv 2).toInt := by
              have z_1 : ¬ (r_5 : Int32).toInt = (0 : Int32).toInt := fun z => c_8 (Int32.toInt_inj.mp z)
              have z_2 := Int32.le_iff_toInt_le.mp c_10
              have z_3 := Int32.lt_iff_toInt_lt.mp (Int32.not_le.mp c_21)
              have y_0 : (0 : Int32).toInt = 0 := by decide
              have y_5 : (5 : Int32).toInt = 5 := by decide
              have y_1 : (1 : Int32).toInt = 1 := by decide
              have t_x_9 : x_9.toInt = ((Tv 2) : Int32).toInt - ((Tv 1) : Int32).toInt := by rw [ex_9]; exact sub_toInt (by omega) (by omega)
              have t_x_92 : x_92.toInt = (vy_13 : Int32).toInt + (1 : Int32).toInt := by rw [ex_92]; exact add_toInt (by omega) (by omega)
              omega
            have hr_96 : 48 ≤ (Tv 3).toInt ∧ (Tv 3).toInt ≤ 57 := by
              have z_1 : ¬ (r_5 : Int32).toInt = (0 : Int32).toInt := fun z => c_8 (Int32.toInt_inj.mp z)
              have z_2 := Int32.le_iff_toInt_le.mp c_10
              have z_3 := Int32.lt_iff_toInt_lt.mp (Int32.not_le.mp c_21)
              have y_0 : (0 : Int32).toInt = 0 := by decide
              have y_5 : (5 : Int32).toInt = 5 := by decide
              have t_x_9 : x_9.toInt = ((Tv 2) : Int32).toInt - ((Tv 1) : Int32).toInt := by rw [ex_9]; exact sub_toInt (by omega) (by omega)
              omega
            have hr_97 : (Tv 1).toInt ≤ (vy_13 : Int32).toInt ∧ (vy_13 : Int32).toInt < (Tv 2).toInt := by
              have z_1 : ¬ (r_5 : Int32).toInt = (0 : Int32).toInt := fun z => c_8 (Int32.toInt_inj.mp z)
              have z_2 := Int32.le_iff_toInt_le.mp c_10
              have z_3 := Int32.lt_iff_toInt_lt.mp (Int32.not_le.mp c_21)
              have y_0 : (0 : Int32).toInt = 0 := by decide
              have y_5 : (5 : Int32).toInt = 5 := by decide
              have t_x_9 : x_9.toInt = ((Tv 2) : Int32).toInt - ((Tv 1) : Int32).toInt := by rw [ex_9]; exact sub_toInt (by omega) (by omega)
              omega
            have hd_95 := TpR.dig h_r hr_96 (i := vy_13) hr_97
            rw [← he_88.1] at hd_95
            have hr_98 : 0 ≤ (Tv 1).toInt ∧ (Tv 1).toInt ≤ (vy_13 : Int32).toInt := by
              have z_1 : ¬ (r_5 : Int32).toInt = (0 : Int32).toInt := fun z => c_8 (Int32.toInt_inj.mp z)
              have z_2 := Int32.le_iff_toInt_le.mp c_10
              have z_3 := Int32.lt_iff_toInt_lt.mp (Int32.not_le.mp c_21)
              have y_0 : (0 : Int32).toInt = 0 := by decide
              have y_5 : (5 : Int32).toInt = 5 := by decide
              have t_x_9 : x_9.toInt = ((Tv 2) : Int32).toInt - ((Tv 1) : Int32).toInt := by rw [ex_9]; exact sub_toInt (by omega) (by omega)
              omega
            have hi_99 : (x_91 : Int32).toInt = (vy_14 : Int32).toInt * 10 + (r_87 : Int32).toInt - 48 := by
              have z_1 : ¬ (r_5 : Int32).toInt = (0 : Int32).toInt := fun z => c_8 (Int32.toInt_inj.mp z)
              have z_2 := Int32.le_iff_toInt_le.mp c_10
              have z_3 := Int32.lt_iff_toInt_lt.mp (Int32.not_le.mp c_21)
              have y_0 : (0 : Int32).toInt = 0 := by decide
              have y_5 : (5 : Int32).toInt = 5 := by decide
              have y_10 : (10 : Int32).toInt = 10 := by decide
              have y_48 : (48 : Int32).toInt = 48 := by decide
              have t_x_9 : x_9.toInt = ((Tv 2) : Int32).toInt - ((Tv 1) : Int32).toInt := by rw [ex_9]; exact sub_toInt (by omega) (by omega)
              have t_x_82 : x_82.toInt = (vy_14 : Int32).toInt * (10 : Int32).toInt := by rw [ex_82]; exact mul_toInt (by first | omega | (rw [y_10]; omega)) (by first | omega | (rw [y_10]; omega))
              rw [y_10] at t_x_82
              have t_x_90 : x_90.toInt = (x_82 : Int32).toInt + (r_87 : Int32).toInt := by rw [ex_90]; exact add_toInt (by omega) (by omega)
              have t_x_91 : x_91.toInt = (x_90 : Int32).toInt - (48 : Int32).toInt := by rw [ex_91]; exact sub_toInt (by omega) (by omega)
              omega
            have hi_100 : (x_92 : Int32).toInt = (vy_13 : Int32).toInt + 1 := by
              have z_1 : ¬ (r_5 : Int32).toInt = (0 : Int32).toInt := fun z => c_8 (Int32.toInt_inj.mp z)
              have z_2 := Int32.le_iff_toInt_le.mp c_10
              have z_3 := Int32.lt_iff_toInt_lt.mp (Int32.not_le.mp c_21)
              have y_0 : (0 : Int32).toInt = 0 := by decide
              have y_5 : (5 : Int32).toInt = 5 := by decide
              have y_1 : (1 : Int32).toInt = 1 := by decide
              have t_x_9 : x_9.toInt = ((Tv 2) : Int32).toInt - ((Tv 1) : Int32).toInt := by rw [ex_9]; exact sub_toInt (by omega) (by omega)
              have t_x_92 : x_92.toInt = (vy_13 : Int32).toInt + (1 : Int32).toInt := by rw [ex_92]; exact add_toInt (by omega) (by omega)
              omega
            exact ih_16 x_92 x_91 _ _ _ (by omega) ha_94 (Nv.st pf_19 hr_98 he_88.1 hd_95 hi_99 hi_100) (hP.sub [0, 1] rfl) (hD.sub [0, 1] rfl rfl) hS (lv_sub hl [0, 1, 2, 3, 4] rfl)
      have ha_101 : (Tv 1).toInt ≤ ((Tv 1) : Int32).toInt ∧ ((Tv 1) : Int32).toInt ≤ (Tv 2).toInt := by
        have z_1 : ¬ (r_5 : Int32).toInt = (0 : Int32).toInt := fun z => c_8 (Int32.toInt_inj.mp z)
        have z_2 := Int32.le_iff_toInt_le.mp c_10
        have y_0 : (0 : Int32).toInt = 0 := by decide
        have y_5 : (5 : Int32).toInt = 5 := by decide
        have t_x_9 : x_9.toInt = ((Tv 2) : Int32).toInt - ((Tv 1) : Int32).toInt := by rw [ex_9]; exact sub_toInt (by omega) (by omega)
        omega
      exact loop_17 _ (Tv 1) 0 _ _ _ (Nat.lt_succ_self _) ha_101 (Nv.nil) hP hD hS hl
    · skip
      refine lv_aload_n hx hb dX10_numberHere_30 rfl (lv_at hl 0 rfl) ?_
      refine lv_iconst (v := 1) hx hb dX10_numberHere_31 (by decide) ?_
      have ha_102 : 0 ≤ (1 : Int32).toInt ∧ (1 : Int32).toInt ≤ 4 := by
        have z_1 : ¬ (r_5 : Int32).toInt = (0 : Int32).toInt := fun z => c_8 (Int32.toInt_inj.mp z)
        have z_2 := Int32.lt_iff_toInt_lt.mp (Int32.not_le.mp c_10)
        have y_0 : (0 : Int32).toInt = 0 := by decide
        have y_5 : (5 : Int32).toInt = 5 := by decide
        have y_1 : (1 : Int32).toInt = 1 := by decide
        have t_x_9 : x_9.toInt = ((Tv 2) : Int32).toInt - ((Tv 1) : Int32).toInt := by rw [ex_9]; exact sub_toInt (by omega) (by omega)
        omega
      have ha_103 : (1 : Int32).toInt = (1 : Int) := by
        have z_1 : ¬ (r_5 : Int32).toInt = (0 : Int32).toInt := fun z => c_8 (Int32.toInt_inj.mp z)
        have z_2 := Int32.lt_iff_toInt_lt.mp (Int32.not_le.mp c_10)
        have y_0 : (0 : Int32).toInt = 0 := by decide
        have y_5 : (5 : Int32).toInt = 5 := by decide
        have y_1 : (1 : Int32).toInt = 1 := by decide
        have t_x_9 : x_9.toInt = ((Tv 2) : Int32).toInt - ((Tv 1) : Int32).toInt := by rw [ex_9]; exact sub_toInt (by omega) (by omega)
        omega
      refine cV (a := (Ta 0)) (As := [.int 1]) (rest := []) (wr := []) ⟨hx, hb, hml, hown, hts⟩ hK hX hA (cu_fX10_fail l D tc sk (Ta 0) (Ta 1) (Tv 0) (Tv 1) (Tv 2) (Tv 3) (Tv 4) (Tf 1) 1 rr 1 h_tape h_r ha_102 ha_103) k_557 k_571 k_555 k_556 k_96 pl_X10_fail ⟨Nat.le_of_ble_eq_true rfl, Nat.le_of_ble_eq_true rfl⟩ rfl rfl (va_recv hK hP (ci := 10) (q0 := 0) rfl rfl) hP hD hS [0, 1] [] rfl rfl rfl rfl rfl (by decide) rfl hl.1 rfl (Nat.le_of_ble_eq_true rfl) dX10_numberHere_32 ⟨Nat.le_of_ble_eq_true rfl, Nat.le_of_ble_eq_true rfl⟩ (fun v_104 u_105 H locs hv_106 hP₀ hD₀ hS₀ => ?_)
      obtain ⟨sv_107, sv_108⟩ := u_105
      obtain ⟨rfl, pf_109, pf_110⟩ := hv_106
      have pf_109 : 0 ≤ ((Tv 0) : Int32).toInt ∧ ((Tv 0) : Int32).toInt ≤ 400 ∧ 0 ≤ ((Tv 1) : Int32).toInt ∧ ((Tv 1) : Int32).toInt ≤ 400 ∧ 0 ≤ ((Tv 2) : Int32).toInt ∧ ((Tv 2) : Int32).toInt ≤ 400 := pf_109
      have pf_110 : TpR (Tf 1) (Tv 0) (rER (1 : Int) rr) (Tv 1) (Tv 2) sv_107 sv_108 := pf_110
      obtain ⟨ro_111, ero_111⟩ : ∃ z : Except Int (Nat × Nat), z = (rER (1 : Int) rr) := ⟨_, rfl⟩
      rw [← ero_111] at pf_110
      have tb_112 : TpB (rTE (cB (Tf 1) (Tv 0)) ro_111) (Tv 2) sv_108 := TpR.tb pf_110
      refine W.eq (g2 := F0 m 35 ls []) rfl ?_
      replace hP : va_P D classes [((Ta 0), .inr (10, [.ref (Ta 1), .int (Tv 0), .int (Tv 1), .int (Tv 2), .int sv_107, .int sv_108])), ((Ta 1), .inl (tc 0, 400, .inl (Tf 1)))] H := hP₀
      replace hD : va_D A [((Ta 0), .inr (10, [.ref (Ta 1), .int (Tv 0), .int (Tv 1), .int (Tv 2), .int sv_107, .int sv_108])), ((Ta 1), .inl (tc 0, 400, .inl (Tf 1)))] := hD₀
      replace hS := hS₀
      clear hP₀ hD₀ hS₀
      refine lv_iload_n hx hb dX10_numberHere_35 rfl (lv_at hl 1 rfl) ?_
      have hr_113 : 48 ≤ (Tv 3).toInt ∧ (Tv 3).toInt ≤ 57 := by
        have z_1 : ¬ (r_5 : Int32).toInt = (0 : Int32).toInt := fun z => c_8 (Int32.toInt_inj.mp z)
        have z_2 := Int32.lt_iff_toInt_lt.mp (Int32.not_le.mp c_10)
        have y_0 : (0 : Int32).toInt = 0 := by decide
        have y_5 : (5 : Int32).toInt = 5 := by decide
        have t_x_9 : x_9.toInt = ((Tv 2) : Int32).toInt - ((Tv 1) : Int32).toInt := by rw [ex_9]; exact sub_toInt (by omega) (by omega)
        omega
      have hr_114 : 5 < (Tv 2).toInt - (Tv 1).toInt := by
        have z_1 : ¬ (r_5 : Int32).toInt = (0 : Int32).toInt := fun z => c_8 (Int32.toInt_inj.mp z)
        have z_2 := Int32.lt_iff_toInt_lt.mp (Int32.not_le.mp c_10)
        have y_0 : (0 : Int32).toInt = 0 := by decide
        have y_5 : (5 : Int32).toInt = 5 := by decide
        have t_x_9 : x_9.toInt = ((Tv 2) : Int32).toInt - ((Tv 1) : Int32).toInt := by rw [ex_9]; exact sub_toInt (by omega) (by omega)
        omega
      have hf_115 : TpR (Tf 1) (Tv 0) (rNU (cB (Tf 1) (Tv 0)) lo hi rr) (Tv 1) (Tv 2) sv_107 sv_108 := by
        have hE_116 : (rNU (cB (Tf 1) (Tv 0)) lo hi rr) = ro_111 := by
          rw [ero_111]
          exact (rNU_long h_r hr_113 hr_114)
        rw [hE_116]
        exact pf_110
      have hr_117 : 48 ≤ (Tv 3).toInt ∧ (Tv 3).toInt ≤ 57 := by
        have z_1 : ¬ (r_5 : Int32).toInt = (0 : Int32).toInt := fun z => c_8 (Int32.toInt_inj.mp z)
        have z_2 := Int32.lt_iff_toInt_lt.mp (Int32.not_le.mp c_10)
        have y_0 : (0 : Int32).toInt = 0 := by decide
        have y_5 : (5 : Int32).toInt = 5 := by decide
        have t_x_9 : x_9.toInt = ((Tv 2) : Int32).toInt - ((Tv 1) : Int32).toInt := by rw [ex_9]; exact sub_toInt (by omega) (by omega)
        omega
      have hr_118 : 5 < (Tv 2).toInt - (Tv 1).toInt := by
        have z_1 : ¬ (r_5 : Int32).toInt = (0 : Int32).toInt := fun z => c_8 (Int32.toInt_inj.mp z)
        have z_2 := Int32.lt_iff_toInt_lt.mp (Int32.not_le.mp c_10)
        have y_0 : (0 : Int32).toInt = 0 := by decide
        have y_5 : (5 : Int32).toInt = 5 := by decide
        have t_x_9 : x_9.toInt = ((Tv 2) : Int32).toInt - ((Tv 1) : Int32).toInt := by rw [ex_9]; exact sub_toInt (by omega) (by omega)
        omega
      exact retI (v := x1) hx hb hr hlk (rfl) hP hD hS (sv_107, sv_108) ⟨_, rfl, (NuV.long h_r hr_117 hr_118), pf_109, hf_115⟩ [0, 1] rfl rfl dX10_numberHere_36 (Nat.le_of_ble_eq_true rfl) (Nat.le_of_ble_eq_true rfl) rfl
  · skip
    refine lv_aload_n hx hb dX10_numberHere_10 rfl (lv_at hl 0 rfl) ?_
    refine lv_iconst (v := 0) hx hb dX10_numberHere_11 (by decide) ?_
    have ha_119 : 0 ≤ (0 : Int32).toInt ∧ (0 : Int32).toInt ≤ 4 := by
      have z_1 := congrArg Int32.toInt c_8
      have y_0 : (0 : Int32).toInt = 0 := by decide
      omega
    have ha_120 : (0 : Int32).toInt = (0 : Int) := by
      have z_1 := congrArg Int32.toInt c_8
      have y_0 : (0 : Int32).toInt = 0 := by decide
      omega
    refine cV (a := (Ta 0)) (As := [.int 0]) (rest := []) (wr := []) ⟨hx, hb, hml, hown, hts⟩ hK hX hA (cu_fX10_fail l D tc sk (Ta 0) (Ta 1) (Tv 0) (Tv 1) (Tv 2) (Tv 3) (Tv 4) (Tf 1) 0 rr 0 h_tape h_r ha_119 ha_120) k_557 k_571 k_555 k_556 k_96 pl_X10_fail ⟨Nat.le_of_ble_eq_true rfl, Nat.le_of_ble_eq_true rfl⟩ rfl rfl (va_recv hK hP (ci := 10) (q0 := 0) rfl rfl) hP hD hS [0, 1] [] rfl rfl rfl rfl rfl (by decide) rfl hl.1 rfl (Nat.le_of_ble_eq_true rfl) dX10_numberHere_12 ⟨Nat.le_of_ble_eq_true rfl, Nat.le_of_ble_eq_true rfl⟩ (fun v_121 u_122 H locs hv_123 hP₀ hD₀ hS₀ => ?_)
    obtain ⟨sv_124, sv_125⟩ := u_122
    obtain ⟨rfl, pf_126, pf_127⟩ := hv_123
    have pf_126 : 0 ≤ ((Tv 0) : Int32).toInt ∧ ((Tv 0) : Int32).toInt ≤ 400 ∧ 0 ≤ ((Tv 1) : Int32).toInt ∧ ((Tv 1) : Int32).toInt ≤ 400 ∧ 0 ≤ ((Tv 2) : Int32).toInt ∧ ((Tv 2) : Int32).toInt ≤ 400 := pf_126
    have pf_127 : TpR (Tf 1) (Tv 0) (rER (0 : Int) rr) (Tv 1) (Tv 2) sv_124 sv_125 := pf_127
    obtain ⟨ro_128, ero_128⟩ : ∃ z : Except Int (Nat × Nat), z = (rER (0 : Int) rr) := ⟨_, rfl⟩
    rw [← ero_128] at pf_127
    have tb_129 : TpB (rTE (cB (Tf 1) (Tv 0)) ro_128) (Tv 2) sv_125 := TpR.tb pf_127
    refine W.eq (g2 := F0 m 15 ls []) rfl ?_
    replace hP : va_P D classes [((Ta 0), .inr (10, [.ref (Ta 1), .int (Tv 0), .int (Tv 1), .int (Tv 2), .int sv_124, .int sv_125])), ((Ta 1), .inl (tc 0, 400, .inl (Tf 1)))] H := hP₀
    replace hD : va_D A [((Ta 0), .inr (10, [.ref (Ta 1), .int (Tv 0), .int (Tv 1), .int (Tv 2), .int sv_124, .int sv_125])), ((Ta 1), .inl (tc 0, 400, .inl (Tf 1)))] := hD₀
    replace hS := hS₀
    clear hP₀ hD₀ hS₀
    refine lv_iload_n hx hb dX10_numberHere_15 rfl (lv_at hl 1 rfl) ?_
    have hr_130 : ¬ (48 ≤ (Tv 3).toInt ∧ (Tv 3).toInt ≤ 57) := by
      have z_1 := congrArg Int32.toInt c_8
      have y_0 : (0 : Int32).toInt = 0 := by decide
      omega
    have hf_131 : TpR (Tf 1) (Tv 0) (rNU (cB (Tf 1) (Tv 0)) lo hi rr) (Tv 1) (Tv 2) sv_124 sv_125 := by
      have hE_132 : (rNU (cB (Tf 1) (Tv 0)) lo hi rr) = ro_128 := by
        rw [ero_128]
        exact (rNU_nd h_r hr_130)
      rw [hE_132]
      exact pf_127
    have hr_133 : ¬ (48 ≤ (Tv 3).toInt ∧ (Tv 3).toInt ≤ 57) := by
      have z_1 := congrArg Int32.toInt c_8
      have y_0 : (0 : Int32).toInt = 0 := by decide
      omega
    exact retI (v := x1) hx hb hr hlk (rfl) hP hD hS (sv_124, sv_125) ⟨_, rfl, (NuV.nd h_r hr_133), pf_126, hf_131⟩ [0, 1] rfl rfl dX10_numberHere_16 (Nat.le_of_ble_eq_true rfl) (Nat.le_of_ble_eq_true rfl) rfl
set_option maxRecDepth 100000 in
theorem cu_fX10_numberHere (l : Launch) (D : va_G) (tc : Nat → ClassId) (sk : (Nat → Nat) × (Nat → Nat)) (Ta_0 : Nat) (Ta_1 : Nat) (Tv_0 : Int32) (Tv_1 : Int32) (Tv_2 : Int32) (Tv_3 : Int32) (Tv_4 : Int32) (Tf_1 : Nat → Int32) (x1 : Int32) (x2 : Int32) (rr : Except Int (Nat × Nat)) (lo : Int) (hi : Int) (h_tape : 0 ≤ (Tv_0 : Int32).toInt ∧ (Tv_0 : Int32).toInt ≤ 400 ∧ 0 ≤ (Tv_1 : Int32).toInt ∧ (Tv_1 : Int32).toInt ≤ 400 ∧ 0 ≤ (Tv_2 : Int32).toInt ∧ (Tv_2 : Int32).toInt ≤ 400) (h_by : Byt Tf_1) (h_r : TpR Tf_1 Tv_0 rr Tv_1 Tv_2 Tv_3 Tv_4) (h_lo : x1.toInt = lo) (h_hi : x2.toInt = hi) : Ct l yX10_numberHere cX10_numberHere 5 (some .int) { frames := 1, cells := 0, slots := 0, locals := 21 } D tc sk [.ref Ta_0, .int x1, .int x2] [(Ta_0, .inr (10, [.ref Ta_1, .int Tv_0, .int Tv_1, .int Tv_2, .int Tv_3, .int Tv_4])), (Ta_1, .inl (tc 0, 400, .inl Tf_1))] (fun (v : Option Value) (u : (Int32) × (Int32)) => match u with | (oo0x1, oo0x2) => ∃ r : Int32, v = some (.int r) ∧ (NuV (cB Tf_1 Tv_0) lo hi rr r) ∧ (0 ≤ (Tv_0 : Int32).toInt ∧ (Tv_0 : Int32).toInt ≤ 400 ∧ 0 ≤ (Tv_1 : Int32).toInt ∧ (Tv_1 : Int32).toInt ≤ 400 ∧ 0 ≤ (Tv_2 : Int32).toInt ∧ (Tv_2 : Int32).toInt ≤ 400) ∧ (TpR Tf_1 Tv_0 (rNU (cB Tf_1 Tv_0) lo hi rr) Tv_1 Tv_2 oo0x1 oo0x2)) (fun (u : (Int32) × (Int32)) => match u with | (oo0x1, oo0x2) => [(Ta_0, .inr (10, [.ref Ta_1, .int Tv_0, .int Tv_1, .int Tv_2, .int oo0x1, .int oo0x2])), (Ta_1, .inl (tc 0, 400, .inl Tf_1))]) 0 0 :=
  ct_fX10_numberHere l D tc sk (fun k => ([Ta_0, Ta_1] : List (Nat)).getD k 0) (fun k => ([Tv_0, Tv_1, Tv_2, Tv_3, Tv_4] : List (Int32)).getD k 0) (fun k => ([(fun _ => 0), Tf_1] : List (Nat → Int32)).getD k (fun _ => 0)) x1 x2 rr lo hi h_tape h_by h_r h_lo h_hi
set_option maxHeartbeats 4000000 in
set_option maxRecDepth 100000 in
theorem ct_fX10_takeNumber (l : Launch) (D : va_G) (tc : Nat → ClassId) (sk : (Nat → Nat) × (Nat → Nat)) (Ta : Nat → Nat) (Tv : Nat → Int32) (Tf : Nat → Nat → Int32) (x1 : Int32) (x2 : Int32) (rr : Except Int (Nat × Nat)) (lo : Int) (hi : Int) (h_tape : 0 ≤ ((Tv 0) : Int32).toInt ∧ ((Tv 0) : Int32).toInt ≤ 400 ∧ 0 ≤ ((Tv 1) : Int32).toInt ∧ ((Tv 1) : Int32).toInt ≤ 400 ∧ 0 ≤ ((Tv 2) : Int32).toInt ∧ ((Tv 2) : Int32).toInt ≤ 400) (h_by : Byt (Tf 1)) (h_r : TpR (Tf 1) (Tv 0) rr (Tv 1) (Tv 2) (Tv 3) (Tv 4)) (h_lo : x1.toInt = lo) (h_hi : x2.toInt = hi) : Ct l yX10_takeNumber cX10_takeNumber 4 (some .int) { frames := 2, cells := 0, slots := 0, locals := 45 } D tc sk [.ref (Ta 0), .int x1, .int x2] [((Ta 0), .inr (10, [.ref (Ta 1), .int (Tv 0), .int (Tv 1), .int (Tv 2), .int (Tv 3), .int (Tv 4)])), ((Ta 1), .inl (tc 0, 400, .inl (Tf 1)))] (fun (v : Option Value) (u : (Int32) × (Int32) × (Int32) × (Int32)) => match u with | (oo0x1, oo0x2, oo0x3, oo0x4) => ∃ r : Int32, v = some (.int r) ∧ (NuV (cB (Tf 1) (Tv 0)) lo hi rr r) ∧ (0 ≤ ((Tv 0) : Int32).toInt ∧ ((Tv 0) : Int32).toInt ≤ 400 ∧ 0 ≤ (oo0x1 : Int32).toInt ∧ (oo0x1 : Int32).toInt ≤ 400 ∧ 0 ≤ (oo0x2 : Int32).toInt ∧ (oo0x2 : Int32).toInt ≤ 400) ∧ (TpR (Tf 1) (Tv 0) (rNX (cB (Tf 1) (Tv 0)) (rNU (cB (Tf 1) (Tv 0)) lo hi rr)) oo0x1 oo0x2 oo0x3 oo0x4)) (fun (u : (Int32) × (Int32) × (Int32) × (Int32)) => match u with | (oo0x1, oo0x2, oo0x3, oo0x4) => [((Ta 0), .inr (10, [.ref (Ta 1), .int (Tv 0), .int oo0x1, .int oo0x2, .int oo0x3, .int oo0x4])), ((Ta 1), .inl (tc 0, 400, .inl (Tf 1)))]) 0 0 := by
  refine Ct.start (by decide) (Nat.le_of_ble_eq_true rfl) (fun p e s m below meth c A ls hx hb hr hlk hin hml hown hts hK hX hP hD hA hl hS => ?_)
  have hl : lv_has ls 4 [(0, .ref (Ta 0)), (1, .int x1), (2, .int x2)] := hl
  have tb_1 : TpB (rTE (cB (Tf 1) (Tv 0)) rr) (Tv 2) (Tv 4) := TpR.tb h_r
  refine lv_aload_n hx hb dX10_takeNumber_0 rfl (lv_at hl 0 rfl) ?_
  refine lv_iload_n hx hb dX10_takeNumber_1 rfl (lv_at hl 1 rfl) ?_
  refine lv_iload_n hx hb dX10_takeNumber_2 rfl (lv_at hl 2 rfl) ?_
  refine cV (a := (Ta 0)) (As := [.int x1, .int x2]) (rest := []) (wr := []) ⟨hx, hb, hml, hown, hts⟩ hK hX hA (cu_fX10_numberHere l D tc sk (Ta 0) (Ta 1) (Tv 0) (Tv 1) (Tv 2) (Tv 3) (Tv 4) (Tf 1) x1 x2 rr lo hi h_tape h_by h_r h_lo h_hi) k_570 k_567 k_568 k_569 k_96 pl_X10_numberHere ⟨Nat.le_of_ble_eq_true rfl, Nat.le_of_ble_eq_true rfl⟩ rfl rfl (va_recv hK hP (ci := 10) (q0 := 0) rfl rfl) hP hD hS [0, 1] [] rfl rfl rfl rfl rfl (by decide) rfl hl.1 rfl (Nat.le_of_ble_eq_true rfl) dX10_takeNumber_3 ⟨Nat.le_of_ble_eq_true rfl, Nat.le_of_ble_eq_true rfl⟩ (fun v_2 u_3 H locs hv_4 hP₀ hD₀ hS₀ => ?_)
  obtain ⟨sv_5, sv_6⟩ := u_3
  obtain ⟨r_9, rfl, he_10, pf_7, pf_8⟩ := hv_4
  have he_10 : NuV (cB (Tf 1) (Tv 0)) lo hi rr r_9 := he_10
  have pf_7 : 0 ≤ ((Tv 0) : Int32).toInt ∧ ((Tv 0) : Int32).toInt ≤ 400 ∧ 0 ≤ ((Tv 1) : Int32).toInt ∧ ((Tv 1) : Int32).toInt ≤ 400 ∧ 0 ≤ ((Tv 2) : Int32).toInt ∧ ((Tv 2) : Int32).toInt ≤ 400 := pf_7
  have pf_8 : TpR (Tf 1) (Tv 0) (rNU (cB (Tf 1) (Tv 0)) lo hi rr) (Tv 1) (Tv 2) sv_5 sv_6 := pf_8
  obtain ⟨ro_12, ero_12⟩ : ∃ z : Except Int (Nat × Nat), z = (rNU (cB (Tf 1) (Tv 0)) lo hi rr) := ⟨_, rfl⟩
  rw [← ero_12] at pf_8
  have tb_13 : TpB (rTE (cB (Tf 1) (Tv 0)) ro_12) (Tv 2) sv_6 := TpR.tb pf_8
  refine W.eq (g2 := F0 m 6 ls [.int r_9]) rfl ?_
  replace hP : va_P D classes [((Ta 0), .inr (10, [.ref (Ta 1), .int (Tv 0), .int (Tv 1), .int (Tv 2), .int sv_5, .int sv_6])), ((Ta 1), .inl (tc 0, 400, .inl (Tf 1)))] H := hP₀
  replace hD : va_D A [((Ta 0), .inr (10, [.ref (Ta 1), .int (Tv 0), .int (Tv 1), .int (Tv 2), .int sv_5, .int sv_6])), ((Ta 1), .inl (tc 0, 400, .inl (Tf 1)))] := hD₀
  replace hS := hS₀
  clear hP₀ hD₀ hS₀
  refine lv_istore_n (lv' := [(3, .int r_9), (0, .ref (Ta 0)), (1, .int x1), (2, .int x2)]) hx hb dX10_takeNumber_6 rfl hl (by decide) rfl (fun ls hl₀ => ?_)
  replace hl := hl₀
  clear hl₀
  refine lv_aload_n hx hb dX10_takeNumber_7 rfl (lv_at hl 1 rfl) ?_
  refine cV (a := (Ta 0)) (As := []) (rest := []) (wr := []) ⟨hx, hb, hml, hown, hts⟩ hK hX hA (cu_fX10_step l D tc sk (Ta 0) (Ta 1) (Tv 0) (Tv 1) (Tv 2) sv_5 sv_6 (Tf 1) (rTE (cB (Tf 1) (Tv 0)) ro_12) pf_7 h_by tb_13) k_478 k_475 k_476 k_477 k_96 pl_X10_step ⟨Nat.le_of_ble_eq_true rfl, Nat.le_of_ble_eq_true rfl⟩ rfl rfl (va_recv hK hP (ci := 10) (q0 := 0) rfl rfl) hP hD hS [0, 1] [] rfl rfl rfl rfl rfl (by decide) rfl hl.1 rfl (Nat.le_of_ble_eq_true rfl) dX10_takeNumber_8 ⟨Nat.le_of_ble_eq_true rfl, Nat.le_of_ble_eq_true rfl⟩ (fun v_14 u_15 H locs hv_16 hP₀ hD₀ hS₀ => ?_)
  obtain ⟨sv_17, sv_18, sv_19⟩ := u_15
  obtain ⟨rfl, pf_20, pf_21⟩ := hv_16
  have pf_20 : 0 ≤ ((Tv 0) : Int32).toInt ∧ ((Tv 0) : Int32).toInt ≤ 400 ∧ 0 ≤ (sv_17 : Int32).toInt ∧ (sv_17 : Int32).toInt ≤ 400 ∧ 0 ≤ (sv_18 : Int32).toInt ∧ (sv_18 : Int32).toInt ≤ 400 := pf_20
  have pf_21 : TpR (Tf 1) (Tv 0) (rSK (cB (Tf 1) (Tv 0)) (rTE (cB (Tf 1) (Tv 0)) ro_12)) sv_17 sv_18 sv_19 sv_6 := pf_21
  rw [rNX_eq] at pf_21
  obtain ⟨ro_22, ero_22⟩ : ∃ z : Except Int (Nat × Nat), z = (rNX (cB (Tf 1) (Tv 0)) ro_12) := ⟨_, rfl⟩
  rw [← ero_22] at pf_21
  have tb_23 : TpB (rTE (cB (Tf 1) (Tv 0)) ro_22) sv_18 sv_6 := TpR.tb pf_21
  refine W.eq (g2 := F0 m 11 ls []) rfl ?_
  replace hP : va_P D classes [((Ta 0), .inr (10, [.ref (Ta 1), .int (Tv 0), .int sv_17, .int sv_18, .int sv_19, .int sv_6])), ((Ta 1), .inl (tc 0, 400, .inl (Tf 1)))] H := hP₀
  replace hD : va_D A [((Ta 0), .inr (10, [.ref (Ta 1), .int (Tv 0), .int sv_17, .int sv_18, .int sv_19, .int sv_6])), ((Ta 1), .inl (tc 0, 400, .inl (Tf 1)))] := hD₀
  replace hS := hS₀
  clear hP₀ hD₀ hS₀
  refine lv_iload_n hx hb dX10_takeNumber_11 rfl (lv_at hl 0 rfl) ?_
  have hf_24 : TpR (Tf 1) (Tv 0) (rNX (cB (Tf 1) (Tv 0)) (rNU (cB (Tf 1) (Tv 0)) lo hi rr)) sv_17 sv_18 sv_19 sv_6 := by
    have hE_25 : (rNX (cB (Tf 1) (Tv 0)) (rNU (cB (Tf 1) (Tv 0)) lo hi rr)) = ro_22 := by
      rw [ero_22, ero_12]
    rw [hE_25]
    exact pf_21
  exact retI (v := r_9) hx hb hr hlk (rfl) hP hD hS (sv_17, sv_18, sv_19, sv_6) ⟨_, rfl, he_10, pf_20, hf_24⟩ [0, 1] rfl rfl dX10_takeNumber_12 (Nat.le_of_ble_eq_true rfl) (Nat.le_of_ble_eq_true rfl) rfl
set_option maxRecDepth 100000 in
theorem cu_fX10_takeNumber (l : Launch) (D : va_G) (tc : Nat → ClassId) (sk : (Nat → Nat) × (Nat → Nat)) (Ta_0 : Nat) (Ta_1 : Nat) (Tv_0 : Int32) (Tv_1 : Int32) (Tv_2 : Int32) (Tv_3 : Int32) (Tv_4 : Int32) (Tf_1 : Nat → Int32) (x1 : Int32) (x2 : Int32) (rr : Except Int (Nat × Nat)) (lo : Int) (hi : Int) (h_tape : 0 ≤ (Tv_0 : Int32).toInt ∧ (Tv_0 : Int32).toInt ≤ 400 ∧ 0 ≤ (Tv_1 : Int32).toInt ∧ (Tv_1 : Int32).toInt ≤ 400 ∧ 0 ≤ (Tv_2 : Int32).toInt ∧ (Tv_2 : Int32).toInt ≤ 400) (h_by : Byt Tf_1) (h_r : TpR Tf_1 Tv_0 rr Tv_1 Tv_2 Tv_3 Tv_4) (h_lo : x1.toInt = lo) (h_hi : x2.toInt = hi) : Ct l yX10_takeNumber cX10_takeNumber 4 (some .int) { frames := 2, cells := 0, slots := 0, locals := 45 } D tc sk [.ref Ta_0, .int x1, .int x2] [(Ta_0, .inr (10, [.ref Ta_1, .int Tv_0, .int Tv_1, .int Tv_2, .int Tv_3, .int Tv_4])), (Ta_1, .inl (tc 0, 400, .inl Tf_1))] (fun (v : Option Value) (u : (Int32) × (Int32) × (Int32) × (Int32)) => match u with | (oo0x1, oo0x2, oo0x3, oo0x4) => ∃ r : Int32, v = some (.int r) ∧ (NuV (cB Tf_1 Tv_0) lo hi rr r) ∧ (0 ≤ (Tv_0 : Int32).toInt ∧ (Tv_0 : Int32).toInt ≤ 400 ∧ 0 ≤ (oo0x1 : Int32).toInt ∧ (oo0x1 : Int32).toInt ≤ 400 ∧ 0 ≤ (oo0x2 : Int32).toInt ∧ (oo0x2 : Int32).toInt ≤ 400) ∧ (TpR Tf_1 Tv_0 (rNX (cB Tf_1 Tv_0) (rNU (cB Tf_1 Tv_0) lo hi rr)) oo0x1 oo0x2 oo0x3 oo0x4)) (fun (u : (Int32) × (Int32) × (Int32) × (Int32)) => match u with | (oo0x1, oo0x2, oo0x3, oo0x4) => [(Ta_0, .inr (10, [.ref Ta_1, .int Tv_0, .int oo0x1, .int oo0x2, .int oo0x3, .int oo0x4])), (Ta_1, .inl (tc 0, 400, .inl Tf_1))]) 0 0 :=
  ct_fX10_takeNumber l D tc sk (fun k => ([Ta_0, Ta_1] : List (Nat)).getD k 0) (fun k => ([Tv_0, Tv_1, Tv_2, Tv_3, Tv_4] : List (Int32)).getD k 0) (fun k => ([(fun _ => 0), Tf_1] : List (Nat → Int32)).getD k (fun _ => 0)) x1 x2 rr lo hi h_tape h_by h_r h_lo h_hi
