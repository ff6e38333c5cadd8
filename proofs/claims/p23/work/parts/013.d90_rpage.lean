set_option maxRecDepth 16384
def dX12_grainsOf_l4 (Mf_10 : Nat → Int32) (zz_501 : Int32) : Nat → Int32 → Int32 → Int32 × Int32
  | 0, _, _ => (0, 0)
  | n + 1, yy_500, yy_501 => (if (Mf_10 ((3 : Int32)).toNatClampNeg) ≤ yy_500 then (yy_500, yy_501) else (if (dX12_isOf zz_501 yy_500) = (0 : Int32) then dX12_grainsOf_l4 Mf_10 zz_501 n (yy_500 + 1) (yy_501 + (0 : Int32)) else dX12_grainsOf_l4 Mf_10 zz_501 n (yy_500 + 1) (yy_501 + (Mf_10 (((56 : Int32) + yy_500)).toNatClampNeg))))
theorem dX12_grainsOf_l4_s {Mf_10 : Nat → Int32} {zz_501 : Int32} {n : Nat} {yy_500 : Int32} {yy_501 : Int32} : dX12_grainsOf_l4 Mf_10 zz_501 (n + 1) yy_500 yy_501 = (if (Mf_10 ((3 : Int32)).toNatClampNeg) ≤ yy_500 then (yy_500, yy_501) else (if (dX12_isOf zz_501 yy_500) = (0 : Int32) then dX12_grainsOf_l4 Mf_10 zz_501 n (yy_500 + 1) (yy_501 + (0 : Int32)) else dX12_grainsOf_l4 Mf_10 zz_501 n (yy_500 + 1) (yy_501 + (Mf_10 (((56 : Int32) + yy_500)).toNatClampNeg)))) := rfl
def dX12_grainsOf (Mf_10 : Nat → Int32) (x1 : Int32) : Int32 := (dX12_grainsOf_l4 Mf_10 x1 ((6 - (0 : Int32).toInt).toNat + 1) (0 : Int32) (0 : Int32)).2
set_option maxHeartbeats 4000000 in
set_option maxRecDepth 100000 in
theorem ct_dX12_grainsOf {T : Nat → Option Int32} (l : Launch) (D : va_G) (tc : Nat → ClassId) (sk : (Nat → Nat) × (Nat → Nat)) (Ma : Nat → Nat) (Mv : Nat → Int32) (Mf : Nat → Nat → Int32) (Mj : Nat → Int64) (x1 : Int32) (h_said : SaidB T (Mf 10)) : Ct l yX12_grainsOf cX12_grainsOf 4 (some .int) { frames := 1, cells := 0, slots := 0, locals := 21 } D tc sk [.ref (Ma 0), .int x1] [((Ma 0), .inr (12, [.ref (Ma 1), .int (Mv 0), .int (Mv 1), .ref (Ma 2), .ref (Ma 3), .ref (Ma 4), .ref (Ma 5), .ref (Ma 6), .int (Mv 2), .int (Mv 3), .int (Mv 4), .int (Mv 5), .int (Mv 6), .int (Mv 7), .int (Mv 8), .ref (Ma 7), .int (Mv 9), .ref (Ma 8), .int (Mv 10), .ref (Ma 9), .ref (Ma 10), .int (Mv 11), .int (Mv 12), .int (Mv 13), .ref (Ma 11), .int (Mv 14), .ref (Ma 12), .ref (Ma 13), .ref (Ma 14), .ref (Ma 15), .ref (Ma 16), .long (Mj 0), .ref (Ma 17), .ref (Ma 18), .ref (Ma 19), .ref (Ma 20)])), ((Ma 10), .inl (tc 0, 126, .inl (Mf 10)))] (fun (v : Option Value) (_ : Unit) => ∃ r : Int32, v = some (.int r) ∧ ((True) ∧ r = (dX12_grainsOf (Mf 10) x1))) (fun (_ : Unit) => [((Ma 0), .inr (12, [.ref (Ma 1), .int (Mv 0), .int (Mv 1), .ref (Ma 2), .ref (Ma 3), .ref (Ma 4), .ref (Ma 5), .ref (Ma 6), .int (Mv 2), .int (Mv 3), .int (Mv 4), .int (Mv 5), .int (Mv 6), .int (Mv 7), .int (Mv 8), .ref (Ma 7), .int (Mv 9), .ref (Ma 8), .int (Mv 10), .ref (Ma 9), .ref (Ma 10), .int (Mv 11), .int (Mv 12), .int (Mv 13), .ref (Ma 11), .int (Mv 14), .ref (Ma 12), .ref (Ma 13), .ref (Ma 14), .ref (Ma 15), .ref (Ma 16), .long (Mj 0), .ref (Ma 17), .ref (Ma 18), .ref (Ma 19), .ref (Ma 20)])), ((Ma 10), .inl (tc 0, 126, .inl (Mf 10)))]) 0 0 := by
  refine Ct.start (by decide) (Nat.le_of_ble_eq_true rfl) (fun p e s m below meth c A ls hx hb hr hlk hin hml hown hts hK hX hP hD hA hl hS => ?_)
  have hl : lv_has ls 4 [(0, .ref (Ma 0)), (1, .int x1)] := hl
  have ar_h_said := SaidB.ar h_said
  refine lv_iconst (v := 0) hx hb dX12_grainsOf_0 (by decide) ?_
  refine lv_istore_n (lv' := [(2, .int 0), (0, .ref (Ma 0)), (1, .int x1)]) hx hb dX12_grainsOf_1 rfl hl (by decide) rfl (fun ls hl₀ => ?_)
  replace hl := hl₀
  clear hl₀
  refine lv_iconst (v := 0) hx hb dX12_grainsOf_2 (by decide) ?_
  refine lv_istore_n (lv' := [(3, .int 0), (2, .int 0), (0, .ref (Ma 0)), (1, .int x1)]) hx hb dX12_grainsOf_3 rfl hl (by decide) rfl (fun ls hl₀ => ?_)
  replace hl := hl₀
  clear hl₀
  have loop_3 : ∀ (n_1 : Nat) (yy_500 : Int32) (yy_501 : Int32) (H : Heap) (locs : List Loc) (ls : Array Slot), (6 - (yy_500 : Int32).toInt).toNat < n_1 → (dX12_grainsOf_l4 (Mf 10) x1 ((6 - (0 : Int32).toInt).toNat + 1) (0 : Int32) (0 : Int32)) = dX12_grainsOf_l4 (Mf 10) x1 ((6 - (yy_500 : Int32).toInt).toNat + 1) yy_500 yy_501 → (0 ≤ (yy_500 : Int32).toInt) → va_P D classes [((Ma 0), .inr (12, [.ref (Ma 1), .int (Mv 0), .int (Mv 1), .ref (Ma 2), .ref (Ma 3), .ref (Ma 4), .ref (Ma 5), .ref (Ma 6), .int (Mv 2), .int (Mv 3), .int (Mv 4), .int (Mv 5), .int (Mv 6), .int (Mv 7), .int (Mv 8), .ref (Ma 7), .int (Mv 9), .ref (Ma 8), .int (Mv 10), .ref (Ma 9), .ref (Ma 10), .int (Mv 11), .int (Mv 12), .int (Mv 13), .ref (Ma 11), .int (Mv 14), .ref (Ma 12), .ref (Ma 13), .ref (Ma 14), .ref (Ma 15), .ref (Ma 16), .long (Mj 0), .ref (Ma 17), .ref (Ma 18), .ref (Ma 19), .ref (Ma 20)])), ((Ma 10), .inl (tc 0, 126, .inl (Mf 10)))] H → va_D A [((Ma 0), .inr (12, [.ref (Ma 1), .int (Mv 0), .int (Mv 1), .ref (Ma 2), .ref (Ma 3), .ref (Ma 4), .ref (Ma 5), .ref (Ma 6), .int (Mv 2), .int (Mv 3), .int (Mv 4), .int (Mv 5), .int (Mv 6), .int (Mv 7), .int (Mv 8), .ref (Ma 7), .int (Mv 9), .ref (Ma 8), .int (Mv 10), .ref (Ma 9), .ref (Ma 10), .int (Mv 11), .int (Mv 12), .int (Mv 13), .ref (Ma 11), .int (Mv 14), .ref (Ma 12), .ref (Ma 13), .ref (Ma 14), .ref (Ma 15), .ref (Ma 16), .long (Mj 0), .ref (Ma 17), .ref (Ma 18), .ref (Ma 19), .ref (Ma 20)])), ((Ma 10), .inl (tc 0, 126, .inl (Mf 10)))] → va_S A s.heap H locs → lv_has ls 4 [(3, .int yy_500), (2, .int yy_501), (0, .ref (Ma 0)), (1, .int x1)] → W p l e ({ frames := 1, cells := 0, slots := 0, locals := 21 }) s m ([.ref (Ma 0), .int x1].toArray) below meth c H locs 0 0 (MQ below (QW (fun (v : Option Value) (_ : Unit) => ∃ r : Int32, v = some (.int r) ∧ ((True) ∧ r = (dX12_grainsOf (Mf 10) x1))) (BW D (fun (_ : Unit) => [((Ma 0), .inr (12, [.ref (Ma 1), .int (Mv 0), .int (Mv 1), .ref (Ma 2), .ref (Ma 3), .ref (Ma 4), .ref (Ma 5), .ref (Ma 6), .int (Mv 2), .int (Mv 3), .int (Mv 4), .int (Mv 5), .int (Mv 6), .int (Mv 7), .int (Mv 8), .ref (Ma 7), .int (Mv 9), .ref (Ma 8), .int (Mv 10), .ref (Ma 9), .ref (Ma 10), .int (Mv 11), .int (Mv 12), .int (Mv 13), .ref (Ma 11), .int (Mv 14), .ref (Ma 12), .ref (Ma 13), .ref (Ma 14), .ref (Ma 15), .ref (Ma 16), .long (Mj 0), .ref (Ma 17), .ref (Ma 18), .ref (Ma 19), .ref (Ma 20)])), ((Ma 10), .inl (tc 0, 126, .inl (Mf 10)))]) A) A) ([.ref (Ma 0), .int x1].toArray) s 0 0 A) (F0 m 4 ls []) := by
    clear hP hD hS hl
    intro n_1
    induction n_1 with
    | zero =>
      intro yy_500 yy_501 H locs ls h1
      exact absurd h1 (Nat.not_lt_zero _)
    | succ n_1 ih_2 =>
      intro yy_500 yy_501 H locs ls hn_6 hL_5 pf_4 hP hD hS hl
      refine lv_iload_n hx hb dX12_grainsOf_4 rfl (lv_at hl 0 rfl) ?_
      refine lv_aload_n hx hb dX12_grainsOf_5 rfl (lv_at hl 2 rfl) ?_
      refine gf_X12_39 hx hb hts hown hK hP 0 rfl rfl dX12_grainsOf_6 ?_
      refine lv_iconst (v := 3) hx hb dX12_grainsOf_9 (by decide) ?_
      refine va_iald hx hb hK hP 1 0 rfl rfl (vin_dec (by decide +kernel)) dX12_grainsOf_10 ?_
      refine lv_topi (fun x_7 ex_7 => ?_)
      have lx_7 : x_7.toInt = ((Mf 10) 3).toInt := congrArg Int32.toInt ex_7
      refine lv_icmp_ge (tgt := 44) hx hb dX12_grainsOf_11 (by decide) (fun c_8 => ?_) (fun c_8 => ?_)
      · skip
        have hb_10 : dX12_grainsOf_l4 (Mf 10) x1 ((6 - (yy_500 : Int32).toInt).toNat + 1) yy_500 yy_501 = (yy_500, yy_501) := by
          clear hP hD hS hl ih_2
          replace ex_7 := ex_7.symm; subst ex_7
          rw [dX12_grainsOf_l4_s]
          rw [if_pos c_8]
          try rfl
        have hX_9 : (dX12_grainsOf_l4 (Mf 10) x1 ((6 - (0 : Int32).toInt).toNat + 1) (0 : Int32) (0 : Int32)) = (yy_500, yy_501) := hL_5.trans hb_10
        have hX_9_0 : (dX12_grainsOf_l4 (Mf 10) x1 ((6 - (0 : Int32).toInt).toNat + 1) (0 : Int32) (0 : Int32)).1 = yy_500 := congrArg (fun z => z.1) hX_9
        have hX_9_1 : (dX12_grainsOf_l4 (Mf 10) x1 ((6 - (0 : Int32).toInt).toNat + 1) (0 : Int32) (0 : Int32)).2 = yy_501 := congrArg (fun z => z.2) hX_9
        refine lv_iload_n hx hb dX12_grainsOf_44 rfl (lv_at hl 1 rfl) ?_
        have hF_11 : yy_501 = (dX12_grainsOf (Mf 10) x1) := by
          clear hP hD hS hl ih_2
          replace ex_7 := ex_7.symm; subst ex_7
          unfold dX12_grainsOf
          try rw [hX_9_0]
          try rw [hX_9_1]
          try rfl
        exact retI (v := yy_501) hx hb hr hlk (rfl) hP hD hS () ⟨_, rfl, ⟨trivial, hF_11⟩⟩ [0, 1] rfl rfl dX12_grainsOf_45 (Nat.le_of_ble_eq_true rfl) (Nat.le_of_ble_eq_true rfl) rfl
      · skip
        refine lv_iload_n hx hb dX12_grainsOf_14 rfl (lv_at hl 1 rfl) ?_
        refine lv_iload_n hx hb dX12_grainsOf_15 rfl (lv_at hl 3 rfl) ?_
        refine lv_iload_n hx hb dX12_grainsOf_16 rfl (lv_at hl 0 rfl) ?_
        refine cS (As := [.int x1, .int yy_500]) (rest := [.int yy_501]) (wr := [((Ma 0), .inr (12, [.ref (Ma 1), .int (Mv 0), .int (Mv 1), .ref (Ma 2), .ref (Ma 3), .ref (Ma 4), .ref (Ma 5), .ref (Ma 6), .int (Mv 2), .int (Mv 3), .int (Mv 4), .int (Mv 5), .int (Mv 6), .int (Mv 7), .int (Mv 8), .ref (Ma 7), .int (Mv 9), .ref (Ma 8), .int (Mv 10), .ref (Ma 9), .ref (Ma 10), .int (Mv 11), .int (Mv 12), .int (Mv 13), .ref (Ma 11), .int (Mv 14), .ref (Ma 12), .ref (Ma 13), .ref (Ma 14), .ref (Ma 15), .ref (Ma 16), .long (Mj 0), .ref (Ma 17), .ref (Ma 18), .ref (Ma 19), .ref (Ma 20)])), ((Ma 10), .inl (tc 0, 126, .inl (Mf 10)))]) ⟨hx, hb, hml, hown, hts⟩ hK hX hA (ct_dX12_isOf l D tc sk x1 yy_500) k_1469 k_1467 k_1468 k_106 pl_X12_isOf ⟨Nat.le_of_ble_eq_true rfl, Nat.le_of_ble_eq_true rfl⟩ rfl rfl  hP hD hS [] [0, 1] rfl rfl rfl rfl rfl (by decide) rfl hl.1 rfl (Nat.le_of_ble_eq_true rfl) dX12_grainsOf_17 ⟨Nat.le_of_ble_eq_true rfl, Nat.le_of_ble_eq_true rfl⟩ (fun v_12 u_13 H locs hv_14 hP₀ hD₀ hS₀ => ?_)
        obtain ⟨r_15, rfl, he_16⟩ := hv_14
        have he_16 : ((r_15.toInt = 0 ∨ r_15.toInt = 1)) ∧ r_15 = (dX12_isOf x1 yy_500) := he_16
        refine W.eq (g2 := F0 m 20 ls [.int r_15, .int yy_501]) rfl ?_
        replace hP : va_P D classes [((Ma 0), .inr (12, [.ref (Ma 1), .int (Mv 0), .int (Mv 1), .ref (Ma 2), .ref (Ma 3), .ref (Ma 4), .ref (Ma 5), .ref (Ma 6), .int (Mv 2), .int (Mv 3), .int (Mv 4), .int (Mv 5), .int (Mv 6), .int (Mv 7), .int (Mv 8), .ref (Ma 7), .int (Mv 9), .ref (Ma 8), .int (Mv 10), .ref (Ma 9), .ref (Ma 10), .int (Mv 11), .int (Mv 12), .int (Mv 13), .ref (Ma 11), .int (Mv 14), .ref (Ma 12), .ref (Ma 13), .ref (Ma 14), .ref (Ma 15), .ref (Ma 16), .long (Mj 0), .ref (Ma 17), .ref (Ma 18), .ref (Ma 19), .ref (Ma 20)])), ((Ma 10), .inl (tc 0, 126, .inl (Mf 10)))] H := hP₀
        replace hD : va_D A [((Ma 0), .inr (12, [.ref (Ma 1), .int (Mv 0), .int (Mv 1), .ref (Ma 2), .ref (Ma 3), .ref (Ma 4), .ref (Ma 5), .ref (Ma 6), .int (Mv 2), .int (Mv 3), .int (Mv 4), .int (Mv 5), .int (Mv 6), .int (Mv 7), .int (Mv 8), .ref (Ma 7), .int (Mv 9), .ref (Ma 8), .int (Mv 10), .ref (Ma 9), .ref (Ma 10), .int (Mv 11), .int (Mv 12), .int (Mv 13), .ref (Ma 11), .int (Mv 14), .ref (Ma 12), .ref (Ma 13), .ref (Ma 14), .ref (Ma 15), .ref (Ma 16), .long (Mj 0), .ref (Ma 17), .ref (Ma 18), .ref (Ma 19), .ref (Ma 20)])), ((Ma 10), .inl (tc 0, 126, .inl (Mf 10)))] := hD₀
        replace hS := hS₀
        clear hP₀ hD₀ hS₀
        obtain ⟨he_16, hq_18⟩ := he_16
        have er_15 : r_15 = (dX12_isOf x1 yy_500) := hq_18
        refine lv_if_eq (tgt := 35) hx hb dX12_grainsOf_20 (by decide) (fun c_19 => ?_) (fun c_19 => ?_)
        · skip
          refine lv_iconst (v := 0) hx hb dX12_grainsOf_35 (by decide) ?_
          refine lv_iadd hx hb dX12_grainsOf_36 ?_
          refine lv_topi (fun x_20 ex_20 => ?_)
          refine lv_istore_n (lv' := [(2, .int x_20), (3, .int yy_500), (0, .ref (Ma 0)), (1, .int x1)]) hx hb dX12_grainsOf_37 rfl hl (by decide) rfl (fun ls hl₀ => ?_)
          replace hl := hl₀
          clear hl₀
          obtain ⟨x_21, ex_21⟩ : ∃ y : Int32, y = yy_500 + 1 := ⟨_, rfl⟩
          refine lv_iinc (v := x_21) (lv' := [(3, .int x_21), (2, .int x_20), (0, .ref (Ma 0)), (1, .int x1)]) hx hb dX12_grainsOf_38 hl (k := 1) rfl (by rw [ex_21]; rfl) (by decide) rfl (fun ls hl₀ => ?_)
          replace hl := hl₀
          clear hl₀
          refine lv_goto (tgt := 4) hx hb dX12_grainsOf_41 (by decide) ?_
          have hb_22 : 6 - (x_21 : Int32).toInt < 6 - (yy_500 : Int32).toInt ∧ 1 ≤ 6 - (yy_500 : Int32).toInt := by
            have z_1 := Int32.lt_iff_toInt_lt.mp (Int32.not_le.mp c_8)
            have z_2 := congrArg Int32.toInt c_19
            have y_0 : (0 : Int32).toInt = 0 := by decide
            have y_1 : (1 : Int32).toInt = 1 := by decide
            have t_x_21 : x_21.toInt = (yy_500 : Int32).toInt + (1 : Int32).toInt := by rw [ex_21]; exact add_toInt (by omega) (by omega)
            omega
          have hm_23 : (6 - (yy_500 : Int32).toInt).toNat = (6 - (x_21 : Int32).toInt).toNat + 1 := by
            have z_1 := Int32.lt_iff_toInt_lt.mp (Int32.not_le.mp c_8)
            have z_2 := congrArg Int32.toInt c_19
            have y_0 : (0 : Int32).toInt = 0 := by decide
            have y_1 : (1 : Int32).toInt = 1 := by decide
            have t_x_21 : x_21.toInt = (yy_500 : Int32).toInt + (1 : Int32).toInt := by rw [ex_21]; exact add_toInt (by omega) (by omega)
            omega
          have hb_24 : dX12_grainsOf_l4 (Mf 10) x1 ((6 - (yy_500 : Int32).toInt).toNat + 1) yy_500 yy_501 = dX12_grainsOf_l4 (Mf 10) x1 ((6 - (yy_500 : Int32).toInt).toNat) x_21 x_20 := by
            clear hP hD hS hl ih_2
            replace ex_7 := ex_7.symm; subst ex_7
            replace er_15 := er_15.symm; subst er_15
            replace ex_20 := ex_20.symm; subst ex_20
            replace ex_21 := ex_21.symm; subst ex_21
            rw [dX12_grainsOf_l4_s]
            rw [if_neg c_8, if_pos c_19]
            try rfl
          have hL_25 : (dX12_grainsOf_l4 (Mf 10) x1 ((6 - (0 : Int32).toInt).toNat + 1) (0 : Int32) (0 : Int32)) = dX12_grainsOf_l4 (Mf 10) x1 ((6 - (x_21 : Int32).toInt).toNat + 1) x_21 x_20 := by
            rw [hL_5, hb_24, hm_23]
          have ha_26 : 0 ≤ (x_21 : Int32).toInt := by
            have z_1 := Int32.lt_iff_toInt_lt.mp (Int32.not_le.mp c_8)
            have z_2 := congrArg Int32.toInt c_19
            have y_0 : (0 : Int32).toInt = 0 := by decide
            have y_1 : (1 : Int32).toInt = 1 := by decide
            have t_x_21 : x_21.toInt = (yy_500 : Int32).toInt + (1 : Int32).toInt := by rw [ex_21]; exact add_toInt (by omega) (by omega)
            omega
          exact ih_2 x_21 x_20 _ _ _ (by omega) hL_25 ha_26 (hP.sub [0, 1] rfl) (hD.sub [0, 1] rfl rfl) hS (lv_sub hl [0, 1, 2, 3] rfl)
        · skip
          refine lv_aload_n hx hb dX12_grainsOf_23 rfl (lv_at hl 2 rfl) ?_
          refine gf_X12_39 hx hb hts hown hK hP 0 rfl rfl dX12_grainsOf_24 ?_
          refine lv_bipush (v := 56) hx hb dX12_grainsOf_27 (by decide) ?_
          refine lv_iload_n hx hb dX12_grainsOf_29 rfl (lv_at hl 0 rfl) ?_
          refine lv_iadd hx hb dX12_grainsOf_30 ?_
          refine lv_topi (fun x_27 ex_27 => ?_)
          have hi_28 : vp_in x_27 126 := by
            have z_1 := Int32.lt_iff_toInt_lt.mp (Int32.not_le.mp c_8)
            have z_2 : ¬ (r_15 : Int32).toInt = (0 : Int32).toInt := fun z => c_19 (Int32.toInt_inj.mp z)
            have y_0 : (0 : Int32).toInt = 0 := by decide
            have y_56 : (56 : Int32).toInt = 56 := by decide
            have t_x_27 : x_27.toInt = (56 : Int32).toInt + (yy_500 : Int32).toInt := by rw [ex_27]; exact add_toInt (by omega) (by omega)
            refine vp_in_iff.mpr ⟨?_, ?_⟩ <;> omega
          refine va_iald hx hb hK hP 1 0 rfl rfl hi_28 dX12_grainsOf_31 ?_
          refine lv_topi (fun x_29 ex_29 => ?_)
          refine lv_goto (tgt := 36) hx hb dX12_grainsOf_32 (by decide) ?_
          refine lv_iadd hx hb dX12_grainsOf_36 ?_
          refine lv_topi (fun x_30 ex_30 => ?_)
          refine lv_istore_n (lv' := [(2, .int x_30), (3, .int yy_500), (0, .ref (Ma 0)), (1, .int x1)]) hx hb dX12_grainsOf_37 rfl hl (by decide) rfl (fun ls hl₀ => ?_)
          replace hl := hl₀
          clear hl₀
          obtain ⟨x_31, ex_31⟩ : ∃ y : Int32, y = yy_500 + 1 := ⟨_, rfl⟩
          refine lv_iinc (v := x_31) (lv' := [(3, .int x_31), (2, .int x_30), (0, .ref (Ma 0)), (1, .int x1)]) hx hb dX12_grainsOf_38 hl (k := 1) rfl (by rw [ex_31]; rfl) (by decide) rfl (fun ls hl₀ => ?_)
          replace hl := hl₀
          clear hl₀
          refine lv_goto (tgt := 4) hx hb dX12_grainsOf_41 (by decide) ?_
          have hb_32 : 6 - (x_31 : Int32).toInt < 6 - (yy_500 : Int32).toInt ∧ 1 ≤ 6 - (yy_500 : Int32).toInt := by
            have z_1 := Int32.lt_iff_toInt_lt.mp (Int32.not_le.mp c_8)
            have z_2 : ¬ (r_15 : Int32).toInt = (0 : Int32).toInt := fun z => c_19 (Int32.toInt_inj.mp z)
            have y_0 : (0 : Int32).toInt = 0 := by decide
            have y_1 : (1 : Int32).toInt = 1 := by decide
            have t_x_31 : x_31.toInt = (yy_500 : Int32).toInt + (1 : Int32).toInt := by rw [ex_31]; exact add_toInt (by omega) (by omega)
            omega
          have hm_33 : (6 - (yy_500 : Int32).toInt).toNat = (6 - (x_31 : Int32).toInt).toNat + 1 := by
            have z_1 := Int32.lt_iff_toInt_lt.mp (Int32.not_le.mp c_8)
            have z_2 : ¬ (r_15 : Int32).toInt = (0 : Int32).toInt := fun z => c_19 (Int32.toInt_inj.mp z)
            have y_0 : (0 : Int32).toInt = 0 := by decide
            have y_1 : (1 : Int32).toInt = 1 := by decide
            have t_x_31 : x_31.toInt = (yy_500 : Int32).toInt + (1 : Int32).toInt := by rw [ex_31]; exact add_toInt (by omega) (by omega)
            omega
          have hb_34 : dX12_grainsOf_l4 (Mf 10) x1 ((6 - (yy_500 : Int32).toInt).toNat + 1) yy_500 yy_501 = dX12_grainsOf_l4 (Mf 10) x1 ((6 - (yy_500 : Int32).toInt).toNat) x_31 x_30 := by
            clear hP hD hS hl ih_2
            replace ex_7 := ex_7.symm; subst ex_7
            replace er_15 := er_15.symm; subst er_15
            replace ex_27 := ex_27.symm; subst ex_27
            replace ex_29 := ex_29.symm; subst ex_29
            replace ex_30 := ex_30.symm; subst ex_30
            replace ex_31 := ex_31.symm; subst ex_31
            rw [dX12_grainsOf_l4_s]
            rw [if_neg c_8, if_neg c_19]
            try rfl
          have hL_35 : (dX12_grainsOf_l4 (Mf 10) x1 ((6 - (0 : Int32).toInt).toNat + 1) (0 : Int32) (0 : Int32)) = dX12_grainsOf_l4 (Mf 10) x1 ((6 - (x_31 : Int32).toInt).toNat + 1) x_31 x_30 := by
            rw [hL_5, hb_34, hm_33]
          have ha_36 : 0 ≤ (x_31 : Int32).toInt := by
            have z_1 := Int32.lt_iff_toInt_lt.mp (Int32.not_le.mp c_8)
            have z_2 : ¬ (r_15 : Int32).toInt = (0 : Int32).toInt := fun z => c_19 (Int32.toInt_inj.mp z)
            have y_0 : (0 : Int32).toInt = 0 := by decide
            have y_1 : (1 : Int32).toInt = 1 := by decide
            have t_x_31 : x_31.toInt = (yy_500 : Int32).toInt + (1 : Int32).toInt := by rw [ex_31]; exact add_toInt (by omega) (by omega)
            omega
          exact ih_2 x_31 x_30 _ _ _ (by omega) hL_35 ha_36 (hP.sub [0, 1] rfl) (hD.sub [0, 1] rfl rfl) hS (lv_sub hl [0, 1, 2, 3] rfl)
  have ha_37 : 0 ≤ (0 : Int32).toInt := by
    have y_0 : (0 : Int32).toInt = 0 := by decide
    omega
  exact loop_3 _ 0 0 _ _ _ (Nat.lt_succ_self _) rfl ha_37 hP hD hS hl
set_option maxRecDepth 100000 in
theorem cu_dX12_grainsOf {T : Nat → Option Int32} (l : Launch) (D : va_G) (tc : Nat → ClassId) (sk : (Nat → Nat) × (Nat → Nat)) (Ma_0 : Nat) (Ma_1 : Nat) (Ma_2 : Nat) (Ma_3 : Nat) (Ma_4 : Nat) (Ma_5 : Nat) (Ma_6 : Nat) (Ma_7 : Nat) (Ma_8 : Nat) (Ma_9 : Nat) (Ma_10 : Nat) (Ma_11 : Nat) (Ma_12 : Nat) (Ma_13 : Nat) (Ma_14 : Nat) (Ma_15 : Nat) (Ma_16 : Nat) (Ma_17 : Nat) (Ma_18 : Nat) (Ma_19 : Nat) (Ma_20 : Nat) (Mv_0 : Int32) (Mv_1 : Int32) (Mv_2 : Int32) (Mv_3 : Int32) (Mv_4 : Int32) (Mv_5 : Int32) (Mv_6 : Int32) (Mv_7 : Int32) (Mv_8 : Int32) (Mv_9 : Int32) (Mv_10 : Int32) (Mv_11 : Int32) (Mv_12 : Int32) (Mv_13 : Int32) (Mv_14 : Int32) (Mf_10 : Nat → Int32) (Mj_0 : Int64) (x1 : Int32) (h_said : SaidB T Mf_10) : Ct l yX12_grainsOf cX12_grainsOf 4 (some .int) { frames := 1, cells := 0, slots := 0, locals := 21 } D tc sk [.ref Ma_0, .int x1] [(Ma_0, .inr (12, [.ref Ma_1, .int Mv_0, .int Mv_1, .ref Ma_2, .ref Ma_3, .ref Ma_4, .ref Ma_5, .ref Ma_6, .int Mv_2, .int Mv_3, .int Mv_4, .int Mv_5, .int Mv_6, .int Mv_7, .int Mv_8, .ref Ma_7, .int Mv_9, .ref Ma_8, .int Mv_10, .ref Ma_9, .ref Ma_10, .int Mv_11, .int Mv_12, .int Mv_13, .ref Ma_11, .int Mv_14, .ref Ma_12, .ref Ma_13, .ref Ma_14, .ref Ma_15, .ref Ma_16, .long Mj_0, .ref Ma_17, .ref Ma_18, .ref Ma_19, .ref Ma_20])), (Ma_10, .inl (tc 0, 126, .inl Mf_10))] (fun (v : Option Value) (_ : Unit) => ∃ r : Int32, v = some (.int r) ∧ ((True) ∧ r = (dX12_grainsOf Mf_10 x1))) (fun (_ : Unit) => [(Ma_0, .inr (12, [.ref Ma_1, .int Mv_0, .int Mv_1, .ref Ma_2, .ref Ma_3, .ref Ma_4, .ref Ma_5, .ref Ma_6, .int Mv_2, .int Mv_3, .int Mv_4, .int Mv_5, .int Mv_6, .int Mv_7, .int Mv_8, .ref Ma_7, .int Mv_9, .ref Ma_8, .int Mv_10, .ref Ma_9, .ref Ma_10, .int Mv_11, .int Mv_12, .int Mv_13, .ref Ma_11, .int Mv_14, .ref Ma_12, .ref Ma_13, .ref Ma_14, .ref Ma_15, .ref Ma_16, .long Mj_0, .ref Ma_17, .ref Ma_18, .ref Ma_19, .ref Ma_20])), (Ma_10, .inl (tc 0, 126, .inl Mf_10))]) 0 0 :=
  ct_dX12_grainsOf l D tc sk (fun k => ([Ma_0, Ma_1, Ma_2, Ma_3, Ma_4, Ma_5, Ma_6, Ma_7, Ma_8, Ma_9, Ma_10, Ma_11, Ma_12, Ma_13, Ma_14, Ma_15, Ma_16, Ma_17, Ma_18, Ma_19, Ma_20] : List (Nat)).getD k 0) (fun k => ([Mv_0, Mv_1, Mv_2, Mv_3, Mv_4, Mv_5, Mv_6, Mv_7, Mv_8, Mv_9, Mv_10, Mv_11, Mv_12, Mv_13, Mv_14] : List (Int32)).getD k 0) (fun k => ([(fun _ => 0), (fun _ => 0), (fun _ => 0), (fun _ => 0), (fun _ => 0), (fun _ => 0), (fun _ => 0), (fun _ => 0), (fun _ => 0), (fun _ => 0), Mf_10] : List (Nat → Int32)).getD k (fun _ => 0)) (fun k => ([Mj_0] : List (Int64)).getD k 0) x1 h_said
def dX12_page_l55 (Mf_10 : Nat → Int32) (zz_5601 : Int32) : Nat → Int32 → Int32 → Int32 → Int32 → Int32 × Int32 × Int32 × Int32
  | 0, _, _, _, _ => (0, 0, 0, 0)
  | n + 1, yy_5600, yy_5601, yy_5602, yy_5603 => (if yy_5600 < (0 : Int32) then (yy_5600, yy_5601, yy_5602, yy_5603) else (if (dX12_grainsOf Mf_10 yy_5600) = zz_5601 then dX12_page_l55 Mf_10 zz_5601 n (yy_5600 + (-1)) (yy_5601 &&& yy_5600) yy_5600 (yy_5603 + 1) else dX12_page_l55 Mf_10 zz_5601 n (yy_5600 + (-1)) yy_5601 yy_5602 yy_5603))
theorem dX12_page_l55_s {Mf_10 : Nat → Int32} {zz_5601 : Int32} {n : Nat} {yy_5600 : Int32} {yy_5601 : Int32} {yy_5602 : Int32} {yy_5603 : Int32} : dX12_page_l55 Mf_10 zz_5601 (n + 1) yy_5600 yy_5601 yy_5602 yy_5603 = (if yy_5600 < (0 : Int32) then (yy_5600, yy_5601, yy_5602, yy_5603) else (if (dX12_grainsOf Mf_10 yy_5600) = zz_5601 then dX12_page_l55 Mf_10 zz_5601 n (yy_5600 + (-1)) (yy_5601 &&& yy_5600) yy_5600 (yy_5603 + 1) else dX12_page_l55 Mf_10 zz_5601 n (yy_5600 + (-1)) yy_5601 yy_5602 yy_5603)) := rfl
def dX12_page (Mf_10 : Nat → Int32) (x1 : Int32) (x2 : Int32) : Int32 := (if (dX12_isBook Mf_10) = (0 : Int32) then (-1 : Int32) else (if (dX12_in (x1).toInt64 (0 : Int64) (60 : Int64)) = (0 : Int32) then (-1 : Int32) else (if (dX12_in (x2).toInt64 (0 : Int64) (2 : Int64)) = (0 : Int32) then (-1 : Int32) else (if x2 = (0 : Int32) then (dX12_page_l55 Mf_10 x1 ((((((1 : Int32) <<< ((Mf_10 ((3 : Int32)).toNatClampNeg) &&& 31)) - (1 : Int32)) : Int32).toInt + 1).toNat + 1) (((1 : Int32) <<< ((Mf_10 ((3 : Int32)).toNatClampNeg) &&& 31)) - (1 : Int32)) (((1 : Int32) <<< ((Mf_10 ((3 : Int32)).toNatClampNeg) &&& 31)) - (1 : Int32)) (-2 : Int32) (0 : Int32)).2.2.2 else (if x2 = (1 : Int32) then (dX12_page_l55 Mf_10 x1 ((((((1 : Int32) <<< ((Mf_10 ((3 : Int32)).toNatClampNeg) &&& 31)) - (1 : Int32)) : Int32).toInt + 1).toNat + 1) (((1 : Int32) <<< ((Mf_10 ((3 : Int32)).toNatClampNeg) &&& 31)) - (1 : Int32)) (((1 : Int32) <<< ((Mf_10 ((3 : Int32)).toNatClampNeg) &&& 31)) - (1 : Int32)) (-2 : Int32) (0 : Int32)).2.2.1 else (if (dX12_page_l55 Mf_10 x1 ((((((1 : Int32) <<< ((Mf_10 ((3 : Int32)).toNatClampNeg) &&& 31)) - (1 : Int32)) : Int32).toInt + 1).toNat + 1) (((1 : Int32) <<< ((Mf_10 ((3 : Int32)).toNatClampNeg) &&& 31)) - (1 : Int32)) (((1 : Int32) <<< ((Mf_10 ((3 : Int32)).toNatClampNeg) &&& 31)) - (1 : Int32)) (-2 : Int32) (0 : Int32)).2.2.2 = (0 : Int32) then (0 : Int32) else (dX12_page_l55 Mf_10 x1 ((((((1 : Int32) <<< ((Mf_10 ((3 : Int32)).toNatClampNeg) &&& 31)) - (1 : Int32)) : Int32).toInt + 1).toNat + 1) (((1 : Int32) <<< ((Mf_10 ((3 : Int32)).toNatClampNeg) &&& 31)) - (1 : Int32)) (((1 : Int32) <<< ((Mf_10 ((3 : Int32)).toNatClampNeg) &&& 31)) - (1 : Int32)) (-2 : Int32) (0 : Int32)).2.1))))))
set_option maxHeartbeats 4000000 in
set_option maxRecDepth 100000 in
theorem ct_dX12_page {T : Nat → Option Int32} (l : Launch) (D : va_G) (tc : Nat → ClassId) (sk : (Nat → Nat) × (Nat → Nat)) (Ma : Nat → Nat) (Mv : Nat → Int32) (Mf : Nat → Nat → Int32) (Mj : Nat → Int64) (x1 : Int32) (x2 : Int32) (h_said : SaidB T (Mf 10)) : Ct l yX12_page cX12_page 7 (some .int) { frames := 2, cells := 0, slots := 0, locals := 44 } D tc sk [.ref (Ma 0), .int x1, .int x2] [((Ma 0), .inr (12, [.ref (Ma 1), .int (Mv 0), .int (Mv 1), .ref (Ma 2), .ref (Ma 3), .ref (Ma 4), .ref (Ma 5), .ref (Ma 6), .int (Mv 2), .int (Mv 3), .int (Mv 4), .int (Mv 5), .int (Mv 6), .int (Mv 7), .int (Mv 8), .ref (Ma 7), .int (Mv 9), .ref (Ma 8), .int (Mv 10), .ref (Ma 9), .ref (Ma 10), .int (Mv 11), .int (Mv 12), .int (Mv 13), .ref (Ma 11), .int (Mv 14), .ref (Ma 12), .ref (Ma 13), .ref (Ma 14), .ref (Ma 15), .ref (Ma 16), .long (Mj 0), .ref (Ma 17), .ref (Ma 18), .ref (Ma 19), .ref (Ma 20)])), ((Ma 10), .inl (tc 0, 126, .inl (Mf 10)))] (fun (v : Option Value) (_ : Unit) => ∃ r : Int32, v = some (.int r) ∧ ((True) ∧ r = (dX12_page (Mf 10) x1 x2))) (fun (_ : Unit) => [((Ma 0), .inr (12, [.ref (Ma 1), .int (Mv 0), .int (Mv 1), .ref (Ma 2), .ref (Ma 3), .ref (Ma 4), .ref (Ma 5), .ref (Ma 6), .int (Mv 2), .int (Mv 3), .int (Mv 4), .int (Mv 5), .int (Mv 6), .int (Mv 7), .int (Mv 8), .ref (Ma 7), .int (Mv 9), .ref (Ma 8), .int (Mv 10), .ref (Ma 9), .ref (Ma 10), .int (Mv 11), .int (Mv 12), .int (Mv 13), .ref (Ma 11), .int (Mv 14), .ref (Ma 12), .ref (Ma 13), .ref (Ma 14), .ref (Ma 15), .ref (Ma 16), .long (Mj 0), .ref (Ma 17), .ref (Ma 18), .ref (Ma 19), .ref (Ma 20)])), ((Ma 10), .inl (tc 0, 126, .inl (Mf 10)))]) 0 0 := by
  refine Ct.start (by decide) (Nat.le_of_ble_eq_true rfl) (fun p e s m below meth c A ls hx hb hr hlk hin hml hown hts hK hX hP hD hA hl hS => ?_)
  have hl : lv_has ls 7 [(0, .ref (Ma 0)), (1, .int x1), (2, .int x2)] := hl
  have ar_h_said := SaidB.ar h_said
  refine lv_aload_n hx hb dX12_page_0 rfl (lv_at hl 0 rfl) ?_
  refine cV (a := (Ma 0)) (As := []) (rest := []) (wr := []) ⟨hx, hb, hml, hown, hts⟩ hK hX hA (cu_dX12_isBook l D tc sk (Ma 0) (Ma 1) (Ma 2) (Ma 3) (Ma 4) (Ma 5) (Ma 6) (Ma 7) (Ma 8) (Ma 9) (Ma 10) (Ma 11) (Ma 12) (Ma 13) (Ma 14) (Ma 15) (Ma 16) (Ma 17) (Ma 18) (Ma 19) (Ma 20) (Mv 0) (Mv 1) (Mv 2) (Mv 3) (Mv 4) (Mv 5) (Mv 6) (Mv 7) (Mv 8) (Mv 9) (Mv 10) (Mv 11) (Mv 12) (Mv 13) (Mv 14) (Mf 10) (Mj 0) h_said) k_1407 k_1404 k_1406 k_65 k_106 pl_X12_isBook ⟨Nat.le_of_ble_eq_true rfl, Nat.le_of_ble_eq_true rfl⟩ rfl rfl (va_recv hK hP (ci := 12) (q0 := 0) rfl rfl) hP hD hS [0, 1] [] rfl rfl rfl rfl rfl (by decide) rfl hl.1 rfl (Nat.le_of_ble_eq_true rfl) dX12_page_1 ⟨Nat.le_of_ble_eq_true rfl, Nat.le_of_ble_eq_true rfl⟩ (fun v_1 u_2 H locs hv_3 hP₀ hD₀ hS₀ => ?_)
  obtain ⟨r_4, rfl, he_5⟩ := hv_3
  have he_5 : ((r_4.toInt = 0 ∨ (r_4.toInt = 1 ∧ 1 ≤ ((Mf 10) 2).toInt ∧ ((Mf 10) 2).toInt ≤ 10))) ∧ r_4 = (dX12_isBook (Mf 10)) := he_5
  refine W.eq (g2 := F0 m 4 ls [.int r_4]) rfl ?_
  replace hP : va_P D classes [((Ma 0), .inr (12, [.ref (Ma 1), .int (Mv 0), .int (Mv 1), .ref (Ma 2), .ref (Ma 3), .ref (Ma 4), .ref (Ma 5), .ref (Ma 6), .int (Mv 2), .int (Mv 3), .int (Mv 4), .int (Mv 5), .int (Mv 6), .int (Mv 7), .int (Mv 8), .ref (Ma 7), .int (Mv 9), .ref (Ma 8), .int (Mv 10), .ref (Ma 9), .ref (Ma 10), .int (Mv 11), .int (Mv 12), .int (Mv 13), .ref (Ma 11), .int (Mv 14), .ref (Ma 12), .ref (Ma 13), .ref (Ma 14), .ref (Ma 15), .ref (Ma 16), .long (Mj 0), .ref (Ma 17), .ref (Ma 18), .ref (Ma 19), .ref (Ma 20)])), ((Ma 10), .inl (tc 0, 126, .inl (Mf 10)))] H := hP₀
  replace hD : va_D A [((Ma 0), .inr (12, [.ref (Ma 1), .int (Mv 0), .int (Mv 1), .ref (Ma 2), .ref (Ma 3), .ref (Ma 4), .ref (Ma 5), .ref (Ma 6), .int (Mv 2), .int (Mv 3), .int (Mv 4), .int (Mv 5), .int (Mv 6), .int (Mv 7), .int (Mv 8), .ref (Ma 7), .int (Mv 9), .ref (Ma 8), .int (Mv 10), .ref (Ma 9), .ref (Ma 10), .int (Mv 11), .int (Mv 12), .int (Mv 13), .ref (Ma 11), .int (Mv 14), .ref (Ma 12), .ref (Ma 13), .ref (Ma 14), .ref (Ma 15), .ref (Ma 16), .long (Mj 0), .ref (Ma 17), .ref (Ma 18), .ref (Ma 19), .ref (Ma 20)])), ((Ma 10), .inl (tc 0, 126, .inl (Mf 10)))] := hD₀
  replace hS := hS₀
  clear hP₀ hD₀ hS₀
  obtain ⟨he_5, hq_7⟩ := he_5
  have er_4 : r_4 = (dX12_isBook (Mf 10)) := hq_7
  refine lv_if_eq (tgt := 31) hx hb dX12_page_4 (by decide) (fun c_8 => ?_) (fun c_8 => ?_)
  · skip
    refine lv_iconst (v := (-1)) hx hb dX12_page_31 (by decide) ?_
    have hF_9 : (-1 : Int32) = (dX12_page (Mf 10) x1 x2) := by
      clear hP hD hS hl
      replace er_4 := er_4.symm; subst er_4
      unfold dX12_page
      rw [if_pos c_8]
      try rfl
    exact retI (v := (-1)) hx hb hr hlk (rfl) hP hD hS () ⟨_, rfl, ⟨trivial, hF_9⟩⟩ [0, 1] rfl rfl dX12_page_32 (Nat.le_of_ble_eq_true rfl) (Nat.le_of_ble_eq_true rfl) rfl
  · skip
    refine lv_iload_n hx hb dX12_page_7 rfl (lv_at hl 1 rfl) ?_
    refine lv_i2l (v := (x1).toInt64) hx hb dX12_page_8 rfl ?_
    refine lv_lconst (v := 0) hx hb dX12_page_9 (by decide) ?_
    refine lv_ldc2 hx hb hown (hts _ k_1553) dX12_page_10 ?_
    refine cS (As := [.long (x1).toInt64, .long 0, .long 60]) (rest := []) (wr := [((Ma 0), .inr (12, [.ref (Ma 1), .int (Mv 0), .int (Mv 1), .ref (Ma 2), .ref (Ma 3), .ref (Ma 4), .ref (Ma 5), .ref (Ma 6), .int (Mv 2), .int (Mv 3), .int (Mv 4), .int (Mv 5), .int (Mv 6), .int (Mv 7), .int (Mv 8), .ref (Ma 7), .int (Mv 9), .ref (Ma 8), .int (Mv 10), .ref (Ma 9), .ref (Ma 10), .int (Mv 11), .int (Mv 12), .int (Mv 13), .ref (Ma 11), .int (Mv 14), .ref (Ma 12), .ref (Ma 13), .ref (Ma 14), .ref (Ma 15), .ref (Ma 16), .long (Mj 0), .ref (Ma 17), .ref (Ma 18), .ref (Ma 19), .ref (Ma 20)])), ((Ma 10), .inl (tc 0, 126, .inl (Mf 10)))]) ⟨hx, hb, hml, hown, hts⟩ hK hX hA (ct_dX12_in l D tc sk ((x1).toInt64) 0 60) k_1259 k_1257 k_1258 k_106 pl_X12_in ⟨Nat.le_of_ble_eq_true rfl, Nat.le_of_ble_eq_true rfl⟩ rfl rfl  hP hD hS [] [0, 1] rfl rfl rfl rfl rfl (by decide) rfl hl.1 rfl (Nat.le_of_ble_eq_true rfl) dX12_page_13 ⟨Nat.le_of_ble_eq_true rfl, Nat.le_of_ble_eq_true rfl⟩ (fun v_10 u_11 H locs hv_12 hP₀ hD₀ hS₀ => ?_)
    obtain ⟨r_13, rfl, he_14⟩ := hv_12
    have he_14 : ((r_13.toInt = 0 ∨ (r_13.toInt = 1 ∧ (0 : Int64).toInt ≤ (x1).toInt64.toInt ∧ (x1).toInt64.toInt ≤ (60 : Int64).toInt))) ∧ r_13 = (dX12_in (x1).toInt64 (0 : Int64) (60 : Int64)) := he_14
    refine W.eq (g2 := F0 m 16 ls [.int r_13]) rfl ?_
    replace hP : va_P D classes [((Ma 0), .inr (12, [.ref (Ma 1), .int (Mv 0), .int (Mv 1), .ref (Ma 2), .ref (Ma 3), .ref (Ma 4), .ref (Ma 5), .ref (Ma 6), .int (Mv 2), .int (Mv 3), .int (Mv 4), .int (Mv 5), .int (Mv 6), .int (Mv 7), .int (Mv 8), .ref (Ma 7), .int (Mv 9), .ref (Ma 8), .int (Mv 10), .ref (Ma 9), .ref (Ma 10), .int (Mv 11), .int (Mv 12), .int (Mv 13), .ref (Ma 11), .int (Mv 14), .ref (Ma 12), .ref (Ma 13), .ref (Ma 14), .ref (Ma 15), .ref (Ma 16), .long (Mj 0), .ref (Ma 17), .ref (Ma 18), .ref (Ma 19), .ref (Ma 20)])), ((Ma 10), .inl (tc 0, 126, .inl (Mf 10)))] H := hP₀
    replace hD : va_D A [((Ma 0), .inr (12, [.ref (Ma 1), .int (Mv 0), .int (Mv 1), .ref (Ma 2), .ref (Ma 3), .ref (Ma 4), .ref (Ma 5), .ref (Ma 6), .int (Mv 2), .int (Mv 3), .int (Mv 4), .int (Mv 5), .int (Mv 6), .int (Mv 7), .int (Mv 8), .ref (Ma 7), .int (Mv 9), .ref (Ma 8), .int (Mv 10), .ref (Ma 9), .ref (Ma 10), .int (Mv 11), .int (Mv 12), .int (Mv 13), .ref (Ma 11), .int (Mv 14), .ref (Ma 12), .ref (Ma 13), .ref (Ma 14), .ref (Ma 15), .ref (Ma 16), .long (Mj 0), .ref (Ma 17), .ref (Ma 18), .ref (Ma 19), .ref (Ma 20)])), ((Ma 10), .inl (tc 0, 126, .inl (Mf 10)))] := hD₀
    replace hS := hS₀
    clear hP₀ hD₀ hS₀
    have yl_he_14_0 : (0 : Int64).toInt = 0 := by decide
    have yl_he_14_60 : (60 : Int64).toInt = 60 := by decide
    simp only [i32_64] at he_14
    obtain ⟨he_14, hq_16⟩ := he_14
    have er_13 : r_13 = (dX12_in ((x1).toInt64) (0 : Int64) (60 : Int64)) := hq_16
    refine lv_if_eq (tgt := 31) hx hb dX12_page_16 (by decide) (fun c_17 => ?_) (fun c_17 => ?_)
    · skip
      refine lv_iconst (v := (-1)) hx hb dX12_page_31 (by decide) ?_
      have hF_18 : (-1 : Int32) = (dX12_page (Mf 10) x1 x2) := by
        clear hP hD hS hl
        replace er_4 := er_4.symm; subst er_4
        replace er_13 := er_13.symm; subst er_13
        unfold dX12_page
        rw [if_neg c_8, if_pos c_17]
        try rfl
      exact retI (v := (-1)) hx hb hr hlk (rfl) hP hD hS () ⟨_, rfl, ⟨trivial, hF_18⟩⟩ [0, 1] rfl rfl dX12_page_32 (Nat.le_of_ble_eq_true rfl) (Nat.le_of_ble_eq_true rfl) rfl
    · skip
      refine lv_iload_n hx hb dX12_page_19 rfl (lv_at hl 2 rfl) ?_
      refine lv_i2l (v := (x2).toInt64) hx hb dX12_page_20 rfl ?_
      refine lv_lconst (v := 0) hx hb dX12_page_21 (by decide) ?_
      refine lv_ldc2 hx hb hown (hts _ k_1501) dX12_page_22 ?_
      refine cS (As := [.long (x2).toInt64, .long 0, .long 2]) (rest := []) (wr := [((Ma 0), .inr (12, [.ref (Ma 1), .int (Mv 0), .int (Mv 1), .ref (Ma 2), .ref (Ma 3), .ref (Ma 4), .ref (Ma 5), .ref (Ma 6), .int (Mv 2), .int (Mv 3), .int (Mv 4), .int (Mv 5), .int (Mv 6), .int (Mv 7), .int (Mv 8), .ref (Ma 7), .int (Mv 9), .ref (Ma 8), .int (Mv 10), .ref (Ma 9), .ref (Ma 10), .int (Mv 11), .int (Mv 12), .int (Mv 13), .ref (Ma 11), .int (Mv 14), .ref (Ma 12), .ref (Ma 13), .ref (Ma 14), .ref (Ma 15), .ref (Ma 16), .long (Mj 0), .ref (Ma 17), .ref (Ma 18), .ref (Ma 19), .ref (Ma 20)])), ((Ma 10), .inl (tc 0, 126, .inl (Mf 10)))]) ⟨hx, hb, hml, hown, hts⟩ hK hX hA (ct_dX12_in l D tc sk ((x2).toInt64) 0 2) k_1259 k_1257 k_1258 k_106 pl_X12_in ⟨Nat.le_of_ble_eq_true rfl, Nat.le_of_ble_eq_true rfl⟩ rfl rfl  hP hD hS [] [0, 1] rfl rfl rfl rfl rfl (by decide) rfl hl.1 rfl (Nat.le_of_ble_eq_true rfl) dX12_page_25 ⟨Nat.le_of_ble_eq_true rfl, Nat.le_of_ble_eq_true rfl⟩ (fun v_19 u_20 H locs hv_21 hP₀ hD₀ hS₀ => ?_)
      obtain ⟨r_22, rfl, he_23⟩ := hv_21
      have he_23 : ((r_22.toInt = 0 ∨ (r_22.toInt = 1 ∧ (0 : Int64).toInt ≤ (x2).toInt64.toInt ∧ (x2).toInt64.toInt ≤ (2 : Int64).toInt))) ∧ r_22 = (dX12_in (x2).toInt64 (0 : Int64) (2 : Int64)) := he_23
      refine W.eq (g2 := F0 m 28 ls [.int r_22]) rfl ?_
      replace hP : va_P D classes [((Ma 0), .inr (12, [.ref (Ma 1), .int (Mv 0), .int (Mv 1), .ref (Ma 2), .ref (Ma 3), .ref (Ma 4), .ref (Ma 5), .ref (Ma 6), .int (Mv 2), .int (Mv 3), .int (Mv 4), .int (Mv 5), .int (Mv 6), .int (Mv 7), .int (Mv 8), .ref (Ma 7), .int (Mv 9), .ref (Ma 8), .int (Mv 10), .ref (Ma 9), .ref (Ma 10), .int (Mv 11), .int (Mv 12), .int (Mv 13), .ref (Ma 11), .int (Mv 14), .ref (Ma 12), .ref (Ma 13), .ref (Ma 14), .ref (Ma 15), .ref (Ma 16), .long (Mj 0), .ref (Ma 17), .ref (Ma 18), .ref (Ma 19), .ref (Ma 20)])), ((Ma 10), .inl (tc 0, 126, .inl (Mf 10)))] H := hP₀
      replace hD : va_D A [((Ma 0), .inr (12, [.ref (Ma 1), .int (Mv 0), .int (Mv 1), .ref (Ma 2), .ref (Ma 3), .ref (Ma 4), .ref (Ma 5), .ref (Ma 6), .int (Mv 2), .int (Mv 3), .int (Mv 4), .int (Mv 5), .int (Mv 6), .int (Mv 7), .int (Mv 8), .ref (Ma 7), .int (Mv 9), .ref (Ma 8), .int (Mv 10), .ref (Ma 9), .ref (Ma 10), .int (Mv 11), .int (Mv 12), .int (Mv 13), .ref (Ma 11), .int (Mv 14), .ref (Ma 12), .ref (Ma 13), .ref (Ma 14), .ref (Ma 15), .ref (Ma 16), .long (Mj 0), .ref (Ma 17), .ref (Ma 18), .ref (Ma 19), .ref (Ma 20)])), ((Ma 10), .inl (tc 0, 126, .inl (Mf 10)))] := hD₀
      replace hS := hS₀
      clear hP₀ hD₀ hS₀
      have yl_he_23_0 : (0 : Int64).toInt = 0 := by decide
      have yl_he_23_2 : (2 : Int64).toInt = 2 := by decide
      simp only [i32_64] at he_23
      obtain ⟨he_23, hq_25⟩ := he_23
      have er_22 : r_22 = (dX12_in ((x2).toInt64) (0 : Int64) (2 : Int64)) := hq_25
      refine lv_if_ne (tgt := 33) hx hb dX12_page_28 (by decide) (fun c_26 => ?_) (fun c_26 => ?_)
      · skip
        refine lv_iconst (v := 0) hx hb dX12_page_33 (by decide) ?_
        refine lv_istore_n (lv' := [(3, .int 0), (0, .ref (Ma 0)), (1, .int x1), (2, .int x2)]) hx hb dX12_page_34 rfl hl (by decide) rfl (fun ls hl₀ => ?_)
        replace hl := hl₀
        clear hl₀
        refine lv_bipush (v := (-2)) hx hb dX12_page_35 (by decide) ?_
        refine lv_istore (lv' := [(4, .int (-2)), (3, .int 0), (0, .ref (Ma 0)), (1, .int x1), (2, .int x2)]) hx hb dX12_page_37 hl (by decide) rfl (fun ls hl₀ => ?_)
        replace hl := hl₀
        clear hl₀
        refine lv_iconst (v := 1) hx hb dX12_page_39 (by decide) ?_
        refine lv_aload_n hx hb dX12_page_40 rfl (lv_at hl 2 rfl) ?_
        refine gf_X12_39 hx hb hts hown hK hP 0 rfl rfl dX12_page_41 ?_
        refine lv_iconst (v := 3) hx hb dX12_page_44 (by decide) ?_
        refine va_iald hx hb hK hP 1 0 rfl rfl (vin_dec (by decide +kernel)) dX12_page_45 ?_
        refine lv_topi (fun x_27 ex_27 => ?_)
        have lx_27 : x_27.toInt = ((Mf 10) 3).toInt := congrArg Int32.toInt ex_27
        refine lv_ishl hx hb dX12_page_46 ?_
        refine lv_topi (fun x_28 ex_28 => ?_)
        refine lv_iconst (v := 1) hx hb dX12_page_47 (by decide) ?_
        refine lv_isub hx hb dX12_page_48 ?_
        refine lv_topi (fun x_29 ex_29 => ?_)
        refine lv_istore (lv' := [(5, .int x_29), (4, .int (-2)), (3, .int 0), (0, .ref (Ma 0)), (1, .int x1), (2, .int x2)]) hx hb dX12_page_49 hl (by decide) rfl (fun ls hl₀ => ?_)
        replace hl := hl₀
        clear hl₀
        refine lv_iload hx hb dX12_page_51 (lv_at hl 0 rfl) ?_
        refine lv_istore (lv' := [(6, .int x_29), (5, .int x_29), (4, .int (-2)), (3, .int 0), (0, .ref (Ma 0)), (1, .int x1), (2, .int x2)]) hx hb dX12_page_53 hl (by decide) rfl (fun ls hl₀ => ?_)
        replace hl := hl₀
        clear hl₀
        have loop_32 : ∀ (n_30 : Nat) (yy_5600 : Int32) (yy_5601 : Int32) (yy_5602 : Int32) (yy_5603 : Int32) (H : Heap) (locs : List Loc) (ls : Array Slot), ((yy_5600 : Int32).toInt + 1).toNat < n_30 → (dX12_page_l55 (Mf 10) x1 (((x_29 : Int32).toInt + 1).toNat + 1) x_29 x_29 ((-2) : Int32) (0 : Int32)) = dX12_page_l55 (Mf 10) x1 (((yy_5600 : Int32).toInt + 1).toNat + 1) yy_5600 yy_5601 yy_5602 yy_5603 → va_P D classes [((Ma 0), .inr (12, [.ref (Ma 1), .int (Mv 0), .int (Mv 1), .ref (Ma 2), .ref (Ma 3), .ref (Ma 4), .ref (Ma 5), .ref (Ma 6), .int (Mv 2), .int (Mv 3), .int (Mv 4), .int (Mv 5), .int (Mv 6), .int (Mv 7), .int (Mv 8), .ref (Ma 7), .int (Mv 9), .ref (Ma 8), .int (Mv 10), .ref (Ma 9), .ref (Ma 10), .int (Mv 11), .int (Mv 12), .int (Mv 13), .ref (Ma 11), .int (Mv 14), .ref (Ma 12), .ref (Ma 13), .ref (Ma 14), .ref (Ma 15), .ref (Ma 16), .long (Mj 0), .ref (Ma 17), .ref (Ma 18), .ref (Ma 19), .ref (Ma 20)])), ((Ma 10), .inl (tc 0, 126, .inl (Mf 10)))] H → va_D A [((Ma 0), .inr (12, [.ref (Ma 1), .int (Mv 0), .int (Mv 1), .ref (Ma 2), .ref (Ma 3), .ref (Ma 4), .ref (Ma 5), .ref (Ma 6), .int (Mv 2), .int (Mv 3), .int (Mv 4), .int (Mv 5), .int (Mv 6), .int (Mv 7), .int (Mv 8), .ref (Ma 7), .int (Mv 9), .ref (Ma 8), .int (Mv 10), .ref (Ma 9), .ref (Ma 10), .int (Mv 11), .int (Mv 12), .int (Mv 13), .ref (Ma 11), .int (Mv 14), .ref (Ma 12), .ref (Ma 13), .ref (Ma 14), .ref (Ma 15), .ref (Ma 16), .long (Mj 0), .ref (Ma 17), .ref (Ma 18), .ref (Ma 19), .ref (Ma 20)])), ((Ma 10), .inl (tc 0, 126, .inl (Mf 10)))] → va_S A s.heap H locs → lv_has ls 7 [(6, .int yy_5600), (5, .int yy_5601), (4, .int yy_5602), (3, .int yy_5603), (0, .ref (Ma 0)), (1, .int x1), (2, .int x2)] → W p l e ({ frames := 2, cells := 0, slots := 0, locals := 44 }) s m ([.ref (Ma 0), .int x1, .int x2].toArray) below meth c H locs 0 0 (MQ below (QW (fun (v : Option Value) (_ : Unit) => ∃ r : Int32, v = some (.int r) ∧ ((True) ∧ r = (dX12_page (Mf 10) x1 x2))) (BW D (fun (_ : Unit) => [((Ma 0), .inr (12, [.ref (Ma 1), .int (Mv 0), .int (Mv 1), .ref (Ma 2), .ref (Ma 3), .ref (Ma 4), .ref (Ma 5), .ref (Ma 6), .int (Mv 2), .int (Mv 3), .int (Mv 4), .int (Mv 5), .int (Mv 6), .int (Mv 7), .int (Mv 8), .ref (Ma 7), .int (Mv 9), .ref (Ma 8), .int (Mv 10), .ref (Ma 9), .ref (Ma 10), .int (Mv 11), .int (Mv 12), .int (Mv 13), .ref (Ma 11), .int (Mv 14), .ref (Ma 12), .ref (Ma 13), .ref (Ma 14), .ref (Ma 15), .ref (Ma 16), .long (Mj 0), .ref (Ma 17), .ref (Ma 18), .ref (Ma 19), .ref (Ma 20)])), ((Ma 10), .inl (tc 0, 126, .inl (Mf 10)))]) A) A) ([.ref (Ma 0), .int x1, .int x2].toArray) s 0 0 A) (F0 m 55 ls []) := by
          clear hP hD hS hl
          intro n_30
          induction n_30 with
          | zero =>
            intro yy_5600 yy_5601 yy_5602 yy_5603 H locs ls h1
            exact absurd h1 (Nat.not_lt_zero _)
          | succ n_30 ih_31 =>
            intro yy_5600 yy_5601 yy_5602 yy_5603 H locs ls hn_34 hL_33  hP hD hS hl
            refine lv_iload hx hb dX12_page_55 (lv_at hl 0 rfl) ?_
            refine lv_if_lt (tgt := 93) hx hb dX12_page_57 (by decide) (fun c_35 => ?_) (fun c_35 => ?_)
            · skip
              have hb_37 : dX12_page_l55 (Mf 10) x1 (((yy_5600 : Int32).toInt + 1).toNat + 1) yy_5600 yy_5601 yy_5602 yy_5603 = (yy_5600, yy_5601, yy_5602, yy_5603) := by
                clear hP hD hS hl ih_31
                replace er_4 := er_4.symm; subst er_4
                replace er_13 := er_13.symm; subst er_13
                replace er_22 := er_22.symm; subst er_22
                replace ex_27 := ex_27.symm; subst ex_27
                replace ex_28 := ex_28.symm; subst ex_28
                replace ex_29 := ex_29.symm; subst ex_29
                rw [dX12_page_l55_s]
                rw [if_pos c_35]
                try rfl
              have hX_36 : (dX12_page_l55 (Mf 10) x1 (((x_29 : Int32).toInt + 1).toNat + 1) x_29 x_29 ((-2) : Int32) (0 : Int32)) = (yy_5600, yy_5601, yy_5602, yy_5603) := hL_33.trans hb_37
              have hX_36_0 : (dX12_page_l55 (Mf 10) x1 (((x_29 : Int32).toInt + 1).toNat + 1) x_29 x_29 ((-2) : Int32) (0 : Int32)).1 = yy_5600 := congrArg (fun z => z.1) hX_36
              have hX_36_1 : (dX12_page_l55 (Mf 10) x1 (((x_29 : Int32).toInt + 1).toNat + 1) x_29 x_29 ((-2) : Int32) (0 : Int32)).2.1 = yy_5601 := congrArg (fun z => z.2.1) hX_36
              have hX_36_2 : (dX12_page_l55 (Mf 10) x1 (((x_29 : Int32).toInt + 1).toNat + 1) x_29 x_29 ((-2) : Int32) (0 : Int32)).2.2.1 = yy_5602 := congrArg (fun z => z.2.2.1) hX_36
              have hX_36_3 : (dX12_page_l55 (Mf 10) x1 (((x_29 : Int32).toInt + 1).toNat + 1) x_29 x_29 ((-2) : Int32) (0 : Int32)).2.2.2 = yy_5603 := congrArg (fun z => z.2.2.2) hX_36
              refine lv_iload_n hx hb dX12_page_93 rfl (lv_at hl 6 rfl) ?_
              refine lv_if_ne (tgt := 101) hx hb dX12_page_94 (by decide) (fun c_38 => ?_) (fun c_38 => ?_)
              · skip
                refine lv_iload_n hx hb dX12_page_101 rfl (lv_at hl 6 rfl) ?_
                refine lv_iconst (v := 1) hx hb dX12_page_102 (by decide) ?_
                refine lv_icmp_ne (tgt := 111) hx hb dX12_page_103 (by decide) (fun c_39 => ?_) (fun c_39 => ?_)
                · skip
                  refine lv_iload_n hx hb dX12_page_111 rfl (lv_at hl 3 rfl) ?_
                  refine lv_if_ne (tgt := 119) hx hb dX12_page_112 (by decide) (fun c_40 => ?_) (fun c_40 => ?_)
                  · skip
                    refine lv_iload hx hb dX12_page_119 (lv_at hl 1 rfl) ?_
                    have hF_41 : yy_5601 = (dX12_page (Mf 10) x1 x2) := by
                      clear hP hD hS hl ih_31
                      replace er_4 := er_4.symm; subst er_4
                      replace er_13 := er_13.symm; subst er_13
                      replace er_22 := er_22.symm; subst er_22
                      replace ex_27 := ex_27.symm; subst ex_27
                      replace ex_28 := ex_28.symm; subst ex_28
                      replace ex_29 := ex_29.symm; subst ex_29
                      unfold dX12_page
                      try rw [hX_36_0]
                      try rw [hX_36_1]
                      try rw [hX_36_2]
                      try rw [hX_36_3]
                      rw [if_neg c_8, if_neg c_17, if_neg c_26, if_neg c_38, if_neg c_39, if_neg c_40]
                      try rfl
                    exact retI (v := yy_5601) hx hb hr hlk (rfl) hP hD hS () ⟨_, rfl, ⟨trivial, hF_41⟩⟩ [0, 1] rfl rfl dX12_page_121 (Nat.le_of_ble_eq_true rfl) (Nat.le_of_ble_eq_true rfl) rfl
                  · skip
                    refine lv_iconst (v := 0) hx hb dX12_page_115 (by decide) ?_
                    refine lv_goto (tgt := 121) hx hb dX12_page_116 (by decide) ?_
                    have hF_42 : (0 : Int32) = (dX12_page (Mf 10) x1 x2) := by
                      clear hP hD hS hl ih_31
                      replace er_4 := er_4.symm; subst er_4
                      replace er_13 := er_13.symm; subst er_13
                      replace er_22 := er_22.symm; subst er_22
                      replace ex_27 := ex_27.symm; subst ex_27
                      replace ex_28 := ex_28.symm; subst ex_28
                      replace ex_29 := ex_29.symm; subst ex_29
                      unfold dX12_page
                      try rw [hX_36_0]
                      try rw [hX_36_1]
                      try rw [hX_36_2]
                      try rw [hX_36_3]
                      rw [if_neg c_8, if_neg c_17, if_neg c_26, if_neg c_38, if_neg c_39, if_pos c_40]
                      try rfl
                    exact retI (v := 0) hx hb hr hlk (rfl) hP hD hS () ⟨_, rfl, ⟨trivial, hF_42⟩⟩ [0, 1] rfl rfl dX12_page_121 (Nat.le_of_ble_eq_true rfl) (Nat.le_of_ble_eq_true rfl) rfl
                · skip
                  refine lv_iload hx hb dX12_page_106 (lv_at hl 2 rfl) ?_
                  refine lv_goto (tgt := 121) hx hb dX12_page_108 (by decide) ?_
                  have hF_43 : yy_5602 = (dX12_page (Mf 10) x1 x2) := by
                    clear hP hD hS hl ih_31
                    replace er_4 := er_4.symm; subst er_4
                    replace er_13 := er_13.symm; subst er_13
                    replace er_22 := er_22.symm; subst er_22
                    replace ex_27 := ex_27.symm; subst ex_27
                    replace ex_28 := ex_28.symm; subst ex_28
                    replace ex_29 := ex_29.symm; subst ex_29
                    unfold dX12_page
                    try rw [hX_36_0]
                    try rw [hX_36_1]
                    try rw [hX_36_2]
                    try rw [hX_36_3]
                    rw [if_neg c_8, if_neg c_17, if_neg c_26, if_neg c_38, if_pos c_39]
                    try rfl
                  exact retI (v := yy_5602) hx hb hr hlk (rfl) hP hD hS () ⟨_, rfl, ⟨trivial, hF_43⟩⟩ [0, 1] rfl rfl dX12_page_121 (Nat.le_of_ble_eq_true rfl) (Nat.le_of_ble_eq_true rfl) rfl
              · skip
                refine lv_iload_n hx hb dX12_page_97 rfl (lv_at hl 3 rfl) ?_
                refine lv_goto (tgt := 121) hx hb dX12_page_98 (by decide) ?_
                have hF_44 : yy_5603 = (dX12_page (Mf 10) x1 x2) := by
                  clear hP hD hS hl ih_31
                  replace er_4 := er_4.symm; subst er_4
                  replace er_13 := er_13.symm; subst er_13
                  replace er_22 := er_22.symm; subst er_22
                  replace ex_27 := ex_27.symm; subst ex_27
                  replace ex_28 := ex_28.symm; subst ex_28
                  replace ex_29 := ex_29.symm; subst ex_29
                  unfold dX12_page
                  try rw [hX_36_0]
                  try rw [hX_36_1]
                  try rw [hX_36_2]
                  try rw [hX_36_3]
                  rw [if_neg c_8, if_neg c_17, if_neg c_26, if_pos c_38]
                  try rfl
                exact retI (v := yy_5603) hx hb hr hlk (rfl) hP hD hS () ⟨_, rfl, ⟨trivial, hF_44⟩⟩ [0, 1] rfl rfl dX12_page_121 (Nat.le_of_ble_eq_true rfl) (Nat.le_of_ble_eq_true rfl) rfl
            · skip
              have hm_k_45 := i32_le (yy_5600 : Int32)
              refine lv_aload_n hx hb dX12_page_60 rfl (lv_at hl 4 rfl) ?_
              refine lv_iload hx hb dX12_page_61 (lv_at hl 0 rfl) ?_
              refine cV (a := (Ma 0)) (As := [.int yy_5600]) (rest := []) (wr := []) ⟨hx, hb, hml, hown, hts⟩ hK hX hA (cu_dX12_grainsOf l D tc sk (Ma 0) (Ma 1) (Ma 2) (Ma 3) (Ma 4) (Ma 5) (Ma 6) (Ma 7) (Ma 8) (Ma 9) (Ma 10) (Ma 11) (Ma 12) (Ma 13) (Ma 14) (Ma 15) (Ma 16) (Ma 17) (Ma 18) (Ma 19) (Ma 20) (Mv 0) (Mv 1) (Mv 2) (Mv 3) (Mv 4) (Mv 5) (Mv 6) (Mv 7) (Mv 8) (Mv 9) (Mv 10) (Mv 11) (Mv 12) (Mv 13) (Mv 14) (Mf 10) (Mj 0) yy_5600 h_said) k_1565 k_1562 k_1564 k_85 k_106 pl_X12_grainsOf ⟨Nat.le_of_ble_eq_true rfl, Nat.le_of_ble_eq_true rfl⟩ rfl rfl (va_recv hK hP (ci := 12) (q0 := 0) rfl rfl) hP hD hS [0, 1] [] rfl rfl rfl rfl rfl (by decide) rfl hl.1 rfl (Nat.le_of_ble_eq_true rfl) dX12_page_63 ⟨Nat.le_of_ble_eq_true rfl, Nat.le_of_ble_eq_true rfl⟩ (fun v_46 u_47 H locs hv_48 hP₀ hD₀ hS₀ => ?_)
              obtain ⟨r_49, rfl, he_50⟩ := hv_48
              have he_50 : (True) ∧ r_49 = (dX12_grainsOf (Mf 10) yy_5600) := he_50
              refine W.eq (g2 := F0 m 66 ls [.int r_49]) rfl ?_
              replace hP : va_P D classes [((Ma 0), .inr (12, [.ref (Ma 1), .int (Mv 0), .int (Mv 1), .ref (Ma 2), .ref (Ma 3), .ref (Ma 4), .ref (Ma 5), .ref (Ma 6), .int (Mv 2), .int (Mv 3), .int (Mv 4), .int (Mv 5), .int (Mv 6), .int (Mv 7), .int (Mv 8), .ref (Ma 7), .int (Mv 9), .ref (Ma 8), .int (Mv 10), .ref (Ma 9), .ref (Ma 10), .int (Mv 11), .int (Mv 12), .int (Mv 13), .ref (Ma 11), .int (Mv 14), .ref (Ma 12), .ref (Ma 13), .ref (Ma 14), .ref (Ma 15), .ref (Ma 16), .long (Mj 0), .ref (Ma 17), .ref (Ma 18), .ref (Ma 19), .ref (Ma 20)])), ((Ma 10), .inl (tc 0, 126, .inl (Mf 10)))] H := hP₀
              replace hD : va_D A [((Ma 0), .inr (12, [.ref (Ma 1), .int (Mv 0), .int (Mv 1), .ref (Ma 2), .ref (Ma 3), .ref (Ma 4), .ref (Ma 5), .ref (Ma 6), .int (Mv 2), .int (Mv 3), .int (Mv 4), .int (Mv 5), .int (Mv 6), .int (Mv 7), .int (Mv 8), .ref (Ma 7), .int (Mv 9), .ref (Ma 8), .int (Mv 10), .ref (Ma 9), .ref (Ma 10), .int (Mv 11), .int (Mv 12), .int (Mv 13), .ref (Ma 11), .int (Mv 14), .ref (Ma 12), .ref (Ma 13), .ref (Ma 14), .ref (Ma 15), .ref (Ma 16), .long (Mj 0), .ref (Ma 17), .ref (Ma 18), .ref (Ma 19), .ref (Ma 20)])), ((Ma 10), .inl (tc 0, 126, .inl (Mf 10)))] := hD₀
              replace hS := hS₀
              clear hP₀ hD₀ hS₀
              obtain ⟨he_50, hq_52⟩ := he_50
              have er_49 : r_49 = (dX12_grainsOf (Mf 10) yy_5600) := hq_52
              refine lv_iload_n hx hb dX12_page_66 rfl (lv_at hl 5 rfl) ?_
              refine lv_icmp_eq (tgt := 73) hx hb dX12_page_67 (by decide) (fun c_53 => ?_) (fun c_53 => ?_)
              · skip
                obtain ⟨x_54, ex_54⟩ : ∃ y : Int32, y = yy_5603 + 1 := ⟨_, rfl⟩
                refine lv_iinc (v := x_54) (lv' := [(3, .int x_54), (6, .int yy_5600), (5, .int yy_5601), (4, .int yy_5602), (0, .ref (Ma 0)), (1, .int x1), (2, .int x2)]) hx hb dX12_page_73 hl (k := 3) rfl (by rw [ex_54]; rfl) (by decide) rfl (fun ls hl₀ => ?_)
                replace hl := hl₀
                clear hl₀
                refine lv_iload hx hb dX12_page_76 (lv_at hl 1 rfl) ?_
                refine lv_istore (lv' := [(4, .int yy_5600), (3, .int x_54), (6, .int yy_5600), (5, .int yy_5601), (0, .ref (Ma 0)), (1, .int x1), (2, .int x2)]) hx hb dX12_page_78 hl (by decide) rfl (fun ls hl₀ => ?_)
                replace hl := hl₀
                clear hl₀
                refine lv_iload hx hb dX12_page_80 (lv_at hl 3 rfl) ?_
                refine lv_iload hx hb dX12_page_82 (lv_at hl 2 rfl) ?_
                refine lv_iand hx hb dX12_page_84 ?_
                refine lv_topi (fun x_55 ex_55 => ?_)
                refine lv_istore (lv' := [(5, .int x_55), (4, .int yy_5600), (3, .int x_54), (6, .int yy_5600), (0, .ref (Ma 0)), (1, .int x1), (2, .int x2)]) hx hb dX12_page_85 hl (by decide) rfl (fun ls hl₀ => ?_)
                replace hl := hl₀
                clear hl₀
                obtain ⟨x_56, ex_56⟩ : ∃ y : Int32, y = yy_5600 + (-1) := ⟨_, rfl⟩
                refine lv_iinc (v := x_56) (lv' := [(6, .int x_56), (5, .int x_55), (4, .int yy_5600), (3, .int x_54), (0, .ref (Ma 0)), (1, .int x1), (2, .int x2)]) hx hb dX12_page_87 hl (k := 3) rfl (by rw [ex_56]; rfl) (by decide) rfl (fun ls hl₀ => ?_)
                replace hl := hl₀
                clear hl₀
                refine lv_goto (tgt := 55) hx hb dX12_page_90 (by decide) ?_
                have hb_57 : (x_56 : Int32).toInt + 1 < (yy_5600 : Int32).toInt + 1 ∧ 1 ≤ (yy_5600 : Int32).toInt + 1 := by
                  have z_1 : ¬ (r_4 : Int32).toInt = (0 : Int32).toInt := fun z => c_8 (Int32.toInt_inj.mp z)
                  have z_2 : ¬ (r_13 : Int32).toInt = (0 : Int32).toInt := fun z => c_17 (Int32.toInt_inj.mp z)
                  have z_3 : ¬ (r_22 : Int32).toInt = (0 : Int32).toInt := fun z => c_26 (Int32.toInt_inj.mp z)
                  have z_4 := Int32.le_iff_toInt_le.mp (Int32.not_lt.mp c_35)
                  have z_5 := congrArg Int32.toInt c_53
                  have y_0 : (0 : Int32).toInt = 0 := by decide
                  have y_m1 : (-1 : Int32).toInt = -1 := by decide
                  have t_x_56 : x_56.toInt = (yy_5600 : Int32).toInt + ((-1) : Int32).toInt := by rw [ex_56]; exact add_toInt (by omega) (by omega)
                  omega
                have hm_58 : ((yy_5600 : Int32).toInt + 1).toNat = ((x_56 : Int32).toInt + 1).toNat + 1 := by
                  have z_1 : ¬ (r_4 : Int32).toInt = (0 : Int32).toInt := fun z => c_8 (Int32.toInt_inj.mp z)
                  have z_2 : ¬ (r_13 : Int32).toInt = (0 : Int32).toInt := fun z => c_17 (Int32.toInt_inj.mp z)
                  have z_3 : ¬ (r_22 : Int32).toInt = (0 : Int32).toInt := fun z => c_26 (Int32.toInt_inj.mp z)
                  have z_4 := Int32.le_iff_toInt_le.mp (Int32.not_lt.mp c_35)
                  have z_5 := congrArg Int32.toInt c_53
                  have y_0 : (0 : Int32).toInt = 0 := by decide
                  have y_m1 : (-1 : Int32).toInt = -1 := by decide
                  have t_x_56 : x_56.toInt = (yy_5600 : Int32).toInt + ((-1) : Int32).toInt := by rw [ex_56]; exact add_toInt (by omega) (by omega)
                  omega
                have hb_59 : dX12_page_l55 (Mf 10) x1 (((yy_5600 : Int32).toInt + 1).toNat + 1) yy_5600 yy_5601 yy_5602 yy_5603 = dX12_page_l55 (Mf 10) x1 (((yy_5600 : Int32).toInt + 1).toNat) x_56 x_55 yy_5600 x_54 := by
                  clear hP hD hS hl ih_31
                  replace er_4 := er_4.symm; subst er_4
                  replace er_13 := er_13.symm; subst er_13
                  replace er_22 := er_22.symm; subst er_22
                  replace ex_27 := ex_27.symm; subst ex_27
                  replace ex_28 := ex_28.symm; subst ex_28
                  replace ex_29 := ex_29.symm; subst ex_29
                  replace er_49 := er_49.symm; subst er_49
                  replace ex_54 := ex_54.symm; subst ex_54
                  replace ex_55 := ex_55.symm; subst ex_55
                  replace ex_56 := ex_56.symm; subst ex_56
                  rw [dX12_page_l55_s]
                  rw [if_neg c_35, if_pos c_53]
                  try rfl
                have hL_60 : (dX12_page_l55 (Mf 10) x1 (((x_29 : Int32).toInt + 1).toNat + 1) x_29 x_29 ((-2) : Int32) (0 : Int32)) = dX12_page_l55 (Mf 10) x1 (((x_56 : Int32).toInt + 1).toNat + 1) x_56 x_55 yy_5600 x_54 := by
                  rw [hL_33, hb_59, hm_58]
                exact ih_31 x_56 x_55 yy_5600 x_54 _ _ _ (by omega) hL_60  (hP.sub [0, 1] rfl) (hD.sub [0, 1] rfl rfl) hS (lv_sub hl [0, 1, 2, 3, 4, 5, 6] rfl)
              · skip
                refine lv_goto (tgt := 87) hx hb dX12_page_70 (by decide) ?_
                obtain ⟨x_61, ex_61⟩ : ∃ y : Int32, y = yy_5600 + (-1) := ⟨_, rfl⟩
                refine lv_iinc (v := x_61) (lv' := [(6, .int x_61), (5, .int yy_5601), (4, .int yy_5602), (3, .int yy_5603), (0, .ref (Ma 0)), (1, .int x1), (2, .int x2)]) hx hb dX12_page_87 hl (k := 0) rfl (by rw [ex_61]; rfl) (by decide) rfl (fun ls hl₀ => ?_)
                replace hl := hl₀
                clear hl₀
                refine lv_goto (tgt := 55) hx hb dX12_page_90 (by decide) ?_
                have hb_62 : (x_61 : Int32).toInt + 1 < (yy_5600 : Int32).toInt + 1 ∧ 1 ≤ (yy_5600 : Int32).toInt + 1 := by
                  have z_1 : ¬ (r_4 : Int32).toInt = (0 : Int32).toInt := fun z => c_8 (Int32.toInt_inj.mp z)
                  have z_2 : ¬ (r_13 : Int32).toInt = (0 : Int32).toInt := fun z => c_17 (Int32.toInt_inj.mp z)
                  have z_3 : ¬ (r_22 : Int32).toInt = (0 : Int32).toInt := fun z => c_26 (Int32.toInt_inj.mp z)
                  have z_4 := Int32.le_iff_toInt_le.mp (Int32.not_lt.mp c_35)
                  have z_5 : ¬ (r_49 : Int32).toInt = (x1 : Int32).toInt := fun z => c_53 (Int32.toInt_inj.mp z)
                  have y_0 : (0 : Int32).toInt = 0 := by decide
                  have y_m1 : (-1 : Int32).toInt = -1 := by decide
                  have t_x_61 : x_61.toInt = (yy_5600 : Int32).toInt + ((-1) : Int32).toInt := by rw [ex_61]; exact add_toInt (by omega) (by omega)
                  omega
                have hm_63 : ((yy_5600 : Int32).toInt + 1).toNat = ((x_61 : Int32).toInt + 1).toNat + 1 := by
                  have z_1 : ¬ (r_4 : Int32).toInt = (0 : Int32).toInt := fun z => c_8 (Int32.toInt_inj.mp z)
                  have z_2 : ¬ (r_13 : Int32).toInt = (0 : Int32).toInt := fun z => c_17 (Int32.toInt_inj.mp z)
                  have z_3 : ¬ (r_22 : Int32).toInt = (0 : Int32).toInt := fun z => c_26 (Int32.toInt_inj.mp z)
                  have z_4 := Int32.le_iff_toInt_le.mp (Int32.not_lt.mp c_35)
                  have z_5 : ¬ (r_49 : Int32).toInt = (x1 : Int32).toInt := fun z => c_53 (Int32.toInt_inj.mp z)
                  have y_0 : (0 : Int32).toInt = 0 := by decide
                  have y_m1 : (-1 : Int32).toInt = -1 := by decide
                  have t_x_61 : x_61.toInt = (yy_5600 : Int32).toInt + ((-1) : Int32).toInt := by rw [ex_61]; exact add_toInt (by omega) (by omega)
                  omega
                have hb_64 : dX12_page_l55 (Mf 10) x1 (((yy_5600 : Int32).toInt + 1).toNat + 1) yy_5600 yy_5601 yy_5602 yy_5603 = dX12_page_l55 (Mf 10) x1 (((yy_5600 : Int32).toInt + 1).toNat) x_61 yy_5601 yy_5602 yy_5603 := by
                  clear hP hD hS hl ih_31
                  replace er_4 := er_4.symm; subst er_4
                  replace er_13 := er_13.symm; subst er_13
                  replace er_22 := er_22.symm; subst er_22
                  replace ex_27 := ex_27.symm; subst ex_27
                  replace ex_28 := ex_28.symm; subst ex_28
                  replace ex_29 := ex_29.symm; subst ex_29
                  replace er_49 := er_49.symm; subst er_49
                  replace ex_61 := ex_61.symm; subst ex_61
                  rw [dX12_page_l55_s]
                  rw [if_neg c_35, if_neg c_53]
                  try rfl
                have hL_65 : (dX12_page_l55 (Mf 10) x1 (((x_29 : Int32).toInt + 1).toNat + 1) x_29 x_29 ((-2) : Int32) (0 : Int32)) = dX12_page_l55 (Mf 10) x1 (((x_61 : Int32).toInt + 1).toNat + 1) x_61 yy_5601 yy_5602 yy_5603 := by
                  rw [hL_33, hb_64, hm_63]
                exact ih_31 x_61 yy_5601 yy_5602 yy_5603 _ _ _ (by omega) hL_65  (hP.sub [0, 1] rfl) (hD.sub [0, 1] rfl rfl) hS (lv_sub hl [0, 1, 2, 3, 4, 5, 6] rfl)
        exact loop_32 _ x_29 x_29 (-2) 0 _ _ _ (Nat.lt_succ_self _) rfl  hP hD hS hl
      · skip
        refine lv_iconst (v := (-1)) hx hb dX12_page_31 (by decide) ?_
        have hF_66 : (-1 : Int32) = (dX12_page (Mf 10) x1 x2) := by
          clear hP hD hS hl
          replace er_4 := er_4.symm; subst er_4
          replace er_13 := er_13.symm; subst er_13
          replace er_22 := er_22.symm; subst er_22
          unfold dX12_page
          rw [if_neg c_8, if_neg c_17, if_pos c_26]
          try rfl
        exact retI (v := (-1)) hx hb hr hlk (rfl) hP hD hS () ⟨_, rfl, ⟨trivial, hF_66⟩⟩ [0, 1] rfl rfl dX12_page_32 (Nat.le_of_ble_eq_true rfl) (Nat.le_of_ble_eq_true rfl) rfl
set_option maxRecDepth 100000 in
theorem cu_dX12_page {T : Nat → Option Int32} (l : Launch) (D : va_G) (tc : Nat → ClassId) (sk : (Nat → Nat) × (Nat → Nat)) (Ma_0 : Nat) (Ma_1 : Nat) (Ma_2 : Nat) (Ma_3 : Nat) (Ma_4 : Nat) (Ma_5 : Nat) (Ma_6 : Nat) (Ma_7 : Nat) (Ma_8 : Nat) (Ma_9 : Nat) (Ma_10 : Nat) (Ma_11 : Nat) (Ma_12 : Nat) (Ma_13 : Nat) (Ma_14 : Nat) (Ma_15 : Nat) (Ma_16 : Nat) (Ma_17 : Nat) (Ma_18 : Nat) (Ma_19 : Nat) (Ma_20 : Nat) (Mv_0 : Int32) (Mv_1 : Int32) (Mv_2 : Int32) (Mv_3 : Int32) (Mv_4 : Int32) (Mv_5 : Int32) (Mv_6 : Int32) (Mv_7 : Int32) (Mv_8 : Int32) (Mv_9 : Int32) (Mv_10 : Int32) (Mv_11 : Int32) (Mv_12 : Int32) (Mv_13 : Int32) (Mv_14 : Int32) (Mf_10 : Nat → Int32) (Mj_0 : Int64) (x1 : Int32) (x2 : Int32) (h_said : SaidB T Mf_10) : Ct l yX12_page cX12_page 7 (some .int) { frames := 2, cells := 0, slots := 0, locals := 44 } D tc sk [.ref Ma_0, .int x1, .int x2] [(Ma_0, .inr (12, [.ref Ma_1, .int Mv_0, .int Mv_1, .ref Ma_2, .ref Ma_3, .ref Ma_4, .ref Ma_5, .ref Ma_6, .int Mv_2, .int Mv_3, .int Mv_4, .int Mv_5, .int Mv_6, .int Mv_7, .int Mv_8, .ref Ma_7, .int Mv_9, .ref Ma_8, .int Mv_10, .ref Ma_9, .ref Ma_10, .int Mv_11, .int Mv_12, .int Mv_13, .ref Ma_11, .int Mv_14, .ref Ma_12, .ref Ma_13, .ref Ma_14, .ref Ma_15, .ref Ma_16, .long Mj_0, .ref Ma_17, .ref Ma_18, .ref Ma_19, .ref Ma_20])), (Ma_10, .inl (tc 0, 126, .inl Mf_10))] (fun (v : Option Value) (_ : Unit) => ∃ r : Int32, v = some (.int r) ∧ ((True) ∧ r = (dX12_page Mf_10 x1 x2))) (fun (_ : Unit) => [(Ma_0, .inr (12, [.ref Ma_1, .int Mv_0, .int Mv_1, .ref Ma_2, .ref Ma_3, .ref Ma_4, .ref Ma_5, .ref Ma_6, .int Mv_2, .int Mv_3, .int Mv_4, .int Mv_5, .int Mv_6, .int Mv_7, .int Mv_8, .ref Ma_7, .int Mv_9, .ref Ma_8, .int Mv_10, .ref Ma_9, .ref Ma_10, .int Mv_11, .int Mv_12, .int Mv_13, .ref Ma_11, .int Mv_14, .ref Ma_12, .ref Ma_13, .ref Ma_14, .ref Ma_15, .ref Ma_16, .long Mj_0, .ref Ma_17, .ref Ma_18, .ref Ma_19, .ref Ma_20])), (Ma_10, .inl (tc 0, 126, .inl Mf_10))]) 0 0 :=
  ct_dX12_page l D tc sk (fun k => ([Ma_0, Ma_1, Ma_2, Ma_3, Ma_4, Ma_5, Ma_6, Ma_7, Ma_8, Ma_9, Ma_10, Ma_11, Ma_12, Ma_13, Ma_14, Ma_15, Ma_16, Ma_17, Ma_18, Ma_19, Ma_20] : List (Nat)).getD k 0) (fun k => ([Mv_0, Mv_1, Mv_2, Mv_3, Mv_4, Mv_5, Mv_6, Mv_7, Mv_8, Mv_9, Mv_10, Mv_11, Mv_12, Mv_13, Mv_14] : List (Int32)).getD k 0) (fun k => ([(fun _ => 0), (fun _ => 0), (fun _ => 0), (fun _ => 0), (fun _ => 0), (fun _ => 0), (fun _ => 0), (fun _ => 0), (fun _ => 0), (fun _ => 0), Mf_10] : List (Nat → Int32)).getD k (fun _ => 0)) (fun k => ([Mj_0] : List (Int64)).getD k 0) x1 x2 h_said
