set_option maxHeartbeats 4000000 in
set_option maxRecDepth 100000 in
theorem ct_fX12_isBookWord (l : Launch) (D : va_G) (tc : Nat → ClassId) (sk : (Nat → Nat) × (Nat → Nat)) (Ma : Nat → Nat) (Mv : Nat → Int32) (Mf : Nat → Nat → Int32) (Mj : Nat → Int64) (h_nx : 0 ≤ ((Mv 2) : Int32).toInt ∧ ((Mv 2) : Int32).toInt ≤ ((Mv 0) : Int32).toInt ∧ ((Mv 0) : Int32).toInt ≤ 400) (h_bs : ByS (Mf 1)) (h_sk : SkR (rB (Mf 1) (Mv 0)) (Mv 2) (Mv 2)) : Ct l yX12_isBookWord cX12_isBookWord 1 (some .boolean) { frames := 2, cells := 0, slots := 0, locals := 46 } D tc sk [.ref (Ma 0)] [((Ma 0), .inr (12, [.ref (Ma 1), .int (Mv 0), .int (Mv 1), .ref (Ma 2), .ref (Ma 3), .ref (Ma 4), .ref (Ma 5), .ref (Ma 6), .int (Mv 2), .int (Mv 3), .int (Mv 4), .int (Mv 5), .int (Mv 6), .int (Mv 7), .int (Mv 8), .ref (Ma 7), .int (Mv 9), .ref (Ma 8), .int (Mv 10), .ref (Ma 9), .ref (Ma 10), .int (Mv 11), .int (Mv 12), .int (Mv 13), .ref (Ma 11), .int (Mv 14), .ref (Ma 12), .ref (Ma 13), .ref (Ma 14), .ref (Ma 15), .ref (Ma 16), .long (Mj 0), .ref (Ma 17), .ref (Ma 18), .ref (Ma 19), .ref (Ma 20)])), ((Ma 1), .inl (tc 2, 400, .inl (Mf 1)))] (fun (v : Option Value) (oo0x1 : Int32) => ∃ r : Int32, v = some (.int r) ∧ ((r.toInt = 0 ∨ r.toInt = 1)) ∧ (((Mv 2) : Int32).toInt ≤ (oo0x1 : Int32).toInt ∧ (oo0x1 : Int32).toInt ≤ ((Mv 0) : Int32).toInt) ∧ (SkR (rB (Mf 1) (Mv 0)) (Mv 2) oo0x1) ∧ (r.toInt = 1 → (BkN (rB (Mf 1) (Mv 0)) (Mv 2)) ∧ (LtH (rB (Mf 1) (Mv 0)) (Mv 2))) ∧ (r.toInt = 0 → (BkW (rB (Mf 1) (Mv 0)) (Mv 2) (-1)))) (fun (oo0x1 : Int32) => [((Ma 0), .inr (12, [.ref (Ma 1), .int (Mv 0), .int (Mv 1), .ref (Ma 2), .ref (Ma 3), .ref (Ma 4), .ref (Ma 5), .ref (Ma 6), .int oo0x1, .int (Mv 3), .int (Mv 4), .int (Mv 5), .int (Mv 6), .int (Mv 7), .int (Mv 8), .ref (Ma 7), .int (Mv 9), .ref (Ma 8), .int (Mv 10), .ref (Ma 9), .ref (Ma 10), .int (Mv 11), .int (Mv 12), .int (Mv 13), .ref (Ma 11), .int (Mv 14), .ref (Ma 12), .ref (Ma 13), .ref (Ma 14), .ref (Ma 15), .ref (Ma 16), .long (Mj 0), .ref (Ma 17), .ref (Ma 18), .ref (Ma 19), .ref (Ma 20)])), ((Ma 1), .inl (tc 2, 400, .inl (Mf 1)))]) 0 0 := by
  refine Ct.start (by decide) (Nat.le_of_ble_eq_true rfl) (fun p e s m below meth c A ls hx hb hr hlk hin hml hown hts hK hX hP hD hA hl hS => ?_)
  have hl : lv_has ls 1 [(0, .ref (Ma 0))] := hl
  refine lv_aload_n hx hb dX12_isBookWord_0 rfl (lv_at hl 0 rfl) ?_
  refine lv_ldc2 hx hb hown (hts _ k_1216) dX12_isBookWord_1 ?_
  refine cV (a := (Ma 0)) (As := [.long 1651470187]) (rest := []) (wr := []) ⟨hx, hb, hml, hown, hts⟩ hK hX hA (cu_fX12_isWord l D tc sk (Ma 0) (Ma 1) (Ma 2) (Ma 3) (Ma 4) (Ma 5) (Ma 6) (Ma 7) (Ma 8) (Ma 9) (Ma 10) (Ma 11) (Ma 12) (Ma 13) (Ma 14) (Ma 15) (Ma 16) (Ma 17) (Ma 18) (Ma 19) (Ma 20) (Mv 0) (Mv 1) (Mv 2) (Mv 3) (Mv 4) (Mv 5) (Mv 6) (Mv 7) (Mv 8) (Mv 9) (Mv 10) (Mv 11) (Mv 12) (Mv 13) (Mv 14) (Mf 1) (Mj 0) 1651470187 h_nx h_bs) k_1220 k_1217 k_1219 k_29 k_106 pl_X12_isWord ⟨Nat.le_of_ble_eq_true rfl, Nat.le_of_ble_eq_true rfl⟩ rfl rfl (va_recv hK hP (ci := 12) (q0 := 0) rfl rfl) hP hD hS [0, 1] [] rfl rfl rfl rfl rfl (by decide) rfl hl.1 rfl (Nat.le_of_ble_eq_true rfl) dX12_isBookWord_4 ⟨Nat.le_of_ble_eq_true rfl, Nat.le_of_ble_eq_true rfl⟩ (fun v_1 u_2 H locs hv_3 hP₀ hD₀ hS₀ => ?_)
  obtain ⟨sv_4, rfl⟩ : ∃ z, z = u_2 := ⟨_, rfl⟩
  obtain ⟨r_9, rfl, he_10, pf_5, pf_6, pf_7, pf_8, hm_12, hm_13⟩ := hv_3
  have he_10 : (r_9.toInt = 0 ∨ r_9.toInt = 1) := he_10
  have pf_5 : ((Mv 2) : Int32).toInt ≤ (sv_4 : Int32).toInt ∧ (sv_4 : Int32).toInt ≤ ((Mv 0) : Int32).toInt := pf_5
  have pf_6 : NSq (Mf 1) (Mv 0) sv_4 := pf_6
  have pf_7 : Stl (Mf 1) (Mv 0) (Mv 2) sv_4 := pf_7
  have pf_8 : SkR (rB (Mf 1) (Mv 0)) (Mv 2) sv_4 := pf_8
  refine W.eq (g2 := F0 m 7 ls [.int r_9]) rfl ?_
  replace hP : va_P D classes [((Ma 0), .inr (12, [.ref (Ma 1), .int (Mv 0), .int (Mv 1), .ref (Ma 2), .ref (Ma 3), .ref (Ma 4), .ref (Ma 5), .ref (Ma 6), .int sv_4, .int (Mv 3), .int (Mv 4), .int (Mv 5), .int (Mv 6), .int (Mv 7), .int (Mv 8), .ref (Ma 7), .int (Mv 9), .ref (Ma 8), .int (Mv 10), .ref (Ma 9), .ref (Ma 10), .int (Mv 11), .int (Mv 12), .int (Mv 13), .ref (Ma 11), .int (Mv 14), .ref (Ma 12), .ref (Ma 13), .ref (Ma 14), .ref (Ma 15), .ref (Ma 16), .long (Mj 0), .ref (Ma 17), .ref (Ma 18), .ref (Ma 19), .ref (Ma 20)])), ((Ma 1), .inl (tc 2, 400, .inl (Mf 1)))] H := hP₀
  replace hD : va_D A [((Ma 0), .inr (12, [.ref (Ma 1), .int (Mv 0), .int (Mv 1), .ref (Ma 2), .ref (Ma 3), .ref (Ma 4), .ref (Ma 5), .ref (Ma 6), .int sv_4, .int (Mv 3), .int (Mv 4), .int (Mv 5), .int (Mv 6), .int (Mv 7), .int (Mv 8), .ref (Ma 7), .int (Mv 9), .ref (Ma 8), .int (Mv 10), .ref (Ma 9), .ref (Ma 10), .int (Mv 11), .int (Mv 12), .int (Mv 13), .ref (Ma 11), .int (Mv 14), .ref (Ma 12), .ref (Ma 13), .ref (Ma 14), .ref (Ma 15), .ref (Ma 16), .long (Mj 0), .ref (Ma 17), .ref (Ma 18), .ref (Ma 19), .ref (Ma 20)])), ((Ma 1), .inl (tc 2, 400, .inl (Mf 1)))] := hD₀
  replace hS := hS₀
  clear hP₀ hD₀ hS₀
  have hE_14 := SkR.eqB h_sk pf_8
  refine lv_if_ne (tgt := 40) hx hb dX12_isBookWord_7 (by decide) (fun c_15 => ?_) (fun c_15 => ?_)
  · skip
    have hz_18 : (r_9 : Int32).toInt = 1 := by
      have z_1 : ¬ (r_9 : Int32).toInt = (0 : Int32).toInt := fun z => c_15 (Int32.toInt_inj.mp z)
      have y_0 : (0 : Int32).toInt = 0 := by decide
      omega
    obtain ⟨pf_16, pf_17⟩ := hm_12 hz_18
    have pf_16 : Ltr (Mf 1) (Mv 0) sv_4 := pf_16
    have ar_pf_16 := pf_16.1
    have at_pf_16 : 97 ≤ ((Mf 1) (sv_4 : Int32).toInt.toNat).toInt ∧ ((Mf 1) (sv_4 : Int32).toInt.toNat).toInt ≤ 122 := pf_16.2
    have pf_17 : PkW (rB (Mf 1) (Mv 0)) ((sv_4 : Int32).toInt.toNat) (1651470187 : Int64).toInt := pf_17
    refine lv_iconst (v := 1) hx hb dX12_isBookWord_40 (by decide) ?_
    refine lv_goto (tgt := 45) hx hb dX12_isBookWord_41 (by decide) ?_
    have hp_19 : ((1 : Int32).toInt = 0 ∨ (1 : Int32).toInt = 1) := by
      have z_1 : ¬ (r_9 : Int32).toInt = (0 : Int32).toInt := fun z => c_15 (Int32.toInt_inj.mp z)
      have y_0 : (0 : Int32).toInt = 0 := by decide
      have y_1 : (1 : Int32).toInt = 1 := by decide
      have yr : (1 : Int32).toInt = 1 := by decide
      omega
    have hm_20 : (1 : Int32).toInt = 1 → (BkN (rB (Mf 1) (Mv 0)) (Mv 2)) ∧ (LtH (rB (Mf 1) (Mv 0)) (Mv 2)) := by
      intro h1r
      have hw_21 : pz_wd (rB (Mf 1) (Mv 0)) (sv_4 : Int32).toInt.toNat pz_book = true := by
        have hq := pf_17
        rw [show (1651470187 : Int64).toInt = pz_pl pz_book by decide] at hq
        exact (PkW.wd (by decide) (by decide) (by decide)).mp hq
      have hq_22 : sv_4 = (Mv 2) := SkR.eq h_sk pf_8
      have hq_23 : (Mv 2) = (Mv 2) := rfl
      have hq_24 : sv_4 = (Mv 2) := hq_22.trans hq_23.symm
      have hk_25 : pz_wa (rB (Mf 1) (Mv 0)) (Mv 2).toInt.toNat pz_bws 0 = 0 := (bws_0 (hq_24 ▸ hw_21))
      have rg_26 := rB_rg (n := (Mv 0)) h_bs (sv_4 : Int32).toInt.toNat
      have hl_27 : 97 ≤ rB (Mf 1) (Mv 0) (sv_4 : Int32).toInt.toNat ∧ rB (Mf 1) (Mv 0) (sv_4 : Int32).toInt.toNat ≤ 122 := by
        have z_1 : ¬ (r_9 : Int32).toInt = (0 : Int32).toInt := fun z => c_15 (Int32.toInt_inj.mp z)
        have y_0 : (0 : Int32).toInt = 0 := by decide
        omega
      have hq_28 : sv_4 = (Mv 2) := SkR.eq h_sk pf_8
      have hr_29 : 0 ≤ (Mv 2).toInt := by
        have z_1 : ¬ (r_9 : Int32).toInt = (0 : Int32).toInt := fun z => c_15 (Int32.toInt_inj.mp z)
        have y_0 : (0 : Int32).toInt = 0 := by decide
        omega
      exact ⟨(fun z => absurd (hk_25.symm.trans z) (by decide)), ⟨hr_29, (hq_28 ▸ hl_27)⟩⟩
    exact retI (v := 1) hx hb hr hlk (rfl) hP hD hS sv_4 ⟨_, rfl, hp_19, pf_5, pf_8, hm_20, (fun h => absurd h (by decide))⟩ [0, 1] rfl rfl dX12_isBookWord_45 (Nat.le_of_ble_eq_true rfl) (Nat.le_of_ble_eq_true rfl) rfl
  · skip
    have hz_31 : (r_9 : Int32).toInt = 0 := by
      have z_1 := congrArg Int32.toInt c_15
      have y_0 : (0 : Int32).toInt = 0 := by decide
      omega
    obtain pf_30 := hm_13 hz_31
    have pf_30 : NPk (rB (Mf 1) (Mv 0)) ((sv_4 : Int32).toInt.toNat) (1651470187 : Int64).toInt := pf_30
    refine lv_aload_n hx hb dX12_isBookWord_10 rfl (lv_at hl 0 rfl) ?_
    refine lv_ldc2 hx hb hown (hts _ k_1225) dX12_isBookWord_11 ?_
    have ha_32 : 0 ≤ (sv_4 : Int32).toInt ∧ (sv_4 : Int32).toInt ≤ ((Mv 0) : Int32).toInt ∧ ((Mv 0) : Int32).toInt ≤ 400 := by
      have z_1 := congrArg Int32.toInt c_15
      have y_0 : (0 : Int32).toInt = 0 := by decide
      omega
    refine cV (a := (Ma 0)) (As := [.long 7564153]) (rest := []) (wr := []) ⟨hx, hb, hml, hown, hts⟩ hK hX hA (cu_fX12_isWord l D tc sk (Ma 0) (Ma 1) (Ma 2) (Ma 3) (Ma 4) (Ma 5) (Ma 6) (Ma 7) (Ma 8) (Ma 9) (Ma 10) (Ma 11) (Ma 12) (Ma 13) (Ma 14) (Ma 15) (Ma 16) (Ma 17) (Ma 18) (Ma 19) (Ma 20) (Mv 0) (Mv 1) sv_4 (Mv 3) (Mv 4) (Mv 5) (Mv 6) (Mv 7) (Mv 8) (Mv 9) (Mv 10) (Mv 11) (Mv 12) (Mv 13) (Mv 14) (Mf 1) (Mj 0) 7564153 ha_32 h_bs) k_1220 k_1217 k_1219 k_29 k_106 pl_X12_isWord ⟨Nat.le_of_ble_eq_true rfl, Nat.le_of_ble_eq_true rfl⟩ rfl rfl (va_recv hK hP (ci := 12) (q0 := 0) rfl rfl) hP hD hS [0, 1] [] rfl rfl rfl rfl rfl (by decide) rfl hl.1 rfl (Nat.le_of_ble_eq_true rfl) dX12_isBookWord_14 ⟨Nat.le_of_ble_eq_true rfl, Nat.le_of_ble_eq_true rfl⟩ (fun v_33 u_34 H locs hv_35 hP₀ hD₀ hS₀ => ?_)
    obtain ⟨sv_36, rfl⟩ : ∃ z, z = u_34 := ⟨_, rfl⟩
    obtain ⟨r_41, rfl, he_42, pf_37, pf_38, pf_39, pf_40, hm_44, hm_45⟩ := hv_35
    have he_42 : (r_41.toInt = 0 ∨ r_41.toInt = 1) := he_42
    have pf_37 : (sv_4 : Int32).toInt ≤ (sv_36 : Int32).toInt ∧ (sv_36 : Int32).toInt ≤ ((Mv 0) : Int32).toInt := pf_37
    have pf_38 : NSq (Mf 1) (Mv 0) sv_36 := pf_38
    have pf_39 : Stl (Mf 1) (Mv 0) sv_4 sv_36 := pf_39
    have ar_pf_39 := Stl.or pf_39 pf_6
    have pf_40 : SkR (rB (Mf 1) (Mv 0)) sv_4 sv_36 := pf_40
    refine W.eq (g2 := F0 m 17 ls [.int r_41]) rfl ?_
    replace hP : va_P D classes [((Ma 0), .inr (12, [.ref (Ma 1), .int (Mv 0), .int (Mv 1), .ref (Ma 2), .ref (Ma 3), .ref (Ma 4), .ref (Ma 5), .ref (Ma 6), .int sv_36, .int (Mv 3), .int (Mv 4), .int (Mv 5), .int (Mv 6), .int (Mv 7), .int (Mv 8), .ref (Ma 7), .int (Mv 9), .ref (Ma 8), .int (Mv 10), .ref (Ma 9), .ref (Ma 10), .int (Mv 11), .int (Mv 12), .int (Mv 13), .ref (Ma 11), .int (Mv 14), .ref (Ma 12), .ref (Ma 13), .ref (Ma 14), .ref (Ma 15), .ref (Ma 16), .long (Mj 0), .ref (Ma 17), .ref (Ma 18), .ref (Ma 19), .ref (Ma 20)])), ((Ma 1), .inl (tc 2, 400, .inl (Mf 1)))] H := hP₀
    replace hD : va_D A [((Ma 0), .inr (12, [.ref (Ma 1), .int (Mv 0), .int (Mv 1), .ref (Ma 2), .ref (Ma 3), .ref (Ma 4), .ref (Ma 5), .ref (Ma 6), .int sv_36, .int (Mv 3), .int (Mv 4), .int (Mv 5), .int (Mv 6), .int (Mv 7), .int (Mv 8), .ref (Ma 7), .int (Mv 9), .ref (Ma 8), .int (Mv 10), .ref (Ma 9), .ref (Ma 10), .int (Mv 11), .int (Mv 12), .int (Mv 13), .ref (Ma 11), .int (Mv 14), .ref (Ma 12), .ref (Ma 13), .ref (Ma 14), .ref (Ma 15), .ref (Ma 16), .long (Mj 0), .ref (Ma 17), .ref (Ma 18), .ref (Ma 19), .ref (Ma 20)])), ((Ma 1), .inl (tc 2, 400, .inl (Mf 1)))] := hD₀
    replace hS := hS₀
    clear hP₀ hD₀ hS₀
    have hE_46 := SkR.eqB pf_8 pf_40
    refine lv_if_ne (tgt := 40) hx hb dX12_isBookWord_17 (by decide) (fun c_47 => ?_) (fun c_47 => ?_)
    · skip
      have hz_50 : (r_41 : Int32).toInt = 1 := by
        have z_1 := congrArg Int32.toInt c_15
        have z_2 : ¬ (r_41 : Int32).toInt = (0 : Int32).toInt := fun z => c_47 (Int32.toInt_inj.mp z)
        have y_0 : (0 : Int32).toInt = 0 := by decide
        omega
      obtain ⟨pf_48, pf_49⟩ := hm_44 hz_50
      have pf_48 : Ltr (Mf 1) (Mv 0) sv_36 := pf_48
      have ar_pf_48 := pf_48.1
      have at_pf_48 : 97 ≤ ((Mf 1) (sv_36 : Int32).toInt.toNat).toInt ∧ ((Mf 1) (sv_36 : Int32).toInt.toNat).toInt ≤ 122 := pf_48.2
      have pf_49 : PkW (rB (Mf 1) (Mv 0)) ((sv_36 : Int32).toInt.toNat) (7564153 : Int64).toInt := pf_49
      refine lv_iconst (v := 1) hx hb dX12_isBookWord_40 (by decide) ?_
      refine lv_goto (tgt := 45) hx hb dX12_isBookWord_41 (by decide) ?_
      have ha_51 : ((Mv 2) : Int32).toInt ≤ (sv_36 : Int32).toInt ∧ (sv_36 : Int32).toInt ≤ ((Mv 0) : Int32).toInt := by
        have z_1 := congrArg Int32.toInt c_15
        have z_2 : ¬ (r_41 : Int32).toInt = (0 : Int32).toInt := fun z => c_47 (Int32.toInt_inj.mp z)
        have y_0 : (0 : Int32).toInt = 0 := by decide
        omega
      have hs_52 : SkR (rB (Mf 1) (Mv 0)) (Mv 2) sv_36 := (SkR.trans pf_8 pf_40)
      have hp_53 : ((1 : Int32).toInt = 0 ∨ (1 : Int32).toInt = 1) := by
        have z_1 := congrArg Int32.toInt c_15
        have z_2 : ¬ (r_41 : Int32).toInt = (0 : Int32).toInt := fun z => c_47 (Int32.toInt_inj.mp z)
        have y_0 : (0 : Int32).toInt = 0 := by decide
        have y_1 : (1 : Int32).toInt = 1 := by decide
        have yr : (1 : Int32).toInt = 1 := by decide
        omega
      have hm_54 : (1 : Int32).toInt = 1 → (BkN (rB (Mf 1) (Mv 0)) (Mv 2)) ∧ (LtH (rB (Mf 1) (Mv 0)) (Mv 2)) := by
        intro h1r
        have hw_55 : ¬ pz_wd (rB (Mf 1) (Mv 0)) (sv_4 : Int32).toInt.toNat pz_book = true := by
          have hq := pf_30
          rw [show (1651470187 : Int64).toInt = pz_pl pz_book by decide] at hq
          exact fun z => hq ((PkW.wd (by decide) (by decide) (by decide)).mpr z)
        have hq_56 : sv_4 = (Mv 2) := SkR.eq h_sk pf_8
        have hq_57 : (Mv 2) = (Mv 2) := rfl
        have hq_58 : sv_4 = (Mv 2) := hq_56.trans hq_57.symm
        have hw_59 : pz_wd (rB (Mf 1) (Mv 0)) (sv_36 : Int32).toInt.toNat pz_sky = true := by
          have hq := pf_49
          rw [show (7564153 : Int64).toInt = pz_pl pz_sky by decide] at hq
          exact (PkW.wd (by decide) (by decide) (by decide)).mp hq
        have hq_60 : sv_36 = (Mv 2) := SkR.eq h_sk hs_52
        have hq_61 : (Mv 2) = (Mv 2) := rfl
        have hq_62 : sv_36 = (Mv 2) := hq_60.trans hq_61.symm
        have hk_63 : pz_wa (rB (Mf 1) (Mv 0)) (Mv 2).toInt.toNat pz_bws 0 = 1 := (bws_1 (hq_58 ▸ hw_55) (hq_62 ▸ hw_59))
        have rg_64 := rB_rg (n := (Mv 0)) h_bs (sv_36 : Int32).toInt.toNat
        have hl_65 : 97 ≤ rB (Mf 1) (Mv 0) (sv_36 : Int32).toInt.toNat ∧ rB (Mf 1) (Mv 0) (sv_36 : Int32).toInt.toNat ≤ 122 := by
          have z_1 := congrArg Int32.toInt c_15
          have z_2 : ¬ (r_41 : Int32).toInt = (0 : Int32).toInt := fun z => c_47 (Int32.toInt_inj.mp z)
          have y_0 : (0 : Int32).toInt = 0 := by decide
          omega
        have hq_66 : sv_36 = (Mv 2) := SkR.eq h_sk hs_52
        have hr_67 : 0 ≤ (Mv 2).toInt := by
          have z_1 := congrArg Int32.toInt c_15
          have z_2 : ¬ (r_41 : Int32).toInt = (0 : Int32).toInt := fun z => c_47 (Int32.toInt_inj.mp z)
          have y_0 : (0 : Int32).toInt = 0 := by decide
          omega
        exact ⟨(fun z => absurd (hk_63.symm.trans z) (by decide)), ⟨hr_67, (hq_66 ▸ hl_65)⟩⟩
      exact retI (v := 1) hx hb hr hlk (rfl) hP hD hS sv_36 ⟨_, rfl, hp_53, ha_51, hs_52, hm_54, (fun h => absurd h (by decide))⟩ [0, 1] rfl rfl dX12_isBookWord_45 (Nat.le_of_ble_eq_true rfl) (Nat.le_of_ble_eq_true rfl) rfl
    · skip
      have hz_69 : (r_41 : Int32).toInt = 0 := by
        have z_1 := congrArg Int32.toInt c_15
        have z_2 := congrArg Int32.toInt c_47
        have y_0 : (0 : Int32).toInt = 0 := by decide
        omega
      obtain pf_68 := hm_45 hz_69
      have pf_68 : NPk (rB (Mf 1) (Mv 0)) ((sv_36 : Int32).toInt.toNat) (7564153 : Int64).toInt := pf_68
      refine lv_aload_n hx hb dX12_isBookWord_20 rfl (lv_at hl 0 rfl) ?_
      refine lv_ldc2 hx hb hown (hts _ k_1226) dX12_isBookWord_21 ?_
      have ha_70 : 0 ≤ (sv_36 : Int32).toInt ∧ (sv_36 : Int32).toInt ≤ ((Mv 0) : Int32).toInt ∧ ((Mv 0) : Int32).toInt ≤ 400 := by
        have z_1 := congrArg Int32.toInt c_15
        have z_2 := congrArg Int32.toInt c_47
        have y_0 : (0 : Int32).toInt = 0 := by decide
        omega
      refine cV (a := (Ma 0)) (As := [.long 422877685106]) (rest := []) (wr := []) ⟨hx, hb, hml, hown, hts⟩ hK hX hA (cu_fX12_isWord l D tc sk (Ma 0) (Ma 1) (Ma 2) (Ma 3) (Ma 4) (Ma 5) (Ma 6) (Ma 7) (Ma 8) (Ma 9) (Ma 10) (Ma 11) (Ma 12) (Ma 13) (Ma 14) (Ma 15) (Ma 16) (Ma 17) (Ma 18) (Ma 19) (Ma 20) (Mv 0) (Mv 1) sv_36 (Mv 3) (Mv 4) (Mv 5) (Mv 6) (Mv 7) (Mv 8) (Mv 9) (Mv 10) (Mv 11) (Mv 12) (Mv 13) (Mv 14) (Mf 1) (Mj 0) 422877685106 ha_70 h_bs) k_1220 k_1217 k_1219 k_29 k_106 pl_X12_isWord ⟨Nat.le_of_ble_eq_true rfl, Nat.le_of_ble_eq_true rfl⟩ rfl rfl (va_recv hK hP (ci := 12) (q0 := 0) rfl rfl) hP hD hS [0, 1] [] rfl rfl rfl rfl rfl (by decide) rfl hl.1 rfl (Nat.le_of_ble_eq_true rfl) dX12_isBookWord_24 ⟨Nat.le_of_ble_eq_true rfl, Nat.le_of_ble_eq_true rfl⟩ (fun v_71 u_72 H locs hv_73 hP₀ hD₀ hS₀ => ?_)
      obtain ⟨sv_74, rfl⟩ : ∃ z, z = u_72 := ⟨_, rfl⟩
      obtain ⟨r_79, rfl, he_80, pf_75, pf_76, pf_77, pf_78, hm_82, hm_83⟩ := hv_73
      have he_80 : (r_79.toInt = 0 ∨ r_79.toInt = 1) := he_80
      have pf_75 : (sv_36 : Int32).toInt ≤ (sv_74 : Int32).toInt ∧ (sv_74 : Int32).toInt ≤ ((Mv 0) : Int32).toInt := pf_75
      have pf_76 : NSq (Mf 1) (Mv 0) sv_74 := pf_76
      have pf_77 : Stl (Mf 1) (Mv 0) sv_36 sv_74 := pf_77
      have ar_pf_77 := Stl.or pf_77 pf_38
      have pf_78 : SkR (rB (Mf 1) (Mv 0)) sv_36 sv_74 := pf_78
      refine W.eq (g2 := F0 m 27 ls [.int r_79]) rfl ?_
      replace hP : va_P D classes [((Ma 0), .inr (12, [.ref (Ma 1), .int (Mv 0), .int (Mv 1), .ref (Ma 2), .ref (Ma 3), .ref (Ma 4), .ref (Ma 5), .ref (Ma 6), .int sv_74, .int (Mv 3), .int (Mv 4), .int (Mv 5), .int (Mv 6), .int (Mv 7), .int (Mv 8), .ref (Ma 7), .int (Mv 9), .ref (Ma 8), .int (Mv 10), .ref (Ma 9), .ref (Ma 10), .int (Mv 11), .int (Mv 12), .int (Mv 13), .ref (Ma 11), .int (Mv 14), .ref (Ma 12), .ref (Ma 13), .ref (Ma 14), .ref (Ma 15), .ref (Ma 16), .long (Mj 0), .ref (Ma 17), .ref (Ma 18), .ref (Ma 19), .ref (Ma 20)])), ((Ma 1), .inl (tc 2, 400, .inl (Mf 1)))] H := hP₀
      replace hD : va_D A [((Ma 0), .inr (12, [.ref (Ma 1), .int (Mv 0), .int (Mv 1), .ref (Ma 2), .ref (Ma 3), .ref (Ma 4), .ref (Ma 5), .ref (Ma 6), .int sv_74, .int (Mv 3), .int (Mv 4), .int (Mv 5), .int (Mv 6), .int (Mv 7), .int (Mv 8), .ref (Ma 7), .int (Mv 9), .ref (Ma 8), .int (Mv 10), .ref (Ma 9), .ref (Ma 10), .int (Mv 11), .int (Mv 12), .int (Mv 13), .ref (Ma 11), .int (Mv 14), .ref (Ma 12), .ref (Ma 13), .ref (Ma 14), .ref (Ma 15), .ref (Ma 16), .long (Mj 0), .ref (Ma 17), .ref (Ma 18), .ref (Ma 19), .ref (Ma 20)])), ((Ma 1), .inl (tc 2, 400, .inl (Mf 1)))] := hD₀
      replace hS := hS₀
      clear hP₀ hD₀ hS₀
      have hE_84 := SkR.eqB pf_40 pf_78
      refine lv_if_ne (tgt := 40) hx hb dX12_isBookWord_27 (by decide) (fun c_85 => ?_) (fun c_85 => ?_)
      · skip
        have hz_88 : (r_79 : Int32).toInt = 1 := by
          have z_1 := congrArg Int32.toInt c_15
          have z_2 := congrArg Int32.toInt c_47
          have z_3 : ¬ (r_79 : Int32).toInt = (0 : Int32).toInt := fun z => c_85 (Int32.toInt_inj.mp z)
          have y_0 : (0 : Int32).toInt = 0 := by decide
          omega
        obtain ⟨pf_86, pf_87⟩ := hm_82 hz_88
        have pf_86 : Ltr (Mf 1) (Mv 0) sv_74 := pf_86
        have ar_pf_86 := pf_86.1
        have at_pf_86 : 97 ≤ ((Mf 1) (sv_74 : Int32).toInt.toNat).toInt ∧ ((Mf 1) (sv_74 : Int32).toInt.toNat).toInt ≤ 122 := pf_86.2
        have pf_87 : PkW (rB (Mf 1) (Mv 0)) ((sv_74 : Int32).toInt.toNat) (422877685106 : Int64).toInt := pf_87
        refine lv_iconst (v := 1) hx hb dX12_isBookWord_40 (by decide) ?_
        refine lv_goto (tgt := 45) hx hb dX12_isBookWord_41 (by decide) ?_
        have ha_89 : ((Mv 2) : Int32).toInt ≤ (sv_74 : Int32).toInt ∧ (sv_74 : Int32).toInt ≤ ((Mv 0) : Int32).toInt := by
          have z_1 := congrArg Int32.toInt c_15
          have z_2 := congrArg Int32.toInt c_47
          have z_3 : ¬ (r_79 : Int32).toInt = (0 : Int32).toInt := fun z => c_85 (Int32.toInt_inj.mp z)
          have y_0 : (0 : Int32).toInt = 0 := by decide
          omega
        have hs_90 : SkR (rB (Mf 1) (Mv 0)) (Mv 2) sv_74 := (SkR.trans (SkR.trans pf_8 pf_40) pf_78)
        have hp_91 : ((1 : Int32).toInt = 0 ∨ (1 : Int32).toInt = 1) := by
          have z_1 := congrArg Int32.toInt c_15
          have z_2 := congrArg Int32.toInt c_47
          have z_3 : ¬ (r_79 : Int32).toInt = (0 : Int32).toInt := fun z => c_85 (Int32.toInt_inj.mp z)
          have y_0 : (0 : Int32).toInt = 0 := by decide
          have y_1 : (1 : Int32).toInt = 1 := by decide
          have yr : (1 : Int32).toInt = 1 := by decide
          omega
        have hm_92 : (1 : Int32).toInt = 1 → (BkN (rB (Mf 1) (Mv 0)) (Mv 2)) ∧ (LtH (rB (Mf 1) (Mv 0)) (Mv 2)) := by
          intro h1r
          have hw_93 : ¬ pz_wd (rB (Mf 1) (Mv 0)) (sv_4 : Int32).toInt.toNat pz_book = true := by
            have hq := pf_30
            rw [show (1651470187 : Int64).toInt = pz_pl pz_book by decide] at hq
            exact fun z => hq ((PkW.wd (by decide) (by decide) (by decide)).mpr z)
          have hq_94 : sv_4 = (Mv 2) := SkR.eq h_sk pf_8
          have hq_95 : (Mv 2) = (Mv 2) := rfl
          have hq_96 : sv_4 = (Mv 2) := hq_94.trans hq_95.symm
          have hw_97 : ¬ pz_wd (rB (Mf 1) (Mv 0)) (sv_36 : Int32).toInt.toNat pz_sky = true := by
            have hq := pf_68
            rw [show (7564153 : Int64).toInt = pz_pl pz_sky by decide] at hq
            exact fun z => hq ((PkW.wd (by decide) (by decide) (by decide)).mpr z)
          have hq_98 : sv_36 = (Mv 2) := SkR.eq h_sk (SkR.trans pf_8 pf_40)
          have hq_99 : (Mv 2) = (Mv 2) := rfl
          have hq_100 : sv_36 = (Mv 2) := hq_98.trans hq_99.symm
          have hw_101 : pz_wd (rB (Mf 1) (Mv 0)) (sv_74 : Int32).toInt.toNat pz_buyer = true := by
            have hq := pf_87
            rw [show (422877685106 : Int64).toInt = pz_pl pz_buyer by decide] at hq
            exact (PkW.wd (by decide) (by decide) (by decide)).mp hq
          have hq_102 : sv_74 = (Mv 2) := SkR.eq h_sk hs_90
          have hq_103 : (Mv 2) = (Mv 2) := rfl
          have hq_104 : sv_74 = (Mv 2) := hq_102.trans hq_103.symm
          have hk_105 : pz_wa (rB (Mf 1) (Mv 0)) (Mv 2).toInt.toNat pz_bws 0 = 2 := (bws_2 (hq_96 ▸ hw_93) (hq_100 ▸ hw_97) (hq_104 ▸ hw_101))
          have rg_106 := rB_rg (n := (Mv 0)) h_bs (sv_74 : Int32).toInt.toNat
          have hl_107 : 97 ≤ rB (Mf 1) (Mv 0) (sv_74 : Int32).toInt.toNat ∧ rB (Mf 1) (Mv 0) (sv_74 : Int32).toInt.toNat ≤ 122 := by
            have z_1 := congrArg Int32.toInt c_15
            have z_2 := congrArg Int32.toInt c_47
            have z_3 : ¬ (r_79 : Int32).toInt = (0 : Int32).toInt := fun z => c_85 (Int32.toInt_inj.mp z)
            have y_0 : (0 : Int32).toInt = 0 := by decide
            omega
          have hq_108 : sv_74 = (Mv 2) := SkR.eq h_sk hs_90
          have hr_109 : 0 ≤ (Mv 2).toInt := by
            have z_1 := congrArg Int32.toInt c_15
            have z_2 := congrArg Int32.toInt c_47
            have z_3 : ¬ (r_79 : Int32).toInt = (0 : Int32).toInt := fun z => c_85 (Int32.toInt_inj.mp z)
            have y_0 : (0 : Int32).toInt = 0 := by decide
            omega
          exact ⟨(fun z => absurd (hk_105.symm.trans z) (by decide)), ⟨hr_109, (hq_108 ▸ hl_107)⟩⟩
        exact retI (v := 1) hx hb hr hlk (rfl) hP hD hS sv_74 ⟨_, rfl, hp_91, ha_89, hs_90, hm_92, (fun h => absurd h (by decide))⟩ [0, 1] rfl rfl dX12_isBookWord_45 (Nat.le_of_ble_eq_true rfl) (Nat.le_of_ble_eq_true rfl) rfl
      · skip
        have hz_111 : (r_79 : Int32).toInt = 0 := by
          have z_1 := congrArg Int32.toInt c_15
          have z_2 := congrArg Int32.toInt c_47
          have z_3 := congrArg Int32.toInt c_85
          have y_0 : (0 : Int32).toInt = 0 := by decide
          omega
        obtain pf_110 := hm_83 hz_111
        have pf_110 : NPk (rB (Mf 1) (Mv 0)) ((sv_74 : Int32).toInt.toNat) (422877685106 : Int64).toInt := pf_110
        refine lv_aload_n hx hb dX12_isBookWord_30 rfl (lv_at hl 0 rfl) ?_
        refine lv_ldc2 hx hb hown (hts _ k_1227) dX12_isBookWord_31 ?_
        have ha_112 : 0 ≤ (sv_74 : Int32).toInt ∧ (sv_74 : Int32).toInt ≤ ((Mv 0) : Int32).toInt ∧ ((Mv 0) : Int32).toInt ≤ 400 := by
          have z_1 := congrArg Int32.toInt c_15
          have z_2 := congrArg Int32.toInt c_47
          have z_3 := congrArg Int32.toInt c_85
          have y_0 : (0 : Int32).toInt = 0 := by decide
          omega
        refine cV (a := (Ma 0)) (As := [.long 512736125800]) (rest := []) (wr := []) ⟨hx, hb, hml, hown, hts⟩ hK hX hA (cu_fX12_isWord l D tc sk (Ma 0) (Ma 1) (Ma 2) (Ma 3) (Ma 4) (Ma 5) (Ma 6) (Ma 7) (Ma 8) (Ma 9) (Ma 10) (Ma 11) (Ma 12) (Ma 13) (Ma 14) (Ma 15) (Ma 16) (Ma 17) (Ma 18) (Ma 19) (Ma 20) (Mv 0) (Mv 1) sv_74 (Mv 3) (Mv 4) (Mv 5) (Mv 6) (Mv 7) (Mv 8) (Mv 9) (Mv 10) (Mv 11) (Mv 12) (Mv 13) (Mv 14) (Mf 1) (Mj 0) 512736125800 ha_112 h_bs) k_1220 k_1217 k_1219 k_29 k_106 pl_X12_isWord ⟨Nat.le_of_ble_eq_true rfl, Nat.le_of_ble_eq_true rfl⟩ rfl rfl (va_recv hK hP (ci := 12) (q0 := 0) rfl rfl) hP hD hS [0, 1] [] rfl rfl rfl rfl rfl (by decide) rfl hl.1 rfl (Nat.le_of_ble_eq_true rfl) dX12_isBookWord_34 ⟨Nat.le_of_ble_eq_true rfl, Nat.le_of_ble_eq_true rfl⟩ (fun v_113 u_114 H locs hv_115 hP₀ hD₀ hS₀ => ?_)
        obtain ⟨sv_116, rfl⟩ : ∃ z, z = u_114 := ⟨_, rfl⟩
        obtain ⟨r_121, rfl, he_122, pf_117, pf_118, pf_119, pf_120, hm_124, hm_125⟩ := hv_115
        have he_122 : (r_121.toInt = 0 ∨ r_121.toInt = 1) := he_122
        have pf_117 : (sv_74 : Int32).toInt ≤ (sv_116 : Int32).toInt ∧ (sv_116 : Int32).toInt ≤ ((Mv 0) : Int32).toInt := pf_117
        have pf_118 : NSq (Mf 1) (Mv 0) sv_116 := pf_118
        have pf_119 : Stl (Mf 1) (Mv 0) sv_74 sv_116 := pf_119
        have ar_pf_119 := Stl.or pf_119 pf_76
        have pf_120 : SkR (rB (Mf 1) (Mv 0)) sv_74 sv_116 := pf_120
        refine W.eq (g2 := F0 m 37 ls [.int r_121]) rfl ?_
        replace hP : va_P D classes [((Ma 0), .inr (12, [.ref (Ma 1), .int (Mv 0), .int (Mv 1), .ref (Ma 2), .ref (Ma 3), .ref (Ma 4), .ref (Ma 5), .ref (Ma 6), .int sv_116, .int (Mv 3), .int (Mv 4), .int (Mv 5), .int (Mv 6), .int (Mv 7), .int (Mv 8), .ref (Ma 7), .int (Mv 9), .ref (Ma 8), .int (Mv 10), .ref (Ma 9), .ref (Ma 10), .int (Mv 11), .int (Mv 12), .int (Mv 13), .ref (Ma 11), .int (Mv 14), .ref (Ma 12), .ref (Ma 13), .ref (Ma 14), .ref (Ma 15), .ref (Ma 16), .long (Mj 0), .ref (Ma 17), .ref (Ma 18), .ref (Ma 19), .ref (Ma 20)])), ((Ma 1), .inl (tc 2, 400, .inl (Mf 1)))] H := hP₀
        replace hD : va_D A [((Ma 0), .inr (12, [.ref (Ma 1), .int (Mv 0), .int (Mv 1), .ref (Ma 2), .ref (Ma 3), .ref (Ma 4), .ref (Ma 5), .ref (Ma 6), .int sv_116, .int (Mv 3), .int (Mv 4), .int (Mv 5), .int (Mv 6), .int (Mv 7), .int (Mv 8), .ref (Ma 7), .int (Mv 9), .ref (Ma 8), .int (Mv 10), .ref (Ma 9), .ref (Ma 10), .int (Mv 11), .int (Mv 12), .int (Mv 13), .ref (Ma 11), .int (Mv 14), .ref (Ma 12), .ref (Ma 13), .ref (Ma 14), .ref (Ma 15), .ref (Ma 16), .long (Mj 0), .ref (Ma 17), .ref (Ma 18), .ref (Ma 19), .ref (Ma 20)])), ((Ma 1), .inl (tc 2, 400, .inl (Mf 1)))] := hD₀
        replace hS := hS₀
        clear hP₀ hD₀ hS₀
        have hE_126 := SkR.eqB pf_78 pf_120
        refine lv_if_eq (tgt := 44) hx hb dX12_isBookWord_37 (by decide) (fun c_127 => ?_) (fun c_127 => ?_)
        · skip
          have hz_129 : (r_121 : Int32).toInt = 0 := by
            have z_1 := congrArg Int32.toInt c_15
            have z_2 := congrArg Int32.toInt c_47
            have z_3 := congrArg Int32.toInt c_85
            have z_4 := congrArg Int32.toInt c_127
            have y_0 : (0 : Int32).toInt = 0 := by decide
            omega
          obtain pf_128 := hm_125 hz_129
          have pf_128 : NPk (rB (Mf 1) (Mv 0)) ((sv_116 : Int32).toInt.toNat) (512736125800 : Int64).toInt := pf_128
          refine lv_iconst (v := 0) hx hb dX12_isBookWord_44 (by decide) ?_
          have ha_130 : ((Mv 2) : Int32).toInt ≤ (sv_116 : Int32).toInt ∧ (sv_116 : Int32).toInt ≤ ((Mv 0) : Int32).toInt := by
            have z_1 := congrArg Int32.toInt c_15
            have z_2 := congrArg Int32.toInt c_47
            have z_3 := congrArg Int32.toInt c_85
            have z_4 := congrArg Int32.toInt c_127
            have y_0 : (0 : Int32).toInt = 0 := by decide
            omega
          have hs_131 : SkR (rB (Mf 1) (Mv 0)) (Mv 2) sv_116 := (SkR.trans (SkR.trans (SkR.trans pf_8 pf_40) pf_78) pf_120)
          have hp_132 : ((0 : Int32).toInt = 0 ∨ (0 : Int32).toInt = 1) := by
            have z_1 := congrArg Int32.toInt c_15
            have z_2 := congrArg Int32.toInt c_47
            have z_3 := congrArg Int32.toInt c_85
            have z_4 := congrArg Int32.toInt c_127
            have y_0 : (0 : Int32).toInt = 0 := by decide
            omega
          have hm_133 : (0 : Int32).toInt = 0 → (BkW (rB (Mf 1) (Mv 0)) (Mv 2) (-1)) := by
            intro h1r
            have hw_134 : ¬ pz_wd (rB (Mf 1) (Mv 0)) (sv_4 : Int32).toInt.toNat pz_book = true := by
              have hq := pf_30
              rw [show (1651470187 : Int64).toInt = pz_pl pz_book by decide] at hq
              exact fun z => hq ((PkW.wd (by decide) (by decide) (by decide)).mpr z)
            have hq_135 : sv_4 = (Mv 2) := SkR.eq h_sk pf_8
            have hq_136 : (Mv 2) = (Mv 2) := rfl
            have hq_137 : sv_4 = (Mv 2) := hq_135.trans hq_136.symm
            have hw_138 : ¬ pz_wd (rB (Mf 1) (Mv 0)) (sv_36 : Int32).toInt.toNat pz_sky = true := by
              have hq := pf_68
              rw [show (7564153 : Int64).toInt = pz_pl pz_sky by decide] at hq
              exact fun z => hq ((PkW.wd (by decide) (by decide) (by decide)).mpr z)
            have hq_139 : sv_36 = (Mv 2) := SkR.eq h_sk (SkR.trans pf_8 pf_40)
            have hq_140 : (Mv 2) = (Mv 2) := rfl
            have hq_141 : sv_36 = (Mv 2) := hq_139.trans hq_140.symm
            have hw_142 : ¬ pz_wd (rB (Mf 1) (Mv 0)) (sv_74 : Int32).toInt.toNat pz_buyer = true := by
              have hq := pf_110
              rw [show (422877685106 : Int64).toInt = pz_pl pz_buyer by decide] at hq
              exact fun z => hq ((PkW.wd (by decide) (by decide) (by decide)).mpr z)
            have hq_143 : sv_74 = (Mv 2) := SkR.eq h_sk (SkR.trans (SkR.trans pf_8 pf_40) pf_78)
            have hq_144 : (Mv 2) = (Mv 2) := rfl
            have hq_145 : sv_74 = (Mv 2) := hq_143.trans hq_144.symm
            have hw_146 : ¬ pz_wd (rB (Mf 1) (Mv 0)) (sv_116 : Int32).toInt.toNat pz_watch = true := by
              have hq := pf_128
              rw [show (512736125800 : Int64).toInt = pz_pl pz_watch by decide] at hq
              exact fun z => hq ((PkW.wd (by decide) (by decide) (by decide)).mpr z)
            have hq_147 : sv_116 = (Mv 2) := SkR.eq h_sk hs_131
            have hq_148 : (Mv 2) = (Mv 2) := rfl
            have hq_149 : sv_116 = (Mv 2) := hq_147.trans hq_148.symm
            have hk_150 : pz_wa (rB (Mf 1) (Mv 0)) (Mv 2).toInt.toNat pz_bws 0 = -1 := ((bws_n (hq_137 ▸ hw_134) (hq_141 ▸ hw_138) (hq_145 ▸ hw_142)).2 (hq_149 ▸ hw_146))
            exact hk_150
          exact retI (v := 0) hx hb hr hlk (rfl) hP hD hS sv_116 ⟨_, rfl, hp_132, ha_130, hs_131, (fun h => absurd h (by decide)), hm_133⟩ [0, 1] rfl rfl dX12_isBookWord_45 (Nat.le_of_ble_eq_true rfl) (Nat.le_of_ble_eq_true rfl) rfl
        · skip
          have hz_153 : (r_121 : Int32).toInt = 1 := by
            have z_1 := congrArg Int32.toInt c_15
            have z_2 := congrArg Int32.toInt c_47
            have z_3 := congrArg Int32.toInt c_85
            have z_4 : ¬ (r_121 : Int32).toInt = (0 : Int32).toInt := fun z => c_127 (Int32.toInt_inj.mp z)
            have y_0 : (0 : Int32).toInt = 0 := by decide
            omega
          obtain ⟨pf_151, pf_152⟩ := hm_124 hz_153
          have pf_151 : Ltr (Mf 1) (Mv 0) sv_116 := pf_151
          have ar_pf_151 := pf_151.1
          have at_pf_151 : 97 ≤ ((Mf 1) (sv_116 : Int32).toInt.toNat).toInt ∧ ((Mf 1) (sv_116 : Int32).toInt.toNat).toInt ≤ 122 := pf_151.2
          have pf_152 : PkW (rB (Mf 1) (Mv 0)) ((sv_116 : Int32).toInt.toNat) (512736125800 : Int64).toInt := pf_152
          refine lv_iconst (v := 1) hx hb dX12_isBookWord_40 (by decide) ?_
          refine lv_goto (tgt := 45) hx hb dX12_isBookWord_41 (by decide) ?_
          have ha_154 : ((Mv 2) : Int32).toInt ≤ (sv_116 : Int32).toInt ∧ (sv_116 : Int32).toInt ≤ ((Mv 0) : Int32).toInt := by
            have z_1 := congrArg Int32.toInt c_15
            have z_2 := congrArg Int32.toInt c_47
            have z_3 := congrArg Int32.toInt c_85
            have z_4 : ¬ (r_121 : Int32).toInt = (0 : Int32).toInt := fun z => c_127 (Int32.toInt_inj.mp z)
            have y_0 : (0 : Int32).toInt = 0 := by decide
            omega
          have hs_155 : SkR (rB (Mf 1) (Mv 0)) (Mv 2) sv_116 := (SkR.trans (SkR.trans (SkR.trans pf_8 pf_40) pf_78) pf_120)
          have hp_156 : ((1 : Int32).toInt = 0 ∨ (1 : Int32).toInt = 1) := by
            have z_1 := congrArg Int32.toInt c_15
            have z_2 := congrArg Int32.toInt c_47
            have z_3 := congrArg Int32.toInt c_85
            have z_4 : ¬ (r_121 : Int32).toInt = (0 : Int32).toInt := fun z => c_127 (Int32.toInt_inj.mp z)
            have y_0 : (0 : Int32).toInt = 0 := by decide
            have y_1 : (1 : Int32).toInt = 1 := by decide
            have yr : (1 : Int32).toInt = 1 := by decide
            omega
          have hm_157 : (1 : Int32).toInt = 1 → (BkN (rB (Mf 1) (Mv 0)) (Mv 2)) ∧ (LtH (rB (Mf 1) (Mv 0)) (Mv 2)) := by
            intro h1r
            have hw_158 : ¬ pz_wd (rB (Mf 1) (Mv 0)) (sv_4 : Int32).toInt.toNat pz_book = true := by
              have hq := pf_30
              rw [show (1651470187 : Int64).toInt = pz_pl pz_book by decide] at hq
              exact fun z => hq ((PkW.wd (by decide) (by decide) (by decide)).mpr z)
            have hq_159 : sv_4 = (Mv 2) := SkR.eq h_sk pf_8
            have hq_160 : (Mv 2) = (Mv 2) := rfl
            have hq_161 : sv_4 = (Mv 2) := hq_159.trans hq_160.symm
            have hw_162 : ¬ pz_wd (rB (Mf 1) (Mv 0)) (sv_36 : Int32).toInt.toNat pz_sky = true := by
              have hq := pf_68
              rw [show (7564153 : Int64).toInt = pz_pl pz_sky by decide] at hq
              exact fun z => hq ((PkW.wd (by decide) (by decide) (by decide)).mpr z)
            have hq_163 : sv_36 = (Mv 2) := SkR.eq h_sk (SkR.trans pf_8 pf_40)
            have hq_164 : (Mv 2) = (Mv 2) := rfl
            have hq_165 : sv_36 = (Mv 2) := hq_163.trans hq_164.symm
            have hw_166 : ¬ pz_wd (rB (Mf 1) (Mv 0)) (sv_74 : Int32).toInt.toNat pz_buyer = true := by
              have hq := pf_110
              rw [show (422877685106 : Int64).toInt = pz_pl pz_buyer by decide] at hq
              exact fun z => hq ((PkW.wd (by decide) (by decide) (by decide)).mpr z)
            have hq_167 : sv_74 = (Mv 2) := SkR.eq h_sk (SkR.trans (SkR.trans pf_8 pf_40) pf_78)
            have hq_168 : (Mv 2) = (Mv 2) := rfl
            have hq_169 : sv_74 = (Mv 2) := hq_167.trans hq_168.symm
            have hw_170 : pz_wd (rB (Mf 1) (Mv 0)) (sv_116 : Int32).toInt.toNat pz_watch = true := by
              have hq := pf_152
              rw [show (512736125800 : Int64).toInt = pz_pl pz_watch by decide] at hq
              exact (PkW.wd (by decide) (by decide) (by decide)).mp hq
            have hq_171 : sv_116 = (Mv 2) := SkR.eq h_sk hs_155
            have hq_172 : (Mv 2) = (Mv 2) := rfl
            have hq_173 : sv_116 = (Mv 2) := hq_171.trans hq_172.symm
            have hk_174 : pz_wa (rB (Mf 1) (Mv 0)) (Mv 2).toInt.toNat pz_bws 0 = 3 := ((bws_n (hq_161 ▸ hw_158) (hq_165 ▸ hw_162) (hq_169 ▸ hw_166)).1 (hq_173 ▸ hw_170))
            have rg_175 := rB_rg (n := (Mv 0)) h_bs (sv_116 : Int32).toInt.toNat
            have hl_176 : 97 ≤ rB (Mf 1) (Mv 0) (sv_116 : Int32).toInt.toNat ∧ rB (Mf 1) (Mv 0) (sv_116 : Int32).toInt.toNat ≤ 122 := by
              have z_1 := congrArg Int32.toInt c_15
              have z_2 := congrArg Int32.toInt c_47
              have z_3 := congrArg Int32.toInt c_85
              have z_4 : ¬ (r_121 : Int32).toInt = (0 : Int32).toInt := fun z => c_127 (Int32.toInt_inj.mp z)
              have y_0 : (0 : Int32).toInt = 0 := by decide
              omega
            have hq_177 : sv_116 = (Mv 2) := SkR.eq h_sk hs_155
            have hr_178 : 0 ≤ (Mv 2).toInt := by
              have z_1 := congrArg Int32.toInt c_15
              have z_2 := congrArg Int32.toInt c_47
              have z_3 := congrArg Int32.toInt c_85
              have z_4 : ¬ (r_121 : Int32).toInt = (0 : Int32).toInt := fun z => c_127 (Int32.toInt_inj.mp z)
              have y_0 : (0 : Int32).toInt = 0 := by decide
              omega
            exact ⟨(fun z => absurd (hk_174.symm.trans z) (by decide)), ⟨hr_178, (hq_177 ▸ hl_176)⟩⟩
          exact retI (v := 1) hx hb hr hlk (rfl) hP hD hS sv_116 ⟨_, rfl, hp_156, ha_154, hs_155, hm_157, (fun h => absurd h (by decide))⟩ [0, 1] rfl rfl dX12_isBookWord_45 (Nat.le_of_ble_eq_true rfl) (Nat.le_of_ble_eq_true rfl) rfl
set_option maxRecDepth 100000 in
theorem cu_fX12_isBookWord (l : Launch) (D : va_G) (tc : Nat → ClassId) (sk : (Nat → Nat) × (Nat → Nat)) (Ma_0 : Nat) (Ma_1 : Nat) (Ma_2 : Nat) (Ma_3 : Nat) (Ma_4 : Nat) (Ma_5 : Nat) (Ma_6 : Nat) (Ma_7 : Nat) (Ma_8 : Nat) (Ma_9 : Nat) (Ma_10 : Nat) (Ma_11 : Nat) (Ma_12 : Nat) (Ma_13 : Nat) (Ma_14 : Nat) (Ma_15 : Nat) (Ma_16 : Nat) (Ma_17 : Nat) (Ma_18 : Nat) (Ma_19 : Nat) (Ma_20 : Nat) (Mv_0 : Int32) (Mv_1 : Int32) (Mv_2 : Int32) (Mv_3 : Int32) (Mv_4 : Int32) (Mv_5 : Int32) (Mv_6 : Int32) (Mv_7 : Int32) (Mv_8 : Int32) (Mv_9 : Int32) (Mv_10 : Int32) (Mv_11 : Int32) (Mv_12 : Int32) (Mv_13 : Int32) (Mv_14 : Int32) (Mf_1 : Nat → Int32) (Mj_0 : Int64) (h_nx : 0 ≤ (Mv_2 : Int32).toInt ∧ (Mv_2 : Int32).toInt ≤ (Mv_0 : Int32).toInt ∧ (Mv_0 : Int32).toInt ≤ 400) (h_bs : ByS Mf_1) (h_sk : SkR (rB Mf_1 Mv_0) Mv_2 Mv_2) : Ct l yX12_isBookWord cX12_isBookWord 1 (some .boolean) { frames := 2, cells := 0, slots := 0, locals := 46 } D tc sk [.ref Ma_0] [(Ma_0, .inr (12, [.ref Ma_1, .int Mv_0, .int Mv_1, .ref Ma_2, .ref Ma_3, .ref Ma_4, .ref Ma_5, .ref Ma_6, .int Mv_2, .int Mv_3, .int Mv_4, .int Mv_5, .int Mv_6, .int Mv_7, .int Mv_8, .ref Ma_7, .int Mv_9, .ref Ma_8, .int Mv_10, .ref Ma_9, .ref Ma_10, .int Mv_11, .int Mv_12, .int Mv_13, .ref Ma_11, .int Mv_14, .ref Ma_12, .ref Ma_13, .ref Ma_14, .ref Ma_15, .ref Ma_16, .long Mj_0, .ref Ma_17, .ref Ma_18, .ref Ma_19, .ref Ma_20])), (Ma_1, .inl (tc 2, 400, .inl Mf_1))] (fun (v : Option Value) (oo0x1 : Int32) => ∃ r : Int32, v = some (.int r) ∧ ((r.toInt = 0 ∨ r.toInt = 1)) ∧ ((Mv_2 : Int32).toInt ≤ (oo0x1 : Int32).toInt ∧ (oo0x1 : Int32).toInt ≤ (Mv_0 : Int32).toInt) ∧ (SkR (rB Mf_1 Mv_0) Mv_2 oo0x1) ∧ (r.toInt = 1 → (BkN (rB Mf_1 Mv_0) Mv_2) ∧ (LtH (rB Mf_1 Mv_0) Mv_2)) ∧ (r.toInt = 0 → (BkW (rB Mf_1 Mv_0) Mv_2 (-1)))) (fun (oo0x1 : Int32) => [(Ma_0, .inr (12, [.ref Ma_1, .int Mv_0, .int Mv_1, .ref Ma_2, .ref Ma_3, .ref Ma_4, .ref Ma_5, .ref Ma_6, .int oo0x1, .int Mv_3, .int Mv_4, .int Mv_5, .int Mv_6, .int Mv_7, .int Mv_8, .ref Ma_7, .int Mv_9, .ref Ma_8, .int Mv_10, .ref Ma_9, .ref Ma_10, .int Mv_11, .int Mv_12, .int Mv_13, .ref Ma_11, .int Mv_14, .ref Ma_12, .ref Ma_13, .ref Ma_14, .ref Ma_15, .ref Ma_16, .long Mj_0, .ref Ma_17, .ref Ma_18, .ref Ma_19, .ref Ma_20])), (Ma_1, .inl (tc 2, 400, .inl Mf_1))]) 0 0 :=
  ct_fX12_isBookWord l D tc sk (fun k => ([Ma_0, Ma_1, Ma_2, Ma_3, Ma_4, Ma_5, Ma_6, Ma_7, Ma_8, Ma_9, Ma_10, Ma_11, Ma_12, Ma_13, Ma_14, Ma_15, Ma_16, Ma_17, Ma_18, Ma_19, Ma_20] : List (Nat)).getD k 0) (fun k => ([Mv_0, Mv_1, Mv_2, Mv_3, Mv_4, Mv_5, Mv_6, Mv_7, Mv_8, Mv_9, Mv_10, Mv_11, Mv_12, Mv_13, Mv_14] : List (Int32)).getD k 0) (fun k => ([(fun _ => 0), Mf_1] : List (Nat → Int32)).getD k (fun _ => 0)) (fun k => ([Mj_0] : List (Int64)).getD k 0) h_nx h_bs h_sk
set_option maxHeartbeats 4000000 in
set_option maxRecDepth 100000 in
theorem ct_fX12_clauseHere_b (l : Launch) (D : va_G) (tc : Nat → ClassId) (sk : (Nat → Nat) × (Nat → Nat)) (Ma : Nat → Nat) (Mv : Nat → Int32) (Mf : Nat → Nat → Int32) (Mj : Nat → Int64) (h_nx : 0 ≤ ((Mv 2) : Int32).toInt ∧ ((Mv 2) : Int32).toInt ≤ ((Mv 0) : Int32).toInt ∧ ((Mv 0) : Int32).toInt ≤ 400) (h_ro : RdO (Mf 6)) (h_bs : ByS (Mf 1)) (h_w : ((Mv 3) : Int32).toInt = 0) (h_r0 : ((((Mf 6) 0).toInt = 0 ∧ (Mv 8).toInt = 0) ∨ (((Mf 6) 0).toInt = 1 ∧ 1 ≤ (Mv 8).toInt ∧ (Mv 8).toInt ≤ 40))) : Ct l yX12_clauseHere cX12_clauseHere 3 (some .boolean) { frames := 5, cells := 0, slots := 0, locals := 115 } D tc sk [.ref (Ma 0)] [((Ma 0), .inr (12, [.ref (Ma 1), .int (Mv 0), .int (Mv 1), .ref (Ma 2), .ref (Ma 3), .ref (Ma 4), .ref (Ma 5), .ref (Ma 6), .int (Mv 2), .int (Mv 3), .int (Mv 4), .int 6, .int (Mv 6), .int (Mv 7), .int (Mv 8), .ref (Ma 7), .int (Mv 9), .ref (Ma 8), .int (Mv 10), .ref (Ma 9), .ref (Ma 10), .int (Mv 11), .int (Mv 12), .int (Mv 13), .ref (Ma 11), .int (Mv 14), .ref (Ma 12), .ref (Ma 13), .ref (Ma 14), .ref (Ma 15), .ref (Ma 16), .long (Mj 0), .ref (Ma 17), .ref (Ma 18), .ref (Ma 19), .ref (Ma 20)])), ((Ma 1), .inl (tc 2, 400, .inl (Mf 1))), ((Ma 3), .inl (tc 0, 7, .inl (Mf 3))), ((Ma 6), .inl (tc 0, 95, .inl (Mf 6)))] (fun (v : Option Value) (u : (Int32) × (Int32) × (Int32) × (Int32) × (Nat → Int32)) => match u with | (oo0x1, oo0x2, oo0x3, oo0x4, oo0x5) => ∃ r : Int32, v = some (.int r) ∧ (((r.toInt = 0 ∧ ¬ (oo0x2 : Int32).toInt = 0) ∨ (r.toInt = 1 ∧ (oo0x5 0).toInt = 1 ∧ (oo0x2 : Int32).toInt = 0 ∧ (oo0x4 : Int32).toInt = (Mv 8).toInt + 1 ∧ (oo0x4 : Int32).toInt ≤ 40))) ∧ (((Mv 2) : Int32).toInt ≤ (oo0x1 : Int32).toInt ∧ (oo0x1 : Int32).toInt ≤ ((Mv 0) : Int32).toInt) ∧ (r.toInt = 1 → (RdO oo0x5) ∧ (BfO (bCLs (rB (Mf 1) (Mv 0)) (Mv 8).toInt.toNat (Mv 2) ((Mf 6) 2) ((Mf 6) 3)) (rB (Mf 1) (Mv 0)) oo0x2 oo0x1 (oo0x5 2) (oo0x5 3))) ∧ (r.toInt = 0 → (BfE (bCLs (rB (Mf 1) (Mv 0)) (Mv 8).toInt.toNat (Mv 2) ((Mf 6) 2) ((Mf 6) 3)) oo0x2))) (fun (u : (Int32) × (Int32) × (Int32) × (Int32) × (Nat → Int32)) => match u with | (oo0x1, oo0x2, oo0x3, oo0x4, oo0x5) => [((Ma 0), .inr (12, [.ref (Ma 1), .int (Mv 0), .int (Mv 1), .ref (Ma 2), .ref (Ma 3), .ref (Ma 4), .ref (Ma 5), .ref (Ma 6), .int oo0x1, .int oo0x2, .int oo0x3, .int 6, .int (Mv 6), .int (Mv 7), .int oo0x4, .ref (Ma 7), .int (Mv 9), .ref (Ma 8), .int (Mv 10), .ref (Ma 9), .ref (Ma 10), .int (Mv 11), .int (Mv 12), .int (Mv 13), .ref (Ma 11), .int (Mv 14), .ref (Ma 12), .ref (Ma 13), .ref (Ma 14), .ref (Ma 15), .ref (Ma 16), .long (Mj 0), .ref (Ma 17), .ref (Ma 18), .ref (Ma 19), .ref (Ma 20)])), ((Ma 1), .inl (tc 2, 400, .inl (Mf 1))), ((Ma 3), .inl (tc 0, 7, .inl (Mf 3))), ((Ma 6), .inl (tc 0, 95, .inl oo0x5))]) 0 0 := by
  refine Ct.start (by decide) (Nat.le_of_ble_eq_true rfl) (fun p e s m below meth c A ls hx hb hr hlk hin hml hown hts hK hX hP hD hA hl hS => ?_)
  have hl : lv_has ls 3 [(0, .ref (Ma 0))] := hl
  have ar_h_ro := RdO.ar h_ro
  refine lv_aload_n hx hb dX12_clauseHere_0 rfl (lv_at hl 0 rfl) ?_
  refine cV (a := (Ma 0)) (As := []) (rest := []) (wr := [((Ma 3), .inl (tc 0, 7, .inl (Mf 3))), ((Ma 6), .inl (tc 0, 95, .inl (Mf 6)))]) ⟨hx, hb, hml, hown, hts⟩ hK hX hA (cu_fX12_see l D tc sk (Ma 0) (Ma 1) (Ma 2) (Ma 3) (Ma 4) (Ma 5) (Ma 6) (Ma 7) (Ma 8) (Ma 9) (Ma 10) (Ma 11) (Ma 12) (Ma 13) (Ma 14) (Ma 15) (Ma 16) (Ma 17) (Ma 18) (Ma 19) (Ma 20) (Mv 0) (Mv 1) (Mv 2) (Mv 3) (Mv 4) 6 (Mv 6) (Mv 7) (Mv 8) (Mv 9) (Mv 10) (Mv 11) (Mv 12) (Mv 13) (Mv 14) (Mf 1) (Mj 0) h_nx h_bs) k_1211 k_1208 k_1210 k_27 k_106 pl_X12_see ⟨Nat.le_of_ble_eq_true rfl, Nat.le_of_ble_eq_true rfl⟩ rfl rfl (va_recv hK hP (ci := 12) (q0 := 0) rfl rfl) hP hD hS [0, 1] [2, 3] rfl rfl rfl rfl rfl (by decide) rfl hl.1 rfl (Nat.le_of_ble_eq_true rfl) dX12_clauseHere_1 ⟨Nat.le_of_ble_eq_true rfl, Nat.le_of_ble_eq_true rfl⟩ (fun v_1 u_2 H locs hv_3 hP₀ hD₀ hS₀ => ?_)
  obtain ⟨sv_4, rfl⟩ : ∃ z, z = u_2 := ⟨_, rfl⟩
  obtain ⟨r_9, rfl, he_10, pf_5, pf_6, pf_7, pf_8⟩ := hv_3
  have he_10 : (r_9.toInt = rB (Mf 1) (Mv 0) (sv_4 : Int32).toInt.toNat ∧ (r_9.toInt = -1 ∨ (sv_4 : Int32).toInt < (Mv 0).toInt)) := he_10
  have pf_5 : ((Mv 2) : Int32).toInt ≤ (sv_4 : Int32).toInt ∧ (sv_4 : Int32).toInt ≤ ((Mv 0) : Int32).toInt := pf_5
  have pf_6 : NSq (Mf 1) (Mv 0) sv_4 := pf_6
  have pf_7 : Stl (Mf 1) (Mv 0) (Mv 2) sv_4 := pf_7
  have pf_8 : SkR (rB (Mf 1) (Mv 0)) (Mv 2) sv_4 := pf_8
  refine W.eq (g2 := F0 m 4 ls [.int r_9]) rfl ?_
  replace hP : va_P D classes [((Ma 3), .inl (tc 0, 7, .inl (Mf 3))), ((Ma 6), .inl (tc 0, 95, .inl (Mf 6))), ((Ma 0), .inr (12, [.ref (Ma 1), .int (Mv 0), .int (Mv 1), .ref (Ma 2), .ref (Ma 3), .ref (Ma 4), .ref (Ma 5), .ref (Ma 6), .int sv_4, .int (Mv 3), .int (Mv 4), .int 6, .int (Mv 6), .int (Mv 7), .int (Mv 8), .ref (Ma 7), .int (Mv 9), .ref (Ma 8), .int (Mv 10), .ref (Ma 9), .ref (Ma 10), .int (Mv 11), .int (Mv 12), .int (Mv 13), .ref (Ma 11), .int (Mv 14), .ref (Ma 12), .ref (Ma 13), .ref (Ma 14), .ref (Ma 15), .ref (Ma 16), .long (Mj 0), .ref (Ma 17), .ref (Ma 18), .ref (Ma 19), .ref (Ma 20)])), ((Ma 1), .inl (tc 2, 400, .inl (Mf 1)))] H := hP₀
  replace hD : va_D A [((Ma 3), .inl (tc 0, 7, .inl (Mf 3))), ((Ma 6), .inl (tc 0, 95, .inl (Mf 6))), ((Ma 0), .inr (12, [.ref (Ma 1), .int (Mv 0), .int (Mv 1), .ref (Ma 2), .ref (Ma 3), .ref (Ma 4), .ref (Ma 5), .ref (Ma 6), .int sv_4, .int (Mv 3), .int (Mv 4), .int 6, .int (Mv 6), .int (Mv 7), .int (Mv 8), .ref (Ma 7), .int (Mv 9), .ref (Ma 8), .int (Mv 10), .ref (Ma 9), .ref (Ma 10), .int (Mv 11), .int (Mv 12), .int (Mv 13), .ref (Ma 11), .int (Mv 14), .ref (Ma 12), .ref (Ma 13), .ref (Ma 14), .ref (Ma 15), .ref (Ma 16), .long (Mj 0), .ref (Ma 17), .ref (Ma 18), .ref (Ma 19), .ref (Ma 20)])), ((Ma 1), .inl (tc 2, 400, .inl (Mf 1)))] := hD₀
  replace hS := hS₀
  clear hP₀ hD₀ hS₀
  refine lv_pop hx hb dX12_clauseHere_4 rfl ?_
  refine lv_aload_n hx hb dX12_clauseHere_5 rfl (lv_at hl 0 rfl) ?_
  refine gf_X12_87 hx hb hts hown hK hP 2 rfl rfl dX12_clauseHere_6 ?_
  refine lv_istore_n (lv' := [(1, .int sv_4), (0, .ref (Ma 0))]) hx hb dX12_clauseHere_9 rfl hl (by decide) rfl (fun ls hl₀ => ?_)
  replace hl := hl₀
  clear hl₀
  refine lv_aload_n hx hb dX12_clauseHere_10 rfl (lv_at hl 1 rfl) ?_
  refine gf_X12_145 hx hb hts hown hK hP 2 rfl rfl dX12_clauseHere_11 ?_
  refine lv_bipush (v := 6) hx hb dX12_clauseHere_14 (by decide) ?_
  refine lv_icmp_ne (tgt := 23) hx hb dX12_clauseHere_16 (by decide) (fun c_12 => absurd c_12 (by decide)) (fun c_12 => ?_)
  refine lv_iconst (v := 1) hx hb dX12_clauseHere_19 (by decide) ?_
  refine lv_goto (tgt := 24) hx hb dX12_clauseHere_20 (by decide) ?_
  refine lv_istore_n (lv' := [(2, .int 1), (1, .int sv_4), (0, .ref (Ma 0))]) hx hb dX12_clauseHere_24 rfl hl (by decide) rfl (fun ls hl₀ => ?_)
  replace hl := hl₀
  clear hl₀
  refine lv_iload_n hx hb dX12_clauseHere_25 rfl (lv_at hl 0 rfl) ?_
  refine lv_if_eq (tgt := 39) hx hb dX12_clauseHere_26 (by decide) (fun c_13 => absurd c_13 (by decide)) (fun c_13 => ?_)
  refine lv_aload_n hx hb dX12_clauseHere_29 rfl (lv_at hl 2 rfl) ?_
  have ha_14 : 0 ≤ (sv_4 : Int32).toInt ∧ (sv_4 : Int32).toInt ≤ ((Mv 0) : Int32).toInt ∧ ((Mv 0) : Int32).toInt ≤ 400 := by
    omega
  refine cV (a := (Ma 0)) (As := []) (rest := []) (wr := [((Ma 3), .inl (tc 0, 7, .inl (Mf 3))), ((Ma 6), .inl (tc 0, 95, .inl (Mf 6)))]) ⟨hx, hb, hml, hown, hts⟩ hK hX hA (cu_fX12_isBookWord l D tc sk (Ma 0) (Ma 1) (Ma 2) (Ma 3) (Ma 4) (Ma 5) (Ma 6) (Ma 7) (Ma 8) (Ma 9) (Ma 10) (Ma 11) (Ma 12) (Ma 13) (Ma 14) (Ma 15) (Ma 16) (Ma 17) (Ma 18) (Ma 19) (Ma 20) (Mv 0) (Mv 1) sv_4 (Mv 3) (Mv 4) 6 (Mv 6) (Mv 7) (Mv 8) (Mv 9) (Mv 10) (Mv 11) (Mv 12) (Mv 13) (Mv 14) (Mf 1) (Mj 0) ha_14 h_bs (SkR.self pf_8)) k_1215 k_1212 k_1214 k_28 k_106 pl_X12_isBookWord ⟨Nat.le_of_ble_eq_true rfl, Nat.le_of_ble_eq_true rfl⟩ rfl rfl (va_recv hK hP (ci := 12) (q0 := 2) rfl rfl) hP hD hS [2, 3] [0, 1] rfl rfl rfl rfl rfl (by decide) rfl hl.1 rfl (Nat.le_of_ble_eq_true rfl) dX12_clauseHere_30 ⟨Nat.le_of_ble_eq_true rfl, Nat.le_of_ble_eq_true rfl⟩ (fun v_15 u_16 H locs hv_17 hP₀ hD₀ hS₀ => ?_)
  obtain ⟨sv_18, rfl⟩ : ∃ z, z = u_16 := ⟨_, rfl⟩
  obtain ⟨r_21, rfl, he_22, pf_19, pf_20, hm_24, hm_25⟩ := hv_17
  have he_22 : (r_21.toInt = 0 ∨ r_21.toInt = 1) := he_22
  have pf_19 : (sv_4 : Int32).toInt ≤ (sv_18 : Int32).toInt ∧ (sv_18 : Int32).toInt ≤ ((Mv 0) : Int32).toInt := pf_19
  have pf_20 : SkR (rB (Mf 1) (Mv 0)) sv_4 sv_18 := pf_20
  refine W.eq (g2 := F0 m 33 ls [.int r_21]) rfl ?_
  replace hP : va_P D classes [((Ma 3), .inl (tc 0, 7, .inl (Mf 3))), ((Ma 6), .inl (tc 0, 95, .inl (Mf 6))), ((Ma 0), .inr (12, [.ref (Ma 1), .int (Mv 0), .int (Mv 1), .ref (Ma 2), .ref (Ma 3), .ref (Ma 4), .ref (Ma 5), .ref (Ma 6), .int sv_18, .int (Mv 3), .int (Mv 4), .int 6, .int (Mv 6), .int (Mv 7), .int (Mv 8), .ref (Ma 7), .int (Mv 9), .ref (Ma 8), .int (Mv 10), .ref (Ma 9), .ref (Ma 10), .int (Mv 11), .int (Mv 12), .int (Mv 13), .ref (Ma 11), .int (Mv 14), .ref (Ma 12), .ref (Ma 13), .ref (Ma 14), .ref (Ma 15), .ref (Ma 16), .long (Mj 0), .ref (Ma 17), .ref (Ma 18), .ref (Ma 19), .ref (Ma 20)])), ((Ma 1), .inl (tc 2, 400, .inl (Mf 1)))] H := hP₀
  replace hD : va_D A [((Ma 3), .inl (tc 0, 7, .inl (Mf 3))), ((Ma 6), .inl (tc 0, 95, .inl (Mf 6))), ((Ma 0), .inr (12, [.ref (Ma 1), .int (Mv 0), .int (Mv 1), .ref (Ma 2), .ref (Ma 3), .ref (Ma 4), .ref (Ma 5), .ref (Ma 6), .int sv_18, .int (Mv 3), .int (Mv 4), .int 6, .int (Mv 6), .int (Mv 7), .int (Mv 8), .ref (Ma 7), .int (Mv 9), .ref (Ma 8), .int (Mv 10), .ref (Ma 9), .ref (Ma 10), .int (Mv 11), .int (Mv 12), .int (Mv 13), .ref (Ma 11), .int (Mv 14), .ref (Ma 12), .ref (Ma 13), .ref (Ma 14), .ref (Ma 15), .ref (Ma 16), .long (Mj 0), .ref (Ma 17), .ref (Ma 18), .ref (Ma 19), .ref (Ma 20)])), ((Ma 1), .inl (tc 2, 400, .inl (Mf 1)))] := hD₀
  replace hS := hS₀
  clear hP₀ hD₀ hS₀
  have hE_26 := SkR.eqB pf_8 pf_20
  refine lv_if_ne (tgt := 56) hx hb dX12_clauseHere_33 (by decide) (fun c_27 => ?_) (fun c_27 => ?_)
  · skip
    have hz_30 : (r_21 : Int32).toInt = 1 := by
      have z_1 : ¬ (r_21 : Int32).toInt = (0 : Int32).toInt := fun z => c_27 (Int32.toInt_inj.mp z)
      have y_0 : (0 : Int32).toInt = 0 := by decide
      omega
    obtain ⟨pf_28, pf_29⟩ := hm_24 hz_30
    have pf_28 : BkN (rB (Mf 1) (Mv 0)) sv_4 := pf_28
    have pf_29 : LtH (rB (Mf 1) (Mv 0)) sv_4 := pf_29
    have ar_pf_29 := pf_29.1
    refine lv_aload_n hx hb dX12_clauseHere_56 rfl (lv_at hl 2 rfl) ?_
    refine gf_X12_244 hx hb hts hown hK hP 2 rfl rfl dX12_clauseHere_57 ?_
    refine lv_iload_n hx hb dX12_clauseHere_60 rfl (lv_at hl 0 rfl) ?_
    refine lv_if_eq (tgt := 69) hx hb dX12_clauseHere_61 (by decide) (fun c_31 => absurd c_31 (by decide)) (fun c_31 => ?_)
    refine lv_bipush (v := 40) hx hb dX12_clauseHere_64 (by decide) ?_
    refine lv_goto (tgt := 71) hx hb dX12_clauseHere_66 (by decide) ?_
    refine lv_icmp_ne (tgt := 81) hx hb dX12_clauseHere_71 (by decide) (fun c_32 => ?_) (fun c_32 => ?_)
    · skip
      refine lv_aload_n hx hb dX12_clauseHere_81 rfl (lv_at hl 2 rfl) ?_
      refine lv_dup hx hb dX12_clauseHere_82 rfl ?_
      refine gf_X12_244 hx hb hts hown hK hP 2 rfl rfl dX12_clauseHere_83 ?_
      refine lv_iconst (v := 1) hx hb dX12_clauseHere_86 (by decide) ?_
      refine lv_iadd hx hb dX12_clauseHere_87 ?_
      refine lv_topi (fun x_33 ex_33 => ?_)
      refine pf_X12_244 hx hb hts hown hK hP hD hS 2 rfl (Nat.le_of_ble_eq_true rfl) rfl rfl dX12_clauseHere_88 (fun H locs hP₀ hD₀ hS₀ => ?_)
      replace hP : va_P D classes [((Ma 3), .inl (tc 0, 7, .inl (Mf 3))), ((Ma 6), .inl (tc 0, 95, .inl (Mf 6))), ((Ma 0), .inr (12, [.ref (Ma 1), .int (Mv 0), .int (Mv 1), .ref (Ma 2), .ref (Ma 3), .ref (Ma 4), .ref (Ma 5), .ref (Ma 6), .int sv_18, .int (Mv 3), .int (Mv 4), .int 6, .int (Mv 6), .int (Mv 7), .int x_33, .ref (Ma 7), .int (Mv 9), .ref (Ma 8), .int (Mv 10), .ref (Ma 9), .ref (Ma 10), .int (Mv 11), .int (Mv 12), .int (Mv 13), .ref (Ma 11), .int (Mv 14), .ref (Ma 12), .ref (Ma 13), .ref (Ma 14), .ref (Ma 15), .ref (Ma 16), .long (Mj 0), .ref (Ma 17), .ref (Ma 18), .ref (Ma 19), .ref (Ma 20)])), ((Ma 1), .inl (tc 2, 400, .inl (Mf 1)))] H := hP₀
      replace hD : va_D A [((Ma 3), .inl (tc 0, 7, .inl (Mf 3))), ((Ma 6), .inl (tc 0, 95, .inl (Mf 6))), ((Ma 0), .inr (12, [.ref (Ma 1), .int (Mv 0), .int (Mv 1), .ref (Ma 2), .ref (Ma 3), .ref (Ma 4), .ref (Ma 5), .ref (Ma 6), .int sv_18, .int (Mv 3), .int (Mv 4), .int 6, .int (Mv 6), .int (Mv 7), .int x_33, .ref (Ma 7), .int (Mv 9), .ref (Ma 8), .int (Mv 10), .ref (Ma 9), .ref (Ma 10), .int (Mv 11), .int (Mv 12), .int (Mv 13), .ref (Ma 11), .int (Mv 14), .ref (Ma 12), .ref (Ma 13), .ref (Ma 14), .ref (Ma 15), .ref (Ma 16), .long (Mj 0), .ref (Ma 17), .ref (Ma 18), .ref (Ma 19), .ref (Ma 20)])), ((Ma 1), .inl (tc 2, 400, .inl (Mf 1)))] := hD₀
      replace hS := hS₀
      clear hP₀ hD₀ hS₀
      have tp_x_33 : (x_33 : Int32).toInt = ((Mv 8) : Int32).toInt + 1 := by
        have z_1 : ¬ (r_21 : Int32).toInt = (0 : Int32).toInt := fun z => c_27 (Int32.toInt_inj.mp z)
        have z_2 : ¬ ((Mv 8) : Int32).toInt = (40 : Int32).toInt := fun z => c_32 (Int32.toInt_inj.mp z)
        have y_0 : (0 : Int32).toInt = 0 := by decide
        have y_40 : (40 : Int32).toInt = 40 := by decide
        have y_1 : (1 : Int32).toInt = 1 := by decide
        have t_x_33 : x_33.toInt = ((Mv 8) : Int32).toInt + (1 : Int32).toInt := by rw [ex_33]; exact add_toInt (by omega) (by omega)
        omega
      refine lv_iload_n hx hb dX12_clauseHere_91 rfl (lv_at hl 0 rfl) ?_
      refine lv_if_eq (tgt := 103) hx hb dX12_clauseHere_92 (by decide) (fun c_34 => absurd c_34 (by decide)) (fun c_34 => ?_)
      refine lv_aload_n hx hb dX12_clauseHere_95 rfl (lv_at hl 2 rfl) ?_
      refine lv_iload_n hx hb dX12_clauseHere_96 rfl (lv_at hl 1 rfl) ?_
      have hq_35 : sv_18 = sv_4 := SkR.eq pf_8 pf_20
      have hq_36 : sv_18 = sv_4 := SkR.eq pf_8 pf_20
      have ha_37 : 0 ≤ (sv_18 : Int32).toInt ∧ (sv_18 : Int32).toInt ≤ ((Mv 0) : Int32).toInt ∧ ((Mv 0) : Int32).toInt ≤ 400 := by
        have z_1 : ¬ (r_21 : Int32).toInt = (0 : Int32).toInt := fun z => c_27 (Int32.toInt_inj.mp z)
        have z_2 : ¬ ((Mv 8) : Int32).toInt = (40 : Int32).toInt := fun z => c_32 (Int32.toInt_inj.mp z)
        have y_0 : (0 : Int32).toInt = 0 := by decide
        have y_40 : (40 : Int32).toInt = 40 := by decide
        omega
      have ha_38 : 0 ≤ sv_4.toInt ∧ sv_4.toInt ≤ 400 := by
        have z_1 : ¬ (r_21 : Int32).toInt = (0 : Int32).toInt := fun z => c_27 (Int32.toInt_inj.mp z)
        have z_2 : ¬ ((Mv 8) : Int32).toInt = (40 : Int32).toInt := fun z => c_32 (Int32.toInt_inj.mp z)
        have y_0 : (0 : Int32).toInt = 0 := by decide
        have y_40 : (40 : Int32).toInt = 40 := by decide
        omega
      have ha_39 : ((((Mf 6) 0).toInt = 0 ∧ x_33.toInt = 1) ∨ (((Mf 6) 0).toInt = 1 ∧ 2 ≤ x_33.toInt ∧ x_33.toInt ≤ 40)) := by
        have z_1 : ¬ (r_21 : Int32).toInt = (0 : Int32).toInt := fun z => c_27 (Int32.toInt_inj.mp z)
        have z_2 : ¬ ((Mv 8) : Int32).toInt = (40 : Int32).toInt := fun z => c_32 (Int32.toInt_inj.mp z)
        have y_0 : (0 : Int32).toInt = 0 := by decide
        have y_40 : (40 : Int32).toInt = 40 := by decide
        have y_1 : (1 : Int32).toInt = 1 := by decide
        have t_x_33 : x_33.toInt = ((Mv 8) : Int32).toInt + (1 : Int32).toInt := by rw [ex_33]; exact add_toInt (by omega) (by omega)
        omega
      have ha_40 : sv_4.toInt = sv_18.toInt := by
        have z_1 : ¬ (r_21 : Int32).toInt = (0 : Int32).toInt := fun z => c_27 (Int32.toInt_inj.mp z)
        have z_2 : ¬ ((Mv 8) : Int32).toInt = (40 : Int32).toInt := fun z => c_32 (Int32.toInt_inj.mp z)
        have y_0 : (0 : Int32).toInt = 0 := by decide
        have y_40 : (40 : Int32).toInt = 40 := by decide
        omega
      refine cV (a := (Ma 0)) (As := [.int sv_4]) (rest := []) (wr := [((Ma 3), .inl (tc 0, 7, .inl (Mf 3)))]) ⟨hx, hb, hml, hown, hts⟩ hK hX hA (cu_fX12_bookLineHere l D tc sk (Ma 0) (Ma 1) (Ma 2) (Ma 3) (Ma 4) (Ma 5) (Ma 6) (Ma 7) (Ma 8) (Ma 9) (Ma 10) (Ma 11) (Ma 12) (Ma 13) (Ma 14) (Ma 15) (Ma 16) (Ma 17) (Ma 18) (Ma 19) (Ma 20) (Mv 0) (Mv 1) sv_18 (Mv 3) (Mv 4) 6 (Mv 6) (Mv 7) x_33 (Mv 9) (Mv 10) (Mv 11) (Mv 12) (Mv 13) (Mv 14) (Mf 1) (Mf 6) (Mj 0) sv_4 ha_37 ha_38 h_ro h_bs h_w (SkR.self pf_20) (hq_35.symm ▸ pf_29) (hq_36.symm ▸ pf_28) ha_39 ha_40) k_1236 k_1233 k_1235 k_32 k_106 pl_X12_bookLineHere ⟨Nat.le_of_ble_eq_true rfl, Nat.le_of_ble_eq_true rfl⟩ rfl rfl (va_recv hK hP (ci := 12) (q0 := 2) rfl rfl) hP hD hS [2, 3, 1] [0] rfl rfl rfl rfl rfl (by decide) rfl hl.1 rfl (Nat.le_of_ble_eq_true rfl) dX12_clauseHere_97 ⟨Nat.le_of_ble_eq_true rfl, Nat.le_of_ble_eq_true rfl⟩ (fun v_41 u_42 H locs hv_43 hP₀ hD₀ hS₀ => ?_)
      obtain ⟨sv_44, sv_45, sv_46, sv_47⟩ := u_42
      obtain ⟨r_49, rfl, he_50, pf_48, hm_52, hm_53⟩ := hv_43
      have he_50 : ((r_49.toInt = 0 ∧ ¬ (sv_45 : Int32).toInt = 0) ∨ (r_49.toInt = 1 ∧ (sv_47 0).toInt = 1 ∧ (sv_45 : Int32).toInt = 0)) := he_50
      have pf_48 : (sv_18 : Int32).toInt ≤ (sv_44 : Int32).toInt ∧ (sv_44 : Int32).toInt ≤ ((Mv 0) : Int32).toInt := pf_48
      refine W.eq (g2 := F0 m 100 ls [.int r_49]) rfl ?_
      replace hP : va_P D classes [((Ma 3), .inl (tc 0, 7, .inl (Mf 3))), ((Ma 0), .inr (12, [.ref (Ma 1), .int (Mv 0), .int (Mv 1), .ref (Ma 2), .ref (Ma 3), .ref (Ma 4), .ref (Ma 5), .ref (Ma 6), .int sv_44, .int sv_45, .int sv_46, .int 6, .int (Mv 6), .int (Mv 7), .int x_33, .ref (Ma 7), .int (Mv 9), .ref (Ma 8), .int (Mv 10), .ref (Ma 9), .ref (Ma 10), .int (Mv 11), .int (Mv 12), .int (Mv 13), .ref (Ma 11), .int (Mv 14), .ref (Ma 12), .ref (Ma 13), .ref (Ma 14), .ref (Ma 15), .ref (Ma 16), .long (Mj 0), .ref (Ma 17), .ref (Ma 18), .ref (Ma 19), .ref (Ma 20)])), ((Ma 1), .inl (tc 2, 400, .inl (Mf 1))), ((Ma 6), .inl (tc 0, 95, .inl sv_47))] H := hP₀
      replace hD : va_D A [((Ma 3), .inl (tc 0, 7, .inl (Mf 3))), ((Ma 0), .inr (12, [.ref (Ma 1), .int (Mv 0), .int (Mv 1), .ref (Ma 2), .ref (Ma 3), .ref (Ma 4), .ref (Ma 5), .ref (Ma 6), .int sv_44, .int sv_45, .int sv_46, .int 6, .int (Mv 6), .int (Mv 7), .int x_33, .ref (Ma 7), .int (Mv 9), .ref (Ma 8), .int (Mv 10), .ref (Ma 9), .ref (Ma 10), .int (Mv 11), .int (Mv 12), .int (Mv 13), .ref (Ma 11), .int (Mv 14), .ref (Ma 12), .ref (Ma 13), .ref (Ma 14), .ref (Ma 15), .ref (Ma 16), .long (Mj 0), .ref (Ma 17), .ref (Ma 18), .ref (Ma 19), .ref (Ma 20)])), ((Ma 1), .inl (tc 2, 400, .inl (Mf 1))), ((Ma 6), .inl (tc 0, 95, .inl sv_47))] := hD₀
      replace hS := hS₀
      clear hP₀ hD₀ hS₀
      refine lv_goto (tgt := 107) hx hb dX12_clauseHere_100 (by decide) ?_
      have ha_54 : ((Mv 2) : Int32).toInt ≤ (sv_44 : Int32).toInt ∧ (sv_44 : Int32).toInt ≤ ((Mv 0) : Int32).toInt := by
        have z_1 : ¬ (r_21 : Int32).toInt = (0 : Int32).toInt := fun z => c_27 (Int32.toInt_inj.mp z)
        have z_2 : ¬ ((Mv 8) : Int32).toInt = (40 : Int32).toInt := fun z => c_32 (Int32.toInt_inj.mp z)
        have y_0 : (0 : Int32).toInt = 0 := by decide
        have y_40 : (40 : Int32).toInt = 40 := by decide
        omega
      have hb_55 : (r_49 : Int32).toInt = 0 ∨ (r_49 : Int32).toInt = 1 := by
        have z_1 : ¬ (r_21 : Int32).toInt = (0 : Int32).toInt := fun z => c_27 (Int32.toInt_inj.mp z)
        have z_2 : ¬ ((Mv 8) : Int32).toInt = (40 : Int32).toInt := fun z => c_32 (Int32.toInt_inj.mp z)
        have y_0 : (0 : Int32).toInt = 0 := by decide
        have y_40 : (40 : Int32).toInt = 40 := by decide
        omega
      have hp_56 : (((r_49 : Int32).toInt = 0 ∧ ¬ (sv_45 : Int32).toInt = 0) ∨ ((r_49 : Int32).toInt = 1 ∧ (sv_47 0).toInt = 1 ∧ (sv_45 : Int32).toInt = 0 ∧ (x_33 : Int32).toInt = (Mv 8).toInt + 1 ∧ (x_33 : Int32).toInt ≤ 40)) := by
        have z_1 : ¬ (r_21 : Int32).toInt = (0 : Int32).toInt := fun z => c_27 (Int32.toInt_inj.mp z)
        have z_2 : ¬ ((Mv 8) : Int32).toInt = (40 : Int32).toInt := fun z => c_32 (Int32.toInt_inj.mp z)
        have y_0 : (0 : Int32).toInt = 0 := by decide
        have y_40 : (40 : Int32).toInt = 40 := by decide
        have y_1 : (1 : Int32).toInt = 1 := by decide
        have t_x_33 : x_33.toInt = ((Mv 8) : Int32).toInt + (1 : Int32).toInt := by rw [ex_33]; exact add_toInt (by omega) (by omega)
        omega
      have hm_57 : (r_49 : Int32).toInt = 1 → (RdO sv_47) ∧ (BfO (bCLs (rB (Mf 1) (Mv 0)) (Mv 8).toInt.toNat (Mv 2) ((Mf 6) 2) ((Mf 6) 3)) (rB (Mf 1) (Mv 0)) sv_45 sv_44 (sv_47 2) (sv_47 3)) := by
        intro h1r
        obtain ⟨pf_58, pf_59⟩ := hm_52 h1r
        have pf_58 : RdO sv_47 := pf_58
        have ar_pf_58 := RdO.ar pf_58
        have pf_59 : BfO (bCL (rB (Mf 1) (Mv 0)) (x_33.toInt - 1).toNat sv_18 ((Mf 6) 2) ((Mf 6) 3)) (rB (Mf 1) (Mv 0)) sv_45 sv_44 (sv_47 2) (sv_47 3) := pf_59
        have ar_pf_59 := pf_59.2
        have hl_60 : (x_33.toInt - 1).toNat = (Mv 8).toInt.toNat := by
          have z_1 : ¬ (r_21 : Int32).toInt = (0 : Int32).toInt := fun z => c_27 (Int32.toInt_inj.mp z)
          have z_2 : ¬ ((Mv 8) : Int32).toInt = (40 : Int32).toInt := fun z => c_32 (Int32.toInt_inj.mp z)
          have y_0 : (0 : Int32).toInt = 0 := by decide
          have y_40 : (40 : Int32).toInt = 40 := by decide
          have y_1 : (1 : Int32).toInt = 1 := by decide
          have t_x_33 : x_33.toInt = ((Mv 8) : Int32).toInt + (1 : Int32).toInt := by rw [ex_33]; exact add_toInt (by omega) (by omega)
          omega
        have hf_61 : BfO (bCL (rB (Mf 1) (Mv 0)) (Mv 8).toInt.toNat sv_18 ((Mf 6) 2) ((Mf 6) 3)) (rB (Mf 1) (Mv 0)) sv_45 sv_44 (sv_47 2) (sv_47 3) := by rw [← hl_60]; exact pf_59
        exact ⟨pf_58, (BfO.eq (bCLs_at (SkR.trans pf_8 pf_20)) hf_61)⟩
      have hm_62 : (r_49 : Int32).toInt = 0 → (BfE (bCLs (rB (Mf 1) (Mv 0)) (Mv 8).toInt.toNat (Mv 2) ((Mf 6) 2) ((Mf 6) 3)) sv_45) := by
        intro h1r
        obtain pf_63 := hm_53 h1r
        have pf_63 : BfE (bCL (rB (Mf 1) (Mv 0)) (x_33.toInt - 1).toNat sv_18 ((Mf 6) 2) ((Mf 6) 3)) sv_45 := pf_63
        have hl_64 : (x_33.toInt - 1).toNat = (Mv 8).toInt.toNat := by
          have z_1 : ¬ (r_21 : Int32).toInt = (0 : Int32).toInt := fun z => c_27 (Int32.toInt_inj.mp z)
          have z_2 : ¬ ((Mv 8) : Int32).toInt = (40 : Int32).toInt := fun z => c_32 (Int32.toInt_inj.mp z)
          have y_0 : (0 : Int32).toInt = 0 := by decide
          have y_40 : (40 : Int32).toInt = 40 := by decide
          have y_1 : (1 : Int32).toInt = 1 := by decide
          have t_x_33 : x_33.toInt = ((Mv 8) : Int32).toInt + (1 : Int32).toInt := by rw [ex_33]; exact add_toInt (by omega) (by omega)
          omega
        have hf_65 : BfE (bCL (rB (Mf 1) (Mv 0)) (Mv 8).toInt.toNat sv_18 ((Mf 6) 2) ((Mf 6) 3)) sv_45 := by rw [← hl_64]; exact pf_63
        exact (BfE.eq (bCLs_at (SkR.trans pf_8 pf_20)) hf_65)
      exact retI (v := r_49) hx hb hr hlk (nar01 hb_55) hP hD hS (sv_44, sv_45, sv_46, x_33, sv_47) ⟨_, rfl, hp_56, ha_54, hm_57, hm_62⟩ [1, 2, 0, 3] rfl rfl dX12_clauseHere_107 (Nat.le_of_ble_eq_true rfl) (Nat.le_of_ble_eq_true rfl) rfl
    · skip
      refine lv_aload_n hx hb dX12_clauseHere_74 rfl (lv_at hl 2 rfl) ?_
      refine lv_iconst (v := 4) hx hb dX12_clauseHere_75 (by decide) ?_
      refine lv_iload_n hx hb dX12_clauseHere_76 rfl (lv_at hl 1 rfl) ?_
      have ha_66 : 0 ≤ (4 : Int32).toInt ∧ (4 : Int32).toInt ≤ 4 := by
        have z_1 : ¬ (r_21 : Int32).toInt = (0 : Int32).toInt := fun z => c_27 (Int32.toInt_inj.mp z)
        have z_2 := congrArg Int32.toInt c_32
        have y_0 : (0 : Int32).toInt = 0 := by decide
        have y_40 : (40 : Int32).toInt = 40 := by decide
        have y_4 : (4 : Int32).toInt = 4 := by decide
        omega
      have ha_67 : 0 ≤ sv_4.toInt ∧ sv_4.toInt ≤ 400 := by
        have z_1 : ¬ (r_21 : Int32).toInt = (0 : Int32).toInt := fun z => c_27 (Int32.toInt_inj.mp z)
        have z_2 := congrArg Int32.toInt c_32
        have y_0 : (0 : Int32).toInt = 0 := by decide
        have y_40 : (40 : Int32).toInt = 40 := by decide
        omega
      refine cV (a := (Ma 0)) (As := [.int 4, .int sv_4]) (rest := []) (wr := [((Ma 3), .inl (tc 0, 7, .inl (Mf 3))), ((Ma 6), .inl (tc 0, 95, .inl (Mf 6))), ((Ma 1), .inl (tc 2, 400, .inl (Mf 1)))]) ⟨hx, hb, hml, hown, hts⟩ hK hX hA (cu_fX12_fails l D tc sk (Ma 0) (Ma 1) (Ma 2) (Ma 3) (Ma 4) (Ma 5) (Ma 6) (Ma 7) (Ma 8) (Ma 9) (Ma 10) (Ma 11) (Ma 12) (Ma 13) (Ma 14) (Ma 15) (Ma 16) (Ma 17) (Ma 18) (Ma 19) (Ma 20) (Mv 0) (Mv 1) sv_18 (Mv 3) (Mv 4) 6 (Mv 6) (Mv 7) (Mv 8) (Mv 9) (Mv 10) (Mv 11) (Mv 12) (Mv 13) (Mv 14) (Mj 0) 4 sv_4 ha_66 ha_67 h_w) k_1232 k_1229 k_1231 k_31 k_106 pl_X12_fails ⟨Nat.le_of_ble_eq_true rfl, Nat.le_of_ble_eq_true rfl⟩ rfl rfl (va_recv hK hP (ci := 12) (q0 := 2) rfl rfl) hP hD hS [2] [0, 1, 3] rfl rfl rfl rfl rfl (by decide) rfl hl.1 rfl (Nat.le_of_ble_eq_true rfl) dX12_clauseHere_77 ⟨Nat.le_of_ble_eq_true rfl, Nat.le_of_ble_eq_true rfl⟩ (fun v_68 u_69 H locs hv_70 hP₀ hD₀ hS₀ => ?_)
      obtain ⟨sv_71, rfl⟩ : ∃ z, z = u_69 := ⟨_, rfl⟩
      obtain ⟨r_74, rfl, he_75, pf_72, pf_73⟩ := hv_70
      have he_75 : r_74.toInt = 0 := he_75
      have pf_72 : ¬ (sv_71 : Int32).toInt = 0 := pf_72
      have pf_73 : (sv_71 : Int32).toInt = 1 + 8 * sv_4.toInt + (4 : Int32).toInt := pf_73
      refine W.eq (g2 := F0 m 80 ls [.int r_74]) rfl ?_
      replace hP : va_P D classes [((Ma 3), .inl (tc 0, 7, .inl (Mf 3))), ((Ma 6), .inl (tc 0, 95, .inl (Mf 6))), ((Ma 1), .inl (tc 2, 400, .inl (Mf 1))), ((Ma 0), .inr (12, [.ref (Ma 1), .int (Mv 0), .int (Mv 1), .ref (Ma 2), .ref (Ma 3), .ref (Ma 4), .ref (Ma 5), .ref (Ma 6), .int sv_18, .int sv_71, .int (Mv 4), .int 6, .int (Mv 6), .int (Mv 7), .int (Mv 8), .ref (Ma 7), .int (Mv 9), .ref (Ma 8), .int (Mv 10), .ref (Ma 9), .ref (Ma 10), .int (Mv 11), .int (Mv 12), .int (Mv 13), .ref (Ma 11), .int (Mv 14), .ref (Ma 12), .ref (Ma 13), .ref (Ma 14), .ref (Ma 15), .ref (Ma 16), .long (Mj 0), .ref (Ma 17), .ref (Ma 18), .ref (Ma 19), .ref (Ma 20)]))] H := hP₀
      replace hD : va_D A [((Ma 3), .inl (tc 0, 7, .inl (Mf 3))), ((Ma 6), .inl (tc 0, 95, .inl (Mf 6))), ((Ma 1), .inl (tc 2, 400, .inl (Mf 1))), ((Ma 0), .inr (12, [.ref (Ma 1), .int (Mv 0), .int (Mv 1), .ref (Ma 2), .ref (Ma 3), .ref (Ma 4), .ref (Ma 5), .ref (Ma 6), .int sv_18, .int sv_71, .int (Mv 4), .int 6, .int (Mv 6), .int (Mv 7), .int (Mv 8), .ref (Ma 7), .int (Mv 9), .ref (Ma 8), .int (Mv 10), .ref (Ma 9), .ref (Ma 10), .int (Mv 11), .int (Mv 12), .int (Mv 13), .ref (Ma 11), .int (Mv 14), .ref (Ma 12), .ref (Ma 13), .ref (Ma 14), .ref (Ma 15), .ref (Ma 16), .long (Mj 0), .ref (Ma 17), .ref (Ma 18), .ref (Ma 19), .ref (Ma 20)]))] := hD₀
      replace hS := hS₀
      clear hP₀ hD₀ hS₀
      have yf_77 : (4 : Int32).toInt = 4 := by decide
      have ha_78 : ((Mv 2) : Int32).toInt ≤ (sv_18 : Int32).toInt ∧ (sv_18 : Int32).toInt ≤ ((Mv 0) : Int32).toInt := by
        have z_1 : ¬ (r_21 : Int32).toInt = (0 : Int32).toInt := fun z => c_27 (Int32.toInt_inj.mp z)
        have z_2 := congrArg Int32.toInt c_32
        have y_0 : (0 : Int32).toInt = 0 := by decide
        have y_40 : (40 : Int32).toInt = 40 := by decide
        omega
      have hb_79 : (r_74 : Int32).toInt = 0 ∨ (r_74 : Int32).toInt = 1 := by
        have z_1 : ¬ (r_21 : Int32).toInt = (0 : Int32).toInt := fun z => c_27 (Int32.toInt_inj.mp z)
        have z_2 := congrArg Int32.toInt c_32
        have y_0 : (0 : Int32).toInt = 0 := by decide
        have y_40 : (40 : Int32).toInt = 40 := by decide
        omega
      have hp_80 : (((r_74 : Int32).toInt = 0 ∧ ¬ (sv_71 : Int32).toInt = 0) ∨ ((r_74 : Int32).toInt = 1 ∧ ((Mf 6) 0).toInt = 1 ∧ (sv_71 : Int32).toInt = 0 ∧ ((Mv 8) : Int32).toInt = (Mv 8).toInt + 1 ∧ ((Mv 8) : Int32).toInt ≤ 40)) := by
        have z_1 : ¬ (r_21 : Int32).toInt = (0 : Int32).toInt := fun z => c_27 (Int32.toInt_inj.mp z)
        have z_2 := congrArg Int32.toInt c_32
        have y_0 : (0 : Int32).toInt = 0 := by decide
        have y_40 : (40 : Int32).toInt = 40 := by decide
        omega
      have hm_81 : (r_74 : Int32).toInt = 1 → (RdO (Mf 6)) ∧ (BfO (bCLs (rB (Mf 1) (Mv 0)) (Mv 8).toInt.toNat (Mv 2) ((Mf 6) 2) ((Mf 6) 3)) (rB (Mf 1) (Mv 0)) sv_71 sv_18 ((Mf 6) 2) ((Mf 6) 3)) := by
        intro h1r
        exfalso
        have z_1 : ¬ (r_21 : Int32).toInt = (0 : Int32).toInt := fun z => c_27 (Int32.toInt_inj.mp z)
        have z_2 := congrArg Int32.toInt c_32
        have y_0 : (0 : Int32).toInt = 0 := by decide
        have y_40 : (40 : Int32).toInt = 40 := by decide
        omega
      have hm_82 : (r_74 : Int32).toInt = 0 → (BfE (bCLs (rB (Mf 1) (Mv 0)) (Mv 8).toInt.toNat (Mv 2) ((Mf 6) 2) ((Mf 6) 3)) sv_71) := by
        intro h1r
        have hr_83 : 40 ≤ (Mv 8).toInt.toNat := by
          have z_1 : ¬ (r_21 : Int32).toInt = (0 : Int32).toInt := fun z => c_27 (Int32.toInt_inj.mp z)
          have z_2 := congrArg Int32.toInt c_32
          have y_0 : (0 : Int32).toInt = 0 := by decide
          have y_40 : (40 : Int32).toInt = 40 := by decide
          omega
        have hr_84 : 0 ≤ (sv_4 : Int32).toInt := by
          have z_1 : ¬ (r_21 : Int32).toInt = (0 : Int32).toInt := fun z => c_27 (Int32.toInt_inj.mp z)
          have z_2 := congrArg Int32.toInt c_32
          have y_0 : (0 : Int32).toInt = 0 := by decide
          have y_40 : (40 : Int32).toInt = 40 := by decide
          omega
        have hi_85 : (sv_71 : Int32).toInt = 1 + 8 * (sv_4 : Int32).toInt + 4 := by
          have z_1 : ¬ (r_21 : Int32).toInt = (0 : Int32).toInt := fun z => c_27 (Int32.toInt_inj.mp z)
          have z_2 := congrArg Int32.toInt c_32
          have y_0 : (0 : Int32).toInt = 0 := by decide
          have y_40 : (40 : Int32).toInt = 40 := by decide
          omega
        exact (BfE.eq (bCLs_at pf_8) (bCL_bad (k := pz_wa (rB (Mf 1) (Mv 0)) (sv_4 : Int32).toInt.toNat pz_bws 0) rfl pf_28 (Or.inl hr_83) hr_84 hi_85))
      exact retI (v := r_74) hx hb hr hlk (nar01 hb_79) hP hD hS (sv_18, sv_71, (Mv 4), (Mv 8), (Mf 6)) ⟨_, rfl, hp_80, ha_78, hm_81, hm_82⟩ [3, 2, 0, 1] rfl rfl dX12_clauseHere_80 (Nat.le_of_ble_eq_true rfl) (Nat.le_of_ble_eq_true rfl) rfl
  · skip
    have hz_87 : (r_21 : Int32).toInt = 0 := by
      have z_1 := congrArg Int32.toInt c_27
      have y_0 : (0 : Int32).toInt = 0 := by decide
      omega
    obtain pf_86 := hm_25 hz_87
    have pf_86 : BkW (rB (Mf 1) (Mv 0)) sv_4 (-1) := pf_86
    refine lv_goto (tgt := 49) hx hb dX12_clauseHere_36 (by decide) ?_
    refine lv_aload_n hx hb dX12_clauseHere_49 rfl (lv_at hl 2 rfl) ?_
    refine lv_iconst (v := 0) hx hb dX12_clauseHere_50 (by decide) ?_
    refine lv_iload_n hx hb dX12_clauseHere_51 rfl (lv_at hl 1 rfl) ?_
    have ha_88 : 0 ≤ (0 : Int32).toInt ∧ (0 : Int32).toInt ≤ 4 := by
      have z_1 := congrArg Int32.toInt c_27
      have y_0 : (0 : Int32).toInt = 0 := by decide
      omega
    have ha_89 : 0 ≤ sv_4.toInt ∧ sv_4.toInt ≤ 400 := by
      have z_1 := congrArg Int32.toInt c_27
      have y_0 : (0 : Int32).toInt = 0 := by decide
      omega
    refine cV (a := (Ma 0)) (As := [.int 0, .int sv_4]) (rest := []) (wr := [((Ma 3), .inl (tc 0, 7, .inl (Mf 3))), ((Ma 6), .inl (tc 0, 95, .inl (Mf 6))), ((Ma 1), .inl (tc 2, 400, .inl (Mf 1)))]) ⟨hx, hb, hml, hown, hts⟩ hK hX hA (cu_fX12_fails l D tc sk (Ma 0) (Ma 1) (Ma 2) (Ma 3) (Ma 4) (Ma 5) (Ma 6) (Ma 7) (Ma 8) (Ma 9) (Ma 10) (Ma 11) (Ma 12) (Ma 13) (Ma 14) (Ma 15) (Ma 16) (Ma 17) (Ma 18) (Ma 19) (Ma 20) (Mv 0) (Mv 1) sv_18 (Mv 3) (Mv 4) 6 (Mv 6) (Mv 7) (Mv 8) (Mv 9) (Mv 10) (Mv 11) (Mv 12) (Mv 13) (Mv 14) (Mj 0) 0 sv_4 ha_88 ha_89 h_w) k_1232 k_1229 k_1231 k_31 k_106 pl_X12_fails ⟨Nat.le_of_ble_eq_true rfl, Nat.le_of_ble_eq_true rfl⟩ rfl rfl (va_recv hK hP (ci := 12) (q0 := 2) rfl rfl) hP hD hS [2] [0, 1, 3] rfl rfl rfl rfl rfl (by decide) rfl hl.1 rfl (Nat.le_of_ble_eq_true rfl) dX12_clauseHere_52 ⟨Nat.le_of_ble_eq_true rfl, Nat.le_of_ble_eq_true rfl⟩ (fun v_90 u_91 H locs hv_92 hP₀ hD₀ hS₀ => ?_)
    obtain ⟨sv_93, rfl⟩ : ∃ z, z = u_91 := ⟨_, rfl⟩
    obtain ⟨r_96, rfl, he_97, pf_94, pf_95⟩ := hv_92
    have he_97 : r_96.toInt = 0 := he_97
    have pf_94 : ¬ (sv_93 : Int32).toInt = 0 := pf_94
    have pf_95 : (sv_93 : Int32).toInt = 1 + 8 * sv_4.toInt + (0 : Int32).toInt := pf_95
    refine W.eq (g2 := F0 m 55 ls [.int r_96]) rfl ?_
    replace hP : va_P D classes [((Ma 3), .inl (tc 0, 7, .inl (Mf 3))), ((Ma 6), .inl (tc 0, 95, .inl (Mf 6))), ((Ma 1), .inl (tc 2, 400, .inl (Mf 1))), ((Ma 0), .inr (12, [.ref (Ma 1), .int (Mv 0), .int (Mv 1), .ref (Ma 2), .ref (Ma 3), .ref (Ma 4), .ref (Ma 5), .ref (Ma 6), .int sv_18, .int sv_93, .int (Mv 4), .int 6, .int (Mv 6), .int (Mv 7), .int (Mv 8), .ref (Ma 7), .int (Mv 9), .ref (Ma 8), .int (Mv 10), .ref (Ma 9), .ref (Ma 10), .int (Mv 11), .int (Mv 12), .int (Mv 13), .ref (Ma 11), .int (Mv 14), .ref (Ma 12), .ref (Ma 13), .ref (Ma 14), .ref (Ma 15), .ref (Ma 16), .long (Mj 0), .ref (Ma 17), .ref (Ma 18), .ref (Ma 19), .ref (Ma 20)]))] H := hP₀
    replace hD : va_D A [((Ma 3), .inl (tc 0, 7, .inl (Mf 3))), ((Ma 6), .inl (tc 0, 95, .inl (Mf 6))), ((Ma 1), .inl (tc 2, 400, .inl (Mf 1))), ((Ma 0), .inr (12, [.ref (Ma 1), .int (Mv 0), .int (Mv 1), .ref (Ma 2), .ref (Ma 3), .ref (Ma 4), .ref (Ma 5), .ref (Ma 6), .int sv_18, .int sv_93, .int (Mv 4), .int 6, .int (Mv 6), .int (Mv 7), .int (Mv 8), .ref (Ma 7), .int (Mv 9), .ref (Ma 8), .int (Mv 10), .ref (Ma 9), .ref (Ma 10), .int (Mv 11), .int (Mv 12), .int (Mv 13), .ref (Ma 11), .int (Mv 14), .ref (Ma 12), .ref (Ma 13), .ref (Ma 14), .ref (Ma 15), .ref (Ma 16), .long (Mj 0), .ref (Ma 17), .ref (Ma 18), .ref (Ma 19), .ref (Ma 20)]))] := hD₀
    replace hS := hS₀
    clear hP₀ hD₀ hS₀
    have yf_99 : (0 : Int32).toInt = 0 := by decide
    have ha_100 : ((Mv 2) : Int32).toInt ≤ (sv_18 : Int32).toInt ∧ (sv_18 : Int32).toInt ≤ ((Mv 0) : Int32).toInt := by
      have z_1 := congrArg Int32.toInt c_27
      have y_0 : (0 : Int32).toInt = 0 := by decide
      omega
    have hb_101 : (r_96 : Int32).toInt = 0 ∨ (r_96 : Int32).toInt = 1 := by
      have z_1 := congrArg Int32.toInt c_27
      have y_0 : (0 : Int32).toInt = 0 := by decide
      omega
    have hp_102 : (((r_96 : Int32).toInt = 0 ∧ ¬ (sv_93 : Int32).toInt = 0) ∨ ((r_96 : Int32).toInt = 1 ∧ ((Mf 6) 0).toInt = 1 ∧ (sv_93 : Int32).toInt = 0 ∧ ((Mv 8) : Int32).toInt = (Mv 8).toInt + 1 ∧ ((Mv 8) : Int32).toInt ≤ 40)) := by
      have z_1 := congrArg Int32.toInt c_27
      have y_0 : (0 : Int32).toInt = 0 := by decide
      omega
    have hm_103 : (r_96 : Int32).toInt = 1 → (RdO (Mf 6)) ∧ (BfO (bCLs (rB (Mf 1) (Mv 0)) (Mv 8).toInt.toNat (Mv 2) ((Mf 6) 2) ((Mf 6) 3)) (rB (Mf 1) (Mv 0)) sv_93 sv_18 ((Mf 6) 2) ((Mf 6) 3)) := by
      intro h1r
      exfalso
      have z_1 := congrArg Int32.toInt c_27
      have y_0 : (0 : Int32).toInt = 0 := by decide
      omega
    have hm_104 : (r_96 : Int32).toInt = 0 → (BfE (bCLs (rB (Mf 1) (Mv 0)) (Mv 8).toInt.toNat (Mv 2) ((Mf 6) 2) ((Mf 6) 3)) sv_93) := by
      intro h1r
      have hr_105 : 0 ≤ (sv_4 : Int32).toInt := by
        have z_1 := congrArg Int32.toInt c_27
        have y_0 : (0 : Int32).toInt = 0 := by decide
        omega
      have hi_106 : (sv_93 : Int32).toInt = 1 + 8 * (sv_4 : Int32).toInt := by
        have z_1 := congrArg Int32.toInt c_27
        have y_0 : (0 : Int32).toInt = 0 := by decide
        omega
      exact (BfE.eq (bCLs_at pf_8) (bCL_no pf_86 hr_105 hi_106))
    exact retI (v := r_96) hx hb hr hlk (nar01 hb_101) hP hD hS (sv_18, sv_93, (Mv 4), (Mv 8), (Mf 6)) ⟨_, rfl, hp_102, ha_100, hm_103, hm_104⟩ [3, 2, 0, 1] rfl rfl dX12_clauseHere_55 (Nat.le_of_ble_eq_true rfl) (Nat.le_of_ble_eq_true rfl) rfl
set_option maxRecDepth 100000 in
theorem cu_fX12_clauseHere_b (l : Launch) (D : va_G) (tc : Nat → ClassId) (sk : (Nat → Nat) × (Nat → Nat)) (Ma_0 : Nat) (Ma_1 : Nat) (Ma_2 : Nat) (Ma_3 : Nat) (Ma_4 : Nat) (Ma_5 : Nat) (Ma_6 : Nat) (Ma_7 : Nat) (Ma_8 : Nat) (Ma_9 : Nat) (Ma_10 : Nat) (Ma_11 : Nat) (Ma_12 : Nat) (Ma_13 : Nat) (Ma_14 : Nat) (Ma_15 : Nat) (Ma_16 : Nat) (Ma_17 : Nat) (Ma_18 : Nat) (Ma_19 : Nat) (Ma_20 : Nat) (Mv_0 : Int32) (Mv_1 : Int32) (Mv_2 : Int32) (Mv_3 : Int32) (Mv_4 : Int32) (Mv_6 : Int32) (Mv_7 : Int32) (Mv_8 : Int32) (Mv_9 : Int32) (Mv_10 : Int32) (Mv_11 : Int32) (Mv_12 : Int32) (Mv_13 : Int32) (Mv_14 : Int32) (Mf_1 : Nat → Int32) (Mf_3 : Nat → Int32) (Mf_6 : Nat → Int32) (Mj_0 : Int64) (h_nx : 0 ≤ (Mv_2 : Int32).toInt ∧ (Mv_2 : Int32).toInt ≤ (Mv_0 : Int32).toInt ∧ (Mv_0 : Int32).toInt ≤ 400) (h_ro : RdO Mf_6) (h_bs : ByS Mf_1) (h_w : (Mv_3 : Int32).toInt = 0) (h_r0 : (((Mf_6 0).toInt = 0 ∧ Mv_8.toInt = 0) ∨ ((Mf_6 0).toInt = 1 ∧ 1 ≤ Mv_8.toInt ∧ Mv_8.toInt ≤ 40))) : Ct l yX12_clauseHere cX12_clauseHere 3 (some .boolean) { frames := 5, cells := 0, slots := 0, locals := 115 } D tc sk [.ref Ma_0] [(Ma_0, .inr (12, [.ref Ma_1, .int Mv_0, .int Mv_1, .ref Ma_2, .ref Ma_3, .ref Ma_4, .ref Ma_5, .ref Ma_6, .int Mv_2, .int Mv_3, .int Mv_4, .int 6, .int Mv_6, .int Mv_7, .int Mv_8, .ref Ma_7, .int Mv_9, .ref Ma_8, .int Mv_10, .ref Ma_9, .ref Ma_10, .int Mv_11, .int Mv_12, .int Mv_13, .ref Ma_11, .int Mv_14, .ref Ma_12, .ref Ma_13, .ref Ma_14, .ref Ma_15, .ref Ma_16, .long Mj_0, .ref Ma_17, .ref Ma_18, .ref Ma_19, .ref Ma_20])), (Ma_1, .inl (tc 2, 400, .inl Mf_1)), (Ma_3, .inl (tc 0, 7, .inl Mf_3)), (Ma_6, .inl (tc 0, 95, .inl Mf_6))] (fun (v : Option Value) (u : (Int32) × (Int32) × (Int32) × (Int32) × (Nat → Int32)) => match u with | (oo0x1, oo0x2, oo0x3, oo0x4, oo0x5) => ∃ r : Int32, v = some (.int r) ∧ (((r.toInt = 0 ∧ ¬ (oo0x2 : Int32).toInt = 0) ∨ (r.toInt = 1 ∧ (oo0x5 0).toInt = 1 ∧ (oo0x2 : Int32).toInt = 0 ∧ (oo0x4 : Int32).toInt = Mv_8.toInt + 1 ∧ (oo0x4 : Int32).toInt ≤ 40))) ∧ ((Mv_2 : Int32).toInt ≤ (oo0x1 : Int32).toInt ∧ (oo0x1 : Int32).toInt ≤ (Mv_0 : Int32).toInt) ∧ (r.toInt = 1 → (RdO oo0x5) ∧ (BfO (bCLs (rB Mf_1 Mv_0) Mv_8.toInt.toNat Mv_2 (Mf_6 2) (Mf_6 3)) (rB Mf_1 Mv_0) oo0x2 oo0x1 (oo0x5 2) (oo0x5 3))) ∧ (r.toInt = 0 → (BfE (bCLs (rB Mf_1 Mv_0) Mv_8.toInt.toNat Mv_2 (Mf_6 2) (Mf_6 3)) oo0x2))) (fun (u : (Int32) × (Int32) × (Int32) × (Int32) × (Nat → Int32)) => match u with | (oo0x1, oo0x2, oo0x3, oo0x4, oo0x5) => [(Ma_0, .inr (12, [.ref Ma_1, .int Mv_0, .int Mv_1, .ref Ma_2, .ref Ma_3, .ref Ma_4, .ref Ma_5, .ref Ma_6, .int oo0x1, .int oo0x2, .int oo0x3, .int 6, .int Mv_6, .int Mv_7, .int oo0x4, .ref Ma_7, .int Mv_9, .ref Ma_8, .int Mv_10, .ref Ma_9, .ref Ma_10, .int Mv_11, .int Mv_12, .int Mv_13, .ref Ma_11, .int Mv_14, .ref Ma_12, .ref Ma_13, .ref Ma_14, .ref Ma_15, .ref Ma_16, .long Mj_0, .ref Ma_17, .ref Ma_18, .ref Ma_19, .ref Ma_20])), (Ma_1, .inl (tc 2, 400, .inl Mf_1)), (Ma_3, .inl (tc 0, 7, .inl Mf_3)), (Ma_6, .inl (tc 0, 95, .inl oo0x5))]) 0 0 :=
  ct_fX12_clauseHere_b l D tc sk (fun k => ([Ma_0, Ma_1, Ma_2, Ma_3, Ma_4, Ma_5, Ma_6, Ma_7, Ma_8, Ma_9, Ma_10, Ma_11, Ma_12, Ma_13, Ma_14, Ma_15, Ma_16, Ma_17, Ma_18, Ma_19, Ma_20] : List (Nat)).getD k 0) (fun k => ([Mv_0, Mv_1, Mv_2, Mv_3, Mv_4, 0, Mv_6, Mv_7, Mv_8, Mv_9, Mv_10, Mv_11, Mv_12, Mv_13, Mv_14] : List (Int32)).getD k 0) (fun k => ([(fun _ => 0), Mf_1, (fun _ => 0), Mf_3, (fun _ => 0), (fun _ => 0), Mf_6] : List (Nat → Int32)).getD k (fun _ => 0)) (fun k => ([Mj_0] : List (Int64)).getD k 0) h_nx h_ro h_bs h_w h_r0
