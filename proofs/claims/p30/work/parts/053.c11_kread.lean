set_option maxRecDepth 16384
set_option maxHeartbeats 4000000 in
set_option maxRecDepth 100000 in
theorem ct_kJ7_copyOf (l : Launch) (D : va_G) (tc : Nat → ClassId) (sk : (Nat → Nat) × (Nat → Nat)) (Ca : Nat → Nat) (Cf : Nat → Nat → Int32) (x1 : Int32) (h_x : 0 ≤ x1.toInt ∧ x1.toInt ≤ 400) : Ct l yJ7_copyOf_59c91 cJ7_copyOf_59c91 3 (some (.array .int)) { frames := 1, cells := 1, slots := 400, locals := 40 } D tc sk [.ref (Ca 0), .int x1] [((Ca 0), .inl (tc 0, 400, .inl (Cf 0)))] (fun (v : Option Value) (u : (Nat) × (Nat → Int32) × (Nat)) => match u with | (na0x0, oo0x1, nn0x1) => v = some (.ref na0x0) ∧ (nn0x1 ≤ 400) ∧ (CpO (Cf 0) oo0x1 nn0x1 x1)) (fun (u : (Nat) × (Nat → Int32) × (Nat)) => match u with | (na0x0, oo0x1, nn0x1) => [((Ca 0), .inl (tc 0, 400, .inl (Cf 0))), (na0x0, .inl (tc 0, nn0x1, .inl oo0x1))]) 1 400 := by
  refine Ct.start (by decide) (Nat.le_of_ble_eq_true rfl) (fun p e s m below meth c A ls hx hb hr hlk hin hml hown hts hK hX hP hD hA hl hS => ?_)
  have hl : lv_has ls 3 [(0, .ref (Ca 0)), (1, .int x1)] := hl
  refine lv_iload_n hx hb dJ7_copyOf_59c91_0 rfl (lv_at hl 1 rfl) ?_
  refine lv_aload_n hx hb dJ7_copyOf_59c91_1 rfl (lv_at hl 0 rfl) ?_
  refine va_alen hx hb hK hP 0 0 rfl rfl (v := 400) rfl dJ7_copyOf_59c91_2 ?_
  refine lv_icmp_ne (tgt := 14) hx hb dJ7_copyOf_59c91_3 (by decide) (fun c_1 => ?_) (fun c_1 => ?_)
  · skip
    refine lv_iload_n hx hb dJ7_copyOf_59c91_14 rfl (lv_at hl 1 rfl) ?_
    have hn4 : 0 + x1.toNatClampNeg ≤ 400 := by have := cl400 h_x; omega
    refine nwA (atype := .int) (N' := x1.toNatClampNeg) (a0 := (x1.toNatClampNeg, .inl (fun _ => 0))) hx hb (hts _ k_156) rfl hK hP hD hS hA 0 rfl (fun _ => rfl) (nneg h_x.1) rfl (by show x1.toNatClampNeg * 4 ≤ 536870912; omega) (Nat.le_of_ble_eq_true rfl) hn4 dJ7_copyOf_59c91_15 (fun q_2 H hP₀ hD₀ hS₀ => ?_)
    replace hP : va_P D classes [((Ca 0), .inl (tc 0, 400, .inl (Cf 0))), (q_2, .inl (tc 0, x1.toNatClampNeg, .inl (fun _ => 0)))] H := hP₀
    replace hD : va_D A [((Ca 0), .inl (tc 0, 400, .inl (Cf 0))), (q_2, .inl (tc 0, x1.toNatClampNeg, .inl (fun _ => 0)))] := hD₀
    replace hS := hS₀
    clear hP₀ hD₀ hS₀
    refine lv_astore_n (lv' := [(2, .ref q_2), (0, .ref (Ca 0)), (1, .int x1)]) hx hb dJ7_copyOf_59c91_17 rfl hl (by decide) rfl (fun ls hl₀ => ?_)
    replace hl := hl₀
    clear hl₀
    refine lv_aload_n hx hb dJ7_copyOf_59c91_18 rfl (lv_at hl 1 rfl) ?_
    refine lv_iconst (v := 0) hx hb dJ7_copyOf_59c91_19 (by decide) ?_
    refine lv_aload_n hx hb dJ7_copyOf_59c91_20 rfl (lv_at hl 0 rfl) ?_
    refine lv_iconst (v := 0) hx hb dJ7_copyOf_59c91_21 (by decide) ?_
    refine lv_aload_n hx hb dJ7_copyOf_59c91_22 rfl (lv_at hl 1 rfl) ?_
    refine va_alen hx hb hK hP 0 0 rfl rfl (v := 400) rfl dJ7_copyOf_59c91_23 ?_
    refine lv_iload_n hx hb dJ7_copyOf_59c91_24 rfl (lv_at hl 2 rfl) ?_
    refine va_mmin hx hb (hml.trans hl.1.symm) hown (hts _ k_679) (hts _ k_680) (hts _ k_114) (hts _ k_681) (Nat.le_of_ble_eq_true rfl) (Nat.le_of_ble_eq_true rfl) (Nat.le_of_ble_eq_true rfl) hn4 dJ7_copyOf_59c91_25 ?_
    refine lv_topi (fun x_3 ex_3 => ?_)
    have mx_3 := imin_f ex_3
    rw [show (400 : Int32).toInt = 400 by decide] at mx_3
    have hn_5 : 0 ≤ x_3.toInt := by omega
    refine cp_int hx hb (hml.trans hl.1.symm) hown (hts _ k_682) (hts _ k_602) (hts _ k_601) (hts _ k_111) hK hP hD hS 0 1 0 0 rfl rfl rfl rfl (by decide) (by decide) (nneg hn_5) (cp4 (by omega)) (cpB (by omega)) (Nat.le_of_ble_eq_true rfl) (Nat.le_of_ble_eq_true rfl) dJ7_copyOf_59c91_28 (fun g_4 H locs eg_4 hP₀ hD₀ hS₀ => ?_)
    replace hP : va_P D classes [((Ca 0), .inl (tc 0, 400, .inl (Cf 0))), (q_2, .inl (tc 0, x1.toNatClampNeg, .inl g_4))] H := hP₀
    replace hD : va_D A [((Ca 0), .inl (tc 0, 400, .inl (Cf 0))), (q_2, .inl (tc 0, x1.toNatClampNeg, .inl g_4))] := hD₀
    replace hS := hS₀
    clear hP₀ hD₀ hS₀
    refine lv_aload_n hx hb dJ7_copyOf_59c91_31 rfl (lv_at hl 0 rfl) ?_
    have ha_6 : x1.toNatClampNeg ≤ 400 := by
      have z_1 : ¬ (x1 : Int32).toInt = (400 : Int32).toInt := fun z => c_1 (Int32.toInt_inj.mp z)
      have y_400 : (400 : Int32).toInt = 400 := by decide
      omega
    have hr_7 : 0 ≤ x1.toInt ∧ x1.toInt ≤ 400 := by
      have z_1 : ¬ (x1 : Int32).toInt = (400 : Int32).toInt := fun z => c_1 (Int32.toInt_inj.mp z)
      have y_400 : (400 : Int32).toInt = 400 := by decide
      omega
    have hr_8 : (x_3 : Int32).toInt = x1.toInt := by
      have z_1 : ¬ (x1 : Int32).toInt = (400 : Int32).toInt := fun z => c_1 (Int32.toInt_inj.mp z)
      have y_400 : (400 : Int32).toInt = 400 := by decide
      omega
    exact retA (v := .ref q_2) hx hb hr hlk (Or.inr ⟨_, rfl⟩) (Or.inr ⟨_, rfl⟩) hP hD hS (q_2, g_4, x1.toNatClampNeg) ⟨rfl, ha_6, (CpO.part eg_4 hr_7 hr_8)⟩ [0, 1] rfl rfl dJ7_copyOf_59c91_32 (Nat.le_of_ble_eq_true rfl) hn4 rfl
  · skip
    refine lv_aload_n hx hb dJ7_copyOf_59c91_6 rfl (lv_at hl 0 rfl) ?_
    refine va_clone hx hb (hml.trans hl.1.symm) hown (hts _ k_672) (hts _ k_673) (hts _ k_674) (hts _ k_675) (hts _ k_676) hX.2.2.2.2.2.2 hK hP hD hS hA 0 0 rfl rfl (va_nm_int (hK.2 0 _ rfl).2) (fun i v hv => va_fit (cA := tc 0) (n := 400) (F := fun j => .int ((Cf 0) j)) (ty := .int) (fun i _ => rfl) i v hv) (Nat.le_of_ble_eq_true rfl) (Nat.le_of_ble_eq_true rfl) (Nat.le_of_ble_eq_true rfl) (Nat.le_of_ble_eq_true rfl) dJ7_copyOf_59c91_7 (fun q_9 H _ hP₀ hD₀ hS₀ => ?_)
    replace hP : va_P D classes [((Ca 0), .inl (tc 0, 400, .inl (Cf 0))), (q_9, .inl (tc 0, 400, .inl (Cf 0)))] H := hP₀
    replace hD : va_D A [((Ca 0), .inl (tc 0, 400, .inl (Cf 0))), (q_9, .inl (tc 0, 400, .inl (Cf 0)))] := hD₀
    replace hS := hS₀
    clear hP₀ hD₀ hS₀
    refine va_castA hx hb hown (hts _ k_678) hP 1 rfl (va_nm_int (hK.2 0 _ rfl).2) dJ7_copyOf_59c91_10 ?_
    have ha_10 : 400 ≤ 400 := by
      have z_1 := congrArg Int32.toInt c_1
      have y_400 : (400 : Int32).toInt = 400 := by decide
      omega
    have hr_11 : x1.toInt = 400 := by
      have z_1 := congrArg Int32.toInt c_1
      have y_400 : (400 : Int32).toInt = 400 := by decide
      omega
    exact retA (v := .ref q_9) hx hb hr hlk (Or.inr ⟨_, rfl⟩) (Or.inr ⟨_, rfl⟩) hP hD hS (q_9, (Cf 0), 400) ⟨rfl, ha_10, (CpO.all hr_11)⟩ [0, 1] rfl rfl dJ7_copyOf_59c91_13 (Nat.le_of_ble_eq_true rfl) (Nat.le_of_ble_eq_true rfl) rfl
set_option maxRecDepth 100000 in
theorem cu_kJ7_copyOf (l : Launch) (D : va_G) (tc : Nat → ClassId) (sk : (Nat → Nat) × (Nat → Nat)) (Ca_0 : Nat) (Cf_0 : Nat → Int32) (x1 : Int32) (h_x : 0 ≤ x1.toInt ∧ x1.toInt ≤ 400) : Ct l yJ7_copyOf_59c91 cJ7_copyOf_59c91 3 (some (.array .int)) { frames := 1, cells := 1, slots := 400, locals := 40 } D tc sk [.ref Ca_0, .int x1] [(Ca_0, .inl (tc 0, 400, .inl Cf_0))] (fun (v : Option Value) (u : (Nat) × (Nat → Int32) × (Nat)) => match u with | (na0x0, oo0x1, nn0x1) => v = some (.ref na0x0) ∧ (nn0x1 ≤ 400) ∧ (CpO Cf_0 oo0x1 nn0x1 x1)) (fun (u : (Nat) × (Nat → Int32) × (Nat)) => match u with | (na0x0, oo0x1, nn0x1) => [(Ca_0, .inl (tc 0, 400, .inl Cf_0)), (na0x0, .inl (tc 0, nn0x1, .inl oo0x1))]) 1 400 :=
  ct_kJ7_copyOf l D tc sk (fun k => ([Ca_0] : List (Nat)).getD k 0) (fun k => ([Cf_0] : List (Nat → Int32)).getD k (fun _ => 0)) x1 h_x
set_option maxHeartbeats 4000000 in
set_option maxRecDepth 100000 in
theorem ct_kX7_read (l : Launch) (D : va_G) (tc : Nat → ClassId) (sk : (Nat → Nat) × (Nat → Nat)) (Va : Nat → Nat) (Vv : Nat → Int32) (Vf : Nat → Nat → Int32) (Ta : Nat → Nat) (Tv : Nat → Int32) (Tf : Nat → Nat → Int32) (h_tape : 0 ≤ ((Tv 0) : Int32).toInt ∧ ((Tv 0) : Int32).toInt ≤ 400 ∧ 0 ≤ ((Tv 1) : Int32).toInt ∧ ((Tv 1) : Int32).toInt ≤ 400 ∧ 0 ≤ ((Tv 2) : Int32).toInt ∧ ((Tv 2) : Int32).toInt ≤ 400) (h_by : Byt (Tf 1)) : Ct l yX7_read cX7_read 3 (some (.object "PoisonBook$Rule")) { frames := 30, cells := 3, slots := 466, locals := 719 } D tc sk [.ref (Va 0), .ref (Ta 0)] [((Va 0), .inr (7, [.ref (Va 1), .int (Vv 0), .int (Vv 1)])), ((Va 1), .inl (tc 0, 400, .inl (Vf 1))), ((Ta 0), .inr (10, [.ref (Ta 1), .int (Tv 0), .int (Tv 1), .int (Tv 2), .int (Tv 3), .int (Tv 4)])), ((Ta 1), .inl (tc 0, 400, .inl (Tf 1)))] (fun (v : Option Value) (u : (Bool) × (Nat) × (Nat) × (Nat) × (Int32) × (Int32) × (Nat → Int32) × (Int32) × (Int32) × (Int32) × (Int32) × (Nat → Int32) × (Nat) × (Int32) × (Int32) × (Nat → Int32) × (Int32) × (Int32) × (Int32) × (Int32)) => match u with | (true, na0x0, na0x1, na0x2, oo0x1, oo0x2, oo0x3, oo0x4, oo0x5, oo0x6, oo0x7, oo0x8, nn0x5, oo1x1, oo1x2, oo1x3, oo1x4, oo1x5, oo1x6, oo1x7) => v = some (.ref na0x0) ∧ (0 ≤ ((Tv 0) : Int32).toInt ∧ ((Tv 0) : Int32).toInt ≤ 400 ∧ 0 ≤ (oo0x4 : Int32).toInt ∧ (oo0x4 : Int32).toInt ≤ 400 ∧ 0 ≤ (oo0x5 : Int32).toInt ∧ (oo0x5 : Int32).toInt ≤ 400) ∧ (0 ≤ (oo0x1 : Int32).toInt ∧ (oo0x1 : Int32).toInt ≤ 400) ∧ (RuK (cB (Tf 1) (Tv 0))) ∧ (nn0x5 ≤ 400) ∧ (RuC (cB (Tf 1) (Tv 0)) nn0x5 oo0x8) | (false, na0x0, na0x1, na0x2, oo0x1, oo0x2, oo0x3, oo0x4, oo0x5, oo0x6, oo0x7, oo0x8, nn0x5, oo1x1, oo1x2, oo1x3, oo1x4, oo1x5, oo1x6, oo1x7) => v = some (.null) ∧ (0 ≤ ((Tv 0) : Int32).toInt ∧ ((Tv 0) : Int32).toInt ≤ 400 ∧ 0 ≤ (oo1x4 : Int32).toInt ∧ (oo1x4 : Int32).toInt ≤ 400 ∧ 0 ≤ (oo1x5 : Int32).toInt ∧ (oo1x5 : Int32).toInt ≤ 400) ∧ (0 ≤ (oo1x1 : Int32).toInt ∧ (oo1x1 : Int32).toInt ≤ 400) ∧ (RuF (cB (Tf 1) (Tv 0)) oo1x7)) (fun (u : (Bool) × (Nat) × (Nat) × (Nat) × (Int32) × (Int32) × (Nat → Int32) × (Int32) × (Int32) × (Int32) × (Int32) × (Nat → Int32) × (Nat) × (Int32) × (Int32) × (Nat → Int32) × (Int32) × (Int32) × (Int32) × (Int32)) => match u with | (true, na0x0, na0x1, na0x2, oo0x1, oo0x2, oo0x3, oo0x4, oo0x5, oo0x6, oo0x7, oo0x8, nn0x5, oo1x1, oo1x2, oo1x3, oo1x4, oo1x5, oo1x6, oo1x7) => [((Va 0), .inr (7, [.ref (Va 1), .int oo0x1, .int oo0x2])), ((Va 1), .inl (tc 0, 400, .inl oo0x3)), ((Ta 0), .inr (10, [.ref (Ta 1), .int (Tv 0), .int oo0x4, .int oo0x5, .int oo0x6, .int oo0x7])), ((Ta 1), .inl (tc 0, 400, .inl (Tf 1))), (na0x0, .inr (6, [.ref na0x1, .ref na0x2])), (na0x1, .inl (tc 0, nn0x5, .inl oo0x8)), (na0x2, .inl (tc 1, 64, .inr (.inl (fun _ => 0))))] | (false, na0x0, na0x1, na0x2, oo0x1, oo0x2, oo0x3, oo0x4, oo0x5, oo0x6, oo0x7, oo0x8, nn0x5, oo1x1, oo1x2, oo1x3, oo1x4, oo1x5, oo1x6, oo1x7) => [((Va 0), .inr (7, [.ref (Va 1), .int oo1x1, .int oo1x2])), ((Va 1), .inl (tc 0, 400, .inl oo1x3)), ((Ta 0), .inr (10, [.ref (Ta 1), .int (Tv 0), .int oo1x4, .int oo1x5, .int oo1x6, .int oo1x7])), ((Ta 1), .inl (tc 0, 400, .inl (Tf 1)))]) 3 466 := by
  refine Ct.start (by decide) (Nat.le_of_ble_eq_true rfl) (fun p e s m below meth c A ls hx hb hr hlk hin hml hown hts hK hX hP hD hA hl hS => ?_)
  have hl : lv_has ls 3 [(0, .ref (Va 0)), (1, .ref (Ta 0))] := hl
  refine lv_aload_n hx hb dX7_read_0 rfl (lv_at hl 0 rfl) ?_
  refine lv_iconst (v := 0) hx hb dX7_read_1 (by decide) ?_
  refine pf_X7_15 hx hb hts hown hK hP hD hS 0 rfl (Nat.le_of_ble_eq_true rfl) rfl rfl dX7_read_2 (fun H locs hP₀ hD₀ hS₀ => ?_)
  replace hP : va_P D classes [((Va 0), .inr (7, [.ref (Va 1), .int 0, .int (Vv 1)])), ((Va 1), .inl (tc 0, 400, .inl (Vf 1))), ((Ta 0), .inr (10, [.ref (Ta 1), .int (Tv 0), .int (Tv 1), .int (Tv 2), .int (Tv 3), .int (Tv 4)])), ((Ta 1), .inl (tc 0, 400, .inl (Tf 1)))] H := hP₀
  replace hD : va_D A [((Va 0), .inr (7, [.ref (Va 1), .int 0, .int (Vv 1)])), ((Va 1), .inl (tc 0, 400, .inl (Vf 1))), ((Ta 0), .inr (10, [.ref (Ta 1), .int (Tv 0), .int (Tv 1), .int (Tv 2), .int (Tv 3), .int (Tv 4)])), ((Ta 1), .inl (tc 0, 400, .inl (Tf 1)))] := hD₀
  replace hS := hS₀
  clear hP₀ hD₀ hS₀
  refine lv_aload_n hx hb dX7_read_5 rfl (lv_at hl 0 rfl) ?_
  refine lv_iconst (v := 0) hx hb dX7_read_6 (by decide) ?_
  refine pf_X7_19 hx hb hts hown hK hP hD hS 0 rfl (Nat.le_of_ble_eq_true rfl) rfl rfl dX7_read_7 (fun H locs hP₀ hD₀ hS₀ => ?_)
  replace hP : va_P D classes [((Va 0), .inr (7, [.ref (Va 1), .int 0, .int 0])), ((Va 1), .inl (tc 0, 400, .inl (Vf 1))), ((Ta 0), .inr (10, [.ref (Ta 1), .int (Tv 0), .int (Tv 1), .int (Tv 2), .int (Tv 3), .int (Tv 4)])), ((Ta 1), .inl (tc 0, 400, .inl (Tf 1)))] H := hP₀
  replace hD : va_D A [((Va 0), .inr (7, [.ref (Va 1), .int 0, .int 0])), ((Va 1), .inl (tc 0, 400, .inl (Vf 1))), ((Ta 0), .inr (10, [.ref (Ta 1), .int (Tv 0), .int (Tv 1), .int (Tv 2), .int (Tv 3), .int (Tv 4)])), ((Ta 1), .inl (tc 0, 400, .inl (Tf 1)))] := hD₀
  replace hS := hS₀
  clear hP₀ hD₀ hS₀
  refine lv_aload_n hx hb dX7_read_10 rfl (lv_at hl 1 rfl) ?_
  refine cV (a := (Ta 0)) (As := []) (rest := []) (wr := [((Va 0), .inr (7, [.ref (Va 1), .int 0, .int 0])), ((Va 1), .inl (tc 0, 400, .inl (Vf 1)))]) ⟨hx, hb, hml, hown, hts⟩ hK hX hA (cu_fX10_begin l D tc sk (Ta 0) (Ta 1) (Tv 0) (Tv 1) (Tv 2) (Tv 3) (Tv 4) (Tf 1) h_tape h_by) k_474 k_612 k_472 k_473 k_96 pl_X10_begin ⟨Nat.le_of_ble_eq_true rfl, Nat.le_of_ble_eq_true rfl⟩ rfl rfl (va_recv hK hP (ci := 10) (q0 := 2) rfl rfl) hP hD hS [2, 3] [0, 1] rfl rfl rfl rfl rfl (by decide) rfl hl.1 rfl (Nat.le_of_ble_eq_true rfl) dX7_read_11 ⟨Nat.le_of_ble_eq_true rfl, Nat.le_of_ble_eq_true rfl⟩ (fun v_1 u_2 H locs hv_3 hP₀ hD₀ hS₀ => ?_)
  obtain ⟨sv_4, sv_5, sv_6⟩ := u_2
  obtain ⟨rfl, pf_7, pf_8⟩ := hv_3
  have pf_7 : 0 ≤ ((Tv 0) : Int32).toInt ∧ ((Tv 0) : Int32).toInt ≤ 400 ∧ 0 ≤ (sv_4 : Int32).toInt ∧ (sv_4 : Int32).toInt ≤ 400 ∧ 0 ≤ (sv_5 : Int32).toInt ∧ (sv_5 : Int32).toInt ≤ 400 := pf_7
  have pf_8 : TpR (Tf 1) (Tv 0) (rSK (cB (Tf 1) (Tv 0)) (.ok (0, 0))) sv_4 sv_5 sv_6 0 := pf_8
  obtain ⟨ro_9, ero_9⟩ : ∃ z : Except Int (Nat × Nat), z = (rSK (cB (Tf 1) (Tv 0)) (.ok (0, 0))) := ⟨_, rfl⟩
  rw [← ero_9] at pf_8
  have tb_10 : TpB (rTE (cB (Tf 1) (Tv 0)) ro_9) sv_5 0 := TpR.tb pf_8
  refine W.eq (g2 := F0 m 14 ls []) rfl ?_
  replace hP : va_P D classes [((Va 0), .inr (7, [.ref (Va 1), .int 0, .int 0])), ((Va 1), .inl (tc 0, 400, .inl (Vf 1))), ((Ta 0), .inr (10, [.ref (Ta 1), .int (Tv 0), .int sv_4, .int sv_5, .int sv_6, .int 0])), ((Ta 1), .inl (tc 0, 400, .inl (Tf 1)))] H := hP₀
  replace hD : va_D A [((Va 0), .inr (7, [.ref (Va 1), .int 0, .int 0])), ((Va 1), .inl (tc 0, 400, .inl (Vf 1))), ((Ta 0), .inr (10, [.ref (Ta 1), .int (Tv 0), .int sv_4, .int sv_5, .int sv_6, .int 0])), ((Ta 1), .inl (tc 0, 400, .inl (Tf 1)))] := hD₀
  replace hS := hS₀
  clear hP₀ hD₀ hS₀
  refine lv_iconst (v := 0) hx hb dX7_read_14 (by decide) ?_
  refine lv_istore_n (lv' := [(2, .int 0), (0, .ref (Va 0)), (1, .ref (Ta 0))]) hx hb dX7_read_15 rfl hl (by decide) rfl (fun ls hl₀ => ?_)
  replace hl := hl₀
  clear hl₀
  have loop_29 : ∀ (n_27 : Nat) (vy_19 : Int32) (vy_20 : Int32) (vy_21 : Int32) (vy_22 : Nat → Int32) (vy_23 : Int32) (vy_24 : Int32) (vy_25 : Int32) (vy_26 : Int32) (H : Heap) (locs : List Loc) (ls : Array Slot), (14 - (vy_19 : Int32).toInt).toNat < n_27 → (0 ≤ (vy_19 : Int32).toInt ∧ (vy_19 : Int32).toInt ≤ 13) → (0 ≤ ((Tv 0) : Int32).toInt ∧ ((Tv 0) : Int32).toInt ≤ 400 ∧ 0 ≤ (vy_23 : Int32).toInt ∧ (vy_23 : Int32).toInt ≤ 400 ∧ 0 ≤ (vy_24 : Int32).toInt ∧ (vy_24 : Int32).toInt ≤ 400) → (0 ≤ (vy_20 : Int32).toInt ∧ (vy_20 : Int32).toInt ≤ 400) → (RcC (Tf 1) (Tv 0) vy_23 vy_24 vy_25 vy_26 vy_21 vy_19 vy_22 vy_20) → va_P D classes [((Va 0), .inr (7, [.ref (Va 1), .int vy_20, .int vy_21])), ((Va 1), .inl (tc 0, 400, .inl vy_22)), ((Ta 0), .inr (10, [.ref (Ta 1), .int (Tv 0), .int vy_23, .int vy_24, .int vy_25, .int vy_26])), ((Ta 1), .inl (tc 0, 400, .inl (Tf 1)))] H → va_D A [((Va 0), .inr (7, [.ref (Va 1), .int vy_20, .int vy_21])), ((Va 1), .inl (tc 0, 400, .inl vy_22)), ((Ta 0), .inr (10, [.ref (Ta 1), .int (Tv 0), .int vy_23, .int vy_24, .int vy_25, .int vy_26])), ((Ta 1), .inl (tc 0, 400, .inl (Tf 1)))] → va_S A s.heap H locs → lv_has ls 3 [(2, .int vy_19), (0, .ref (Va 0)), (1, .ref (Ta 0))] → W p l e ({ frames := 30, cells := 3, slots := 466, locals := 719 }) s m ([.ref (Va 0), .ref (Ta 0)].toArray) below meth c H locs 0 0 (MQ below (QW (fun (v : Option Value) (u : (Bool) × (Nat) × (Nat) × (Nat) × (Int32) × (Int32) × (Nat → Int32) × (Int32) × (Int32) × (Int32) × (Int32) × (Nat → Int32) × (Nat) × (Int32) × (Int32) × (Nat → Int32) × (Int32) × (Int32) × (Int32) × (Int32)) => match u with | (true, na0x0, na0x1, na0x2, oo0x1, oo0x2, oo0x3, oo0x4, oo0x5, oo0x6, oo0x7, oo0x8, nn0x5, oo1x1, oo1x2, oo1x3, oo1x4, oo1x5, oo1x6, oo1x7) => v = some (.ref na0x0) ∧ (0 ≤ ((Tv 0) : Int32).toInt ∧ ((Tv 0) : Int32).toInt ≤ 400 ∧ 0 ≤ (oo0x4 : Int32).toInt ∧ (oo0x4 : Int32).toInt ≤ 400 ∧ 0 ≤ (oo0x5 : Int32).toInt ∧ (oo0x5 : Int32).toInt ≤ 400) ∧ (0 ≤ (oo0x1 : Int32).toInt ∧ (oo0x1 : Int32).toInt ≤ 400) ∧ (RuK (cB (Tf 1) (Tv 0))) ∧ (nn0x5 ≤ 400) ∧ (RuC (cB (Tf 1) (Tv 0)) nn0x5 oo0x8) | (false, na0x0, na0x1, na0x2, oo0x1, oo0x2, oo0x3, oo0x4, oo0x5, oo0x6, oo0x7, oo0x8, nn0x5, oo1x1, oo1x2, oo1x3, oo1x4, oo1x5, oo1x6, oo1x7) => v = some (.null) ∧ (0 ≤ ((Tv 0) : Int32).toInt ∧ ((Tv 0) : Int32).toInt ≤ 400 ∧ 0 ≤ (oo1x4 : Int32).toInt ∧ (oo1x4 : Int32).toInt ≤ 400 ∧ 0 ≤ (oo1x5 : Int32).toInt ∧ (oo1x5 : Int32).toInt ≤ 400) ∧ (0 ≤ (oo1x1 : Int32).toInt ∧ (oo1x1 : Int32).toInt ≤ 400) ∧ (RuF (cB (Tf 1) (Tv 0)) oo1x7)) (BW D (fun (u : (Bool) × (Nat) × (Nat) × (Nat) × (Int32) × (Int32) × (Nat → Int32) × (Int32) × (Int32) × (Int32) × (Int32) × (Nat → Int32) × (Nat) × (Int32) × (Int32) × (Nat → Int32) × (Int32) × (Int32) × (Int32) × (Int32)) => match u with | (true, na0x0, na0x1, na0x2, oo0x1, oo0x2, oo0x3, oo0x4, oo0x5, oo0x6, oo0x7, oo0x8, nn0x5, oo1x1, oo1x2, oo1x3, oo1x4, oo1x5, oo1x6, oo1x7) => [((Va 0), .inr (7, [.ref (Va 1), .int oo0x1, .int oo0x2])), ((Va 1), .inl (tc 0, 400, .inl oo0x3)), ((Ta 0), .inr (10, [.ref (Ta 1), .int (Tv 0), .int oo0x4, .int oo0x5, .int oo0x6, .int oo0x7])), ((Ta 1), .inl (tc 0, 400, .inl (Tf 1))), (na0x0, .inr (6, [.ref na0x1, .ref na0x2])), (na0x1, .inl (tc 0, nn0x5, .inl oo0x8)), (na0x2, .inl (tc 1, 64, .inr (.inl (fun _ => 0))))] | (false, na0x0, na0x1, na0x2, oo0x1, oo0x2, oo0x3, oo0x4, oo0x5, oo0x6, oo0x7, oo0x8, nn0x5, oo1x1, oo1x2, oo1x3, oo1x4, oo1x5, oo1x6, oo1x7) => [((Va 0), .inr (7, [.ref (Va 1), .int oo1x1, .int oo1x2])), ((Va 1), .inl (tc 0, 400, .inl oo1x3)), ((Ta 0), .inr (10, [.ref (Ta 1), .int (Tv 0), .int oo1x4, .int oo1x5, .int oo1x6, .int oo1x7])), ((Ta 1), .inl (tc 0, 400, .inl (Tf 1)))]) A) A) ([.ref (Va 0), .ref (Ta 0)].toArray) s 3 466 A) (F0 m 16 ls []) := by
    clear hP hD hS hl
    intro n_27
    induction n_27 with
    | zero =>
      intro vy_19 vy_20 vy_21 vy_22 vy_23 vy_24 vy_25 vy_26 H locs ls h1
      exact absurd h1 (Nat.not_lt_zero _)
    | succ n_27 ih_28 =>
      intro vy_19 vy_20 vy_21 vy_22 vy_23 vy_24 vy_25 vy_26 H locs ls hn_34 pf_30 pf_31 pf_32 pf_33 hP hD hS hl
      obtain ⟨rq_35, pf_36, pf_37, pf_38, lq_39, pf_40, pf_41⟩ := id pf_33
      have tb_42 : TpB (rTE (cB (Tf 1) (Tv 0)) rq_35) vy_24 vy_26 := TpR.tb pf_36
      refine lv_iload_n hx hb dX7_read_16 rfl (lv_at hl 0 rfl) ?_
      refine lv_bipush (v := 12) hx hb dX7_read_17 (by decide) ?_
      refine lv_icmp_gt (tgt := 108) hx hb dX7_read_19 (by decide) (fun c_43 => ?_) (fun c_43 => ?_)
      · skip
        refine lv_aload_n hx hb dX7_read_108 rfl (lv_at hl 2 rfl) ?_
        refine cV (a := (Ta 0)) (As := []) (rest := []) (wr := [((Va 0), .inr (7, [.ref (Va 1), .int vy_20, .int vy_21])), ((Va 1), .inl (tc 0, 400, .inl vy_22))]) ⟨hx, hb, hml, hown, hts⟩ hK hX hA (cu_fX10_finish l D tc sk (Ta 0) (Ta 1) (Tv 0) vy_23 vy_24 vy_25 vy_26 (Tf 1) rq_35 pf_31 h_by pf_36) k_595 k_666 k_593 k_594 k_96 pl_X10_finish ⟨Nat.le_of_ble_eq_true rfl, Nat.le_of_ble_eq_true rfl⟩ rfl rfl (va_recv hK hP (ci := 10) (q0 := 2) rfl rfl) hP hD hS [2, 3] [0, 1] rfl rfl rfl rfl rfl (by decide) rfl hl.1 rfl (Nat.le_of_ble_eq_true rfl) dX7_read_109 ⟨Nat.le_of_ble_eq_true rfl, Nat.le_of_ble_eq_true rfl⟩ (fun v_44 u_45 H locs hv_46 hP₀ hD₀ hS₀ => ?_)
        obtain ⟨sv_47, sv_48⟩ := u_45
        obtain ⟨rfl, pf_49, pf_50⟩ := hv_46
        have pf_49 : 0 ≤ ((Tv 0) : Int32).toInt ∧ ((Tv 0) : Int32).toInt ≤ 400 ∧ 0 ≤ (vy_23 : Int32).toInt ∧ (vy_23 : Int32).toInt ≤ 400 ∧ 0 ≤ (vy_24 : Int32).toInt ∧ (vy_24 : Int32).toInt ≤ 400 := pf_49
        have pf_50 : TpR (Tf 1) (Tv 0) (rEN (cB (Tf 1) (Tv 0)) rq_35) vy_23 vy_24 sv_47 sv_48 := pf_50
        obtain ⟨ro_51, ero_51⟩ : ∃ z : Except Int (Nat × Nat), z = (rEN (cB (Tf 1) (Tv 0)) rq_35) := ⟨_, rfl⟩
        rw [← ero_51] at pf_50
        have tb_52 : TpB (rTE (cB (Tf 1) (Tv 0)) ro_51) vy_24 sv_48 := TpR.tb pf_50
        have ck_53 : CdK vy_22 vy_20 ro_51 lq_39 := by rw [ero_51]; exact (CdK.en pf_40)
        refine W.eq (g2 := F0 m 112 ls []) rfl ?_
        replace hP : va_P D classes [((Va 0), .inr (7, [.ref (Va 1), .int vy_20, .int vy_21])), ((Va 1), .inl (tc 0, 400, .inl vy_22)), ((Ta 0), .inr (10, [.ref (Ta 1), .int (Tv 0), .int vy_23, .int vy_24, .int sv_47, .int sv_48])), ((Ta 1), .inl (tc 0, 400, .inl (Tf 1)))] H := hP₀
        replace hD : va_D A [((Va 0), .inr (7, [.ref (Va 1), .int vy_20, .int vy_21])), ((Va 1), .inl (tc 0, 400, .inl vy_22)), ((Ta 0), .inr (10, [.ref (Ta 1), .int (Tv 0), .int vy_23, .int vy_24, .int sv_47, .int sv_48])), ((Ta 1), .inl (tc 0, 400, .inl (Tf 1)))] := hD₀
        replace hS := hS₀
        clear hP₀ hD₀ hS₀
        refine lv_aload_n hx hb dX7_read_112 rfl (lv_at hl 2 rfl) ?_
        refine gf_X7_65 hx hb hts hown hK hP 2 rfl rfl dX7_read_113 ?_
        refine lv_if_ne (tgt := 138) hx hb dX7_read_116 (by decide) (fun c_54 => ?_) (fun c_54 => ?_)
        · skip
          refine lv_null hx hb dX7_read_138 ?_
          have hu_55 : TpR (Tf 1) (Tv 0) (rEN (cB (Tf 1) (Tv 0)) rq_35) vy_23 vy_24 sv_47 sv_48 := by
            rw [← ero_51]
            exact pf_50
          have hr_56 : 12 < (vy_19 : Int32).toInt := by
            have z_1 := Int32.lt_iff_toInt_lt.mp c_43
            have z_2 : ¬ (sv_48 : Int32).toInt = (0 : Int32).toInt := fun z => c_54 (Int32.toInt_inj.mp z)
            have y_0 : (0 : Int32).toInt = 0 := by decide
            have y_12 : (12 : Int32).toInt = 12 := by decide
            omega
          have hr_57 : ¬ (vy_19 : Int32).toInt = 0 := by
            have z_1 := Int32.lt_iff_toInt_lt.mp c_43
            have z_2 : ¬ (sv_48 : Int32).toInt = (0 : Int32).toInt := fun z => c_54 (Int32.toInt_inj.mp z)
            have y_0 : (0 : Int32).toInt = 0 := by decide
            have y_12 : (12 : Int32).toInt = 12 := by decide
            omega
          have hr_58 : ¬ (sv_48 : Int32).toInt = 0 := by
            have z_1 := Int32.lt_iff_toInt_lt.mp c_43
            have z_2 : ¬ (sv_48 : Int32).toInt = (0 : Int32).toInt := fun z => c_54 (Int32.toInt_inj.mp z)
            have y_0 : (0 : Int32).toInt = 0 := by decide
            have y_12 : (12 : Int32).toInt = 12 := by decide
            omega
          exact retA (v := .null) hx hb hr hlk (Or.inl ⟨_, rfl⟩) (Or.inl rfl) hP hD hS (false, 0, 0, 0, 0, 0, (fun _ => 0), 0, 0, 0, 0, (fun _ => 0), 0, vy_20, vy_21, vy_22, vy_23, vy_24, sv_47, sv_48) ⟨rfl, pf_49, pf_32, (RuF.of (RcL.fin pf_38 hr_57 (Or.inl hr_56)) hu_55 hr_58)⟩ [0, 1, 2, 3] rfl rfl dX7_read_139 (Nat.le_of_ble_eq_true rfl) (Nat.le_of_ble_eq_true rfl) rfl
        · skip
          refine lv_aload_n hx hb dX7_read_119 rfl (lv_at hl 1 rfl) ?_
          refine gf_X7_15 hx hb hts hown hK hP 0 rfl rfl dX7_read_120 ?_
          refine lv_if_lt (tgt := 138) hx hb dX7_read_123 (by decide) (fun c_59 => ?_) (fun c_59 => ?_)
          · skip
            refine lv_null hx hb dX7_read_138 ?_
            have hu_60 : TpR (Tf 1) (Tv 0) (rEN (cB (Tf 1) (Tv 0)) rq_35) vy_23 vy_24 sv_47 sv_48 := by
              rw [← ero_51]
              exact pf_50
            have hr_61 : 12 < (vy_19 : Int32).toInt := by
              have z_1 := Int32.lt_iff_toInt_lt.mp c_43
              have z_2 := congrArg Int32.toInt c_54
              have z_3 := Int32.lt_iff_toInt_lt.mp c_59
              have y_0 : (0 : Int32).toInt = 0 := by decide
              have y_12 : (12 : Int32).toInt = 12 := by decide
              omega
            have hr_62 : ¬ (vy_19 : Int32).toInt = 0 := by
              have z_1 := Int32.lt_iff_toInt_lt.mp c_43
              have z_2 := congrArg Int32.toInt c_54
              have z_3 := Int32.lt_iff_toInt_lt.mp c_59
              have y_0 : (0 : Int32).toInt = 0 := by decide
              have y_12 : (12 : Int32).toInt = 12 := by decide
              omega
            have hr_63 : ¬ (sv_48 : Int32).toInt = 0 := by
              have z_1 := Int32.lt_iff_toInt_lt.mp c_43
              have z_2 := congrArg Int32.toInt c_54
              have z_3 := Int32.lt_iff_toInt_lt.mp c_59
              have y_0 : (0 : Int32).toInt = 0 := by decide
              have y_12 : (12 : Int32).toInt = 12 := by decide
              omega
            exact retA (v := .null) hx hb hr hlk (Or.inl ⟨_, rfl⟩) (Or.inl rfl) hP hD hS (false, 0, 0, 0, 0, 0, (fun _ => 0), 0, 0, 0, 0, (fun _ => 0), 0, vy_20, vy_21, vy_22, vy_23, vy_24, sv_47, sv_48) ⟨rfl, pf_49, pf_32, (RuF.of (RcL.fin pf_38 hr_62 (Or.inl hr_61)) hu_60 hr_63)⟩ [0, 1, 2, 3] rfl rfl dX7_read_139 (Nat.le_of_ble_eq_true rfl) (Nat.le_of_ble_eq_true rfl) rfl
          · skip
            refine lv_aload_n hx hb dX7_read_126 rfl (lv_at hl 1 rfl) ?_
            refine gf_X7_15 hx hb hts hown hK hP 0 rfl rfl dX7_read_127 ?_
            refine lv_aload_n hx hb dX7_read_130 rfl (lv_at hl 1 rfl) ?_
            refine gf_X7_9 hx hb hts hown hK hP 0 rfl rfl dX7_read_131 ?_
            refine va_alen hx hb hK hP 1 0 rfl rfl (v := 400) rfl dX7_read_134 ?_
            refine lv_icmp_le (tgt := 140) hx hb dX7_read_135 (by decide) (fun c_64 => ?_) (fun c_64 => ?_)
            · skip
              refine va_new (ci := 6) (fs := [.null, .null]) (C := RX6) (T := TX6) (N := 2) hx hb hts iX6 tyX6 tyX6_ok hown (hts _ k_667) (hts _ k_668) (hts _ k_112) hK hP hD hS hA rfl dfX6 (Nat.le_of_ble_eq_true rfl) (Nat.le_of_ble_eq_true rfl) dX7_read_140 (fun q_65 H hP₀ hD₀ hS₀ => ?_)
              replace hP : va_P D classes [((Va 0), .inr (7, [.ref (Va 1), .int vy_20, .int vy_21])), ((Va 1), .inl (tc 0, 400, .inl vy_22)), ((Ta 0), .inr (10, [.ref (Ta 1), .int (Tv 0), .int vy_23, .int vy_24, .int sv_47, .int sv_48])), ((Ta 1), .inl (tc 0, 400, .inl (Tf 1))), (q_65, .inr (6, [.null, .null]))] H := hP₀
              replace hD : va_D A [((Va 0), .inr (7, [.ref (Va 1), .int vy_20, .int vy_21])), ((Va 1), .inl (tc 0, 400, .inl vy_22)), ((Ta 0), .inr (10, [.ref (Ta 1), .int (Tv 0), .int vy_23, .int vy_24, .int sv_47, .int sv_48])), ((Ta 1), .inl (tc 0, 400, .inl (Tf 1))), (q_65, .inr (6, [.null, .null]))] := hD₀
              replace hS := hS₀
              clear hP₀ hD₀ hS₀
              refine lv_dup hx hb dX7_read_143 rfl ?_
              refine lv_aload_n hx hb dX7_read_144 rfl (lv_at hl 1 rfl) ?_
              refine gf_X7_9 hx hb hts hown hK hP 0 rfl rfl dX7_read_145 ?_
              refine lv_aload_n hx hb dX7_read_148 rfl (lv_at hl 1 rfl) ?_
              refine gf_X7_15 hx hb hts hown hK hP 0 rfl rfl dX7_read_149 ?_
              have ha_66 : 0 ≤ vy_20.toInt ∧ vy_20.toInt ≤ 400 := by
                have z_1 := Int32.lt_iff_toInt_lt.mp c_43
                have z_2 := congrArg Int32.toInt c_54
                have z_3 := Int32.le_iff_toInt_le.mp (Int32.not_lt.mp c_59)
                have z_4 := Int32.le_iff_toInt_le.mp c_64
                have y_0 : (0 : Int32).toInt = 0 := by decide
                have y_12 : (12 : Int32).toInt = 12 := by decide
                have y_400 : (400 : Int32).toInt = 400 := by decide
                omega
              refine cS (As := [.ref (Va 1), .int vy_20]) (rest := [.ref q_65, .ref q_65]) (wr := [((Va 0), .inr (7, [.ref (Va 1), .int vy_20, .int vy_21])), ((Ta 0), .inr (10, [.ref (Ta 1), .int (Tv 0), .int vy_23, .int vy_24, .int sv_47, .int sv_48])), ((Ta 1), .inl (tc 0, 400, .inl (Tf 1))), (q_65, .inr (6, [.null, .null]))]) ⟨hx, hb, hml, hown, hts⟩ hK hX hA (cu_kJ7_copyOf l D tc sk (Va 1) vy_22 vy_20 ha_66) k_671 k_669 k_670 k_113 pl_J7_copyOf_59c91 ⟨Nat.le_of_ble_eq_true rfl, Nat.le_of_ble_eq_true rfl⟩ rfl rfl  hP hD hS [1] [0, 2, 3, 4] rfl rfl rfl rfl rfl (by decide) rfl hl.1 rfl (Nat.le_of_ble_eq_true rfl) dX7_read_152 ⟨Nat.le_of_ble_eq_true rfl, Nat.le_of_ble_eq_true rfl⟩ (fun v_67 u_68 H locs hv_69 hP₀ hD₀ hS₀ => ?_)
              obtain ⟨sv_70, sv_71, sv_72⟩ := u_68
              obtain ⟨rfl, pf_73, pf_74⟩ := hv_69
              have pf_73 : sv_72 ≤ 400 := pf_73
              have pf_74 : CpO vy_22 sv_71 sv_72 vy_20 := pf_74
              refine W.eq (g2 := F0 m 155 ls [.ref sv_70, .ref q_65, .ref q_65]) rfl ?_
              replace hP : va_P D classes [((Va 0), .inr (7, [.ref (Va 1), .int vy_20, .int vy_21])), ((Ta 0), .inr (10, [.ref (Ta 1), .int (Tv 0), .int vy_23, .int vy_24, .int sv_47, .int sv_48])), ((Ta 1), .inl (tc 0, 400, .inl (Tf 1))), (q_65, .inr (6, [.null, .null])), ((Va 1), .inl (tc 0, 400, .inl vy_22)), (sv_70, .inl (tc 0, sv_72, .inl sv_71))] H := hP₀
              replace hD : va_D A [((Va 0), .inr (7, [.ref (Va 1), .int vy_20, .int vy_21])), ((Ta 0), .inr (10, [.ref (Ta 1), .int (Tv 0), .int vy_23, .int vy_24, .int sv_47, .int sv_48])), ((Ta 1), .inl (tc 0, 400, .inl (Tf 1))), (q_65, .inr (6, [.null, .null])), ((Va 1), .inl (tc 0, 400, .inl vy_22)), (sv_70, .inl (tc 0, sv_72, .inl sv_71))] := hD₀
              replace hS := hS₀
              clear hP₀ hD₀ hS₀
              refine cI (a := q_65) (As := [.ref sv_70]) (rest := [.ref q_65]) (wr := [((Va 0), .inr (7, [.ref (Va 1), .int vy_20, .int vy_21])), ((Ta 0), .inr (10, [.ref (Ta 1), .int (Tv 0), .int vy_23, .int vy_24, .int sv_47, .int sv_48])), ((Ta 1), .inl (tc 0, 400, .inl (Tf 1))), ((Va 1), .inl (tc 0, 400, .inl vy_22)), (sv_70, .inl (tc 0, sv_72, .inl sv_71))]) ⟨hx, hb, hml, hown, hts⟩ hK hX hA (ct_X6_init l D tc sk q_65 sv_70) k_685 k_683 k_684 k_112 rfl pl_X6_init ⟨Nat.le_of_ble_eq_true rfl, Nat.le_of_ble_eq_true rfl⟩ rfl rfl  hP hD hS [3] [0, 1, 2, 4, 5] rfl rfl rfl rfl rfl (by decide) rfl hl.1 rfl (Nat.le_of_ble_eq_true rfl) dX7_read_155 ⟨Nat.le_of_ble_eq_true rfl, Nat.le_of_ble_eq_true rfl⟩ (fun v_75 u_76 H locs hv_77 hP₀ hD₀ hS₀ => ?_)
              obtain ⟨sv_78, rfl⟩ : ∃ z, z = u_76 := ⟨_, rfl⟩
              obtain rfl : v_75 = none := hv_77
              refine W.eq (g2 := F0 m 158 ls [.ref q_65]) rfl ?_
              replace hP : va_P D classes [((Va 0), .inr (7, [.ref (Va 1), .int vy_20, .int vy_21])), ((Ta 0), .inr (10, [.ref (Ta 1), .int (Tv 0), .int vy_23, .int vy_24, .int sv_47, .int sv_48])), ((Ta 1), .inl (tc 0, 400, .inl (Tf 1))), ((Va 1), .inl (tc 0, 400, .inl vy_22)), (sv_70, .inl (tc 0, sv_72, .inl sv_71)), (q_65, .inr (6, [.ref sv_70, .ref sv_78])), (sv_78, .inl (tc 1, 64, .inr (.inl (fun _ => 0))))] H := hP₀
              replace hD : va_D A [((Va 0), .inr (7, [.ref (Va 1), .int vy_20, .int vy_21])), ((Ta 0), .inr (10, [.ref (Ta 1), .int (Tv 0), .int vy_23, .int vy_24, .int sv_47, .int sv_48])), ((Ta 1), .inl (tc 0, 400, .inl (Tf 1))), ((Va 1), .inl (tc 0, 400, .inl vy_22)), (sv_70, .inl (tc 0, sv_72, .inl sv_71)), (q_65, .inr (6, [.ref sv_70, .ref sv_78])), (sv_78, .inl (tc 1, 64, .inr (.inl (fun _ => 0))))] := hD₀
              replace hS := hS₀
              clear hP₀ hD₀ hS₀
              have hu_79 : TpR (Tf 1) (Tv 0) (rEN (cB (Tf 1) (Tv 0)) rq_35) vy_23 vy_24 sv_47 sv_48 := by
                rw [← ero_51]
                exact pf_50
              have hr_80 : 12 < (vy_19 : Int32).toInt := by
                have z_1 := Int32.lt_iff_toInt_lt.mp c_43
                have z_2 := congrArg Int32.toInt c_54
                have z_3 := Int32.le_iff_toInt_le.mp (Int32.not_lt.mp c_59)
                have z_4 := Int32.le_iff_toInt_le.mp c_64
                have y_0 : (0 : Int32).toInt = 0 := by decide
                have y_12 : (12 : Int32).toInt = 12 := by decide
                have y_400 : (400 : Int32).toInt = 400 := by decide
                omega
              have hr_81 : ¬ (vy_19 : Int32).toInt = 0 := by
                have z_1 := Int32.lt_iff_toInt_lt.mp c_43
                have z_2 := congrArg Int32.toInt c_54
                have z_3 := Int32.le_iff_toInt_le.mp (Int32.not_lt.mp c_59)
                have z_4 := Int32.le_iff_toInt_le.mp c_64
                have y_0 : (0 : Int32).toInt = 0 := by decide
                have y_12 : (12 : Int32).toInt = 12 := by decide
                have y_400 : (400 : Int32).toInt = 400 := by decide
                omega
              have hr_82 : (sv_48 : Int32).toInt = 0 := by
                have z_1 := Int32.lt_iff_toInt_lt.mp c_43
                have z_2 := congrArg Int32.toInt c_54
                have z_3 := Int32.le_iff_toInt_le.mp (Int32.not_lt.mp c_59)
                have z_4 := Int32.le_iff_toInt_le.mp c_64
                have y_0 : (0 : Int32).toInt = 0 := by decide
                have y_12 : (12 : Int32).toInt = 12 := by decide
                have y_400 : (400 : Int32).toInt = 400 := by decide
                omega
              have hu_83 : TpR (Tf 1) (Tv 0) (rEN (cB (Tf 1) (Tv 0)) rq_35) vy_23 vy_24 sv_47 sv_48 := by
                rw [← ero_51]
                exact pf_50
              have hr_84 : 12 < (vy_19 : Int32).toInt := by
                have z_1 := Int32.lt_iff_toInt_lt.mp c_43
                have z_2 := congrArg Int32.toInt c_54
                have z_3 := Int32.le_iff_toInt_le.mp (Int32.not_lt.mp c_59)
                have z_4 := Int32.le_iff_toInt_le.mp c_64
                have y_0 : (0 : Int32).toInt = 0 := by decide
                have y_12 : (12 : Int32).toInt = 12 := by decide
                have y_400 : (400 : Int32).toInt = 400 := by decide
                omega
              have hr_85 : ¬ (vy_19 : Int32).toInt = 0 := by
                have z_1 := Int32.lt_iff_toInt_lt.mp c_43
                have z_2 := congrArg Int32.toInt c_54
                have z_3 := Int32.le_iff_toInt_le.mp (Int32.not_lt.mp c_59)
                have z_4 := Int32.le_iff_toInt_le.mp c_64
                have y_0 : (0 : Int32).toInt = 0 := by decide
                have y_12 : (12 : Int32).toInt = 12 := by decide
                have y_400 : (400 : Int32).toInt = 400 := by decide
                omega
              have hr_86 : (sv_48 : Int32).toInt = 0 := by
                have z_1 := Int32.lt_iff_toInt_lt.mp c_43
                have z_2 := congrArg Int32.toInt c_54
                have z_3 := Int32.le_iff_toInt_le.mp (Int32.not_lt.mp c_59)
                have z_4 := Int32.le_iff_toInt_le.mp c_64
                have y_0 : (0 : Int32).toInt = 0 := by decide
                have y_12 : (12 : Int32).toInt = 12 := by decide
                have y_400 : (400 : Int32).toInt = 400 := by decide
                omega
              have hr_87 : (vy_23 : Int32).toInt ≤ 400 := by
                have z_1 := Int32.lt_iff_toInt_lt.mp c_43
                have z_2 := congrArg Int32.toInt c_54
                have z_3 := Int32.le_iff_toInt_le.mp (Int32.not_lt.mp c_59)
                have z_4 := Int32.le_iff_toInt_le.mp c_64
                have y_0 : (0 : Int32).toInt = 0 := by decide
                have y_12 : (12 : Int32).toInt = 12 := by decide
                have y_400 : (400 : Int32).toInt = 400 := by decide
                omega
              exact retA (v := .ref q_65) hx hb hr hlk (Or.inl ⟨_, rfl⟩) (Or.inr ⟨_, rfl⟩) hP hD hS (true, q_65, sv_70, sv_78, vy_20, vy_21, vy_22, vy_23, vy_24, sv_47, sv_48, sv_71, sv_72, 0, 0, (fun _ => 0), 0, 0, 0, 0) ⟨rfl, pf_49, pf_32, (RuK.of (RcL.fin pf_38 hr_81 (Or.inl hr_80)) hu_79 hr_82), pf_73, (RuC.of (RcL.fin pf_38 hr_85 (Or.inl hr_84)) hu_83 hr_86 hr_87 hr_85 pf_38 (Or.inl hr_84) pf_40 pf_41 pf_74)⟩ [0, 3, 1, 2, 5, 4, 6] rfl rfl dX7_read_158 (Nat.le_of_ble_eq_true rfl) (Nat.le_of_ble_eq_true rfl) rfl
            · skip
              refine lv_null hx hb dX7_read_138 ?_
              have hu_88 : TpR (Tf 1) (Tv 0) (rEN (cB (Tf 1) (Tv 0)) rq_35) vy_23 vy_24 sv_47 sv_48 := by
                rw [← ero_51]
                exact pf_50
              have hr_89 : 12 < (vy_19 : Int32).toInt := by
                have z_1 := Int32.lt_iff_toInt_lt.mp c_43
                have z_2 := congrArg Int32.toInt c_54
                have z_3 := Int32.le_iff_toInt_le.mp (Int32.not_lt.mp c_59)
                have z_4 := Int32.lt_iff_toInt_lt.mp (Int32.not_le.mp c_64)
                have y_0 : (0 : Int32).toInt = 0 := by decide
                have y_12 : (12 : Int32).toInt = 12 := by decide
                have y_400 : (400 : Int32).toInt = 400 := by decide
                omega
              have hr_90 : ¬ (vy_19 : Int32).toInt = 0 := by
                have z_1 := Int32.lt_iff_toInt_lt.mp c_43
                have z_2 := congrArg Int32.toInt c_54
                have z_3 := Int32.le_iff_toInt_le.mp (Int32.not_lt.mp c_59)
                have z_4 := Int32.lt_iff_toInt_lt.mp (Int32.not_le.mp c_64)
                have y_0 : (0 : Int32).toInt = 0 := by decide
                have y_12 : (12 : Int32).toInt = 12 := by decide
                have y_400 : (400 : Int32).toInt = 400 := by decide
                omega
              have hr_91 : ¬ (sv_48 : Int32).toInt = 0 := by
                have z_1 := Int32.lt_iff_toInt_lt.mp c_43
                have z_2 := congrArg Int32.toInt c_54
                have z_3 := Int32.le_iff_toInt_le.mp (Int32.not_lt.mp c_59)
                have z_4 := Int32.lt_iff_toInt_lt.mp (Int32.not_le.mp c_64)
                have y_0 : (0 : Int32).toInt = 0 := by decide
                have y_12 : (12 : Int32).toInt = 12 := by decide
                have y_400 : (400 : Int32).toInt = 400 := by decide
                omega
              exact retA (v := .null) hx hb hr hlk (Or.inl ⟨_, rfl⟩) (Or.inl rfl) hP hD hS (false, 0, 0, 0, 0, 0, (fun _ => 0), 0, 0, 0, 0, (fun _ => 0), 0, vy_20, vy_21, vy_22, vy_23, vy_24, sv_47, sv_48) ⟨rfl, pf_49, pf_32, (RuF.of (RcL.fin pf_38 hr_90 (Or.inl hr_89)) hu_88 hr_91)⟩ [0, 1, 2, 3] rfl rfl dX7_read_139 (Nat.le_of_ble_eq_true rfl) (Nat.le_of_ble_eq_true rfl) rfl
      · skip
        refine lv_iload_n hx hb dX7_read_22 rfl (lv_at hl 0 rfl) ?_
        refine lv_if_eq (tgt := 35) hx hb dX7_read_23 (by decide) (fun c_92 => ?_) (fun c_92 => ?_)
        · skip
          refine lv_aload_n hx hb dX7_read_35 rfl (lv_at hl 2 rfl) ?_
          refine va_ldcS hx hb hown (sx_1 hX) dX7_read_36 ?_
          have ha_93 : (1 : Nat) < 7 := by
            have z_1 := Int32.le_iff_toInt_le.mp (Int32.not_lt.mp c_43)
            have z_2 := congrArg Int32.toInt c_92
            have y_0 : (0 : Int32).toInt = 0 := by decide
            have y_12 : (12 : Int32).toInt = 12 := by decide
            have y_1 : (1 : Int32).toInt = 1 := by decide
            omega
          refine cV (a := (Ta 0)) (As := [.ref (sk.1 1)]) (rest := []) (wr := [((Va 0), .inr (7, [.ref (Va 1), .int vy_20, .int vy_21])), ((Va 1), .inl (tc 0, 400, .inl vy_22))]) ⟨hx, hb, hml, hown, hts⟩ hK hX hA (cu_fX10_isWord l D tc sk (Ta 0) (Ta 1) (Tv 0) vy_23 vy_24 vy_25 vy_26 (Tf 1) 1 rq_35 ha_93 pf_31 h_by pf_36) k_618 k_615 k_616 k_617 k_96 pl_X10_isWord ⟨Nat.le_of_ble_eq_true rfl, Nat.le_of_ble_eq_true rfl⟩ rfl rfl (va_recv hK hP (ci := 10) (q0 := 2) rfl rfl) hP hD hS [2, 3] [0, 1] rfl rfl rfl rfl rfl (by decide) rfl hl.1 rfl (Nat.le_of_ble_eq_true rfl) dX7_read_38 ⟨Nat.le_of_ble_eq_true rfl, Nat.le_of_ble_eq_true rfl⟩ (fun v_94 u_95 H locs hv_96 hP₀ hD₀ hS₀ => ?_)
          obtain ⟨r_97, rfl, he_98, hm_100, hm_101⟩ := hv_96
          have he_98 : (r_97.toInt = 0 ∨ r_97.toInt = 1) := he_98
          refine W.eq (g2 := F0 m 41 ls [.int r_97]) rfl ?_
          replace hP : va_P D classes [((Va 0), .inr (7, [.ref (Va 1), .int vy_20, .int vy_21])), ((Va 1), .inl (tc 0, 400, .inl vy_22)), ((Ta 0), .inr (10, [.ref (Ta 1), .int (Tv 0), .int vy_23, .int vy_24, .int vy_25, .int vy_26])), ((Ta 1), .inl (tc 0, 400, .inl (Tf 1)))] H := hP₀
          replace hD : va_D A [((Va 0), .inr (7, [.ref (Va 1), .int vy_20, .int vy_21])), ((Va 1), .inl (tc 0, 400, .inl vy_22)), ((Ta 0), .inr (10, [.ref (Ta 1), .int (Tv 0), .int vy_23, .int vy_24, .int vy_25, .int vy_26])), ((Ta 1), .inl (tc 0, 400, .inl (Tf 1)))] := hD₀
          replace hS := hS₀
          clear hP₀ hD₀ hS₀
          refine lv_if_ne (tgt := 52) hx hb dX7_read_41 (by decide) (fun c_102 => ?_) (fun c_102 => ?_)
          · skip
            have hz_104 : (r_97 : Int32).toInt = 1 := by
              have z_1 := Int32.le_iff_toInt_le.mp (Int32.not_lt.mp c_43)
              have z_2 := congrArg Int32.toInt c_92
              have z_3 : ¬ (r_97 : Int32).toInt = (0 : Int32).toInt := fun z => c_102 (Int32.toInt_inj.mp z)
              have y_0 : (0 : Int32).toInt = 0 := by decide
              have y_12 : (12 : Int32).toInt = 12 := by decide
              omega
            obtain pf_103 := hm_100 hz_104
            have pf_103 : TWd (cB (Tf 1) (Tv 0)) (wS (1 : Nat)) rq_35 := pf_103
            refine lv_iload_n hx hb dX7_read_52 rfl (lv_at hl 0 rfl) ?_
            refine lv_bipush (v := 12) hx hb dX7_read_53 (by decide) ?_
            refine lv_icmp_ne (tgt := 63) hx hb dX7_read_55 (by decide) (fun c_105 => ?_) (fun c_105 => ?_)
            · skip
              refine lv_aload_n hx hb dX7_read_63 rfl (lv_at hl 2 rfl) ?_
              refine cV (a := (Ta 0)) (As := []) (rest := []) (wr := [((Va 0), .inr (7, [.ref (Va 1), .int vy_20, .int vy_21])), ((Va 1), .inl (tc 0, 400, .inl vy_22))]) ⟨hx, hb, hml, hown, hts⟩ hK hX hA (cu_fX10_step l D tc sk (Ta 0) (Ta 1) (Tv 0) vy_23 vy_24 vy_25 vy_26 (Tf 1) (rTE (cB (Tf 1) (Tv 0)) rq_35) pf_31 h_by tb_42) k_478 k_620 k_476 k_477 k_96 pl_X10_step ⟨Nat.le_of_ble_eq_true rfl, Nat.le_of_ble_eq_true rfl⟩ rfl rfl (va_recv hK hP (ci := 10) (q0 := 2) rfl rfl) hP hD hS [2, 3] [0, 1] rfl rfl rfl rfl rfl (by decide) rfl hl.1 rfl (Nat.le_of_ble_eq_true rfl) dX7_read_64 ⟨Nat.le_of_ble_eq_true rfl, Nat.le_of_ble_eq_true rfl⟩ (fun v_106 u_107 H locs hv_108 hP₀ hD₀ hS₀ => ?_)
              obtain ⟨sv_109, sv_110, sv_111⟩ := u_107
              obtain ⟨rfl, pf_112, pf_113⟩ := hv_108
              have pf_112 : 0 ≤ ((Tv 0) : Int32).toInt ∧ ((Tv 0) : Int32).toInt ≤ 400 ∧ 0 ≤ (sv_109 : Int32).toInt ∧ (sv_109 : Int32).toInt ≤ 400 ∧ 0 ≤ (sv_110 : Int32).toInt ∧ (sv_110 : Int32).toInt ≤ 400 := pf_112
              have pf_113 : TpR (Tf 1) (Tv 0) (rSK (cB (Tf 1) (Tv 0)) (rTE (cB (Tf 1) (Tv 0)) rq_35)) sv_109 sv_110 sv_111 vy_26 := pf_113
              rw [rNX_eq] at pf_113
              obtain ⟨ro_114, ero_114⟩ : ∃ z : Except Int (Nat × Nat), z = (rNX (cB (Tf 1) (Tv 0)) rq_35) := ⟨_, rfl⟩
              rw [← ero_114] at pf_113
              have tb_115 : TpB (rTE (cB (Tf 1) (Tv 0)) ro_114) sv_110 vy_26 := TpR.tb pf_113
              have cd_116 : Ctd ro_114 vy_21 := by rw [ero_114]; exact (Ctd.nx pf_37)
              have ck_117 : CdK vy_22 vy_20 ro_114 lq_39 := by rw [ero_114]; exact (CdK.nx pf_40)
              refine W.eq (g2 := F0 m 67 ls []) rfl ?_
              replace hP : va_P D classes [((Va 0), .inr (7, [.ref (Va 1), .int vy_20, .int vy_21])), ((Va 1), .inl (tc 0, 400, .inl vy_22)), ((Ta 0), .inr (10, [.ref (Ta 1), .int (Tv 0), .int sv_109, .int sv_110, .int sv_111, .int vy_26])), ((Ta 1), .inl (tc 0, 400, .inl (Tf 1)))] H := hP₀
              replace hD : va_D A [((Va 0), .inr (7, [.ref (Va 1), .int vy_20, .int vy_21])), ((Va 1), .inl (tc 0, 400, .inl vy_22)), ((Ta 0), .inr (10, [.ref (Ta 1), .int (Tv 0), .int sv_109, .int sv_110, .int sv_111, .int vy_26])), ((Ta 1), .inl (tc 0, 400, .inl (Tf 1)))] := hD₀
              replace hS := hS₀
              clear hP₀ hD₀ hS₀
              refine lv_aload_n hx hb dX7_read_67 rfl (lv_at hl 1 rfl) ?_
              refine lv_aload_n hx hb dX7_read_68 rfl (lv_at hl 2 rfl) ?_
              refine cV (a := (Va 0)) (As := [.ref (Ta 0)]) (rest := []) (wr := []) ⟨hx, hb, hml, hown, hts⟩ hK hX hA (cu_kX7_readSum l D tc sk (Va 0) (Va 1) vy_20 vy_21 vy_22 (Ta 0) (Ta 1) (Tv 0) sv_109 sv_110 sv_111 vy_26 (Tf 1) ro_114 lq_39 pf_112 pf_32 h_by pf_113 cd_116 ck_117) k_624 k_621 k_623 k_7 k_99 pl_X7_readSum ⟨Nat.le_of_ble_eq_true rfl, Nat.le_of_ble_eq_true rfl⟩ rfl rfl (va_recv hK hP (ci := 7) (q0 := 0) rfl rfl) hP hD hS [0, 1, 2, 3] [] rfl rfl rfl rfl rfl (by decide) rfl hl.1 rfl (Nat.le_of_ble_eq_true rfl) dX7_read_69 ⟨Nat.le_of_ble_eq_true rfl, Nat.le_of_ble_eq_true rfl⟩ (fun v_118 u_119 H locs hv_120 hP₀ hD₀ hS₀ => ?_)
              obtain ⟨sv_121, sv_122, sv_123, sv_124, sv_125, sv_126, sv_127⟩ := u_119
              obtain ⟨rfl, pf_128, pf_129, pf_130, pf_131, pf_132⟩ := hv_120
              have pf_128 : 0 ≤ ((Tv 0) : Int32).toInt ∧ ((Tv 0) : Int32).toInt ≤ 400 ∧ 0 ≤ (sv_124 : Int32).toInt ∧ (sv_124 : Int32).toInt ≤ 400 ∧ 0 ≤ (sv_125 : Int32).toInt ∧ (sv_125 : Int32).toInt ≤ 400 := pf_128
              have pf_129 : 0 ≤ (sv_121 : Int32).toInt ∧ (sv_121 : Int32).toInt ≤ 400 := pf_129
              have pf_130 : TpR (Tf 1) (Tv 0) (pz_b ro_114 (pz_sum (cB (Tf 1) (Tv 0)))) sv_124 sv_125 sv_126 sv_127 := pf_130
              obtain ⟨ro_133, ero_133⟩ : ∃ z : Except Int (Nat × Nat), z = (pz_b ro_114 (pz_sum (cB (Tf 1) (Tv 0)))) := ⟨_, rfl⟩
              rw [← ero_133] at pf_130
              have tb_134 : TpB (rTE (cB (Tf 1) (Tv 0)) ro_133) sv_125 sv_127 := TpR.tb pf_130
              have pf_131 : Ctd (pz_b ro_114 (pz_sum (cB (Tf 1) (Tv 0)))) sv_122 := pf_131
              rw [← ero_133] at pf_131
              have pf_132 : CdK sv_123 sv_121 (pz_b ro_114 (pz_sum (cB (Tf 1) (Tv 0)))) (Ap ro_114 (lsum (cB (Tf 1) (Tv 0))) lq_39) := pf_132
              rw [← ero_133] at pf_132
              obtain ⟨ro_135, ero_135⟩ : ∃ z : List Int, z = (Ap ro_114 (lsum (cB (Tf 1) (Tv 0))) lq_39) := ⟨_, rfl⟩
              rw [← ero_135] at pf_132
              refine W.eq (g2 := F0 m 72 ls []) rfl ?_
              replace hP : va_P D classes [((Va 0), .inr (7, [.ref (Va 1), .int sv_121, .int sv_122])), ((Va 1), .inl (tc 0, 400, .inl sv_123)), ((Ta 0), .inr (10, [.ref (Ta 1), .int (Tv 0), .int sv_124, .int sv_125, .int sv_126, .int sv_127])), ((Ta 1), .inl (tc 0, 400, .inl (Tf 1)))] H := hP₀
              replace hD : va_D A [((Va 0), .inr (7, [.ref (Va 1), .int sv_121, .int sv_122])), ((Va 1), .inl (tc 0, 400, .inl sv_123)), ((Ta 0), .inr (10, [.ref (Ta 1), .int (Tv 0), .int sv_124, .int sv_125, .int sv_126, .int sv_127])), ((Ta 1), .inl (tc 0, 400, .inl (Tf 1)))] := hD₀
              replace hS := hS₀
              clear hP₀ hD₀ hS₀
              refine lv_aload_n hx hb dX7_read_72 rfl (lv_at hl 2 rfl) ?_
              refine va_ldcS hx hb hown (sx_3 hX) dX7_read_73 ?_
              have ha_136 : (3 : Nat) < 7 := by
                have z_1 := Int32.le_iff_toInt_le.mp (Int32.not_lt.mp c_43)
                have z_2 := congrArg Int32.toInt c_92
                have z_3 : ¬ (r_97 : Int32).toInt = (0 : Int32).toInt := fun z => c_102 (Int32.toInt_inj.mp z)
                have z_4 : ¬ (vy_19 : Int32).toInt = (12 : Int32).toInt := fun z => c_105 (Int32.toInt_inj.mp z)
                have y_0 : (0 : Int32).toInt = 0 := by decide
                have y_12 : (12 : Int32).toInt = 12 := by decide
                have y_3 : (3 : Int32).toInt = 3 := by decide
                omega
              refine cV (a := (Ta 0)) (As := [.ref (sk.1 3)]) (rest := []) (wr := [((Va 0), .inr (7, [.ref (Va 1), .int sv_121, .int sv_122])), ((Va 1), .inl (tc 0, 400, .inl sv_123))]) ⟨hx, hb, hml, hown, hts⟩ hK hX hA (cu_fX10_takesWord l D tc sk (Ta 0) (Ta 1) (Tv 0) sv_124 sv_125 sv_126 sv_127 (Tf 1) 3 ro_133 ha_136 pf_128 h_by pf_130) k_650 k_647 k_648 k_649 k_96 pl_X10_takesWord ⟨Nat.le_of_ble_eq_true rfl, Nat.le_of_ble_eq_true rfl⟩ rfl rfl (va_recv hK hP (ci := 10) (q0 := 2) rfl rfl) hP hD hS [2, 3] [0, 1] rfl rfl rfl rfl rfl (by decide) rfl hl.1 rfl (Nat.le_of_ble_eq_true rfl) dX7_read_75 ⟨Nat.le_of_ble_eq_true rfl, Nat.le_of_ble_eq_true rfl⟩ (fun v_137 u_138 H locs hv_139 hP₀ hD₀ hS₀ => ?_)
              obtain ⟨sv_140, sv_141, sv_142⟩ := u_138
              obtain ⟨r_144, rfl, he_145, pf_143, hm_147, hm_148⟩ := hv_139
              have he_145 : (r_144.toInt = 0 ∨ r_144.toInt = 1) := he_145
              have pf_143 : 0 ≤ ((Tv 0) : Int32).toInt ∧ ((Tv 0) : Int32).toInt ≤ 400 ∧ 0 ≤ (sv_140 : Int32).toInt ∧ (sv_140 : Int32).toInt ≤ 400 ∧ 0 ≤ (sv_141 : Int32).toInt ∧ (sv_141 : Int32).toInt ≤ 400 := pf_143
              refine W.eq (g2 := F0 m 78 ls [.int r_144]) rfl ?_
              replace hP : va_P D classes [((Va 0), .inr (7, [.ref (Va 1), .int sv_121, .int sv_122])), ((Va 1), .inl (tc 0, 400, .inl sv_123)), ((Ta 0), .inr (10, [.ref (Ta 1), .int (Tv 0), .int sv_140, .int sv_141, .int sv_142, .int sv_127])), ((Ta 1), .inl (tc 0, 400, .inl (Tf 1)))] H := hP₀
              replace hD : va_D A [((Va 0), .inr (7, [.ref (Va 1), .int sv_121, .int sv_122])), ((Va 1), .inl (tc 0, 400, .inl sv_123)), ((Ta 0), .inr (10, [.ref (Ta 1), .int (Tv 0), .int sv_140, .int sv_141, .int sv_142, .int sv_127])), ((Ta 1), .inl (tc 0, 400, .inl (Tf 1)))] := hD₀
              replace hS := hS₀
              clear hP₀ hD₀ hS₀
              refine lv_if_eq (tgt := 96) hx hb dX7_read_78 (by decide) (fun c_149 => ?_) (fun c_149 => ?_)
              · skip
                have hz_152 : (r_144 : Int32).toInt = 0 := by
                  have z_1 := Int32.le_iff_toInt_le.mp (Int32.not_lt.mp c_43)
                  have z_2 := congrArg Int32.toInt c_92
                  have z_3 : ¬ (r_97 : Int32).toInt = (0 : Int32).toInt := fun z => c_102 (Int32.toInt_inj.mp z)
                  have z_4 : ¬ (vy_19 : Int32).toInt = (12 : Int32).toInt := fun z => c_105 (Int32.toInt_inj.mp z)
                  have z_5 := congrArg Int32.toInt c_149
                  have y_0 : (0 : Int32).toInt = 0 := by decide
                  have y_12 : (12 : Int32).toInt = 12 := by decide
                  omega
                obtain ⟨pf_150, pf_151⟩ := hm_148 hz_152
                have pf_150 : NWd (cB (Tf 1) (Tv 0)) (wS (3 : Nat)) ro_133 := pf_150
                have pf_151 : TpR (Tf 1) (Tv 0) ro_133 sv_140 sv_141 sv_142 sv_127 := pf_151
                have tb_153 : TpB (rTE (cB (Tf 1) (Tv 0)) ro_133) sv_141 sv_127 := TpR.tb pf_151
                refine lv_aload_n hx hb dX7_read_96 rfl (lv_at hl 1 rfl) ?_
                refine lv_bipush (v := (-2)) hx hb dX7_read_97 (by decide) ?_
                refine cV (a := (Va 0)) (As := [.int (-2)]) (rest := []) (wr := [((Ta 0), .inr (10, [.ref (Ta 1), .int (Tv 0), .int sv_140, .int sv_141, .int sv_142, .int sv_127])), ((Ta 1), .inl (tc 0, 400, .inl (Tf 1)))]) ⟨hx, hb, hml, hown, hts⟩ hK hX hA (cu_kX7_put l D tc sk (Va 0) (Va 1) sv_121 sv_122 sv_123 (-2) ro_133 ro_135 pf_129 pf_132) k_642 k_639 k_641 k_10 k_99 pl_X7_put ⟨Nat.le_of_ble_eq_true rfl, Nat.le_of_ble_eq_true rfl⟩ rfl rfl (va_recv hK hP (ci := 7) (q0 := 0) rfl rfl) hP hD hS [0, 1] [2, 3] rfl rfl rfl rfl rfl (by decide) rfl hl.1 rfl (Nat.le_of_ble_eq_true rfl) dX7_read_99 ⟨Nat.le_of_ble_eq_true rfl, Nat.le_of_ble_eq_true rfl⟩ (fun v_154 u_155 H locs hv_156 hP₀ hD₀ hS₀ => ?_)
                obtain ⟨sv_157, sv_158⟩ := u_155
                obtain ⟨rfl, pf_159, pf_160⟩ := hv_156
                have pf_159 : 0 ≤ (sv_157 : Int32).toInt ∧ (sv_157 : Int32).toInt ≤ 400 := pf_159
                have pf_160 : CdK sv_158 sv_157 ro_133 (ro_135 ++ [((-2) : Int32).toInt]) := pf_160
                rw [show ((-2) : Int32).toInt = -2 by decide] at pf_160
                obtain ⟨ro_161, ero_161⟩ : ∃ z : List Int, z = (ro_135 ++ [-2]) := ⟨_, rfl⟩
                rw [← ero_161] at pf_160
                refine W.eq (g2 := F0 m 102 ls []) rfl ?_
                replace hP : va_P D classes [((Ta 0), .inr (10, [.ref (Ta 1), .int (Tv 0), .int sv_140, .int sv_141, .int sv_142, .int sv_127])), ((Ta 1), .inl (tc 0, 400, .inl (Tf 1))), ((Va 0), .inr (7, [.ref (Va 1), .int sv_157, .int sv_122])), ((Va 1), .inl (tc 0, 400, .inl sv_158))] H := hP₀
                replace hD : va_D A [((Ta 0), .inr (10, [.ref (Ta 1), .int (Tv 0), .int sv_140, .int sv_141, .int sv_142, .int sv_127])), ((Ta 1), .inl (tc 0, 400, .inl (Tf 1))), ((Va 0), .inr (7, [.ref (Va 1), .int sv_157, .int sv_122])), ((Va 1), .inl (tc 0, 400, .inl sv_158))] := hD₀
                replace hS := hS₀
                clear hP₀ hD₀ hS₀
                obtain ⟨x_162, ex_162⟩ : ∃ y : Int32, y = vy_19 + 1 := ⟨_, rfl⟩
                refine lv_iinc (v := x_162) (lv' := [(2, .int x_162), (0, .ref (Va 0)), (1, .ref (Ta 0))]) hx hb dX7_read_102 hl (k := 0) rfl (by rw [ex_162]; rfl) (by decide) rfl (fun ls hl₀ => ?_)
                replace hl := hl₀
                clear hl₀
                refine lv_goto (tgt := 16) hx hb dX7_read_105 (by decide) ?_
                have hb_163 : 14 - (x_162 : Int32).toInt < 14 - (vy_19 : Int32).toInt ∧ 1 ≤ 14 - (vy_19 : Int32).toInt := by
                  have z_1 := Int32.le_iff_toInt_le.mp (Int32.not_lt.mp c_43)
                  have z_2 := congrArg Int32.toInt c_92
                  have z_3 : ¬ (r_97 : Int32).toInt = (0 : Int32).toInt := fun z => c_102 (Int32.toInt_inj.mp z)
                  have z_4 : ¬ (vy_19 : Int32).toInt = (12 : Int32).toInt := fun z => c_105 (Int32.toInt_inj.mp z)
                  have z_5 := congrArg Int32.toInt c_149
                  have y_0 : (0 : Int32).toInt = 0 := by decide
                  have y_12 : (12 : Int32).toInt = 12 := by decide
                  have y_1 : (1 : Int32).toInt = 1 := by decide
                  have t_x_162 : x_162.toInt = (vy_19 : Int32).toInt + (1 : Int32).toInt := by rw [ex_162]; exact add_toInt (by omega) (by omega)
                  omega
                have ha_164 : 0 ≤ (x_162 : Int32).toInt ∧ (x_162 : Int32).toInt ≤ 13 := by
                  have z_1 := Int32.le_iff_toInt_le.mp (Int32.not_lt.mp c_43)
                  have z_2 := congrArg Int32.toInt c_92
                  have z_3 : ¬ (r_97 : Int32).toInt = (0 : Int32).toInt := fun z => c_102 (Int32.toInt_inj.mp z)
                  have z_4 : ¬ (vy_19 : Int32).toInt = (12 : Int32).toInt := fun z => c_105 (Int32.toInt_inj.mp z)
                  have z_5 := congrArg Int32.toInt c_149
                  have y_0 : (0 : Int32).toInt = 0 := by decide
                  have y_12 : (12 : Int32).toInt = 12 := by decide
                  have y_1 : (1 : Int32).toInt = 1 := by decide
                  have t_x_162 : x_162.toInt = (vy_19 : Int32).toInt + (1 : Int32).toInt := by rw [ex_162]; exact add_toInt (by omega) (by omega)
                  omega
                have hw_165 : TWd (cB (Tf 1) (Tv 0)) pz_buy rq_35 := by
                  rw [← wS1]
                  exact pf_103
                have hr_166 : (vy_19 : Int32).toInt.toNat ≠ 12 := by
                  have z_1 := Int32.le_iff_toInt_le.mp (Int32.not_lt.mp c_43)
                  have z_2 := congrArg Int32.toInt c_92
                  have z_3 : ¬ (r_97 : Int32).toInt = (0 : Int32).toInt := fun z => c_102 (Int32.toInt_inj.mp z)
                  have z_4 : ¬ (vy_19 : Int32).toInt = (12 : Int32).toInt := fun z => c_105 (Int32.toInt_inj.mp z)
                  have z_5 := congrArg Int32.toInt c_149
                  have y_0 : (0 : Int32).toInt = 0 := by decide
                  have y_12 : (12 : Int32).toInt = 12 := by decide
                  omega
                have hw_167 : NWd (cB (Tf 1) (Tv 0)) pz_if (pz_b (rNX (cB (Tf 1) (Tv 0)) rq_35) (pz_sum (cB (Tf 1) (Tv 0)))) := by
                  rw [← ero_114, ← ero_133, ← wS3]
                  exact pf_150
                have hE_168 : pz_b rq_35 (pz_cla (cB (Tf 1) (Tv 0)) (vy_19 : Int32).toInt.toNat) = ro_133 := by
                  rw [ero_133, ero_114]
                  exact (cla_un hw_165 hr_166 hw_167)
                have hu_169 : TpR (Tf 1) (Tv 0) (pz_b rq_35 (pz_cla (cB (Tf 1) (Tv 0)) (vy_19 : Int32).toInt.toNat)) sv_140 sv_141 sv_142 sv_127 := by rw [hE_168]; exact pf_151
                have hu_170 : Ctd (pz_b rq_35 (pz_cla (cB (Tf 1) (Tv 0)) (vy_19 : Int32).toInt.toNat)) sv_122 := by rw [hE_168]; exact pf_131
                have hu_171 : CdK sv_158 sv_157 (pz_b rq_35 (pz_cla (cB (Tf 1) (Tv 0)) (vy_19 : Int32).toInt.toNat)) ro_161 := by rw [hE_168]; exact pf_160
                have hu_172 : ∀ t, (pz_b rq_35 (pz_cla (cB (Tf 1) (Tv 0)) (vy_19 : Int32).toInt.toNat)) = .ok t → ∃ s0, rq_35 = .ok s0 ∧ ro_161 = lq_39 ++ ru_1 (ru_cl (cB (Tf 1) (Tv 0)) s0) := by
                  rw [ero_161, ero_135, ero_114]
                  exact cl_un hw_165 hr_166 hw_167
                have hi_173 : (x_162 : Int32).toInt = (vy_19 : Int32).toInt + 1 := by
                  have z_1 := Int32.le_iff_toInt_le.mp (Int32.not_lt.mp c_43)
                  have z_2 := congrArg Int32.toInt c_92
                  have z_3 : ¬ (r_97 : Int32).toInt = (0 : Int32).toInt := fun z => c_102 (Int32.toInt_inj.mp z)
                  have z_4 : ¬ (vy_19 : Int32).toInt = (12 : Int32).toInt := fun z => c_105 (Int32.toInt_inj.mp z)
                  have z_5 := congrArg Int32.toInt c_149
                  have y_0 : (0 : Int32).toInt = 0 := by decide
                  have y_12 : (12 : Int32).toInt = 12 := by decide
                  have y_1 : (1 : Int32).toInt = 1 := by decide
                  have t_x_162 : x_162.toInt = (vy_19 : Int32).toInt + (1 : Int32).toInt := by rw [ex_162]; exact add_toInt (by omega) (by omega)
                  omega
                have hr_174 : (vy_19 : Int32).toInt = 0 := by
                  have z_1 := Int32.le_iff_toInt_le.mp (Int32.not_lt.mp c_43)
                  have z_2 := congrArg Int32.toInt c_92
                  have z_3 : ¬ (r_97 : Int32).toInt = (0 : Int32).toInt := fun z => c_102 (Int32.toInt_inj.mp z)
                  have z_4 : ¬ (vy_19 : Int32).toInt = (12 : Int32).toInt := fun z => c_105 (Int32.toInt_inj.mp z)
                  have z_5 := congrArg Int32.toInt c_149
                  have y_0 : (0 : Int32).toInt = 0 := by decide
                  have y_12 : (12 : Int32).toInt = 12 := by decide
                  omega
                exact ih_28 x_162 sv_157 sv_122 sv_158 sv_140 sv_141 sv_142 sv_127 _ _ _ (by omega) ha_164 pf_143 pf_159 (RcC.next0 hr_174 pf_38 pf_41 hu_169 hu_170 hu_171 hu_172 hi_173) (hP.sub [2, 3, 0, 1] rfl) (hD.sub [2, 3, 0, 1] rfl rfl) hS (lv_sub hl [0, 1, 2] rfl)
              · skip
                have hz_177 : (r_144 : Int32).toInt = 1 := by
                  have z_1 := Int32.le_iff_toInt_le.mp (Int32.not_lt.mp c_43)
                  have z_2 := congrArg Int32.toInt c_92
                  have z_3 : ¬ (r_97 : Int32).toInt = (0 : Int32).toInt := fun z => c_102 (Int32.toInt_inj.mp z)
                  have z_4 : ¬ (vy_19 : Int32).toInt = (12 : Int32).toInt := fun z => c_105 (Int32.toInt_inj.mp z)
                  have z_5 : ¬ (r_144 : Int32).toInt = (0 : Int32).toInt := fun z => c_149 (Int32.toInt_inj.mp z)
                  have y_0 : (0 : Int32).toInt = 0 := by decide
                  have y_12 : (12 : Int32).toInt = 12 := by decide
                  omega
                obtain ⟨pf_175, pf_176⟩ := hm_147 hz_177
                have pf_175 : TWd (cB (Tf 1) (Tv 0)) (wS (3 : Nat)) ro_133 := pf_175
                have pf_176 : TpR (Tf 1) (Tv 0) (rNX (cB (Tf 1) (Tv 0)) ro_133) sv_140 sv_141 sv_142 sv_127 := pf_176
                obtain ⟨ro_178, ero_178⟩ : ∃ z : Except Int (Nat × Nat), z = (rNX (cB (Tf 1) (Tv 0)) ro_133) := ⟨_, rfl⟩
                rw [← ero_178] at pf_176
                have tb_179 : TpB (rTE (cB (Tf 1) (Tv 0)) ro_178) sv_141 sv_127 := TpR.tb pf_176
                have cd_180 : Ctd ro_178 sv_122 := by rw [ero_178]; exact (Ctd.nx pf_131)
                have ck_181 : CdK sv_123 sv_121 ro_178 ro_135 := by rw [ero_178]; exact (CdK.nx pf_132)
                refine lv_aload_n hx hb dX7_read_81 rfl (lv_at hl 1 rfl) ?_
                refine lv_aload_n hx hb dX7_read_82 rfl (lv_at hl 2 rfl) ?_
                refine lv_iconst (v := 0) hx hb dX7_read_83 (by decide) ?_
                refine cV (a := (Va 0)) (As := [.ref (Ta 0), .int 0]) (rest := []) (wr := []) ⟨hx, hb, hml, hown, hts⟩ hK hX hA (cu_kX7_readTest_0 l D tc sk (Va 0) (Va 1) sv_121 sv_122 sv_123 (Ta 0) (Ta 1) (Tv 0) sv_140 sv_141 sv_142 sv_127 (Tf 1) ro_178 ro_135 pf_143 pf_129 h_by pf_176 cd_180 ck_181) k_655 k_652 k_654 k_11 k_99 pl_X7_readTest ⟨Nat.le_of_ble_eq_true rfl, Nat.le_of_ble_eq_true rfl⟩ rfl rfl (va_recv hK hP (ci := 7) (q0 := 0) rfl rfl) hP hD hS [0, 1, 2, 3] [] rfl rfl rfl rfl rfl (by decide) rfl hl.1 rfl (Nat.le_of_ble_eq_true rfl) dX7_read_84 ⟨Nat.le_of_ble_eq_true rfl, Nat.le_of_ble_eq_true rfl⟩ (fun v_182 u_183 H locs hv_184 hP₀ hD₀ hS₀ => ?_)
                obtain ⟨sv_185, sv_186, sv_187, sv_188, sv_189, sv_190, sv_191⟩ := u_183
                obtain ⟨rfl, pf_192, pf_193, pf_194, pf_195, pf_196⟩ := hv_184
                have pf_192 : 0 ≤ ((Tv 0) : Int32).toInt ∧ ((Tv 0) : Int32).toInt ≤ 400 ∧ 0 ≤ (sv_188 : Int32).toInt ∧ (sv_188 : Int32).toInt ≤ 400 ∧ 0 ≤ (sv_189 : Int32).toInt ∧ (sv_189 : Int32).toInt ≤ 400 := pf_192
                have pf_193 : 0 ≤ (sv_185 : Int32).toInt ∧ (sv_185 : Int32).toInt ≤ 400 := pf_193
                have pf_194 : TpR (Tf 1) (Tv 0) (pz_b ro_178 (pz_tst (cB (Tf 1) (Tv 0)) (pz_fact (cB (Tf 1) (Tv 0)) 10))) sv_188 sv_189 sv_190 sv_191 := pf_194
                obtain ⟨ro_197, ero_197⟩ : ∃ z : Except Int (Nat × Nat), z = (pz_b ro_178 (pz_tst (cB (Tf 1) (Tv 0)) (pz_fact (cB (Tf 1) (Tv 0)) 10))) := ⟨_, rfl⟩
                rw [← ero_197] at pf_194
                have tb_198 : TpB (rTE (cB (Tf 1) (Tv 0)) ro_197) sv_189 sv_191 := TpR.tb pf_194
                have pf_195 : Ctd (pz_b ro_178 (pz_tst (cB (Tf 1) (Tv 0)) (pz_fact (cB (Tf 1) (Tv 0)) 10))) sv_186 := pf_195
                rw [← ero_197] at pf_195
                have pf_196 : CdK sv_187 sv_185 (pz_b ro_178 (pz_tst (cB (Tf 1) (Tv 0)) (pz_fact (cB (Tf 1) (Tv 0)) 10))) (Ap ro_178 (ltst (cB (Tf 1) (Tv 0)) 10) ro_135) := pf_196
                rw [← ero_197] at pf_196
                obtain ⟨ro_199, ero_199⟩ : ∃ z : List Int, z = (Ap ro_178 (ltst (cB (Tf 1) (Tv 0)) 10) ro_135) := ⟨_, rfl⟩
                rw [← ero_199] at pf_196
                refine W.eq (g2 := F0 m 87 ls []) rfl ?_
                replace hP : va_P D classes [((Va 0), .inr (7, [.ref (Va 1), .int sv_185, .int sv_186])), ((Va 1), .inl (tc 0, 400, .inl sv_187)), ((Ta 0), .inr (10, [.ref (Ta 1), .int (Tv 0), .int sv_188, .int sv_189, .int sv_190, .int sv_191])), ((Ta 1), .inl (tc 0, 400, .inl (Tf 1)))] H := hP₀
                replace hD : va_D A [((Va 0), .inr (7, [.ref (Va 1), .int sv_185, .int sv_186])), ((Va 1), .inl (tc 0, 400, .inl sv_187)), ((Ta 0), .inr (10, [.ref (Ta 1), .int (Tv 0), .int sv_188, .int sv_189, .int sv_190, .int sv_191])), ((Ta 1), .inl (tc 0, 400, .inl (Tf 1)))] := hD₀
                replace hS := hS₀
                clear hP₀ hD₀ hS₀
                refine lv_aload_n hx hb dX7_read_87 rfl (lv_at hl 1 rfl) ?_
                refine lv_bipush (v := (-3)) hx hb dX7_read_88 (by decide) ?_
                refine cV (a := (Va 0)) (As := [.int (-3)]) (rest := []) (wr := [((Ta 0), .inr (10, [.ref (Ta 1), .int (Tv 0), .int sv_188, .int sv_189, .int sv_190, .int sv_191])), ((Ta 1), .inl (tc 0, 400, .inl (Tf 1)))]) ⟨hx, hb, hml, hown, hts⟩ hK hX hA (cu_kX7_put l D tc sk (Va 0) (Va 1) sv_185 sv_186 sv_187 (-3) ro_197 ro_199 pf_193 pf_196) k_642 k_639 k_641 k_10 k_99 pl_X7_put ⟨Nat.le_of_ble_eq_true rfl, Nat.le_of_ble_eq_true rfl⟩ rfl rfl (va_recv hK hP (ci := 7) (q0 := 0) rfl rfl) hP hD hS [0, 1] [2, 3] rfl rfl rfl rfl rfl (by decide) rfl hl.1 rfl (Nat.le_of_ble_eq_true rfl) dX7_read_90 ⟨Nat.le_of_ble_eq_true rfl, Nat.le_of_ble_eq_true rfl⟩ (fun v_200 u_201 H locs hv_202 hP₀ hD₀ hS₀ => ?_)
                obtain ⟨sv_203, sv_204⟩ := u_201
                obtain ⟨rfl, pf_205, pf_206⟩ := hv_202
                have pf_205 : 0 ≤ (sv_203 : Int32).toInt ∧ (sv_203 : Int32).toInt ≤ 400 := pf_205
                have pf_206 : CdK sv_204 sv_203 ro_197 (ro_199 ++ [((-3) : Int32).toInt]) := pf_206
                rw [show ((-3) : Int32).toInt = -3 by decide] at pf_206
                obtain ⟨ro_207, ero_207⟩ : ∃ z : List Int, z = (ro_199 ++ [-3]) := ⟨_, rfl⟩
                rw [← ero_207] at pf_206
                refine W.eq (g2 := F0 m 93 ls []) rfl ?_
                replace hP : va_P D classes [((Ta 0), .inr (10, [.ref (Ta 1), .int (Tv 0), .int sv_188, .int sv_189, .int sv_190, .int sv_191])), ((Ta 1), .inl (tc 0, 400, .inl (Tf 1))), ((Va 0), .inr (7, [.ref (Va 1), .int sv_203, .int sv_186])), ((Va 1), .inl (tc 0, 400, .inl sv_204))] H := hP₀
                replace hD : va_D A [((Ta 0), .inr (10, [.ref (Ta 1), .int (Tv 0), .int sv_188, .int sv_189, .int sv_190, .int sv_191])), ((Ta 1), .inl (tc 0, 400, .inl (Tf 1))), ((Va 0), .inr (7, [.ref (Va 1), .int sv_203, .int sv_186])), ((Va 1), .inl (tc 0, 400, .inl sv_204))] := hD₀
                replace hS := hS₀
                clear hP₀ hD₀ hS₀
                refine lv_goto (tgt := 102) hx hb dX7_read_93 (by decide) ?_
                obtain ⟨x_208, ex_208⟩ : ∃ y : Int32, y = vy_19 + 1 := ⟨_, rfl⟩
                refine lv_iinc (v := x_208) (lv' := [(2, .int x_208), (0, .ref (Va 0)), (1, .ref (Ta 0))]) hx hb dX7_read_102 hl (k := 0) rfl (by rw [ex_208]; rfl) (by decide) rfl (fun ls hl₀ => ?_)
                replace hl := hl₀
                clear hl₀
                refine lv_goto (tgt := 16) hx hb dX7_read_105 (by decide) ?_
                have hb_209 : 14 - (x_208 : Int32).toInt < 14 - (vy_19 : Int32).toInt ∧ 1 ≤ 14 - (vy_19 : Int32).toInt := by
                  have z_1 := Int32.le_iff_toInt_le.mp (Int32.not_lt.mp c_43)
                  have z_2 := congrArg Int32.toInt c_92
                  have z_3 : ¬ (r_97 : Int32).toInt = (0 : Int32).toInt := fun z => c_102 (Int32.toInt_inj.mp z)
                  have z_4 : ¬ (vy_19 : Int32).toInt = (12 : Int32).toInt := fun z => c_105 (Int32.toInt_inj.mp z)
                  have z_5 : ¬ (r_144 : Int32).toInt = (0 : Int32).toInt := fun z => c_149 (Int32.toInt_inj.mp z)
                  have y_0 : (0 : Int32).toInt = 0 := by decide
                  have y_12 : (12 : Int32).toInt = 12 := by decide
                  have y_1 : (1 : Int32).toInt = 1 := by decide
                  have t_x_208 : x_208.toInt = (vy_19 : Int32).toInt + (1 : Int32).toInt := by rw [ex_208]; exact add_toInt (by omega) (by omega)
                  omega
                have ha_210 : 0 ≤ (x_208 : Int32).toInt ∧ (x_208 : Int32).toInt ≤ 13 := by
                  have z_1 := Int32.le_iff_toInt_le.mp (Int32.not_lt.mp c_43)
                  have z_2 := congrArg Int32.toInt c_92
                  have z_3 : ¬ (r_97 : Int32).toInt = (0 : Int32).toInt := fun z => c_102 (Int32.toInt_inj.mp z)
                  have z_4 : ¬ (vy_19 : Int32).toInt = (12 : Int32).toInt := fun z => c_105 (Int32.toInt_inj.mp z)
                  have z_5 : ¬ (r_144 : Int32).toInt = (0 : Int32).toInt := fun z => c_149 (Int32.toInt_inj.mp z)
                  have y_0 : (0 : Int32).toInt = 0 := by decide
                  have y_12 : (12 : Int32).toInt = 12 := by decide
                  have y_1 : (1 : Int32).toInt = 1 := by decide
                  have t_x_208 : x_208.toInt = (vy_19 : Int32).toInt + (1 : Int32).toInt := by rw [ex_208]; exact add_toInt (by omega) (by omega)
                  omega
                have hw_211 : TWd (cB (Tf 1) (Tv 0)) pz_buy rq_35 := by
                  rw [← wS1]
                  exact pf_103
                have hr_212 : (vy_19 : Int32).toInt.toNat ≠ 12 := by
                  have z_1 := Int32.le_iff_toInt_le.mp (Int32.not_lt.mp c_43)
                  have z_2 := congrArg Int32.toInt c_92
                  have z_3 : ¬ (r_97 : Int32).toInt = (0 : Int32).toInt := fun z => c_102 (Int32.toInt_inj.mp z)
                  have z_4 : ¬ (vy_19 : Int32).toInt = (12 : Int32).toInt := fun z => c_105 (Int32.toInt_inj.mp z)
                  have z_5 : ¬ (r_144 : Int32).toInt = (0 : Int32).toInt := fun z => c_149 (Int32.toInt_inj.mp z)
                  have y_0 : (0 : Int32).toInt = 0 := by decide
                  have y_12 : (12 : Int32).toInt = 12 := by decide
                  omega
                have hw_213 : TWd (cB (Tf 1) (Tv 0)) pz_if (pz_b (rNX (cB (Tf 1) (Tv 0)) rq_35) (pz_sum (cB (Tf 1) (Tv 0)))) := by
                  rw [← ero_114, ← ero_133, ← wS3]
                  exact pf_175
                have hE_214 : pz_b rq_35 (pz_cla (cB (Tf 1) (Tv 0)) (vy_19 : Int32).toInt.toNat) = ro_197 := by
                  rw [ero_197, ero_178, ero_133, ero_114]
                  exact (cla_if hw_211 hr_212 hw_213)
                have hu_215 : TpR (Tf 1) (Tv 0) (pz_b rq_35 (pz_cla (cB (Tf 1) (Tv 0)) (vy_19 : Int32).toInt.toNat)) sv_188 sv_189 sv_190 sv_191 := by rw [hE_214]; exact pf_194
                have hu_216 : Ctd (pz_b rq_35 (pz_cla (cB (Tf 1) (Tv 0)) (vy_19 : Int32).toInt.toNat)) sv_186 := by rw [hE_214]; exact pf_195
                have hu_217 : CdK sv_204 sv_203 (pz_b rq_35 (pz_cla (cB (Tf 1) (Tv 0)) (vy_19 : Int32).toInt.toNat)) ro_207 := by rw [hE_214]; exact pf_206
                have hu_218 : ∀ t, (pz_b rq_35 (pz_cla (cB (Tf 1) (Tv 0)) (vy_19 : Int32).toInt.toNat)) = .ok t → ∃ s0, rq_35 = .ok s0 ∧ ro_207 = lq_39 ++ ru_1 (ru_cl (cB (Tf 1) (Tv 0)) s0) := by
                  rw [ero_207, ero_199, ero_178, ero_135, ero_133, ero_114]
                  exact cl_if hw_211 hr_212 hw_213
                have hi_219 : (x_208 : Int32).toInt = (vy_19 : Int32).toInt + 1 := by
                  have z_1 := Int32.le_iff_toInt_le.mp (Int32.not_lt.mp c_43)
                  have z_2 := congrArg Int32.toInt c_92
                  have z_3 : ¬ (r_97 : Int32).toInt = (0 : Int32).toInt := fun z => c_102 (Int32.toInt_inj.mp z)
                  have z_4 : ¬ (vy_19 : Int32).toInt = (12 : Int32).toInt := fun z => c_105 (Int32.toInt_inj.mp z)
                  have z_5 : ¬ (r_144 : Int32).toInt = (0 : Int32).toInt := fun z => c_149 (Int32.toInt_inj.mp z)
                  have y_0 : (0 : Int32).toInt = 0 := by decide
                  have y_12 : (12 : Int32).toInt = 12 := by decide
                  have y_1 : (1 : Int32).toInt = 1 := by decide
                  have t_x_208 : x_208.toInt = (vy_19 : Int32).toInt + (1 : Int32).toInt := by rw [ex_208]; exact add_toInt (by omega) (by omega)
                  omega
                have hr_220 : (vy_19 : Int32).toInt = 0 := by
                  have z_1 := Int32.le_iff_toInt_le.mp (Int32.not_lt.mp c_43)
                  have z_2 := congrArg Int32.toInt c_92
                  have z_3 : ¬ (r_97 : Int32).toInt = (0 : Int32).toInt := fun z => c_102 (Int32.toInt_inj.mp z)
                  have z_4 : ¬ (vy_19 : Int32).toInt = (12 : Int32).toInt := fun z => c_105 (Int32.toInt_inj.mp z)
                  have z_5 : ¬ (r_144 : Int32).toInt = (0 : Int32).toInt := fun z => c_149 (Int32.toInt_inj.mp z)
                  have y_0 : (0 : Int32).toInt = 0 := by decide
                  have y_12 : (12 : Int32).toInt = 12 := by decide
                  omega
                exact ih_28 x_208 sv_203 sv_186 sv_204 sv_188 sv_189 sv_190 sv_191 _ _ _ (by omega) ha_210 pf_192 pf_205 (RcC.next0 hr_220 pf_38 pf_41 hu_215 hu_216 hu_217 hu_218 hi_219) (hP.sub [2, 3, 0, 1] rfl) (hD.sub [2, 3, 0, 1] rfl rfl) hS (lv_sub hl [0, 1, 2] rfl)
            · skip
              refine lv_aload_n hx hb dX7_read_58 rfl (lv_at hl 2 rfl) ?_
              refine lv_iconst (v := 4) hx hb dX7_read_59 (by decide) ?_
              have ha_221 : 0 ≤ (4 : Int32).toInt ∧ (4 : Int32).toInt ≤ 4 := by
                have z_1 := Int32.le_iff_toInt_le.mp (Int32.not_lt.mp c_43)
                have z_2 := congrArg Int32.toInt c_92
                have z_3 : ¬ (r_97 : Int32).toInt = (0 : Int32).toInt := fun z => c_102 (Int32.toInt_inj.mp z)
                have z_4 := congrArg Int32.toInt c_105
                have y_0 : (0 : Int32).toInt = 0 := by decide
                have y_12 : (12 : Int32).toInt = 12 := by decide
                have y_4 : (4 : Int32).toInt = 4 := by decide
                omega
              have ha_222 : (4 : Int32).toInt = (4 : Int) := by
                have z_1 := Int32.le_iff_toInt_le.mp (Int32.not_lt.mp c_43)
                have z_2 := congrArg Int32.toInt c_92
                have z_3 : ¬ (r_97 : Int32).toInt = (0 : Int32).toInt := fun z => c_102 (Int32.toInt_inj.mp z)
                have z_4 := congrArg Int32.toInt c_105
                have y_0 : (0 : Int32).toInt = 0 := by decide
                have y_12 : (12 : Int32).toInt = 12 := by decide
                have y_4 : (4 : Int32).toInt = 4 := by decide
                omega
              refine cV (a := (Ta 0)) (As := [.int 4]) (rest := []) (wr := [((Va 0), .inr (7, [.ref (Va 1), .int vy_20, .int vy_21])), ((Va 1), .inl (tc 0, 400, .inl vy_22))]) ⟨hx, hb, hml, hown, hts⟩ hK hX hA (cu_fX10_fail l D tc sk (Ta 0) (Ta 1) (Tv 0) vy_23 vy_24 vy_25 vy_26 (Tf 1) 4 rq_35 4 pf_31 pf_36 ha_221 ha_222) k_557 k_619 k_555 k_556 k_96 pl_X10_fail ⟨Nat.le_of_ble_eq_true rfl, Nat.le_of_ble_eq_true rfl⟩ rfl rfl (va_recv hK hP (ci := 10) (q0 := 2) rfl rfl) hP hD hS [2, 3] [0, 1] rfl rfl rfl rfl rfl (by decide) rfl hl.1 rfl (Nat.le_of_ble_eq_true rfl) dX7_read_60 ⟨Nat.le_of_ble_eq_true rfl, Nat.le_of_ble_eq_true rfl⟩ (fun v_223 u_224 H locs hv_225 hP₀ hD₀ hS₀ => ?_)
              obtain ⟨sv_226, sv_227⟩ := u_224
              obtain ⟨rfl, pf_228, pf_229⟩ := hv_225
              have pf_228 : 0 ≤ ((Tv 0) : Int32).toInt ∧ ((Tv 0) : Int32).toInt ≤ 400 ∧ 0 ≤ (vy_23 : Int32).toInt ∧ (vy_23 : Int32).toInt ≤ 400 ∧ 0 ≤ (vy_24 : Int32).toInt ∧ (vy_24 : Int32).toInt ≤ 400 := pf_228
              have pf_229 : TpR (Tf 1) (Tv 0) (rER (4 : Int) rq_35) vy_23 vy_24 sv_226 sv_227 := pf_229
              obtain ⟨ro_230, ero_230⟩ : ∃ z : Except Int (Nat × Nat), z = (rER 4 rq_35) := ⟨_, rfl⟩
              rw [← ero_230] at pf_229
              have tb_231 : TpB (rTE (cB (Tf 1) (Tv 0)) ro_230) vy_24 sv_227 := TpR.tb pf_229
              have cd_232 : Ctd ro_230 vy_21 := by rw [ero_230]; exact (Ctd.er)
              have ck_233 : CdK vy_22 vy_20 ro_230 lq_39 := by rw [ero_230]; exact (CdK.er)
              refine W.eq (g2 := F0 m 63 ls []) rfl ?_
              replace hP : va_P D classes [((Va 0), .inr (7, [.ref (Va 1), .int vy_20, .int vy_21])), ((Va 1), .inl (tc 0, 400, .inl vy_22)), ((Ta 0), .inr (10, [.ref (Ta 1), .int (Tv 0), .int vy_23, .int vy_24, .int sv_226, .int sv_227])), ((Ta 1), .inl (tc 0, 400, .inl (Tf 1)))] H := hP₀
              replace hD : va_D A [((Va 0), .inr (7, [.ref (Va 1), .int vy_20, .int vy_21])), ((Va 1), .inl (tc 0, 400, .inl vy_22)), ((Ta 0), .inr (10, [.ref (Ta 1), .int (Tv 0), .int vy_23, .int vy_24, .int sv_226, .int sv_227])), ((Ta 1), .inl (tc 0, 400, .inl (Tf 1)))] := hD₀
              replace hS := hS₀
              clear hP₀ hD₀ hS₀
              refine lv_aload_n hx hb dX7_read_63 rfl (lv_at hl 2 rfl) ?_
              refine cV (a := (Ta 0)) (As := []) (rest := []) (wr := [((Va 0), .inr (7, [.ref (Va 1), .int vy_20, .int vy_21])), ((Va 1), .inl (tc 0, 400, .inl vy_22))]) ⟨hx, hb, hml, hown, hts⟩ hK hX hA (cu_fX10_step l D tc sk (Ta 0) (Ta 1) (Tv 0) vy_23 vy_24 sv_226 sv_227 (Tf 1) (rTE (cB (Tf 1) (Tv 0)) ro_230) pf_228 h_by tb_231) k_478 k_620 k_476 k_477 k_96 pl_X10_step ⟨Nat.le_of_ble_eq_true rfl, Nat.le_of_ble_eq_true rfl⟩ rfl rfl (va_recv hK hP (ci := 10) (q0 := 2) rfl rfl) hP hD hS [2, 3] [0, 1] rfl rfl rfl rfl rfl (by decide) rfl hl.1 rfl (Nat.le_of_ble_eq_true rfl) dX7_read_64 ⟨Nat.le_of_ble_eq_true rfl, Nat.le_of_ble_eq_true rfl⟩ (fun v_234 u_235 H locs hv_236 hP₀ hD₀ hS₀ => ?_)
              obtain ⟨sv_237, sv_238, sv_239⟩ := u_235
              obtain ⟨rfl, pf_240, pf_241⟩ := hv_236
              have pf_240 : 0 ≤ ((Tv 0) : Int32).toInt ∧ ((Tv 0) : Int32).toInt ≤ 400 ∧ 0 ≤ (sv_237 : Int32).toInt ∧ (sv_237 : Int32).toInt ≤ 400 ∧ 0 ≤ (sv_238 : Int32).toInt ∧ (sv_238 : Int32).toInt ≤ 400 := pf_240
              have pf_241 : TpR (Tf 1) (Tv 0) (rSK (cB (Tf 1) (Tv 0)) (rTE (cB (Tf 1) (Tv 0)) ro_230)) sv_237 sv_238 sv_239 sv_227 := pf_241
              rw [rNX_eq] at pf_241
              obtain ⟨ro_242, ero_242⟩ : ∃ z : Except Int (Nat × Nat), z = (rNX (cB (Tf 1) (Tv 0)) ro_230) := ⟨_, rfl⟩
              rw [← ero_242] at pf_241
              have tb_243 : TpB (rTE (cB (Tf 1) (Tv 0)) ro_242) sv_238 sv_227 := TpR.tb pf_241
              have cd_244 : Ctd ro_242 vy_21 := by rw [ero_242]; exact (Ctd.nx cd_232)
              have ck_245 : CdK vy_22 vy_20 ro_242 lq_39 := by rw [ero_242]; exact (CdK.nx ck_233)
              refine W.eq (g2 := F0 m 67 ls []) rfl ?_
              replace hP : va_P D classes [((Va 0), .inr (7, [.ref (Va 1), .int vy_20, .int vy_21])), ((Va 1), .inl (tc 0, 400, .inl vy_22)), ((Ta 0), .inr (10, [.ref (Ta 1), .int (Tv 0), .int sv_237, .int sv_238, .int sv_239, .int sv_227])), ((Ta 1), .inl (tc 0, 400, .inl (Tf 1)))] H := hP₀
              replace hD : va_D A [((Va 0), .inr (7, [.ref (Va 1), .int vy_20, .int vy_21])), ((Va 1), .inl (tc 0, 400, .inl vy_22)), ((Ta 0), .inr (10, [.ref (Ta 1), .int (Tv 0), .int sv_237, .int sv_238, .int sv_239, .int sv_227])), ((Ta 1), .inl (tc 0, 400, .inl (Tf 1)))] := hD₀
              replace hS := hS₀
              clear hP₀ hD₀ hS₀
              refine lv_aload_n hx hb dX7_read_67 rfl (lv_at hl 1 rfl) ?_
              refine lv_aload_n hx hb dX7_read_68 rfl (lv_at hl 2 rfl) ?_
              refine cV (a := (Va 0)) (As := [.ref (Ta 0)]) (rest := []) (wr := []) ⟨hx, hb, hml, hown, hts⟩ hK hX hA (cu_kX7_readSum l D tc sk (Va 0) (Va 1) vy_20 vy_21 vy_22 (Ta 0) (Ta 1) (Tv 0) sv_237 sv_238 sv_239 sv_227 (Tf 1) ro_242 lq_39 pf_240 pf_32 h_by pf_241 cd_244 ck_245) k_624 k_621 k_623 k_7 k_99 pl_X7_readSum ⟨Nat.le_of_ble_eq_true rfl, Nat.le_of_ble_eq_true rfl⟩ rfl rfl (va_recv hK hP (ci := 7) (q0 := 0) rfl rfl) hP hD hS [0, 1, 2, 3] [] rfl rfl rfl rfl rfl (by decide) rfl hl.1 rfl (Nat.le_of_ble_eq_true rfl) dX7_read_69 ⟨Nat.le_of_ble_eq_true rfl, Nat.le_of_ble_eq_true rfl⟩ (fun v_246 u_247 H locs hv_248 hP₀ hD₀ hS₀ => ?_)
              obtain ⟨sv_249, sv_250, sv_251, sv_252, sv_253, sv_254, sv_255⟩ := u_247
              obtain ⟨rfl, pf_256, pf_257, pf_258, pf_259, pf_260⟩ := hv_248
              have pf_256 : 0 ≤ ((Tv 0) : Int32).toInt ∧ ((Tv 0) : Int32).toInt ≤ 400 ∧ 0 ≤ (sv_252 : Int32).toInt ∧ (sv_252 : Int32).toInt ≤ 400 ∧ 0 ≤ (sv_253 : Int32).toInt ∧ (sv_253 : Int32).toInt ≤ 400 := pf_256
              have pf_257 : 0 ≤ (sv_249 : Int32).toInt ∧ (sv_249 : Int32).toInt ≤ 400 := pf_257
              have pf_258 : TpR (Tf 1) (Tv 0) (pz_b ro_242 (pz_sum (cB (Tf 1) (Tv 0)))) sv_252 sv_253 sv_254 sv_255 := pf_258
              obtain ⟨ro_261, ero_261⟩ : ∃ z : Except Int (Nat × Nat), z = (pz_b ro_242 (pz_sum (cB (Tf 1) (Tv 0)))) := ⟨_, rfl⟩
              rw [← ero_261] at pf_258
              have tb_262 : TpB (rTE (cB (Tf 1) (Tv 0)) ro_261) sv_253 sv_255 := TpR.tb pf_258
              have pf_259 : Ctd (pz_b ro_242 (pz_sum (cB (Tf 1) (Tv 0)))) sv_250 := pf_259
              rw [← ero_261] at pf_259
              have pf_260 : CdK sv_251 sv_249 (pz_b ro_242 (pz_sum (cB (Tf 1) (Tv 0)))) (Ap ro_242 (lsum (cB (Tf 1) (Tv 0))) lq_39) := pf_260
              rw [← ero_261] at pf_260
              obtain ⟨ro_263, ero_263⟩ : ∃ z : List Int, z = (Ap ro_242 (lsum (cB (Tf 1) (Tv 0))) lq_39) := ⟨_, rfl⟩
              rw [← ero_263] at pf_260
              refine W.eq (g2 := F0 m 72 ls []) rfl ?_
              replace hP : va_P D classes [((Va 0), .inr (7, [.ref (Va 1), .int sv_249, .int sv_250])), ((Va 1), .inl (tc 0, 400, .inl sv_251)), ((Ta 0), .inr (10, [.ref (Ta 1), .int (Tv 0), .int sv_252, .int sv_253, .int sv_254, .int sv_255])), ((Ta 1), .inl (tc 0, 400, .inl (Tf 1)))] H := hP₀
              replace hD : va_D A [((Va 0), .inr (7, [.ref (Va 1), .int sv_249, .int sv_250])), ((Va 1), .inl (tc 0, 400, .inl sv_251)), ((Ta 0), .inr (10, [.ref (Ta 1), .int (Tv 0), .int sv_252, .int sv_253, .int sv_254, .int sv_255])), ((Ta 1), .inl (tc 0, 400, .inl (Tf 1)))] := hD₀
              replace hS := hS₀
              clear hP₀ hD₀ hS₀
              refine lv_aload_n hx hb dX7_read_72 rfl (lv_at hl 2 rfl) ?_
              refine va_ldcS hx hb hown (sx_3 hX) dX7_read_73 ?_
              have ha_264 : (3 : Nat) < 7 := by
                have z_1 := Int32.le_iff_toInt_le.mp (Int32.not_lt.mp c_43)
                have z_2 := congrArg Int32.toInt c_92
                have z_3 : ¬ (r_97 : Int32).toInt = (0 : Int32).toInt := fun z => c_102 (Int32.toInt_inj.mp z)
                have z_4 := congrArg Int32.toInt c_105
                have y_0 : (0 : Int32).toInt = 0 := by decide
                have y_12 : (12 : Int32).toInt = 12 := by decide
                have y_3 : (3 : Int32).toInt = 3 := by decide
                omega
              refine cV (a := (Ta 0)) (As := [.ref (sk.1 3)]) (rest := []) (wr := [((Va 0), .inr (7, [.ref (Va 1), .int sv_249, .int sv_250])), ((Va 1), .inl (tc 0, 400, .inl sv_251))]) ⟨hx, hb, hml, hown, hts⟩ hK hX hA (cu_fX10_takesWord l D tc sk (Ta 0) (Ta 1) (Tv 0) sv_252 sv_253 sv_254 sv_255 (Tf 1) 3 ro_261 ha_264 pf_256 h_by pf_258) k_650 k_647 k_648 k_649 k_96 pl_X10_takesWord ⟨Nat.le_of_ble_eq_true rfl, Nat.le_of_ble_eq_true rfl⟩ rfl rfl (va_recv hK hP (ci := 10) (q0 := 2) rfl rfl) hP hD hS [2, 3] [0, 1] rfl rfl rfl rfl rfl (by decide) rfl hl.1 rfl (Nat.le_of_ble_eq_true rfl) dX7_read_75 ⟨Nat.le_of_ble_eq_true rfl, Nat.le_of_ble_eq_true rfl⟩ (fun v_265 u_266 H locs hv_267 hP₀ hD₀ hS₀ => ?_)
              obtain ⟨sv_268, sv_269, sv_270⟩ := u_266
              obtain ⟨r_272, rfl, he_273, pf_271, hm_275, hm_276⟩ := hv_267
              have he_273 : (r_272.toInt = 0 ∨ r_272.toInt = 1) := he_273
              have pf_271 : 0 ≤ ((Tv 0) : Int32).toInt ∧ ((Tv 0) : Int32).toInt ≤ 400 ∧ 0 ≤ (sv_268 : Int32).toInt ∧ (sv_268 : Int32).toInt ≤ 400 ∧ 0 ≤ (sv_269 : Int32).toInt ∧ (sv_269 : Int32).toInt ≤ 400 := pf_271
              refine W.eq (g2 := F0 m 78 ls [.int r_272]) rfl ?_
              replace hP : va_P D classes [((Va 0), .inr (7, [.ref (Va 1), .int sv_249, .int sv_250])), ((Va 1), .inl (tc 0, 400, .inl sv_251)), ((Ta 0), .inr (10, [.ref (Ta 1), .int (Tv 0), .int sv_268, .int sv_269, .int sv_270, .int sv_255])), ((Ta 1), .inl (tc 0, 400, .inl (Tf 1)))] H := hP₀
              replace hD : va_D A [((Va 0), .inr (7, [.ref (Va 1), .int sv_249, .int sv_250])), ((Va 1), .inl (tc 0, 400, .inl sv_251)), ((Ta 0), .inr (10, [.ref (Ta 1), .int (Tv 0), .int sv_268, .int sv_269, .int sv_270, .int sv_255])), ((Ta 1), .inl (tc 0, 400, .inl (Tf 1)))] := hD₀
              replace hS := hS₀
              clear hP₀ hD₀ hS₀
              refine lv_if_eq (tgt := 96) hx hb dX7_read_78 (by decide) (fun c_277 => ?_) (fun c_277 => ?_)
              · skip
                have hz_280 : (r_272 : Int32).toInt = 0 := by
                  have z_1 := Int32.le_iff_toInt_le.mp (Int32.not_lt.mp c_43)
                  have z_2 := congrArg Int32.toInt c_92
                  have z_3 : ¬ (r_97 : Int32).toInt = (0 : Int32).toInt := fun z => c_102 (Int32.toInt_inj.mp z)
                  have z_4 := congrArg Int32.toInt c_105
                  have z_5 := congrArg Int32.toInt c_277
                  have y_0 : (0 : Int32).toInt = 0 := by decide
                  have y_12 : (12 : Int32).toInt = 12 := by decide
                  omega
                obtain ⟨pf_278, pf_279⟩ := hm_276 hz_280
                have pf_278 : NWd (cB (Tf 1) (Tv 0)) (wS (3 : Nat)) ro_261 := pf_278
                have pf_279 : TpR (Tf 1) (Tv 0) ro_261 sv_268 sv_269 sv_270 sv_255 := pf_279
                have tb_281 : TpB (rTE (cB (Tf 1) (Tv 0)) ro_261) sv_269 sv_255 := TpR.tb pf_279
                refine lv_aload_n hx hb dX7_read_96 rfl (lv_at hl 1 rfl) ?_
                refine lv_bipush (v := (-2)) hx hb dX7_read_97 (by decide) ?_
                refine cV (a := (Va 0)) (As := [.int (-2)]) (rest := []) (wr := [((Ta 0), .inr (10, [.ref (Ta 1), .int (Tv 0), .int sv_268, .int sv_269, .int sv_270, .int sv_255])), ((Ta 1), .inl (tc 0, 400, .inl (Tf 1)))]) ⟨hx, hb, hml, hown, hts⟩ hK hX hA (cu_kX7_put l D tc sk (Va 0) (Va 1) sv_249 sv_250 sv_251 (-2) ro_261 ro_263 pf_257 pf_260) k_642 k_639 k_641 k_10 k_99 pl_X7_put ⟨Nat.le_of_ble_eq_true rfl, Nat.le_of_ble_eq_true rfl⟩ rfl rfl (va_recv hK hP (ci := 7) (q0 := 0) rfl rfl) hP hD hS [0, 1] [2, 3] rfl rfl rfl rfl rfl (by decide) rfl hl.1 rfl (Nat.le_of_ble_eq_true rfl) dX7_read_99 ⟨Nat.le_of_ble_eq_true rfl, Nat.le_of_ble_eq_true rfl⟩ (fun v_282 u_283 H locs hv_284 hP₀ hD₀ hS₀ => ?_)
                obtain ⟨sv_285, sv_286⟩ := u_283
                obtain ⟨rfl, pf_287, pf_288⟩ := hv_284
                have pf_287 : 0 ≤ (sv_285 : Int32).toInt ∧ (sv_285 : Int32).toInt ≤ 400 := pf_287
                have pf_288 : CdK sv_286 sv_285 ro_261 (ro_263 ++ [((-2) : Int32).toInt]) := pf_288
                rw [show ((-2) : Int32).toInt = -2 by decide] at pf_288
                obtain ⟨ro_289, ero_289⟩ : ∃ z : List Int, z = (ro_263 ++ [-2]) := ⟨_, rfl⟩
                rw [← ero_289] at pf_288
                refine W.eq (g2 := F0 m 102 ls []) rfl ?_
                replace hP : va_P D classes [((Ta 0), .inr (10, [.ref (Ta 1), .int (Tv 0), .int sv_268, .int sv_269, .int sv_270, .int sv_255])), ((Ta 1), .inl (tc 0, 400, .inl (Tf 1))), ((Va 0), .inr (7, [.ref (Va 1), .int sv_285, .int sv_250])), ((Va 1), .inl (tc 0, 400, .inl sv_286))] H := hP₀
                replace hD : va_D A [((Ta 0), .inr (10, [.ref (Ta 1), .int (Tv 0), .int sv_268, .int sv_269, .int sv_270, .int sv_255])), ((Ta 1), .inl (tc 0, 400, .inl (Tf 1))), ((Va 0), .inr (7, [.ref (Va 1), .int sv_285, .int sv_250])), ((Va 1), .inl (tc 0, 400, .inl sv_286))] := hD₀
                replace hS := hS₀
                clear hP₀ hD₀ hS₀
                obtain ⟨x_290, ex_290⟩ : ∃ y : Int32, y = vy_19 + 1 := ⟨_, rfl⟩
                refine lv_iinc (v := x_290) (lv' := [(2, .int x_290), (0, .ref (Va 0)), (1, .ref (Ta 0))]) hx hb dX7_read_102 hl (k := 0) rfl (by rw [ex_290]; rfl) (by decide) rfl (fun ls hl₀ => ?_)
                replace hl := hl₀
                clear hl₀
                refine lv_goto (tgt := 16) hx hb dX7_read_105 (by decide) ?_
                have hb_291 : 14 - (x_290 : Int32).toInt < 14 - (vy_19 : Int32).toInt ∧ 1 ≤ 14 - (vy_19 : Int32).toInt := by
                  have z_1 := Int32.le_iff_toInt_le.mp (Int32.not_lt.mp c_43)
                  have z_2 := congrArg Int32.toInt c_92
                  have z_3 : ¬ (r_97 : Int32).toInt = (0 : Int32).toInt := fun z => c_102 (Int32.toInt_inj.mp z)
                  have z_4 := congrArg Int32.toInt c_105
                  have z_5 := congrArg Int32.toInt c_277
                  have y_0 : (0 : Int32).toInt = 0 := by decide
                  have y_12 : (12 : Int32).toInt = 12 := by decide
                  have y_1 : (1 : Int32).toInt = 1 := by decide
                  have t_x_290 : x_290.toInt = (vy_19 : Int32).toInt + (1 : Int32).toInt := by rw [ex_290]; exact add_toInt (by omega) (by omega)
                  omega
                have ha_292 : 0 ≤ (x_290 : Int32).toInt ∧ (x_290 : Int32).toInt ≤ 13 := by
                  have z_1 := Int32.le_iff_toInt_le.mp (Int32.not_lt.mp c_43)
                  have z_2 := congrArg Int32.toInt c_92
                  have z_3 : ¬ (r_97 : Int32).toInt = (0 : Int32).toInt := fun z => c_102 (Int32.toInt_inj.mp z)
                  have z_4 := congrArg Int32.toInt c_105
                  have z_5 := congrArg Int32.toInt c_277
                  have y_0 : (0 : Int32).toInt = 0 := by decide
                  have y_12 : (12 : Int32).toInt = 12 := by decide
                  have y_1 : (1 : Int32).toInt = 1 := by decide
                  have t_x_290 : x_290.toInt = (vy_19 : Int32).toInt + (1 : Int32).toInt := by rw [ex_290]; exact add_toInt (by omega) (by omega)
                  omega
                have hw_293 : TWd (cB (Tf 1) (Tv 0)) pz_buy rq_35 := by
                  rw [← wS1]
                  exact pf_103
                have hr_294 : (vy_19 : Int32).toInt.toNat = 12 := by
                  have z_1 := Int32.le_iff_toInt_le.mp (Int32.not_lt.mp c_43)
                  have z_2 := congrArg Int32.toInt c_92
                  have z_3 : ¬ (r_97 : Int32).toInt = (0 : Int32).toInt := fun z => c_102 (Int32.toInt_inj.mp z)
                  have z_4 := congrArg Int32.toInt c_105
                  have z_5 := congrArg Int32.toInt c_277
                  have y_0 : (0 : Int32).toInt = 0 := by decide
                  have y_12 : (12 : Int32).toInt = 12 := by decide
                  omega
                have hE_295 : pz_b rq_35 (pz_cla (cB (Tf 1) (Tv 0)) (vy_19 : Int32).toInt.toNat) = ro_261 := by
                  rw [ero_261, ero_242, ero_230]
                  exact ((cla_12 hw_293 hr_294).trans (by cases rq_35 <;> rfl))
                have hu_296 : TpR (Tf 1) (Tv 0) (pz_b rq_35 (pz_cla (cB (Tf 1) (Tv 0)) (vy_19 : Int32).toInt.toNat)) sv_268 sv_269 sv_270 sv_255 := by rw [hE_295]; exact pf_279
                have hu_297 : Ctd (pz_b rq_35 (pz_cla (cB (Tf 1) (Tv 0)) (vy_19 : Int32).toInt.toNat)) sv_250 := by rw [hE_295]; exact pf_259
                have hu_298 : CdK sv_286 sv_285 (pz_b rq_35 (pz_cla (cB (Tf 1) (Tv 0)) (vy_19 : Int32).toInt.toNat)) ro_289 := by rw [hE_295]; exact pf_288
                have hu_299 : ∀ t, (pz_b rq_35 (pz_cla (cB (Tf 1) (Tv 0)) (vy_19 : Int32).toInt.toNat)) = .ok t → ∃ s0, rq_35 = .ok s0 ∧ ro_289 = lq_39 ++ ru_1 (ru_cl (cB (Tf 1) (Tv 0)) s0) := by
                  exact cl_er (cla_12 hw_293 hr_294)
                have hi_300 : (x_290 : Int32).toInt = (vy_19 : Int32).toInt + 1 := by
                  have z_1 := Int32.le_iff_toInt_le.mp (Int32.not_lt.mp c_43)
                  have z_2 := congrArg Int32.toInt c_92
                  have z_3 : ¬ (r_97 : Int32).toInt = (0 : Int32).toInt := fun z => c_102 (Int32.toInt_inj.mp z)
                  have z_4 := congrArg Int32.toInt c_105
                  have z_5 := congrArg Int32.toInt c_277
                  have y_0 : (0 : Int32).toInt = 0 := by decide
                  have y_12 : (12 : Int32).toInt = 12 := by decide
                  have y_1 : (1 : Int32).toInt = 1 := by decide
                  have t_x_290 : x_290.toInt = (vy_19 : Int32).toInt + (1 : Int32).toInt := by rw [ex_290]; exact add_toInt (by omega) (by omega)
                  omega
                have hr_301 : (vy_19 : Int32).toInt = 0 := by
                  have z_1 := Int32.le_iff_toInt_le.mp (Int32.not_lt.mp c_43)
                  have z_2 := congrArg Int32.toInt c_92
                  have z_3 : ¬ (r_97 : Int32).toInt = (0 : Int32).toInt := fun z => c_102 (Int32.toInt_inj.mp z)
                  have z_4 := congrArg Int32.toInt c_105
                  have z_5 := congrArg Int32.toInt c_277
                  have y_0 : (0 : Int32).toInt = 0 := by decide
                  have y_12 : (12 : Int32).toInt = 12 := by decide
                  omega
                exact ih_28 x_290 sv_285 sv_250 sv_286 sv_268 sv_269 sv_270 sv_255 _ _ _ (by omega) ha_292 pf_271 pf_287 (RcC.next0 hr_301 pf_38 pf_41 hu_296 hu_297 hu_298 hu_299 hi_300) (hP.sub [2, 3, 0, 1] rfl) (hD.sub [2, 3, 0, 1] rfl rfl) hS (lv_sub hl [0, 1, 2] rfl)
              · skip
                have hz_304 : (r_272 : Int32).toInt = 1 := by
                  have z_1 := Int32.le_iff_toInt_le.mp (Int32.not_lt.mp c_43)
                  have z_2 := congrArg Int32.toInt c_92
                  have z_3 : ¬ (r_97 : Int32).toInt = (0 : Int32).toInt := fun z => c_102 (Int32.toInt_inj.mp z)
                  have z_4 := congrArg Int32.toInt c_105
                  have z_5 : ¬ (r_272 : Int32).toInt = (0 : Int32).toInt := fun z => c_277 (Int32.toInt_inj.mp z)
                  have y_0 : (0 : Int32).toInt = 0 := by decide
                  have y_12 : (12 : Int32).toInt = 12 := by decide
                  omega
                obtain ⟨pf_302, pf_303⟩ := hm_275 hz_304
                have pf_302 : TWd (cB (Tf 1) (Tv 0)) (wS (3 : Nat)) ro_261 := pf_302
                have pf_303 : TpR (Tf 1) (Tv 0) (rNX (cB (Tf 1) (Tv 0)) ro_261) sv_268 sv_269 sv_270 sv_255 := pf_303
                obtain ⟨ro_305, ero_305⟩ : ∃ z : Except Int (Nat × Nat), z = (rNX (cB (Tf 1) (Tv 0)) ro_261) := ⟨_, rfl⟩
                rw [← ero_305] at pf_303
                have tb_306 : TpB (rTE (cB (Tf 1) (Tv 0)) ro_305) sv_269 sv_255 := TpR.tb pf_303
                have cd_307 : Ctd ro_305 sv_250 := by rw [ero_305]; exact (Ctd.nx pf_259)
                have ck_308 : CdK sv_251 sv_249 ro_305 ro_263 := by rw [ero_305]; exact (CdK.nx pf_260)
                refine lv_aload_n hx hb dX7_read_81 rfl (lv_at hl 1 rfl) ?_
                refine lv_aload_n hx hb dX7_read_82 rfl (lv_at hl 2 rfl) ?_
                refine lv_iconst (v := 0) hx hb dX7_read_83 (by decide) ?_
                refine cV (a := (Va 0)) (As := [.ref (Ta 0), .int 0]) (rest := []) (wr := []) ⟨hx, hb, hml, hown, hts⟩ hK hX hA (cu_kX7_readTest_0 l D tc sk (Va 0) (Va 1) sv_249 sv_250 sv_251 (Ta 0) (Ta 1) (Tv 0) sv_268 sv_269 sv_270 sv_255 (Tf 1) ro_305 ro_263 pf_271 pf_257 h_by pf_303 cd_307 ck_308) k_655 k_652 k_654 k_11 k_99 pl_X7_readTest ⟨Nat.le_of_ble_eq_true rfl, Nat.le_of_ble_eq_true rfl⟩ rfl rfl (va_recv hK hP (ci := 7) (q0 := 0) rfl rfl) hP hD hS [0, 1, 2, 3] [] rfl rfl rfl rfl rfl (by decide) rfl hl.1 rfl (Nat.le_of_ble_eq_true rfl) dX7_read_84 ⟨Nat.le_of_ble_eq_true rfl, Nat.le_of_ble_eq_true rfl⟩ (fun v_309 u_310 H locs hv_311 hP₀ hD₀ hS₀ => ?_)
                obtain ⟨sv_312, sv_313, sv_314, sv_315, sv_316, sv_317, sv_318⟩ := u_310
                obtain ⟨rfl, pf_319, pf_320, pf_321, pf_322, pf_323⟩ := hv_311
                have pf_319 : 0 ≤ ((Tv 0) : Int32).toInt ∧ ((Tv 0) : Int32).toInt ≤ 400 ∧ 0 ≤ (sv_315 : Int32).toInt ∧ (sv_315 : Int32).toInt ≤ 400 ∧ 0 ≤ (sv_316 : Int32).toInt ∧ (sv_316 : Int32).toInt ≤ 400 := pf_319
                have pf_320 : 0 ≤ (sv_312 : Int32).toInt ∧ (sv_312 : Int32).toInt ≤ 400 := pf_320
                have pf_321 : TpR (Tf 1) (Tv 0) (pz_b ro_305 (pz_tst (cB (Tf 1) (Tv 0)) (pz_fact (cB (Tf 1) (Tv 0)) 10))) sv_315 sv_316 sv_317 sv_318 := pf_321
                obtain ⟨ro_324, ero_324⟩ : ∃ z : Except Int (Nat × Nat), z = (pz_b ro_305 (pz_tst (cB (Tf 1) (Tv 0)) (pz_fact (cB (Tf 1) (Tv 0)) 10))) := ⟨_, rfl⟩
                rw [← ero_324] at pf_321
                have tb_325 : TpB (rTE (cB (Tf 1) (Tv 0)) ro_324) sv_316 sv_318 := TpR.tb pf_321
                have pf_322 : Ctd (pz_b ro_305 (pz_tst (cB (Tf 1) (Tv 0)) (pz_fact (cB (Tf 1) (Tv 0)) 10))) sv_313 := pf_322
                rw [← ero_324] at pf_322
                have pf_323 : CdK sv_314 sv_312 (pz_b ro_305 (pz_tst (cB (Tf 1) (Tv 0)) (pz_fact (cB (Tf 1) (Tv 0)) 10))) (Ap ro_305 (ltst (cB (Tf 1) (Tv 0)) 10) ro_263) := pf_323
                rw [← ero_324] at pf_323
                obtain ⟨ro_326, ero_326⟩ : ∃ z : List Int, z = (Ap ro_305 (ltst (cB (Tf 1) (Tv 0)) 10) ro_263) := ⟨_, rfl⟩
                rw [← ero_326] at pf_323
                refine W.eq (g2 := F0 m 87 ls []) rfl ?_
                replace hP : va_P D classes [((Va 0), .inr (7, [.ref (Va 1), .int sv_312, .int sv_313])), ((Va 1), .inl (tc 0, 400, .inl sv_314)), ((Ta 0), .inr (10, [.ref (Ta 1), .int (Tv 0), .int sv_315, .int sv_316, .int sv_317, .int sv_318])), ((Ta 1), .inl (tc 0, 400, .inl (Tf 1)))] H := hP₀
                replace hD : va_D A [((Va 0), .inr (7, [.ref (Va 1), .int sv_312, .int sv_313])), ((Va 1), .inl (tc 0, 400, .inl sv_314)), ((Ta 0), .inr (10, [.ref (Ta 1), .int (Tv 0), .int sv_315, .int sv_316, .int sv_317, .int sv_318])), ((Ta 1), .inl (tc 0, 400, .inl (Tf 1)))] := hD₀
                replace hS := hS₀
                clear hP₀ hD₀ hS₀
                refine lv_aload_n hx hb dX7_read_87 rfl (lv_at hl 1 rfl) ?_
                refine lv_bipush (v := (-3)) hx hb dX7_read_88 (by decide) ?_
                refine cV (a := (Va 0)) (As := [.int (-3)]) (rest := []) (wr := [((Ta 0), .inr (10, [.ref (Ta 1), .int (Tv 0), .int sv_315, .int sv_316, .int sv_317, .int sv_318])), ((Ta 1), .inl (tc 0, 400, .inl (Tf 1)))]) ⟨hx, hb, hml, hown, hts⟩ hK hX hA (cu_kX7_put l D tc sk (Va 0) (Va 1) sv_312 sv_313 sv_314 (-3) ro_324 ro_326 pf_320 pf_323) k_642 k_639 k_641 k_10 k_99 pl_X7_put ⟨Nat.le_of_ble_eq_true rfl, Nat.le_of_ble_eq_true rfl⟩ rfl rfl (va_recv hK hP (ci := 7) (q0 := 0) rfl rfl) hP hD hS [0, 1] [2, 3] rfl rfl rfl rfl rfl (by decide) rfl hl.1 rfl (Nat.le_of_ble_eq_true rfl) dX7_read_90 ⟨Nat.le_of_ble_eq_true rfl, Nat.le_of_ble_eq_true rfl⟩ (fun v_327 u_328 H locs hv_329 hP₀ hD₀ hS₀ => ?_)
                obtain ⟨sv_330, sv_331⟩ := u_328
                obtain ⟨rfl, pf_332, pf_333⟩ := hv_329
                have pf_332 : 0 ≤ (sv_330 : Int32).toInt ∧ (sv_330 : Int32).toInt ≤ 400 := pf_332
                have pf_333 : CdK sv_331 sv_330 ro_324 (ro_326 ++ [((-3) : Int32).toInt]) := pf_333
                rw [show ((-3) : Int32).toInt = -3 by decide] at pf_333
                obtain ⟨ro_334, ero_334⟩ : ∃ z : List Int, z = (ro_326 ++ [-3]) := ⟨_, rfl⟩
                rw [← ero_334] at pf_333
                refine W.eq (g2 := F0 m 93 ls []) rfl ?_
                replace hP : va_P D classes [((Ta 0), .inr (10, [.ref (Ta 1), .int (Tv 0), .int sv_315, .int sv_316, .int sv_317, .int sv_318])), ((Ta 1), .inl (tc 0, 400, .inl (Tf 1))), ((Va 0), .inr (7, [.ref (Va 1), .int sv_330, .int sv_313])), ((Va 1), .inl (tc 0, 400, .inl sv_331))] H := hP₀
                replace hD : va_D A [((Ta 0), .inr (10, [.ref (Ta 1), .int (Tv 0), .int sv_315, .int sv_316, .int sv_317, .int sv_318])), ((Ta 1), .inl (tc 0, 400, .inl (Tf 1))), ((Va 0), .inr (7, [.ref (Va 1), .int sv_330, .int sv_313])), ((Va 1), .inl (tc 0, 400, .inl sv_331))] := hD₀
                replace hS := hS₀
                clear hP₀ hD₀ hS₀
                refine lv_goto (tgt := 102) hx hb dX7_read_93 (by decide) ?_
                obtain ⟨x_335, ex_335⟩ : ∃ y : Int32, y = vy_19 + 1 := ⟨_, rfl⟩
                refine lv_iinc (v := x_335) (lv' := [(2, .int x_335), (0, .ref (Va 0)), (1, .ref (Ta 0))]) hx hb dX7_read_102 hl (k := 0) rfl (by rw [ex_335]; rfl) (by decide) rfl (fun ls hl₀ => ?_)
                replace hl := hl₀
                clear hl₀
                refine lv_goto (tgt := 16) hx hb dX7_read_105 (by decide) ?_
                have hb_336 : 14 - (x_335 : Int32).toInt < 14 - (vy_19 : Int32).toInt ∧ 1 ≤ 14 - (vy_19 : Int32).toInt := by
                  have z_1 := Int32.le_iff_toInt_le.mp (Int32.not_lt.mp c_43)
                  have z_2 := congrArg Int32.toInt c_92
                  have z_3 : ¬ (r_97 : Int32).toInt = (0 : Int32).toInt := fun z => c_102 (Int32.toInt_inj.mp z)
                  have z_4 := congrArg Int32.toInt c_105
                  have z_5 : ¬ (r_272 : Int32).toInt = (0 : Int32).toInt := fun z => c_277 (Int32.toInt_inj.mp z)
                  have y_0 : (0 : Int32).toInt = 0 := by decide
                  have y_12 : (12 : Int32).toInt = 12 := by decide
                  have y_1 : (1 : Int32).toInt = 1 := by decide
                  have t_x_335 : x_335.toInt = (vy_19 : Int32).toInt + (1 : Int32).toInt := by rw [ex_335]; exact add_toInt (by omega) (by omega)
                  omega
                have ha_337 : 0 ≤ (x_335 : Int32).toInt ∧ (x_335 : Int32).toInt ≤ 13 := by
                  have z_1 := Int32.le_iff_toInt_le.mp (Int32.not_lt.mp c_43)
                  have z_2 := congrArg Int32.toInt c_92
                  have z_3 : ¬ (r_97 : Int32).toInt = (0 : Int32).toInt := fun z => c_102 (Int32.toInt_inj.mp z)
                  have z_4 := congrArg Int32.toInt c_105
                  have z_5 : ¬ (r_272 : Int32).toInt = (0 : Int32).toInt := fun z => c_277 (Int32.toInt_inj.mp z)
                  have y_0 : (0 : Int32).toInt = 0 := by decide
                  have y_12 : (12 : Int32).toInt = 12 := by decide
                  have y_1 : (1 : Int32).toInt = 1 := by decide
                  have t_x_335 : x_335.toInt = (vy_19 : Int32).toInt + (1 : Int32).toInt := by rw [ex_335]; exact add_toInt (by omega) (by omega)
                  omega
                have hw_338 : TWd (cB (Tf 1) (Tv 0)) pz_buy rq_35 := by
                  rw [← wS1]
                  exact pf_103
                have hr_339 : (vy_19 : Int32).toInt.toNat = 12 := by
                  have z_1 := Int32.le_iff_toInt_le.mp (Int32.not_lt.mp c_43)
                  have z_2 := congrArg Int32.toInt c_92
                  have z_3 : ¬ (r_97 : Int32).toInt = (0 : Int32).toInt := fun z => c_102 (Int32.toInt_inj.mp z)
                  have z_4 := congrArg Int32.toInt c_105
                  have z_5 : ¬ (r_272 : Int32).toInt = (0 : Int32).toInt := fun z => c_277 (Int32.toInt_inj.mp z)
                  have y_0 : (0 : Int32).toInt = 0 := by decide
                  have y_12 : (12 : Int32).toInt = 12 := by decide
                  omega
                have hE_340 : pz_b rq_35 (pz_cla (cB (Tf 1) (Tv 0)) (vy_19 : Int32).toInt.toNat) = ro_324 := by
                  rw [ero_324, ero_305, ero_261, ero_242, ero_230]
                  exact ((cla_12 hw_338 hr_339).trans (by cases rq_35 <;> rfl))
                have hu_341 : TpR (Tf 1) (Tv 0) (pz_b rq_35 (pz_cla (cB (Tf 1) (Tv 0)) (vy_19 : Int32).toInt.toNat)) sv_315 sv_316 sv_317 sv_318 := by rw [hE_340]; exact pf_321
                have hu_342 : Ctd (pz_b rq_35 (pz_cla (cB (Tf 1) (Tv 0)) (vy_19 : Int32).toInt.toNat)) sv_313 := by rw [hE_340]; exact pf_322
                have hu_343 : CdK sv_331 sv_330 (pz_b rq_35 (pz_cla (cB (Tf 1) (Tv 0)) (vy_19 : Int32).toInt.toNat)) ro_334 := by rw [hE_340]; exact pf_333
                have hu_344 : ∀ t, (pz_b rq_35 (pz_cla (cB (Tf 1) (Tv 0)) (vy_19 : Int32).toInt.toNat)) = .ok t → ∃ s0, rq_35 = .ok s0 ∧ ro_334 = lq_39 ++ ru_1 (ru_cl (cB (Tf 1) (Tv 0)) s0) := by
                  exact cl_er (cla_12 hw_338 hr_339)
                have hi_345 : (x_335 : Int32).toInt = (vy_19 : Int32).toInt + 1 := by
                  have z_1 := Int32.le_iff_toInt_le.mp (Int32.not_lt.mp c_43)
                  have z_2 := congrArg Int32.toInt c_92
                  have z_3 : ¬ (r_97 : Int32).toInt = (0 : Int32).toInt := fun z => c_102 (Int32.toInt_inj.mp z)
                  have z_4 := congrArg Int32.toInt c_105
                  have z_5 : ¬ (r_272 : Int32).toInt = (0 : Int32).toInt := fun z => c_277 (Int32.toInt_inj.mp z)
                  have y_0 : (0 : Int32).toInt = 0 := by decide
                  have y_12 : (12 : Int32).toInt = 12 := by decide
                  have y_1 : (1 : Int32).toInt = 1 := by decide
                  have t_x_335 : x_335.toInt = (vy_19 : Int32).toInt + (1 : Int32).toInt := by rw [ex_335]; exact add_toInt (by omega) (by omega)
                  omega
                have hr_346 : (vy_19 : Int32).toInt = 0 := by
                  have z_1 := Int32.le_iff_toInt_le.mp (Int32.not_lt.mp c_43)
                  have z_2 := congrArg Int32.toInt c_92
                  have z_3 : ¬ (r_97 : Int32).toInt = (0 : Int32).toInt := fun z => c_102 (Int32.toInt_inj.mp z)
                  have z_4 := congrArg Int32.toInt c_105
                  have z_5 : ¬ (r_272 : Int32).toInt = (0 : Int32).toInt := fun z => c_277 (Int32.toInt_inj.mp z)
                  have y_0 : (0 : Int32).toInt = 0 := by decide
                  have y_12 : (12 : Int32).toInt = 12 := by decide
                  omega
                exact ih_28 x_335 sv_330 sv_313 sv_331 sv_315 sv_316 sv_317 sv_318 _ _ _ (by omega) ha_337 pf_319 pf_332 (RcC.next0 hr_346 pf_38 pf_41 hu_341 hu_342 hu_343 hu_344 hi_345) (hP.sub [2, 3, 0, 1] rfl) (hD.sub [2, 3, 0, 1] rfl rfl) hS (lv_sub hl [0, 1, 2] rfl)
          · skip
            have hz_348 : (r_97 : Int32).toInt = 0 := by
              have z_1 := Int32.le_iff_toInt_le.mp (Int32.not_lt.mp c_43)
              have z_2 := congrArg Int32.toInt c_92
              have z_3 := congrArg Int32.toInt c_102
              have y_0 : (0 : Int32).toInt = 0 := by decide
              have y_12 : (12 : Int32).toInt = 12 := by decide
              omega
            obtain pf_347 := hm_101 hz_348
            have pf_347 : NWd (cB (Tf 1) (Tv 0)) (wS (1 : Nat)) rq_35 := pf_347
            refine lv_aload_n hx hb dX7_read_44 rfl (lv_at hl 2 rfl) ?_
            refine lv_iconst (v := 0) hx hb dX7_read_45 (by decide) ?_
            have ha_349 : 0 ≤ (0 : Int32).toInt ∧ (0 : Int32).toInt ≤ 4 := by
              have z_1 := Int32.le_iff_toInt_le.mp (Int32.not_lt.mp c_43)
              have z_2 := congrArg Int32.toInt c_92
              have z_3 := congrArg Int32.toInt c_102
              have y_0 : (0 : Int32).toInt = 0 := by decide
              have y_12 : (12 : Int32).toInt = 12 := by decide
              omega
            have ha_350 : (0 : Int32).toInt = (0 : Int) := by
              have z_1 := Int32.le_iff_toInt_le.mp (Int32.not_lt.mp c_43)
              have z_2 := congrArg Int32.toInt c_92
              have z_3 := congrArg Int32.toInt c_102
              have y_0 : (0 : Int32).toInt = 0 := by decide
              have y_12 : (12 : Int32).toInt = 12 := by decide
              omega
            refine cV (a := (Ta 0)) (As := [.int 0]) (rest := []) (wr := [((Va 0), .inr (7, [.ref (Va 1), .int vy_20, .int vy_21])), ((Va 1), .inl (tc 0, 400, .inl vy_22))]) ⟨hx, hb, hml, hown, hts⟩ hK hX hA (cu_fX10_fail l D tc sk (Ta 0) (Ta 1) (Tv 0) vy_23 vy_24 vy_25 vy_26 (Tf 1) 0 rq_35 0 pf_31 pf_36 ha_349 ha_350) k_557 k_619 k_555 k_556 k_96 pl_X10_fail ⟨Nat.le_of_ble_eq_true rfl, Nat.le_of_ble_eq_true rfl⟩ rfl rfl (va_recv hK hP (ci := 10) (q0 := 2) rfl rfl) hP hD hS [2, 3] [0, 1] rfl rfl rfl rfl rfl (by decide) rfl hl.1 rfl (Nat.le_of_ble_eq_true rfl) dX7_read_46 ⟨Nat.le_of_ble_eq_true rfl, Nat.le_of_ble_eq_true rfl⟩ (fun v_351 u_352 H locs hv_353 hP₀ hD₀ hS₀ => ?_)
            obtain ⟨sv_354, sv_355⟩ := u_352
            obtain ⟨rfl, pf_356, pf_357⟩ := hv_353
            have pf_356 : 0 ≤ ((Tv 0) : Int32).toInt ∧ ((Tv 0) : Int32).toInt ≤ 400 ∧ 0 ≤ (vy_23 : Int32).toInt ∧ (vy_23 : Int32).toInt ≤ 400 ∧ 0 ≤ (vy_24 : Int32).toInt ∧ (vy_24 : Int32).toInt ≤ 400 := pf_356
            have pf_357 : TpR (Tf 1) (Tv 0) (rER (0 : Int) rq_35) vy_23 vy_24 sv_354 sv_355 := pf_357
            obtain ⟨ro_358, ero_358⟩ : ∃ z : Except Int (Nat × Nat), z = (rER 0 rq_35) := ⟨_, rfl⟩
            rw [← ero_358] at pf_357
            have tb_359 : TpB (rTE (cB (Tf 1) (Tv 0)) ro_358) vy_24 sv_355 := TpR.tb pf_357
            have cd_360 : Ctd ro_358 vy_21 := by rw [ero_358]; exact (Ctd.er)
            have ck_361 : CdK vy_22 vy_20 ro_358 lq_39 := by rw [ero_358]; exact (CdK.er)
            refine W.eq (g2 := F0 m 49 ls []) rfl ?_
            replace hP : va_P D classes [((Va 0), .inr (7, [.ref (Va 1), .int vy_20, .int vy_21])), ((Va 1), .inl (tc 0, 400, .inl vy_22)), ((Ta 0), .inr (10, [.ref (Ta 1), .int (Tv 0), .int vy_23, .int vy_24, .int sv_354, .int sv_355])), ((Ta 1), .inl (tc 0, 400, .inl (Tf 1)))] H := hP₀
            replace hD : va_D A [((Va 0), .inr (7, [.ref (Va 1), .int vy_20, .int vy_21])), ((Va 1), .inl (tc 0, 400, .inl vy_22)), ((Ta 0), .inr (10, [.ref (Ta 1), .int (Tv 0), .int vy_23, .int vy_24, .int sv_354, .int sv_355])), ((Ta 1), .inl (tc 0, 400, .inl (Tf 1)))] := hD₀
            replace hS := hS₀
            clear hP₀ hD₀ hS₀
            refine lv_goto (tgt := 63) hx hb dX7_read_49 (by decide) ?_
            refine lv_aload_n hx hb dX7_read_63 rfl (lv_at hl 2 rfl) ?_
            refine cV (a := (Ta 0)) (As := []) (rest := []) (wr := [((Va 0), .inr (7, [.ref (Va 1), .int vy_20, .int vy_21])), ((Va 1), .inl (tc 0, 400, .inl vy_22))]) ⟨hx, hb, hml, hown, hts⟩ hK hX hA (cu_fX10_step l D tc sk (Ta 0) (Ta 1) (Tv 0) vy_23 vy_24 sv_354 sv_355 (Tf 1) (rTE (cB (Tf 1) (Tv 0)) ro_358) pf_356 h_by tb_359) k_478 k_620 k_476 k_477 k_96 pl_X10_step ⟨Nat.le_of_ble_eq_true rfl, Nat.le_of_ble_eq_true rfl⟩ rfl rfl (va_recv hK hP (ci := 10) (q0 := 2) rfl rfl) hP hD hS [2, 3] [0, 1] rfl rfl rfl rfl rfl (by decide) rfl hl.1 rfl (Nat.le_of_ble_eq_true rfl) dX7_read_64 ⟨Nat.le_of_ble_eq_true rfl, Nat.le_of_ble_eq_true rfl⟩ (fun v_362 u_363 H locs hv_364 hP₀ hD₀ hS₀ => ?_)
            obtain ⟨sv_365, sv_366, sv_367⟩ := u_363
            obtain ⟨rfl, pf_368, pf_369⟩ := hv_364
            have pf_368 : 0 ≤ ((Tv 0) : Int32).toInt ∧ ((Tv 0) : Int32).toInt ≤ 400 ∧ 0 ≤ (sv_365 : Int32).toInt ∧ (sv_365 : Int32).toInt ≤ 400 ∧ 0 ≤ (sv_366 : Int32).toInt ∧ (sv_366 : Int32).toInt ≤ 400 := pf_368
            have pf_369 : TpR (Tf 1) (Tv 0) (rSK (cB (Tf 1) (Tv 0)) (rTE (cB (Tf 1) (Tv 0)) ro_358)) sv_365 sv_366 sv_367 sv_355 := pf_369
            rw [rNX_eq] at pf_369
            obtain ⟨ro_370, ero_370⟩ : ∃ z : Except Int (Nat × Nat), z = (rNX (cB (Tf 1) (Tv 0)) ro_358) := ⟨_, rfl⟩
            rw [← ero_370] at pf_369
            have tb_371 : TpB (rTE (cB (Tf 1) (Tv 0)) ro_370) sv_366 sv_355 := TpR.tb pf_369
            have cd_372 : Ctd ro_370 vy_21 := by rw [ero_370]; exact (Ctd.nx cd_360)
            have ck_373 : CdK vy_22 vy_20 ro_370 lq_39 := by rw [ero_370]; exact (CdK.nx ck_361)
            refine W.eq (g2 := F0 m 67 ls []) rfl ?_
            replace hP : va_P D classes [((Va 0), .inr (7, [.ref (Va 1), .int vy_20, .int vy_21])), ((Va 1), .inl (tc 0, 400, .inl vy_22)), ((Ta 0), .inr (10, [.ref (Ta 1), .int (Tv 0), .int sv_365, .int sv_366, .int sv_367, .int sv_355])), ((Ta 1), .inl (tc 0, 400, .inl (Tf 1)))] H := hP₀
            replace hD : va_D A [((Va 0), .inr (7, [.ref (Va 1), .int vy_20, .int vy_21])), ((Va 1), .inl (tc 0, 400, .inl vy_22)), ((Ta 0), .inr (10, [.ref (Ta 1), .int (Tv 0), .int sv_365, .int sv_366, .int sv_367, .int sv_355])), ((Ta 1), .inl (tc 0, 400, .inl (Tf 1)))] := hD₀
            replace hS := hS₀
            clear hP₀ hD₀ hS₀
            refine lv_aload_n hx hb dX7_read_67 rfl (lv_at hl 1 rfl) ?_
            refine lv_aload_n hx hb dX7_read_68 rfl (lv_at hl 2 rfl) ?_
            refine cV (a := (Va 0)) (As := [.ref (Ta 0)]) (rest := []) (wr := []) ⟨hx, hb, hml, hown, hts⟩ hK hX hA (cu_kX7_readSum l D tc sk (Va 0) (Va 1) vy_20 vy_21 vy_22 (Ta 0) (Ta 1) (Tv 0) sv_365 sv_366 sv_367 sv_355 (Tf 1) ro_370 lq_39 pf_368 pf_32 h_by pf_369 cd_372 ck_373) k_624 k_621 k_623 k_7 k_99 pl_X7_readSum ⟨Nat.le_of_ble_eq_true rfl, Nat.le_of_ble_eq_true rfl⟩ rfl rfl (va_recv hK hP (ci := 7) (q0 := 0) rfl rfl) hP hD hS [0, 1, 2, 3] [] rfl rfl rfl rfl rfl (by decide) rfl hl.1 rfl (Nat.le_of_ble_eq_true rfl) dX7_read_69 ⟨Nat.le_of_ble_eq_true rfl, Nat.le_of_ble_eq_true rfl⟩ (fun v_374 u_375 H locs hv_376 hP₀ hD₀ hS₀ => ?_)
            obtain ⟨sv_377, sv_378, sv_379, sv_380, sv_381, sv_382, sv_383⟩ := u_375
            obtain ⟨rfl, pf_384, pf_385, pf_386, pf_387, pf_388⟩ := hv_376
            have pf_384 : 0 ≤ ((Tv 0) : Int32).toInt ∧ ((Tv 0) : Int32).toInt ≤ 400 ∧ 0 ≤ (sv_380 : Int32).toInt ∧ (sv_380 : Int32).toInt ≤ 400 ∧ 0 ≤ (sv_381 : Int32).toInt ∧ (sv_381 : Int32).toInt ≤ 400 := pf_384
            have pf_385 : 0 ≤ (sv_377 : Int32).toInt ∧ (sv_377 : Int32).toInt ≤ 400 := pf_385
            have pf_386 : TpR (Tf 1) (Tv 0) (pz_b ro_370 (pz_sum (cB (Tf 1) (Tv 0)))) sv_380 sv_381 sv_382 sv_383 := pf_386
            obtain ⟨ro_389, ero_389⟩ : ∃ z : Except Int (Nat × Nat), z = (pz_b ro_370 (pz_sum (cB (Tf 1) (Tv 0)))) := ⟨_, rfl⟩
            rw [← ero_389] at pf_386
            have tb_390 : TpB (rTE (cB (Tf 1) (Tv 0)) ro_389) sv_381 sv_383 := TpR.tb pf_386
            have pf_387 : Ctd (pz_b ro_370 (pz_sum (cB (Tf 1) (Tv 0)))) sv_378 := pf_387
            rw [← ero_389] at pf_387
            have pf_388 : CdK sv_379 sv_377 (pz_b ro_370 (pz_sum (cB (Tf 1) (Tv 0)))) (Ap ro_370 (lsum (cB (Tf 1) (Tv 0))) lq_39) := pf_388
            rw [← ero_389] at pf_388
            obtain ⟨ro_391, ero_391⟩ : ∃ z : List Int, z = (Ap ro_370 (lsum (cB (Tf 1) (Tv 0))) lq_39) := ⟨_, rfl⟩
            rw [← ero_391] at pf_388
            refine W.eq (g2 := F0 m 72 ls []) rfl ?_
            replace hP : va_P D classes [((Va 0), .inr (7, [.ref (Va 1), .int sv_377, .int sv_378])), ((Va 1), .inl (tc 0, 400, .inl sv_379)), ((Ta 0), .inr (10, [.ref (Ta 1), .int (Tv 0), .int sv_380, .int sv_381, .int sv_382, .int sv_383])), ((Ta 1), .inl (tc 0, 400, .inl (Tf 1)))] H := hP₀
            replace hD : va_D A [((Va 0), .inr (7, [.ref (Va 1), .int sv_377, .int sv_378])), ((Va 1), .inl (tc 0, 400, .inl sv_379)), ((Ta 0), .inr (10, [.ref (Ta 1), .int (Tv 0), .int sv_380, .int sv_381, .int sv_382, .int sv_383])), ((Ta 1), .inl (tc 0, 400, .inl (Tf 1)))] := hD₀
            replace hS := hS₀
            clear hP₀ hD₀ hS₀
            refine lv_aload_n hx hb dX7_read_72 rfl (lv_at hl 2 rfl) ?_
            refine va_ldcS hx hb hown (sx_3 hX) dX7_read_73 ?_
            have ha_392 : (3 : Nat) < 7 := by
              have z_1 := Int32.le_iff_toInt_le.mp (Int32.not_lt.mp c_43)
              have z_2 := congrArg Int32.toInt c_92
              have z_3 := congrArg Int32.toInt c_102
              have y_0 : (0 : Int32).toInt = 0 := by decide
              have y_12 : (12 : Int32).toInt = 12 := by decide
              have y_3 : (3 : Int32).toInt = 3 := by decide
              omega
            refine cV (a := (Ta 0)) (As := [.ref (sk.1 3)]) (rest := []) (wr := [((Va 0), .inr (7, [.ref (Va 1), .int sv_377, .int sv_378])), ((Va 1), .inl (tc 0, 400, .inl sv_379))]) ⟨hx, hb, hml, hown, hts⟩ hK hX hA (cu_fX10_takesWord l D tc sk (Ta 0) (Ta 1) (Tv 0) sv_380 sv_381 sv_382 sv_383 (Tf 1) 3 ro_389 ha_392 pf_384 h_by pf_386) k_650 k_647 k_648 k_649 k_96 pl_X10_takesWord ⟨Nat.le_of_ble_eq_true rfl, Nat.le_of_ble_eq_true rfl⟩ rfl rfl (va_recv hK hP (ci := 10) (q0 := 2) rfl rfl) hP hD hS [2, 3] [0, 1] rfl rfl rfl rfl rfl (by decide) rfl hl.1 rfl (Nat.le_of_ble_eq_true rfl) dX7_read_75 ⟨Nat.le_of_ble_eq_true rfl, Nat.le_of_ble_eq_true rfl⟩ (fun v_393 u_394 H locs hv_395 hP₀ hD₀ hS₀ => ?_)
            obtain ⟨sv_396, sv_397, sv_398⟩ := u_394
            obtain ⟨r_400, rfl, he_401, pf_399, hm_403, hm_404⟩ := hv_395
            have he_401 : (r_400.toInt = 0 ∨ r_400.toInt = 1) := he_401
            have pf_399 : 0 ≤ ((Tv 0) : Int32).toInt ∧ ((Tv 0) : Int32).toInt ≤ 400 ∧ 0 ≤ (sv_396 : Int32).toInt ∧ (sv_396 : Int32).toInt ≤ 400 ∧ 0 ≤ (sv_397 : Int32).toInt ∧ (sv_397 : Int32).toInt ≤ 400 := pf_399
            refine W.eq (g2 := F0 m 78 ls [.int r_400]) rfl ?_
            replace hP : va_P D classes [((Va 0), .inr (7, [.ref (Va 1), .int sv_377, .int sv_378])), ((Va 1), .inl (tc 0, 400, .inl sv_379)), ((Ta 0), .inr (10, [.ref (Ta 1), .int (Tv 0), .int sv_396, .int sv_397, .int sv_398, .int sv_383])), ((Ta 1), .inl (tc 0, 400, .inl (Tf 1)))] H := hP₀
            replace hD : va_D A [((Va 0), .inr (7, [.ref (Va 1), .int sv_377, .int sv_378])), ((Va 1), .inl (tc 0, 400, .inl sv_379)), ((Ta 0), .inr (10, [.ref (Ta 1), .int (Tv 0), .int sv_396, .int sv_397, .int sv_398, .int sv_383])), ((Ta 1), .inl (tc 0, 400, .inl (Tf 1)))] := hD₀
            replace hS := hS₀
            clear hP₀ hD₀ hS₀
            refine lv_if_eq (tgt := 96) hx hb dX7_read_78 (by decide) (fun c_405 => ?_) (fun c_405 => ?_)
            · skip
              have hz_408 : (r_400 : Int32).toInt = 0 := by
                have z_1 := Int32.le_iff_toInt_le.mp (Int32.not_lt.mp c_43)
                have z_2 := congrArg Int32.toInt c_92
                have z_3 := congrArg Int32.toInt c_102
                have z_4 := congrArg Int32.toInt c_405
                have y_0 : (0 : Int32).toInt = 0 := by decide
                have y_12 : (12 : Int32).toInt = 12 := by decide
                omega
              obtain ⟨pf_406, pf_407⟩ := hm_404 hz_408
              have pf_406 : NWd (cB (Tf 1) (Tv 0)) (wS (3 : Nat)) ro_389 := pf_406
              have pf_407 : TpR (Tf 1) (Tv 0) ro_389 sv_396 sv_397 sv_398 sv_383 := pf_407
              have tb_409 : TpB (rTE (cB (Tf 1) (Tv 0)) ro_389) sv_397 sv_383 := TpR.tb pf_407
              refine lv_aload_n hx hb dX7_read_96 rfl (lv_at hl 1 rfl) ?_
              refine lv_bipush (v := (-2)) hx hb dX7_read_97 (by decide) ?_
              refine cV (a := (Va 0)) (As := [.int (-2)]) (rest := []) (wr := [((Ta 0), .inr (10, [.ref (Ta 1), .int (Tv 0), .int sv_396, .int sv_397, .int sv_398, .int sv_383])), ((Ta 1), .inl (tc 0, 400, .inl (Tf 1)))]) ⟨hx, hb, hml, hown, hts⟩ hK hX hA (cu_kX7_put l D tc sk (Va 0) (Va 1) sv_377 sv_378 sv_379 (-2) ro_389 ro_391 pf_385 pf_388) k_642 k_639 k_641 k_10 k_99 pl_X7_put ⟨Nat.le_of_ble_eq_true rfl, Nat.le_of_ble_eq_true rfl⟩ rfl rfl (va_recv hK hP (ci := 7) (q0 := 0) rfl rfl) hP hD hS [0, 1] [2, 3] rfl rfl rfl rfl rfl (by decide) rfl hl.1 rfl (Nat.le_of_ble_eq_true rfl) dX7_read_99 ⟨Nat.le_of_ble_eq_true rfl, Nat.le_of_ble_eq_true rfl⟩ (fun v_410 u_411 H locs hv_412 hP₀ hD₀ hS₀ => ?_)
              obtain ⟨sv_413, sv_414⟩ := u_411
              obtain ⟨rfl, pf_415, pf_416⟩ := hv_412
              have pf_415 : 0 ≤ (sv_413 : Int32).toInt ∧ (sv_413 : Int32).toInt ≤ 400 := pf_415
              have pf_416 : CdK sv_414 sv_413 ro_389 (ro_391 ++ [((-2) : Int32).toInt]) := pf_416
              rw [show ((-2) : Int32).toInt = -2 by decide] at pf_416
              obtain ⟨ro_417, ero_417⟩ : ∃ z : List Int, z = (ro_391 ++ [-2]) := ⟨_, rfl⟩
              rw [← ero_417] at pf_416
              refine W.eq (g2 := F0 m 102 ls []) rfl ?_
              replace hP : va_P D classes [((Ta 0), .inr (10, [.ref (Ta 1), .int (Tv 0), .int sv_396, .int sv_397, .int sv_398, .int sv_383])), ((Ta 1), .inl (tc 0, 400, .inl (Tf 1))), ((Va 0), .inr (7, [.ref (Va 1), .int sv_413, .int sv_378])), ((Va 1), .inl (tc 0, 400, .inl sv_414))] H := hP₀
              replace hD : va_D A [((Ta 0), .inr (10, [.ref (Ta 1), .int (Tv 0), .int sv_396, .int sv_397, .int sv_398, .int sv_383])), ((Ta 1), .inl (tc 0, 400, .inl (Tf 1))), ((Va 0), .inr (7, [.ref (Va 1), .int sv_413, .int sv_378])), ((Va 1), .inl (tc 0, 400, .inl sv_414))] := hD₀
              replace hS := hS₀
              clear hP₀ hD₀ hS₀
              obtain ⟨x_418, ex_418⟩ : ∃ y : Int32, y = vy_19 + 1 := ⟨_, rfl⟩
              refine lv_iinc (v := x_418) (lv' := [(2, .int x_418), (0, .ref (Va 0)), (1, .ref (Ta 0))]) hx hb dX7_read_102 hl (k := 0) rfl (by rw [ex_418]; rfl) (by decide) rfl (fun ls hl₀ => ?_)
              replace hl := hl₀
              clear hl₀
              refine lv_goto (tgt := 16) hx hb dX7_read_105 (by decide) ?_
              have hb_419 : 14 - (x_418 : Int32).toInt < 14 - (vy_19 : Int32).toInt ∧ 1 ≤ 14 - (vy_19 : Int32).toInt := by
                have z_1 := Int32.le_iff_toInt_le.mp (Int32.not_lt.mp c_43)
                have z_2 := congrArg Int32.toInt c_92
                have z_3 := congrArg Int32.toInt c_102
                have z_4 := congrArg Int32.toInt c_405
                have y_0 : (0 : Int32).toInt = 0 := by decide
                have y_12 : (12 : Int32).toInt = 12 := by decide
                have y_1 : (1 : Int32).toInt = 1 := by decide
                have t_x_418 : x_418.toInt = (vy_19 : Int32).toInt + (1 : Int32).toInt := by rw [ex_418]; exact add_toInt (by omega) (by omega)
                omega
              have ha_420 : 0 ≤ (x_418 : Int32).toInt ∧ (x_418 : Int32).toInt ≤ 13 := by
                have z_1 := Int32.le_iff_toInt_le.mp (Int32.not_lt.mp c_43)
                have z_2 := congrArg Int32.toInt c_92
                have z_3 := congrArg Int32.toInt c_102
                have z_4 := congrArg Int32.toInt c_405
                have y_0 : (0 : Int32).toInt = 0 := by decide
                have y_12 : (12 : Int32).toInt = 12 := by decide
                have y_1 : (1 : Int32).toInt = 1 := by decide
                have t_x_418 : x_418.toInt = (vy_19 : Int32).toInt + (1 : Int32).toInt := by rw [ex_418]; exact add_toInt (by omega) (by omega)
                omega
              have hw_421 : NWd (cB (Tf 1) (Tv 0)) pz_buy rq_35 := by
                rw [← wS1]
                exact pf_347
              have hE_422 : pz_b rq_35 (pz_cla (cB (Tf 1) (Tv 0)) (vy_19 : Int32).toInt.toNat) = ro_389 := by
                rw [ero_389, ero_370, ero_358]
                exact ((cla_no hw_421).trans (by cases rq_35 <;> rfl))
              have hu_423 : TpR (Tf 1) (Tv 0) (pz_b rq_35 (pz_cla (cB (Tf 1) (Tv 0)) (vy_19 : Int32).toInt.toNat)) sv_396 sv_397 sv_398 sv_383 := by rw [hE_422]; exact pf_407
              have hu_424 : Ctd (pz_b rq_35 (pz_cla (cB (Tf 1) (Tv 0)) (vy_19 : Int32).toInt.toNat)) sv_378 := by rw [hE_422]; exact pf_387
              have hu_425 : CdK sv_414 sv_413 (pz_b rq_35 (pz_cla (cB (Tf 1) (Tv 0)) (vy_19 : Int32).toInt.toNat)) ro_417 := by rw [hE_422]; exact pf_416
              have hu_426 : ∀ t, (pz_b rq_35 (pz_cla (cB (Tf 1) (Tv 0)) (vy_19 : Int32).toInt.toNat)) = .ok t → ∃ s0, rq_35 = .ok s0 ∧ ro_417 = lq_39 ++ ru_1 (ru_cl (cB (Tf 1) (Tv 0)) s0) := by
                exact cl_er (cla_no hw_421)
              have hi_427 : (x_418 : Int32).toInt = (vy_19 : Int32).toInt + 1 := by
                have z_1 := Int32.le_iff_toInt_le.mp (Int32.not_lt.mp c_43)
                have z_2 := congrArg Int32.toInt c_92
                have z_3 := congrArg Int32.toInt c_102
                have z_4 := congrArg Int32.toInt c_405
                have y_0 : (0 : Int32).toInt = 0 := by decide
                have y_12 : (12 : Int32).toInt = 12 := by decide
                have y_1 : (1 : Int32).toInt = 1 := by decide
                have t_x_418 : x_418.toInt = (vy_19 : Int32).toInt + (1 : Int32).toInt := by rw [ex_418]; exact add_toInt (by omega) (by omega)
                omega
              have hr_428 : (vy_19 : Int32).toInt = 0 := by
                have z_1 := Int32.le_iff_toInt_le.mp (Int32.not_lt.mp c_43)
                have z_2 := congrArg Int32.toInt c_92
                have z_3 := congrArg Int32.toInt c_102
                have z_4 := congrArg Int32.toInt c_405
                have y_0 : (0 : Int32).toInt = 0 := by decide
                have y_12 : (12 : Int32).toInt = 12 := by decide
                omega
              exact ih_28 x_418 sv_413 sv_378 sv_414 sv_396 sv_397 sv_398 sv_383 _ _ _ (by omega) ha_420 pf_399 pf_415 (RcC.next0 hr_428 pf_38 pf_41 hu_423 hu_424 hu_425 hu_426 hi_427) (hP.sub [2, 3, 0, 1] rfl) (hD.sub [2, 3, 0, 1] rfl rfl) hS (lv_sub hl [0, 1, 2] rfl)
            · skip
              have hz_431 : (r_400 : Int32).toInt = 1 := by
                have z_1 := Int32.le_iff_toInt_le.mp (Int32.not_lt.mp c_43)
                have z_2 := congrArg Int32.toInt c_92
                have z_3 := congrArg Int32.toInt c_102
                have z_4 : ¬ (r_400 : Int32).toInt = (0 : Int32).toInt := fun z => c_405 (Int32.toInt_inj.mp z)
                have y_0 : (0 : Int32).toInt = 0 := by decide
                have y_12 : (12 : Int32).toInt = 12 := by decide
                omega
              obtain ⟨pf_429, pf_430⟩ := hm_403 hz_431
              have pf_429 : TWd (cB (Tf 1) (Tv 0)) (wS (3 : Nat)) ro_389 := pf_429
              have pf_430 : TpR (Tf 1) (Tv 0) (rNX (cB (Tf 1) (Tv 0)) ro_389) sv_396 sv_397 sv_398 sv_383 := pf_430
              obtain ⟨ro_432, ero_432⟩ : ∃ z : Except Int (Nat × Nat), z = (rNX (cB (Tf 1) (Tv 0)) ro_389) := ⟨_, rfl⟩
              rw [← ero_432] at pf_430
              have tb_433 : TpB (rTE (cB (Tf 1) (Tv 0)) ro_432) sv_397 sv_383 := TpR.tb pf_430
              have cd_434 : Ctd ro_432 sv_378 := by rw [ero_432]; exact (Ctd.nx pf_387)
              have ck_435 : CdK sv_379 sv_377 ro_432 ro_391 := by rw [ero_432]; exact (CdK.nx pf_388)
              refine lv_aload_n hx hb dX7_read_81 rfl (lv_at hl 1 rfl) ?_
              refine lv_aload_n hx hb dX7_read_82 rfl (lv_at hl 2 rfl) ?_
              refine lv_iconst (v := 0) hx hb dX7_read_83 (by decide) ?_
              refine cV (a := (Va 0)) (As := [.ref (Ta 0), .int 0]) (rest := []) (wr := []) ⟨hx, hb, hml, hown, hts⟩ hK hX hA (cu_kX7_readTest_0 l D tc sk (Va 0) (Va 1) sv_377 sv_378 sv_379 (Ta 0) (Ta 1) (Tv 0) sv_396 sv_397 sv_398 sv_383 (Tf 1) ro_432 ro_391 pf_399 pf_385 h_by pf_430 cd_434 ck_435) k_655 k_652 k_654 k_11 k_99 pl_X7_readTest ⟨Nat.le_of_ble_eq_true rfl, Nat.le_of_ble_eq_true rfl⟩ rfl rfl (va_recv hK hP (ci := 7) (q0 := 0) rfl rfl) hP hD hS [0, 1, 2, 3] [] rfl rfl rfl rfl rfl (by decide) rfl hl.1 rfl (Nat.le_of_ble_eq_true rfl) dX7_read_84 ⟨Nat.le_of_ble_eq_true rfl, Nat.le_of_ble_eq_true rfl⟩ (fun v_436 u_437 H locs hv_438 hP₀ hD₀ hS₀ => ?_)
              obtain ⟨sv_439, sv_440, sv_441, sv_442, sv_443, sv_444, sv_445⟩ := u_437
              obtain ⟨rfl, pf_446, pf_447, pf_448, pf_449, pf_450⟩ := hv_438
              have pf_446 : 0 ≤ ((Tv 0) : Int32).toInt ∧ ((Tv 0) : Int32).toInt ≤ 400 ∧ 0 ≤ (sv_442 : Int32).toInt ∧ (sv_442 : Int32).toInt ≤ 400 ∧ 0 ≤ (sv_443 : Int32).toInt ∧ (sv_443 : Int32).toInt ≤ 400 := pf_446
              have pf_447 : 0 ≤ (sv_439 : Int32).toInt ∧ (sv_439 : Int32).toInt ≤ 400 := pf_447
              have pf_448 : TpR (Tf 1) (Tv 0) (pz_b ro_432 (pz_tst (cB (Tf 1) (Tv 0)) (pz_fact (cB (Tf 1) (Tv 0)) 10))) sv_442 sv_443 sv_444 sv_445 := pf_448
              obtain ⟨ro_451, ero_451⟩ : ∃ z : Except Int (Nat × Nat), z = (pz_b ro_432 (pz_tst (cB (Tf 1) (Tv 0)) (pz_fact (cB (Tf 1) (Tv 0)) 10))) := ⟨_, rfl⟩
              rw [← ero_451] at pf_448
              have tb_452 : TpB (rTE (cB (Tf 1) (Tv 0)) ro_451) sv_443 sv_445 := TpR.tb pf_448
              have pf_449 : Ctd (pz_b ro_432 (pz_tst (cB (Tf 1) (Tv 0)) (pz_fact (cB (Tf 1) (Tv 0)) 10))) sv_440 := pf_449
              rw [← ero_451] at pf_449
              have pf_450 : CdK sv_441 sv_439 (pz_b ro_432 (pz_tst (cB (Tf 1) (Tv 0)) (pz_fact (cB (Tf 1) (Tv 0)) 10))) (Ap ro_432 (ltst (cB (Tf 1) (Tv 0)) 10) ro_391) := pf_450
              rw [← ero_451] at pf_450
              obtain ⟨ro_453, ero_453⟩ : ∃ z : List Int, z = (Ap ro_432 (ltst (cB (Tf 1) (Tv 0)) 10) ro_391) := ⟨_, rfl⟩
              rw [← ero_453] at pf_450
              refine W.eq (g2 := F0 m 87 ls []) rfl ?_
              replace hP : va_P D classes [((Va 0), .inr (7, [.ref (Va 1), .int sv_439, .int sv_440])), ((Va 1), .inl (tc 0, 400, .inl sv_441)), ((Ta 0), .inr (10, [.ref (Ta 1), .int (Tv 0), .int sv_442, .int sv_443, .int sv_444, .int sv_445])), ((Ta 1), .inl (tc 0, 400, .inl (Tf 1)))] H := hP₀
              replace hD : va_D A [((Va 0), .inr (7, [.ref (Va 1), .int sv_439, .int sv_440])), ((Va 1), .inl (tc 0, 400, .inl sv_441)), ((Ta 0), .inr (10, [.ref (Ta 1), .int (Tv 0), .int sv_442, .int sv_443, .int sv_444, .int sv_445])), ((Ta 1), .inl (tc 0, 400, .inl (Tf 1)))] := hD₀
              replace hS := hS₀
              clear hP₀ hD₀ hS₀
              refine lv_aload_n hx hb dX7_read_87 rfl (lv_at hl 1 rfl) ?_
              refine lv_bipush (v := (-3)) hx hb dX7_read_88 (by decide) ?_
              refine cV (a := (Va 0)) (As := [.int (-3)]) (rest := []) (wr := [((Ta 0), .inr (10, [.ref (Ta 1), .int (Tv 0), .int sv_442, .int sv_443, .int sv_444, .int sv_445])), ((Ta 1), .inl (tc 0, 400, .inl (Tf 1)))]) ⟨hx, hb, hml, hown, hts⟩ hK hX hA (cu_kX7_put l D tc sk (Va 0) (Va 1) sv_439 sv_440 sv_441 (-3) ro_451 ro_453 pf_447 pf_450) k_642 k_639 k_641 k_10 k_99 pl_X7_put ⟨Nat.le_of_ble_eq_true rfl, Nat.le_of_ble_eq_true rfl⟩ rfl rfl (va_recv hK hP (ci := 7) (q0 := 0) rfl rfl) hP hD hS [0, 1] [2, 3] rfl rfl rfl rfl rfl (by decide) rfl hl.1 rfl (Nat.le_of_ble_eq_true rfl) dX7_read_90 ⟨Nat.le_of_ble_eq_true rfl, Nat.le_of_ble_eq_true rfl⟩ (fun v_454 u_455 H locs hv_456 hP₀ hD₀ hS₀ => ?_)
              obtain ⟨sv_457, sv_458⟩ := u_455
              obtain ⟨rfl, pf_459, pf_460⟩ := hv_456
              have pf_459 : 0 ≤ (sv_457 : Int32).toInt ∧ (sv_457 : Int32).toInt ≤ 400 := pf_459
              have pf_460 : CdK sv_458 sv_457 ro_451 (ro_453 ++ [((-3) : Int32).toInt]) := pf_460
              rw [show ((-3) : Int32).toInt = -3 by decide] at pf_460
              obtain ⟨ro_461, ero_461⟩ : ∃ z : List Int, z = (ro_453 ++ [-3]) := ⟨_, rfl⟩
              rw [← ero_461] at pf_460
              refine W.eq (g2 := F0 m 93 ls []) rfl ?_
              replace hP : va_P D classes [((Ta 0), .inr (10, [.ref (Ta 1), .int (Tv 0), .int sv_442, .int sv_443, .int sv_444, .int sv_445])), ((Ta 1), .inl (tc 0, 400, .inl (Tf 1))), ((Va 0), .inr (7, [.ref (Va 1), .int sv_457, .int sv_440])), ((Va 1), .inl (tc 0, 400, .inl sv_458))] H := hP₀
              replace hD : va_D A [((Ta 0), .inr (10, [.ref (Ta 1), .int (Tv 0), .int sv_442, .int sv_443, .int sv_444, .int sv_445])), ((Ta 1), .inl (tc 0, 400, .inl (Tf 1))), ((Va 0), .inr (7, [.ref (Va 1), .int sv_457, .int sv_440])), ((Va 1), .inl (tc 0, 400, .inl sv_458))] := hD₀
              replace hS := hS₀
              clear hP₀ hD₀ hS₀
              refine lv_goto (tgt := 102) hx hb dX7_read_93 (by decide) ?_
              obtain ⟨x_462, ex_462⟩ : ∃ y : Int32, y = vy_19 + 1 := ⟨_, rfl⟩
              refine lv_iinc (v := x_462) (lv' := [(2, .int x_462), (0, .ref (Va 0)), (1, .ref (Ta 0))]) hx hb dX7_read_102 hl (k := 0) rfl (by rw [ex_462]; rfl) (by decide) rfl (fun ls hl₀ => ?_)
              replace hl := hl₀
              clear hl₀
              refine lv_goto (tgt := 16) hx hb dX7_read_105 (by decide) ?_
              have hb_463 : 14 - (x_462 : Int32).toInt < 14 - (vy_19 : Int32).toInt ∧ 1 ≤ 14 - (vy_19 : Int32).toInt := by
                have z_1 := Int32.le_iff_toInt_le.mp (Int32.not_lt.mp c_43)
                have z_2 := congrArg Int32.toInt c_92
                have z_3 := congrArg Int32.toInt c_102
                have z_4 : ¬ (r_400 : Int32).toInt = (0 : Int32).toInt := fun z => c_405 (Int32.toInt_inj.mp z)
                have y_0 : (0 : Int32).toInt = 0 := by decide
                have y_12 : (12 : Int32).toInt = 12 := by decide
                have y_1 : (1 : Int32).toInt = 1 := by decide
                have t_x_462 : x_462.toInt = (vy_19 : Int32).toInt + (1 : Int32).toInt := by rw [ex_462]; exact add_toInt (by omega) (by omega)
                omega
              have ha_464 : 0 ≤ (x_462 : Int32).toInt ∧ (x_462 : Int32).toInt ≤ 13 := by
                have z_1 := Int32.le_iff_toInt_le.mp (Int32.not_lt.mp c_43)
                have z_2 := congrArg Int32.toInt c_92
                have z_3 := congrArg Int32.toInt c_102
                have z_4 : ¬ (r_400 : Int32).toInt = (0 : Int32).toInt := fun z => c_405 (Int32.toInt_inj.mp z)
                have y_0 : (0 : Int32).toInt = 0 := by decide
                have y_12 : (12 : Int32).toInt = 12 := by decide
                have y_1 : (1 : Int32).toInt = 1 := by decide
                have t_x_462 : x_462.toInt = (vy_19 : Int32).toInt + (1 : Int32).toInt := by rw [ex_462]; exact add_toInt (by omega) (by omega)
                omega
              have hw_465 : NWd (cB (Tf 1) (Tv 0)) pz_buy rq_35 := by
                rw [← wS1]
                exact pf_347
              have hE_466 : pz_b rq_35 (pz_cla (cB (Tf 1) (Tv 0)) (vy_19 : Int32).toInt.toNat) = ro_451 := by
                rw [ero_451, ero_432, ero_389, ero_370, ero_358]
                exact ((cla_no hw_465).trans (by cases rq_35 <;> rfl))
              have hu_467 : TpR (Tf 1) (Tv 0) (pz_b rq_35 (pz_cla (cB (Tf 1) (Tv 0)) (vy_19 : Int32).toInt.toNat)) sv_442 sv_443 sv_444 sv_445 := by rw [hE_466]; exact pf_448
              have hu_468 : Ctd (pz_b rq_35 (pz_cla (cB (Tf 1) (Tv 0)) (vy_19 : Int32).toInt.toNat)) sv_440 := by rw [hE_466]; exact pf_449
              have hu_469 : CdK sv_458 sv_457 (pz_b rq_35 (pz_cla (cB (Tf 1) (Tv 0)) (vy_19 : Int32).toInt.toNat)) ro_461 := by rw [hE_466]; exact pf_460
              have hu_470 : ∀ t, (pz_b rq_35 (pz_cla (cB (Tf 1) (Tv 0)) (vy_19 : Int32).toInt.toNat)) = .ok t → ∃ s0, rq_35 = .ok s0 ∧ ro_461 = lq_39 ++ ru_1 (ru_cl (cB (Tf 1) (Tv 0)) s0) := by
                exact cl_er (cla_no hw_465)
              have hi_471 : (x_462 : Int32).toInt = (vy_19 : Int32).toInt + 1 := by
                have z_1 := Int32.le_iff_toInt_le.mp (Int32.not_lt.mp c_43)
                have z_2 := congrArg Int32.toInt c_92
                have z_3 := congrArg Int32.toInt c_102
                have z_4 : ¬ (r_400 : Int32).toInt = (0 : Int32).toInt := fun z => c_405 (Int32.toInt_inj.mp z)
                have y_0 : (0 : Int32).toInt = 0 := by decide
                have y_12 : (12 : Int32).toInt = 12 := by decide
                have y_1 : (1 : Int32).toInt = 1 := by decide
                have t_x_462 : x_462.toInt = (vy_19 : Int32).toInt + (1 : Int32).toInt := by rw [ex_462]; exact add_toInt (by omega) (by omega)
                omega
              have hr_472 : (vy_19 : Int32).toInt = 0 := by
                have z_1 := Int32.le_iff_toInt_le.mp (Int32.not_lt.mp c_43)
                have z_2 := congrArg Int32.toInt c_92
                have z_3 := congrArg Int32.toInt c_102
                have z_4 : ¬ (r_400 : Int32).toInt = (0 : Int32).toInt := fun z => c_405 (Int32.toInt_inj.mp z)
                have y_0 : (0 : Int32).toInt = 0 := by decide
                have y_12 : (12 : Int32).toInt = 12 := by decide
                omega
              exact ih_28 x_462 sv_457 sv_440 sv_458 sv_442 sv_443 sv_444 sv_445 _ _ _ (by omega) ha_464 pf_446 pf_459 (RcC.next0 hr_472 pf_38 pf_41 hu_467 hu_468 hu_469 hu_470 hi_471) (hP.sub [2, 3, 0, 1] rfl) (hD.sub [2, 3, 0, 1] rfl rfl) hS (lv_sub hl [0, 1, 2] rfl)
        · skip
          refine lv_aload_n hx hb dX7_read_26 rfl (lv_at hl 2 rfl) ?_
          refine lv_bipush (v := 59) hx hb dX7_read_27 (by decide) ?_
          have ha_473 : 0 ≤ (59 : Int32).toInt := by
            have z_1 := Int32.le_iff_toInt_le.mp (Int32.not_lt.mp c_43)
            have z_2 : ¬ (vy_19 : Int32).toInt = (0 : Int32).toInt := fun z => c_92 (Int32.toInt_inj.mp z)
            have y_0 : (0 : Int32).toInt = 0 := by decide
            have y_12 : (12 : Int32).toInt = 12 := by decide
            have y_59 : (59 : Int32).toInt = 59 := by decide
            omega
          have ha_474 : (59 : Int32).toInt = (59 : Int) := by
            have z_1 := Int32.le_iff_toInt_le.mp (Int32.not_lt.mp c_43)
            have z_2 : ¬ (vy_19 : Int32).toInt = (0 : Int32).toInt := fun z => c_92 (Int32.toInt_inj.mp z)
            have y_0 : (0 : Int32).toInt = 0 := by decide
            have y_12 : (12 : Int32).toInt = 12 := by decide
            have y_59 : (59 : Int32).toInt = 59 := by decide
            omega
          refine cV (a := (Ta 0)) (As := [.int 59]) (rest := []) (wr := [((Va 0), .inr (7, [.ref (Va 1), .int vy_20, .int vy_21])), ((Va 1), .inl (tc 0, 400, .inl vy_22))]) ⟨hx, hb, hml, hown, hts⟩ hK hX hA (cu_fX10_takes l D tc sk (Ta 0) (Ta 1) (Tv 0) vy_23 vy_24 vy_25 vy_26 (Tf 1) 59 rq_35 59 pf_31 h_by pf_36 ha_473 ha_474) k_492 k_613 k_490 k_491 k_96 pl_X10_takes ⟨Nat.le_of_ble_eq_true rfl, Nat.le_of_ble_eq_true rfl⟩ rfl rfl (va_recv hK hP (ci := 10) (q0 := 2) rfl rfl) hP hD hS [2, 3] [0, 1] rfl rfl rfl rfl rfl (by decide) rfl hl.1 rfl (Nat.le_of_ble_eq_true rfl) dX7_read_29 ⟨Nat.le_of_ble_eq_true rfl, Nat.le_of_ble_eq_true rfl⟩ (fun v_475 u_476 H locs hv_477 hP₀ hD₀ hS₀ => ?_)
          obtain ⟨sv_478, sv_479, sv_480⟩ := u_476
          obtain ⟨r_482, rfl, he_483, pf_481, hm_485, hm_486⟩ := hv_477
          have he_483 : (r_482.toInt = 0 ∨ r_482.toInt = 1) := he_483
          have pf_481 : 0 ≤ ((Tv 0) : Int32).toInt ∧ ((Tv 0) : Int32).toInt ≤ 400 ∧ 0 ≤ (sv_478 : Int32).toInt ∧ (sv_478 : Int32).toInt ≤ 400 ∧ 0 ≤ (sv_479 : Int32).toInt ∧ (sv_479 : Int32).toInt ≤ 400 := pf_481
          refine W.eq (g2 := F0 m 32 ls [.int r_482]) rfl ?_
          replace hP : va_P D classes [((Va 0), .inr (7, [.ref (Va 1), .int vy_20, .int vy_21])), ((Va 1), .inl (tc 0, 400, .inl vy_22)), ((Ta 0), .inr (10, [.ref (Ta 1), .int (Tv 0), .int sv_478, .int sv_479, .int sv_480, .int vy_26])), ((Ta 1), .inl (tc 0, 400, .inl (Tf 1)))] H := hP₀
          replace hD : va_D A [((Va 0), .inr (7, [.ref (Va 1), .int vy_20, .int vy_21])), ((Va 1), .inl (tc 0, 400, .inl vy_22)), ((Ta 0), .inr (10, [.ref (Ta 1), .int (Tv 0), .int sv_478, .int sv_479, .int sv_480, .int vy_26])), ((Ta 1), .inl (tc 0, 400, .inl (Tf 1)))] := hD₀
          replace hS := hS₀
          clear hP₀ hD₀ hS₀
          refine lv_if_eq (tgt := 108) hx hb dX7_read_32 (by decide) (fun c_487 => ?_) (fun c_487 => ?_)
          · skip
            have hz_490 : (r_482 : Int32).toInt = 0 := by
              have z_1 := Int32.le_iff_toInt_le.mp (Int32.not_lt.mp c_43)
              have z_2 : ¬ (vy_19 : Int32).toInt = (0 : Int32).toInt := fun z => c_92 (Int32.toInt_inj.mp z)
              have z_3 := congrArg Int32.toInt c_487
              have y_0 : (0 : Int32).toInt = 0 := by decide
              have y_12 : (12 : Int32).toInt = 12 := by decide
              omega
            obtain ⟨pf_488, pf_489⟩ := hm_486 hz_490
            have pf_488 : NSg (cB (Tf 1) (Tv 0)) (59 : Int) rq_35 := pf_488
            have pf_489 : TpR (Tf 1) (Tv 0) rq_35 sv_478 sv_479 sv_480 vy_26 := pf_489
            have tb_491 : TpB (rTE (cB (Tf 1) (Tv 0)) rq_35) sv_479 vy_26 := TpR.tb pf_489
            refine lv_aload_n hx hb dX7_read_108 rfl (lv_at hl 2 rfl) ?_
            refine cV (a := (Ta 0)) (As := []) (rest := []) (wr := [((Va 0), .inr (7, [.ref (Va 1), .int vy_20, .int vy_21])), ((Va 1), .inl (tc 0, 400, .inl vy_22))]) ⟨hx, hb, hml, hown, hts⟩ hK hX hA (cu_fX10_finish l D tc sk (Ta 0) (Ta 1) (Tv 0) sv_478 sv_479 sv_480 vy_26 (Tf 1) rq_35 pf_481 h_by pf_489) k_595 k_666 k_593 k_594 k_96 pl_X10_finish ⟨Nat.le_of_ble_eq_true rfl, Nat.le_of_ble_eq_true rfl⟩ rfl rfl (va_recv hK hP (ci := 10) (q0 := 2) rfl rfl) hP hD hS [2, 3] [0, 1] rfl rfl rfl rfl rfl (by decide) rfl hl.1 rfl (Nat.le_of_ble_eq_true rfl) dX7_read_109 ⟨Nat.le_of_ble_eq_true rfl, Nat.le_of_ble_eq_true rfl⟩ (fun v_492 u_493 H locs hv_494 hP₀ hD₀ hS₀ => ?_)
            obtain ⟨sv_495, sv_496⟩ := u_493
            obtain ⟨rfl, pf_497, pf_498⟩ := hv_494
            have pf_497 : 0 ≤ ((Tv 0) : Int32).toInt ∧ ((Tv 0) : Int32).toInt ≤ 400 ∧ 0 ≤ (sv_478 : Int32).toInt ∧ (sv_478 : Int32).toInt ≤ 400 ∧ 0 ≤ (sv_479 : Int32).toInt ∧ (sv_479 : Int32).toInt ≤ 400 := pf_497
            have pf_498 : TpR (Tf 1) (Tv 0) (rEN (cB (Tf 1) (Tv 0)) rq_35) sv_478 sv_479 sv_495 sv_496 := pf_498
            obtain ⟨ro_499, ero_499⟩ : ∃ z : Except Int (Nat × Nat), z = (rEN (cB (Tf 1) (Tv 0)) rq_35) := ⟨_, rfl⟩
            rw [← ero_499] at pf_498
            have tb_500 : TpB (rTE (cB (Tf 1) (Tv 0)) ro_499) sv_479 sv_496 := TpR.tb pf_498
            have ck_501 : CdK vy_22 vy_20 ro_499 lq_39 := by rw [ero_499]; exact (CdK.en pf_40)
            refine W.eq (g2 := F0 m 112 ls []) rfl ?_
            replace hP : va_P D classes [((Va 0), .inr (7, [.ref (Va 1), .int vy_20, .int vy_21])), ((Va 1), .inl (tc 0, 400, .inl vy_22)), ((Ta 0), .inr (10, [.ref (Ta 1), .int (Tv 0), .int sv_478, .int sv_479, .int sv_495, .int sv_496])), ((Ta 1), .inl (tc 0, 400, .inl (Tf 1)))] H := hP₀
            replace hD : va_D A [((Va 0), .inr (7, [.ref (Va 1), .int vy_20, .int vy_21])), ((Va 1), .inl (tc 0, 400, .inl vy_22)), ((Ta 0), .inr (10, [.ref (Ta 1), .int (Tv 0), .int sv_478, .int sv_479, .int sv_495, .int sv_496])), ((Ta 1), .inl (tc 0, 400, .inl (Tf 1)))] := hD₀
            replace hS := hS₀
            clear hP₀ hD₀ hS₀
            refine lv_aload_n hx hb dX7_read_112 rfl (lv_at hl 2 rfl) ?_
            refine gf_X7_65 hx hb hts hown hK hP 2 rfl rfl dX7_read_113 ?_
            refine lv_if_ne (tgt := 138) hx hb dX7_read_116 (by decide) (fun c_502 => ?_) (fun c_502 => ?_)
            · skip
              refine lv_null hx hb dX7_read_138 ?_
              have hu_503 : TpR (Tf 1) (Tv 0) (rEN (cB (Tf 1) (Tv 0)) rq_35) sv_478 sv_479 sv_495 sv_496 := by
                rw [← ero_499]
                exact pf_498
              have hr_504 : ¬ (vy_19 : Int32).toInt = 0 := by
                have z_1 := Int32.le_iff_toInt_le.mp (Int32.not_lt.mp c_43)
                have z_2 : ¬ (vy_19 : Int32).toInt = (0 : Int32).toInt := fun z => c_92 (Int32.toInt_inj.mp z)
                have z_3 := congrArg Int32.toInt c_487
                have z_4 : ¬ (sv_496 : Int32).toInt = (0 : Int32).toInt := fun z => c_502 (Int32.toInt_inj.mp z)
                have y_0 : (0 : Int32).toInt = 0 := by decide
                have y_12 : (12 : Int32).toInt = 12 := by decide
                omega
              have hr_505 : ¬ (sv_496 : Int32).toInt = 0 := by
                have z_1 := Int32.le_iff_toInt_le.mp (Int32.not_lt.mp c_43)
                have z_2 : ¬ (vy_19 : Int32).toInt = (0 : Int32).toInt := fun z => c_92 (Int32.toInt_inj.mp z)
                have z_3 := congrArg Int32.toInt c_487
                have z_4 : ¬ (sv_496 : Int32).toInt = (0 : Int32).toInt := fun z => c_502 (Int32.toInt_inj.mp z)
                have y_0 : (0 : Int32).toInt = 0 := by decide
                have y_12 : (12 : Int32).toInt = 12 := by decide
                omega
              exact retA (v := .null) hx hb hr hlk (Or.inl ⟨_, rfl⟩) (Or.inl rfl) hP hD hS (false, 0, 0, 0, 0, 0, (fun _ => 0), 0, 0, 0, 0, (fun _ => 0), 0, vy_20, vy_21, vy_22, sv_478, sv_479, sv_495, sv_496) ⟨rfl, pf_497, pf_32, (RuF.of (RcL.fin pf_38 hr_504 (Or.inr pf_488)) hu_503 hr_505)⟩ [0, 1, 2, 3] rfl rfl dX7_read_139 (Nat.le_of_ble_eq_true rfl) (Nat.le_of_ble_eq_true rfl) rfl
            · skip
              refine lv_aload_n hx hb dX7_read_119 rfl (lv_at hl 1 rfl) ?_
              refine gf_X7_15 hx hb hts hown hK hP 0 rfl rfl dX7_read_120 ?_
              refine lv_if_lt (tgt := 138) hx hb dX7_read_123 (by decide) (fun c_506 => ?_) (fun c_506 => ?_)
              · skip
                refine lv_null hx hb dX7_read_138 ?_
                have hu_507 : TpR (Tf 1) (Tv 0) (rEN (cB (Tf 1) (Tv 0)) rq_35) sv_478 sv_479 sv_495 sv_496 := by
                  rw [← ero_499]
                  exact pf_498
                have hr_508 : ¬ (vy_19 : Int32).toInt = 0 := by
                  have z_1 := Int32.le_iff_toInt_le.mp (Int32.not_lt.mp c_43)
                  have z_2 : ¬ (vy_19 : Int32).toInt = (0 : Int32).toInt := fun z => c_92 (Int32.toInt_inj.mp z)
                  have z_3 := congrArg Int32.toInt c_487
                  have z_4 := congrArg Int32.toInt c_502
                  have z_5 := Int32.lt_iff_toInt_lt.mp c_506
                  have y_0 : (0 : Int32).toInt = 0 := by decide
                  have y_12 : (12 : Int32).toInt = 12 := by decide
                  omega
                have hr_509 : ¬ (sv_496 : Int32).toInt = 0 := by
                  have z_1 := Int32.le_iff_toInt_le.mp (Int32.not_lt.mp c_43)
                  have z_2 : ¬ (vy_19 : Int32).toInt = (0 : Int32).toInt := fun z => c_92 (Int32.toInt_inj.mp z)
                  have z_3 := congrArg Int32.toInt c_487
                  have z_4 := congrArg Int32.toInt c_502
                  have z_5 := Int32.lt_iff_toInt_lt.mp c_506
                  have y_0 : (0 : Int32).toInt = 0 := by decide
                  have y_12 : (12 : Int32).toInt = 12 := by decide
                  omega
                exact retA (v := .null) hx hb hr hlk (Or.inl ⟨_, rfl⟩) (Or.inl rfl) hP hD hS (false, 0, 0, 0, 0, 0, (fun _ => 0), 0, 0, 0, 0, (fun _ => 0), 0, vy_20, vy_21, vy_22, sv_478, sv_479, sv_495, sv_496) ⟨rfl, pf_497, pf_32, (RuF.of (RcL.fin pf_38 hr_508 (Or.inr pf_488)) hu_507 hr_509)⟩ [0, 1, 2, 3] rfl rfl dX7_read_139 (Nat.le_of_ble_eq_true rfl) (Nat.le_of_ble_eq_true rfl) rfl
              · skip
                refine lv_aload_n hx hb dX7_read_126 rfl (lv_at hl 1 rfl) ?_
                refine gf_X7_15 hx hb hts hown hK hP 0 rfl rfl dX7_read_127 ?_
                refine lv_aload_n hx hb dX7_read_130 rfl (lv_at hl 1 rfl) ?_
                refine gf_X7_9 hx hb hts hown hK hP 0 rfl rfl dX7_read_131 ?_
                refine va_alen hx hb hK hP 1 0 rfl rfl (v := 400) rfl dX7_read_134 ?_
                refine lv_icmp_le (tgt := 140) hx hb dX7_read_135 (by decide) (fun c_510 => ?_) (fun c_510 => ?_)
                · skip
                  refine va_new (ci := 6) (fs := [.null, .null]) (C := RX6) (T := TX6) (N := 2) hx hb hts iX6 tyX6 tyX6_ok hown (hts _ k_667) (hts _ k_668) (hts _ k_112) hK hP hD hS hA rfl dfX6 (Nat.le_of_ble_eq_true rfl) (Nat.le_of_ble_eq_true rfl) dX7_read_140 (fun q_511 H hP₀ hD₀ hS₀ => ?_)
                  replace hP : va_P D classes [((Va 0), .inr (7, [.ref (Va 1), .int vy_20, .int vy_21])), ((Va 1), .inl (tc 0, 400, .inl vy_22)), ((Ta 0), .inr (10, [.ref (Ta 1), .int (Tv 0), .int sv_478, .int sv_479, .int sv_495, .int sv_496])), ((Ta 1), .inl (tc 0, 400, .inl (Tf 1))), (q_511, .inr (6, [.null, .null]))] H := hP₀
                  replace hD : va_D A [((Va 0), .inr (7, [.ref (Va 1), .int vy_20, .int vy_21])), ((Va 1), .inl (tc 0, 400, .inl vy_22)), ((Ta 0), .inr (10, [.ref (Ta 1), .int (Tv 0), .int sv_478, .int sv_479, .int sv_495, .int sv_496])), ((Ta 1), .inl (tc 0, 400, .inl (Tf 1))), (q_511, .inr (6, [.null, .null]))] := hD₀
                  replace hS := hS₀
                  clear hP₀ hD₀ hS₀
                  refine lv_dup hx hb dX7_read_143 rfl ?_
                  refine lv_aload_n hx hb dX7_read_144 rfl (lv_at hl 1 rfl) ?_
                  refine gf_X7_9 hx hb hts hown hK hP 0 rfl rfl dX7_read_145 ?_
                  refine lv_aload_n hx hb dX7_read_148 rfl (lv_at hl 1 rfl) ?_
                  refine gf_X7_15 hx hb hts hown hK hP 0 rfl rfl dX7_read_149 ?_
                  have ha_512 : 0 ≤ vy_20.toInt ∧ vy_20.toInt ≤ 400 := by
                    have z_1 := Int32.le_iff_toInt_le.mp (Int32.not_lt.mp c_43)
                    have z_2 : ¬ (vy_19 : Int32).toInt = (0 : Int32).toInt := fun z => c_92 (Int32.toInt_inj.mp z)
                    have z_3 := congrArg Int32.toInt c_487
                    have z_4 := congrArg Int32.toInt c_502
                    have z_5 := Int32.le_iff_toInt_le.mp (Int32.not_lt.mp c_506)
                    have z_6 := Int32.le_iff_toInt_le.mp c_510
                    have y_0 : (0 : Int32).toInt = 0 := by decide
                    have y_12 : (12 : Int32).toInt = 12 := by decide
                    have y_400 : (400 : Int32).toInt = 400 := by decide
                    omega
                  refine cS (As := [.ref (Va 1), .int vy_20]) (rest := [.ref q_511, .ref q_511]) (wr := [((Va 0), .inr (7, [.ref (Va 1), .int vy_20, .int vy_21])), ((Ta 0), .inr (10, [.ref (Ta 1), .int (Tv 0), .int sv_478, .int sv_479, .int sv_495, .int sv_496])), ((Ta 1), .inl (tc 0, 400, .inl (Tf 1))), (q_511, .inr (6, [.null, .null]))]) ⟨hx, hb, hml, hown, hts⟩ hK hX hA (cu_kJ7_copyOf l D tc sk (Va 1) vy_22 vy_20 ha_512) k_671 k_669 k_670 k_113 pl_J7_copyOf_59c91 ⟨Nat.le_of_ble_eq_true rfl, Nat.le_of_ble_eq_true rfl⟩ rfl rfl  hP hD hS [1] [0, 2, 3, 4] rfl rfl rfl rfl rfl (by decide) rfl hl.1 rfl (Nat.le_of_ble_eq_true rfl) dX7_read_152 ⟨Nat.le_of_ble_eq_true rfl, Nat.le_of_ble_eq_true rfl⟩ (fun v_513 u_514 H locs hv_515 hP₀ hD₀ hS₀ => ?_)
                  obtain ⟨sv_516, sv_517, sv_518⟩ := u_514
                  obtain ⟨rfl, pf_519, pf_520⟩ := hv_515
                  have pf_519 : sv_518 ≤ 400 := pf_519
                  have pf_520 : CpO vy_22 sv_517 sv_518 vy_20 := pf_520
                  refine W.eq (g2 := F0 m 155 ls [.ref sv_516, .ref q_511, .ref q_511]) rfl ?_
                  replace hP : va_P D classes [((Va 0), .inr (7, [.ref (Va 1), .int vy_20, .int vy_21])), ((Ta 0), .inr (10, [.ref (Ta 1), .int (Tv 0), .int sv_478, .int sv_479, .int sv_495, .int sv_496])), ((Ta 1), .inl (tc 0, 400, .inl (Tf 1))), (q_511, .inr (6, [.null, .null])), ((Va 1), .inl (tc 0, 400, .inl vy_22)), (sv_516, .inl (tc 0, sv_518, .inl sv_517))] H := hP₀
                  replace hD : va_D A [((Va 0), .inr (7, [.ref (Va 1), .int vy_20, .int vy_21])), ((Ta 0), .inr (10, [.ref (Ta 1), .int (Tv 0), .int sv_478, .int sv_479, .int sv_495, .int sv_496])), ((Ta 1), .inl (tc 0, 400, .inl (Tf 1))), (q_511, .inr (6, [.null, .null])), ((Va 1), .inl (tc 0, 400, .inl vy_22)), (sv_516, .inl (tc 0, sv_518, .inl sv_517))] := hD₀
                  replace hS := hS₀
                  clear hP₀ hD₀ hS₀
                  refine cI (a := q_511) (As := [.ref sv_516]) (rest := [.ref q_511]) (wr := [((Va 0), .inr (7, [.ref (Va 1), .int vy_20, .int vy_21])), ((Ta 0), .inr (10, [.ref (Ta 1), .int (Tv 0), .int sv_478, .int sv_479, .int sv_495, .int sv_496])), ((Ta 1), .inl (tc 0, 400, .inl (Tf 1))), ((Va 1), .inl (tc 0, 400, .inl vy_22)), (sv_516, .inl (tc 0, sv_518, .inl sv_517))]) ⟨hx, hb, hml, hown, hts⟩ hK hX hA (ct_X6_init l D tc sk q_511 sv_516) k_685 k_683 k_684 k_112 rfl pl_X6_init ⟨Nat.le_of_ble_eq_true rfl, Nat.le_of_ble_eq_true rfl⟩ rfl rfl  hP hD hS [3] [0, 1, 2, 4, 5] rfl rfl rfl rfl rfl (by decide) rfl hl.1 rfl (Nat.le_of_ble_eq_true rfl) dX7_read_155 ⟨Nat.le_of_ble_eq_true rfl, Nat.le_of_ble_eq_true rfl⟩ (fun v_521 u_522 H locs hv_523 hP₀ hD₀ hS₀ => ?_)
                  obtain ⟨sv_524, rfl⟩ : ∃ z, z = u_522 := ⟨_, rfl⟩
                  obtain rfl : v_521 = none := hv_523
                  refine W.eq (g2 := F0 m 158 ls [.ref q_511]) rfl ?_
                  replace hP : va_P D classes [((Va 0), .inr (7, [.ref (Va 1), .int vy_20, .int vy_21])), ((Ta 0), .inr (10, [.ref (Ta 1), .int (Tv 0), .int sv_478, .int sv_479, .int sv_495, .int sv_496])), ((Ta 1), .inl (tc 0, 400, .inl (Tf 1))), ((Va 1), .inl (tc 0, 400, .inl vy_22)), (sv_516, .inl (tc 0, sv_518, .inl sv_517)), (q_511, .inr (6, [.ref sv_516, .ref sv_524])), (sv_524, .inl (tc 1, 64, .inr (.inl (fun _ => 0))))] H := hP₀
                  replace hD : va_D A [((Va 0), .inr (7, [.ref (Va 1), .int vy_20, .int vy_21])), ((Ta 0), .inr (10, [.ref (Ta 1), .int (Tv 0), .int sv_478, .int sv_479, .int sv_495, .int sv_496])), ((Ta 1), .inl (tc 0, 400, .inl (Tf 1))), ((Va 1), .inl (tc 0, 400, .inl vy_22)), (sv_516, .inl (tc 0, sv_518, .inl sv_517)), (q_511, .inr (6, [.ref sv_516, .ref sv_524])), (sv_524, .inl (tc 1, 64, .inr (.inl (fun _ => 0))))] := hD₀
                  replace hS := hS₀
                  clear hP₀ hD₀ hS₀
                  have hu_525 : TpR (Tf 1) (Tv 0) (rEN (cB (Tf 1) (Tv 0)) rq_35) sv_478 sv_479 sv_495 sv_496 := by
                    rw [← ero_499]
                    exact pf_498
                  have hr_526 : ¬ (vy_19 : Int32).toInt = 0 := by
                    have z_1 := Int32.le_iff_toInt_le.mp (Int32.not_lt.mp c_43)
                    have z_2 : ¬ (vy_19 : Int32).toInt = (0 : Int32).toInt := fun z => c_92 (Int32.toInt_inj.mp z)
                    have z_3 := congrArg Int32.toInt c_487
                    have z_4 := congrArg Int32.toInt c_502
                    have z_5 := Int32.le_iff_toInt_le.mp (Int32.not_lt.mp c_506)
                    have z_6 := Int32.le_iff_toInt_le.mp c_510
                    have y_0 : (0 : Int32).toInt = 0 := by decide
                    have y_12 : (12 : Int32).toInt = 12 := by decide
                    have y_400 : (400 : Int32).toInt = 400 := by decide
                    omega
                  have hr_527 : (sv_496 : Int32).toInt = 0 := by
                    have z_1 := Int32.le_iff_toInt_le.mp (Int32.not_lt.mp c_43)
                    have z_2 : ¬ (vy_19 : Int32).toInt = (0 : Int32).toInt := fun z => c_92 (Int32.toInt_inj.mp z)
                    have z_3 := congrArg Int32.toInt c_487
                    have z_4 := congrArg Int32.toInt c_502
                    have z_5 := Int32.le_iff_toInt_le.mp (Int32.not_lt.mp c_506)
                    have z_6 := Int32.le_iff_toInt_le.mp c_510
                    have y_0 : (0 : Int32).toInt = 0 := by decide
                    have y_12 : (12 : Int32).toInt = 12 := by decide
                    have y_400 : (400 : Int32).toInt = 400 := by decide
                    omega
                  have hu_528 : TpR (Tf 1) (Tv 0) (rEN (cB (Tf 1) (Tv 0)) rq_35) sv_478 sv_479 sv_495 sv_496 := by
                    rw [← ero_499]
                    exact pf_498
                  have hr_529 : ¬ (vy_19 : Int32).toInt = 0 := by
                    have z_1 := Int32.le_iff_toInt_le.mp (Int32.not_lt.mp c_43)
                    have z_2 : ¬ (vy_19 : Int32).toInt = (0 : Int32).toInt := fun z => c_92 (Int32.toInt_inj.mp z)
                    have z_3 := congrArg Int32.toInt c_487
                    have z_4 := congrArg Int32.toInt c_502
                    have z_5 := Int32.le_iff_toInt_le.mp (Int32.not_lt.mp c_506)
                    have z_6 := Int32.le_iff_toInt_le.mp c_510
                    have y_0 : (0 : Int32).toInt = 0 := by decide
                    have y_12 : (12 : Int32).toInt = 12 := by decide
                    have y_400 : (400 : Int32).toInt = 400 := by decide
                    omega
                  have hr_530 : (sv_496 : Int32).toInt = 0 := by
                    have z_1 := Int32.le_iff_toInt_le.mp (Int32.not_lt.mp c_43)
                    have z_2 : ¬ (vy_19 : Int32).toInt = (0 : Int32).toInt := fun z => c_92 (Int32.toInt_inj.mp z)
                    have z_3 := congrArg Int32.toInt c_487
                    have z_4 := congrArg Int32.toInt c_502
                    have z_5 := Int32.le_iff_toInt_le.mp (Int32.not_lt.mp c_506)
                    have z_6 := Int32.le_iff_toInt_le.mp c_510
                    have y_0 : (0 : Int32).toInt = 0 := by decide
                    have y_12 : (12 : Int32).toInt = 12 := by decide
                    have y_400 : (400 : Int32).toInt = 400 := by decide
                    omega
                  have hr_531 : (sv_478 : Int32).toInt ≤ 400 := by
                    have z_1 := Int32.le_iff_toInt_le.mp (Int32.not_lt.mp c_43)
                    have z_2 : ¬ (vy_19 : Int32).toInt = (0 : Int32).toInt := fun z => c_92 (Int32.toInt_inj.mp z)
                    have z_3 := congrArg Int32.toInt c_487
                    have z_4 := congrArg Int32.toInt c_502
                    have z_5 := Int32.le_iff_toInt_le.mp (Int32.not_lt.mp c_506)
                    have z_6 := Int32.le_iff_toInt_le.mp c_510
                    have y_0 : (0 : Int32).toInt = 0 := by decide
                    have y_12 : (12 : Int32).toInt = 12 := by decide
                    have y_400 : (400 : Int32).toInt = 400 := by decide
                    omega
                  exact retA (v := .ref q_511) hx hb hr hlk (Or.inl ⟨_, rfl⟩) (Or.inr ⟨_, rfl⟩) hP hD hS (true, q_511, sv_516, sv_524, vy_20, vy_21, vy_22, sv_478, sv_479, sv_495, sv_496, sv_517, sv_518, 0, 0, (fun _ => 0), 0, 0, 0, 0) ⟨rfl, pf_497, pf_32, (RuK.of (RcL.fin pf_38 hr_526 (Or.inr pf_488)) hu_525 hr_527), pf_519, (RuC.of (RcL.fin pf_38 hr_529 (Or.inr pf_488)) hu_528 hr_530 hr_531 hr_529 pf_38 (Or.inr pf_488) pf_40 pf_41 pf_520)⟩ [0, 3, 1, 2, 5, 4, 6] rfl rfl dX7_read_158 (Nat.le_of_ble_eq_true rfl) (Nat.le_of_ble_eq_true rfl) rfl
                · skip
                  refine lv_null hx hb dX7_read_138 ?_
                  have hu_532 : TpR (Tf 1) (Tv 0) (rEN (cB (Tf 1) (Tv 0)) rq_35) sv_478 sv_479 sv_495 sv_496 := by
                    rw [← ero_499]
                    exact pf_498
                  have hr_533 : ¬ (vy_19 : Int32).toInt = 0 := by
                    have z_1 := Int32.le_iff_toInt_le.mp (Int32.not_lt.mp c_43)
                    have z_2 : ¬ (vy_19 : Int32).toInt = (0 : Int32).toInt := fun z => c_92 (Int32.toInt_inj.mp z)
                    have z_3 := congrArg Int32.toInt c_487
                    have z_4 := congrArg Int32.toInt c_502
                    have z_5 := Int32.le_iff_toInt_le.mp (Int32.not_lt.mp c_506)
                    have z_6 := Int32.lt_iff_toInt_lt.mp (Int32.not_le.mp c_510)
                    have y_0 : (0 : Int32).toInt = 0 := by decide
                    have y_12 : (12 : Int32).toInt = 12 := by decide
                    have y_400 : (400 : Int32).toInt = 400 := by decide
                    omega
                  have hr_534 : ¬ (sv_496 : Int32).toInt = 0 := by
                    have z_1 := Int32.le_iff_toInt_le.mp (Int32.not_lt.mp c_43)
                    have z_2 : ¬ (vy_19 : Int32).toInt = (0 : Int32).toInt := fun z => c_92 (Int32.toInt_inj.mp z)
                    have z_3 := congrArg Int32.toInt c_487
                    have z_4 := congrArg Int32.toInt c_502
                    have z_5 := Int32.le_iff_toInt_le.mp (Int32.not_lt.mp c_506)
                    have z_6 := Int32.lt_iff_toInt_lt.mp (Int32.not_le.mp c_510)
                    have y_0 : (0 : Int32).toInt = 0 := by decide
                    have y_12 : (12 : Int32).toInt = 12 := by decide
                    have y_400 : (400 : Int32).toInt = 400 := by decide
                    omega
                  exact retA (v := .null) hx hb hr hlk (Or.inl ⟨_, rfl⟩) (Or.inl rfl) hP hD hS (false, 0, 0, 0, 0, 0, (fun _ => 0), 0, 0, 0, 0, (fun _ => 0), 0, vy_20, vy_21, vy_22, sv_478, sv_479, sv_495, sv_496) ⟨rfl, pf_497, pf_32, (RuF.of (RcL.fin pf_38 hr_533 (Or.inr pf_488)) hu_532 hr_534)⟩ [0, 1, 2, 3] rfl rfl dX7_read_139 (Nat.le_of_ble_eq_true rfl) (Nat.le_of_ble_eq_true rfl) rfl
          · skip
            have hz_537 : (r_482 : Int32).toInt = 1 := by
              have z_1 := Int32.le_iff_toInt_le.mp (Int32.not_lt.mp c_43)
              have z_2 : ¬ (vy_19 : Int32).toInt = (0 : Int32).toInt := fun z => c_92 (Int32.toInt_inj.mp z)
              have z_3 : ¬ (r_482 : Int32).toInt = (0 : Int32).toInt := fun z => c_487 (Int32.toInt_inj.mp z)
              have y_0 : (0 : Int32).toInt = 0 := by decide
              have y_12 : (12 : Int32).toInt = 12 := by decide
              omega
            obtain ⟨pf_535, pf_536⟩ := hm_485 hz_537
            have pf_535 : Sg (cB (Tf 1) (Tv 0)) (59 : Int) rq_35 := pf_535
            have pf_536 : TpR (Tf 1) (Tv 0) (rNX (cB (Tf 1) (Tv 0)) rq_35) sv_478 sv_479 sv_480 vy_26 := pf_536
            obtain ⟨ro_538, ero_538⟩ : ∃ z : Except Int (Nat × Nat), z = (rNX (cB (Tf 1) (Tv 0)) rq_35) := ⟨_, rfl⟩
            rw [← ero_538] at pf_536
            have tb_539 : TpB (rTE (cB (Tf 1) (Tv 0)) ro_538) sv_479 vy_26 := TpR.tb pf_536
            have cd_540 : Ctd ro_538 vy_21 := by rw [ero_538]; exact (Ctd.nx pf_37)
            have ck_541 : CdK vy_22 vy_20 ro_538 lq_39 := by rw [ero_538]; exact (CdK.nx pf_40)
            refine lv_aload_n hx hb dX7_read_35 rfl (lv_at hl 2 rfl) ?_
            refine va_ldcS hx hb hown (sx_1 hX) dX7_read_36 ?_
            have ha_542 : (1 : Nat) < 7 := by
              have z_1 := Int32.le_iff_toInt_le.mp (Int32.not_lt.mp c_43)
              have z_2 : ¬ (vy_19 : Int32).toInt = (0 : Int32).toInt := fun z => c_92 (Int32.toInt_inj.mp z)
              have z_3 : ¬ (r_482 : Int32).toInt = (0 : Int32).toInt := fun z => c_487 (Int32.toInt_inj.mp z)
              have y_0 : (0 : Int32).toInt = 0 := by decide
              have y_12 : (12 : Int32).toInt = 12 := by decide
              have y_1 : (1 : Int32).toInt = 1 := by decide
              omega
            refine cV (a := (Ta 0)) (As := [.ref (sk.1 1)]) (rest := []) (wr := [((Va 0), .inr (7, [.ref (Va 1), .int vy_20, .int vy_21])), ((Va 1), .inl (tc 0, 400, .inl vy_22))]) ⟨hx, hb, hml, hown, hts⟩ hK hX hA (cu_fX10_isWord l D tc sk (Ta 0) (Ta 1) (Tv 0) sv_478 sv_479 sv_480 vy_26 (Tf 1) 1 ro_538 ha_542 pf_481 h_by pf_536) k_618 k_615 k_616 k_617 k_96 pl_X10_isWord ⟨Nat.le_of_ble_eq_true rfl, Nat.le_of_ble_eq_true rfl⟩ rfl rfl (va_recv hK hP (ci := 10) (q0 := 2) rfl rfl) hP hD hS [2, 3] [0, 1] rfl rfl rfl rfl rfl (by decide) rfl hl.1 rfl (Nat.le_of_ble_eq_true rfl) dX7_read_38 ⟨Nat.le_of_ble_eq_true rfl, Nat.le_of_ble_eq_true rfl⟩ (fun v_543 u_544 H locs hv_545 hP₀ hD₀ hS₀ => ?_)
            obtain ⟨r_546, rfl, he_547, hm_549, hm_550⟩ := hv_545
            have he_547 : (r_546.toInt = 0 ∨ r_546.toInt = 1) := he_547
            refine W.eq (g2 := F0 m 41 ls [.int r_546]) rfl ?_
            replace hP : va_P D classes [((Va 0), .inr (7, [.ref (Va 1), .int vy_20, .int vy_21])), ((Va 1), .inl (tc 0, 400, .inl vy_22)), ((Ta 0), .inr (10, [.ref (Ta 1), .int (Tv 0), .int sv_478, .int sv_479, .int sv_480, .int vy_26])), ((Ta 1), .inl (tc 0, 400, .inl (Tf 1)))] H := hP₀
            replace hD : va_D A [((Va 0), .inr (7, [.ref (Va 1), .int vy_20, .int vy_21])), ((Va 1), .inl (tc 0, 400, .inl vy_22)), ((Ta 0), .inr (10, [.ref (Ta 1), .int (Tv 0), .int sv_478, .int sv_479, .int sv_480, .int vy_26])), ((Ta 1), .inl (tc 0, 400, .inl (Tf 1)))] := hD₀
            replace hS := hS₀
            clear hP₀ hD₀ hS₀
            refine lv_if_ne (tgt := 52) hx hb dX7_read_41 (by decide) (fun c_551 => ?_) (fun c_551 => ?_)
            · skip
              have hz_553 : (r_546 : Int32).toInt = 1 := by
                have z_1 := Int32.le_iff_toInt_le.mp (Int32.not_lt.mp c_43)
                have z_2 : ¬ (vy_19 : Int32).toInt = (0 : Int32).toInt := fun z => c_92 (Int32.toInt_inj.mp z)
                have z_3 : ¬ (r_482 : Int32).toInt = (0 : Int32).toInt := fun z => c_487 (Int32.toInt_inj.mp z)
                have z_4 : ¬ (r_546 : Int32).toInt = (0 : Int32).toInt := fun z => c_551 (Int32.toInt_inj.mp z)
                have y_0 : (0 : Int32).toInt = 0 := by decide
                have y_12 : (12 : Int32).toInt = 12 := by decide
                omega
              obtain pf_552 := hm_549 hz_553
              have pf_552 : TWd (cB (Tf 1) (Tv 0)) (wS (1 : Nat)) ro_538 := pf_552
              refine lv_iload_n hx hb dX7_read_52 rfl (lv_at hl 0 rfl) ?_
              refine lv_bipush (v := 12) hx hb dX7_read_53 (by decide) ?_
              refine lv_icmp_ne (tgt := 63) hx hb dX7_read_55 (by decide) (fun c_554 => ?_) (fun c_554 => ?_)
              · skip
                refine lv_aload_n hx hb dX7_read_63 rfl (lv_at hl 2 rfl) ?_
                refine cV (a := (Ta 0)) (As := []) (rest := []) (wr := [((Va 0), .inr (7, [.ref (Va 1), .int vy_20, .int vy_21])), ((Va 1), .inl (tc 0, 400, .inl vy_22))]) ⟨hx, hb, hml, hown, hts⟩ hK hX hA (cu_fX10_step l D tc sk (Ta 0) (Ta 1) (Tv 0) sv_478 sv_479 sv_480 vy_26 (Tf 1) (rTE (cB (Tf 1) (Tv 0)) ro_538) pf_481 h_by tb_539) k_478 k_620 k_476 k_477 k_96 pl_X10_step ⟨Nat.le_of_ble_eq_true rfl, Nat.le_of_ble_eq_true rfl⟩ rfl rfl (va_recv hK hP (ci := 10) (q0 := 2) rfl rfl) hP hD hS [2, 3] [0, 1] rfl rfl rfl rfl rfl (by decide) rfl hl.1 rfl (Nat.le_of_ble_eq_true rfl) dX7_read_64 ⟨Nat.le_of_ble_eq_true rfl, Nat.le_of_ble_eq_true rfl⟩ (fun v_555 u_556 H locs hv_557 hP₀ hD₀ hS₀ => ?_)
                obtain ⟨sv_558, sv_559, sv_560⟩ := u_556
                obtain ⟨rfl, pf_561, pf_562⟩ := hv_557
                have pf_561 : 0 ≤ ((Tv 0) : Int32).toInt ∧ ((Tv 0) : Int32).toInt ≤ 400 ∧ 0 ≤ (sv_558 : Int32).toInt ∧ (sv_558 : Int32).toInt ≤ 400 ∧ 0 ≤ (sv_559 : Int32).toInt ∧ (sv_559 : Int32).toInt ≤ 400 := pf_561
                have pf_562 : TpR (Tf 1) (Tv 0) (rSK (cB (Tf 1) (Tv 0)) (rTE (cB (Tf 1) (Tv 0)) ro_538)) sv_558 sv_559 sv_560 vy_26 := pf_562
                rw [rNX_eq] at pf_562
                obtain ⟨ro_563, ero_563⟩ : ∃ z : Except Int (Nat × Nat), z = (rNX (cB (Tf 1) (Tv 0)) ro_538) := ⟨_, rfl⟩
                rw [← ero_563] at pf_562
                have tb_564 : TpB (rTE (cB (Tf 1) (Tv 0)) ro_563) sv_559 vy_26 := TpR.tb pf_562
                have cd_565 : Ctd ro_563 vy_21 := by rw [ero_563]; exact (Ctd.nx cd_540)
                have ck_566 : CdK vy_22 vy_20 ro_563 lq_39 := by rw [ero_563]; exact (CdK.nx ck_541)
                refine W.eq (g2 := F0 m 67 ls []) rfl ?_
                replace hP : va_P D classes [((Va 0), .inr (7, [.ref (Va 1), .int vy_20, .int vy_21])), ((Va 1), .inl (tc 0, 400, .inl vy_22)), ((Ta 0), .inr (10, [.ref (Ta 1), .int (Tv 0), .int sv_558, .int sv_559, .int sv_560, .int vy_26])), ((Ta 1), .inl (tc 0, 400, .inl (Tf 1)))] H := hP₀
                replace hD : va_D A [((Va 0), .inr (7, [.ref (Va 1), .int vy_20, .int vy_21])), ((Va 1), .inl (tc 0, 400, .inl vy_22)), ((Ta 0), .inr (10, [.ref (Ta 1), .int (Tv 0), .int sv_558, .int sv_559, .int sv_560, .int vy_26])), ((Ta 1), .inl (tc 0, 400, .inl (Tf 1)))] := hD₀
                replace hS := hS₀
                clear hP₀ hD₀ hS₀
                refine lv_aload_n hx hb dX7_read_67 rfl (lv_at hl 1 rfl) ?_
                refine lv_aload_n hx hb dX7_read_68 rfl (lv_at hl 2 rfl) ?_
                refine cV (a := (Va 0)) (As := [.ref (Ta 0)]) (rest := []) (wr := []) ⟨hx, hb, hml, hown, hts⟩ hK hX hA (cu_kX7_readSum l D tc sk (Va 0) (Va 1) vy_20 vy_21 vy_22 (Ta 0) (Ta 1) (Tv 0) sv_558 sv_559 sv_560 vy_26 (Tf 1) ro_563 lq_39 pf_561 pf_32 h_by pf_562 cd_565 ck_566) k_624 k_621 k_623 k_7 k_99 pl_X7_readSum ⟨Nat.le_of_ble_eq_true rfl, Nat.le_of_ble_eq_true rfl⟩ rfl rfl (va_recv hK hP (ci := 7) (q0 := 0) rfl rfl) hP hD hS [0, 1, 2, 3] [] rfl rfl rfl rfl rfl (by decide) rfl hl.1 rfl (Nat.le_of_ble_eq_true rfl) dX7_read_69 ⟨Nat.le_of_ble_eq_true rfl, Nat.le_of_ble_eq_true rfl⟩ (fun v_567 u_568 H locs hv_569 hP₀ hD₀ hS₀ => ?_)
                obtain ⟨sv_570, sv_571, sv_572, sv_573, sv_574, sv_575, sv_576⟩ := u_568
                obtain ⟨rfl, pf_577, pf_578, pf_579, pf_580, pf_581⟩ := hv_569
                have pf_577 : 0 ≤ ((Tv 0) : Int32).toInt ∧ ((Tv 0) : Int32).toInt ≤ 400 ∧ 0 ≤ (sv_573 : Int32).toInt ∧ (sv_573 : Int32).toInt ≤ 400 ∧ 0 ≤ (sv_574 : Int32).toInt ∧ (sv_574 : Int32).toInt ≤ 400 := pf_577
                have pf_578 : 0 ≤ (sv_570 : Int32).toInt ∧ (sv_570 : Int32).toInt ≤ 400 := pf_578
                have pf_579 : TpR (Tf 1) (Tv 0) (pz_b ro_563 (pz_sum (cB (Tf 1) (Tv 0)))) sv_573 sv_574 sv_575 sv_576 := pf_579
                obtain ⟨ro_582, ero_582⟩ : ∃ z : Except Int (Nat × Nat), z = (pz_b ro_563 (pz_sum (cB (Tf 1) (Tv 0)))) := ⟨_, rfl⟩
                rw [← ero_582] at pf_579
                have tb_583 : TpB (rTE (cB (Tf 1) (Tv 0)) ro_582) sv_574 sv_576 := TpR.tb pf_579
                have pf_580 : Ctd (pz_b ro_563 (pz_sum (cB (Tf 1) (Tv 0)))) sv_571 := pf_580
                rw [← ero_582] at pf_580
                have pf_581 : CdK sv_572 sv_570 (pz_b ro_563 (pz_sum (cB (Tf 1) (Tv 0)))) (Ap ro_563 (lsum (cB (Tf 1) (Tv 0))) lq_39) := pf_581
                rw [← ero_582] at pf_581
                obtain ⟨ro_584, ero_584⟩ : ∃ z : List Int, z = (Ap ro_563 (lsum (cB (Tf 1) (Tv 0))) lq_39) := ⟨_, rfl⟩
                rw [← ero_584] at pf_581
                refine W.eq (g2 := F0 m 72 ls []) rfl ?_
                replace hP : va_P D classes [((Va 0), .inr (7, [.ref (Va 1), .int sv_570, .int sv_571])), ((Va 1), .inl (tc 0, 400, .inl sv_572)), ((Ta 0), .inr (10, [.ref (Ta 1), .int (Tv 0), .int sv_573, .int sv_574, .int sv_575, .int sv_576])), ((Ta 1), .inl (tc 0, 400, .inl (Tf 1)))] H := hP₀
                replace hD : va_D A [((Va 0), .inr (7, [.ref (Va 1), .int sv_570, .int sv_571])), ((Va 1), .inl (tc 0, 400, .inl sv_572)), ((Ta 0), .inr (10, [.ref (Ta 1), .int (Tv 0), .int sv_573, .int sv_574, .int sv_575, .int sv_576])), ((Ta 1), .inl (tc 0, 400, .inl (Tf 1)))] := hD₀
                replace hS := hS₀
                clear hP₀ hD₀ hS₀
                refine lv_aload_n hx hb dX7_read_72 rfl (lv_at hl 2 rfl) ?_
                refine va_ldcS hx hb hown (sx_3 hX) dX7_read_73 ?_
                have ha_585 : (3 : Nat) < 7 := by
                  have z_1 := Int32.le_iff_toInt_le.mp (Int32.not_lt.mp c_43)
                  have z_2 : ¬ (vy_19 : Int32).toInt = (0 : Int32).toInt := fun z => c_92 (Int32.toInt_inj.mp z)
                  have z_3 : ¬ (r_482 : Int32).toInt = (0 : Int32).toInt := fun z => c_487 (Int32.toInt_inj.mp z)
                  have z_4 : ¬ (r_546 : Int32).toInt = (0 : Int32).toInt := fun z => c_551 (Int32.toInt_inj.mp z)
                  have z_5 : ¬ (vy_19 : Int32).toInt = (12 : Int32).toInt := fun z => c_554 (Int32.toInt_inj.mp z)
                  have y_0 : (0 : Int32).toInt = 0 := by decide
                  have y_12 : (12 : Int32).toInt = 12 := by decide
                  have y_3 : (3 : Int32).toInt = 3 := by decide
                  omega
                refine cV (a := (Ta 0)) (As := [.ref (sk.1 3)]) (rest := []) (wr := [((Va 0), .inr (7, [.ref (Va 1), .int sv_570, .int sv_571])), ((Va 1), .inl (tc 0, 400, .inl sv_572))]) ⟨hx, hb, hml, hown, hts⟩ hK hX hA (cu_fX10_takesWord l D tc sk (Ta 0) (Ta 1) (Tv 0) sv_573 sv_574 sv_575 sv_576 (Tf 1) 3 ro_582 ha_585 pf_577 h_by pf_579) k_650 k_647 k_648 k_649 k_96 pl_X10_takesWord ⟨Nat.le_of_ble_eq_true rfl, Nat.le_of_ble_eq_true rfl⟩ rfl rfl (va_recv hK hP (ci := 10) (q0 := 2) rfl rfl) hP hD hS [2, 3] [0, 1] rfl rfl rfl rfl rfl (by decide) rfl hl.1 rfl (Nat.le_of_ble_eq_true rfl) dX7_read_75 ⟨Nat.le_of_ble_eq_true rfl, Nat.le_of_ble_eq_true rfl⟩ (fun v_586 u_587 H locs hv_588 hP₀ hD₀ hS₀ => ?_)
                obtain ⟨sv_589, sv_590, sv_591⟩ := u_587
                obtain ⟨r_593, rfl, he_594, pf_592, hm_596, hm_597⟩ := hv_588
                have he_594 : (r_593.toInt = 0 ∨ r_593.toInt = 1) := he_594
                have pf_592 : 0 ≤ ((Tv 0) : Int32).toInt ∧ ((Tv 0) : Int32).toInt ≤ 400 ∧ 0 ≤ (sv_589 : Int32).toInt ∧ (sv_589 : Int32).toInt ≤ 400 ∧ 0 ≤ (sv_590 : Int32).toInt ∧ (sv_590 : Int32).toInt ≤ 400 := pf_592
                refine W.eq (g2 := F0 m 78 ls [.int r_593]) rfl ?_
                replace hP : va_P D classes [((Va 0), .inr (7, [.ref (Va 1), .int sv_570, .int sv_571])), ((Va 1), .inl (tc 0, 400, .inl sv_572)), ((Ta 0), .inr (10, [.ref (Ta 1), .int (Tv 0), .int sv_589, .int sv_590, .int sv_591, .int sv_576])), ((Ta 1), .inl (tc 0, 400, .inl (Tf 1)))] H := hP₀
                replace hD : va_D A [((Va 0), .inr (7, [.ref (Va 1), .int sv_570, .int sv_571])), ((Va 1), .inl (tc 0, 400, .inl sv_572)), ((Ta 0), .inr (10, [.ref (Ta 1), .int (Tv 0), .int sv_589, .int sv_590, .int sv_591, .int sv_576])), ((Ta 1), .inl (tc 0, 400, .inl (Tf 1)))] := hD₀
                replace hS := hS₀
                clear hP₀ hD₀ hS₀
                refine lv_if_eq (tgt := 96) hx hb dX7_read_78 (by decide) (fun c_598 => ?_) (fun c_598 => ?_)
                · skip
                  have hz_601 : (r_593 : Int32).toInt = 0 := by
                    have z_1 := Int32.le_iff_toInt_le.mp (Int32.not_lt.mp c_43)
                    have z_2 : ¬ (vy_19 : Int32).toInt = (0 : Int32).toInt := fun z => c_92 (Int32.toInt_inj.mp z)
                    have z_3 : ¬ (r_482 : Int32).toInt = (0 : Int32).toInt := fun z => c_487 (Int32.toInt_inj.mp z)
                    have z_4 : ¬ (r_546 : Int32).toInt = (0 : Int32).toInt := fun z => c_551 (Int32.toInt_inj.mp z)
                    have z_5 : ¬ (vy_19 : Int32).toInt = (12 : Int32).toInt := fun z => c_554 (Int32.toInt_inj.mp z)
                    have z_6 := congrArg Int32.toInt c_598
                    have y_0 : (0 : Int32).toInt = 0 := by decide
                    have y_12 : (12 : Int32).toInt = 12 := by decide
                    omega
                  obtain ⟨pf_599, pf_600⟩ := hm_597 hz_601
                  have pf_599 : NWd (cB (Tf 1) (Tv 0)) (wS (3 : Nat)) ro_582 := pf_599
                  have pf_600 : TpR (Tf 1) (Tv 0) ro_582 sv_589 sv_590 sv_591 sv_576 := pf_600
                  have tb_602 : TpB (rTE (cB (Tf 1) (Tv 0)) ro_582) sv_590 sv_576 := TpR.tb pf_600
                  refine lv_aload_n hx hb dX7_read_96 rfl (lv_at hl 1 rfl) ?_
                  refine lv_bipush (v := (-2)) hx hb dX7_read_97 (by decide) ?_
                  refine cV (a := (Va 0)) (As := [.int (-2)]) (rest := []) (wr := [((Ta 0), .inr (10, [.ref (Ta 1), .int (Tv 0), .int sv_589, .int sv_590, .int sv_591, .int sv_576])), ((Ta 1), .inl (tc 0, 400, .inl (Tf 1)))]) ⟨hx, hb, hml, hown, hts⟩ hK hX hA (cu_kX7_put l D tc sk (Va 0) (Va 1) sv_570 sv_571 sv_572 (-2) ro_582 ro_584 pf_578 pf_581) k_642 k_639 k_641 k_10 k_99 pl_X7_put ⟨Nat.le_of_ble_eq_true rfl, Nat.le_of_ble_eq_true rfl⟩ rfl rfl (va_recv hK hP (ci := 7) (q0 := 0) rfl rfl) hP hD hS [0, 1] [2, 3] rfl rfl rfl rfl rfl (by decide) rfl hl.1 rfl (Nat.le_of_ble_eq_true rfl) dX7_read_99 ⟨Nat.le_of_ble_eq_true rfl, Nat.le_of_ble_eq_true rfl⟩ (fun v_603 u_604 H locs hv_605 hP₀ hD₀ hS₀ => ?_)
                  obtain ⟨sv_606, sv_607⟩ := u_604
                  obtain ⟨rfl, pf_608, pf_609⟩ := hv_605
                  have pf_608 : 0 ≤ (sv_606 : Int32).toInt ∧ (sv_606 : Int32).toInt ≤ 400 := pf_608
                  have pf_609 : CdK sv_607 sv_606 ro_582 (ro_584 ++ [((-2) : Int32).toInt]) := pf_609
                  rw [show ((-2) : Int32).toInt = -2 by decide] at pf_609
                  obtain ⟨ro_610, ero_610⟩ : ∃ z : List Int, z = (ro_584 ++ [-2]) := ⟨_, rfl⟩
                  rw [← ero_610] at pf_609
                  refine W.eq (g2 := F0 m 102 ls []) rfl ?_
                  replace hP : va_P D classes [((Ta 0), .inr (10, [.ref (Ta 1), .int (Tv 0), .int sv_589, .int sv_590, .int sv_591, .int sv_576])), ((Ta 1), .inl (tc 0, 400, .inl (Tf 1))), ((Va 0), .inr (7, [.ref (Va 1), .int sv_606, .int sv_571])), ((Va 1), .inl (tc 0, 400, .inl sv_607))] H := hP₀
                  replace hD : va_D A [((Ta 0), .inr (10, [.ref (Ta 1), .int (Tv 0), .int sv_589, .int sv_590, .int sv_591, .int sv_576])), ((Ta 1), .inl (tc 0, 400, .inl (Tf 1))), ((Va 0), .inr (7, [.ref (Va 1), .int sv_606, .int sv_571])), ((Va 1), .inl (tc 0, 400, .inl sv_607))] := hD₀
                  replace hS := hS₀
                  clear hP₀ hD₀ hS₀
                  obtain ⟨x_611, ex_611⟩ : ∃ y : Int32, y = vy_19 + 1 := ⟨_, rfl⟩
                  refine lv_iinc (v := x_611) (lv' := [(2, .int x_611), (0, .ref (Va 0)), (1, .ref (Ta 0))]) hx hb dX7_read_102 hl (k := 0) rfl (by rw [ex_611]; rfl) (by decide) rfl (fun ls hl₀ => ?_)
                  replace hl := hl₀
                  clear hl₀
                  refine lv_goto (tgt := 16) hx hb dX7_read_105 (by decide) ?_
                  have hb_612 : 14 - (x_611 : Int32).toInt < 14 - (vy_19 : Int32).toInt ∧ 1 ≤ 14 - (vy_19 : Int32).toInt := by
                    have z_1 := Int32.le_iff_toInt_le.mp (Int32.not_lt.mp c_43)
                    have z_2 : ¬ (vy_19 : Int32).toInt = (0 : Int32).toInt := fun z => c_92 (Int32.toInt_inj.mp z)
                    have z_3 : ¬ (r_482 : Int32).toInt = (0 : Int32).toInt := fun z => c_487 (Int32.toInt_inj.mp z)
                    have z_4 : ¬ (r_546 : Int32).toInt = (0 : Int32).toInt := fun z => c_551 (Int32.toInt_inj.mp z)
                    have z_5 : ¬ (vy_19 : Int32).toInt = (12 : Int32).toInt := fun z => c_554 (Int32.toInt_inj.mp z)
                    have z_6 := congrArg Int32.toInt c_598
                    have y_0 : (0 : Int32).toInt = 0 := by decide
                    have y_12 : (12 : Int32).toInt = 12 := by decide
                    have y_1 : (1 : Int32).toInt = 1 := by decide
                    have t_x_611 : x_611.toInt = (vy_19 : Int32).toInt + (1 : Int32).toInt := by rw [ex_611]; exact add_toInt (by omega) (by omega)
                    omega
                  have ha_613 : 0 ≤ (x_611 : Int32).toInt ∧ (x_611 : Int32).toInt ≤ 13 := by
                    have z_1 := Int32.le_iff_toInt_le.mp (Int32.not_lt.mp c_43)
                    have z_2 : ¬ (vy_19 : Int32).toInt = (0 : Int32).toInt := fun z => c_92 (Int32.toInt_inj.mp z)
                    have z_3 : ¬ (r_482 : Int32).toInt = (0 : Int32).toInt := fun z => c_487 (Int32.toInt_inj.mp z)
                    have z_4 : ¬ (r_546 : Int32).toInt = (0 : Int32).toInt := fun z => c_551 (Int32.toInt_inj.mp z)
                    have z_5 : ¬ (vy_19 : Int32).toInt = (12 : Int32).toInt := fun z => c_554 (Int32.toInt_inj.mp z)
                    have z_6 := congrArg Int32.toInt c_598
                    have y_0 : (0 : Int32).toInt = 0 := by decide
                    have y_12 : (12 : Int32).toInt = 12 := by decide
                    have y_1 : (1 : Int32).toInt = 1 := by decide
                    have t_x_611 : x_611.toInt = (vy_19 : Int32).toInt + (1 : Int32).toInt := by rw [ex_611]; exact add_toInt (by omega) (by omega)
                    omega
                  have hw_614 : TWd (cB (Tf 1) (Tv 0)) pz_buy (rNX (cB (Tf 1) (Tv 0)) rq_35) := by
                    rw [← ero_538, ← wS1]
                    exact pf_552
                  have hr_615 : (vy_19 : Int32).toInt.toNat ≠ 12 := by
                    have z_1 := Int32.le_iff_toInt_le.mp (Int32.not_lt.mp c_43)
                    have z_2 : ¬ (vy_19 : Int32).toInt = (0 : Int32).toInt := fun z => c_92 (Int32.toInt_inj.mp z)
                    have z_3 : ¬ (r_482 : Int32).toInt = (0 : Int32).toInt := fun z => c_487 (Int32.toInt_inj.mp z)
                    have z_4 : ¬ (r_546 : Int32).toInt = (0 : Int32).toInt := fun z => c_551 (Int32.toInt_inj.mp z)
                    have z_5 : ¬ (vy_19 : Int32).toInt = (12 : Int32).toInt := fun z => c_554 (Int32.toInt_inj.mp z)
                    have z_6 := congrArg Int32.toInt c_598
                    have y_0 : (0 : Int32).toInt = 0 := by decide
                    have y_12 : (12 : Int32).toInt = 12 := by decide
                    omega
                  have hw_616 : NWd (cB (Tf 1) (Tv 0)) pz_if (pz_b (rNX (cB (Tf 1) (Tv 0)) (rNX (cB (Tf 1) (Tv 0)) rq_35)) (pz_sum (cB (Tf 1) (Tv 0)))) := by
                    rw [← ero_538, ← ero_563, ← ero_582, ← wS3]
                    exact pf_599
                  have hE_617 : pz_b (rNX (cB (Tf 1) (Tv 0)) rq_35) (pz_cla (cB (Tf 1) (Tv 0)) (vy_19 : Int32).toInt.toNat) = ro_582 := by
                    rw [ero_582, ero_563, ero_538]
                    exact (cla_un hw_614 hr_615 hw_616)
                  have hu_618 : TpR (Tf 1) (Tv 0) (pz_b (rNX (cB (Tf 1) (Tv 0)) rq_35) (pz_cla (cB (Tf 1) (Tv 0)) (vy_19 : Int32).toInt.toNat)) sv_589 sv_590 sv_591 sv_576 := by rw [hE_617]; exact pf_600
                  have hu_619 : Ctd (pz_b (rNX (cB (Tf 1) (Tv 0)) rq_35) (pz_cla (cB (Tf 1) (Tv 0)) (vy_19 : Int32).toInt.toNat)) sv_571 := by rw [hE_617]; exact pf_580
                  have hu_620 : CdK sv_607 sv_606 (pz_b (rNX (cB (Tf 1) (Tv 0)) rq_35) (pz_cla (cB (Tf 1) (Tv 0)) (vy_19 : Int32).toInt.toNat)) ro_610 := by rw [hE_617]; exact pf_609
                  have hu_621 : ∀ t, (pz_b (rNX (cB (Tf 1) (Tv 0)) rq_35) (pz_cla (cB (Tf 1) (Tv 0)) (vy_19 : Int32).toInt.toNat)) = .ok t → ∃ s0, (rNX (cB (Tf 1) (Tv 0)) rq_35) = .ok s0 ∧ ro_610 = lq_39 ++ ru_1 (ru_cl (cB (Tf 1) (Tv 0)) s0) := by
                    rw [ero_610, ero_584, ero_563, ero_538]
                    exact cl_un hw_614 hr_615 hw_616
                  have hi_622 : (x_611 : Int32).toInt = (vy_19 : Int32).toInt + 1 := by
                    have z_1 := Int32.le_iff_toInt_le.mp (Int32.not_lt.mp c_43)
                    have z_2 : ¬ (vy_19 : Int32).toInt = (0 : Int32).toInt := fun z => c_92 (Int32.toInt_inj.mp z)
                    have z_3 : ¬ (r_482 : Int32).toInt = (0 : Int32).toInt := fun z => c_487 (Int32.toInt_inj.mp z)
                    have z_4 : ¬ (r_546 : Int32).toInt = (0 : Int32).toInt := fun z => c_551 (Int32.toInt_inj.mp z)
                    have z_5 : ¬ (vy_19 : Int32).toInt = (12 : Int32).toInt := fun z => c_554 (Int32.toInt_inj.mp z)
                    have z_6 := congrArg Int32.toInt c_598
                    have y_0 : (0 : Int32).toInt = 0 := by decide
                    have y_12 : (12 : Int32).toInt = 12 := by decide
                    have y_1 : (1 : Int32).toInt = 1 := by decide
                    have t_x_611 : x_611.toInt = (vy_19 : Int32).toInt + (1 : Int32).toInt := by rw [ex_611]; exact add_toInt (by omega) (by omega)
                    omega
                  have hr_623 : 1 ≤ (vy_19 : Int32).toInt ∧ (vy_19 : Int32).toInt ≤ 12 := by
                    have z_1 := Int32.le_iff_toInt_le.mp (Int32.not_lt.mp c_43)
                    have z_2 : ¬ (vy_19 : Int32).toInt = (0 : Int32).toInt := fun z => c_92 (Int32.toInt_inj.mp z)
                    have z_3 : ¬ (r_482 : Int32).toInt = (0 : Int32).toInt := fun z => c_487 (Int32.toInt_inj.mp z)
                    have z_4 : ¬ (r_546 : Int32).toInt = (0 : Int32).toInt := fun z => c_551 (Int32.toInt_inj.mp z)
                    have z_5 : ¬ (vy_19 : Int32).toInt = (12 : Int32).toInt := fun z => c_554 (Int32.toInt_inj.mp z)
                    have z_6 := congrArg Int32.toInt c_598
                    have y_0 : (0 : Int32).toInt = 0 := by decide
                    have y_12 : (12 : Int32).toInt = 12 := by decide
                    omega
                  exact ih_28 x_611 sv_606 sv_571 sv_607 sv_589 sv_590 sv_591 sv_576 _ _ _ (by omega) ha_613 pf_592 pf_608 (RcC.nextS h_tape.2.1 hr_623 pf_535 pf_38 pf_41 hu_618 hu_619 hu_620 hu_621 hi_622) (hP.sub [2, 3, 0, 1] rfl) (hD.sub [2, 3, 0, 1] rfl rfl) hS (lv_sub hl [0, 1, 2] rfl)
                · skip
                  have hz_626 : (r_593 : Int32).toInt = 1 := by
                    have z_1 := Int32.le_iff_toInt_le.mp (Int32.not_lt.mp c_43)
                    have z_2 : ¬ (vy_19 : Int32).toInt = (0 : Int32).toInt := fun z => c_92 (Int32.toInt_inj.mp z)
                    have z_3 : ¬ (r_482 : Int32).toInt = (0 : Int32).toInt := fun z => c_487 (Int32.toInt_inj.mp z)
                    have z_4 : ¬ (r_546 : Int32).toInt = (0 : Int32).toInt := fun z => c_551 (Int32.toInt_inj.mp z)
                    have z_5 : ¬ (vy_19 : Int32).toInt = (12 : Int32).toInt := fun z => c_554 (Int32.toInt_inj.mp z)
                    have z_6 : ¬ (r_593 : Int32).toInt = (0 : Int32).toInt := fun z => c_598 (Int32.toInt_inj.mp z)
                    have y_0 : (0 : Int32).toInt = 0 := by decide
                    have y_12 : (12 : Int32).toInt = 12 := by decide
                    omega
                  obtain ⟨pf_624, pf_625⟩ := hm_596 hz_626
                  have pf_624 : TWd (cB (Tf 1) (Tv 0)) (wS (3 : Nat)) ro_582 := pf_624
                  have pf_625 : TpR (Tf 1) (Tv 0) (rNX (cB (Tf 1) (Tv 0)) ro_582) sv_589 sv_590 sv_591 sv_576 := pf_625
                  obtain ⟨ro_627, ero_627⟩ : ∃ z : Except Int (Nat × Nat), z = (rNX (cB (Tf 1) (Tv 0)) ro_582) := ⟨_, rfl⟩
                  rw [← ero_627] at pf_625
                  have tb_628 : TpB (rTE (cB (Tf 1) (Tv 0)) ro_627) sv_590 sv_576 := TpR.tb pf_625
                  have cd_629 : Ctd ro_627 sv_571 := by rw [ero_627]; exact (Ctd.nx pf_580)
                  have ck_630 : CdK sv_572 sv_570 ro_627 ro_584 := by rw [ero_627]; exact (CdK.nx pf_581)
                  refine lv_aload_n hx hb dX7_read_81 rfl (lv_at hl 1 rfl) ?_
                  refine lv_aload_n hx hb dX7_read_82 rfl (lv_at hl 2 rfl) ?_
                  refine lv_iconst (v := 0) hx hb dX7_read_83 (by decide) ?_
                  refine cV (a := (Va 0)) (As := [.ref (Ta 0), .int 0]) (rest := []) (wr := []) ⟨hx, hb, hml, hown, hts⟩ hK hX hA (cu_kX7_readTest_0 l D tc sk (Va 0) (Va 1) sv_570 sv_571 sv_572 (Ta 0) (Ta 1) (Tv 0) sv_589 sv_590 sv_591 sv_576 (Tf 1) ro_627 ro_584 pf_592 pf_578 h_by pf_625 cd_629 ck_630) k_655 k_652 k_654 k_11 k_99 pl_X7_readTest ⟨Nat.le_of_ble_eq_true rfl, Nat.le_of_ble_eq_true rfl⟩ rfl rfl (va_recv hK hP (ci := 7) (q0 := 0) rfl rfl) hP hD hS [0, 1, 2, 3] [] rfl rfl rfl rfl rfl (by decide) rfl hl.1 rfl (Nat.le_of_ble_eq_true rfl) dX7_read_84 ⟨Nat.le_of_ble_eq_true rfl, Nat.le_of_ble_eq_true rfl⟩ (fun v_631 u_632 H locs hv_633 hP₀ hD₀ hS₀ => ?_)
                  obtain ⟨sv_634, sv_635, sv_636, sv_637, sv_638, sv_639, sv_640⟩ := u_632
                  obtain ⟨rfl, pf_641, pf_642, pf_643, pf_644, pf_645⟩ := hv_633
                  have pf_641 : 0 ≤ ((Tv 0) : Int32).toInt ∧ ((Tv 0) : Int32).toInt ≤ 400 ∧ 0 ≤ (sv_637 : Int32).toInt ∧ (sv_637 : Int32).toInt ≤ 400 ∧ 0 ≤ (sv_638 : Int32).toInt ∧ (sv_638 : Int32).toInt ≤ 400 := pf_641
                  have pf_642 : 0 ≤ (sv_634 : Int32).toInt ∧ (sv_634 : Int32).toInt ≤ 400 := pf_642
                  have pf_643 : TpR (Tf 1) (Tv 0) (pz_b ro_627 (pz_tst (cB (Tf 1) (Tv 0)) (pz_fact (cB (Tf 1) (Tv 0)) 10))) sv_637 sv_638 sv_639 sv_640 := pf_643
                  obtain ⟨ro_646, ero_646⟩ : ∃ z : Except Int (Nat × Nat), z = (pz_b ro_627 (pz_tst (cB (Tf 1) (Tv 0)) (pz_fact (cB (Tf 1) (Tv 0)) 10))) := ⟨_, rfl⟩
                  rw [← ero_646] at pf_643
                  have tb_647 : TpB (rTE (cB (Tf 1) (Tv 0)) ro_646) sv_638 sv_640 := TpR.tb pf_643
                  have pf_644 : Ctd (pz_b ro_627 (pz_tst (cB (Tf 1) (Tv 0)) (pz_fact (cB (Tf 1) (Tv 0)) 10))) sv_635 := pf_644
                  rw [← ero_646] at pf_644
                  have pf_645 : CdK sv_636 sv_634 (pz_b ro_627 (pz_tst (cB (Tf 1) (Tv 0)) (pz_fact (cB (Tf 1) (Tv 0)) 10))) (Ap ro_627 (ltst (cB (Tf 1) (Tv 0)) 10) ro_584) := pf_645
                  rw [← ero_646] at pf_645
                  obtain ⟨ro_648, ero_648⟩ : ∃ z : List Int, z = (Ap ro_627 (ltst (cB (Tf 1) (Tv 0)) 10) ro_584) := ⟨_, rfl⟩
                  rw [← ero_648] at pf_645
                  refine W.eq (g2 := F0 m 87 ls []) rfl ?_
                  replace hP : va_P D classes [((Va 0), .inr (7, [.ref (Va 1), .int sv_634, .int sv_635])), ((Va 1), .inl (tc 0, 400, .inl sv_636)), ((Ta 0), .inr (10, [.ref (Ta 1), .int (Tv 0), .int sv_637, .int sv_638, .int sv_639, .int sv_640])), ((Ta 1), .inl (tc 0, 400, .inl (Tf 1)))] H := hP₀
                  replace hD : va_D A [((Va 0), .inr (7, [.ref (Va 1), .int sv_634, .int sv_635])), ((Va 1), .inl (tc 0, 400, .inl sv_636)), ((Ta 0), .inr (10, [.ref (Ta 1), .int (Tv 0), .int sv_637, .int sv_638, .int sv_639, .int sv_640])), ((Ta 1), .inl (tc 0, 400, .inl (Tf 1)))] := hD₀
                  replace hS := hS₀
                  clear hP₀ hD₀ hS₀
                  refine lv_aload_n hx hb dX7_read_87 rfl (lv_at hl 1 rfl) ?_
                  refine lv_bipush (v := (-3)) hx hb dX7_read_88 (by decide) ?_
                  refine cV (a := (Va 0)) (As := [.int (-3)]) (rest := []) (wr := [((Ta 0), .inr (10, [.ref (Ta 1), .int (Tv 0), .int sv_637, .int sv_638, .int sv_639, .int sv_640])), ((Ta 1), .inl (tc 0, 400, .inl (Tf 1)))]) ⟨hx, hb, hml, hown, hts⟩ hK hX hA (cu_kX7_put l D tc sk (Va 0) (Va 1) sv_634 sv_635 sv_636 (-3) ro_646 ro_648 pf_642 pf_645) k_642 k_639 k_641 k_10 k_99 pl_X7_put ⟨Nat.le_of_ble_eq_true rfl, Nat.le_of_ble_eq_true rfl⟩ rfl rfl (va_recv hK hP (ci := 7) (q0 := 0) rfl rfl) hP hD hS [0, 1] [2, 3] rfl rfl rfl rfl rfl (by decide) rfl hl.1 rfl (Nat.le_of_ble_eq_true rfl) dX7_read_90 ⟨Nat.le_of_ble_eq_true rfl, Nat.le_of_ble_eq_true rfl⟩ (fun v_649 u_650 H locs hv_651 hP₀ hD₀ hS₀ => ?_)
                  obtain ⟨sv_652, sv_653⟩ := u_650
                  obtain ⟨rfl, pf_654, pf_655⟩ := hv_651
                  have pf_654 : 0 ≤ (sv_652 : Int32).toInt ∧ (sv_652 : Int32).toInt ≤ 400 := pf_654
                  have pf_655 : CdK sv_653 sv_652 ro_646 (ro_648 ++ [((-3) : Int32).toInt]) := pf_655
                  rw [show ((-3) : Int32).toInt = -3 by decide] at pf_655
                  obtain ⟨ro_656, ero_656⟩ : ∃ z : List Int, z = (ro_648 ++ [-3]) := ⟨_, rfl⟩
                  rw [← ero_656] at pf_655
                  refine W.eq (g2 := F0 m 93 ls []) rfl ?_
                  replace hP : va_P D classes [((Ta 0), .inr (10, [.ref (Ta 1), .int (Tv 0), .int sv_637, .int sv_638, .int sv_639, .int sv_640])), ((Ta 1), .inl (tc 0, 400, .inl (Tf 1))), ((Va 0), .inr (7, [.ref (Va 1), .int sv_652, .int sv_635])), ((Va 1), .inl (tc 0, 400, .inl sv_653))] H := hP₀
                  replace hD : va_D A [((Ta 0), .inr (10, [.ref (Ta 1), .int (Tv 0), .int sv_637, .int sv_638, .int sv_639, .int sv_640])), ((Ta 1), .inl (tc 0, 400, .inl (Tf 1))), ((Va 0), .inr (7, [.ref (Va 1), .int sv_652, .int sv_635])), ((Va 1), .inl (tc 0, 400, .inl sv_653))] := hD₀
                  replace hS := hS₀
                  clear hP₀ hD₀ hS₀
                  refine lv_goto (tgt := 102) hx hb dX7_read_93 (by decide) ?_
                  obtain ⟨x_657, ex_657⟩ : ∃ y : Int32, y = vy_19 + 1 := ⟨_, rfl⟩
                  refine lv_iinc (v := x_657) (lv' := [(2, .int x_657), (0, .ref (Va 0)), (1, .ref (Ta 0))]) hx hb dX7_read_102 hl (k := 0) rfl (by rw [ex_657]; rfl) (by decide) rfl (fun ls hl₀ => ?_)
                  replace hl := hl₀
                  clear hl₀
                  refine lv_goto (tgt := 16) hx hb dX7_read_105 (by decide) ?_
                  have hb_658 : 14 - (x_657 : Int32).toInt < 14 - (vy_19 : Int32).toInt ∧ 1 ≤ 14 - (vy_19 : Int32).toInt := by
                    have z_1 := Int32.le_iff_toInt_le.mp (Int32.not_lt.mp c_43)
                    have z_2 : ¬ (vy_19 : Int32).toInt = (0 : Int32).toInt := fun z => c_92 (Int32.toInt_inj.mp z)
                    have z_3 : ¬ (r_482 : Int32).toInt = (0 : Int32).toInt := fun z => c_487 (Int32.toInt_inj.mp z)
                    have z_4 : ¬ (r_546 : Int32).toInt = (0 : Int32).toInt := fun z => c_551 (Int32.toInt_inj.mp z)
                    have z_5 : ¬ (vy_19 : Int32).toInt = (12 : Int32).toInt := fun z => c_554 (Int32.toInt_inj.mp z)
                    have z_6 : ¬ (r_593 : Int32).toInt = (0 : Int32).toInt := fun z => c_598 (Int32.toInt_inj.mp z)
                    have y_0 : (0 : Int32).toInt = 0 := by decide
                    have y_12 : (12 : Int32).toInt = 12 := by decide
                    have y_1 : (1 : Int32).toInt = 1 := by decide
                    have t_x_657 : x_657.toInt = (vy_19 : Int32).toInt + (1 : Int32).toInt := by rw [ex_657]; exact add_toInt (by omega) (by omega)
                    omega
                  have ha_659 : 0 ≤ (x_657 : Int32).toInt ∧ (x_657 : Int32).toInt ≤ 13 := by
                    have z_1 := Int32.le_iff_toInt_le.mp (Int32.not_lt.mp c_43)
                    have z_2 : ¬ (vy_19 : Int32).toInt = (0 : Int32).toInt := fun z => c_92 (Int32.toInt_inj.mp z)
                    have z_3 : ¬ (r_482 : Int32).toInt = (0 : Int32).toInt := fun z => c_487 (Int32.toInt_inj.mp z)
                    have z_4 : ¬ (r_546 : Int32).toInt = (0 : Int32).toInt := fun z => c_551 (Int32.toInt_inj.mp z)
                    have z_5 : ¬ (vy_19 : Int32).toInt = (12 : Int32).toInt := fun z => c_554 (Int32.toInt_inj.mp z)
                    have z_6 : ¬ (r_593 : Int32).toInt = (0 : Int32).toInt := fun z => c_598 (Int32.toInt_inj.mp z)
                    have y_0 : (0 : Int32).toInt = 0 := by decide
                    have y_12 : (12 : Int32).toInt = 12 := by decide
                    have y_1 : (1 : Int32).toInt = 1 := by decide
                    have t_x_657 : x_657.toInt = (vy_19 : Int32).toInt + (1 : Int32).toInt := by rw [ex_657]; exact add_toInt (by omega) (by omega)
                    omega
                  have hw_660 : TWd (cB (Tf 1) (Tv 0)) pz_buy (rNX (cB (Tf 1) (Tv 0)) rq_35) := by
                    rw [← ero_538, ← wS1]
                    exact pf_552
                  have hr_661 : (vy_19 : Int32).toInt.toNat ≠ 12 := by
                    have z_1 := Int32.le_iff_toInt_le.mp (Int32.not_lt.mp c_43)
                    have z_2 : ¬ (vy_19 : Int32).toInt = (0 : Int32).toInt := fun z => c_92 (Int32.toInt_inj.mp z)
                    have z_3 : ¬ (r_482 : Int32).toInt = (0 : Int32).toInt := fun z => c_487 (Int32.toInt_inj.mp z)
                    have z_4 : ¬ (r_546 : Int32).toInt = (0 : Int32).toInt := fun z => c_551 (Int32.toInt_inj.mp z)
                    have z_5 : ¬ (vy_19 : Int32).toInt = (12 : Int32).toInt := fun z => c_554 (Int32.toInt_inj.mp z)
                    have z_6 : ¬ (r_593 : Int32).toInt = (0 : Int32).toInt := fun z => c_598 (Int32.toInt_inj.mp z)
                    have y_0 : (0 : Int32).toInt = 0 := by decide
                    have y_12 : (12 : Int32).toInt = 12 := by decide
                    omega
                  have hw_662 : TWd (cB (Tf 1) (Tv 0)) pz_if (pz_b (rNX (cB (Tf 1) (Tv 0)) (rNX (cB (Tf 1) (Tv 0)) rq_35)) (pz_sum (cB (Tf 1) (Tv 0)))) := by
                    rw [← ero_538, ← ero_563, ← ero_582, ← wS3]
                    exact pf_624
                  have hE_663 : pz_b (rNX (cB (Tf 1) (Tv 0)) rq_35) (pz_cla (cB (Tf 1) (Tv 0)) (vy_19 : Int32).toInt.toNat) = ro_646 := by
                    rw [ero_646, ero_627, ero_582, ero_563, ero_538]
                    exact (cla_if hw_660 hr_661 hw_662)
                  have hu_664 : TpR (Tf 1) (Tv 0) (pz_b (rNX (cB (Tf 1) (Tv 0)) rq_35) (pz_cla (cB (Tf 1) (Tv 0)) (vy_19 : Int32).toInt.toNat)) sv_637 sv_638 sv_639 sv_640 := by rw [hE_663]; exact pf_643
                  have hu_665 : Ctd (pz_b (rNX (cB (Tf 1) (Tv 0)) rq_35) (pz_cla (cB (Tf 1) (Tv 0)) (vy_19 : Int32).toInt.toNat)) sv_635 := by rw [hE_663]; exact pf_644
                  have hu_666 : CdK sv_653 sv_652 (pz_b (rNX (cB (Tf 1) (Tv 0)) rq_35) (pz_cla (cB (Tf 1) (Tv 0)) (vy_19 : Int32).toInt.toNat)) ro_656 := by rw [hE_663]; exact pf_655
                  have hu_667 : ∀ t, (pz_b (rNX (cB (Tf 1) (Tv 0)) rq_35) (pz_cla (cB (Tf 1) (Tv 0)) (vy_19 : Int32).toInt.toNat)) = .ok t → ∃ s0, (rNX (cB (Tf 1) (Tv 0)) rq_35) = .ok s0 ∧ ro_656 = lq_39 ++ ru_1 (ru_cl (cB (Tf 1) (Tv 0)) s0) := by
                    rw [ero_656, ero_648, ero_627, ero_584, ero_582, ero_563, ero_538]
                    exact cl_if hw_660 hr_661 hw_662
                  have hi_668 : (x_657 : Int32).toInt = (vy_19 : Int32).toInt + 1 := by
                    have z_1 := Int32.le_iff_toInt_le.mp (Int32.not_lt.mp c_43)
                    have z_2 : ¬ (vy_19 : Int32).toInt = (0 : Int32).toInt := fun z => c_92 (Int32.toInt_inj.mp z)
                    have z_3 : ¬ (r_482 : Int32).toInt = (0 : Int32).toInt := fun z => c_487 (Int32.toInt_inj.mp z)
                    have z_4 : ¬ (r_546 : Int32).toInt = (0 : Int32).toInt := fun z => c_551 (Int32.toInt_inj.mp z)
                    have z_5 : ¬ (vy_19 : Int32).toInt = (12 : Int32).toInt := fun z => c_554 (Int32.toInt_inj.mp z)
                    have z_6 : ¬ (r_593 : Int32).toInt = (0 : Int32).toInt := fun z => c_598 (Int32.toInt_inj.mp z)
                    have y_0 : (0 : Int32).toInt = 0 := by decide
                    have y_12 : (12 : Int32).toInt = 12 := by decide
                    have y_1 : (1 : Int32).toInt = 1 := by decide
                    have t_x_657 : x_657.toInt = (vy_19 : Int32).toInt + (1 : Int32).toInt := by rw [ex_657]; exact add_toInt (by omega) (by omega)
                    omega
                  have hr_669 : 1 ≤ (vy_19 : Int32).toInt ∧ (vy_19 : Int32).toInt ≤ 12 := by
                    have z_1 := Int32.le_iff_toInt_le.mp (Int32.not_lt.mp c_43)
                    have z_2 : ¬ (vy_19 : Int32).toInt = (0 : Int32).toInt := fun z => c_92 (Int32.toInt_inj.mp z)
                    have z_3 : ¬ (r_482 : Int32).toInt = (0 : Int32).toInt := fun z => c_487 (Int32.toInt_inj.mp z)
                    have z_4 : ¬ (r_546 : Int32).toInt = (0 : Int32).toInt := fun z => c_551 (Int32.toInt_inj.mp z)
                    have z_5 : ¬ (vy_19 : Int32).toInt = (12 : Int32).toInt := fun z => c_554 (Int32.toInt_inj.mp z)
                    have z_6 : ¬ (r_593 : Int32).toInt = (0 : Int32).toInt := fun z => c_598 (Int32.toInt_inj.mp z)
                    have y_0 : (0 : Int32).toInt = 0 := by decide
                    have y_12 : (12 : Int32).toInt = 12 := by decide
                    omega
                  exact ih_28 x_657 sv_652 sv_635 sv_653 sv_637 sv_638 sv_639 sv_640 _ _ _ (by omega) ha_659 pf_641 pf_654 (RcC.nextS h_tape.2.1 hr_669 pf_535 pf_38 pf_41 hu_664 hu_665 hu_666 hu_667 hi_668) (hP.sub [2, 3, 0, 1] rfl) (hD.sub [2, 3, 0, 1] rfl rfl) hS (lv_sub hl [0, 1, 2] rfl)
              · skip
                refine lv_aload_n hx hb dX7_read_58 rfl (lv_at hl 2 rfl) ?_
                refine lv_iconst (v := 4) hx hb dX7_read_59 (by decide) ?_
                have ha_670 : 0 ≤ (4 : Int32).toInt ∧ (4 : Int32).toInt ≤ 4 := by
                  have z_1 := Int32.le_iff_toInt_le.mp (Int32.not_lt.mp c_43)
                  have z_2 : ¬ (vy_19 : Int32).toInt = (0 : Int32).toInt := fun z => c_92 (Int32.toInt_inj.mp z)
                  have z_3 : ¬ (r_482 : Int32).toInt = (0 : Int32).toInt := fun z => c_487 (Int32.toInt_inj.mp z)
                  have z_4 : ¬ (r_546 : Int32).toInt = (0 : Int32).toInt := fun z => c_551 (Int32.toInt_inj.mp z)
                  have z_5 := congrArg Int32.toInt c_554
                  have y_0 : (0 : Int32).toInt = 0 := by decide
                  have y_12 : (12 : Int32).toInt = 12 := by decide
                  have y_4 : (4 : Int32).toInt = 4 := by decide
                  omega
                have ha_671 : (4 : Int32).toInt = (4 : Int) := by
                  have z_1 := Int32.le_iff_toInt_le.mp (Int32.not_lt.mp c_43)
                  have z_2 : ¬ (vy_19 : Int32).toInt = (0 : Int32).toInt := fun z => c_92 (Int32.toInt_inj.mp z)
                  have z_3 : ¬ (r_482 : Int32).toInt = (0 : Int32).toInt := fun z => c_487 (Int32.toInt_inj.mp z)
                  have z_4 : ¬ (r_546 : Int32).toInt = (0 : Int32).toInt := fun z => c_551 (Int32.toInt_inj.mp z)
                  have z_5 := congrArg Int32.toInt c_554
                  have y_0 : (0 : Int32).toInt = 0 := by decide
                  have y_12 : (12 : Int32).toInt = 12 := by decide
                  have y_4 : (4 : Int32).toInt = 4 := by decide
                  omega
                refine cV (a := (Ta 0)) (As := [.int 4]) (rest := []) (wr := [((Va 0), .inr (7, [.ref (Va 1), .int vy_20, .int vy_21])), ((Va 1), .inl (tc 0, 400, .inl vy_22))]) ⟨hx, hb, hml, hown, hts⟩ hK hX hA (cu_fX10_fail l D tc sk (Ta 0) (Ta 1) (Tv 0) sv_478 sv_479 sv_480 vy_26 (Tf 1) 4 ro_538 4 pf_481 pf_536 ha_670 ha_671) k_557 k_619 k_555 k_556 k_96 pl_X10_fail ⟨Nat.le_of_ble_eq_true rfl, Nat.le_of_ble_eq_true rfl⟩ rfl rfl (va_recv hK hP (ci := 10) (q0 := 2) rfl rfl) hP hD hS [2, 3] [0, 1] rfl rfl rfl rfl rfl (by decide) rfl hl.1 rfl (Nat.le_of_ble_eq_true rfl) dX7_read_60 ⟨Nat.le_of_ble_eq_true rfl, Nat.le_of_ble_eq_true rfl⟩ (fun v_672 u_673 H locs hv_674 hP₀ hD₀ hS₀ => ?_)
                obtain ⟨sv_675, sv_676⟩ := u_673
                obtain ⟨rfl, pf_677, pf_678⟩ := hv_674
                have pf_677 : 0 ≤ ((Tv 0) : Int32).toInt ∧ ((Tv 0) : Int32).toInt ≤ 400 ∧ 0 ≤ (sv_478 : Int32).toInt ∧ (sv_478 : Int32).toInt ≤ 400 ∧ 0 ≤ (sv_479 : Int32).toInt ∧ (sv_479 : Int32).toInt ≤ 400 := pf_677
                have pf_678 : TpR (Tf 1) (Tv 0) (rER (4 : Int) ro_538) sv_478 sv_479 sv_675 sv_676 := pf_678
                obtain ⟨ro_679, ero_679⟩ : ∃ z : Except Int (Nat × Nat), z = (rER 4 ro_538) := ⟨_, rfl⟩
                rw [← ero_679] at pf_678
                have tb_680 : TpB (rTE (cB (Tf 1) (Tv 0)) ro_679) sv_479 sv_676 := TpR.tb pf_678
                have cd_681 : Ctd ro_679 vy_21 := by rw [ero_679]; exact (Ctd.er)
                have ck_682 : CdK vy_22 vy_20 ro_679 lq_39 := by rw [ero_679]; exact (CdK.er)
                refine W.eq (g2 := F0 m 63 ls []) rfl ?_
                replace hP : va_P D classes [((Va 0), .inr (7, [.ref (Va 1), .int vy_20, .int vy_21])), ((Va 1), .inl (tc 0, 400, .inl vy_22)), ((Ta 0), .inr (10, [.ref (Ta 1), .int (Tv 0), .int sv_478, .int sv_479, .int sv_675, .int sv_676])), ((Ta 1), .inl (tc 0, 400, .inl (Tf 1)))] H := hP₀
                replace hD : va_D A [((Va 0), .inr (7, [.ref (Va 1), .int vy_20, .int vy_21])), ((Va 1), .inl (tc 0, 400, .inl vy_22)), ((Ta 0), .inr (10, [.ref (Ta 1), .int (Tv 0), .int sv_478, .int sv_479, .int sv_675, .int sv_676])), ((Ta 1), .inl (tc 0, 400, .inl (Tf 1)))] := hD₀
                replace hS := hS₀
                clear hP₀ hD₀ hS₀
                refine lv_aload_n hx hb dX7_read_63 rfl (lv_at hl 2 rfl) ?_
                refine cV (a := (Ta 0)) (As := []) (rest := []) (wr := [((Va 0), .inr (7, [.ref (Va 1), .int vy_20, .int vy_21])), ((Va 1), .inl (tc 0, 400, .inl vy_22))]) ⟨hx, hb, hml, hown, hts⟩ hK hX hA (cu_fX10_step l D tc sk (Ta 0) (Ta 1) (Tv 0) sv_478 sv_479 sv_675 sv_676 (Tf 1) (rTE (cB (Tf 1) (Tv 0)) ro_679) pf_677 h_by tb_680) k_478 k_620 k_476 k_477 k_96 pl_X10_step ⟨Nat.le_of_ble_eq_true rfl, Nat.le_of_ble_eq_true rfl⟩ rfl rfl (va_recv hK hP (ci := 10) (q0 := 2) rfl rfl) hP hD hS [2, 3] [0, 1] rfl rfl rfl rfl rfl (by decide) rfl hl.1 rfl (Nat.le_of_ble_eq_true rfl) dX7_read_64 ⟨Nat.le_of_ble_eq_true rfl, Nat.le_of_ble_eq_true rfl⟩ (fun v_683 u_684 H locs hv_685 hP₀ hD₀ hS₀ => ?_)
                obtain ⟨sv_686, sv_687, sv_688⟩ := u_684
                obtain ⟨rfl, pf_689, pf_690⟩ := hv_685
                have pf_689 : 0 ≤ ((Tv 0) : Int32).toInt ∧ ((Tv 0) : Int32).toInt ≤ 400 ∧ 0 ≤ (sv_686 : Int32).toInt ∧ (sv_686 : Int32).toInt ≤ 400 ∧ 0 ≤ (sv_687 : Int32).toInt ∧ (sv_687 : Int32).toInt ≤ 400 := pf_689
                have pf_690 : TpR (Tf 1) (Tv 0) (rSK (cB (Tf 1) (Tv 0)) (rTE (cB (Tf 1) (Tv 0)) ro_679)) sv_686 sv_687 sv_688 sv_676 := pf_690
                rw [rNX_eq] at pf_690
                obtain ⟨ro_691, ero_691⟩ : ∃ z : Except Int (Nat × Nat), z = (rNX (cB (Tf 1) (Tv 0)) ro_679) := ⟨_, rfl⟩
                rw [← ero_691] at pf_690
                have tb_692 : TpB (rTE (cB (Tf 1) (Tv 0)) ro_691) sv_687 sv_676 := TpR.tb pf_690
                have cd_693 : Ctd ro_691 vy_21 := by rw [ero_691]; exact (Ctd.nx cd_681)
                have ck_694 : CdK vy_22 vy_20 ro_691 lq_39 := by rw [ero_691]; exact (CdK.nx ck_682)
                refine W.eq (g2 := F0 m 67 ls []) rfl ?_
                replace hP : va_P D classes [((Va 0), .inr (7, [.ref (Va 1), .int vy_20, .int vy_21])), ((Va 1), .inl (tc 0, 400, .inl vy_22)), ((Ta 0), .inr (10, [.ref (Ta 1), .int (Tv 0), .int sv_686, .int sv_687, .int sv_688, .int sv_676])), ((Ta 1), .inl (tc 0, 400, .inl (Tf 1)))] H := hP₀
                replace hD : va_D A [((Va 0), .inr (7, [.ref (Va 1), .int vy_20, .int vy_21])), ((Va 1), .inl (tc 0, 400, .inl vy_22)), ((Ta 0), .inr (10, [.ref (Ta 1), .int (Tv 0), .int sv_686, .int sv_687, .int sv_688, .int sv_676])), ((Ta 1), .inl (tc 0, 400, .inl (Tf 1)))] := hD₀
                replace hS := hS₀
                clear hP₀ hD₀ hS₀
                refine lv_aload_n hx hb dX7_read_67 rfl (lv_at hl 1 rfl) ?_
                refine lv_aload_n hx hb dX7_read_68 rfl (lv_at hl 2 rfl) ?_
                refine cV (a := (Va 0)) (As := [.ref (Ta 0)]) (rest := []) (wr := []) ⟨hx, hb, hml, hown, hts⟩ hK hX hA (cu_kX7_readSum l D tc sk (Va 0) (Va 1) vy_20 vy_21 vy_22 (Ta 0) (Ta 1) (Tv 0) sv_686 sv_687 sv_688 sv_676 (Tf 1) ro_691 lq_39 pf_689 pf_32 h_by pf_690 cd_693 ck_694) k_624 k_621 k_623 k_7 k_99 pl_X7_readSum ⟨Nat.le_of_ble_eq_true rfl, Nat.le_of_ble_eq_true rfl⟩ rfl rfl (va_recv hK hP (ci := 7) (q0 := 0) rfl rfl) hP hD hS [0, 1, 2, 3] [] rfl rfl rfl rfl rfl (by decide) rfl hl.1 rfl (Nat.le_of_ble_eq_true rfl) dX7_read_69 ⟨Nat.le_of_ble_eq_true rfl, Nat.le_of_ble_eq_true rfl⟩ (fun v_695 u_696 H locs hv_697 hP₀ hD₀ hS₀ => ?_)
                obtain ⟨sv_698, sv_699, sv_700, sv_701, sv_702, sv_703, sv_704⟩ := u_696
                obtain ⟨rfl, pf_705, pf_706, pf_707, pf_708, pf_709⟩ := hv_697
                have pf_705 : 0 ≤ ((Tv 0) : Int32).toInt ∧ ((Tv 0) : Int32).toInt ≤ 400 ∧ 0 ≤ (sv_701 : Int32).toInt ∧ (sv_701 : Int32).toInt ≤ 400 ∧ 0 ≤ (sv_702 : Int32).toInt ∧ (sv_702 : Int32).toInt ≤ 400 := pf_705
                have pf_706 : 0 ≤ (sv_698 : Int32).toInt ∧ (sv_698 : Int32).toInt ≤ 400 := pf_706
                have pf_707 : TpR (Tf 1) (Tv 0) (pz_b ro_691 (pz_sum (cB (Tf 1) (Tv 0)))) sv_701 sv_702 sv_703 sv_704 := pf_707
                obtain ⟨ro_710, ero_710⟩ : ∃ z : Except Int (Nat × Nat), z = (pz_b ro_691 (pz_sum (cB (Tf 1) (Tv 0)))) := ⟨_, rfl⟩
                rw [← ero_710] at pf_707
                have tb_711 : TpB (rTE (cB (Tf 1) (Tv 0)) ro_710) sv_702 sv_704 := TpR.tb pf_707
                have pf_708 : Ctd (pz_b ro_691 (pz_sum (cB (Tf 1) (Tv 0)))) sv_699 := pf_708
                rw [← ero_710] at pf_708
                have pf_709 : CdK sv_700 sv_698 (pz_b ro_691 (pz_sum (cB (Tf 1) (Tv 0)))) (Ap ro_691 (lsum (cB (Tf 1) (Tv 0))) lq_39) := pf_709
                rw [← ero_710] at pf_709
                obtain ⟨ro_712, ero_712⟩ : ∃ z : List Int, z = (Ap ro_691 (lsum (cB (Tf 1) (Tv 0))) lq_39) := ⟨_, rfl⟩
                rw [← ero_712] at pf_709
                refine W.eq (g2 := F0 m 72 ls []) rfl ?_
                replace hP : va_P D classes [((Va 0), .inr (7, [.ref (Va 1), .int sv_698, .int sv_699])), ((Va 1), .inl (tc 0, 400, .inl sv_700)), ((Ta 0), .inr (10, [.ref (Ta 1), .int (Tv 0), .int sv_701, .int sv_702, .int sv_703, .int sv_704])), ((Ta 1), .inl (tc 0, 400, .inl (Tf 1)))] H := hP₀
                replace hD : va_D A [((Va 0), .inr (7, [.ref (Va 1), .int sv_698, .int sv_699])), ((Va 1), .inl (tc 0, 400, .inl sv_700)), ((Ta 0), .inr (10, [.ref (Ta 1), .int (Tv 0), .int sv_701, .int sv_702, .int sv_703, .int sv_704])), ((Ta 1), .inl (tc 0, 400, .inl (Tf 1)))] := hD₀
                replace hS := hS₀
                clear hP₀ hD₀ hS₀
                refine lv_aload_n hx hb dX7_read_72 rfl (lv_at hl 2 rfl) ?_
                refine va_ldcS hx hb hown (sx_3 hX) dX7_read_73 ?_
                have ha_713 : (3 : Nat) < 7 := by
                  have z_1 := Int32.le_iff_toInt_le.mp (Int32.not_lt.mp c_43)
                  have z_2 : ¬ (vy_19 : Int32).toInt = (0 : Int32).toInt := fun z => c_92 (Int32.toInt_inj.mp z)
                  have z_3 : ¬ (r_482 : Int32).toInt = (0 : Int32).toInt := fun z => c_487 (Int32.toInt_inj.mp z)
                  have z_4 : ¬ (r_546 : Int32).toInt = (0 : Int32).toInt := fun z => c_551 (Int32.toInt_inj.mp z)
                  have z_5 := congrArg Int32.toInt c_554
                  have y_0 : (0 : Int32).toInt = 0 := by decide
                  have y_12 : (12 : Int32).toInt = 12 := by decide
                  have y_3 : (3 : Int32).toInt = 3 := by decide
                  omega
                refine cV (a := (Ta 0)) (As := [.ref (sk.1 3)]) (rest := []) (wr := [((Va 0), .inr (7, [.ref (Va 1), .int sv_698, .int sv_699])), ((Va 1), .inl (tc 0, 400, .inl sv_700))]) ⟨hx, hb, hml, hown, hts⟩ hK hX hA (cu_fX10_takesWord l D tc sk (Ta 0) (Ta 1) (Tv 0) sv_701 sv_702 sv_703 sv_704 (Tf 1) 3 ro_710 ha_713 pf_705 h_by pf_707) k_650 k_647 k_648 k_649 k_96 pl_X10_takesWord ⟨Nat.le_of_ble_eq_true rfl, Nat.le_of_ble_eq_true rfl⟩ rfl rfl (va_recv hK hP (ci := 10) (q0 := 2) rfl rfl) hP hD hS [2, 3] [0, 1] rfl rfl rfl rfl rfl (by decide) rfl hl.1 rfl (Nat.le_of_ble_eq_true rfl) dX7_read_75 ⟨Nat.le_of_ble_eq_true rfl, Nat.le_of_ble_eq_true rfl⟩ (fun v_714 u_715 H locs hv_716 hP₀ hD₀ hS₀ => ?_)
                obtain ⟨sv_717, sv_718, sv_719⟩ := u_715
                obtain ⟨r_721, rfl, he_722, pf_720, hm_724, hm_725⟩ := hv_716
                have he_722 : (r_721.toInt = 0 ∨ r_721.toInt = 1) := he_722
                have pf_720 : 0 ≤ ((Tv 0) : Int32).toInt ∧ ((Tv 0) : Int32).toInt ≤ 400 ∧ 0 ≤ (sv_717 : Int32).toInt ∧ (sv_717 : Int32).toInt ≤ 400 ∧ 0 ≤ (sv_718 : Int32).toInt ∧ (sv_718 : Int32).toInt ≤ 400 := pf_720
                refine W.eq (g2 := F0 m 78 ls [.int r_721]) rfl ?_
                replace hP : va_P D classes [((Va 0), .inr (7, [.ref (Va 1), .int sv_698, .int sv_699])), ((Va 1), .inl (tc 0, 400, .inl sv_700)), ((Ta 0), .inr (10, [.ref (Ta 1), .int (Tv 0), .int sv_717, .int sv_718, .int sv_719, .int sv_704])), ((Ta 1), .inl (tc 0, 400, .inl (Tf 1)))] H := hP₀
                replace hD : va_D A [((Va 0), .inr (7, [.ref (Va 1), .int sv_698, .int sv_699])), ((Va 1), .inl (tc 0, 400, .inl sv_700)), ((Ta 0), .inr (10, [.ref (Ta 1), .int (Tv 0), .int sv_717, .int sv_718, .int sv_719, .int sv_704])), ((Ta 1), .inl (tc 0, 400, .inl (Tf 1)))] := hD₀
                replace hS := hS₀
                clear hP₀ hD₀ hS₀
                refine lv_if_eq (tgt := 96) hx hb dX7_read_78 (by decide) (fun c_726 => ?_) (fun c_726 => ?_)
                · skip
                  have hz_729 : (r_721 : Int32).toInt = 0 := by
                    have z_1 := Int32.le_iff_toInt_le.mp (Int32.not_lt.mp c_43)
                    have z_2 : ¬ (vy_19 : Int32).toInt = (0 : Int32).toInt := fun z => c_92 (Int32.toInt_inj.mp z)
                    have z_3 : ¬ (r_482 : Int32).toInt = (0 : Int32).toInt := fun z => c_487 (Int32.toInt_inj.mp z)
                    have z_4 : ¬ (r_546 : Int32).toInt = (0 : Int32).toInt := fun z => c_551 (Int32.toInt_inj.mp z)
                    have z_5 := congrArg Int32.toInt c_554
                    have z_6 := congrArg Int32.toInt c_726
                    have y_0 : (0 : Int32).toInt = 0 := by decide
                    have y_12 : (12 : Int32).toInt = 12 := by decide
                    omega
                  obtain ⟨pf_727, pf_728⟩ := hm_725 hz_729
                  have pf_727 : NWd (cB (Tf 1) (Tv 0)) (wS (3 : Nat)) ro_710 := pf_727
                  have pf_728 : TpR (Tf 1) (Tv 0) ro_710 sv_717 sv_718 sv_719 sv_704 := pf_728
                  have tb_730 : TpB (rTE (cB (Tf 1) (Tv 0)) ro_710) sv_718 sv_704 := TpR.tb pf_728
                  refine lv_aload_n hx hb dX7_read_96 rfl (lv_at hl 1 rfl) ?_
                  refine lv_bipush (v := (-2)) hx hb dX7_read_97 (by decide) ?_
                  refine cV (a := (Va 0)) (As := [.int (-2)]) (rest := []) (wr := [((Ta 0), .inr (10, [.ref (Ta 1), .int (Tv 0), .int sv_717, .int sv_718, .int sv_719, .int sv_704])), ((Ta 1), .inl (tc 0, 400, .inl (Tf 1)))]) ⟨hx, hb, hml, hown, hts⟩ hK hX hA (cu_kX7_put l D tc sk (Va 0) (Va 1) sv_698 sv_699 sv_700 (-2) ro_710 ro_712 pf_706 pf_709) k_642 k_639 k_641 k_10 k_99 pl_X7_put ⟨Nat.le_of_ble_eq_true rfl, Nat.le_of_ble_eq_true rfl⟩ rfl rfl (va_recv hK hP (ci := 7) (q0 := 0) rfl rfl) hP hD hS [0, 1] [2, 3] rfl rfl rfl rfl rfl (by decide) rfl hl.1 rfl (Nat.le_of_ble_eq_true rfl) dX7_read_99 ⟨Nat.le_of_ble_eq_true rfl, Nat.le_of_ble_eq_true rfl⟩ (fun v_731 u_732 H locs hv_733 hP₀ hD₀ hS₀ => ?_)
                  obtain ⟨sv_734, sv_735⟩ := u_732
                  obtain ⟨rfl, pf_736, pf_737⟩ := hv_733
                  have pf_736 : 0 ≤ (sv_734 : Int32).toInt ∧ (sv_734 : Int32).toInt ≤ 400 := pf_736
                  have pf_737 : CdK sv_735 sv_734 ro_710 (ro_712 ++ [((-2) : Int32).toInt]) := pf_737
                  rw [show ((-2) : Int32).toInt = -2 by decide] at pf_737
                  obtain ⟨ro_738, ero_738⟩ : ∃ z : List Int, z = (ro_712 ++ [-2]) := ⟨_, rfl⟩
                  rw [← ero_738] at pf_737
                  refine W.eq (g2 := F0 m 102 ls []) rfl ?_
                  replace hP : va_P D classes [((Ta 0), .inr (10, [.ref (Ta 1), .int (Tv 0), .int sv_717, .int sv_718, .int sv_719, .int sv_704])), ((Ta 1), .inl (tc 0, 400, .inl (Tf 1))), ((Va 0), .inr (7, [.ref (Va 1), .int sv_734, .int sv_699])), ((Va 1), .inl (tc 0, 400, .inl sv_735))] H := hP₀
                  replace hD : va_D A [((Ta 0), .inr (10, [.ref (Ta 1), .int (Tv 0), .int sv_717, .int sv_718, .int sv_719, .int sv_704])), ((Ta 1), .inl (tc 0, 400, .inl (Tf 1))), ((Va 0), .inr (7, [.ref (Va 1), .int sv_734, .int sv_699])), ((Va 1), .inl (tc 0, 400, .inl sv_735))] := hD₀
                  replace hS := hS₀
                  clear hP₀ hD₀ hS₀
                  obtain ⟨x_739, ex_739⟩ : ∃ y : Int32, y = vy_19 + 1 := ⟨_, rfl⟩
                  refine lv_iinc (v := x_739) (lv' := [(2, .int x_739), (0, .ref (Va 0)), (1, .ref (Ta 0))]) hx hb dX7_read_102 hl (k := 0) rfl (by rw [ex_739]; rfl) (by decide) rfl (fun ls hl₀ => ?_)
                  replace hl := hl₀
                  clear hl₀
                  refine lv_goto (tgt := 16) hx hb dX7_read_105 (by decide) ?_
                  have hb_740 : 14 - (x_739 : Int32).toInt < 14 - (vy_19 : Int32).toInt ∧ 1 ≤ 14 - (vy_19 : Int32).toInt := by
                    have z_1 := Int32.le_iff_toInt_le.mp (Int32.not_lt.mp c_43)
                    have z_2 : ¬ (vy_19 : Int32).toInt = (0 : Int32).toInt := fun z => c_92 (Int32.toInt_inj.mp z)
                    have z_3 : ¬ (r_482 : Int32).toInt = (0 : Int32).toInt := fun z => c_487 (Int32.toInt_inj.mp z)
                    have z_4 : ¬ (r_546 : Int32).toInt = (0 : Int32).toInt := fun z => c_551 (Int32.toInt_inj.mp z)
                    have z_5 := congrArg Int32.toInt c_554
                    have z_6 := congrArg Int32.toInt c_726
                    have y_0 : (0 : Int32).toInt = 0 := by decide
                    have y_12 : (12 : Int32).toInt = 12 := by decide
                    have y_1 : (1 : Int32).toInt = 1 := by decide
                    have t_x_739 : x_739.toInt = (vy_19 : Int32).toInt + (1 : Int32).toInt := by rw [ex_739]; exact add_toInt (by omega) (by omega)
                    omega
                  have ha_741 : 0 ≤ (x_739 : Int32).toInt ∧ (x_739 : Int32).toInt ≤ 13 := by
                    have z_1 := Int32.le_iff_toInt_le.mp (Int32.not_lt.mp c_43)
                    have z_2 : ¬ (vy_19 : Int32).toInt = (0 : Int32).toInt := fun z => c_92 (Int32.toInt_inj.mp z)
                    have z_3 : ¬ (r_482 : Int32).toInt = (0 : Int32).toInt := fun z => c_487 (Int32.toInt_inj.mp z)
                    have z_4 : ¬ (r_546 : Int32).toInt = (0 : Int32).toInt := fun z => c_551 (Int32.toInt_inj.mp z)
                    have z_5 := congrArg Int32.toInt c_554
                    have z_6 := congrArg Int32.toInt c_726
                    have y_0 : (0 : Int32).toInt = 0 := by decide
                    have y_12 : (12 : Int32).toInt = 12 := by decide
                    have y_1 : (1 : Int32).toInt = 1 := by decide
                    have t_x_739 : x_739.toInt = (vy_19 : Int32).toInt + (1 : Int32).toInt := by rw [ex_739]; exact add_toInt (by omega) (by omega)
                    omega
                  have hw_742 : TWd (cB (Tf 1) (Tv 0)) pz_buy (rNX (cB (Tf 1) (Tv 0)) rq_35) := by
                    rw [← ero_538, ← wS1]
                    exact pf_552
                  have hr_743 : (vy_19 : Int32).toInt.toNat = 12 := by
                    have z_1 := Int32.le_iff_toInt_le.mp (Int32.not_lt.mp c_43)
                    have z_2 : ¬ (vy_19 : Int32).toInt = (0 : Int32).toInt := fun z => c_92 (Int32.toInt_inj.mp z)
                    have z_3 : ¬ (r_482 : Int32).toInt = (0 : Int32).toInt := fun z => c_487 (Int32.toInt_inj.mp z)
                    have z_4 : ¬ (r_546 : Int32).toInt = (0 : Int32).toInt := fun z => c_551 (Int32.toInt_inj.mp z)
                    have z_5 := congrArg Int32.toInt c_554
                    have z_6 := congrArg Int32.toInt c_726
                    have y_0 : (0 : Int32).toInt = 0 := by decide
                    have y_12 : (12 : Int32).toInt = 12 := by decide
                    omega
                  have hE_744 : pz_b (rNX (cB (Tf 1) (Tv 0)) rq_35) (pz_cla (cB (Tf 1) (Tv 0)) (vy_19 : Int32).toInt.toNat) = ro_710 := by
                    rw [ero_710, ero_691, ero_679, ero_538]
                    exact ((cla_12 hw_742 hr_743).trans (by cases rq_35 <;> rfl))
                  have hu_745 : TpR (Tf 1) (Tv 0) (pz_b (rNX (cB (Tf 1) (Tv 0)) rq_35) (pz_cla (cB (Tf 1) (Tv 0)) (vy_19 : Int32).toInt.toNat)) sv_717 sv_718 sv_719 sv_704 := by rw [hE_744]; exact pf_728
                  have hu_746 : Ctd (pz_b (rNX (cB (Tf 1) (Tv 0)) rq_35) (pz_cla (cB (Tf 1) (Tv 0)) (vy_19 : Int32).toInt.toNat)) sv_699 := by rw [hE_744]; exact pf_708
                  have hu_747 : CdK sv_735 sv_734 (pz_b (rNX (cB (Tf 1) (Tv 0)) rq_35) (pz_cla (cB (Tf 1) (Tv 0)) (vy_19 : Int32).toInt.toNat)) ro_738 := by rw [hE_744]; exact pf_737
                  have hu_748 : ∀ t, (pz_b (rNX (cB (Tf 1) (Tv 0)) rq_35) (pz_cla (cB (Tf 1) (Tv 0)) (vy_19 : Int32).toInt.toNat)) = .ok t → ∃ s0, (rNX (cB (Tf 1) (Tv 0)) rq_35) = .ok s0 ∧ ro_738 = lq_39 ++ ru_1 (ru_cl (cB (Tf 1) (Tv 0)) s0) := by
                    exact cl_er (cla_12 hw_742 hr_743)
                  have hi_749 : (x_739 : Int32).toInt = (vy_19 : Int32).toInt + 1 := by
                    have z_1 := Int32.le_iff_toInt_le.mp (Int32.not_lt.mp c_43)
                    have z_2 : ¬ (vy_19 : Int32).toInt = (0 : Int32).toInt := fun z => c_92 (Int32.toInt_inj.mp z)
                    have z_3 : ¬ (r_482 : Int32).toInt = (0 : Int32).toInt := fun z => c_487 (Int32.toInt_inj.mp z)
                    have z_4 : ¬ (r_546 : Int32).toInt = (0 : Int32).toInt := fun z => c_551 (Int32.toInt_inj.mp z)
                    have z_5 := congrArg Int32.toInt c_554
                    have z_6 := congrArg Int32.toInt c_726
                    have y_0 : (0 : Int32).toInt = 0 := by decide
                    have y_12 : (12 : Int32).toInt = 12 := by decide
                    have y_1 : (1 : Int32).toInt = 1 := by decide
                    have t_x_739 : x_739.toInt = (vy_19 : Int32).toInt + (1 : Int32).toInt := by rw [ex_739]; exact add_toInt (by omega) (by omega)
                    omega
                  have hr_750 : 1 ≤ (vy_19 : Int32).toInt ∧ (vy_19 : Int32).toInt ≤ 12 := by
                    have z_1 := Int32.le_iff_toInt_le.mp (Int32.not_lt.mp c_43)
                    have z_2 : ¬ (vy_19 : Int32).toInt = (0 : Int32).toInt := fun z => c_92 (Int32.toInt_inj.mp z)
                    have z_3 : ¬ (r_482 : Int32).toInt = (0 : Int32).toInt := fun z => c_487 (Int32.toInt_inj.mp z)
                    have z_4 : ¬ (r_546 : Int32).toInt = (0 : Int32).toInt := fun z => c_551 (Int32.toInt_inj.mp z)
                    have z_5 := congrArg Int32.toInt c_554
                    have z_6 := congrArg Int32.toInt c_726
                    have y_0 : (0 : Int32).toInt = 0 := by decide
                    have y_12 : (12 : Int32).toInt = 12 := by decide
                    omega
                  exact ih_28 x_739 sv_734 sv_699 sv_735 sv_717 sv_718 sv_719 sv_704 _ _ _ (by omega) ha_741 pf_720 pf_736 (RcC.nextS h_tape.2.1 hr_750 pf_535 pf_38 pf_41 hu_745 hu_746 hu_747 hu_748 hi_749) (hP.sub [2, 3, 0, 1] rfl) (hD.sub [2, 3, 0, 1] rfl rfl) hS (lv_sub hl [0, 1, 2] rfl)
                · skip
                  have hz_753 : (r_721 : Int32).toInt = 1 := by
                    have z_1 := Int32.le_iff_toInt_le.mp (Int32.not_lt.mp c_43)
                    have z_2 : ¬ (vy_19 : Int32).toInt = (0 : Int32).toInt := fun z => c_92 (Int32.toInt_inj.mp z)
                    have z_3 : ¬ (r_482 : Int32).toInt = (0 : Int32).toInt := fun z => c_487 (Int32.toInt_inj.mp z)
                    have z_4 : ¬ (r_546 : Int32).toInt = (0 : Int32).toInt := fun z => c_551 (Int32.toInt_inj.mp z)
                    have z_5 := congrArg Int32.toInt c_554
                    have z_6 : ¬ (r_721 : Int32).toInt = (0 : Int32).toInt := fun z => c_726 (Int32.toInt_inj.mp z)
                    have y_0 : (0 : Int32).toInt = 0 := by decide
                    have y_12 : (12 : Int32).toInt = 12 := by decide
                    omega
                  obtain ⟨pf_751, pf_752⟩ := hm_724 hz_753
                  have pf_751 : TWd (cB (Tf 1) (Tv 0)) (wS (3 : Nat)) ro_710 := pf_751
                  have pf_752 : TpR (Tf 1) (Tv 0) (rNX (cB (Tf 1) (Tv 0)) ro_710) sv_717 sv_718 sv_719 sv_704 := pf_752
                  obtain ⟨ro_754, ero_754⟩ : ∃ z : Except Int (Nat × Nat), z = (rNX (cB (Tf 1) (Tv 0)) ro_710) := ⟨_, rfl⟩
                  rw [← ero_754] at pf_752
                  have tb_755 : TpB (rTE (cB (Tf 1) (Tv 0)) ro_754) sv_718 sv_704 := TpR.tb pf_752
                  have cd_756 : Ctd ro_754 sv_699 := by rw [ero_754]; exact (Ctd.nx pf_708)
                  have ck_757 : CdK sv_700 sv_698 ro_754 ro_712 := by rw [ero_754]; exact (CdK.nx pf_709)
                  refine lv_aload_n hx hb dX7_read_81 rfl (lv_at hl 1 rfl) ?_
                  refine lv_aload_n hx hb dX7_read_82 rfl (lv_at hl 2 rfl) ?_
                  refine lv_iconst (v := 0) hx hb dX7_read_83 (by decide) ?_
                  refine cV (a := (Va 0)) (As := [.ref (Ta 0), .int 0]) (rest := []) (wr := []) ⟨hx, hb, hml, hown, hts⟩ hK hX hA (cu_kX7_readTest_0 l D tc sk (Va 0) (Va 1) sv_698 sv_699 sv_700 (Ta 0) (Ta 1) (Tv 0) sv_717 sv_718 sv_719 sv_704 (Tf 1) ro_754 ro_712 pf_720 pf_706 h_by pf_752 cd_756 ck_757) k_655 k_652 k_654 k_11 k_99 pl_X7_readTest ⟨Nat.le_of_ble_eq_true rfl, Nat.le_of_ble_eq_true rfl⟩ rfl rfl (va_recv hK hP (ci := 7) (q0 := 0) rfl rfl) hP hD hS [0, 1, 2, 3] [] rfl rfl rfl rfl rfl (by decide) rfl hl.1 rfl (Nat.le_of_ble_eq_true rfl) dX7_read_84 ⟨Nat.le_of_ble_eq_true rfl, Nat.le_of_ble_eq_true rfl⟩ (fun v_758 u_759 H locs hv_760 hP₀ hD₀ hS₀ => ?_)
                  obtain ⟨sv_761, sv_762, sv_763, sv_764, sv_765, sv_766, sv_767⟩ := u_759
                  obtain ⟨rfl, pf_768, pf_769, pf_770, pf_771, pf_772⟩ := hv_760
                  have pf_768 : 0 ≤ ((Tv 0) : Int32).toInt ∧ ((Tv 0) : Int32).toInt ≤ 400 ∧ 0 ≤ (sv_764 : Int32).toInt ∧ (sv_764 : Int32).toInt ≤ 400 ∧ 0 ≤ (sv_765 : Int32).toInt ∧ (sv_765 : Int32).toInt ≤ 400 := pf_768
                  have pf_769 : 0 ≤ (sv_761 : Int32).toInt ∧ (sv_761 : Int32).toInt ≤ 400 := pf_769
                  have pf_770 : TpR (Tf 1) (Tv 0) (pz_b ro_754 (pz_tst (cB (Tf 1) (Tv 0)) (pz_fact (cB (Tf 1) (Tv 0)) 10))) sv_764 sv_765 sv_766 sv_767 := pf_770
                  obtain ⟨ro_773, ero_773⟩ : ∃ z : Except Int (Nat × Nat), z = (pz_b ro_754 (pz_tst (cB (Tf 1) (Tv 0)) (pz_fact (cB (Tf 1) (Tv 0)) 10))) := ⟨_, rfl⟩
                  rw [← ero_773] at pf_770
                  have tb_774 : TpB (rTE (cB (Tf 1) (Tv 0)) ro_773) sv_765 sv_767 := TpR.tb pf_770
                  have pf_771 : Ctd (pz_b ro_754 (pz_tst (cB (Tf 1) (Tv 0)) (pz_fact (cB (Tf 1) (Tv 0)) 10))) sv_762 := pf_771
                  rw [← ero_773] at pf_771
                  have pf_772 : CdK sv_763 sv_761 (pz_b ro_754 (pz_tst (cB (Tf 1) (Tv 0)) (pz_fact (cB (Tf 1) (Tv 0)) 10))) (Ap ro_754 (ltst (cB (Tf 1) (Tv 0)) 10) ro_712) := pf_772
                  rw [← ero_773] at pf_772
                  obtain ⟨ro_775, ero_775⟩ : ∃ z : List Int, z = (Ap ro_754 (ltst (cB (Tf 1) (Tv 0)) 10) ro_712) := ⟨_, rfl⟩
                  rw [← ero_775] at pf_772
                  refine W.eq (g2 := F0 m 87 ls []) rfl ?_
                  replace hP : va_P D classes [((Va 0), .inr (7, [.ref (Va 1), .int sv_761, .int sv_762])), ((Va 1), .inl (tc 0, 400, .inl sv_763)), ((Ta 0), .inr (10, [.ref (Ta 1), .int (Tv 0), .int sv_764, .int sv_765, .int sv_766, .int sv_767])), ((Ta 1), .inl (tc 0, 400, .inl (Tf 1)))] H := hP₀
                  replace hD : va_D A [((Va 0), .inr (7, [.ref (Va 1), .int sv_761, .int sv_762])), ((Va 1), .inl (tc 0, 400, .inl sv_763)), ((Ta 0), .inr (10, [.ref (Ta 1), .int (Tv 0), .int sv_764, .int sv_765, .int sv_766, .int sv_767])), ((Ta 1), .inl (tc 0, 400, .inl (Tf 1)))] := hD₀
                  replace hS := hS₀
                  clear hP₀ hD₀ hS₀
                  refine lv_aload_n hx hb dX7_read_87 rfl (lv_at hl 1 rfl) ?_
                  refine lv_bipush (v := (-3)) hx hb dX7_read_88 (by decide) ?_
                  refine cV (a := (Va 0)) (As := [.int (-3)]) (rest := []) (wr := [((Ta 0), .inr (10, [.ref (Ta 1), .int (Tv 0), .int sv_764, .int sv_765, .int sv_766, .int sv_767])), ((Ta 1), .inl (tc 0, 400, .inl (Tf 1)))]) ⟨hx, hb, hml, hown, hts⟩ hK hX hA (cu_kX7_put l D tc sk (Va 0) (Va 1) sv_761 sv_762 sv_763 (-3) ro_773 ro_775 pf_769 pf_772) k_642 k_639 k_641 k_10 k_99 pl_X7_put ⟨Nat.le_of_ble_eq_true rfl, Nat.le_of_ble_eq_true rfl⟩ rfl rfl (va_recv hK hP (ci := 7) (q0 := 0) rfl rfl) hP hD hS [0, 1] [2, 3] rfl rfl rfl rfl rfl (by decide) rfl hl.1 rfl (Nat.le_of_ble_eq_true rfl) dX7_read_90 ⟨Nat.le_of_ble_eq_true rfl, Nat.le_of_ble_eq_true rfl⟩ (fun v_776 u_777 H locs hv_778 hP₀ hD₀ hS₀ => ?_)
                  obtain ⟨sv_779, sv_780⟩ := u_777
                  obtain ⟨rfl, pf_781, pf_782⟩ := hv_778
                  have pf_781 : 0 ≤ (sv_779 : Int32).toInt ∧ (sv_779 : Int32).toInt ≤ 400 := pf_781
                  have pf_782 : CdK sv_780 sv_779 ro_773 (ro_775 ++ [((-3) : Int32).toInt]) := pf_782
                  rw [show ((-3) : Int32).toInt = -3 by decide] at pf_782
                  obtain ⟨ro_783, ero_783⟩ : ∃ z : List Int, z = (ro_775 ++ [-3]) := ⟨_, rfl⟩
                  rw [← ero_783] at pf_782
                  refine W.eq (g2 := F0 m 93 ls []) rfl ?_
                  replace hP : va_P D classes [((Ta 0), .inr (10, [.ref (Ta 1), .int (Tv 0), .int sv_764, .int sv_765, .int sv_766, .int sv_767])), ((Ta 1), .inl (tc 0, 400, .inl (Tf 1))), ((Va 0), .inr (7, [.ref (Va 1), .int sv_779, .int sv_762])), ((Va 1), .inl (tc 0, 400, .inl sv_780))] H := hP₀
                  replace hD : va_D A [((Ta 0), .inr (10, [.ref (Ta 1), .int (Tv 0), .int sv_764, .int sv_765, .int sv_766, .int sv_767])), ((Ta 1), .inl (tc 0, 400, .inl (Tf 1))), ((Va 0), .inr (7, [.ref (Va 1), .int sv_779, .int sv_762])), ((Va 1), .inl (tc 0, 400, .inl sv_780))] := hD₀
                  replace hS := hS₀
                  clear hP₀ hD₀ hS₀
                  refine lv_goto (tgt := 102) hx hb dX7_read_93 (by decide) ?_
                  obtain ⟨x_784, ex_784⟩ : ∃ y : Int32, y = vy_19 + 1 := ⟨_, rfl⟩
                  refine lv_iinc (v := x_784) (lv' := [(2, .int x_784), (0, .ref (Va 0)), (1, .ref (Ta 0))]) hx hb dX7_read_102 hl (k := 0) rfl (by rw [ex_784]; rfl) (by decide) rfl (fun ls hl₀ => ?_)
                  replace hl := hl₀
                  clear hl₀
                  refine lv_goto (tgt := 16) hx hb dX7_read_105 (by decide) ?_
                  have hb_785 : 14 - (x_784 : Int32).toInt < 14 - (vy_19 : Int32).toInt ∧ 1 ≤ 14 - (vy_19 : Int32).toInt := by
                    have z_1 := Int32.le_iff_toInt_le.mp (Int32.not_lt.mp c_43)
                    have z_2 : ¬ (vy_19 : Int32).toInt = (0 : Int32).toInt := fun z => c_92 (Int32.toInt_inj.mp z)
                    have z_3 : ¬ (r_482 : Int32).toInt = (0 : Int32).toInt := fun z => c_487 (Int32.toInt_inj.mp z)
                    have z_4 : ¬ (r_546 : Int32).toInt = (0 : Int32).toInt := fun z => c_551 (Int32.toInt_inj.mp z)
                    have z_5 := congrArg Int32.toInt c_554
                    have z_6 : ¬ (r_721 : Int32).toInt = (0 : Int32).toInt := fun z => c_726 (Int32.toInt_inj.mp z)
                    have y_0 : (0 : Int32).toInt = 0 := by decide
                    have y_12 : (12 : Int32).toInt = 12 := by decide
                    have y_1 : (1 : Int32).toInt = 1 := by decide
                    have t_x_784 : x_784.toInt = (vy_19 : Int32).toInt + (1 : Int32).toInt := by rw [ex_784]; exact add_toInt (by omega) (by omega)
                    omega
                  have ha_786 : 0 ≤ (x_784 : Int32).toInt ∧ (x_784 : Int32).toInt ≤ 13 := by
                    have z_1 := Int32.le_iff_toInt_le.mp (Int32.not_lt.mp c_43)
                    have z_2 : ¬ (vy_19 : Int32).toInt = (0 : Int32).toInt := fun z => c_92 (Int32.toInt_inj.mp z)
                    have z_3 : ¬ (r_482 : Int32).toInt = (0 : Int32).toInt := fun z => c_487 (Int32.toInt_inj.mp z)
                    have z_4 : ¬ (r_546 : Int32).toInt = (0 : Int32).toInt := fun z => c_551 (Int32.toInt_inj.mp z)
                    have z_5 := congrArg Int32.toInt c_554
                    have z_6 : ¬ (r_721 : Int32).toInt = (0 : Int32).toInt := fun z => c_726 (Int32.toInt_inj.mp z)
                    have y_0 : (0 : Int32).toInt = 0 := by decide
                    have y_12 : (12 : Int32).toInt = 12 := by decide
                    have y_1 : (1 : Int32).toInt = 1 := by decide
                    have t_x_784 : x_784.toInt = (vy_19 : Int32).toInt + (1 : Int32).toInt := by rw [ex_784]; exact add_toInt (by omega) (by omega)
                    omega
                  have hw_787 : TWd (cB (Tf 1) (Tv 0)) pz_buy (rNX (cB (Tf 1) (Tv 0)) rq_35) := by
                    rw [← ero_538, ← wS1]
                    exact pf_552
                  have hr_788 : (vy_19 : Int32).toInt.toNat = 12 := by
                    have z_1 := Int32.le_iff_toInt_le.mp (Int32.not_lt.mp c_43)
                    have z_2 : ¬ (vy_19 : Int32).toInt = (0 : Int32).toInt := fun z => c_92 (Int32.toInt_inj.mp z)
                    have z_3 : ¬ (r_482 : Int32).toInt = (0 : Int32).toInt := fun z => c_487 (Int32.toInt_inj.mp z)
                    have z_4 : ¬ (r_546 : Int32).toInt = (0 : Int32).toInt := fun z => c_551 (Int32.toInt_inj.mp z)
                    have z_5 := congrArg Int32.toInt c_554
                    have z_6 : ¬ (r_721 : Int32).toInt = (0 : Int32).toInt := fun z => c_726 (Int32.toInt_inj.mp z)
                    have y_0 : (0 : Int32).toInt = 0 := by decide
                    have y_12 : (12 : Int32).toInt = 12 := by decide
                    omega
                  have hE_789 : pz_b (rNX (cB (Tf 1) (Tv 0)) rq_35) (pz_cla (cB (Tf 1) (Tv 0)) (vy_19 : Int32).toInt.toNat) = ro_773 := by
                    rw [ero_773, ero_754, ero_710, ero_691, ero_679, ero_538]
                    exact ((cla_12 hw_787 hr_788).trans (by cases rq_35 <;> rfl))
                  have hu_790 : TpR (Tf 1) (Tv 0) (pz_b (rNX (cB (Tf 1) (Tv 0)) rq_35) (pz_cla (cB (Tf 1) (Tv 0)) (vy_19 : Int32).toInt.toNat)) sv_764 sv_765 sv_766 sv_767 := by rw [hE_789]; exact pf_770
                  have hu_791 : Ctd (pz_b (rNX (cB (Tf 1) (Tv 0)) rq_35) (pz_cla (cB (Tf 1) (Tv 0)) (vy_19 : Int32).toInt.toNat)) sv_762 := by rw [hE_789]; exact pf_771
                  have hu_792 : CdK sv_780 sv_779 (pz_b (rNX (cB (Tf 1) (Tv 0)) rq_35) (pz_cla (cB (Tf 1) (Tv 0)) (vy_19 : Int32).toInt.toNat)) ro_783 := by rw [hE_789]; exact pf_782
                  have hu_793 : ∀ t, (pz_b (rNX (cB (Tf 1) (Tv 0)) rq_35) (pz_cla (cB (Tf 1) (Tv 0)) (vy_19 : Int32).toInt.toNat)) = .ok t → ∃ s0, (rNX (cB (Tf 1) (Tv 0)) rq_35) = .ok s0 ∧ ro_783 = lq_39 ++ ru_1 (ru_cl (cB (Tf 1) (Tv 0)) s0) := by
                    exact cl_er (cla_12 hw_787 hr_788)
                  have hi_794 : (x_784 : Int32).toInt = (vy_19 : Int32).toInt + 1 := by
                    have z_1 := Int32.le_iff_toInt_le.mp (Int32.not_lt.mp c_43)
                    have z_2 : ¬ (vy_19 : Int32).toInt = (0 : Int32).toInt := fun z => c_92 (Int32.toInt_inj.mp z)
                    have z_3 : ¬ (r_482 : Int32).toInt = (0 : Int32).toInt := fun z => c_487 (Int32.toInt_inj.mp z)
                    have z_4 : ¬ (r_546 : Int32).toInt = (0 : Int32).toInt := fun z => c_551 (Int32.toInt_inj.mp z)
                    have z_5 := congrArg Int32.toInt c_554
                    have z_6 : ¬ (r_721 : Int32).toInt = (0 : Int32).toInt := fun z => c_726 (Int32.toInt_inj.mp z)
                    have y_0 : (0 : Int32).toInt = 0 := by decide
                    have y_12 : (12 : Int32).toInt = 12 := by decide
                    have y_1 : (1 : Int32).toInt = 1 := by decide
                    have t_x_784 : x_784.toInt = (vy_19 : Int32).toInt + (1 : Int32).toInt := by rw [ex_784]; exact add_toInt (by omega) (by omega)
                    omega
                  have hr_795 : 1 ≤ (vy_19 : Int32).toInt ∧ (vy_19 : Int32).toInt ≤ 12 := by
                    have z_1 := Int32.le_iff_toInt_le.mp (Int32.not_lt.mp c_43)
                    have z_2 : ¬ (vy_19 : Int32).toInt = (0 : Int32).toInt := fun z => c_92 (Int32.toInt_inj.mp z)
                    have z_3 : ¬ (r_482 : Int32).toInt = (0 : Int32).toInt := fun z => c_487 (Int32.toInt_inj.mp z)
                    have z_4 : ¬ (r_546 : Int32).toInt = (0 : Int32).toInt := fun z => c_551 (Int32.toInt_inj.mp z)
                    have z_5 := congrArg Int32.toInt c_554
                    have z_6 : ¬ (r_721 : Int32).toInt = (0 : Int32).toInt := fun z => c_726 (Int32.toInt_inj.mp z)
                    have y_0 : (0 : Int32).toInt = 0 := by decide
                    have y_12 : (12 : Int32).toInt = 12 := by decide
                    omega
                  exact ih_28 x_784 sv_779 sv_762 sv_780 sv_764 sv_765 sv_766 sv_767 _ _ _ (by omega) ha_786 pf_768 pf_781 (RcC.nextS h_tape.2.1 hr_795 pf_535 pf_38 pf_41 hu_790 hu_791 hu_792 hu_793 hi_794) (hP.sub [2, 3, 0, 1] rfl) (hD.sub [2, 3, 0, 1] rfl rfl) hS (lv_sub hl [0, 1, 2] rfl)
            · skip
              have hz_797 : (r_546 : Int32).toInt = 0 := by
                have z_1 := Int32.le_iff_toInt_le.mp (Int32.not_lt.mp c_43)
                have z_2 : ¬ (vy_19 : Int32).toInt = (0 : Int32).toInt := fun z => c_92 (Int32.toInt_inj.mp z)
                have z_3 : ¬ (r_482 : Int32).toInt = (0 : Int32).toInt := fun z => c_487 (Int32.toInt_inj.mp z)
                have z_4 := congrArg Int32.toInt c_551
                have y_0 : (0 : Int32).toInt = 0 := by decide
                have y_12 : (12 : Int32).toInt = 12 := by decide
                omega
              obtain pf_796 := hm_550 hz_797
              have pf_796 : NWd (cB (Tf 1) (Tv 0)) (wS (1 : Nat)) ro_538 := pf_796
              refine lv_aload_n hx hb dX7_read_44 rfl (lv_at hl 2 rfl) ?_
              refine lv_iconst (v := 0) hx hb dX7_read_45 (by decide) ?_
              have ha_798 : 0 ≤ (0 : Int32).toInt ∧ (0 : Int32).toInt ≤ 4 := by
                have z_1 := Int32.le_iff_toInt_le.mp (Int32.not_lt.mp c_43)
                have z_2 : ¬ (vy_19 : Int32).toInt = (0 : Int32).toInt := fun z => c_92 (Int32.toInt_inj.mp z)
                have z_3 : ¬ (r_482 : Int32).toInt = (0 : Int32).toInt := fun z => c_487 (Int32.toInt_inj.mp z)
                have z_4 := congrArg Int32.toInt c_551
                have y_0 : (0 : Int32).toInt = 0 := by decide
                have y_12 : (12 : Int32).toInt = 12 := by decide
                omega
              have ha_799 : (0 : Int32).toInt = (0 : Int) := by
                have z_1 := Int32.le_iff_toInt_le.mp (Int32.not_lt.mp c_43)
                have z_2 : ¬ (vy_19 : Int32).toInt = (0 : Int32).toInt := fun z => c_92 (Int32.toInt_inj.mp z)
                have z_3 : ¬ (r_482 : Int32).toInt = (0 : Int32).toInt := fun z => c_487 (Int32.toInt_inj.mp z)
                have z_4 := congrArg Int32.toInt c_551
                have y_0 : (0 : Int32).toInt = 0 := by decide
                have y_12 : (12 : Int32).toInt = 12 := by decide
                omega
              refine cV (a := (Ta 0)) (As := [.int 0]) (rest := []) (wr := [((Va 0), .inr (7, [.ref (Va 1), .int vy_20, .int vy_21])), ((Va 1), .inl (tc 0, 400, .inl vy_22))]) ⟨hx, hb, hml, hown, hts⟩ hK hX hA (cu_fX10_fail l D tc sk (Ta 0) (Ta 1) (Tv 0) sv_478 sv_479 sv_480 vy_26 (Tf 1) 0 ro_538 0 pf_481 pf_536 ha_798 ha_799) k_557 k_619 k_555 k_556 k_96 pl_X10_fail ⟨Nat.le_of_ble_eq_true rfl, Nat.le_of_ble_eq_true rfl⟩ rfl rfl (va_recv hK hP (ci := 10) (q0 := 2) rfl rfl) hP hD hS [2, 3] [0, 1] rfl rfl rfl rfl rfl (by decide) rfl hl.1 rfl (Nat.le_of_ble_eq_true rfl) dX7_read_46 ⟨Nat.le_of_ble_eq_true rfl, Nat.le_of_ble_eq_true rfl⟩ (fun v_800 u_801 H locs hv_802 hP₀ hD₀ hS₀ => ?_)
              obtain ⟨sv_803, sv_804⟩ := u_801
              obtain ⟨rfl, pf_805, pf_806⟩ := hv_802
              have pf_805 : 0 ≤ ((Tv 0) : Int32).toInt ∧ ((Tv 0) : Int32).toInt ≤ 400 ∧ 0 ≤ (sv_478 : Int32).toInt ∧ (sv_478 : Int32).toInt ≤ 400 ∧ 0 ≤ (sv_479 : Int32).toInt ∧ (sv_479 : Int32).toInt ≤ 400 := pf_805
              have pf_806 : TpR (Tf 1) (Tv 0) (rER (0 : Int) ro_538) sv_478 sv_479 sv_803 sv_804 := pf_806
              obtain ⟨ro_807, ero_807⟩ : ∃ z : Except Int (Nat × Nat), z = (rER 0 ro_538) := ⟨_, rfl⟩
              rw [← ero_807] at pf_806
              have tb_808 : TpB (rTE (cB (Tf 1) (Tv 0)) ro_807) sv_479 sv_804 := TpR.tb pf_806
              have cd_809 : Ctd ro_807 vy_21 := by rw [ero_807]; exact (Ctd.er)
              have ck_810 : CdK vy_22 vy_20 ro_807 lq_39 := by rw [ero_807]; exact (CdK.er)
              refine W.eq (g2 := F0 m 49 ls []) rfl ?_
              replace hP : va_P D classes [((Va 0), .inr (7, [.ref (Va 1), .int vy_20, .int vy_21])), ((Va 1), .inl (tc 0, 400, .inl vy_22)), ((Ta 0), .inr (10, [.ref (Ta 1), .int (Tv 0), .int sv_478, .int sv_479, .int sv_803, .int sv_804])), ((Ta 1), .inl (tc 0, 400, .inl (Tf 1)))] H := hP₀
              replace hD : va_D A [((Va 0), .inr (7, [.ref (Va 1), .int vy_20, .int vy_21])), ((Va 1), .inl (tc 0, 400, .inl vy_22)), ((Ta 0), .inr (10, [.ref (Ta 1), .int (Tv 0), .int sv_478, .int sv_479, .int sv_803, .int sv_804])), ((Ta 1), .inl (tc 0, 400, .inl (Tf 1)))] := hD₀
              replace hS := hS₀
              clear hP₀ hD₀ hS₀
              refine lv_goto (tgt := 63) hx hb dX7_read_49 (by decide) ?_
              refine lv_aload_n hx hb dX7_read_63 rfl (lv_at hl 2 rfl) ?_
              refine cV (a := (Ta 0)) (As := []) (rest := []) (wr := [((Va 0), .inr (7, [.ref (Va 1), .int vy_20, .int vy_21])), ((Va 1), .inl (tc 0, 400, .inl vy_22))]) ⟨hx, hb, hml, hown, hts⟩ hK hX hA (cu_fX10_step l D tc sk (Ta 0) (Ta 1) (Tv 0) sv_478 sv_479 sv_803 sv_804 (Tf 1) (rTE (cB (Tf 1) (Tv 0)) ro_807) pf_805 h_by tb_808) k_478 k_620 k_476 k_477 k_96 pl_X10_step ⟨Nat.le_of_ble_eq_true rfl, Nat.le_of_ble_eq_true rfl⟩ rfl rfl (va_recv hK hP (ci := 10) (q0 := 2) rfl rfl) hP hD hS [2, 3] [0, 1] rfl rfl rfl rfl rfl (by decide) rfl hl.1 rfl (Nat.le_of_ble_eq_true rfl) dX7_read_64 ⟨Nat.le_of_ble_eq_true rfl, Nat.le_of_ble_eq_true rfl⟩ (fun v_811 u_812 H locs hv_813 hP₀ hD₀ hS₀ => ?_)
              obtain ⟨sv_814, sv_815, sv_816⟩ := u_812
              obtain ⟨rfl, pf_817, pf_818⟩ := hv_813
              have pf_817 : 0 ≤ ((Tv 0) : Int32).toInt ∧ ((Tv 0) : Int32).toInt ≤ 400 ∧ 0 ≤ (sv_814 : Int32).toInt ∧ (sv_814 : Int32).toInt ≤ 400 ∧ 0 ≤ (sv_815 : Int32).toInt ∧ (sv_815 : Int32).toInt ≤ 400 := pf_817
              have pf_818 : TpR (Tf 1) (Tv 0) (rSK (cB (Tf 1) (Tv 0)) (rTE (cB (Tf 1) (Tv 0)) ro_807)) sv_814 sv_815 sv_816 sv_804 := pf_818
              rw [rNX_eq] at pf_818
              obtain ⟨ro_819, ero_819⟩ : ∃ z : Except Int (Nat × Nat), z = (rNX (cB (Tf 1) (Tv 0)) ro_807) := ⟨_, rfl⟩
              rw [← ero_819] at pf_818
              have tb_820 : TpB (rTE (cB (Tf 1) (Tv 0)) ro_819) sv_815 sv_804 := TpR.tb pf_818
              have cd_821 : Ctd ro_819 vy_21 := by rw [ero_819]; exact (Ctd.nx cd_809)
              have ck_822 : CdK vy_22 vy_20 ro_819 lq_39 := by rw [ero_819]; exact (CdK.nx ck_810)
              refine W.eq (g2 := F0 m 67 ls []) rfl ?_
              replace hP : va_P D classes [((Va 0), .inr (7, [.ref (Va 1), .int vy_20, .int vy_21])), ((Va 1), .inl (tc 0, 400, .inl vy_22)), ((Ta 0), .inr (10, [.ref (Ta 1), .int (Tv 0), .int sv_814, .int sv_815, .int sv_816, .int sv_804])), ((Ta 1), .inl (tc 0, 400, .inl (Tf 1)))] H := hP₀
              replace hD : va_D A [((Va 0), .inr (7, [.ref (Va 1), .int vy_20, .int vy_21])), ((Va 1), .inl (tc 0, 400, .inl vy_22)), ((Ta 0), .inr (10, [.ref (Ta 1), .int (Tv 0), .int sv_814, .int sv_815, .int sv_816, .int sv_804])), ((Ta 1), .inl (tc 0, 400, .inl (Tf 1)))] := hD₀
              replace hS := hS₀
              clear hP₀ hD₀ hS₀
              refine lv_aload_n hx hb dX7_read_67 rfl (lv_at hl 1 rfl) ?_
              refine lv_aload_n hx hb dX7_read_68 rfl (lv_at hl 2 rfl) ?_
              refine cV (a := (Va 0)) (As := [.ref (Ta 0)]) (rest := []) (wr := []) ⟨hx, hb, hml, hown, hts⟩ hK hX hA (cu_kX7_readSum l D tc sk (Va 0) (Va 1) vy_20 vy_21 vy_22 (Ta 0) (Ta 1) (Tv 0) sv_814 sv_815 sv_816 sv_804 (Tf 1) ro_819 lq_39 pf_817 pf_32 h_by pf_818 cd_821 ck_822) k_624 k_621 k_623 k_7 k_99 pl_X7_readSum ⟨Nat.le_of_ble_eq_true rfl, Nat.le_of_ble_eq_true rfl⟩ rfl rfl (va_recv hK hP (ci := 7) (q0 := 0) rfl rfl) hP hD hS [0, 1, 2, 3] [] rfl rfl rfl rfl rfl (by decide) rfl hl.1 rfl (Nat.le_of_ble_eq_true rfl) dX7_read_69 ⟨Nat.le_of_ble_eq_true rfl, Nat.le_of_ble_eq_true rfl⟩ (fun v_823 u_824 H locs hv_825 hP₀ hD₀ hS₀ => ?_)
              obtain ⟨sv_826, sv_827, sv_828, sv_829, sv_830, sv_831, sv_832⟩ := u_824
              obtain ⟨rfl, pf_833, pf_834, pf_835, pf_836, pf_837⟩ := hv_825
              have pf_833 : 0 ≤ ((Tv 0) : Int32).toInt ∧ ((Tv 0) : Int32).toInt ≤ 400 ∧ 0 ≤ (sv_829 : Int32).toInt ∧ (sv_829 : Int32).toInt ≤ 400 ∧ 0 ≤ (sv_830 : Int32).toInt ∧ (sv_830 : Int32).toInt ≤ 400 := pf_833
              have pf_834 : 0 ≤ (sv_826 : Int32).toInt ∧ (sv_826 : Int32).toInt ≤ 400 := pf_834
              have pf_835 : TpR (Tf 1) (Tv 0) (pz_b ro_819 (pz_sum (cB (Tf 1) (Tv 0)))) sv_829 sv_830 sv_831 sv_832 := pf_835
              obtain ⟨ro_838, ero_838⟩ : ∃ z : Except Int (Nat × Nat), z = (pz_b ro_819 (pz_sum (cB (Tf 1) (Tv 0)))) := ⟨_, rfl⟩
              rw [← ero_838] at pf_835
              have tb_839 : TpB (rTE (cB (Tf 1) (Tv 0)) ro_838) sv_830 sv_832 := TpR.tb pf_835
              have pf_836 : Ctd (pz_b ro_819 (pz_sum (cB (Tf 1) (Tv 0)))) sv_827 := pf_836
              rw [← ero_838] at pf_836
              have pf_837 : CdK sv_828 sv_826 (pz_b ro_819 (pz_sum (cB (Tf 1) (Tv 0)))) (Ap ro_819 (lsum (cB (Tf 1) (Tv 0))) lq_39) := pf_837
              rw [← ero_838] at pf_837
              obtain ⟨ro_840, ero_840⟩ : ∃ z : List Int, z = (Ap ro_819 (lsum (cB (Tf 1) (Tv 0))) lq_39) := ⟨_, rfl⟩
              rw [← ero_840] at pf_837
              refine W.eq (g2 := F0 m 72 ls []) rfl ?_
              replace hP : va_P D classes [((Va 0), .inr (7, [.ref (Va 1), .int sv_826, .int sv_827])), ((Va 1), .inl (tc 0, 400, .inl sv_828)), ((Ta 0), .inr (10, [.ref (Ta 1), .int (Tv 0), .int sv_829, .int sv_830, .int sv_831, .int sv_832])), ((Ta 1), .inl (tc 0, 400, .inl (Tf 1)))] H := hP₀
              replace hD : va_D A [((Va 0), .inr (7, [.ref (Va 1), .int sv_826, .int sv_827])), ((Va 1), .inl (tc 0, 400, .inl sv_828)), ((Ta 0), .inr (10, [.ref (Ta 1), .int (Tv 0), .int sv_829, .int sv_830, .int sv_831, .int sv_832])), ((Ta 1), .inl (tc 0, 400, .inl (Tf 1)))] := hD₀
              replace hS := hS₀
              clear hP₀ hD₀ hS₀
              refine lv_aload_n hx hb dX7_read_72 rfl (lv_at hl 2 rfl) ?_
              refine va_ldcS hx hb hown (sx_3 hX) dX7_read_73 ?_
              have ha_841 : (3 : Nat) < 7 := by
                have z_1 := Int32.le_iff_toInt_le.mp (Int32.not_lt.mp c_43)
                have z_2 : ¬ (vy_19 : Int32).toInt = (0 : Int32).toInt := fun z => c_92 (Int32.toInt_inj.mp z)
                have z_3 : ¬ (r_482 : Int32).toInt = (0 : Int32).toInt := fun z => c_487 (Int32.toInt_inj.mp z)
                have z_4 := congrArg Int32.toInt c_551
                have y_0 : (0 : Int32).toInt = 0 := by decide
                have y_12 : (12 : Int32).toInt = 12 := by decide
                have y_3 : (3 : Int32).toInt = 3 := by decide
                omega
              refine cV (a := (Ta 0)) (As := [.ref (sk.1 3)]) (rest := []) (wr := [((Va 0), .inr (7, [.ref (Va 1), .int sv_826, .int sv_827])), ((Va 1), .inl (tc 0, 400, .inl sv_828))]) ⟨hx, hb, hml, hown, hts⟩ hK hX hA (cu_fX10_takesWord l D tc sk (Ta 0) (Ta 1) (Tv 0) sv_829 sv_830 sv_831 sv_832 (Tf 1) 3 ro_838 ha_841 pf_833 h_by pf_835) k_650 k_647 k_648 k_649 k_96 pl_X10_takesWord ⟨Nat.le_of_ble_eq_true rfl, Nat.le_of_ble_eq_true rfl⟩ rfl rfl (va_recv hK hP (ci := 10) (q0 := 2) rfl rfl) hP hD hS [2, 3] [0, 1] rfl rfl rfl rfl rfl (by decide) rfl hl.1 rfl (Nat.le_of_ble_eq_true rfl) dX7_read_75 ⟨Nat.le_of_ble_eq_true rfl, Nat.le_of_ble_eq_true rfl⟩ (fun v_842 u_843 H locs hv_844 hP₀ hD₀ hS₀ => ?_)
              obtain ⟨sv_845, sv_846, sv_847⟩ := u_843
              obtain ⟨r_849, rfl, he_850, pf_848, hm_852, hm_853⟩ := hv_844
              have he_850 : (r_849.toInt = 0 ∨ r_849.toInt = 1) := he_850
              have pf_848 : 0 ≤ ((Tv 0) : Int32).toInt ∧ ((Tv 0) : Int32).toInt ≤ 400 ∧ 0 ≤ (sv_845 : Int32).toInt ∧ (sv_845 : Int32).toInt ≤ 400 ∧ 0 ≤ (sv_846 : Int32).toInt ∧ (sv_846 : Int32).toInt ≤ 400 := pf_848
              refine W.eq (g2 := F0 m 78 ls [.int r_849]) rfl ?_
              replace hP : va_P D classes [((Va 0), .inr (7, [.ref (Va 1), .int sv_826, .int sv_827])), ((Va 1), .inl (tc 0, 400, .inl sv_828)), ((Ta 0), .inr (10, [.ref (Ta 1), .int (Tv 0), .int sv_845, .int sv_846, .int sv_847, .int sv_832])), ((Ta 1), .inl (tc 0, 400, .inl (Tf 1)))] H := hP₀
              replace hD : va_D A [((Va 0), .inr (7, [.ref (Va 1), .int sv_826, .int sv_827])), ((Va 1), .inl (tc 0, 400, .inl sv_828)), ((Ta 0), .inr (10, [.ref (Ta 1), .int (Tv 0), .int sv_845, .int sv_846, .int sv_847, .int sv_832])), ((Ta 1), .inl (tc 0, 400, .inl (Tf 1)))] := hD₀
              replace hS := hS₀
              clear hP₀ hD₀ hS₀
              refine lv_if_eq (tgt := 96) hx hb dX7_read_78 (by decide) (fun c_854 => ?_) (fun c_854 => ?_)
              · skip
                have hz_857 : (r_849 : Int32).toInt = 0 := by
                  have z_1 := Int32.le_iff_toInt_le.mp (Int32.not_lt.mp c_43)
                  have z_2 : ¬ (vy_19 : Int32).toInt = (0 : Int32).toInt := fun z => c_92 (Int32.toInt_inj.mp z)
                  have z_3 : ¬ (r_482 : Int32).toInt = (0 : Int32).toInt := fun z => c_487 (Int32.toInt_inj.mp z)
                  have z_4 := congrArg Int32.toInt c_551
                  have z_5 := congrArg Int32.toInt c_854
                  have y_0 : (0 : Int32).toInt = 0 := by decide
                  have y_12 : (12 : Int32).toInt = 12 := by decide
                  omega
                obtain ⟨pf_855, pf_856⟩ := hm_853 hz_857
                have pf_855 : NWd (cB (Tf 1) (Tv 0)) (wS (3 : Nat)) ro_838 := pf_855
                have pf_856 : TpR (Tf 1) (Tv 0) ro_838 sv_845 sv_846 sv_847 sv_832 := pf_856
                have tb_858 : TpB (rTE (cB (Tf 1) (Tv 0)) ro_838) sv_846 sv_832 := TpR.tb pf_856
                refine lv_aload_n hx hb dX7_read_96 rfl (lv_at hl 1 rfl) ?_
                refine lv_bipush (v := (-2)) hx hb dX7_read_97 (by decide) ?_
                refine cV (a := (Va 0)) (As := [.int (-2)]) (rest := []) (wr := [((Ta 0), .inr (10, [.ref (Ta 1), .int (Tv 0), .int sv_845, .int sv_846, .int sv_847, .int sv_832])), ((Ta 1), .inl (tc 0, 400, .inl (Tf 1)))]) ⟨hx, hb, hml, hown, hts⟩ hK hX hA (cu_kX7_put l D tc sk (Va 0) (Va 1) sv_826 sv_827 sv_828 (-2) ro_838 ro_840 pf_834 pf_837) k_642 k_639 k_641 k_10 k_99 pl_X7_put ⟨Nat.le_of_ble_eq_true rfl, Nat.le_of_ble_eq_true rfl⟩ rfl rfl (va_recv hK hP (ci := 7) (q0 := 0) rfl rfl) hP hD hS [0, 1] [2, 3] rfl rfl rfl rfl rfl (by decide) rfl hl.1 rfl (Nat.le_of_ble_eq_true rfl) dX7_read_99 ⟨Nat.le_of_ble_eq_true rfl, Nat.le_of_ble_eq_true rfl⟩ (fun v_859 u_860 H locs hv_861 hP₀ hD₀ hS₀ => ?_)
                obtain ⟨sv_862, sv_863⟩ := u_860
                obtain ⟨rfl, pf_864, pf_865⟩ := hv_861
                have pf_864 : 0 ≤ (sv_862 : Int32).toInt ∧ (sv_862 : Int32).toInt ≤ 400 := pf_864
                have pf_865 : CdK sv_863 sv_862 ro_838 (ro_840 ++ [((-2) : Int32).toInt]) := pf_865
                rw [show ((-2) : Int32).toInt = -2 by decide] at pf_865
                obtain ⟨ro_866, ero_866⟩ : ∃ z : List Int, z = (ro_840 ++ [-2]) := ⟨_, rfl⟩
                rw [← ero_866] at pf_865
                refine W.eq (g2 := F0 m 102 ls []) rfl ?_
                replace hP : va_P D classes [((Ta 0), .inr (10, [.ref (Ta 1), .int (Tv 0), .int sv_845, .int sv_846, .int sv_847, .int sv_832])), ((Ta 1), .inl (tc 0, 400, .inl (Tf 1))), ((Va 0), .inr (7, [.ref (Va 1), .int sv_862, .int sv_827])), ((Va 1), .inl (tc 0, 400, .inl sv_863))] H := hP₀
                replace hD : va_D A [((Ta 0), .inr (10, [.ref (Ta 1), .int (Tv 0), .int sv_845, .int sv_846, .int sv_847, .int sv_832])), ((Ta 1), .inl (tc 0, 400, .inl (Tf 1))), ((Va 0), .inr (7, [.ref (Va 1), .int sv_862, .int sv_827])), ((Va 1), .inl (tc 0, 400, .inl sv_863))] := hD₀
                replace hS := hS₀
                clear hP₀ hD₀ hS₀
                obtain ⟨x_867, ex_867⟩ : ∃ y : Int32, y = vy_19 + 1 := ⟨_, rfl⟩
                refine lv_iinc (v := x_867) (lv' := [(2, .int x_867), (0, .ref (Va 0)), (1, .ref (Ta 0))]) hx hb dX7_read_102 hl (k := 0) rfl (by rw [ex_867]; rfl) (by decide) rfl (fun ls hl₀ => ?_)
                replace hl := hl₀
                clear hl₀
                refine lv_goto (tgt := 16) hx hb dX7_read_105 (by decide) ?_
                have hb_868 : 14 - (x_867 : Int32).toInt < 14 - (vy_19 : Int32).toInt ∧ 1 ≤ 14 - (vy_19 : Int32).toInt := by
                  have z_1 := Int32.le_iff_toInt_le.mp (Int32.not_lt.mp c_43)
                  have z_2 : ¬ (vy_19 : Int32).toInt = (0 : Int32).toInt := fun z => c_92 (Int32.toInt_inj.mp z)
                  have z_3 : ¬ (r_482 : Int32).toInt = (0 : Int32).toInt := fun z => c_487 (Int32.toInt_inj.mp z)
                  have z_4 := congrArg Int32.toInt c_551
                  have z_5 := congrArg Int32.toInt c_854
                  have y_0 : (0 : Int32).toInt = 0 := by decide
                  have y_12 : (12 : Int32).toInt = 12 := by decide
                  have y_1 : (1 : Int32).toInt = 1 := by decide
                  have t_x_867 : x_867.toInt = (vy_19 : Int32).toInt + (1 : Int32).toInt := by rw [ex_867]; exact add_toInt (by omega) (by omega)
                  omega
                have ha_869 : 0 ≤ (x_867 : Int32).toInt ∧ (x_867 : Int32).toInt ≤ 13 := by
                  have z_1 := Int32.le_iff_toInt_le.mp (Int32.not_lt.mp c_43)
                  have z_2 : ¬ (vy_19 : Int32).toInt = (0 : Int32).toInt := fun z => c_92 (Int32.toInt_inj.mp z)
                  have z_3 : ¬ (r_482 : Int32).toInt = (0 : Int32).toInt := fun z => c_487 (Int32.toInt_inj.mp z)
                  have z_4 := congrArg Int32.toInt c_551
                  have z_5 := congrArg Int32.toInt c_854
                  have y_0 : (0 : Int32).toInt = 0 := by decide
                  have y_12 : (12 : Int32).toInt = 12 := by decide
                  have y_1 : (1 : Int32).toInt = 1 := by decide
                  have t_x_867 : x_867.toInt = (vy_19 : Int32).toInt + (1 : Int32).toInt := by rw [ex_867]; exact add_toInt (by omega) (by omega)
                  omega
                have hw_870 : NWd (cB (Tf 1) (Tv 0)) pz_buy (rNX (cB (Tf 1) (Tv 0)) rq_35) := by
                  rw [← ero_538, ← wS1]
                  exact pf_796
                have hE_871 : pz_b (rNX (cB (Tf 1) (Tv 0)) rq_35) (pz_cla (cB (Tf 1) (Tv 0)) (vy_19 : Int32).toInt.toNat) = ro_838 := by
                  rw [ero_838, ero_819, ero_807, ero_538]
                  exact ((cla_no hw_870).trans (by cases rq_35 <;> rfl))
                have hu_872 : TpR (Tf 1) (Tv 0) (pz_b (rNX (cB (Tf 1) (Tv 0)) rq_35) (pz_cla (cB (Tf 1) (Tv 0)) (vy_19 : Int32).toInt.toNat)) sv_845 sv_846 sv_847 sv_832 := by rw [hE_871]; exact pf_856
                have hu_873 : Ctd (pz_b (rNX (cB (Tf 1) (Tv 0)) rq_35) (pz_cla (cB (Tf 1) (Tv 0)) (vy_19 : Int32).toInt.toNat)) sv_827 := by rw [hE_871]; exact pf_836
                have hu_874 : CdK sv_863 sv_862 (pz_b (rNX (cB (Tf 1) (Tv 0)) rq_35) (pz_cla (cB (Tf 1) (Tv 0)) (vy_19 : Int32).toInt.toNat)) ro_866 := by rw [hE_871]; exact pf_865
                have hu_875 : ∀ t, (pz_b (rNX (cB (Tf 1) (Tv 0)) rq_35) (pz_cla (cB (Tf 1) (Tv 0)) (vy_19 : Int32).toInt.toNat)) = .ok t → ∃ s0, (rNX (cB (Tf 1) (Tv 0)) rq_35) = .ok s0 ∧ ro_866 = lq_39 ++ ru_1 (ru_cl (cB (Tf 1) (Tv 0)) s0) := by
                  exact cl_er (cla_no hw_870)
                have hi_876 : (x_867 : Int32).toInt = (vy_19 : Int32).toInt + 1 := by
                  have z_1 := Int32.le_iff_toInt_le.mp (Int32.not_lt.mp c_43)
                  have z_2 : ¬ (vy_19 : Int32).toInt = (0 : Int32).toInt := fun z => c_92 (Int32.toInt_inj.mp z)
                  have z_3 : ¬ (r_482 : Int32).toInt = (0 : Int32).toInt := fun z => c_487 (Int32.toInt_inj.mp z)
                  have z_4 := congrArg Int32.toInt c_551
                  have z_5 := congrArg Int32.toInt c_854
                  have y_0 : (0 : Int32).toInt = 0 := by decide
                  have y_12 : (12 : Int32).toInt = 12 := by decide
                  have y_1 : (1 : Int32).toInt = 1 := by decide
                  have t_x_867 : x_867.toInt = (vy_19 : Int32).toInt + (1 : Int32).toInt := by rw [ex_867]; exact add_toInt (by omega) (by omega)
                  omega
                have hr_877 : 1 ≤ (vy_19 : Int32).toInt ∧ (vy_19 : Int32).toInt ≤ 12 := by
                  have z_1 := Int32.le_iff_toInt_le.mp (Int32.not_lt.mp c_43)
                  have z_2 : ¬ (vy_19 : Int32).toInt = (0 : Int32).toInt := fun z => c_92 (Int32.toInt_inj.mp z)
                  have z_3 : ¬ (r_482 : Int32).toInt = (0 : Int32).toInt := fun z => c_487 (Int32.toInt_inj.mp z)
                  have z_4 := congrArg Int32.toInt c_551
                  have z_5 := congrArg Int32.toInt c_854
                  have y_0 : (0 : Int32).toInt = 0 := by decide
                  have y_12 : (12 : Int32).toInt = 12 := by decide
                  omega
                exact ih_28 x_867 sv_862 sv_827 sv_863 sv_845 sv_846 sv_847 sv_832 _ _ _ (by omega) ha_869 pf_848 pf_864 (RcC.nextS h_tape.2.1 hr_877 pf_535 pf_38 pf_41 hu_872 hu_873 hu_874 hu_875 hi_876) (hP.sub [2, 3, 0, 1] rfl) (hD.sub [2, 3, 0, 1] rfl rfl) hS (lv_sub hl [0, 1, 2] rfl)
              · skip
                have hz_880 : (r_849 : Int32).toInt = 1 := by
                  have z_1 := Int32.le_iff_toInt_le.mp (Int32.not_lt.mp c_43)
                  have z_2 : ¬ (vy_19 : Int32).toInt = (0 : Int32).toInt := fun z => c_92 (Int32.toInt_inj.mp z)
                  have z_3 : ¬ (r_482 : Int32).toInt = (0 : Int32).toInt := fun z => c_487 (Int32.toInt_inj.mp z)
                  have z_4 := congrArg Int32.toInt c_551
                  have z_5 : ¬ (r_849 : Int32).toInt = (0 : Int32).toInt := fun z => c_854 (Int32.toInt_inj.mp z)
                  have y_0 : (0 : Int32).toInt = 0 := by decide
                  have y_12 : (12 : Int32).toInt = 12 := by decide
                  omega
                obtain ⟨pf_878, pf_879⟩ := hm_852 hz_880
                have pf_878 : TWd (cB (Tf 1) (Tv 0)) (wS (3 : Nat)) ro_838 := pf_878
                have pf_879 : TpR (Tf 1) (Tv 0) (rNX (cB (Tf 1) (Tv 0)) ro_838) sv_845 sv_846 sv_847 sv_832 := pf_879
                obtain ⟨ro_881, ero_881⟩ : ∃ z : Except Int (Nat × Nat), z = (rNX (cB (Tf 1) (Tv 0)) ro_838) := ⟨_, rfl⟩
                rw [← ero_881] at pf_879
                have tb_882 : TpB (rTE (cB (Tf 1) (Tv 0)) ro_881) sv_846 sv_832 := TpR.tb pf_879
                have cd_883 : Ctd ro_881 sv_827 := by rw [ero_881]; exact (Ctd.nx pf_836)
                have ck_884 : CdK sv_828 sv_826 ro_881 ro_840 := by rw [ero_881]; exact (CdK.nx pf_837)
                refine lv_aload_n hx hb dX7_read_81 rfl (lv_at hl 1 rfl) ?_
                refine lv_aload_n hx hb dX7_read_82 rfl (lv_at hl 2 rfl) ?_
                refine lv_iconst (v := 0) hx hb dX7_read_83 (by decide) ?_
                refine cV (a := (Va 0)) (As := [.ref (Ta 0), .int 0]) (rest := []) (wr := []) ⟨hx, hb, hml, hown, hts⟩ hK hX hA (cu_kX7_readTest_0 l D tc sk (Va 0) (Va 1) sv_826 sv_827 sv_828 (Ta 0) (Ta 1) (Tv 0) sv_845 sv_846 sv_847 sv_832 (Tf 1) ro_881 ro_840 pf_848 pf_834 h_by pf_879 cd_883 ck_884) k_655 k_652 k_654 k_11 k_99 pl_X7_readTest ⟨Nat.le_of_ble_eq_true rfl, Nat.le_of_ble_eq_true rfl⟩ rfl rfl (va_recv hK hP (ci := 7) (q0 := 0) rfl rfl) hP hD hS [0, 1, 2, 3] [] rfl rfl rfl rfl rfl (by decide) rfl hl.1 rfl (Nat.le_of_ble_eq_true rfl) dX7_read_84 ⟨Nat.le_of_ble_eq_true rfl, Nat.le_of_ble_eq_true rfl⟩ (fun v_885 u_886 H locs hv_887 hP₀ hD₀ hS₀ => ?_)
                obtain ⟨sv_888, sv_889, sv_890, sv_891, sv_892, sv_893, sv_894⟩ := u_886
                obtain ⟨rfl, pf_895, pf_896, pf_897, pf_898, pf_899⟩ := hv_887
                have pf_895 : 0 ≤ ((Tv 0) : Int32).toInt ∧ ((Tv 0) : Int32).toInt ≤ 400 ∧ 0 ≤ (sv_891 : Int32).toInt ∧ (sv_891 : Int32).toInt ≤ 400 ∧ 0 ≤ (sv_892 : Int32).toInt ∧ (sv_892 : Int32).toInt ≤ 400 := pf_895
                have pf_896 : 0 ≤ (sv_888 : Int32).toInt ∧ (sv_888 : Int32).toInt ≤ 400 := pf_896
                have pf_897 : TpR (Tf 1) (Tv 0) (pz_b ro_881 (pz_tst (cB (Tf 1) (Tv 0)) (pz_fact (cB (Tf 1) (Tv 0)) 10))) sv_891 sv_892 sv_893 sv_894 := pf_897
                obtain ⟨ro_900, ero_900⟩ : ∃ z : Except Int (Nat × Nat), z = (pz_b ro_881 (pz_tst (cB (Tf 1) (Tv 0)) (pz_fact (cB (Tf 1) (Tv 0)) 10))) := ⟨_, rfl⟩
                rw [← ero_900] at pf_897
                have tb_901 : TpB (rTE (cB (Tf 1) (Tv 0)) ro_900) sv_892 sv_894 := TpR.tb pf_897
                have pf_898 : Ctd (pz_b ro_881 (pz_tst (cB (Tf 1) (Tv 0)) (pz_fact (cB (Tf 1) (Tv 0)) 10))) sv_889 := pf_898
                rw [← ero_900] at pf_898
                have pf_899 : CdK sv_890 sv_888 (pz_b ro_881 (pz_tst (cB (Tf 1) (Tv 0)) (pz_fact (cB (Tf 1) (Tv 0)) 10))) (Ap ro_881 (ltst (cB (Tf 1) (Tv 0)) 10) ro_840) := pf_899
                rw [← ero_900] at pf_899
                obtain ⟨ro_902, ero_902⟩ : ∃ z : List Int, z = (Ap ro_881 (ltst (cB (Tf 1) (Tv 0)) 10) ro_840) := ⟨_, rfl⟩
                rw [← ero_902] at pf_899
                refine W.eq (g2 := F0 m 87 ls []) rfl ?_
                replace hP : va_P D classes [((Va 0), .inr (7, [.ref (Va 1), .int sv_888, .int sv_889])), ((Va 1), .inl (tc 0, 400, .inl sv_890)), ((Ta 0), .inr (10, [.ref (Ta 1), .int (Tv 0), .int sv_891, .int sv_892, .int sv_893, .int sv_894])), ((Ta 1), .inl (tc 0, 400, .inl (Tf 1)))] H := hP₀
                replace hD : va_D A [((Va 0), .inr (7, [.ref (Va 1), .int sv_888, .int sv_889])), ((Va 1), .inl (tc 0, 400, .inl sv_890)), ((Ta 0), .inr (10, [.ref (Ta 1), .int (Tv 0), .int sv_891, .int sv_892, .int sv_893, .int sv_894])), ((Ta 1), .inl (tc 0, 400, .inl (Tf 1)))] := hD₀
                replace hS := hS₀
                clear hP₀ hD₀ hS₀
                refine lv_aload_n hx hb dX7_read_87 rfl (lv_at hl 1 rfl) ?_
                refine lv_bipush (v := (-3)) hx hb dX7_read_88 (by decide) ?_
                refine cV (a := (Va 0)) (As := [.int (-3)]) (rest := []) (wr := [((Ta 0), .inr (10, [.ref (Ta 1), .int (Tv 0), .int sv_891, .int sv_892, .int sv_893, .int sv_894])), ((Ta 1), .inl (tc 0, 400, .inl (Tf 1)))]) ⟨hx, hb, hml, hown, hts⟩ hK hX hA (cu_kX7_put l D tc sk (Va 0) (Va 1) sv_888 sv_889 sv_890 (-3) ro_900 ro_902 pf_896 pf_899) k_642 k_639 k_641 k_10 k_99 pl_X7_put ⟨Nat.le_of_ble_eq_true rfl, Nat.le_of_ble_eq_true rfl⟩ rfl rfl (va_recv hK hP (ci := 7) (q0 := 0) rfl rfl) hP hD hS [0, 1] [2, 3] rfl rfl rfl rfl rfl (by decide) rfl hl.1 rfl (Nat.le_of_ble_eq_true rfl) dX7_read_90 ⟨Nat.le_of_ble_eq_true rfl, Nat.le_of_ble_eq_true rfl⟩ (fun v_903 u_904 H locs hv_905 hP₀ hD₀ hS₀ => ?_)
                obtain ⟨sv_906, sv_907⟩ := u_904
                obtain ⟨rfl, pf_908, pf_909⟩ := hv_905
                have pf_908 : 0 ≤ (sv_906 : Int32).toInt ∧ (sv_906 : Int32).toInt ≤ 400 := pf_908
                have pf_909 : CdK sv_907 sv_906 ro_900 (ro_902 ++ [((-3) : Int32).toInt]) := pf_909
                rw [show ((-3) : Int32).toInt = -3 by decide] at pf_909
                obtain ⟨ro_910, ero_910⟩ : ∃ z : List Int, z = (ro_902 ++ [-3]) := ⟨_, rfl⟩
                rw [← ero_910] at pf_909
                refine W.eq (g2 := F0 m 93 ls []) rfl ?_
                replace hP : va_P D classes [((Ta 0), .inr (10, [.ref (Ta 1), .int (Tv 0), .int sv_891, .int sv_892, .int sv_893, .int sv_894])), ((Ta 1), .inl (tc 0, 400, .inl (Tf 1))), ((Va 0), .inr (7, [.ref (Va 1), .int sv_906, .int sv_889])), ((Va 1), .inl (tc 0, 400, .inl sv_907))] H := hP₀
                replace hD : va_D A [((Ta 0), .inr (10, [.ref (Ta 1), .int (Tv 0), .int sv_891, .int sv_892, .int sv_893, .int sv_894])), ((Ta 1), .inl (tc 0, 400, .inl (Tf 1))), ((Va 0), .inr (7, [.ref (Va 1), .int sv_906, .int sv_889])), ((Va 1), .inl (tc 0, 400, .inl sv_907))] := hD₀
                replace hS := hS₀
                clear hP₀ hD₀ hS₀
                refine lv_goto (tgt := 102) hx hb dX7_read_93 (by decide) ?_
                obtain ⟨x_911, ex_911⟩ : ∃ y : Int32, y = vy_19 + 1 := ⟨_, rfl⟩
                refine lv_iinc (v := x_911) (lv' := [(2, .int x_911), (0, .ref (Va 0)), (1, .ref (Ta 0))]) hx hb dX7_read_102 hl (k := 0) rfl (by rw [ex_911]; rfl) (by decide) rfl (fun ls hl₀ => ?_)
                replace hl := hl₀
                clear hl₀
                refine lv_goto (tgt := 16) hx hb dX7_read_105 (by decide) ?_
                have hb_912 : 14 - (x_911 : Int32).toInt < 14 - (vy_19 : Int32).toInt ∧ 1 ≤ 14 - (vy_19 : Int32).toInt := by
                  have z_1 := Int32.le_iff_toInt_le.mp (Int32.not_lt.mp c_43)
                  have z_2 : ¬ (vy_19 : Int32).toInt = (0 : Int32).toInt := fun z => c_92 (Int32.toInt_inj.mp z)
                  have z_3 : ¬ (r_482 : Int32).toInt = (0 : Int32).toInt := fun z => c_487 (Int32.toInt_inj.mp z)
                  have z_4 := congrArg Int32.toInt c_551
                  have z_5 : ¬ (r_849 : Int32).toInt = (0 : Int32).toInt := fun z => c_854 (Int32.toInt_inj.mp z)
                  have y_0 : (0 : Int32).toInt = 0 := by decide
                  have y_12 : (12 : Int32).toInt = 12 := by decide
                  have y_1 : (1 : Int32).toInt = 1 := by decide
                  have t_x_911 : x_911.toInt = (vy_19 : Int32).toInt + (1 : Int32).toInt := by rw [ex_911]; exact add_toInt (by omega) (by omega)
                  omega
                have ha_913 : 0 ≤ (x_911 : Int32).toInt ∧ (x_911 : Int32).toInt ≤ 13 := by
                  have z_1 := Int32.le_iff_toInt_le.mp (Int32.not_lt.mp c_43)
                  have z_2 : ¬ (vy_19 : Int32).toInt = (0 : Int32).toInt := fun z => c_92 (Int32.toInt_inj.mp z)
                  have z_3 : ¬ (r_482 : Int32).toInt = (0 : Int32).toInt := fun z => c_487 (Int32.toInt_inj.mp z)
                  have z_4 := congrArg Int32.toInt c_551
                  have z_5 : ¬ (r_849 : Int32).toInt = (0 : Int32).toInt := fun z => c_854 (Int32.toInt_inj.mp z)
                  have y_0 : (0 : Int32).toInt = 0 := by decide
                  have y_12 : (12 : Int32).toInt = 12 := by decide
                  have y_1 : (1 : Int32).toInt = 1 := by decide
                  have t_x_911 : x_911.toInt = (vy_19 : Int32).toInt + (1 : Int32).toInt := by rw [ex_911]; exact add_toInt (by omega) (by omega)
                  omega
                have hw_914 : NWd (cB (Tf 1) (Tv 0)) pz_buy (rNX (cB (Tf 1) (Tv 0)) rq_35) := by
                  rw [← ero_538, ← wS1]
                  exact pf_796
                have hE_915 : pz_b (rNX (cB (Tf 1) (Tv 0)) rq_35) (pz_cla (cB (Tf 1) (Tv 0)) (vy_19 : Int32).toInt.toNat) = ro_900 := by
                  rw [ero_900, ero_881, ero_838, ero_819, ero_807, ero_538]
                  exact ((cla_no hw_914).trans (by cases rq_35 <;> rfl))
                have hu_916 : TpR (Tf 1) (Tv 0) (pz_b (rNX (cB (Tf 1) (Tv 0)) rq_35) (pz_cla (cB (Tf 1) (Tv 0)) (vy_19 : Int32).toInt.toNat)) sv_891 sv_892 sv_893 sv_894 := by rw [hE_915]; exact pf_897
                have hu_917 : Ctd (pz_b (rNX (cB (Tf 1) (Tv 0)) rq_35) (pz_cla (cB (Tf 1) (Tv 0)) (vy_19 : Int32).toInt.toNat)) sv_889 := by rw [hE_915]; exact pf_898
                have hu_918 : CdK sv_907 sv_906 (pz_b (rNX (cB (Tf 1) (Tv 0)) rq_35) (pz_cla (cB (Tf 1) (Tv 0)) (vy_19 : Int32).toInt.toNat)) ro_910 := by rw [hE_915]; exact pf_909
                have hu_919 : ∀ t, (pz_b (rNX (cB (Tf 1) (Tv 0)) rq_35) (pz_cla (cB (Tf 1) (Tv 0)) (vy_19 : Int32).toInt.toNat)) = .ok t → ∃ s0, (rNX (cB (Tf 1) (Tv 0)) rq_35) = .ok s0 ∧ ro_910 = lq_39 ++ ru_1 (ru_cl (cB (Tf 1) (Tv 0)) s0) := by
                  exact cl_er (cla_no hw_914)
                have hi_920 : (x_911 : Int32).toInt = (vy_19 : Int32).toInt + 1 := by
                  have z_1 := Int32.le_iff_toInt_le.mp (Int32.not_lt.mp c_43)
                  have z_2 : ¬ (vy_19 : Int32).toInt = (0 : Int32).toInt := fun z => c_92 (Int32.toInt_inj.mp z)
                  have z_3 : ¬ (r_482 : Int32).toInt = (0 : Int32).toInt := fun z => c_487 (Int32.toInt_inj.mp z)
                  have z_4 := congrArg Int32.toInt c_551
                  have z_5 : ¬ (r_849 : Int32).toInt = (0 : Int32).toInt := fun z => c_854 (Int32.toInt_inj.mp z)
                  have y_0 : (0 : Int32).toInt = 0 := by decide
                  have y_12 : (12 : Int32).toInt = 12 := by decide
                  have y_1 : (1 : Int32).toInt = 1 := by decide
                  have t_x_911 : x_911.toInt = (vy_19 : Int32).toInt + (1 : Int32).toInt := by rw [ex_911]; exact add_toInt (by omega) (by omega)
                  omega
                have hr_921 : 1 ≤ (vy_19 : Int32).toInt ∧ (vy_19 : Int32).toInt ≤ 12 := by
                  have z_1 := Int32.le_iff_toInt_le.mp (Int32.not_lt.mp c_43)
                  have z_2 : ¬ (vy_19 : Int32).toInt = (0 : Int32).toInt := fun z => c_92 (Int32.toInt_inj.mp z)
                  have z_3 : ¬ (r_482 : Int32).toInt = (0 : Int32).toInt := fun z => c_487 (Int32.toInt_inj.mp z)
                  have z_4 := congrArg Int32.toInt c_551
                  have z_5 : ¬ (r_849 : Int32).toInt = (0 : Int32).toInt := fun z => c_854 (Int32.toInt_inj.mp z)
                  have y_0 : (0 : Int32).toInt = 0 := by decide
                  have y_12 : (12 : Int32).toInt = 12 := by decide
                  omega
                exact ih_28 x_911 sv_906 sv_889 sv_907 sv_891 sv_892 sv_893 sv_894 _ _ _ (by omega) ha_913 pf_895 pf_908 (RcC.nextS h_tape.2.1 hr_921 pf_535 pf_38 pf_41 hu_916 hu_917 hu_918 hu_919 hi_920) (hP.sub [2, 3, 0, 1] rfl) (hD.sub [2, 3, 0, 1] rfl rfl) hS (lv_sub hl [0, 1, 2] rfl)
  have ha_922 : 0 ≤ (0 : Int32).toInt ∧ (0 : Int32).toInt ≤ 13 := by
    have y_0 : (0 : Int32).toInt = 0 := by decide
    omega
  have ha_923 : 0 ≤ (0 : Int32).toInt ∧ (0 : Int32).toInt ≤ 400 := by
    have y_0 : (0 : Int32).toInt = 0 := by decide
    omega
  have hu_924 : TpR (Tf 1) (Tv 0) (rSK (cB (Tf 1) (Tv 0)) (.ok (0, 0))) sv_4 sv_5 sv_6 0 := by
    rw [← ero_9]
    exact pf_8
  have hr_925 : (0 : Int32).toInt = 0 := by
    have y_0 : (0 : Int32).toInt = 0 := by decide
    omega
  exact loop_29 _ 0 0 0 (Vf 1) sv_4 sv_5 sv_6 0 _ _ _ (Nat.lt_succ_self _) ha_922 pf_7 ha_923 (RcC.start hu_924 hr_925) hP hD hS hl
set_option maxRecDepth 100000 in
theorem cu_kX7_read (l : Launch) (D : va_G) (tc : Nat → ClassId) (sk : (Nat → Nat) × (Nat → Nat)) (Va_0 : Nat) (Va_1 : Nat) (Vv_0 : Int32) (Vv_1 : Int32) (Vf_1 : Nat → Int32) (Ta_0 : Nat) (Ta_1 : Nat) (Tv_0 : Int32) (Tv_1 : Int32) (Tv_2 : Int32) (Tv_3 : Int32) (Tv_4 : Int32) (Tf_1 : Nat → Int32) (h_tape : 0 ≤ (Tv_0 : Int32).toInt ∧ (Tv_0 : Int32).toInt ≤ 400 ∧ 0 ≤ (Tv_1 : Int32).toInt ∧ (Tv_1 : Int32).toInt ≤ 400 ∧ 0 ≤ (Tv_2 : Int32).toInt ∧ (Tv_2 : Int32).toInt ≤ 400) (h_by : Byt Tf_1) : Ct l yX7_read cX7_read 3 (some (.object "PoisonBook$Rule")) { frames := 30, cells := 3, slots := 466, locals := 719 } D tc sk [.ref Va_0, .ref Ta_0] [(Va_0, .inr (7, [.ref Va_1, .int Vv_0, .int Vv_1])), (Va_1, .inl (tc 0, 400, .inl Vf_1)), (Ta_0, .inr (10, [.ref Ta_1, .int Tv_0, .int Tv_1, .int Tv_2, .int Tv_3, .int Tv_4])), (Ta_1, .inl (tc 0, 400, .inl Tf_1))] (fun (v : Option Value) (u : (Bool) × (Nat) × (Nat) × (Nat) × (Int32) × (Int32) × (Nat → Int32) × (Int32) × (Int32) × (Int32) × (Int32) × (Nat → Int32) × (Nat) × (Int32) × (Int32) × (Nat → Int32) × (Int32) × (Int32) × (Int32) × (Int32)) => match u with | (true, na0x0, na0x1, na0x2, oo0x1, oo0x2, oo0x3, oo0x4, oo0x5, oo0x6, oo0x7, oo0x8, nn0x5, oo1x1, oo1x2, oo1x3, oo1x4, oo1x5, oo1x6, oo1x7) => v = some (.ref na0x0) ∧ (0 ≤ (Tv_0 : Int32).toInt ∧ (Tv_0 : Int32).toInt ≤ 400 ∧ 0 ≤ (oo0x4 : Int32).toInt ∧ (oo0x4 : Int32).toInt ≤ 400 ∧ 0 ≤ (oo0x5 : Int32).toInt ∧ (oo0x5 : Int32).toInt ≤ 400) ∧ (0 ≤ (oo0x1 : Int32).toInt ∧ (oo0x1 : Int32).toInt ≤ 400) ∧ (RuK (cB Tf_1 Tv_0)) ∧ (nn0x5 ≤ 400) ∧ (RuC (cB Tf_1 Tv_0) nn0x5 oo0x8) | (false, na0x0, na0x1, na0x2, oo0x1, oo0x2, oo0x3, oo0x4, oo0x5, oo0x6, oo0x7, oo0x8, nn0x5, oo1x1, oo1x2, oo1x3, oo1x4, oo1x5, oo1x6, oo1x7) => v = some (.null) ∧ (0 ≤ (Tv_0 : Int32).toInt ∧ (Tv_0 : Int32).toInt ≤ 400 ∧ 0 ≤ (oo1x4 : Int32).toInt ∧ (oo1x4 : Int32).toInt ≤ 400 ∧ 0 ≤ (oo1x5 : Int32).toInt ∧ (oo1x5 : Int32).toInt ≤ 400) ∧ (0 ≤ (oo1x1 : Int32).toInt ∧ (oo1x1 : Int32).toInt ≤ 400) ∧ (RuF (cB Tf_1 Tv_0) oo1x7)) (fun (u : (Bool) × (Nat) × (Nat) × (Nat) × (Int32) × (Int32) × (Nat → Int32) × (Int32) × (Int32) × (Int32) × (Int32) × (Nat → Int32) × (Nat) × (Int32) × (Int32) × (Nat → Int32) × (Int32) × (Int32) × (Int32) × (Int32)) => match u with | (true, na0x0, na0x1, na0x2, oo0x1, oo0x2, oo0x3, oo0x4, oo0x5, oo0x6, oo0x7, oo0x8, nn0x5, oo1x1, oo1x2, oo1x3, oo1x4, oo1x5, oo1x6, oo1x7) => [(Va_0, .inr (7, [.ref Va_1, .int oo0x1, .int oo0x2])), (Va_1, .inl (tc 0, 400, .inl oo0x3)), (Ta_0, .inr (10, [.ref Ta_1, .int Tv_0, .int oo0x4, .int oo0x5, .int oo0x6, .int oo0x7])), (Ta_1, .inl (tc 0, 400, .inl Tf_1)), (na0x0, .inr (6, [.ref na0x1, .ref na0x2])), (na0x1, .inl (tc 0, nn0x5, .inl oo0x8)), (na0x2, .inl (tc 1, 64, .inr (.inl (fun _ => 0))))] | (false, na0x0, na0x1, na0x2, oo0x1, oo0x2, oo0x3, oo0x4, oo0x5, oo0x6, oo0x7, oo0x8, nn0x5, oo1x1, oo1x2, oo1x3, oo1x4, oo1x5, oo1x6, oo1x7) => [(Va_0, .inr (7, [.ref Va_1, .int oo1x1, .int oo1x2])), (Va_1, .inl (tc 0, 400, .inl oo1x3)), (Ta_0, .inr (10, [.ref Ta_1, .int Tv_0, .int oo1x4, .int oo1x5, .int oo1x6, .int oo1x7])), (Ta_1, .inl (tc 0, 400, .inl Tf_1))]) 3 466 :=
  ct_kX7_read l D tc sk (fun k => ([Va_0, Va_1] : List (Nat)).getD k 0) (fun k => ([Vv_0, Vv_1] : List (Int32)).getD k 0) (fun k => ([(fun _ => 0), Vf_1] : List (Nat → Int32)).getD k (fun _ => 0)) (fun k => ([Ta_0, Ta_1] : List (Nat)).getD k 0) (fun k => ([Tv_0, Tv_1, Tv_2, Tv_3, Tv_4] : List (Int32)).getD k 0) (fun k => ([(fun _ => 0), Tf_1] : List (Nat → Int32)).getD k (fun _ => 0)) h_tape h_by
