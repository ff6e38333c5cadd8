set_option maxRecDepth 100000 in
theorem cu_kX7_readFact_4 (l : Launch) (D : va_G) (tc : Nat → ClassId) (sk : (Nat → Nat) × (Nat → Nat)) (Va_0 : Nat) (Va_1 : Nat) (Vv_0 : Int32) (Vv_1 : Int32) (Vf_1 : Nat → Int32) (Ta_0 : Nat) (Ta_1 : Nat) (Tv_0 : Int32) (Tv_1 : Int32) (Tv_2 : Int32) (Tv_3 : Int32) (Tv_4 : Int32) (Tf_1 : Nat → Int32) (rr : Except Int (Nat × Nat)) (ll : List Int) (h_tape : 0 ≤ (Tv_0 : Int32).toInt ∧ (Tv_0 : Int32).toInt ≤ 400 ∧ 0 ≤ (Tv_1 : Int32).toInt ∧ (Tv_1 : Int32).toInt ≤ 400 ∧ 0 ≤ (Tv_2 : Int32).toInt ∧ (Tv_2 : Int32).toInt ≤ 400) (h_u : 0 ≤ (Vv_0 : Int32).toInt ∧ (Vv_0 : Int32).toInt ≤ 400) (h_by : Byt Tf_1) (h_r : TpR Tf_1 Tv_0 rr Tv_1 Tv_2 Tv_3 Tv_4) (h_ct : Ctd rr Vv_1) (h_cd : CdK Vf_1 Vv_0 rr ll) : Ct l yX7_readFact cX7_readFact 5 none { frames := 20, cells := 0, slots := 0, locals := 474 } D tc sk [.ref Va_0, .ref Ta_0, .int 4] [(Va_0, .inr (7, [.ref Va_1, .int Vv_0, .int Vv_1])), (Va_1, .inl (tc 0, 400, .inl Vf_1)), (Ta_0, .inr (10, [.ref Ta_1, .int Tv_0, .int Tv_1, .int Tv_2, .int Tv_3, .int Tv_4])), (Ta_1, .inl (tc 0, 400, .inl Tf_1))] (fun (v : Option Value) (u : (Int32) × (Int32) × (Nat → Int32) × (Int32) × (Int32) × (Int32) × (Int32)) => match u with | (oo0x1, oo0x2, oo0x3, oo0x4, oo0x5, oo0x6, oo0x7) => v = none ∧ (0 ≤ (Tv_0 : Int32).toInt ∧ (Tv_0 : Int32).toInt ≤ 400 ∧ 0 ≤ (oo0x4 : Int32).toInt ∧ (oo0x4 : Int32).toInt ≤ 400 ∧ 0 ≤ (oo0x5 : Int32).toInt ∧ (oo0x5 : Int32).toInt ≤ 400) ∧ (0 ≤ (oo0x1 : Int32).toInt ∧ (oo0x1 : Int32).toInt ≤ 400) ∧ (TpR Tf_1 Tv_0 (pz_b rr (pz_fact (cB Tf_1 Tv_0) 6)) oo0x4 oo0x5 oo0x6 oo0x7) ∧ (Ctd (pz_b rr (pz_fact (cB Tf_1 Tv_0) 6)) oo0x2) ∧ (CdK oo0x3 oo0x1 (pz_b rr (pz_fact (cB Tf_1 Tv_0) 6)) (Ap rr (ec_fact (cB Tf_1 Tv_0) 6) ll))) (fun (u : (Int32) × (Int32) × (Nat → Int32) × (Int32) × (Int32) × (Int32) × (Int32)) => match u with | (oo0x1, oo0x2, oo0x3, oo0x4, oo0x5, oo0x6, oo0x7) => [(Va_0, .inr (7, [.ref Va_1, .int oo0x1, .int oo0x2])), (Va_1, .inl (tc 0, 400, .inl oo0x3)), (Ta_0, .inr (10, [.ref Ta_1, .int Tv_0, .int oo0x4, .int oo0x5, .int oo0x6, .int oo0x7])), (Ta_1, .inl (tc 0, 400, .inl Tf_1))]) 0 0 :=
  ct_kX7_readFact_4 l D tc sk (fun k => ([Va_0, Va_1] : List (Nat)).getD k 0) (fun k => ([Vv_0, Vv_1] : List (Int32)).getD k 0) (fun k => ([(fun _ => 0), Vf_1] : List (Nat → Int32)).getD k (fun _ => 0)) (fun k => ([Ta_0, Ta_1] : List (Nat)).getD k 0) (fun k => ([Tv_0, Tv_1, Tv_2, Tv_3, Tv_4] : List (Int32)).getD k 0) (fun k => ([(fun _ => 0), Tf_1] : List (Nat → Int32)).getD k (fun _ => 0)) rr ll h_tape h_u h_by h_r h_ct h_cd
set_option maxHeartbeats 4000000 in
set_option maxRecDepth 100000 in
theorem ct_kX7_readTest_4 (l : Launch) (D : va_G) (tc : Nat → ClassId) (sk : (Nat → Nat) × (Nat → Nat)) (Va : Nat → Nat) (Vv : Nat → Int32) (Vf : Nat → Nat → Int32) (Ta : Nat → Nat) (Tv : Nat → Int32) (Tf : Nat → Nat → Int32) (rr : Except Int (Nat × Nat)) (ll : List Int) (h_tape : 0 ≤ ((Tv 0) : Int32).toInt ∧ ((Tv 0) : Int32).toInt ≤ 400 ∧ 0 ≤ ((Tv 1) : Int32).toInt ∧ ((Tv 1) : Int32).toInt ≤ 400 ∧ 0 ≤ ((Tv 2) : Int32).toInt ∧ ((Tv 2) : Int32).toInt ≤ 400) (h_u : 0 ≤ ((Vv 0) : Int32).toInt ∧ ((Vv 0) : Int32).toInt ≤ 400) (h_by : Byt (Tf 1)) (h_r : TpR (Tf 1) (Tv 0) rr (Tv 1) (Tv 2) (Tv 3) (Tv 4)) (h_ct : Ctd rr (Vv 1)) (h_cd : CdK (Vf 1) (Vv 0) rr ll) : Ct l yX7_readTest cX7_readTest 6 none { frames := 21, cells := 0, slots := 0, locals := 498 } D tc sk [.ref (Va 0), .ref (Ta 0), .int 4] [((Va 0), .inr (7, [.ref (Va 1), .int (Vv 0), .int (Vv 1)])), ((Va 1), .inl (tc 0, 400, .inl (Vf 1))), ((Ta 0), .inr (10, [.ref (Ta 1), .int (Tv 0), .int (Tv 1), .int (Tv 2), .int (Tv 3), .int (Tv 4)])), ((Ta 1), .inl (tc 0, 400, .inl (Tf 1)))] (fun (v : Option Value) (u : (Int32) × (Int32) × (Nat → Int32) × (Int32) × (Int32) × (Int32) × (Int32)) => match u with | (oo0x1, oo0x2, oo0x3, oo0x4, oo0x5, oo0x6, oo0x7) => v = none ∧ (0 ≤ ((Tv 0) : Int32).toInt ∧ ((Tv 0) : Int32).toInt ≤ 400 ∧ 0 ≤ (oo0x4 : Int32).toInt ∧ (oo0x4 : Int32).toInt ≤ 400 ∧ 0 ≤ (oo0x5 : Int32).toInt ∧ (oo0x5 : Int32).toInt ≤ 400) ∧ (0 ≤ (oo0x1 : Int32).toInt ∧ (oo0x1 : Int32).toInt ≤ 400) ∧ (TpR (Tf 1) (Tv 0) (pz_b rr (pz_tst (cB (Tf 1) (Tv 0)) (pz_fact (cB (Tf 1) (Tv 0)) 6))) oo0x4 oo0x5 oo0x6 oo0x7) ∧ (Ctd (pz_b rr (pz_tst (cB (Tf 1) (Tv 0)) (pz_fact (cB (Tf 1) (Tv 0)) 6))) oo0x2) ∧ (CdK oo0x3 oo0x1 (pz_b rr (pz_tst (cB (Tf 1) (Tv 0)) (pz_fact (cB (Tf 1) (Tv 0)) 6))) (Ap rr (ltst (cB (Tf 1) (Tv 0)) 6) ll))) (fun (u : (Int32) × (Int32) × (Nat → Int32) × (Int32) × (Int32) × (Int32) × (Int32)) => match u with | (oo0x1, oo0x2, oo0x3, oo0x4, oo0x5, oo0x6, oo0x7) => [((Va 0), .inr (7, [.ref (Va 1), .int oo0x1, .int oo0x2])), ((Va 1), .inl (tc 0, 400, .inl oo0x3)), ((Ta 0), .inr (10, [.ref (Ta 1), .int (Tv 0), .int oo0x4, .int oo0x5, .int oo0x6, .int oo0x7])), ((Ta 1), .inl (tc 0, 400, .inl (Tf 1)))]) 0 0 := by
  refine Ct.start (by decide) (Nat.le_of_ble_eq_true rfl) (fun p e s m below meth c A ls hx hb hr hlk hin hml hown hts hK hX hP hD hA hl hS => ?_)
  have hl : lv_has ls 6 [(0, .ref (Va 0)), (1, .ref (Ta 0)), (2, .int 4)] := hl
  have tb_1 : TpB (rTE (cB (Tf 1) (Tv 0)) rr) (Tv 2) (Tv 4) := TpR.tb h_r
  refine lv_aload_n hx hb dX7_readTest_0 rfl (lv_at hl 0 rfl) ?_
  refine lv_aload_n hx hb dX7_readTest_1 rfl (lv_at hl 1 rfl) ?_
  refine lv_iload_n hx hb dX7_readTest_2 rfl (lv_at hl 2 rfl) ?_
  refine cV (a := (Va 0)) (As := [.ref (Ta 0), .int 4]) (rest := []) (wr := []) ⟨hx, hb, hml, hown, hts⟩ hK hX hA (cu_kX7_readFact_4 l D tc sk (Va 0) (Va 1) (Vv 0) (Vv 1) (Vf 1) (Ta 0) (Ta 1) (Tv 0) (Tv 1) (Tv 2) (Tv 3) (Tv 4) (Tf 1) rr ll h_tape h_u h_by h_r h_ct h_cd) k_659 k_656 k_658 k_12 k_99 pl_X7_readFact ⟨Nat.le_of_ble_eq_true rfl, Nat.le_of_ble_eq_true rfl⟩ rfl rfl (va_recv hK hP (ci := 7) (q0 := 0) rfl rfl) hP hD hS [0, 1, 2, 3] [] rfl rfl rfl rfl rfl (by decide) rfl hl.1 rfl (Nat.le_of_ble_eq_true rfl) dX7_readTest_3 ⟨Nat.le_of_ble_eq_true rfl, Nat.le_of_ble_eq_true rfl⟩ (fun v_2 u_3 H locs hv_4 hP₀ hD₀ hS₀ => ?_)
  obtain ⟨sv_5, sv_6, sv_7, sv_8, sv_9, sv_10, sv_11⟩ := u_3
  obtain ⟨rfl, pf_12, pf_13, pf_14, pf_15, pf_16⟩ := hv_4
  have pf_12 : 0 ≤ ((Tv 0) : Int32).toInt ∧ ((Tv 0) : Int32).toInt ≤ 400 ∧ 0 ≤ (sv_8 : Int32).toInt ∧ (sv_8 : Int32).toInt ≤ 400 ∧ 0 ≤ (sv_9 : Int32).toInt ∧ (sv_9 : Int32).toInt ≤ 400 := pf_12
  have pf_13 : 0 ≤ (sv_5 : Int32).toInt ∧ (sv_5 : Int32).toInt ≤ 400 := pf_13
  have pf_14 : TpR (Tf 1) (Tv 0) (pz_b rr (pz_fact (cB (Tf 1) (Tv 0)) 6)) sv_8 sv_9 sv_10 sv_11 := pf_14
  obtain ⟨ro_17, ero_17⟩ : ∃ z : Except Int (Nat × Nat), z = (pz_b rr (pz_fact (cB (Tf 1) (Tv 0)) 6)) := ⟨_, rfl⟩
  rw [← ero_17] at pf_14
  have tb_18 : TpB (rTE (cB (Tf 1) (Tv 0)) ro_17) sv_9 sv_11 := TpR.tb pf_14
  have pf_15 : Ctd (pz_b rr (pz_fact (cB (Tf 1) (Tv 0)) 6)) sv_6 := pf_15
  rw [← ero_17] at pf_15
  have pf_16 : CdK sv_7 sv_5 (pz_b rr (pz_fact (cB (Tf 1) (Tv 0)) 6)) (Ap rr (ec_fact (cB (Tf 1) (Tv 0)) 6) ll) := pf_16
  rw [← ero_17] at pf_16
  obtain ⟨ro_19, ero_19⟩ : ∃ z : List Int, z = (Ap rr (ec_fact (cB (Tf 1) (Tv 0)) 6) ll) := ⟨_, rfl⟩
  rw [← ero_19] at pf_16
  refine W.eq (g2 := F0 m 6 ls []) rfl ?_
  replace hP : va_P D classes [((Va 0), .inr (7, [.ref (Va 1), .int sv_5, .int sv_6])), ((Va 1), .inl (tc 0, 400, .inl sv_7)), ((Ta 0), .inr (10, [.ref (Ta 1), .int (Tv 0), .int sv_8, .int sv_9, .int sv_10, .int sv_11])), ((Ta 1), .inl (tc 0, 400, .inl (Tf 1)))] H := hP₀
  replace hD : va_D A [((Va 0), .inr (7, [.ref (Va 1), .int sv_5, .int sv_6])), ((Va 1), .inl (tc 0, 400, .inl sv_7)), ((Ta 0), .inr (10, [.ref (Ta 1), .int (Tv 0), .int sv_8, .int sv_9, .int sv_10, .int sv_11])), ((Ta 1), .inl (tc 0, 400, .inl (Tf 1)))] := hD₀
  replace hS := hS₀
  clear hP₀ hD₀ hS₀
  refine lv_iconst (v := 0) hx hb dX7_readTest_6 (by decide) ?_
  refine lv_istore_n (lv' := [(3, .int 0), (0, .ref (Va 0)), (1, .ref (Ta 0)), (2, .int 4)]) hx hb dX7_readTest_7 rfl hl (by decide) rfl (fun ls hl₀ => ?_)
  replace hl := hl₀
  clear hl₀
  refine lv_iconst (v := 0) hx hb dX7_readTest_8 (by decide) ?_
  refine lv_istore (lv' := [(4, .int 0), (3, .int 0), (0, .ref (Va 0)), (1, .ref (Ta 0)), (2, .int 4)]) hx hb dX7_readTest_9 hl (by decide) rfl (fun ls hl₀ => ?_)
  replace hl := hl₀
  clear hl₀
  have loop_40 : ∀ (n_38 : Nat) (vy_29 : Int32) (vy_30 : Int32) (vy_31 : Int32) (vy_32 : Nat → Int32) (vy_33 : Int32) (vy_34 : Int32) (vy_35 : Int32) (vy_36 : Int32) (vy_37 : Int32) (H : Heap) (locs : List Loc) (ls : Array Slot), (401 - (vy_29 : Int32).toInt).toNat < n_38 → (0 ≤ (vy_29 : Int32).toInt ∧ (vy_29 : Int32).toInt ≤ 400) → (0 ≤ (vy_37 : Int32).toInt ∧ (vy_37 : Int32).toInt ≤ 1) → (0 ≤ ((Tv 0) : Int32).toInt ∧ ((Tv 0) : Int32).toInt ≤ 400 ∧ 0 ≤ (vy_33 : Int32).toInt ∧ (vy_33 : Int32).toInt ≤ 400 ∧ 0 ≤ (vy_34 : Int32).toInt ∧ (vy_34 : Int32).toInt ≤ 400) → (0 ≤ (vy_30 : Int32).toInt ∧ (vy_30 : Int32).toInt ≤ 400) → (TeC (Tf 1) (Tv 0) 6 (pz_b rr (pz_tst (cB (Tf 1) (Tv 0)) (pz_fact (cB (Tf 1) (Tv 0)) 6))) vy_33 vy_34 vy_35 vy_36 vy_31 vy_29 vy_32 vy_30 vy_37 (Ap rr (ltst (cB (Tf 1) (Tv 0)) 6) ll)) → va_P D classes [((Va 0), .inr (7, [.ref (Va 1), .int vy_30, .int vy_31])), ((Va 1), .inl (tc 0, 400, .inl vy_32)), ((Ta 0), .inr (10, [.ref (Ta 1), .int (Tv 0), .int vy_33, .int vy_34, .int vy_35, .int vy_36])), ((Ta 1), .inl (tc 0, 400, .inl (Tf 1)))] H → va_D A [((Va 0), .inr (7, [.ref (Va 1), .int vy_30, .int vy_31])), ((Va 1), .inl (tc 0, 400, .inl vy_32)), ((Ta 0), .inr (10, [.ref (Ta 1), .int (Tv 0), .int vy_33, .int vy_34, .int vy_35, .int vy_36])), ((Ta 1), .inl (tc 0, 400, .inl (Tf 1)))] → va_S A s.heap H locs → lv_has ls 6 [(4, .int vy_29), (3, .int vy_37), (0, .ref (Va 0)), (1, .ref (Ta 0)), (2, .int 4)] → W p l e ({ frames := 21, cells := 0, slots := 0, locals := 498 }) s m ([.ref (Va 0), .ref (Ta 0), .int 4].toArray) below meth c H locs 0 0 (MQ below (QW (fun (v : Option Value) (u : (Int32) × (Int32) × (Nat → Int32) × (Int32) × (Int32) × (Int32) × (Int32)) => match u with | (oo0x1, oo0x2, oo0x3, oo0x4, oo0x5, oo0x6, oo0x7) => v = none ∧ (0 ≤ ((Tv 0) : Int32).toInt ∧ ((Tv 0) : Int32).toInt ≤ 400 ∧ 0 ≤ (oo0x4 : Int32).toInt ∧ (oo0x4 : Int32).toInt ≤ 400 ∧ 0 ≤ (oo0x5 : Int32).toInt ∧ (oo0x5 : Int32).toInt ≤ 400) ∧ (0 ≤ (oo0x1 : Int32).toInt ∧ (oo0x1 : Int32).toInt ≤ 400) ∧ (TpR (Tf 1) (Tv 0) (pz_b rr (pz_tst (cB (Tf 1) (Tv 0)) (pz_fact (cB (Tf 1) (Tv 0)) 6))) oo0x4 oo0x5 oo0x6 oo0x7) ∧ (Ctd (pz_b rr (pz_tst (cB (Tf 1) (Tv 0)) (pz_fact (cB (Tf 1) (Tv 0)) 6))) oo0x2) ∧ (CdK oo0x3 oo0x1 (pz_b rr (pz_tst (cB (Tf 1) (Tv 0)) (pz_fact (cB (Tf 1) (Tv 0)) 6))) (Ap rr (ltst (cB (Tf 1) (Tv 0)) 6) ll))) (BW D (fun (u : (Int32) × (Int32) × (Nat → Int32) × (Int32) × (Int32) × (Int32) × (Int32)) => match u with | (oo0x1, oo0x2, oo0x3, oo0x4, oo0x5, oo0x6, oo0x7) => [((Va 0), .inr (7, [.ref (Va 1), .int oo0x1, .int oo0x2])), ((Va 1), .inl (tc 0, 400, .inl oo0x3)), ((Ta 0), .inr (10, [.ref (Ta 1), .int (Tv 0), .int oo0x4, .int oo0x5, .int oo0x6, .int oo0x7])), ((Ta 1), .inl (tc 0, 400, .inl (Tf 1)))]) A) A) ([.ref (Va 0), .ref (Ta 0), .int 4].toArray) s 0 0 A) (F0 m 11 ls []) := by
    clear hP hD hS hl
    intro n_38
    induction n_38 with
    | zero =>
      intro vy_29 vy_30 vy_31 vy_32 vy_33 vy_34 vy_35 vy_36 vy_37 H locs ls h1
      exact absurd h1 (Nat.not_lt_zero _)
    | succ n_38 ih_39 =>
      intro vy_29 vy_30 vy_31 vy_32 vy_33 vy_34 vy_35 vy_36 vy_37 H locs ls hn_46 pf_41 pf_42 pf_43 pf_44 pf_45 hP hD hS hl
      obtain ⟨rq_47, pf_48, pf_49, pf_50, pf_51, lq_52, pf_53, pf_54⟩ := id pf_45
      have tb_55 : TpB (rTE (cB (Tf 1) (Tv 0)) rq_47) vy_34 vy_36 := TpR.tb pf_48
      refine lv_iload hx hb dX7_readTest_11 (lv_at hl 0 rfl) ?_
      refine lv_sipush (v := 400) hx hb dX7_readTest_13 (by decide) ?_
      refine lv_icmp_ge (tgt := 92) hx hb dX7_readTest_16 (by decide) (fun c_56 => ?_) (fun c_56 => ?_)
      · skip
        refine lv_iload_n hx hb dX7_readTest_92 rfl (lv_at hl 1 rfl) ?_
        refine lv_if_eq (tgt := 102) hx hb dX7_readTest_93 (by decide) (fun c_57 => ?_) (fun c_57 => ?_)
        · skip
          have hf_58 : TpR (Tf 1) (Tv 0) (pz_b rr (pz_tst (cB (Tf 1) (Tv 0)) (pz_fact (cB (Tf 1) (Tv 0)) 6))) vy_33 vy_34 vy_35 vy_36 := by
            have hr_59 : 400 ≤ (vy_29 : Int32).toInt := by
              have z_1 := Int32.le_iff_toInt_le.mp c_56
              have z_2 := congrArg Int32.toInt c_57
              have y_0 : (0 : Int32).toInt = 0 := by decide
              have y_400 : (400 : Int32).toInt = 400 := by decide
              omega
            rw [pf_50, tst_end h_tape.2.1 pf_51 (Or.inl hr_59)]
            exact pf_48
          have hf_60 : Ctd (pz_b rr (pz_tst (cB (Tf 1) (Tv 0)) (pz_fact (cB (Tf 1) (Tv 0)) 6))) vy_31 := by
            have hr_61 : 400 ≤ (vy_29 : Int32).toInt := by
              have z_1 := Int32.le_iff_toInt_le.mp c_56
              have z_2 := congrArg Int32.toInt c_57
              have y_0 : (0 : Int32).toInt = 0 := by decide
              have y_400 : (400 : Int32).toInt = 400 := by decide
              omega
            rw [pf_50, tst_end h_tape.2.1 pf_51 (Or.inl hr_61)]
            exact pf_49
          have hr_62 : 400 ≤ (vy_29 : Int32).toInt := by
            have z_1 := Int32.le_iff_toInt_le.mp c_56
            have z_2 := congrArg Int32.toInt c_57
            have y_0 : (0 : Int32).toInt = 0 := by decide
            have y_400 : (400 : Int32).toInt = 400 := by decide
            omega
          have hr_63 : (vy_37 : Int32).toInt = 0 := by
            have z_1 := Int32.le_iff_toInt_le.mp c_56
            have z_2 := congrArg Int32.toInt c_57
            have y_0 : (0 : Int32).toInt = 0 := by decide
            have y_400 : (400 : Int32).toInt = 400 := by decide
            omega
          exact retV hx hb hr hlk hP hD hS (vy_30, vy_31, vy_32, vy_33, vy_34, vy_35, vy_36) ⟨rfl, pf_43, pf_44, hf_58, hf_60, (TeC.end0 h_tape.2.1 pf_50 pf_51 pf_54 hr_63 (Or.inl hr_62) pf_53)⟩ [0, 1, 2, 3] rfl rfl dX7_readTest_102 (Nat.le_of_ble_eq_true rfl) (Nat.le_of_ble_eq_true rfl) rfl
        · skip
          refine lv_aload_n hx hb dX7_readTest_96 rfl (lv_at hl 2 rfl) ?_
          refine lv_bipush (v := (-6)) hx hb dX7_readTest_97 (by decide) ?_
          refine cV (a := (Va 0)) (As := [.int (-6)]) (rest := []) (wr := [((Ta 0), .inr (10, [.ref (Ta 1), .int (Tv 0), .int vy_33, .int vy_34, .int vy_35, .int vy_36])), ((Ta 1), .inl (tc 0, 400, .inl (Tf 1)))]) ⟨hx, hb, hml, hown, hts⟩ hK hX hA (cu_kX7_put l D tc sk (Va 0) (Va 1) vy_30 vy_31 vy_32 (-6) rq_47 lq_52 pf_44 pf_53) k_642 k_639 k_641 k_10 k_99 pl_X7_put ⟨Nat.le_of_ble_eq_true rfl, Nat.le_of_ble_eq_true rfl⟩ rfl rfl (va_recv hK hP (ci := 7) (q0 := 0) rfl rfl) hP hD hS [0, 1] [2, 3] rfl rfl rfl rfl rfl (by decide) rfl hl.1 rfl (Nat.le_of_ble_eq_true rfl) dX7_readTest_99 ⟨Nat.le_of_ble_eq_true rfl, Nat.le_of_ble_eq_true rfl⟩ (fun v_64 u_65 H locs hv_66 hP₀ hD₀ hS₀ => ?_)
          obtain ⟨sv_67, sv_68⟩ := u_65
          obtain ⟨rfl, pf_69, pf_70⟩ := hv_66
          have pf_69 : 0 ≤ (sv_67 : Int32).toInt ∧ (sv_67 : Int32).toInt ≤ 400 := pf_69
          have pf_70 : CdK sv_68 sv_67 rq_47 (lq_52 ++ [((-6) : Int32).toInt]) := pf_70
          rw [show ((-6) : Int32).toInt = -6 by decide] at pf_70
          obtain ⟨ro_71, ero_71⟩ : ∃ z : List Int, z = (lq_52 ++ [-6]) := ⟨_, rfl⟩
          rw [← ero_71] at pf_70
          refine W.eq (g2 := F0 m 102 ls []) rfl ?_
          replace hP : va_P D classes [((Ta 0), .inr (10, [.ref (Ta 1), .int (Tv 0), .int vy_33, .int vy_34, .int vy_35, .int vy_36])), ((Ta 1), .inl (tc 0, 400, .inl (Tf 1))), ((Va 0), .inr (7, [.ref (Va 1), .int sv_67, .int vy_31])), ((Va 1), .inl (tc 0, 400, .inl sv_68))] H := hP₀
          replace hD : va_D A [((Ta 0), .inr (10, [.ref (Ta 1), .int (Tv 0), .int vy_33, .int vy_34, .int vy_35, .int vy_36])), ((Ta 1), .inl (tc 0, 400, .inl (Tf 1))), ((Va 0), .inr (7, [.ref (Va 1), .int sv_67, .int vy_31])), ((Va 1), .inl (tc 0, 400, .inl sv_68))] := hD₀
          replace hS := hS₀
          clear hP₀ hD₀ hS₀
          have hf_72 : TpR (Tf 1) (Tv 0) (pz_b rr (pz_tst (cB (Tf 1) (Tv 0)) (pz_fact (cB (Tf 1) (Tv 0)) 6))) vy_33 vy_34 vy_35 vy_36 := by
            have hr_73 : 400 ≤ (vy_29 : Int32).toInt := by
              have z_1 := Int32.le_iff_toInt_le.mp c_56
              have z_2 : ¬ (vy_37 : Int32).toInt = (0 : Int32).toInt := fun z => c_57 (Int32.toInt_inj.mp z)
              have y_0 : (0 : Int32).toInt = 0 := by decide
              have y_400 : (400 : Int32).toInt = 400 := by decide
              omega
            rw [pf_50, tst_end h_tape.2.1 pf_51 (Or.inl hr_73)]
            exact pf_48
          have hf_74 : Ctd (pz_b rr (pz_tst (cB (Tf 1) (Tv 0)) (pz_fact (cB (Tf 1) (Tv 0)) 6))) vy_31 := by
            have hr_75 : 400 ≤ (vy_29 : Int32).toInt := by
              have z_1 := Int32.le_iff_toInt_le.mp c_56
              have z_2 : ¬ (vy_37 : Int32).toInt = (0 : Int32).toInt := fun z => c_57 (Int32.toInt_inj.mp z)
              have y_0 : (0 : Int32).toInt = 0 := by decide
              have y_400 : (400 : Int32).toInt = 400 := by decide
              omega
            rw [pf_50, tst_end h_tape.2.1 pf_51 (Or.inl hr_75)]
            exact pf_49
          have hr_76 : 400 ≤ (vy_29 : Int32).toInt := by
            have z_1 := Int32.le_iff_toInt_le.mp c_56
            have z_2 : ¬ (vy_37 : Int32).toInt = (0 : Int32).toInt := fun z => c_57 (Int32.toInt_inj.mp z)
            have y_0 : (0 : Int32).toInt = 0 := by decide
            have y_400 : (400 : Int32).toInt = 400 := by decide
            omega
          have hu_77 : CdK sv_68 sv_67 rq_47 (lq_52 ++ [-6]) := by
            rw [← ero_71]
            exact pf_70
          have hr_78 : (vy_37 : Int32).toInt = 1 := by
            have z_1 := Int32.le_iff_toInt_le.mp c_56
            have z_2 : ¬ (vy_37 : Int32).toInt = (0 : Int32).toInt := fun z => c_57 (Int32.toInt_inj.mp z)
            have y_0 : (0 : Int32).toInt = 0 := by decide
            have y_400 : (400 : Int32).toInt = 400 := by decide
            omega
          exact retV hx hb hr hlk hP hD hS (sv_67, vy_31, sv_68, vy_33, vy_34, vy_35, vy_36) ⟨rfl, pf_43, pf_69, hf_72, hf_74, (TeC.end1 h_tape.2.1 pf_50 pf_51 pf_54 hr_78 (Or.inl hr_76) hu_77)⟩ [2, 3, 0, 1] rfl rfl dX7_readTest_102 (Nat.le_of_ble_eq_true rfl) (Nat.le_of_ble_eq_true rfl) rfl
      · skip
        refine lv_aload_n hx hb dX7_readTest_19 rfl (lv_at hl 3 rfl) ?_
        refine va_ldcS hx hb hown (sx_5 hX) dX7_readTest_20 ?_
        have ha_79 : (5 : Nat) < 7 := by
          have z_1 := Int32.lt_iff_toInt_lt.mp (Int32.not_le.mp c_56)
          have y_400 : (400 : Int32).toInt = 400 := by decide
          have y_5 : (5 : Int32).toInt = 5 := by decide
          omega
        refine cV (a := (Ta 0)) (As := [.ref (sk.1 5)]) (rest := []) (wr := [((Va 0), .inr (7, [.ref (Va 1), .int vy_30, .int vy_31])), ((Va 1), .inl (tc 0, 400, .inl vy_32))]) ⟨hx, hb, hml, hown, hts⟩ hK hX hA (cu_fX10_isWord l D tc sk (Ta 0) (Ta 1) (Tv 0) vy_33 vy_34 vy_35 vy_36 (Tf 1) 5 rq_47 ha_79 pf_43 h_by pf_48) k_618 k_615 k_616 k_617 k_96 pl_X10_isWord ⟨Nat.le_of_ble_eq_true rfl, Nat.le_of_ble_eq_true rfl⟩ rfl rfl (va_recv hK hP (ci := 10) (q0 := 2) rfl rfl) hP hD hS [2, 3] [0, 1] rfl rfl rfl rfl rfl (by decide) rfl hl.1 rfl (Nat.le_of_ble_eq_true rfl) dX7_readTest_22 ⟨Nat.le_of_ble_eq_true rfl, Nat.le_of_ble_eq_true rfl⟩ (fun v_80 u_81 H locs hv_82 hP₀ hD₀ hS₀ => ?_)
        obtain ⟨r_83, rfl, he_84, hm_86, hm_87⟩ := hv_82
        have he_84 : (r_83.toInt = 0 ∨ r_83.toInt = 1) := he_84
        refine W.eq (g2 := F0 m 25 ls [.int r_83]) rfl ?_
        replace hP : va_P D classes [((Va 0), .inr (7, [.ref (Va 1), .int vy_30, .int vy_31])), ((Va 1), .inl (tc 0, 400, .inl vy_32)), ((Ta 0), .inr (10, [.ref (Ta 1), .int (Tv 0), .int vy_33, .int vy_34, .int vy_35, .int vy_36])), ((Ta 1), .inl (tc 0, 400, .inl (Tf 1)))] H := hP₀
        replace hD : va_D A [((Va 0), .inr (7, [.ref (Va 1), .int vy_30, .int vy_31])), ((Va 1), .inl (tc 0, 400, .inl vy_32)), ((Ta 0), .inr (10, [.ref (Ta 1), .int (Tv 0), .int vy_33, .int vy_34, .int vy_35, .int vy_36])), ((Ta 1), .inl (tc 0, 400, .inl (Tf 1)))] := hD₀
        replace hS := hS₀
        clear hP₀ hD₀ hS₀
        refine lv_if_ne (tgt := 37) hx hb dX7_readTest_25 (by decide) (fun c_88 => ?_) (fun c_88 => ?_)
        · skip
          have hz_90 : (r_83 : Int32).toInt = 1 := by
            have z_1 := Int32.lt_iff_toInt_lt.mp (Int32.not_le.mp c_56)
            have z_2 : ¬ (r_83 : Int32).toInt = (0 : Int32).toInt := fun z => c_88 (Int32.toInt_inj.mp z)
            have y_0 : (0 : Int32).toInt = 0 := by decide
            have y_400 : (400 : Int32).toInt = 400 := by decide
            omega
          obtain pf_89 := hm_86 hz_90
          have pf_89 : TWd (cB (Tf 1) (Tv 0)) (wS (5 : Nat)) rq_47 := pf_89
          refine lv_aload_n hx hb dX7_readTest_37 rfl (lv_at hl 3 rfl) ?_
          refine va_ldcS hx hb hown (sx_6 hX) dX7_readTest_38 ?_
          have ha_91 : (6 : Nat) < 7 := by
            have z_1 := Int32.lt_iff_toInt_lt.mp (Int32.not_le.mp c_56)
            have z_2 : ¬ (r_83 : Int32).toInt = (0 : Int32).toInt := fun z => c_88 (Int32.toInt_inj.mp z)
            have y_0 : (0 : Int32).toInt = 0 := by decide
            have y_400 : (400 : Int32).toInt = 400 := by decide
            have y_6 : (6 : Int32).toInt = 6 := by decide
            omega
          refine cV (a := (Ta 0)) (As := [.ref (sk.1 6)]) (rest := []) (wr := [((Va 0), .inr (7, [.ref (Va 1), .int vy_30, .int vy_31])), ((Va 1), .inl (tc 0, 400, .inl vy_32))]) ⟨hx, hb, hml, hown, hts⟩ hK hX hA (cu_fX10_isWord l D tc sk (Ta 0) (Ta 1) (Tv 0) vy_33 vy_34 vy_35 vy_36 (Tf 1) 6 rq_47 ha_91 pf_43 h_by pf_48) k_618 k_615 k_616 k_617 k_96 pl_X10_isWord ⟨Nat.le_of_ble_eq_true rfl, Nat.le_of_ble_eq_true rfl⟩ rfl rfl (va_recv hK hP (ci := 10) (q0 := 2) rfl rfl) hP hD hS [2, 3] [0, 1] rfl rfl rfl rfl rfl (by decide) rfl hl.1 rfl (Nat.le_of_ble_eq_true rfl) dX7_readTest_40 ⟨Nat.le_of_ble_eq_true rfl, Nat.le_of_ble_eq_true rfl⟩ (fun v_92 u_93 H locs hv_94 hP₀ hD₀ hS₀ => ?_)
          obtain ⟨r_95, rfl, he_96, hm_98, hm_99⟩ := hv_94
          have he_96 : (r_95.toInt = 0 ∨ r_95.toInt = 1) := he_96
          refine W.eq (g2 := F0 m 43 ls [.int r_95]) rfl ?_
          replace hP : va_P D classes [((Va 0), .inr (7, [.ref (Va 1), .int vy_30, .int vy_31])), ((Va 1), .inl (tc 0, 400, .inl vy_32)), ((Ta 0), .inr (10, [.ref (Ta 1), .int (Tv 0), .int vy_33, .int vy_34, .int vy_35, .int vy_36])), ((Ta 1), .inl (tc 0, 400, .inl (Tf 1)))] H := hP₀
          replace hD : va_D A [((Va 0), .inr (7, [.ref (Va 1), .int vy_30, .int vy_31])), ((Va 1), .inl (tc 0, 400, .inl vy_32)), ((Ta 0), .inr (10, [.ref (Ta 1), .int (Tv 0), .int vy_33, .int vy_34, .int vy_35, .int vy_36])), ((Ta 1), .inl (tc 0, 400, .inl (Tf 1)))] := hD₀
          replace hS := hS₀
          clear hP₀ hD₀ hS₀
          refine lv_istore (lv' := [(5, .int r_95), (4, .int vy_29), (3, .int vy_37), (0, .ref (Va 0)), (1, .ref (Ta 0)), (2, .int 4)]) hx hb dX7_readTest_43 hl (by decide) rfl (fun ls hl₀ => ?_)
          replace hl := hl₀
          clear hl₀
          refine lv_iload hx hb dX7_readTest_45 (lv_at hl 0 rfl) ?_
          refine lv_if_eq (tgt := 60) hx hb dX7_readTest_47 (by decide) (fun c_100 => ?_) (fun c_100 => ?_)
          · skip
            have hz_102 : (r_95 : Int32).toInt = 0 := by
              have z_1 := Int32.lt_iff_toInt_lt.mp (Int32.not_le.mp c_56)
              have z_2 : ¬ (r_83 : Int32).toInt = (0 : Int32).toInt := fun z => c_88 (Int32.toInt_inj.mp z)
              have z_3 := congrArg Int32.toInt c_100
              have y_0 : (0 : Int32).toInt = 0 := by decide
              have y_400 : (400 : Int32).toInt = 400 := by decide
              omega
            obtain pf_101 := hm_99 hz_102
            have pf_101 : NWd (cB (Tf 1) (Tv 0)) (wS (6 : Nat)) rq_47 := pf_101
            refine lv_aload_n hx hb dX7_readTest_60 rfl (lv_at hl 4 rfl) ?_
            refine cV (a := (Ta 0)) (As := []) (rest := []) (wr := [((Va 0), .inr (7, [.ref (Va 1), .int vy_30, .int vy_31])), ((Va 1), .inl (tc 0, 400, .inl vy_32))]) ⟨hx, hb, hml, hown, hts⟩ hK hX hA (cu_fX10_step l D tc sk (Ta 0) (Ta 1) (Tv 0) vy_33 vy_34 vy_35 vy_36 (Tf 1) (rTE (cB (Tf 1) (Tv 0)) rq_47) pf_43 h_by tb_55) k_478 k_620 k_476 k_477 k_96 pl_X10_step ⟨Nat.le_of_ble_eq_true rfl, Nat.le_of_ble_eq_true rfl⟩ rfl rfl (va_recv hK hP (ci := 10) (q0 := 2) rfl rfl) hP hD hS [2, 3] [0, 1] rfl rfl rfl rfl rfl (by decide) rfl hl.1 rfl (Nat.le_of_ble_eq_true rfl) dX7_readTest_61 ⟨Nat.le_of_ble_eq_true rfl, Nat.le_of_ble_eq_true rfl⟩ (fun v_103 u_104 H locs hv_105 hP₀ hD₀ hS₀ => ?_)
            obtain ⟨sv_106, sv_107, sv_108⟩ := u_104
            obtain ⟨rfl, pf_109, pf_110⟩ := hv_105
            have pf_109 : 0 ≤ ((Tv 0) : Int32).toInt ∧ ((Tv 0) : Int32).toInt ≤ 400 ∧ 0 ≤ (sv_106 : Int32).toInt ∧ (sv_106 : Int32).toInt ≤ 400 ∧ 0 ≤ (sv_107 : Int32).toInt ∧ (sv_107 : Int32).toInt ≤ 400 := pf_109
            have pf_110 : TpR (Tf 1) (Tv 0) (rSK (cB (Tf 1) (Tv 0)) (rTE (cB (Tf 1) (Tv 0)) rq_47)) sv_106 sv_107 sv_108 vy_36 := pf_110
            rw [rNX_eq] at pf_110
            obtain ⟨ro_111, ero_111⟩ : ∃ z : Except Int (Nat × Nat), z = (rNX (cB (Tf 1) (Tv 0)) rq_47) := ⟨_, rfl⟩
            rw [← ero_111] at pf_110
            have tb_112 : TpB (rTE (cB (Tf 1) (Tv 0)) ro_111) sv_107 vy_36 := TpR.tb pf_110
            have cd_113 : Ctd ro_111 vy_31 := by rw [ero_111]; exact (Ctd.nx pf_49)
            have ck_114 : CdK vy_32 vy_30 ro_111 lq_52 := by rw [ero_111]; exact (CdK.nx pf_53)
            refine W.eq (g2 := F0 m 64 ls []) rfl ?_
            replace hP : va_P D classes [((Va 0), .inr (7, [.ref (Va 1), .int vy_30, .int vy_31])), ((Va 1), .inl (tc 0, 400, .inl vy_32)), ((Ta 0), .inr (10, [.ref (Ta 1), .int (Tv 0), .int sv_106, .int sv_107, .int sv_108, .int vy_36])), ((Ta 1), .inl (tc 0, 400, .inl (Tf 1)))] H := hP₀
            replace hD : va_D A [((Va 0), .inr (7, [.ref (Va 1), .int vy_30, .int vy_31])), ((Va 1), .inl (tc 0, 400, .inl vy_32)), ((Ta 0), .inr (10, [.ref (Ta 1), .int (Tv 0), .int sv_106, .int sv_107, .int sv_108, .int vy_36])), ((Ta 1), .inl (tc 0, 400, .inl (Tf 1)))] := hD₀
            replace hS := hS₀
            clear hP₀ hD₀ hS₀
            refine lv_aload_n hx hb dX7_readTest_64 rfl (lv_at hl 3 rfl) ?_
            refine lv_aload_n hx hb dX7_readTest_65 rfl (lv_at hl 4 rfl) ?_
            refine lv_iload_n hx hb dX7_readTest_66 rfl (lv_at hl 5 rfl) ?_
            refine cV (a := (Va 0)) (As := [.ref (Ta 0), .int 4]) (rest := []) (wr := []) ⟨hx, hb, hml, hown, hts⟩ hK hX hA (cu_kX7_readFact_4 l D tc sk (Va 0) (Va 1) vy_30 vy_31 vy_32 (Ta 0) (Ta 1) (Tv 0) sv_106 sv_107 sv_108 vy_36 (Tf 1) ro_111 lq_52 pf_109 pf_44 h_by pf_110 cd_113 ck_114) k_659 k_656 k_658 k_12 k_99 pl_X7_readFact ⟨Nat.le_of_ble_eq_true rfl, Nat.le_of_ble_eq_true rfl⟩ rfl rfl (va_recv hK hP (ci := 7) (q0 := 0) rfl rfl) hP hD hS [0, 1, 2, 3] [] rfl rfl rfl rfl rfl (by decide) rfl hl.1 rfl (Nat.le_of_ble_eq_true rfl) dX7_readTest_67 ⟨Nat.le_of_ble_eq_true rfl, Nat.le_of_ble_eq_true rfl⟩ (fun v_115 u_116 H locs hv_117 hP₀ hD₀ hS₀ => ?_)
            obtain ⟨sv_118, sv_119, sv_120, sv_121, sv_122, sv_123, sv_124⟩ := u_116
            obtain ⟨rfl, pf_125, pf_126, pf_127, pf_128, pf_129⟩ := hv_117
            have pf_125 : 0 ≤ ((Tv 0) : Int32).toInt ∧ ((Tv 0) : Int32).toInt ≤ 400 ∧ 0 ≤ (sv_121 : Int32).toInt ∧ (sv_121 : Int32).toInt ≤ 400 ∧ 0 ≤ (sv_122 : Int32).toInt ∧ (sv_122 : Int32).toInt ≤ 400 := pf_125
            have pf_126 : 0 ≤ (sv_118 : Int32).toInt ∧ (sv_118 : Int32).toInt ≤ 400 := pf_126
            have pf_127 : TpR (Tf 1) (Tv 0) (pz_b ro_111 (pz_fact (cB (Tf 1) (Tv 0)) 6)) sv_121 sv_122 sv_123 sv_124 := pf_127
            obtain ⟨ro_130, ero_130⟩ : ∃ z : Except Int (Nat × Nat), z = (pz_b ro_111 (pz_fact (cB (Tf 1) (Tv 0)) 6)) := ⟨_, rfl⟩
            rw [← ero_130] at pf_127
            have tb_131 : TpB (rTE (cB (Tf 1) (Tv 0)) ro_130) sv_122 sv_124 := TpR.tb pf_127
            have pf_128 : Ctd (pz_b ro_111 (pz_fact (cB (Tf 1) (Tv 0)) 6)) sv_119 := pf_128
            rw [← ero_130] at pf_128
            have pf_129 : CdK sv_120 sv_118 (pz_b ro_111 (pz_fact (cB (Tf 1) (Tv 0)) 6)) (Ap ro_111 (ec_fact (cB (Tf 1) (Tv 0)) 6) lq_52) := pf_129
            rw [← ero_130] at pf_129
            obtain ⟨ro_132, ero_132⟩ : ∃ z : List Int, z = (Ap ro_111 (ec_fact (cB (Tf 1) (Tv 0)) 6) lq_52) := ⟨_, rfl⟩
            rw [← ero_132] at pf_129
            refine W.eq (g2 := F0 m 70 ls []) rfl ?_
            replace hP : va_P D classes [((Va 0), .inr (7, [.ref (Va 1), .int sv_118, .int sv_119])), ((Va 1), .inl (tc 0, 400, .inl sv_120)), ((Ta 0), .inr (10, [.ref (Ta 1), .int (Tv 0), .int sv_121, .int sv_122, .int sv_123, .int sv_124])), ((Ta 1), .inl (tc 0, 400, .inl (Tf 1)))] H := hP₀
            replace hD : va_D A [((Va 0), .inr (7, [.ref (Va 1), .int sv_118, .int sv_119])), ((Va 1), .inl (tc 0, 400, .inl sv_120)), ((Ta 0), .inr (10, [.ref (Ta 1), .int (Tv 0), .int sv_121, .int sv_122, .int sv_123, .int sv_124])), ((Ta 1), .inl (tc 0, 400, .inl (Tf 1)))] := hD₀
            replace hS := hS₀
            clear hP₀ hD₀ hS₀
            refine lv_iload hx hb dX7_readTest_70 (lv_at hl 0 rfl) ?_
            refine lv_if_eq (tgt := 80) hx hb dX7_readTest_72 (by decide) (fun c_133 => ?_) (fun c_133 => ?_)
            · skip
              refine lv_aload_n hx hb dX7_readTest_80 rfl (lv_at hl 3 rfl) ?_
              refine lv_bipush (v := (-5)) hx hb dX7_readTest_81 (by decide) ?_
              refine cV (a := (Va 0)) (As := [.int (-5)]) (rest := []) (wr := [((Ta 0), .inr (10, [.ref (Ta 1), .int (Tv 0), .int sv_121, .int sv_122, .int sv_123, .int sv_124])), ((Ta 1), .inl (tc 0, 400, .inl (Tf 1)))]) ⟨hx, hb, hml, hown, hts⟩ hK hX hA (cu_kX7_put l D tc sk (Va 0) (Va 1) sv_118 sv_119 sv_120 (-5) ro_130 ro_132 pf_126 pf_129) k_642 k_639 k_641 k_10 k_99 pl_X7_put ⟨Nat.le_of_ble_eq_true rfl, Nat.le_of_ble_eq_true rfl⟩ rfl rfl (va_recv hK hP (ci := 7) (q0 := 0) rfl rfl) hP hD hS [0, 1] [2, 3] rfl rfl rfl rfl rfl (by decide) rfl hl.1 rfl (Nat.le_of_ble_eq_true rfl) dX7_readTest_83 ⟨Nat.le_of_ble_eq_true rfl, Nat.le_of_ble_eq_true rfl⟩ (fun v_134 u_135 H locs hv_136 hP₀ hD₀ hS₀ => ?_)
              obtain ⟨sv_137, sv_138⟩ := u_135
              obtain ⟨rfl, pf_139, pf_140⟩ := hv_136
              have pf_139 : 0 ≤ (sv_137 : Int32).toInt ∧ (sv_137 : Int32).toInt ≤ 400 := pf_139
              have pf_140 : CdK sv_138 sv_137 ro_130 (ro_132 ++ [((-5) : Int32).toInt]) := pf_140
              rw [show ((-5) : Int32).toInt = -5 by decide] at pf_140
              obtain ⟨ro_141, ero_141⟩ : ∃ z : List Int, z = (ro_132 ++ [-5]) := ⟨_, rfl⟩
              rw [← ero_141] at pf_140
              refine W.eq (g2 := F0 m 86 ls []) rfl ?_
              replace hP : va_P D classes [((Ta 0), .inr (10, [.ref (Ta 1), .int (Tv 0), .int sv_121, .int sv_122, .int sv_123, .int sv_124])), ((Ta 1), .inl (tc 0, 400, .inl (Tf 1))), ((Va 0), .inr (7, [.ref (Va 1), .int sv_137, .int sv_119])), ((Va 1), .inl (tc 0, 400, .inl sv_138))] H := hP₀
              replace hD : va_D A [((Ta 0), .inr (10, [.ref (Ta 1), .int (Tv 0), .int sv_121, .int sv_122, .int sv_123, .int sv_124])), ((Ta 1), .inl (tc 0, 400, .inl (Tf 1))), ((Va 0), .inr (7, [.ref (Va 1), .int sv_137, .int sv_119])), ((Va 1), .inl (tc 0, 400, .inl sv_138))] := hD₀
              replace hS := hS₀
              clear hP₀ hD₀ hS₀
              obtain ⟨x_142, ex_142⟩ : ∃ y : Int32, y = vy_29 + 1 := ⟨_, rfl⟩
              refine lv_iinc (v := x_142) (lv' := [(4, .int x_142), (5, .int r_95), (3, .int vy_37), (0, .ref (Va 0)), (1, .ref (Ta 0)), (2, .int 4)]) hx hb dX7_readTest_86 hl (k := 1) rfl (by rw [ex_142]; rfl) (by decide) rfl (fun ls hl₀ => ?_)
              replace hl := hl₀
              clear hl₀
              refine lv_goto (tgt := 11) hx hb dX7_readTest_89 (by decide) ?_
              have hb_143 : 401 - (x_142 : Int32).toInt < 401 - (vy_29 : Int32).toInt ∧ 1 ≤ 401 - (vy_29 : Int32).toInt := by
                have z_1 := Int32.lt_iff_toInt_lt.mp (Int32.not_le.mp c_56)
                have z_2 : ¬ (r_83 : Int32).toInt = (0 : Int32).toInt := fun z => c_88 (Int32.toInt_inj.mp z)
                have z_3 := congrArg Int32.toInt c_100
                have z_4 := congrArg Int32.toInt c_133
                have y_0 : (0 : Int32).toInt = 0 := by decide
                have y_400 : (400 : Int32).toInt = 400 := by decide
                have y_1 : (1 : Int32).toInt = 1 := by decide
                have t_x_142 : x_142.toInt = (vy_29 : Int32).toInt + (1 : Int32).toInt := by rw [ex_142]; exact add_toInt (by omega) (by omega)
                omega
              have ha_144 : 0 ≤ (x_142 : Int32).toInt ∧ (x_142 : Int32).toInt ≤ 400 := by
                have z_1 := Int32.lt_iff_toInt_lt.mp (Int32.not_le.mp c_56)
                have z_2 : ¬ (r_83 : Int32).toInt = (0 : Int32).toInt := fun z => c_88 (Int32.toInt_inj.mp z)
                have z_3 := congrArg Int32.toInt c_100
                have z_4 := congrArg Int32.toInt c_133
                have y_0 : (0 : Int32).toInt = 0 := by decide
                have y_400 : (400 : Int32).toInt = 400 := by decide
                have y_1 : (1 : Int32).toInt = 1 := by decide
                have t_x_142 : x_142.toInt = (vy_29 : Int32).toInt + (1 : Int32).toInt := by rw [ex_142]; exact add_toInt (by omega) (by omega)
                omega
              have hu_145 : TpR (Tf 1) (Tv 0) (pz_b (rNX (cB (Tf 1) (Tv 0)) rq_47) (pz_fact (cB (Tf 1) (Tv 0)) 6)) sv_121 sv_122 sv_123 sv_124 := by
                rw [← ero_111, ← ero_130]
                exact pf_127
              have hu_146 : Ctd (pz_b (rNX (cB (Tf 1) (Tv 0)) rq_47) (pz_fact (cB (Tf 1) (Tv 0)) 6)) sv_119 := by
                rw [← ero_111, ← ero_130]
                exact pf_128
              have hu_147 : CdK sv_138 sv_137 (pz_b (rNX (cB (Tf 1) (Tv 0)) rq_47) (pz_fact (cB (Tf 1) (Tv 0)) 6)) ((Ap (rNX (cB (Tf 1) (Tv 0)) rq_47) (ec_fact (cB (Tf 1) (Tv 0)) 6) lq_52) ++ [-5]) := by
                rw [← ero_111, ← ero_130, ← ero_132, ← ero_141]
                exact pf_140
              have hi_148 : (x_142 : Int32).toInt = (vy_29 : Int32).toInt + 1 := by
                have z_1 := Int32.lt_iff_toInt_lt.mp (Int32.not_le.mp c_56)
                have z_2 : ¬ (r_83 : Int32).toInt = (0 : Int32).toInt := fun z => c_88 (Int32.toInt_inj.mp z)
                have z_3 := congrArg Int32.toInt c_100
                have z_4 := congrArg Int32.toInt c_133
                have y_0 : (0 : Int32).toInt = 0 := by decide
                have y_400 : (400 : Int32).toInt = 400 := by decide
                have y_1 : (1 : Int32).toInt = 1 := by decide
                have t_x_142 : x_142.toInt = (vy_29 : Int32).toInt + (1 : Int32).toInt := by rw [ex_142]; exact add_toInt (by omega) (by omega)
                omega
              have hw_149 : TWd (cB (Tf 1) (Tv 0)) pz_and rq_47 := by
                rw [← wS5]
                exact pf_89
              exact ih_39 x_142 sv_137 sv_119 sv_138 sv_121 sv_122 sv_123 sv_124 vy_37 _ _ _ (by omega) ha_144 pf_42 pf_125 pf_139 (TeC.and h_tape.2.1 pf_50 pf_51 pf_54 hw_149 hu_145 hu_146 hu_147 hi_148) (hP.sub [2, 3, 0, 1] rfl) (hD.sub [2, 3, 0, 1] rfl rfl) hS (lv_sub hl [0, 2, 3, 4, 5] rfl)
            · skip
              exfalso
              have z_1 := Int32.lt_iff_toInt_lt.mp (Int32.not_le.mp c_56)
              have z_2 : ¬ (r_83 : Int32).toInt = (0 : Int32).toInt := fun z => c_88 (Int32.toInt_inj.mp z)
              have z_3 := congrArg Int32.toInt c_100
              have z_4 : ¬ (r_95 : Int32).toInt = (0 : Int32).toInt := fun z => c_133 (Int32.toInt_inj.mp z)
              have y_0 : (0 : Int32).toInt = 0 := by decide
              have y_400 : (400 : Int32).toInt = 400 := by decide
              omega
          · skip
            have hz_151 : (r_95 : Int32).toInt = 1 := by
              have z_1 := Int32.lt_iff_toInt_lt.mp (Int32.not_le.mp c_56)
              have z_2 : ¬ (r_83 : Int32).toInt = (0 : Int32).toInt := fun z => c_88 (Int32.toInt_inj.mp z)
              have z_3 : ¬ (r_95 : Int32).toInt = (0 : Int32).toInt := fun z => c_100 (Int32.toInt_inj.mp z)
              have y_0 : (0 : Int32).toInt = 0 := by decide
              have y_400 : (400 : Int32).toInt = 400 := by decide
              omega
            obtain pf_150 := hm_98 hz_151
            have pf_150 : TWd (cB (Tf 1) (Tv 0)) (wS (6 : Nat)) rq_47 := pf_150
            refine lv_iload_n hx hb dX7_readTest_50 rfl (lv_at hl 2 rfl) ?_
            refine lv_if_eq (tgt := 60) hx hb dX7_readTest_51 (by decide) (fun c_152 => ?_) (fun c_152 => ?_)
            · skip
              refine lv_aload_n hx hb dX7_readTest_60 rfl (lv_at hl 4 rfl) ?_
              refine cV (a := (Ta 0)) (As := []) (rest := []) (wr := [((Va 0), .inr (7, [.ref (Va 1), .int vy_30, .int vy_31])), ((Va 1), .inl (tc 0, 400, .inl vy_32))]) ⟨hx, hb, hml, hown, hts⟩ hK hX hA (cu_fX10_step l D tc sk (Ta 0) (Ta 1) (Tv 0) vy_33 vy_34 vy_35 vy_36 (Tf 1) (rTE (cB (Tf 1) (Tv 0)) rq_47) pf_43 h_by tb_55) k_478 k_620 k_476 k_477 k_96 pl_X10_step ⟨Nat.le_of_ble_eq_true rfl, Nat.le_of_ble_eq_true rfl⟩ rfl rfl (va_recv hK hP (ci := 10) (q0 := 2) rfl rfl) hP hD hS [2, 3] [0, 1] rfl rfl rfl rfl rfl (by decide) rfl hl.1 rfl (Nat.le_of_ble_eq_true rfl) dX7_readTest_61 ⟨Nat.le_of_ble_eq_true rfl, Nat.le_of_ble_eq_true rfl⟩ (fun v_153 u_154 H locs hv_155 hP₀ hD₀ hS₀ => ?_)
              obtain ⟨sv_156, sv_157, sv_158⟩ := u_154
              obtain ⟨rfl, pf_159, pf_160⟩ := hv_155
              have pf_159 : 0 ≤ ((Tv 0) : Int32).toInt ∧ ((Tv 0) : Int32).toInt ≤ 400 ∧ 0 ≤ (sv_156 : Int32).toInt ∧ (sv_156 : Int32).toInt ≤ 400 ∧ 0 ≤ (sv_157 : Int32).toInt ∧ (sv_157 : Int32).toInt ≤ 400 := pf_159
              have pf_160 : TpR (Tf 1) (Tv 0) (rSK (cB (Tf 1) (Tv 0)) (rTE (cB (Tf 1) (Tv 0)) rq_47)) sv_156 sv_157 sv_158 vy_36 := pf_160
              rw [rNX_eq] at pf_160
              obtain ⟨ro_161, ero_161⟩ : ∃ z : Except Int (Nat × Nat), z = (rNX (cB (Tf 1) (Tv 0)) rq_47) := ⟨_, rfl⟩
              rw [← ero_161] at pf_160
              have tb_162 : TpB (rTE (cB (Tf 1) (Tv 0)) ro_161) sv_157 vy_36 := TpR.tb pf_160
              have cd_163 : Ctd ro_161 vy_31 := by rw [ero_161]; exact (Ctd.nx pf_49)
              have ck_164 : CdK vy_32 vy_30 ro_161 lq_52 := by rw [ero_161]; exact (CdK.nx pf_53)
              refine W.eq (g2 := F0 m 64 ls []) rfl ?_
              replace hP : va_P D classes [((Va 0), .inr (7, [.ref (Va 1), .int vy_30, .int vy_31])), ((Va 1), .inl (tc 0, 400, .inl vy_32)), ((Ta 0), .inr (10, [.ref (Ta 1), .int (Tv 0), .int sv_156, .int sv_157, .int sv_158, .int vy_36])), ((Ta 1), .inl (tc 0, 400, .inl (Tf 1)))] H := hP₀
              replace hD : va_D A [((Va 0), .inr (7, [.ref (Va 1), .int vy_30, .int vy_31])), ((Va 1), .inl (tc 0, 400, .inl vy_32)), ((Ta 0), .inr (10, [.ref (Ta 1), .int (Tv 0), .int sv_156, .int sv_157, .int sv_158, .int vy_36])), ((Ta 1), .inl (tc 0, 400, .inl (Tf 1)))] := hD₀
              replace hS := hS₀
              clear hP₀ hD₀ hS₀
              refine lv_aload_n hx hb dX7_readTest_64 rfl (lv_at hl 3 rfl) ?_
              refine lv_aload_n hx hb dX7_readTest_65 rfl (lv_at hl 4 rfl) ?_
              refine lv_iload_n hx hb dX7_readTest_66 rfl (lv_at hl 5 rfl) ?_
              refine cV (a := (Va 0)) (As := [.ref (Ta 0), .int 4]) (rest := []) (wr := []) ⟨hx, hb, hml, hown, hts⟩ hK hX hA (cu_kX7_readFact_4 l D tc sk (Va 0) (Va 1) vy_30 vy_31 vy_32 (Ta 0) (Ta 1) (Tv 0) sv_156 sv_157 sv_158 vy_36 (Tf 1) ro_161 lq_52 pf_159 pf_44 h_by pf_160 cd_163 ck_164) k_659 k_656 k_658 k_12 k_99 pl_X7_readFact ⟨Nat.le_of_ble_eq_true rfl, Nat.le_of_ble_eq_true rfl⟩ rfl rfl (va_recv hK hP (ci := 7) (q0 := 0) rfl rfl) hP hD hS [0, 1, 2, 3] [] rfl rfl rfl rfl rfl (by decide) rfl hl.1 rfl (Nat.le_of_ble_eq_true rfl) dX7_readTest_67 ⟨Nat.le_of_ble_eq_true rfl, Nat.le_of_ble_eq_true rfl⟩ (fun v_165 u_166 H locs hv_167 hP₀ hD₀ hS₀ => ?_)
              obtain ⟨sv_168, sv_169, sv_170, sv_171, sv_172, sv_173, sv_174⟩ := u_166
              obtain ⟨rfl, pf_175, pf_176, pf_177, pf_178, pf_179⟩ := hv_167
              have pf_175 : 0 ≤ ((Tv 0) : Int32).toInt ∧ ((Tv 0) : Int32).toInt ≤ 400 ∧ 0 ≤ (sv_171 : Int32).toInt ∧ (sv_171 : Int32).toInt ≤ 400 ∧ 0 ≤ (sv_172 : Int32).toInt ∧ (sv_172 : Int32).toInt ≤ 400 := pf_175
              have pf_176 : 0 ≤ (sv_168 : Int32).toInt ∧ (sv_168 : Int32).toInt ≤ 400 := pf_176
              have pf_177 : TpR (Tf 1) (Tv 0) (pz_b ro_161 (pz_fact (cB (Tf 1) (Tv 0)) 6)) sv_171 sv_172 sv_173 sv_174 := pf_177
              obtain ⟨ro_180, ero_180⟩ : ∃ z : Except Int (Nat × Nat), z = (pz_b ro_161 (pz_fact (cB (Tf 1) (Tv 0)) 6)) := ⟨_, rfl⟩
              rw [← ero_180] at pf_177
              have tb_181 : TpB (rTE (cB (Tf 1) (Tv 0)) ro_180) sv_172 sv_174 := TpR.tb pf_177
              have pf_178 : Ctd (pz_b ro_161 (pz_fact (cB (Tf 1) (Tv 0)) 6)) sv_169 := pf_178
              rw [← ero_180] at pf_178
              have pf_179 : CdK sv_170 sv_168 (pz_b ro_161 (pz_fact (cB (Tf 1) (Tv 0)) 6)) (Ap ro_161 (ec_fact (cB (Tf 1) (Tv 0)) 6) lq_52) := pf_179
              rw [← ero_180] at pf_179
              obtain ⟨ro_182, ero_182⟩ : ∃ z : List Int, z = (Ap ro_161 (ec_fact (cB (Tf 1) (Tv 0)) 6) lq_52) := ⟨_, rfl⟩
              rw [← ero_182] at pf_179
              refine W.eq (g2 := F0 m 70 ls []) rfl ?_
              replace hP : va_P D classes [((Va 0), .inr (7, [.ref (Va 1), .int sv_168, .int sv_169])), ((Va 1), .inl (tc 0, 400, .inl sv_170)), ((Ta 0), .inr (10, [.ref (Ta 1), .int (Tv 0), .int sv_171, .int sv_172, .int sv_173, .int sv_174])), ((Ta 1), .inl (tc 0, 400, .inl (Tf 1)))] H := hP₀
              replace hD : va_D A [((Va 0), .inr (7, [.ref (Va 1), .int sv_168, .int sv_169])), ((Va 1), .inl (tc 0, 400, .inl sv_170)), ((Ta 0), .inr (10, [.ref (Ta 1), .int (Tv 0), .int sv_171, .int sv_172, .int sv_173, .int sv_174])), ((Ta 1), .inl (tc 0, 400, .inl (Tf 1)))] := hD₀
              replace hS := hS₀
              clear hP₀ hD₀ hS₀
              refine lv_iload hx hb dX7_readTest_70 (lv_at hl 0 rfl) ?_
              refine lv_if_eq (tgt := 80) hx hb dX7_readTest_72 (by decide) (fun c_183 => ?_) (fun c_183 => ?_)
              · skip
                exfalso
                have z_1 := Int32.lt_iff_toInt_lt.mp (Int32.not_le.mp c_56)
                have z_2 : ¬ (r_83 : Int32).toInt = (0 : Int32).toInt := fun z => c_88 (Int32.toInt_inj.mp z)
                have z_3 : ¬ (r_95 : Int32).toInt = (0 : Int32).toInt := fun z => c_100 (Int32.toInt_inj.mp z)
                have z_4 := congrArg Int32.toInt c_152
                have z_5 := congrArg Int32.toInt c_183
                have y_0 : (0 : Int32).toInt = 0 := by decide
                have y_400 : (400 : Int32).toInt = 400 := by decide
                omega
              · skip
                refine lv_iconst (v := 1) hx hb dX7_readTest_75 (by decide) ?_
                refine lv_istore_n (lv' := [(3, .int 1), (5, .int r_95), (4, .int vy_29), (0, .ref (Va 0)), (1, .ref (Ta 0)), (2, .int 4)]) hx hb dX7_readTest_76 rfl hl (by decide) rfl (fun ls hl₀ => ?_)
                replace hl := hl₀
                clear hl₀
                refine lv_goto (tgt := 86) hx hb dX7_readTest_77 (by decide) ?_
                obtain ⟨x_184, ex_184⟩ : ∃ y : Int32, y = vy_29 + 1 := ⟨_, rfl⟩
                refine lv_iinc (v := x_184) (lv' := [(4, .int x_184), (3, .int 1), (5, .int r_95), (0, .ref (Va 0)), (1, .ref (Ta 0)), (2, .int 4)]) hx hb dX7_readTest_86 hl (k := 2) rfl (by rw [ex_184]; rfl) (by decide) rfl (fun ls hl₀ => ?_)
                replace hl := hl₀
                clear hl₀
                refine lv_goto (tgt := 11) hx hb dX7_readTest_89 (by decide) ?_
                have hb_185 : 401 - (x_184 : Int32).toInt < 401 - (vy_29 : Int32).toInt ∧ 1 ≤ 401 - (vy_29 : Int32).toInt := by
                  have z_1 := Int32.lt_iff_toInt_lt.mp (Int32.not_le.mp c_56)
                  have z_2 : ¬ (r_83 : Int32).toInt = (0 : Int32).toInt := fun z => c_88 (Int32.toInt_inj.mp z)
                  have z_3 : ¬ (r_95 : Int32).toInt = (0 : Int32).toInt := fun z => c_100 (Int32.toInt_inj.mp z)
                  have z_4 := congrArg Int32.toInt c_152
                  have z_5 : ¬ (r_95 : Int32).toInt = (0 : Int32).toInt := fun z => c_183 (Int32.toInt_inj.mp z)
                  have y_0 : (0 : Int32).toInt = 0 := by decide
                  have y_400 : (400 : Int32).toInt = 400 := by decide
                  have y_1 : (1 : Int32).toInt = 1 := by decide
                  have t_x_184 : x_184.toInt = (vy_29 : Int32).toInt + (1 : Int32).toInt := by rw [ex_184]; exact add_toInt (by omega) (by omega)
                  omega
                have ha_186 : 0 ≤ (x_184 : Int32).toInt ∧ (x_184 : Int32).toInt ≤ 400 := by
                  have z_1 := Int32.lt_iff_toInt_lt.mp (Int32.not_le.mp c_56)
                  have z_2 : ¬ (r_83 : Int32).toInt = (0 : Int32).toInt := fun z => c_88 (Int32.toInt_inj.mp z)
                  have z_3 : ¬ (r_95 : Int32).toInt = (0 : Int32).toInt := fun z => c_100 (Int32.toInt_inj.mp z)
                  have z_4 := congrArg Int32.toInt c_152
                  have z_5 : ¬ (r_95 : Int32).toInt = (0 : Int32).toInt := fun z => c_183 (Int32.toInt_inj.mp z)
                  have y_0 : (0 : Int32).toInt = 0 := by decide
                  have y_400 : (400 : Int32).toInt = 400 := by decide
                  have y_1 : (1 : Int32).toInt = 1 := by decide
                  have t_x_184 : x_184.toInt = (vy_29 : Int32).toInt + (1 : Int32).toInt := by rw [ex_184]; exact add_toInt (by omega) (by omega)
                  omega
                have ha_187 : 0 ≤ (1 : Int32).toInt ∧ (1 : Int32).toInt ≤ 1 := by
                  have z_1 := Int32.lt_iff_toInt_lt.mp (Int32.not_le.mp c_56)
                  have z_2 : ¬ (r_83 : Int32).toInt = (0 : Int32).toInt := fun z => c_88 (Int32.toInt_inj.mp z)
                  have z_3 : ¬ (r_95 : Int32).toInt = (0 : Int32).toInt := fun z => c_100 (Int32.toInt_inj.mp z)
                  have z_4 := congrArg Int32.toInt c_152
                  have z_5 : ¬ (r_95 : Int32).toInt = (0 : Int32).toInt := fun z => c_183 (Int32.toInt_inj.mp z)
                  have y_0 : (0 : Int32).toInt = 0 := by decide
                  have y_400 : (400 : Int32).toInt = 400 := by decide
                  have y_1 : (1 : Int32).toInt = 1 := by decide
                  omega
                have hu_188 : TpR (Tf 1) (Tv 0) (pz_b (rNX (cB (Tf 1) (Tv 0)) rq_47) (pz_fact (cB (Tf 1) (Tv 0)) 6)) sv_171 sv_172 sv_173 sv_174 := by
                  rw [← ero_161, ← ero_180]
                  exact pf_177
                have hu_189 : Ctd (pz_b (rNX (cB (Tf 1) (Tv 0)) rq_47) (pz_fact (cB (Tf 1) (Tv 0)) 6)) sv_169 := by
                  rw [← ero_161, ← ero_180]
                  exact pf_178
                have hu_190 : CdK sv_170 sv_168 (pz_b (rNX (cB (Tf 1) (Tv 0)) rq_47) (pz_fact (cB (Tf 1) (Tv 0)) 6)) (Ap (rNX (cB (Tf 1) (Tv 0)) rq_47) (ec_fact (cB (Tf 1) (Tv 0)) 6) lq_52) := by
                  rw [← ero_161, ← ero_180, ← ero_182]
                  exact pf_179
                have hi_191 : (x_184 : Int32).toInt = (vy_29 : Int32).toInt + 1 := by
                  have z_1 := Int32.lt_iff_toInt_lt.mp (Int32.not_le.mp c_56)
                  have z_2 : ¬ (r_83 : Int32).toInt = (0 : Int32).toInt := fun z => c_88 (Int32.toInt_inj.mp z)
                  have z_3 : ¬ (r_95 : Int32).toInt = (0 : Int32).toInt := fun z => c_100 (Int32.toInt_inj.mp z)
                  have z_4 := congrArg Int32.toInt c_152
                  have z_5 : ¬ (r_95 : Int32).toInt = (0 : Int32).toInt := fun z => c_183 (Int32.toInt_inj.mp z)
                  have y_0 : (0 : Int32).toInt = 0 := by decide
                  have y_400 : (400 : Int32).toInt = 400 := by decide
                  have y_1 : (1 : Int32).toInt = 1 := by decide
                  have t_x_184 : x_184.toInt = (vy_29 : Int32).toInt + (1 : Int32).toInt := by rw [ex_184]; exact add_toInt (by omega) (by omega)
                  omega
                have hr_192 : (vy_37 : Int32).toInt = 0 := by
                  have z_1 := Int32.lt_iff_toInt_lt.mp (Int32.not_le.mp c_56)
                  have z_2 : ¬ (r_83 : Int32).toInt = (0 : Int32).toInt := fun z => c_88 (Int32.toInt_inj.mp z)
                  have z_3 : ¬ (r_95 : Int32).toInt = (0 : Int32).toInt := fun z => c_100 (Int32.toInt_inj.mp z)
                  have z_4 := congrArg Int32.toInt c_152
                  have z_5 : ¬ (r_95 : Int32).toInt = (0 : Int32).toInt := fun z => c_183 (Int32.toInt_inj.mp z)
                  have y_0 : (0 : Int32).toInt = 0 := by decide
                  have y_400 : (400 : Int32).toInt = 400 := by decide
                  omega
                have hr_193 : (1 : Int32).toInt = 1 := by
                  have z_1 := Int32.lt_iff_toInt_lt.mp (Int32.not_le.mp c_56)
                  have z_2 : ¬ (r_83 : Int32).toInt = (0 : Int32).toInt := fun z => c_88 (Int32.toInt_inj.mp z)
                  have z_3 : ¬ (r_95 : Int32).toInt = (0 : Int32).toInt := fun z => c_100 (Int32.toInt_inj.mp z)
                  have z_4 := congrArg Int32.toInt c_152
                  have z_5 : ¬ (r_95 : Int32).toInt = (0 : Int32).toInt := fun z => c_183 (Int32.toInt_inj.mp z)
                  have y_0 : (0 : Int32).toInt = 0 := by decide
                  have y_400 : (400 : Int32).toInt = 400 := by decide
                  have y_1 : (1 : Int32).toInt = 1 := by decide
                  omega
                have hw_194 : TWd (cB (Tf 1) (Tv 0)) pz_or rq_47 := by
                  rw [← wS6]
                  exact pf_150
                exact ih_39 x_184 sv_168 sv_169 sv_170 sv_171 sv_172 sv_173 sv_174 1 _ _ _ (by omega) ha_186 ha_187 pf_175 pf_176 (TeC.or0 h_tape.2.1 pf_50 pf_51 pf_54 hr_192 hr_193 hw_194 hu_188 hu_189 hu_190 hi_191) (hP.sub [0, 1, 2, 3] rfl) (hD.sub [0, 1, 2, 3] rfl rfl) hS (lv_sub hl [0, 1, 3, 4, 5] rfl)
            · skip
              refine lv_aload_n hx hb dX7_readTest_54 rfl (lv_at hl 3 rfl) ?_
              refine lv_bipush (v := (-6)) hx hb dX7_readTest_55 (by decide) ?_
              refine cV (a := (Va 0)) (As := [.int (-6)]) (rest := []) (wr := [((Ta 0), .inr (10, [.ref (Ta 1), .int (Tv 0), .int vy_33, .int vy_34, .int vy_35, .int vy_36])), ((Ta 1), .inl (tc 0, 400, .inl (Tf 1)))]) ⟨hx, hb, hml, hown, hts⟩ hK hX hA (cu_kX7_put l D tc sk (Va 0) (Va 1) vy_30 vy_31 vy_32 (-6) rq_47 lq_52 pf_44 pf_53) k_642 k_639 k_641 k_10 k_99 pl_X7_put ⟨Nat.le_of_ble_eq_true rfl, Nat.le_of_ble_eq_true rfl⟩ rfl rfl (va_recv hK hP (ci := 7) (q0 := 0) rfl rfl) hP hD hS [0, 1] [2, 3] rfl rfl rfl rfl rfl (by decide) rfl hl.1 rfl (Nat.le_of_ble_eq_true rfl) dX7_readTest_57 ⟨Nat.le_of_ble_eq_true rfl, Nat.le_of_ble_eq_true rfl⟩ (fun v_195 u_196 H locs hv_197 hP₀ hD₀ hS₀ => ?_)
              obtain ⟨sv_198, sv_199⟩ := u_196
              obtain ⟨rfl, pf_200, pf_201⟩ := hv_197
              have pf_200 : 0 ≤ (sv_198 : Int32).toInt ∧ (sv_198 : Int32).toInt ≤ 400 := pf_200
              have pf_201 : CdK sv_199 sv_198 rq_47 (lq_52 ++ [((-6) : Int32).toInt]) := pf_201
              rw [show ((-6) : Int32).toInt = -6 by decide] at pf_201
              obtain ⟨ro_202, ero_202⟩ : ∃ z : List Int, z = (lq_52 ++ [-6]) := ⟨_, rfl⟩
              rw [← ero_202] at pf_201
              refine W.eq (g2 := F0 m 60 ls []) rfl ?_
              replace hP : va_P D classes [((Ta 0), .inr (10, [.ref (Ta 1), .int (Tv 0), .int vy_33, .int vy_34, .int vy_35, .int vy_36])), ((Ta 1), .inl (tc 0, 400, .inl (Tf 1))), ((Va 0), .inr (7, [.ref (Va 1), .int sv_198, .int vy_31])), ((Va 1), .inl (tc 0, 400, .inl sv_199))] H := hP₀
              replace hD : va_D A [((Ta 0), .inr (10, [.ref (Ta 1), .int (Tv 0), .int vy_33, .int vy_34, .int vy_35, .int vy_36])), ((Ta 1), .inl (tc 0, 400, .inl (Tf 1))), ((Va 0), .inr (7, [.ref (Va 1), .int sv_198, .int vy_31])), ((Va 1), .inl (tc 0, 400, .inl sv_199))] := hD₀
              replace hS := hS₀
              clear hP₀ hD₀ hS₀
              refine lv_aload_n hx hb dX7_readTest_60 rfl (lv_at hl 4 rfl) ?_
              refine cV (a := (Ta 0)) (As := []) (rest := []) (wr := [((Va 0), .inr (7, [.ref (Va 1), .int sv_198, .int vy_31])), ((Va 1), .inl (tc 0, 400, .inl sv_199))]) ⟨hx, hb, hml, hown, hts⟩ hK hX hA (cu_fX10_step l D tc sk (Ta 0) (Ta 1) (Tv 0) vy_33 vy_34 vy_35 vy_36 (Tf 1) (rTE (cB (Tf 1) (Tv 0)) rq_47) pf_43 h_by tb_55) k_478 k_620 k_476 k_477 k_96 pl_X10_step ⟨Nat.le_of_ble_eq_true rfl, Nat.le_of_ble_eq_true rfl⟩ rfl rfl (va_recv hK hP (ci := 10) (q0 := 0) rfl rfl) hP hD hS [0, 1] [2, 3] rfl rfl rfl rfl rfl (by decide) rfl hl.1 rfl (Nat.le_of_ble_eq_true rfl) dX7_readTest_61 ⟨Nat.le_of_ble_eq_true rfl, Nat.le_of_ble_eq_true rfl⟩ (fun v_203 u_204 H locs hv_205 hP₀ hD₀ hS₀ => ?_)
              obtain ⟨sv_206, sv_207, sv_208⟩ := u_204
              obtain ⟨rfl, pf_209, pf_210⟩ := hv_205
              have pf_209 : 0 ≤ ((Tv 0) : Int32).toInt ∧ ((Tv 0) : Int32).toInt ≤ 400 ∧ 0 ≤ (sv_206 : Int32).toInt ∧ (sv_206 : Int32).toInt ≤ 400 ∧ 0 ≤ (sv_207 : Int32).toInt ∧ (sv_207 : Int32).toInt ≤ 400 := pf_209
              have pf_210 : TpR (Tf 1) (Tv 0) (rSK (cB (Tf 1) (Tv 0)) (rTE (cB (Tf 1) (Tv 0)) rq_47)) sv_206 sv_207 sv_208 vy_36 := pf_210
              rw [rNX_eq] at pf_210
              obtain ⟨ro_211, ero_211⟩ : ∃ z : Except Int (Nat × Nat), z = (rNX (cB (Tf 1) (Tv 0)) rq_47) := ⟨_, rfl⟩
              rw [← ero_211] at pf_210
              have tb_212 : TpB (rTE (cB (Tf 1) (Tv 0)) ro_211) sv_207 vy_36 := TpR.tb pf_210
              have cd_213 : Ctd ro_211 vy_31 := by rw [ero_211]; exact (Ctd.nx pf_49)
              have ck_214 : CdK sv_199 sv_198 ro_211 ro_202 := by rw [ero_211]; exact (CdK.nx pf_201)
              refine W.eq (g2 := F0 m 64 ls []) rfl ?_
              replace hP : va_P D classes [((Va 0), .inr (7, [.ref (Va 1), .int sv_198, .int vy_31])), ((Va 1), .inl (tc 0, 400, .inl sv_199)), ((Ta 0), .inr (10, [.ref (Ta 1), .int (Tv 0), .int sv_206, .int sv_207, .int sv_208, .int vy_36])), ((Ta 1), .inl (tc 0, 400, .inl (Tf 1)))] H := hP₀
              replace hD : va_D A [((Va 0), .inr (7, [.ref (Va 1), .int sv_198, .int vy_31])), ((Va 1), .inl (tc 0, 400, .inl sv_199)), ((Ta 0), .inr (10, [.ref (Ta 1), .int (Tv 0), .int sv_206, .int sv_207, .int sv_208, .int vy_36])), ((Ta 1), .inl (tc 0, 400, .inl (Tf 1)))] := hD₀
              replace hS := hS₀
              clear hP₀ hD₀ hS₀
              refine lv_aload_n hx hb dX7_readTest_64 rfl (lv_at hl 3 rfl) ?_
              refine lv_aload_n hx hb dX7_readTest_65 rfl (lv_at hl 4 rfl) ?_
              refine lv_iload_n hx hb dX7_readTest_66 rfl (lv_at hl 5 rfl) ?_
              refine cV (a := (Va 0)) (As := [.ref (Ta 0), .int 4]) (rest := []) (wr := []) ⟨hx, hb, hml, hown, hts⟩ hK hX hA (cu_kX7_readFact_4 l D tc sk (Va 0) (Va 1) sv_198 vy_31 sv_199 (Ta 0) (Ta 1) (Tv 0) sv_206 sv_207 sv_208 vy_36 (Tf 1) ro_211 ro_202 pf_209 pf_200 h_by pf_210 cd_213 ck_214) k_659 k_656 k_658 k_12 k_99 pl_X7_readFact ⟨Nat.le_of_ble_eq_true rfl, Nat.le_of_ble_eq_true rfl⟩ rfl rfl (va_recv hK hP (ci := 7) (q0 := 0) rfl rfl) hP hD hS [0, 1, 2, 3] [] rfl rfl rfl rfl rfl (by decide) rfl hl.1 rfl (Nat.le_of_ble_eq_true rfl) dX7_readTest_67 ⟨Nat.le_of_ble_eq_true rfl, Nat.le_of_ble_eq_true rfl⟩ (fun v_215 u_216 H locs hv_217 hP₀ hD₀ hS₀ => ?_)
              obtain ⟨sv_218, sv_219, sv_220, sv_221, sv_222, sv_223, sv_224⟩ := u_216
              obtain ⟨rfl, pf_225, pf_226, pf_227, pf_228, pf_229⟩ := hv_217
              have pf_225 : 0 ≤ ((Tv 0) : Int32).toInt ∧ ((Tv 0) : Int32).toInt ≤ 400 ∧ 0 ≤ (sv_221 : Int32).toInt ∧ (sv_221 : Int32).toInt ≤ 400 ∧ 0 ≤ (sv_222 : Int32).toInt ∧ (sv_222 : Int32).toInt ≤ 400 := pf_225
              have pf_226 : 0 ≤ (sv_218 : Int32).toInt ∧ (sv_218 : Int32).toInt ≤ 400 := pf_226
              have pf_227 : TpR (Tf 1) (Tv 0) (pz_b ro_211 (pz_fact (cB (Tf 1) (Tv 0)) 6)) sv_221 sv_222 sv_223 sv_224 := pf_227
              obtain ⟨ro_230, ero_230⟩ : ∃ z : Except Int (Nat × Nat), z = (pz_b ro_211 (pz_fact (cB (Tf 1) (Tv 0)) 6)) := ⟨_, rfl⟩
              rw [← ero_230] at pf_227
              have tb_231 : TpB (rTE (cB (Tf 1) (Tv 0)) ro_230) sv_222 sv_224 := TpR.tb pf_227
              have pf_228 : Ctd (pz_b ro_211 (pz_fact (cB (Tf 1) (Tv 0)) 6)) sv_219 := pf_228
              rw [← ero_230] at pf_228
              have pf_229 : CdK sv_220 sv_218 (pz_b ro_211 (pz_fact (cB (Tf 1) (Tv 0)) 6)) (Ap ro_211 (ec_fact (cB (Tf 1) (Tv 0)) 6) ro_202) := pf_229
              rw [← ero_230] at pf_229
              obtain ⟨ro_232, ero_232⟩ : ∃ z : List Int, z = (Ap ro_211 (ec_fact (cB (Tf 1) (Tv 0)) 6) ro_202) := ⟨_, rfl⟩
              rw [← ero_232] at pf_229
              refine W.eq (g2 := F0 m 70 ls []) rfl ?_
              replace hP : va_P D classes [((Va 0), .inr (7, [.ref (Va 1), .int sv_218, .int sv_219])), ((Va 1), .inl (tc 0, 400, .inl sv_220)), ((Ta 0), .inr (10, [.ref (Ta 1), .int (Tv 0), .int sv_221, .int sv_222, .int sv_223, .int sv_224])), ((Ta 1), .inl (tc 0, 400, .inl (Tf 1)))] H := hP₀
              replace hD : va_D A [((Va 0), .inr (7, [.ref (Va 1), .int sv_218, .int sv_219])), ((Va 1), .inl (tc 0, 400, .inl sv_220)), ((Ta 0), .inr (10, [.ref (Ta 1), .int (Tv 0), .int sv_221, .int sv_222, .int sv_223, .int sv_224])), ((Ta 1), .inl (tc 0, 400, .inl (Tf 1)))] := hD₀
              replace hS := hS₀
              clear hP₀ hD₀ hS₀
              refine lv_iload hx hb dX7_readTest_70 (lv_at hl 0 rfl) ?_
              refine lv_if_eq (tgt := 80) hx hb dX7_readTest_72 (by decide) (fun c_233 => ?_) (fun c_233 => ?_)
              · skip
                exfalso
                have z_1 := Int32.lt_iff_toInt_lt.mp (Int32.not_le.mp c_56)
                have z_2 : ¬ (r_83 : Int32).toInt = (0 : Int32).toInt := fun z => c_88 (Int32.toInt_inj.mp z)
                have z_3 : ¬ (r_95 : Int32).toInt = (0 : Int32).toInt := fun z => c_100 (Int32.toInt_inj.mp z)
                have z_4 : ¬ (vy_37 : Int32).toInt = (0 : Int32).toInt := fun z => c_152 (Int32.toInt_inj.mp z)
                have z_5 := congrArg Int32.toInt c_233
                have y_0 : (0 : Int32).toInt = 0 := by decide
                have y_400 : (400 : Int32).toInt = 400 := by decide
                omega
              · skip
                refine lv_iconst (v := 1) hx hb dX7_readTest_75 (by decide) ?_
                refine lv_istore_n (lv' := [(3, .int 1), (5, .int r_95), (4, .int vy_29), (0, .ref (Va 0)), (1, .ref (Ta 0)), (2, .int 4)]) hx hb dX7_readTest_76 rfl hl (by decide) rfl (fun ls hl₀ => ?_)
                replace hl := hl₀
                clear hl₀
                refine lv_goto (tgt := 86) hx hb dX7_readTest_77 (by decide) ?_
                obtain ⟨x_234, ex_234⟩ : ∃ y : Int32, y = vy_29 + 1 := ⟨_, rfl⟩
                refine lv_iinc (v := x_234) (lv' := [(4, .int x_234), (3, .int 1), (5, .int r_95), (0, .ref (Va 0)), (1, .ref (Ta 0)), (2, .int 4)]) hx hb dX7_readTest_86 hl (k := 2) rfl (by rw [ex_234]; rfl) (by decide) rfl (fun ls hl₀ => ?_)
                replace hl := hl₀
                clear hl₀
                refine lv_goto (tgt := 11) hx hb dX7_readTest_89 (by decide) ?_
                have hb_235 : 401 - (x_234 : Int32).toInt < 401 - (vy_29 : Int32).toInt ∧ 1 ≤ 401 - (vy_29 : Int32).toInt := by
                  have z_1 := Int32.lt_iff_toInt_lt.mp (Int32.not_le.mp c_56)
                  have z_2 : ¬ (r_83 : Int32).toInt = (0 : Int32).toInt := fun z => c_88 (Int32.toInt_inj.mp z)
                  have z_3 : ¬ (r_95 : Int32).toInt = (0 : Int32).toInt := fun z => c_100 (Int32.toInt_inj.mp z)
                  have z_4 : ¬ (vy_37 : Int32).toInt = (0 : Int32).toInt := fun z => c_152 (Int32.toInt_inj.mp z)
                  have z_5 : ¬ (r_95 : Int32).toInt = (0 : Int32).toInt := fun z => c_233 (Int32.toInt_inj.mp z)
                  have y_0 : (0 : Int32).toInt = 0 := by decide
                  have y_400 : (400 : Int32).toInt = 400 := by decide
                  have y_1 : (1 : Int32).toInt = 1 := by decide
                  have t_x_234 : x_234.toInt = (vy_29 : Int32).toInt + (1 : Int32).toInt := by rw [ex_234]; exact add_toInt (by omega) (by omega)
                  omega
                have ha_236 : 0 ≤ (x_234 : Int32).toInt ∧ (x_234 : Int32).toInt ≤ 400 := by
                  have z_1 := Int32.lt_iff_toInt_lt.mp (Int32.not_le.mp c_56)
                  have z_2 : ¬ (r_83 : Int32).toInt = (0 : Int32).toInt := fun z => c_88 (Int32.toInt_inj.mp z)
                  have z_3 : ¬ (r_95 : Int32).toInt = (0 : Int32).toInt := fun z => c_100 (Int32.toInt_inj.mp z)
                  have z_4 : ¬ (vy_37 : Int32).toInt = (0 : Int32).toInt := fun z => c_152 (Int32.toInt_inj.mp z)
                  have z_5 : ¬ (r_95 : Int32).toInt = (0 : Int32).toInt := fun z => c_233 (Int32.toInt_inj.mp z)
                  have y_0 : (0 : Int32).toInt = 0 := by decide
                  have y_400 : (400 : Int32).toInt = 400 := by decide
                  have y_1 : (1 : Int32).toInt = 1 := by decide
                  have t_x_234 : x_234.toInt = (vy_29 : Int32).toInt + (1 : Int32).toInt := by rw [ex_234]; exact add_toInt (by omega) (by omega)
                  omega
                have ha_237 : 0 ≤ (1 : Int32).toInt ∧ (1 : Int32).toInt ≤ 1 := by
                  have z_1 := Int32.lt_iff_toInt_lt.mp (Int32.not_le.mp c_56)
                  have z_2 : ¬ (r_83 : Int32).toInt = (0 : Int32).toInt := fun z => c_88 (Int32.toInt_inj.mp z)
                  have z_3 : ¬ (r_95 : Int32).toInt = (0 : Int32).toInt := fun z => c_100 (Int32.toInt_inj.mp z)
                  have z_4 : ¬ (vy_37 : Int32).toInt = (0 : Int32).toInt := fun z => c_152 (Int32.toInt_inj.mp z)
                  have z_5 : ¬ (r_95 : Int32).toInt = (0 : Int32).toInt := fun z => c_233 (Int32.toInt_inj.mp z)
                  have y_0 : (0 : Int32).toInt = 0 := by decide
                  have y_400 : (400 : Int32).toInt = 400 := by decide
                  have y_1 : (1 : Int32).toInt = 1 := by decide
                  omega
                have hu_238 : TpR (Tf 1) (Tv 0) (pz_b (rNX (cB (Tf 1) (Tv 0)) rq_47) (pz_fact (cB (Tf 1) (Tv 0)) 6)) sv_221 sv_222 sv_223 sv_224 := by
                  rw [← ero_211, ← ero_230]
                  exact pf_227
                have hu_239 : Ctd (pz_b (rNX (cB (Tf 1) (Tv 0)) rq_47) (pz_fact (cB (Tf 1) (Tv 0)) 6)) sv_219 := by
                  rw [← ero_211, ← ero_230]
                  exact pf_228
                have hu_240 : CdK sv_220 sv_218 (pz_b (rNX (cB (Tf 1) (Tv 0)) rq_47) (pz_fact (cB (Tf 1) (Tv 0)) 6)) (Ap (rNX (cB (Tf 1) (Tv 0)) rq_47) (ec_fact (cB (Tf 1) (Tv 0)) 6) (lq_52 ++ [-6])) := by
                  rw [← ero_202, ← ero_211, ← ero_230, ← ero_232]
                  exact pf_229
                have hi_241 : (x_234 : Int32).toInt = (vy_29 : Int32).toInt + 1 := by
                  have z_1 := Int32.lt_iff_toInt_lt.mp (Int32.not_le.mp c_56)
                  have z_2 : ¬ (r_83 : Int32).toInt = (0 : Int32).toInt := fun z => c_88 (Int32.toInt_inj.mp z)
                  have z_3 : ¬ (r_95 : Int32).toInt = (0 : Int32).toInt := fun z => c_100 (Int32.toInt_inj.mp z)
                  have z_4 : ¬ (vy_37 : Int32).toInt = (0 : Int32).toInt := fun z => c_152 (Int32.toInt_inj.mp z)
                  have z_5 : ¬ (r_95 : Int32).toInt = (0 : Int32).toInt := fun z => c_233 (Int32.toInt_inj.mp z)
                  have y_0 : (0 : Int32).toInt = 0 := by decide
                  have y_400 : (400 : Int32).toInt = 400 := by decide
                  have y_1 : (1 : Int32).toInt = 1 := by decide
                  have t_x_234 : x_234.toInt = (vy_29 : Int32).toInt + (1 : Int32).toInt := by rw [ex_234]; exact add_toInt (by omega) (by omega)
                  omega
                have hr_242 : (vy_37 : Int32).toInt = 1 := by
                  have z_1 := Int32.lt_iff_toInt_lt.mp (Int32.not_le.mp c_56)
                  have z_2 : ¬ (r_83 : Int32).toInt = (0 : Int32).toInt := fun z => c_88 (Int32.toInt_inj.mp z)
                  have z_3 : ¬ (r_95 : Int32).toInt = (0 : Int32).toInt := fun z => c_100 (Int32.toInt_inj.mp z)
                  have z_4 : ¬ (vy_37 : Int32).toInt = (0 : Int32).toInt := fun z => c_152 (Int32.toInt_inj.mp z)
                  have z_5 : ¬ (r_95 : Int32).toInt = (0 : Int32).toInt := fun z => c_233 (Int32.toInt_inj.mp z)
                  have y_0 : (0 : Int32).toInt = 0 := by decide
                  have y_400 : (400 : Int32).toInt = 400 := by decide
                  omega
                have hr_243 : (1 : Int32).toInt = 1 := by
                  have z_1 := Int32.lt_iff_toInt_lt.mp (Int32.not_le.mp c_56)
                  have z_2 : ¬ (r_83 : Int32).toInt = (0 : Int32).toInt := fun z => c_88 (Int32.toInt_inj.mp z)
                  have z_3 : ¬ (r_95 : Int32).toInt = (0 : Int32).toInt := fun z => c_100 (Int32.toInt_inj.mp z)
                  have z_4 : ¬ (vy_37 : Int32).toInt = (0 : Int32).toInt := fun z => c_152 (Int32.toInt_inj.mp z)
                  have z_5 : ¬ (r_95 : Int32).toInt = (0 : Int32).toInt := fun z => c_233 (Int32.toInt_inj.mp z)
                  have y_0 : (0 : Int32).toInt = 0 := by decide
                  have y_400 : (400 : Int32).toInt = 400 := by decide
                  have y_1 : (1 : Int32).toInt = 1 := by decide
                  omega
                have hw_244 : TWd (cB (Tf 1) (Tv 0)) pz_or rq_47 := by
                  rw [← wS6]
                  exact pf_150
                exact ih_39 x_234 sv_218 sv_219 sv_220 sv_221 sv_222 sv_223 sv_224 1 _ _ _ (by omega) ha_236 ha_237 pf_225 pf_226 (TeC.or1 h_tape.2.1 pf_50 pf_51 pf_54 hr_242 hr_243 hw_244 hu_238 hu_239 hu_240 hi_241) (hP.sub [0, 1, 2, 3] rfl) (hD.sub [0, 1, 2, 3] rfl rfl) hS (lv_sub hl [0, 1, 3, 4, 5] rfl)
        · skip
          have hz_246 : (r_83 : Int32).toInt = 0 := by
            have z_1 := Int32.lt_iff_toInt_lt.mp (Int32.not_le.mp c_56)
            have z_2 := congrArg Int32.toInt c_88
            have y_0 : (0 : Int32).toInt = 0 := by decide
            have y_400 : (400 : Int32).toInt = 400 := by decide
            omega
          obtain pf_245 := hm_87 hz_246
          have pf_245 : NWd (cB (Tf 1) (Tv 0)) (wS (5 : Nat)) rq_47 := pf_245
          refine lv_aload_n hx hb dX7_readTest_28 rfl (lv_at hl 3 rfl) ?_
          refine va_ldcS hx hb hown (sx_6 hX) dX7_readTest_29 ?_
          have ha_247 : (6 : Nat) < 7 := by
            have z_1 := Int32.lt_iff_toInt_lt.mp (Int32.not_le.mp c_56)
            have z_2 := congrArg Int32.toInt c_88
            have y_0 : (0 : Int32).toInt = 0 := by decide
            have y_400 : (400 : Int32).toInt = 400 := by decide
            have y_6 : (6 : Int32).toInt = 6 := by decide
            omega
          refine cV (a := (Ta 0)) (As := [.ref (sk.1 6)]) (rest := []) (wr := [((Va 0), .inr (7, [.ref (Va 1), .int vy_30, .int vy_31])), ((Va 1), .inl (tc 0, 400, .inl vy_32))]) ⟨hx, hb, hml, hown, hts⟩ hK hX hA (cu_fX10_isWord l D tc sk (Ta 0) (Ta 1) (Tv 0) vy_33 vy_34 vy_35 vy_36 (Tf 1) 6 rq_47 ha_247 pf_43 h_by pf_48) k_618 k_615 k_616 k_617 k_96 pl_X10_isWord ⟨Nat.le_of_ble_eq_true rfl, Nat.le_of_ble_eq_true rfl⟩ rfl rfl (va_recv hK hP (ci := 10) (q0 := 2) rfl rfl) hP hD hS [2, 3] [0, 1] rfl rfl rfl rfl rfl (by decide) rfl hl.1 rfl (Nat.le_of_ble_eq_true rfl) dX7_readTest_31 ⟨Nat.le_of_ble_eq_true rfl, Nat.le_of_ble_eq_true rfl⟩ (fun v_248 u_249 H locs hv_250 hP₀ hD₀ hS₀ => ?_)
          obtain ⟨r_251, rfl, he_252, hm_254, hm_255⟩ := hv_250
          have he_252 : (r_251.toInt = 0 ∨ r_251.toInt = 1) := he_252
          refine W.eq (g2 := F0 m 34 ls [.int r_251]) rfl ?_
          replace hP : va_P D classes [((Va 0), .inr (7, [.ref (Va 1), .int vy_30, .int vy_31])), ((Va 1), .inl (tc 0, 400, .inl vy_32)), ((Ta 0), .inr (10, [.ref (Ta 1), .int (Tv 0), .int vy_33, .int vy_34, .int vy_35, .int vy_36])), ((Ta 1), .inl (tc 0, 400, .inl (Tf 1)))] H := hP₀
          replace hD : va_D A [((Va 0), .inr (7, [.ref (Va 1), .int vy_30, .int vy_31])), ((Va 1), .inl (tc 0, 400, .inl vy_32)), ((Ta 0), .inr (10, [.ref (Ta 1), .int (Tv 0), .int vy_33, .int vy_34, .int vy_35, .int vy_36])), ((Ta 1), .inl (tc 0, 400, .inl (Tf 1)))] := hD₀
          replace hS := hS₀
          clear hP₀ hD₀ hS₀
          refine lv_if_eq (tgt := 92) hx hb dX7_readTest_34 (by decide) (fun c_256 => ?_) (fun c_256 => ?_)
          · skip
            have hz_258 : (r_251 : Int32).toInt = 0 := by
              have z_1 := Int32.lt_iff_toInt_lt.mp (Int32.not_le.mp c_56)
              have z_2 := congrArg Int32.toInt c_88
              have z_3 := congrArg Int32.toInt c_256
              have y_0 : (0 : Int32).toInt = 0 := by decide
              have y_400 : (400 : Int32).toInt = 400 := by decide
              omega
            obtain pf_257 := hm_255 hz_258
            have pf_257 : NWd (cB (Tf 1) (Tv 0)) (wS (6 : Nat)) rq_47 := pf_257
            refine lv_iload_n hx hb dX7_readTest_92 rfl (lv_at hl 1 rfl) ?_
            refine lv_if_eq (tgt := 102) hx hb dX7_readTest_93 (by decide) (fun c_259 => ?_) (fun c_259 => ?_)
            · skip
              have hf_260 : TpR (Tf 1) (Tv 0) (pz_b rr (pz_tst (cB (Tf 1) (Tv 0)) (pz_fact (cB (Tf 1) (Tv 0)) 6))) vy_33 vy_34 vy_35 vy_36 := by
                have hw_261 : NWd (cB (Tf 1) (Tv 0)) pz_and rq_47 := by
                  rw [← wS5]
                  exact pf_245
                have hw_262 : NWd (cB (Tf 1) (Tv 0)) pz_or rq_47 := by
                  rw [← wS6]
                  exact pf_257
                rw [pf_50, tst_end h_tape.2.1 pf_51 (Or.inr ⟨hw_261, hw_262⟩)]
                exact pf_48
              have hf_263 : Ctd (pz_b rr (pz_tst (cB (Tf 1) (Tv 0)) (pz_fact (cB (Tf 1) (Tv 0)) 6))) vy_31 := by
                have hw_264 : NWd (cB (Tf 1) (Tv 0)) pz_and rq_47 := by
                  rw [← wS5]
                  exact pf_245
                have hw_265 : NWd (cB (Tf 1) (Tv 0)) pz_or rq_47 := by
                  rw [← wS6]
                  exact pf_257
                rw [pf_50, tst_end h_tape.2.1 pf_51 (Or.inr ⟨hw_264, hw_265⟩)]
                exact pf_49
              have hw_266 : NWd (cB (Tf 1) (Tv 0)) pz_and rq_47 := by
                rw [← wS5]
                exact pf_245
              have hw_267 : NWd (cB (Tf 1) (Tv 0)) pz_or rq_47 := by
                rw [← wS6]
                exact pf_257
              have hr_268 : (vy_37 : Int32).toInt = 0 := by
                have z_1 := Int32.lt_iff_toInt_lt.mp (Int32.not_le.mp c_56)
                have z_2 := congrArg Int32.toInt c_88
                have z_3 := congrArg Int32.toInt c_256
                have z_4 := congrArg Int32.toInt c_259
                have y_0 : (0 : Int32).toInt = 0 := by decide
                have y_400 : (400 : Int32).toInt = 400 := by decide
                omega
              exact retV hx hb hr hlk hP hD hS (vy_30, vy_31, vy_32, vy_33, vy_34, vy_35, vy_36) ⟨rfl, pf_43, pf_44, hf_260, hf_263, (TeC.end0 h_tape.2.1 pf_50 pf_51 pf_54 hr_268 (Or.inr ⟨hw_266, hw_267⟩) pf_53)⟩ [0, 1, 2, 3] rfl rfl dX7_readTest_102 (Nat.le_of_ble_eq_true rfl) (Nat.le_of_ble_eq_true rfl) rfl
            · skip
              refine lv_aload_n hx hb dX7_readTest_96 rfl (lv_at hl 2 rfl) ?_
              refine lv_bipush (v := (-6)) hx hb dX7_readTest_97 (by decide) ?_
              refine cV (a := (Va 0)) (As := [.int (-6)]) (rest := []) (wr := [((Ta 0), .inr (10, [.ref (Ta 1), .int (Tv 0), .int vy_33, .int vy_34, .int vy_35, .int vy_36])), ((Ta 1), .inl (tc 0, 400, .inl (Tf 1)))]) ⟨hx, hb, hml, hown, hts⟩ hK hX hA (cu_kX7_put l D tc sk (Va 0) (Va 1) vy_30 vy_31 vy_32 (-6) rq_47 lq_52 pf_44 pf_53) k_642 k_639 k_641 k_10 k_99 pl_X7_put ⟨Nat.le_of_ble_eq_true rfl, Nat.le_of_ble_eq_true rfl⟩ rfl rfl (va_recv hK hP (ci := 7) (q0 := 0) rfl rfl) hP hD hS [0, 1] [2, 3] rfl rfl rfl rfl rfl (by decide) rfl hl.1 rfl (Nat.le_of_ble_eq_true rfl) dX7_readTest_99 ⟨Nat.le_of_ble_eq_true rfl, Nat.le_of_ble_eq_true rfl⟩ (fun v_269 u_270 H locs hv_271 hP₀ hD₀ hS₀ => ?_)
              obtain ⟨sv_272, sv_273⟩ := u_270
              obtain ⟨rfl, pf_274, pf_275⟩ := hv_271
              have pf_274 : 0 ≤ (sv_272 : Int32).toInt ∧ (sv_272 : Int32).toInt ≤ 400 := pf_274
              have pf_275 : CdK sv_273 sv_272 rq_47 (lq_52 ++ [((-6) : Int32).toInt]) := pf_275
              rw [show ((-6) : Int32).toInt = -6 by decide] at pf_275
              obtain ⟨ro_276, ero_276⟩ : ∃ z : List Int, z = (lq_52 ++ [-6]) := ⟨_, rfl⟩
              rw [← ero_276] at pf_275
              refine W.eq (g2 := F0 m 102 ls []) rfl ?_
              replace hP : va_P D classes [((Ta 0), .inr (10, [.ref (Ta 1), .int (Tv 0), .int vy_33, .int vy_34, .int vy_35, .int vy_36])), ((Ta 1), .inl (tc 0, 400, .inl (Tf 1))), ((Va 0), .inr (7, [.ref (Va 1), .int sv_272, .int vy_31])), ((Va 1), .inl (tc 0, 400, .inl sv_273))] H := hP₀
              replace hD : va_D A [((Ta 0), .inr (10, [.ref (Ta 1), .int (Tv 0), .int vy_33, .int vy_34, .int vy_35, .int vy_36])), ((Ta 1), .inl (tc 0, 400, .inl (Tf 1))), ((Va 0), .inr (7, [.ref (Va 1), .int sv_272, .int vy_31])), ((Va 1), .inl (tc 0, 400, .inl sv_273))] := hD₀
              replace hS := hS₀
              clear hP₀ hD₀ hS₀
              have hf_277 : TpR (Tf 1) (Tv 0) (pz_b rr (pz_tst (cB (Tf 1) (Tv 0)) (pz_fact (cB (Tf 1) (Tv 0)) 6))) vy_33 vy_34 vy_35 vy_36 := by
                have hw_278 : NWd (cB (Tf 1) (Tv 0)) pz_and rq_47 := by
                  rw [← wS5]
                  exact pf_245
                have hw_279 : NWd (cB (Tf 1) (Tv 0)) pz_or rq_47 := by
                  rw [← wS6]
                  exact pf_257
                rw [pf_50, tst_end h_tape.2.1 pf_51 (Or.inr ⟨hw_278, hw_279⟩)]
                exact pf_48
              have hf_280 : Ctd (pz_b rr (pz_tst (cB (Tf 1) (Tv 0)) (pz_fact (cB (Tf 1) (Tv 0)) 6))) vy_31 := by
                have hw_281 : NWd (cB (Tf 1) (Tv 0)) pz_and rq_47 := by
                  rw [← wS5]
                  exact pf_245
                have hw_282 : NWd (cB (Tf 1) (Tv 0)) pz_or rq_47 := by
                  rw [← wS6]
                  exact pf_257
                rw [pf_50, tst_end h_tape.2.1 pf_51 (Or.inr ⟨hw_281, hw_282⟩)]
                exact pf_49
              have hw_283 : NWd (cB (Tf 1) (Tv 0)) pz_and rq_47 := by
                rw [← wS5]
                exact pf_245
              have hw_284 : NWd (cB (Tf 1) (Tv 0)) pz_or rq_47 := by
                rw [← wS6]
                exact pf_257
              have hu_285 : CdK sv_273 sv_272 rq_47 (lq_52 ++ [-6]) := by
                rw [← ero_276]
                exact pf_275
              have hr_286 : (vy_37 : Int32).toInt = 1 := by
                have z_1 := Int32.lt_iff_toInt_lt.mp (Int32.not_le.mp c_56)
                have z_2 := congrArg Int32.toInt c_88
                have z_3 := congrArg Int32.toInt c_256
                have z_4 : ¬ (vy_37 : Int32).toInt = (0 : Int32).toInt := fun z => c_259 (Int32.toInt_inj.mp z)
                have y_0 : (0 : Int32).toInt = 0 := by decide
                have y_400 : (400 : Int32).toInt = 400 := by decide
                omega
              exact retV hx hb hr hlk hP hD hS (sv_272, vy_31, sv_273, vy_33, vy_34, vy_35, vy_36) ⟨rfl, pf_43, pf_274, hf_277, hf_280, (TeC.end1 h_tape.2.1 pf_50 pf_51 pf_54 hr_286 (Or.inr ⟨hw_283, hw_284⟩) hu_285)⟩ [2, 3, 0, 1] rfl rfl dX7_readTest_102 (Nat.le_of_ble_eq_true rfl) (Nat.le_of_ble_eq_true rfl) rfl
          · skip
            have hz_288 : (r_251 : Int32).toInt = 1 := by
              have z_1 := Int32.lt_iff_toInt_lt.mp (Int32.not_le.mp c_56)
              have z_2 := congrArg Int32.toInt c_88
              have z_3 : ¬ (r_251 : Int32).toInt = (0 : Int32).toInt := fun z => c_256 (Int32.toInt_inj.mp z)
              have y_0 : (0 : Int32).toInt = 0 := by decide
              have y_400 : (400 : Int32).toInt = 400 := by decide
              omega
            obtain pf_287 := hm_254 hz_288
            have pf_287 : TWd (cB (Tf 1) (Tv 0)) (wS (6 : Nat)) rq_47 := pf_287
            refine lv_aload_n hx hb dX7_readTest_37 rfl (lv_at hl 3 rfl) ?_
            refine va_ldcS hx hb hown (sx_6 hX) dX7_readTest_38 ?_
            have ha_289 : (6 : Nat) < 7 := by
              have z_1 := Int32.lt_iff_toInt_lt.mp (Int32.not_le.mp c_56)
              have z_2 := congrArg Int32.toInt c_88
              have z_3 : ¬ (r_251 : Int32).toInt = (0 : Int32).toInt := fun z => c_256 (Int32.toInt_inj.mp z)
              have y_0 : (0 : Int32).toInt = 0 := by decide
              have y_400 : (400 : Int32).toInt = 400 := by decide
              have y_6 : (6 : Int32).toInt = 6 := by decide
              omega
            refine cV (a := (Ta 0)) (As := [.ref (sk.1 6)]) (rest := []) (wr := [((Va 0), .inr (7, [.ref (Va 1), .int vy_30, .int vy_31])), ((Va 1), .inl (tc 0, 400, .inl vy_32))]) ⟨hx, hb, hml, hown, hts⟩ hK hX hA (cu_fX10_isWord l D tc sk (Ta 0) (Ta 1) (Tv 0) vy_33 vy_34 vy_35 vy_36 (Tf 1) 6 rq_47 ha_289 pf_43 h_by pf_48) k_618 k_615 k_616 k_617 k_96 pl_X10_isWord ⟨Nat.le_of_ble_eq_true rfl, Nat.le_of_ble_eq_true rfl⟩ rfl rfl (va_recv hK hP (ci := 10) (q0 := 2) rfl rfl) hP hD hS [2, 3] [0, 1] rfl rfl rfl rfl rfl (by decide) rfl hl.1 rfl (Nat.le_of_ble_eq_true rfl) dX7_readTest_40 ⟨Nat.le_of_ble_eq_true rfl, Nat.le_of_ble_eq_true rfl⟩ (fun v_290 u_291 H locs hv_292 hP₀ hD₀ hS₀ => ?_)
            obtain ⟨r_293, rfl, he_294, hm_296, hm_297⟩ := hv_292
            have he_294 : (r_293.toInt = 0 ∨ r_293.toInt = 1) := he_294
            refine W.eq (g2 := F0 m 43 ls [.int r_293]) rfl ?_
            replace hP : va_P D classes [((Va 0), .inr (7, [.ref (Va 1), .int vy_30, .int vy_31])), ((Va 1), .inl (tc 0, 400, .inl vy_32)), ((Ta 0), .inr (10, [.ref (Ta 1), .int (Tv 0), .int vy_33, .int vy_34, .int vy_35, .int vy_36])), ((Ta 1), .inl (tc 0, 400, .inl (Tf 1)))] H := hP₀
            replace hD : va_D A [((Va 0), .inr (7, [.ref (Va 1), .int vy_30, .int vy_31])), ((Va 1), .inl (tc 0, 400, .inl vy_32)), ((Ta 0), .inr (10, [.ref (Ta 1), .int (Tv 0), .int vy_33, .int vy_34, .int vy_35, .int vy_36])), ((Ta 1), .inl (tc 0, 400, .inl (Tf 1)))] := hD₀
            replace hS := hS₀
            clear hP₀ hD₀ hS₀
            refine lv_istore (lv' := [(5, .int r_293), (4, .int vy_29), (3, .int vy_37), (0, .ref (Va 0)), (1, .ref (Ta 0)), (2, .int 4)]) hx hb dX7_readTest_43 hl (by decide) rfl (fun ls hl₀ => ?_)
            replace hl := hl₀
            clear hl₀
            refine lv_iload hx hb dX7_readTest_45 (lv_at hl 0 rfl) ?_
            refine lv_if_eq (tgt := 60) hx hb dX7_readTest_47 (by decide) (fun c_298 => ?_) (fun c_298 => ?_)
            · skip
              have hz_300 : (r_293 : Int32).toInt = 0 := by
                have z_1 := Int32.lt_iff_toInt_lt.mp (Int32.not_le.mp c_56)
                have z_2 := congrArg Int32.toInt c_88
                have z_3 : ¬ (r_251 : Int32).toInt = (0 : Int32).toInt := fun z => c_256 (Int32.toInt_inj.mp z)
                have z_4 := congrArg Int32.toInt c_298
                have y_0 : (0 : Int32).toInt = 0 := by decide
                have y_400 : (400 : Int32).toInt = 400 := by decide
                omega
              obtain pf_299 := hm_297 hz_300
              have pf_299 : NWd (cB (Tf 1) (Tv 0)) (wS (6 : Nat)) rq_47 := pf_299
              refine lv_aload_n hx hb dX7_readTest_60 rfl (lv_at hl 4 rfl) ?_
              refine cV (a := (Ta 0)) (As := []) (rest := []) (wr := [((Va 0), .inr (7, [.ref (Va 1), .int vy_30, .int vy_31])), ((Va 1), .inl (tc 0, 400, .inl vy_32))]) ⟨hx, hb, hml, hown, hts⟩ hK hX hA (cu_fX10_step l D tc sk (Ta 0) (Ta 1) (Tv 0) vy_33 vy_34 vy_35 vy_36 (Tf 1) (rTE (cB (Tf 1) (Tv 0)) rq_47) pf_43 h_by tb_55) k_478 k_620 k_476 k_477 k_96 pl_X10_step ⟨Nat.le_of_ble_eq_true rfl, Nat.le_of_ble_eq_true rfl⟩ rfl rfl (va_recv hK hP (ci := 10) (q0 := 2) rfl rfl) hP hD hS [2, 3] [0, 1] rfl rfl rfl rfl rfl (by decide) rfl hl.1 rfl (Nat.le_of_ble_eq_true rfl) dX7_readTest_61 ⟨Nat.le_of_ble_eq_true rfl, Nat.le_of_ble_eq_true rfl⟩ (fun v_301 u_302 H locs hv_303 hP₀ hD₀ hS₀ => ?_)
              obtain ⟨sv_304, sv_305, sv_306⟩ := u_302
              obtain ⟨rfl, pf_307, pf_308⟩ := hv_303
              have pf_307 : 0 ≤ ((Tv 0) : Int32).toInt ∧ ((Tv 0) : Int32).toInt ≤ 400 ∧ 0 ≤ (sv_304 : Int32).toInt ∧ (sv_304 : Int32).toInt ≤ 400 ∧ 0 ≤ (sv_305 : Int32).toInt ∧ (sv_305 : Int32).toInt ≤ 400 := pf_307
              have pf_308 : TpR (Tf 1) (Tv 0) (rSK (cB (Tf 1) (Tv 0)) (rTE (cB (Tf 1) (Tv 0)) rq_47)) sv_304 sv_305 sv_306 vy_36 := pf_308
              rw [rNX_eq] at pf_308
              obtain ⟨ro_309, ero_309⟩ : ∃ z : Except Int (Nat × Nat), z = (rNX (cB (Tf 1) (Tv 0)) rq_47) := ⟨_, rfl⟩
              rw [← ero_309] at pf_308
              have tb_310 : TpB (rTE (cB (Tf 1) (Tv 0)) ro_309) sv_305 vy_36 := TpR.tb pf_308
              have cd_311 : Ctd ro_309 vy_31 := by rw [ero_309]; exact (Ctd.nx pf_49)
              have ck_312 : CdK vy_32 vy_30 ro_309 lq_52 := by rw [ero_309]; exact (CdK.nx pf_53)
              refine W.eq (g2 := F0 m 64 ls []) rfl ?_
              replace hP : va_P D classes [((Va 0), .inr (7, [.ref (Va 1), .int vy_30, .int vy_31])), ((Va 1), .inl (tc 0, 400, .inl vy_32)), ((Ta 0), .inr (10, [.ref (Ta 1), .int (Tv 0), .int sv_304, .int sv_305, .int sv_306, .int vy_36])), ((Ta 1), .inl (tc 0, 400, .inl (Tf 1)))] H := hP₀
              replace hD : va_D A [((Va 0), .inr (7, [.ref (Va 1), .int vy_30, .int vy_31])), ((Va 1), .inl (tc 0, 400, .inl vy_32)), ((Ta 0), .inr (10, [.ref (Ta 1), .int (Tv 0), .int sv_304, .int sv_305, .int sv_306, .int vy_36])), ((Ta 1), .inl (tc 0, 400, .inl (Tf 1)))] := hD₀
              replace hS := hS₀
              clear hP₀ hD₀ hS₀
              refine lv_aload_n hx hb dX7_readTest_64 rfl (lv_at hl 3 rfl) ?_
              refine lv_aload_n hx hb dX7_readTest_65 rfl (lv_at hl 4 rfl) ?_
              refine lv_iload_n hx hb dX7_readTest_66 rfl (lv_at hl 5 rfl) ?_
              refine cV (a := (Va 0)) (As := [.ref (Ta 0), .int 4]) (rest := []) (wr := []) ⟨hx, hb, hml, hown, hts⟩ hK hX hA (cu_kX7_readFact_4 l D tc sk (Va 0) (Va 1) vy_30 vy_31 vy_32 (Ta 0) (Ta 1) (Tv 0) sv_304 sv_305 sv_306 vy_36 (Tf 1) ro_309 lq_52 pf_307 pf_44 h_by pf_308 cd_311 ck_312) k_659 k_656 k_658 k_12 k_99 pl_X7_readFact ⟨Nat.le_of_ble_eq_true rfl, Nat.le_of_ble_eq_true rfl⟩ rfl rfl (va_recv hK hP (ci := 7) (q0 := 0) rfl rfl) hP hD hS [0, 1, 2, 3] [] rfl rfl rfl rfl rfl (by decide) rfl hl.1 rfl (Nat.le_of_ble_eq_true rfl) dX7_readTest_67 ⟨Nat.le_of_ble_eq_true rfl, Nat.le_of_ble_eq_true rfl⟩ (fun v_313 u_314 H locs hv_315 hP₀ hD₀ hS₀ => ?_)
              obtain ⟨sv_316, sv_317, sv_318, sv_319, sv_320, sv_321, sv_322⟩ := u_314
              obtain ⟨rfl, pf_323, pf_324, pf_325, pf_326, pf_327⟩ := hv_315
              have pf_323 : 0 ≤ ((Tv 0) : Int32).toInt ∧ ((Tv 0) : Int32).toInt ≤ 400 ∧ 0 ≤ (sv_319 : Int32).toInt ∧ (sv_319 : Int32).toInt ≤ 400 ∧ 0 ≤ (sv_320 : Int32).toInt ∧ (sv_320 : Int32).toInt ≤ 400 := pf_323
              have pf_324 : 0 ≤ (sv_316 : Int32).toInt ∧ (sv_316 : Int32).toInt ≤ 400 := pf_324
              have pf_325 : TpR (Tf 1) (Tv 0) (pz_b ro_309 (pz_fact (cB (Tf 1) (Tv 0)) 6)) sv_319 sv_320 sv_321 sv_322 := pf_325
              obtain ⟨ro_328, ero_328⟩ : ∃ z : Except Int (Nat × Nat), z = (pz_b ro_309 (pz_fact (cB (Tf 1) (Tv 0)) 6)) := ⟨_, rfl⟩
              rw [← ero_328] at pf_325
              have tb_329 : TpB (rTE (cB (Tf 1) (Tv 0)) ro_328) sv_320 sv_322 := TpR.tb pf_325
              have pf_326 : Ctd (pz_b ro_309 (pz_fact (cB (Tf 1) (Tv 0)) 6)) sv_317 := pf_326
              rw [← ero_328] at pf_326
              have pf_327 : CdK sv_318 sv_316 (pz_b ro_309 (pz_fact (cB (Tf 1) (Tv 0)) 6)) (Ap ro_309 (ec_fact (cB (Tf 1) (Tv 0)) 6) lq_52) := pf_327
              rw [← ero_328] at pf_327
              obtain ⟨ro_330, ero_330⟩ : ∃ z : List Int, z = (Ap ro_309 (ec_fact (cB (Tf 1) (Tv 0)) 6) lq_52) := ⟨_, rfl⟩
              rw [← ero_330] at pf_327
              refine W.eq (g2 := F0 m 70 ls []) rfl ?_
              replace hP : va_P D classes [((Va 0), .inr (7, [.ref (Va 1), .int sv_316, .int sv_317])), ((Va 1), .inl (tc 0, 400, .inl sv_318)), ((Ta 0), .inr (10, [.ref (Ta 1), .int (Tv 0), .int sv_319, .int sv_320, .int sv_321, .int sv_322])), ((Ta 1), .inl (tc 0, 400, .inl (Tf 1)))] H := hP₀
              replace hD : va_D A [((Va 0), .inr (7, [.ref (Va 1), .int sv_316, .int sv_317])), ((Va 1), .inl (tc 0, 400, .inl sv_318)), ((Ta 0), .inr (10, [.ref (Ta 1), .int (Tv 0), .int sv_319, .int sv_320, .int sv_321, .int sv_322])), ((Ta 1), .inl (tc 0, 400, .inl (Tf 1)))] := hD₀
              replace hS := hS₀
              clear hP₀ hD₀ hS₀
              refine lv_iload hx hb dX7_readTest_70 (lv_at hl 0 rfl) ?_
              refine lv_if_eq (tgt := 80) hx hb dX7_readTest_72 (by decide) (fun c_331 => ?_) (fun c_331 => ?_)
              · skip
                refine lv_aload_n hx hb dX7_readTest_80 rfl (lv_at hl 3 rfl) ?_
                refine lv_bipush (v := (-5)) hx hb dX7_readTest_81 (by decide) ?_
                refine cV (a := (Va 0)) (As := [.int (-5)]) (rest := []) (wr := [((Ta 0), .inr (10, [.ref (Ta 1), .int (Tv 0), .int sv_319, .int sv_320, .int sv_321, .int sv_322])), ((Ta 1), .inl (tc 0, 400, .inl (Tf 1)))]) ⟨hx, hb, hml, hown, hts⟩ hK hX hA (cu_kX7_put l D tc sk (Va 0) (Va 1) sv_316 sv_317 sv_318 (-5) ro_328 ro_330 pf_324 pf_327) k_642 k_639 k_641 k_10 k_99 pl_X7_put ⟨Nat.le_of_ble_eq_true rfl, Nat.le_of_ble_eq_true rfl⟩ rfl rfl (va_recv hK hP (ci := 7) (q0 := 0) rfl rfl) hP hD hS [0, 1] [2, 3] rfl rfl rfl rfl rfl (by decide) rfl hl.1 rfl (Nat.le_of_ble_eq_true rfl) dX7_readTest_83 ⟨Nat.le_of_ble_eq_true rfl, Nat.le_of_ble_eq_true rfl⟩ (fun v_332 u_333 H locs hv_334 hP₀ hD₀ hS₀ => ?_)
                obtain ⟨sv_335, sv_336⟩ := u_333
                obtain ⟨rfl, pf_337, pf_338⟩ := hv_334
                have pf_337 : 0 ≤ (sv_335 : Int32).toInt ∧ (sv_335 : Int32).toInt ≤ 400 := pf_337
                have pf_338 : CdK sv_336 sv_335 ro_328 (ro_330 ++ [((-5) : Int32).toInt]) := pf_338
                rw [show ((-5) : Int32).toInt = -5 by decide] at pf_338
                obtain ⟨ro_339, ero_339⟩ : ∃ z : List Int, z = (ro_330 ++ [-5]) := ⟨_, rfl⟩
                rw [← ero_339] at pf_338
                refine W.eq (g2 := F0 m 86 ls []) rfl ?_
                replace hP : va_P D classes [((Ta 0), .inr (10, [.ref (Ta 1), .int (Tv 0), .int sv_319, .int sv_320, .int sv_321, .int sv_322])), ((Ta 1), .inl (tc 0, 400, .inl (Tf 1))), ((Va 0), .inr (7, [.ref (Va 1), .int sv_335, .int sv_317])), ((Va 1), .inl (tc 0, 400, .inl sv_336))] H := hP₀
                replace hD : va_D A [((Ta 0), .inr (10, [.ref (Ta 1), .int (Tv 0), .int sv_319, .int sv_320, .int sv_321, .int sv_322])), ((Ta 1), .inl (tc 0, 400, .inl (Tf 1))), ((Va 0), .inr (7, [.ref (Va 1), .int sv_335, .int sv_317])), ((Va 1), .inl (tc 0, 400, .inl sv_336))] := hD₀
                replace hS := hS₀
                clear hP₀ hD₀ hS₀
                obtain ⟨x_340, ex_340⟩ : ∃ y : Int32, y = vy_29 + 1 := ⟨_, rfl⟩
                refine lv_iinc (v := x_340) (lv' := [(4, .int x_340), (5, .int r_293), (3, .int vy_37), (0, .ref (Va 0)), (1, .ref (Ta 0)), (2, .int 4)]) hx hb dX7_readTest_86 hl (k := 1) rfl (by rw [ex_340]; rfl) (by decide) rfl (fun ls hl₀ => ?_)
                replace hl := hl₀
                clear hl₀
                refine lv_goto (tgt := 11) hx hb dX7_readTest_89 (by decide) ?_
                have hb_341 : 401 - (x_340 : Int32).toInt < 401 - (vy_29 : Int32).toInt ∧ 1 ≤ 401 - (vy_29 : Int32).toInt := by
                  have z_1 := Int32.lt_iff_toInt_lt.mp (Int32.not_le.mp c_56)
                  have z_2 := congrArg Int32.toInt c_88
                  have z_3 : ¬ (r_251 : Int32).toInt = (0 : Int32).toInt := fun z => c_256 (Int32.toInt_inj.mp z)
                  have z_4 := congrArg Int32.toInt c_298
                  have z_5 := congrArg Int32.toInt c_331
                  have y_0 : (0 : Int32).toInt = 0 := by decide
                  have y_400 : (400 : Int32).toInt = 400 := by decide
                  have y_1 : (1 : Int32).toInt = 1 := by decide
                  have t_x_340 : x_340.toInt = (vy_29 : Int32).toInt + (1 : Int32).toInt := by rw [ex_340]; exact add_toInt (by omega) (by omega)
                  omega
                have ha_342 : 0 ≤ (x_340 : Int32).toInt ∧ (x_340 : Int32).toInt ≤ 400 := by
                  have z_1 := Int32.lt_iff_toInt_lt.mp (Int32.not_le.mp c_56)
                  have z_2 := congrArg Int32.toInt c_88
                  have z_3 : ¬ (r_251 : Int32).toInt = (0 : Int32).toInt := fun z => c_256 (Int32.toInt_inj.mp z)
                  have z_4 := congrArg Int32.toInt c_298
                  have z_5 := congrArg Int32.toInt c_331
                  have y_0 : (0 : Int32).toInt = 0 := by decide
                  have y_400 : (400 : Int32).toInt = 400 := by decide
                  have y_1 : (1 : Int32).toInt = 1 := by decide
                  have t_x_340 : x_340.toInt = (vy_29 : Int32).toInt + (1 : Int32).toInt := by rw [ex_340]; exact add_toInt (by omega) (by omega)
                  omega
                have hu_343 : TpR (Tf 1) (Tv 0) (pz_b (rNX (cB (Tf 1) (Tv 0)) rq_47) (pz_fact (cB (Tf 1) (Tv 0)) 6)) sv_319 sv_320 sv_321 sv_322 := by
                  rw [← ero_309, ← ero_328]
                  exact pf_325
                have hu_344 : Ctd (pz_b (rNX (cB (Tf 1) (Tv 0)) rq_47) (pz_fact (cB (Tf 1) (Tv 0)) 6)) sv_317 := by
                  rw [← ero_309, ← ero_328]
                  exact pf_326
                have hu_345 : CdK sv_336 sv_335 (pz_b (rNX (cB (Tf 1) (Tv 0)) rq_47) (pz_fact (cB (Tf 1) (Tv 0)) 6)) ((Ap (rNX (cB (Tf 1) (Tv 0)) rq_47) (ec_fact (cB (Tf 1) (Tv 0)) 6) lq_52) ++ [-5]) := by
                  rw [← ero_309, ← ero_328, ← ero_330, ← ero_339]
                  exact pf_338
                have hi_346 : (x_340 : Int32).toInt = (vy_29 : Int32).toInt + 1 := by
                  have z_1 := Int32.lt_iff_toInt_lt.mp (Int32.not_le.mp c_56)
                  have z_2 := congrArg Int32.toInt c_88
                  have z_3 : ¬ (r_251 : Int32).toInt = (0 : Int32).toInt := fun z => c_256 (Int32.toInt_inj.mp z)
                  have z_4 := congrArg Int32.toInt c_298
                  have z_5 := congrArg Int32.toInt c_331
                  have y_0 : (0 : Int32).toInt = 0 := by decide
                  have y_400 : (400 : Int32).toInt = 400 := by decide
                  have y_1 : (1 : Int32).toInt = 1 := by decide
                  have t_x_340 : x_340.toInt = (vy_29 : Int32).toInt + (1 : Int32).toInt := by rw [ex_340]; exact add_toInt (by omega) (by omega)
                  omega
                have hw_347 : TWd (cB (Tf 1) (Tv 0)) pz_or rq_47 := by
                  rw [← wS6]
                  exact pf_287
                have hw_348 : NWd (cB (Tf 1) (Tv 0)) pz_or rq_47 := by
                  rw [← wS6]
                  exact pf_299
                exact ih_39 x_340 sv_335 sv_317 sv_336 sv_319 sv_320 sv_321 sv_322 vy_37 _ _ _ (by omega) ha_342 pf_42 pf_323 pf_337 (TeC.and h_tape.2.1 pf_50 pf_51 pf_54 (False.elim (by obtain ⟨_, e_, w_⟩ := hw_347; exact hw_348 _ e_ w_)) hu_343 hu_344 hu_345 hi_346) (hP.sub [2, 3, 0, 1] rfl) (hD.sub [2, 3, 0, 1] rfl rfl) hS (lv_sub hl [0, 2, 3, 4, 5] rfl)
              · skip
                exfalso
                have z_1 := Int32.lt_iff_toInt_lt.mp (Int32.not_le.mp c_56)
                have z_2 := congrArg Int32.toInt c_88
                have z_3 : ¬ (r_251 : Int32).toInt = (0 : Int32).toInt := fun z => c_256 (Int32.toInt_inj.mp z)
                have z_4 := congrArg Int32.toInt c_298
                have z_5 : ¬ (r_293 : Int32).toInt = (0 : Int32).toInt := fun z => c_331 (Int32.toInt_inj.mp z)
                have y_0 : (0 : Int32).toInt = 0 := by decide
                have y_400 : (400 : Int32).toInt = 400 := by decide
                omega
            · skip
              have hz_350 : (r_293 : Int32).toInt = 1 := by
                have z_1 := Int32.lt_iff_toInt_lt.mp (Int32.not_le.mp c_56)
                have z_2 := congrArg Int32.toInt c_88
                have z_3 : ¬ (r_251 : Int32).toInt = (0 : Int32).toInt := fun z => c_256 (Int32.toInt_inj.mp z)
                have z_4 : ¬ (r_293 : Int32).toInt = (0 : Int32).toInt := fun z => c_298 (Int32.toInt_inj.mp z)
                have y_0 : (0 : Int32).toInt = 0 := by decide
                have y_400 : (400 : Int32).toInt = 400 := by decide
                omega
              obtain pf_349 := hm_296 hz_350
              have pf_349 : TWd (cB (Tf 1) (Tv 0)) (wS (6 : Nat)) rq_47 := pf_349
              refine lv_iload_n hx hb dX7_readTest_50 rfl (lv_at hl 2 rfl) ?_
              refine lv_if_eq (tgt := 60) hx hb dX7_readTest_51 (by decide) (fun c_351 => ?_) (fun c_351 => ?_)
              · skip
                refine lv_aload_n hx hb dX7_readTest_60 rfl (lv_at hl 4 rfl) ?_
                refine cV (a := (Ta 0)) (As := []) (rest := []) (wr := [((Va 0), .inr (7, [.ref (Va 1), .int vy_30, .int vy_31])), ((Va 1), .inl (tc 0, 400, .inl vy_32))]) ⟨hx, hb, hml, hown, hts⟩ hK hX hA (cu_fX10_step l D tc sk (Ta 0) (Ta 1) (Tv 0) vy_33 vy_34 vy_35 vy_36 (Tf 1) (rTE (cB (Tf 1) (Tv 0)) rq_47) pf_43 h_by tb_55) k_478 k_620 k_476 k_477 k_96 pl_X10_step ⟨Nat.le_of_ble_eq_true rfl, Nat.le_of_ble_eq_true rfl⟩ rfl rfl (va_recv hK hP (ci := 10) (q0 := 2) rfl rfl) hP hD hS [2, 3] [0, 1] rfl rfl rfl rfl rfl (by decide) rfl hl.1 rfl (Nat.le_of_ble_eq_true rfl) dX7_readTest_61 ⟨Nat.le_of_ble_eq_true rfl, Nat.le_of_ble_eq_true rfl⟩ (fun v_352 u_353 H locs hv_354 hP₀ hD₀ hS₀ => ?_)
                obtain ⟨sv_355, sv_356, sv_357⟩ := u_353
                obtain ⟨rfl, pf_358, pf_359⟩ := hv_354
                have pf_358 : 0 ≤ ((Tv 0) : Int32).toInt ∧ ((Tv 0) : Int32).toInt ≤ 400 ∧ 0 ≤ (sv_355 : Int32).toInt ∧ (sv_355 : Int32).toInt ≤ 400 ∧ 0 ≤ (sv_356 : Int32).toInt ∧ (sv_356 : Int32).toInt ≤ 400 := pf_358
                have pf_359 : TpR (Tf 1) (Tv 0) (rSK (cB (Tf 1) (Tv 0)) (rTE (cB (Tf 1) (Tv 0)) rq_47)) sv_355 sv_356 sv_357 vy_36 := pf_359
                rw [rNX_eq] at pf_359
                obtain ⟨ro_360, ero_360⟩ : ∃ z : Except Int (Nat × Nat), z = (rNX (cB (Tf 1) (Tv 0)) rq_47) := ⟨_, rfl⟩
                rw [← ero_360] at pf_359
                have tb_361 : TpB (rTE (cB (Tf 1) (Tv 0)) ro_360) sv_356 vy_36 := TpR.tb pf_359
                have cd_362 : Ctd ro_360 vy_31 := by rw [ero_360]; exact (Ctd.nx pf_49)
                have ck_363 : CdK vy_32 vy_30 ro_360 lq_52 := by rw [ero_360]; exact (CdK.nx pf_53)
                refine W.eq (g2 := F0 m 64 ls []) rfl ?_
                replace hP : va_P D classes [((Va 0), .inr (7, [.ref (Va 1), .int vy_30, .int vy_31])), ((Va 1), .inl (tc 0, 400, .inl vy_32)), ((Ta 0), .inr (10, [.ref (Ta 1), .int (Tv 0), .int sv_355, .int sv_356, .int sv_357, .int vy_36])), ((Ta 1), .inl (tc 0, 400, .inl (Tf 1)))] H := hP₀
                replace hD : va_D A [((Va 0), .inr (7, [.ref (Va 1), .int vy_30, .int vy_31])), ((Va 1), .inl (tc 0, 400, .inl vy_32)), ((Ta 0), .inr (10, [.ref (Ta 1), .int (Tv 0), .int sv_355, .int sv_356, .int sv_357, .int vy_36])), ((Ta 1), .inl (tc 0, 400, .inl (Tf 1)))] := hD₀
                replace hS := hS₀
                clear hP₀ hD₀ hS₀
                refine lv_aload_n hx hb dX7_readTest_64 rfl (lv_at hl 3 rfl) ?_
                refine lv_aload_n hx hb dX7_readTest_65 rfl (lv_at hl 4 rfl) ?_
                refine lv_iload_n hx hb dX7_readTest_66 rfl (lv_at hl 5 rfl) ?_
                refine cV (a := (Va 0)) (As := [.ref (Ta 0), .int 4]) (rest := []) (wr := []) ⟨hx, hb, hml, hown, hts⟩ hK hX hA (cu_kX7_readFact_4 l D tc sk (Va 0) (Va 1) vy_30 vy_31 vy_32 (Ta 0) (Ta 1) (Tv 0) sv_355 sv_356 sv_357 vy_36 (Tf 1) ro_360 lq_52 pf_358 pf_44 h_by pf_359 cd_362 ck_363) k_659 k_656 k_658 k_12 k_99 pl_X7_readFact ⟨Nat.le_of_ble_eq_true rfl, Nat.le_of_ble_eq_true rfl⟩ rfl rfl (va_recv hK hP (ci := 7) (q0 := 0) rfl rfl) hP hD hS [0, 1, 2, 3] [] rfl rfl rfl rfl rfl (by decide) rfl hl.1 rfl (Nat.le_of_ble_eq_true rfl) dX7_readTest_67 ⟨Nat.le_of_ble_eq_true rfl, Nat.le_of_ble_eq_true rfl⟩ (fun v_364 u_365 H locs hv_366 hP₀ hD₀ hS₀ => ?_)
                obtain ⟨sv_367, sv_368, sv_369, sv_370, sv_371, sv_372, sv_373⟩ := u_365
                obtain ⟨rfl, pf_374, pf_375, pf_376, pf_377, pf_378⟩ := hv_366
                have pf_374 : 0 ≤ ((Tv 0) : Int32).toInt ∧ ((Tv 0) : Int32).toInt ≤ 400 ∧ 0 ≤ (sv_370 : Int32).toInt ∧ (sv_370 : Int32).toInt ≤ 400 ∧ 0 ≤ (sv_371 : Int32).toInt ∧ (sv_371 : Int32).toInt ≤ 400 := pf_374
                have pf_375 : 0 ≤ (sv_367 : Int32).toInt ∧ (sv_367 : Int32).toInt ≤ 400 := pf_375
                have pf_376 : TpR (Tf 1) (Tv 0) (pz_b ro_360 (pz_fact (cB (Tf 1) (Tv 0)) 6)) sv_370 sv_371 sv_372 sv_373 := pf_376
                obtain ⟨ro_379, ero_379⟩ : ∃ z : Except Int (Nat × Nat), z = (pz_b ro_360 (pz_fact (cB (Tf 1) (Tv 0)) 6)) := ⟨_, rfl⟩
                rw [← ero_379] at pf_376
                have tb_380 : TpB (rTE (cB (Tf 1) (Tv 0)) ro_379) sv_371 sv_373 := TpR.tb pf_376
                have pf_377 : Ctd (pz_b ro_360 (pz_fact (cB (Tf 1) (Tv 0)) 6)) sv_368 := pf_377
                rw [← ero_379] at pf_377
                have pf_378 : CdK sv_369 sv_367 (pz_b ro_360 (pz_fact (cB (Tf 1) (Tv 0)) 6)) (Ap ro_360 (ec_fact (cB (Tf 1) (Tv 0)) 6) lq_52) := pf_378
                rw [← ero_379] at pf_378
                obtain ⟨ro_381, ero_381⟩ : ∃ z : List Int, z = (Ap ro_360 (ec_fact (cB (Tf 1) (Tv 0)) 6) lq_52) := ⟨_, rfl⟩
                rw [← ero_381] at pf_378
                refine W.eq (g2 := F0 m 70 ls []) rfl ?_
                replace hP : va_P D classes [((Va 0), .inr (7, [.ref (Va 1), .int sv_367, .int sv_368])), ((Va 1), .inl (tc 0, 400, .inl sv_369)), ((Ta 0), .inr (10, [.ref (Ta 1), .int (Tv 0), .int sv_370, .int sv_371, .int sv_372, .int sv_373])), ((Ta 1), .inl (tc 0, 400, .inl (Tf 1)))] H := hP₀
                replace hD : va_D A [((Va 0), .inr (7, [.ref (Va 1), .int sv_367, .int sv_368])), ((Va 1), .inl (tc 0, 400, .inl sv_369)), ((Ta 0), .inr (10, [.ref (Ta 1), .int (Tv 0), .int sv_370, .int sv_371, .int sv_372, .int sv_373])), ((Ta 1), .inl (tc 0, 400, .inl (Tf 1)))] := hD₀
                replace hS := hS₀
                clear hP₀ hD₀ hS₀
                refine lv_iload hx hb dX7_readTest_70 (lv_at hl 0 rfl) ?_
                refine lv_if_eq (tgt := 80) hx hb dX7_readTest_72 (by decide) (fun c_382 => ?_) (fun c_382 => ?_)
                · skip
                  exfalso
                  have z_1 := Int32.lt_iff_toInt_lt.mp (Int32.not_le.mp c_56)
                  have z_2 := congrArg Int32.toInt c_88
                  have z_3 : ¬ (r_251 : Int32).toInt = (0 : Int32).toInt := fun z => c_256 (Int32.toInt_inj.mp z)
                  have z_4 : ¬ (r_293 : Int32).toInt = (0 : Int32).toInt := fun z => c_298 (Int32.toInt_inj.mp z)
                  have z_5 := congrArg Int32.toInt c_351
                  have z_6 := congrArg Int32.toInt c_382
                  have y_0 : (0 : Int32).toInt = 0 := by decide
                  have y_400 : (400 : Int32).toInt = 400 := by decide
                  omega
                · skip
                  refine lv_iconst (v := 1) hx hb dX7_readTest_75 (by decide) ?_
                  refine lv_istore_n (lv' := [(3, .int 1), (5, .int r_293), (4, .int vy_29), (0, .ref (Va 0)), (1, .ref (Ta 0)), (2, .int 4)]) hx hb dX7_readTest_76 rfl hl (by decide) rfl (fun ls hl₀ => ?_)
                  replace hl := hl₀
                  clear hl₀
                  refine lv_goto (tgt := 86) hx hb dX7_readTest_77 (by decide) ?_
                  obtain ⟨x_383, ex_383⟩ : ∃ y : Int32, y = vy_29 + 1 := ⟨_, rfl⟩
                  refine lv_iinc (v := x_383) (lv' := [(4, .int x_383), (3, .int 1), (5, .int r_293), (0, .ref (Va 0)), (1, .ref (Ta 0)), (2, .int 4)]) hx hb dX7_readTest_86 hl (k := 2) rfl (by rw [ex_383]; rfl) (by decide) rfl (fun ls hl₀ => ?_)
                  replace hl := hl₀
                  clear hl₀
                  refine lv_goto (tgt := 11) hx hb dX7_readTest_89 (by decide) ?_
                  have hb_384 : 401 - (x_383 : Int32).toInt < 401 - (vy_29 : Int32).toInt ∧ 1 ≤ 401 - (vy_29 : Int32).toInt := by
                    have z_1 := Int32.lt_iff_toInt_lt.mp (Int32.not_le.mp c_56)
                    have z_2 := congrArg Int32.toInt c_88
                    have z_3 : ¬ (r_251 : Int32).toInt = (0 : Int32).toInt := fun z => c_256 (Int32.toInt_inj.mp z)
                    have z_4 : ¬ (r_293 : Int32).toInt = (0 : Int32).toInt := fun z => c_298 (Int32.toInt_inj.mp z)
                    have z_5 := congrArg Int32.toInt c_351
                    have z_6 : ¬ (r_293 : Int32).toInt = (0 : Int32).toInt := fun z => c_382 (Int32.toInt_inj.mp z)
                    have y_0 : (0 : Int32).toInt = 0 := by decide
                    have y_400 : (400 : Int32).toInt = 400 := by decide
                    have y_1 : (1 : Int32).toInt = 1 := by decide
                    have t_x_383 : x_383.toInt = (vy_29 : Int32).toInt + (1 : Int32).toInt := by rw [ex_383]; exact add_toInt (by omega) (by omega)
                    omega
                  have ha_385 : 0 ≤ (x_383 : Int32).toInt ∧ (x_383 : Int32).toInt ≤ 400 := by
                    have z_1 := Int32.lt_iff_toInt_lt.mp (Int32.not_le.mp c_56)
                    have z_2 := congrArg Int32.toInt c_88
                    have z_3 : ¬ (r_251 : Int32).toInt = (0 : Int32).toInt := fun z => c_256 (Int32.toInt_inj.mp z)
                    have z_4 : ¬ (r_293 : Int32).toInt = (0 : Int32).toInt := fun z => c_298 (Int32.toInt_inj.mp z)
                    have z_5 := congrArg Int32.toInt c_351
                    have z_6 : ¬ (r_293 : Int32).toInt = (0 : Int32).toInt := fun z => c_382 (Int32.toInt_inj.mp z)
                    have y_0 : (0 : Int32).toInt = 0 := by decide
                    have y_400 : (400 : Int32).toInt = 400 := by decide
                    have y_1 : (1 : Int32).toInt = 1 := by decide
                    have t_x_383 : x_383.toInt = (vy_29 : Int32).toInt + (1 : Int32).toInt := by rw [ex_383]; exact add_toInt (by omega) (by omega)
                    omega
                  have ha_386 : 0 ≤ (1 : Int32).toInt ∧ (1 : Int32).toInt ≤ 1 := by
                    have z_1 := Int32.lt_iff_toInt_lt.mp (Int32.not_le.mp c_56)
                    have z_2 := congrArg Int32.toInt c_88
                    have z_3 : ¬ (r_251 : Int32).toInt = (0 : Int32).toInt := fun z => c_256 (Int32.toInt_inj.mp z)
                    have z_4 : ¬ (r_293 : Int32).toInt = (0 : Int32).toInt := fun z => c_298 (Int32.toInt_inj.mp z)
                    have z_5 := congrArg Int32.toInt c_351
                    have z_6 : ¬ (r_293 : Int32).toInt = (0 : Int32).toInt := fun z => c_382 (Int32.toInt_inj.mp z)
                    have y_0 : (0 : Int32).toInt = 0 := by decide
                    have y_400 : (400 : Int32).toInt = 400 := by decide
                    have y_1 : (1 : Int32).toInt = 1 := by decide
                    omega
                  have hu_387 : TpR (Tf 1) (Tv 0) (pz_b (rNX (cB (Tf 1) (Tv 0)) rq_47) (pz_fact (cB (Tf 1) (Tv 0)) 6)) sv_370 sv_371 sv_372 sv_373 := by
                    rw [← ero_360, ← ero_379]
                    exact pf_376
                  have hu_388 : Ctd (pz_b (rNX (cB (Tf 1) (Tv 0)) rq_47) (pz_fact (cB (Tf 1) (Tv 0)) 6)) sv_368 := by
                    rw [← ero_360, ← ero_379]
                    exact pf_377
                  have hu_389 : CdK sv_369 sv_367 (pz_b (rNX (cB (Tf 1) (Tv 0)) rq_47) (pz_fact (cB (Tf 1) (Tv 0)) 6)) (Ap (rNX (cB (Tf 1) (Tv 0)) rq_47) (ec_fact (cB (Tf 1) (Tv 0)) 6) lq_52) := by
                    rw [← ero_360, ← ero_379, ← ero_381]
                    exact pf_378
                  have hi_390 : (x_383 : Int32).toInt = (vy_29 : Int32).toInt + 1 := by
                    have z_1 := Int32.lt_iff_toInt_lt.mp (Int32.not_le.mp c_56)
                    have z_2 := congrArg Int32.toInt c_88
                    have z_3 : ¬ (r_251 : Int32).toInt = (0 : Int32).toInt := fun z => c_256 (Int32.toInt_inj.mp z)
                    have z_4 : ¬ (r_293 : Int32).toInt = (0 : Int32).toInt := fun z => c_298 (Int32.toInt_inj.mp z)
                    have z_5 := congrArg Int32.toInt c_351
                    have z_6 : ¬ (r_293 : Int32).toInt = (0 : Int32).toInt := fun z => c_382 (Int32.toInt_inj.mp z)
                    have y_0 : (0 : Int32).toInt = 0 := by decide
                    have y_400 : (400 : Int32).toInt = 400 := by decide
                    have y_1 : (1 : Int32).toInt = 1 := by decide
                    have t_x_383 : x_383.toInt = (vy_29 : Int32).toInt + (1 : Int32).toInt := by rw [ex_383]; exact add_toInt (by omega) (by omega)
                    omega
                  have hr_391 : (vy_37 : Int32).toInt = 0 := by
                    have z_1 := Int32.lt_iff_toInt_lt.mp (Int32.not_le.mp c_56)
                    have z_2 := congrArg Int32.toInt c_88
                    have z_3 : ¬ (r_251 : Int32).toInt = (0 : Int32).toInt := fun z => c_256 (Int32.toInt_inj.mp z)
                    have z_4 : ¬ (r_293 : Int32).toInt = (0 : Int32).toInt := fun z => c_298 (Int32.toInt_inj.mp z)
                    have z_5 := congrArg Int32.toInt c_351
                    have z_6 : ¬ (r_293 : Int32).toInt = (0 : Int32).toInt := fun z => c_382 (Int32.toInt_inj.mp z)
                    have y_0 : (0 : Int32).toInt = 0 := by decide
                    have y_400 : (400 : Int32).toInt = 400 := by decide
                    omega
                  have hr_392 : (1 : Int32).toInt = 1 := by
                    have z_1 := Int32.lt_iff_toInt_lt.mp (Int32.not_le.mp c_56)
                    have z_2 := congrArg Int32.toInt c_88
                    have z_3 : ¬ (r_251 : Int32).toInt = (0 : Int32).toInt := fun z => c_256 (Int32.toInt_inj.mp z)
                    have z_4 : ¬ (r_293 : Int32).toInt = (0 : Int32).toInt := fun z => c_298 (Int32.toInt_inj.mp z)
                    have z_5 := congrArg Int32.toInt c_351
                    have z_6 : ¬ (r_293 : Int32).toInt = (0 : Int32).toInt := fun z => c_382 (Int32.toInt_inj.mp z)
                    have y_0 : (0 : Int32).toInt = 0 := by decide
                    have y_400 : (400 : Int32).toInt = 400 := by decide
                    have y_1 : (1 : Int32).toInt = 1 := by decide
                    omega
                  have hw_393 : TWd (cB (Tf 1) (Tv 0)) pz_or rq_47 := by
                    rw [← wS6]
                    exact pf_349
                  exact ih_39 x_383 sv_367 sv_368 sv_369 sv_370 sv_371 sv_372 sv_373 1 _ _ _ (by omega) ha_385 ha_386 pf_374 pf_375 (TeC.or0 h_tape.2.1 pf_50 pf_51 pf_54 hr_391 hr_392 hw_393 hu_387 hu_388 hu_389 hi_390) (hP.sub [0, 1, 2, 3] rfl) (hD.sub [0, 1, 2, 3] rfl rfl) hS (lv_sub hl [0, 1, 3, 4, 5] rfl)
              · skip
                refine lv_aload_n hx hb dX7_readTest_54 rfl (lv_at hl 3 rfl) ?_
                refine lv_bipush (v := (-6)) hx hb dX7_readTest_55 (by decide) ?_
                refine cV (a := (Va 0)) (As := [.int (-6)]) (rest := []) (wr := [((Ta 0), .inr (10, [.ref (Ta 1), .int (Tv 0), .int vy_33, .int vy_34, .int vy_35, .int vy_36])), ((Ta 1), .inl (tc 0, 400, .inl (Tf 1)))]) ⟨hx, hb, hml, hown, hts⟩ hK hX hA (cu_kX7_put l D tc sk (Va 0) (Va 1) vy_30 vy_31 vy_32 (-6) rq_47 lq_52 pf_44 pf_53) k_642 k_639 k_641 k_10 k_99 pl_X7_put ⟨Nat.le_of_ble_eq_true rfl, Nat.le_of_ble_eq_true rfl⟩ rfl rfl (va_recv hK hP (ci := 7) (q0 := 0) rfl rfl) hP hD hS [0, 1] [2, 3] rfl rfl rfl rfl rfl (by decide) rfl hl.1 rfl (Nat.le_of_ble_eq_true rfl) dX7_readTest_57 ⟨Nat.le_of_ble_eq_true rfl, Nat.le_of_ble_eq_true rfl⟩ (fun v_394 u_395 H locs hv_396 hP₀ hD₀ hS₀ => ?_)
                obtain ⟨sv_397, sv_398⟩ := u_395
                obtain ⟨rfl, pf_399, pf_400⟩ := hv_396
                have pf_399 : 0 ≤ (sv_397 : Int32).toInt ∧ (sv_397 : Int32).toInt ≤ 400 := pf_399
                have pf_400 : CdK sv_398 sv_397 rq_47 (lq_52 ++ [((-6) : Int32).toInt]) := pf_400
                rw [show ((-6) : Int32).toInt = -6 by decide] at pf_400
                obtain ⟨ro_401, ero_401⟩ : ∃ z : List Int, z = (lq_52 ++ [-6]) := ⟨_, rfl⟩
                rw [← ero_401] at pf_400
                refine W.eq (g2 := F0 m 60 ls []) rfl ?_
                replace hP : va_P D classes [((Ta 0), .inr (10, [.ref (Ta 1), .int (Tv 0), .int vy_33, .int vy_34, .int vy_35, .int vy_36])), ((Ta 1), .inl (tc 0, 400, .inl (Tf 1))), ((Va 0), .inr (7, [.ref (Va 1), .int sv_397, .int vy_31])), ((Va 1), .inl (tc 0, 400, .inl sv_398))] H := hP₀
                replace hD : va_D A [((Ta 0), .inr (10, [.ref (Ta 1), .int (Tv 0), .int vy_33, .int vy_34, .int vy_35, .int vy_36])), ((Ta 1), .inl (tc 0, 400, .inl (Tf 1))), ((Va 0), .inr (7, [.ref (Va 1), .int sv_397, .int vy_31])), ((Va 1), .inl (tc 0, 400, .inl sv_398))] := hD₀
                replace hS := hS₀
                clear hP₀ hD₀ hS₀
                refine lv_aload_n hx hb dX7_readTest_60 rfl (lv_at hl 4 rfl) ?_
                refine cV (a := (Ta 0)) (As := []) (rest := []) (wr := [((Va 0), .inr (7, [.ref (Va 1), .int sv_397, .int vy_31])), ((Va 1), .inl (tc 0, 400, .inl sv_398))]) ⟨hx, hb, hml, hown, hts⟩ hK hX hA (cu_fX10_step l D tc sk (Ta 0) (Ta 1) (Tv 0) vy_33 vy_34 vy_35 vy_36 (Tf 1) (rTE (cB (Tf 1) (Tv 0)) rq_47) pf_43 h_by tb_55) k_478 k_620 k_476 k_477 k_96 pl_X10_step ⟨Nat.le_of_ble_eq_true rfl, Nat.le_of_ble_eq_true rfl⟩ rfl rfl (va_recv hK hP (ci := 10) (q0 := 0) rfl rfl) hP hD hS [0, 1] [2, 3] rfl rfl rfl rfl rfl (by decide) rfl hl.1 rfl (Nat.le_of_ble_eq_true rfl) dX7_readTest_61 ⟨Nat.le_of_ble_eq_true rfl, Nat.le_of_ble_eq_true rfl⟩ (fun v_402 u_403 H locs hv_404 hP₀ hD₀ hS₀ => ?_)
                obtain ⟨sv_405, sv_406, sv_407⟩ := u_403
                obtain ⟨rfl, pf_408, pf_409⟩ := hv_404
                have pf_408 : 0 ≤ ((Tv 0) : Int32).toInt ∧ ((Tv 0) : Int32).toInt ≤ 400 ∧ 0 ≤ (sv_405 : Int32).toInt ∧ (sv_405 : Int32).toInt ≤ 400 ∧ 0 ≤ (sv_406 : Int32).toInt ∧ (sv_406 : Int32).toInt ≤ 400 := pf_408
                have pf_409 : TpR (Tf 1) (Tv 0) (rSK (cB (Tf 1) (Tv 0)) (rTE (cB (Tf 1) (Tv 0)) rq_47)) sv_405 sv_406 sv_407 vy_36 := pf_409
                rw [rNX_eq] at pf_409
                obtain ⟨ro_410, ero_410⟩ : ∃ z : Except Int (Nat × Nat), z = (rNX (cB (Tf 1) (Tv 0)) rq_47) := ⟨_, rfl⟩
                rw [← ero_410] at pf_409
                have tb_411 : TpB (rTE (cB (Tf 1) (Tv 0)) ro_410) sv_406 vy_36 := TpR.tb pf_409
                have cd_412 : Ctd ro_410 vy_31 := by rw [ero_410]; exact (Ctd.nx pf_49)
                have ck_413 : CdK sv_398 sv_397 ro_410 ro_401 := by rw [ero_410]; exact (CdK.nx pf_400)
                refine W.eq (g2 := F0 m 64 ls []) rfl ?_
                replace hP : va_P D classes [((Va 0), .inr (7, [.ref (Va 1), .int sv_397, .int vy_31])), ((Va 1), .inl (tc 0, 400, .inl sv_398)), ((Ta 0), .inr (10, [.ref (Ta 1), .int (Tv 0), .int sv_405, .int sv_406, .int sv_407, .int vy_36])), ((Ta 1), .inl (tc 0, 400, .inl (Tf 1)))] H := hP₀
                replace hD : va_D A [((Va 0), .inr (7, [.ref (Va 1), .int sv_397, .int vy_31])), ((Va 1), .inl (tc 0, 400, .inl sv_398)), ((Ta 0), .inr (10, [.ref (Ta 1), .int (Tv 0), .int sv_405, .int sv_406, .int sv_407, .int vy_36])), ((Ta 1), .inl (tc 0, 400, .inl (Tf 1)))] := hD₀
                replace hS := hS₀
                clear hP₀ hD₀ hS₀
                refine lv_aload_n hx hb dX7_readTest_64 rfl (lv_at hl 3 rfl) ?_
                refine lv_aload_n hx hb dX7_readTest_65 rfl (lv_at hl 4 rfl) ?_
                refine lv_iload_n hx hb dX7_readTest_66 rfl (lv_at hl 5 rfl) ?_
                refine cV (a := (Va 0)) (As := [.ref (Ta 0), .int 4]) (rest := []) (wr := []) ⟨hx, hb, hml, hown, hts⟩ hK hX hA (cu_kX7_readFact_4 l D tc sk (Va 0) (Va 1) sv_397 vy_31 sv_398 (Ta 0) (Ta 1) (Tv 0) sv_405 sv_406 sv_407 vy_36 (Tf 1) ro_410 ro_401 pf_408 pf_399 h_by pf_409 cd_412 ck_413) k_659 k_656 k_658 k_12 k_99 pl_X7_readFact ⟨Nat.le_of_ble_eq_true rfl, Nat.le_of_ble_eq_true rfl⟩ rfl rfl (va_recv hK hP (ci := 7) (q0 := 0) rfl rfl) hP hD hS [0, 1, 2, 3] [] rfl rfl rfl rfl rfl (by decide) rfl hl.1 rfl (Nat.le_of_ble_eq_true rfl) dX7_readTest_67 ⟨Nat.le_of_ble_eq_true rfl, Nat.le_of_ble_eq_true rfl⟩ (fun v_414 u_415 H locs hv_416 hP₀ hD₀ hS₀ => ?_)
                obtain ⟨sv_417, sv_418, sv_419, sv_420, sv_421, sv_422, sv_423⟩ := u_415
                obtain ⟨rfl, pf_424, pf_425, pf_426, pf_427, pf_428⟩ := hv_416
                have pf_424 : 0 ≤ ((Tv 0) : Int32).toInt ∧ ((Tv 0) : Int32).toInt ≤ 400 ∧ 0 ≤ (sv_420 : Int32).toInt ∧ (sv_420 : Int32).toInt ≤ 400 ∧ 0 ≤ (sv_421 : Int32).toInt ∧ (sv_421 : Int32).toInt ≤ 400 := pf_424
                have pf_425 : 0 ≤ (sv_417 : Int32).toInt ∧ (sv_417 : Int32).toInt ≤ 400 := pf_425
                have pf_426 : TpR (Tf 1) (Tv 0) (pz_b ro_410 (pz_fact (cB (Tf 1) (Tv 0)) 6)) sv_420 sv_421 sv_422 sv_423 := pf_426
                obtain ⟨ro_429, ero_429⟩ : ∃ z : Except Int (Nat × Nat), z = (pz_b ro_410 (pz_fact (cB (Tf 1) (Tv 0)) 6)) := ⟨_, rfl⟩
                rw [← ero_429] at pf_426
                have tb_430 : TpB (rTE (cB (Tf 1) (Tv 0)) ro_429) sv_421 sv_423 := TpR.tb pf_426
                have pf_427 : Ctd (pz_b ro_410 (pz_fact (cB (Tf 1) (Tv 0)) 6)) sv_418 := pf_427
                rw [← ero_429] at pf_427
                have pf_428 : CdK sv_419 sv_417 (pz_b ro_410 (pz_fact (cB (Tf 1) (Tv 0)) 6)) (Ap ro_410 (ec_fact (cB (Tf 1) (Tv 0)) 6) ro_401) := pf_428
                rw [← ero_429] at pf_428
                obtain ⟨ro_431, ero_431⟩ : ∃ z : List Int, z = (Ap ro_410 (ec_fact (cB (Tf 1) (Tv 0)) 6) ro_401) := ⟨_, rfl⟩
                rw [← ero_431] at pf_428
                refine W.eq (g2 := F0 m 70 ls []) rfl ?_
                replace hP : va_P D classes [((Va 0), .inr (7, [.ref (Va 1), .int sv_417, .int sv_418])), ((Va 1), .inl (tc 0, 400, .inl sv_419)), ((Ta 0), .inr (10, [.ref (Ta 1), .int (Tv 0), .int sv_420, .int sv_421, .int sv_422, .int sv_423])), ((Ta 1), .inl (tc 0, 400, .inl (Tf 1)))] H := hP₀
                replace hD : va_D A [((Va 0), .inr (7, [.ref (Va 1), .int sv_417, .int sv_418])), ((Va 1), .inl (tc 0, 400, .inl sv_419)), ((Ta 0), .inr (10, [.ref (Ta 1), .int (Tv 0), .int sv_420, .int sv_421, .int sv_422, .int sv_423])), ((Ta 1), .inl (tc 0, 400, .inl (Tf 1)))] := hD₀
                replace hS := hS₀
                clear hP₀ hD₀ hS₀
                refine lv_iload hx hb dX7_readTest_70 (lv_at hl 0 rfl) ?_
                refine lv_if_eq (tgt := 80) hx hb dX7_readTest_72 (by decide) (fun c_432 => ?_) (fun c_432 => ?_)
                · skip
                  exfalso
                  have z_1 := Int32.lt_iff_toInt_lt.mp (Int32.not_le.mp c_56)
                  have z_2 := congrArg Int32.toInt c_88
                  have z_3 : ¬ (r_251 : Int32).toInt = (0 : Int32).toInt := fun z => c_256 (Int32.toInt_inj.mp z)
                  have z_4 : ¬ (r_293 : Int32).toInt = (0 : Int32).toInt := fun z => c_298 (Int32.toInt_inj.mp z)
                  have z_5 : ¬ (vy_37 : Int32).toInt = (0 : Int32).toInt := fun z => c_351 (Int32.toInt_inj.mp z)
                  have z_6 := congrArg Int32.toInt c_432
                  have y_0 : (0 : Int32).toInt = 0 := by decide
                  have y_400 : (400 : Int32).toInt = 400 := by decide
                  omega
                · skip
                  refine lv_iconst (v := 1) hx hb dX7_readTest_75 (by decide) ?_
                  refine lv_istore_n (lv' := [(3, .int 1), (5, .int r_293), (4, .int vy_29), (0, .ref (Va 0)), (1, .ref (Ta 0)), (2, .int 4)]) hx hb dX7_readTest_76 rfl hl (by decide) rfl (fun ls hl₀ => ?_)
                  replace hl := hl₀
                  clear hl₀
                  refine lv_goto (tgt := 86) hx hb dX7_readTest_77 (by decide) ?_
                  obtain ⟨x_433, ex_433⟩ : ∃ y : Int32, y = vy_29 + 1 := ⟨_, rfl⟩
                  refine lv_iinc (v := x_433) (lv' := [(4, .int x_433), (3, .int 1), (5, .int r_293), (0, .ref (Va 0)), (1, .ref (Ta 0)), (2, .int 4)]) hx hb dX7_readTest_86 hl (k := 2) rfl (by rw [ex_433]; rfl) (by decide) rfl (fun ls hl₀ => ?_)
                  replace hl := hl₀
                  clear hl₀
                  refine lv_goto (tgt := 11) hx hb dX7_readTest_89 (by decide) ?_
                  have hb_434 : 401 - (x_433 : Int32).toInt < 401 - (vy_29 : Int32).toInt ∧ 1 ≤ 401 - (vy_29 : Int32).toInt := by
                    have z_1 := Int32.lt_iff_toInt_lt.mp (Int32.not_le.mp c_56)
                    have z_2 := congrArg Int32.toInt c_88
                    have z_3 : ¬ (r_251 : Int32).toInt = (0 : Int32).toInt := fun z => c_256 (Int32.toInt_inj.mp z)
                    have z_4 : ¬ (r_293 : Int32).toInt = (0 : Int32).toInt := fun z => c_298 (Int32.toInt_inj.mp z)
                    have z_5 : ¬ (vy_37 : Int32).toInt = (0 : Int32).toInt := fun z => c_351 (Int32.toInt_inj.mp z)
                    have z_6 : ¬ (r_293 : Int32).toInt = (0 : Int32).toInt := fun z => c_432 (Int32.toInt_inj.mp z)
                    have y_0 : (0 : Int32).toInt = 0 := by decide
                    have y_400 : (400 : Int32).toInt = 400 := by decide
                    have y_1 : (1 : Int32).toInt = 1 := by decide
                    have t_x_433 : x_433.toInt = (vy_29 : Int32).toInt + (1 : Int32).toInt := by rw [ex_433]; exact add_toInt (by omega) (by omega)
                    omega
                  have ha_435 : 0 ≤ (x_433 : Int32).toInt ∧ (x_433 : Int32).toInt ≤ 400 := by
                    have z_1 := Int32.lt_iff_toInt_lt.mp (Int32.not_le.mp c_56)
                    have z_2 := congrArg Int32.toInt c_88
                    have z_3 : ¬ (r_251 : Int32).toInt = (0 : Int32).toInt := fun z => c_256 (Int32.toInt_inj.mp z)
                    have z_4 : ¬ (r_293 : Int32).toInt = (0 : Int32).toInt := fun z => c_298 (Int32.toInt_inj.mp z)
                    have z_5 : ¬ (vy_37 : Int32).toInt = (0 : Int32).toInt := fun z => c_351 (Int32.toInt_inj.mp z)
                    have z_6 : ¬ (r_293 : Int32).toInt = (0 : Int32).toInt := fun z => c_432 (Int32.toInt_inj.mp z)
                    have y_0 : (0 : Int32).toInt = 0 := by decide
                    have y_400 : (400 : Int32).toInt = 400 := by decide
                    have y_1 : (1 : Int32).toInt = 1 := by decide
                    have t_x_433 : x_433.toInt = (vy_29 : Int32).toInt + (1 : Int32).toInt := by rw [ex_433]; exact add_toInt (by omega) (by omega)
                    omega
                  have ha_436 : 0 ≤ (1 : Int32).toInt ∧ (1 : Int32).toInt ≤ 1 := by
                    have z_1 := Int32.lt_iff_toInt_lt.mp (Int32.not_le.mp c_56)
                    have z_2 := congrArg Int32.toInt c_88
                    have z_3 : ¬ (r_251 : Int32).toInt = (0 : Int32).toInt := fun z => c_256 (Int32.toInt_inj.mp z)
                    have z_4 : ¬ (r_293 : Int32).toInt = (0 : Int32).toInt := fun z => c_298 (Int32.toInt_inj.mp z)
                    have z_5 : ¬ (vy_37 : Int32).toInt = (0 : Int32).toInt := fun z => c_351 (Int32.toInt_inj.mp z)
                    have z_6 : ¬ (r_293 : Int32).toInt = (0 : Int32).toInt := fun z => c_432 (Int32.toInt_inj.mp z)
                    have y_0 : (0 : Int32).toInt = 0 := by decide
                    have y_400 : (400 : Int32).toInt = 400 := by decide
                    have y_1 : (1 : Int32).toInt = 1 := by decide
                    omega
                  have hu_437 : TpR (Tf 1) (Tv 0) (pz_b (rNX (cB (Tf 1) (Tv 0)) rq_47) (pz_fact (cB (Tf 1) (Tv 0)) 6)) sv_420 sv_421 sv_422 sv_423 := by
                    rw [← ero_410, ← ero_429]
                    exact pf_426
                  have hu_438 : Ctd (pz_b (rNX (cB (Tf 1) (Tv 0)) rq_47) (pz_fact (cB (Tf 1) (Tv 0)) 6)) sv_418 := by
                    rw [← ero_410, ← ero_429]
                    exact pf_427
                  have hu_439 : CdK sv_419 sv_417 (pz_b (rNX (cB (Tf 1) (Tv 0)) rq_47) (pz_fact (cB (Tf 1) (Tv 0)) 6)) (Ap (rNX (cB (Tf 1) (Tv 0)) rq_47) (ec_fact (cB (Tf 1) (Tv 0)) 6) (lq_52 ++ [-6])) := by
                    rw [← ero_401, ← ero_410, ← ero_429, ← ero_431]
                    exact pf_428
                  have hi_440 : (x_433 : Int32).toInt = (vy_29 : Int32).toInt + 1 := by
                    have z_1 := Int32.lt_iff_toInt_lt.mp (Int32.not_le.mp c_56)
                    have z_2 := congrArg Int32.toInt c_88
                    have z_3 : ¬ (r_251 : Int32).toInt = (0 : Int32).toInt := fun z => c_256 (Int32.toInt_inj.mp z)
                    have z_4 : ¬ (r_293 : Int32).toInt = (0 : Int32).toInt := fun z => c_298 (Int32.toInt_inj.mp z)
                    have z_5 : ¬ (vy_37 : Int32).toInt = (0 : Int32).toInt := fun z => c_351 (Int32.toInt_inj.mp z)
                    have z_6 : ¬ (r_293 : Int32).toInt = (0 : Int32).toInt := fun z => c_432 (Int32.toInt_inj.mp z)
                    have y_0 : (0 : Int32).toInt = 0 := by decide
                    have y_400 : (400 : Int32).toInt = 400 := by decide
                    have y_1 : (1 : Int32).toInt = 1 := by decide
                    have t_x_433 : x_433.toInt = (vy_29 : Int32).toInt + (1 : Int32).toInt := by rw [ex_433]; exact add_toInt (by omega) (by omega)
                    omega
                  have hr_441 : (vy_37 : Int32).toInt = 1 := by
                    have z_1 := Int32.lt_iff_toInt_lt.mp (Int32.not_le.mp c_56)
                    have z_2 := congrArg Int32.toInt c_88
                    have z_3 : ¬ (r_251 : Int32).toInt = (0 : Int32).toInt := fun z => c_256 (Int32.toInt_inj.mp z)
                    have z_4 : ¬ (r_293 : Int32).toInt = (0 : Int32).toInt := fun z => c_298 (Int32.toInt_inj.mp z)
                    have z_5 : ¬ (vy_37 : Int32).toInt = (0 : Int32).toInt := fun z => c_351 (Int32.toInt_inj.mp z)
                    have z_6 : ¬ (r_293 : Int32).toInt = (0 : Int32).toInt := fun z => c_432 (Int32.toInt_inj.mp z)
                    have y_0 : (0 : Int32).toInt = 0 := by decide
                    have y_400 : (400 : Int32).toInt = 400 := by decide
                    omega
                  have hr_442 : (1 : Int32).toInt = 1 := by
                    have z_1 := Int32.lt_iff_toInt_lt.mp (Int32.not_le.mp c_56)
                    have z_2 := congrArg Int32.toInt c_88
                    have z_3 : ¬ (r_251 : Int32).toInt = (0 : Int32).toInt := fun z => c_256 (Int32.toInt_inj.mp z)
                    have z_4 : ¬ (r_293 : Int32).toInt = (0 : Int32).toInt := fun z => c_298 (Int32.toInt_inj.mp z)
                    have z_5 : ¬ (vy_37 : Int32).toInt = (0 : Int32).toInt := fun z => c_351 (Int32.toInt_inj.mp z)
                    have z_6 : ¬ (r_293 : Int32).toInt = (0 : Int32).toInt := fun z => c_432 (Int32.toInt_inj.mp z)
                    have y_0 : (0 : Int32).toInt = 0 := by decide
                    have y_400 : (400 : Int32).toInt = 400 := by decide
                    have y_1 : (1 : Int32).toInt = 1 := by decide
                    omega
                  have hw_443 : TWd (cB (Tf 1) (Tv 0)) pz_or rq_47 := by
                    rw [← wS6]
                    exact pf_349
                  exact ih_39 x_433 sv_417 sv_418 sv_419 sv_420 sv_421 sv_422 sv_423 1 _ _ _ (by omega) ha_435 ha_436 pf_424 pf_425 (TeC.or1 h_tape.2.1 pf_50 pf_51 pf_54 hr_441 hr_442 hw_443 hu_437 hu_438 hu_439 hi_440) (hP.sub [0, 1, 2, 3] rfl) (hD.sub [0, 1, 2, 3] rfl rfl) hS (lv_sub hl [0, 1, 3, 4, 5] rfl)
  have ha_444 : 0 ≤ (0 : Int32).toInt ∧ (0 : Int32).toInt ≤ 400 := by
    have y_0 : (0 : Int32).toInt = 0 := by decide
    omega
  have ha_445 : 0 ≤ (0 : Int32).toInt ∧ (0 : Int32).toInt ≤ 1 := by
    have y_0 : (0 : Int32).toInt = 0 := by decide
    omega
  have hu_446 : TpR (Tf 1) (Tv 0) (pz_b rr (pz_fact (cB (Tf 1) (Tv 0)) 6)) sv_8 sv_9 sv_10 sv_11 := by
    rw [← ero_17]
    exact pf_14
  have hu_447 : Ctd (pz_b rr (pz_fact (cB (Tf 1) (Tv 0)) 6)) sv_6 := by
    rw [← ero_17]
    exact pf_15
  have hu_448 : CdK sv_7 sv_5 (pz_b rr (pz_fact (cB (Tf 1) (Tv 0)) 6)) (Ap rr (ec_fact (cB (Tf 1) (Tv 0)) 6) ll) := by
    rw [← ero_17, ← ero_19]
    exact pf_16
  have hr_449 : (0 : Int32).toInt = 0 := by
    have y_0 : (0 : Int32).toInt = 0 := by decide
    omega
  exact loop_40 _ 0 sv_5 sv_6 sv_7 sv_8 sv_9 sv_10 sv_11 0 _ _ _ (Nat.lt_succ_self _) ha_444 ha_445 pf_12 pf_13 (TeC.first hu_446 hu_447 hu_448 hr_449) hP hD hS hl
set_option maxRecDepth 100000 in
theorem cu_kX7_readTest_4 (l : Launch) (D : va_G) (tc : Nat → ClassId) (sk : (Nat → Nat) × (Nat → Nat)) (Va_0 : Nat) (Va_1 : Nat) (Vv_0 : Int32) (Vv_1 : Int32) (Vf_1 : Nat → Int32) (Ta_0 : Nat) (Ta_1 : Nat) (Tv_0 : Int32) (Tv_1 : Int32) (Tv_2 : Int32) (Tv_3 : Int32) (Tv_4 : Int32) (Tf_1 : Nat → Int32) (rr : Except Int (Nat × Nat)) (ll : List Int) (h_tape : 0 ≤ (Tv_0 : Int32).toInt ∧ (Tv_0 : Int32).toInt ≤ 400 ∧ 0 ≤ (Tv_1 : Int32).toInt ∧ (Tv_1 : Int32).toInt ≤ 400 ∧ 0 ≤ (Tv_2 : Int32).toInt ∧ (Tv_2 : Int32).toInt ≤ 400) (h_u : 0 ≤ (Vv_0 : Int32).toInt ∧ (Vv_0 : Int32).toInt ≤ 400) (h_by : Byt Tf_1) (h_r : TpR Tf_1 Tv_0 rr Tv_1 Tv_2 Tv_3 Tv_4) (h_ct : Ctd rr Vv_1) (h_cd : CdK Vf_1 Vv_0 rr ll) : Ct l yX7_readTest cX7_readTest 6 none { frames := 21, cells := 0, slots := 0, locals := 498 } D tc sk [.ref Va_0, .ref Ta_0, .int 4] [(Va_0, .inr (7, [.ref Va_1, .int Vv_0, .int Vv_1])), (Va_1, .inl (tc 0, 400, .inl Vf_1)), (Ta_0, .inr (10, [.ref Ta_1, .int Tv_0, .int Tv_1, .int Tv_2, .int Tv_3, .int Tv_4])), (Ta_1, .inl (tc 0, 400, .inl Tf_1))] (fun (v : Option Value) (u : (Int32) × (Int32) × (Nat → Int32) × (Int32) × (Int32) × (Int32) × (Int32)) => match u with | (oo0x1, oo0x2, oo0x3, oo0x4, oo0x5, oo0x6, oo0x7) => v = none ∧ (0 ≤ (Tv_0 : Int32).toInt ∧ (Tv_0 : Int32).toInt ≤ 400 ∧ 0 ≤ (oo0x4 : Int32).toInt ∧ (oo0x4 : Int32).toInt ≤ 400 ∧ 0 ≤ (oo0x5 : Int32).toInt ∧ (oo0x5 : Int32).toInt ≤ 400) ∧ (0 ≤ (oo0x1 : Int32).toInt ∧ (oo0x1 : Int32).toInt ≤ 400) ∧ (TpR Tf_1 Tv_0 (pz_b rr (pz_tst (cB Tf_1 Tv_0) (pz_fact (cB Tf_1 Tv_0) 6))) oo0x4 oo0x5 oo0x6 oo0x7) ∧ (Ctd (pz_b rr (pz_tst (cB Tf_1 Tv_0) (pz_fact (cB Tf_1 Tv_0) 6))) oo0x2) ∧ (CdK oo0x3 oo0x1 (pz_b rr (pz_tst (cB Tf_1 Tv_0) (pz_fact (cB Tf_1 Tv_0) 6))) (Ap rr (ltst (cB Tf_1 Tv_0) 6) ll))) (fun (u : (Int32) × (Int32) × (Nat → Int32) × (Int32) × (Int32) × (Int32) × (Int32)) => match u with | (oo0x1, oo0x2, oo0x3, oo0x4, oo0x5, oo0x6, oo0x7) => [(Va_0, .inr (7, [.ref Va_1, .int oo0x1, .int oo0x2])), (Va_1, .inl (tc 0, 400, .inl oo0x3)), (Ta_0, .inr (10, [.ref Ta_1, .int Tv_0, .int oo0x4, .int oo0x5, .int oo0x6, .int oo0x7])), (Ta_1, .inl (tc 0, 400, .inl Tf_1))]) 0 0 :=
  ct_kX7_readTest_4 l D tc sk (fun k => ([Va_0, Va_1] : List (Nat)).getD k 0) (fun k => ([Vv_0, Vv_1] : List (Int32)).getD k 0) (fun k => ([(fun _ => 0), Vf_1] : List (Nat → Int32)).getD k (fun _ => 0)) (fun k => ([Ta_0, Ta_1] : List (Nat)).getD k 0) (fun k => ([Tv_0, Tv_1, Tv_2, Tv_3, Tv_4] : List (Int32)).getD k 0) (fun k => ([(fun _ => 0), Tf_1] : List (Nat → Int32)).getD k (fun _ => 0)) rr ll h_tape h_u h_by h_r h_ct h_cd
