set_option maxHeartbeats 4000000 in
set_option maxRecDepth 100000 in
theorem ct_fX7_read (l : Launch) (D : va_G) (tc : Nat → ClassId) (sk : (Nat → Nat) × (Nat → Nat)) (Va : Nat → Nat) (Vv : Nat → Int32) (Vf : Nat → Nat → Int32) (Ta : Nat → Nat) (Tv : Nat → Int32) (Tf : Nat → Nat → Int32) (h_tape : 0 ≤ ((Tv 0) : Int32).toInt ∧ ((Tv 0) : Int32).toInt ≤ 400 ∧ 0 ≤ ((Tv 1) : Int32).toInt ∧ ((Tv 1) : Int32).toInt ≤ 400 ∧ 0 ≤ ((Tv 2) : Int32).toInt ∧ ((Tv 2) : Int32).toInt ≤ 400) (h_by : Byt (Tf 1)) : Ct l yX7_read cX7_read 3 (some (.object "PoisonBook$Rule")) { frames := 30, cells := 3, slots := 466, locals := 719 } D tc sk [.ref (Va 0), .ref (Ta 0)] [((Va 0), .inr (7, [.ref (Va 1), .int (Vv 0), .int (Vv 1)])), ((Va 1), .inl (tc 0, 400, .inl (Vf 1))), ((Ta 0), .inr (10, [.ref (Ta 1), .int (Tv 0), .int (Tv 1), .int (Tv 2), .int (Tv 3), .int (Tv 4)])), ((Ta 1), .inl (tc 0, 400, .inl (Tf 1)))] (fun (v : Option Value) (u : (Bool) × (Nat) × (Nat) × (Nat) × (Int32) × (Int32) × (Nat → Int32) × (Int32) × (Int32) × (Int32) × (Int32) × (Nat → Int32) × (Nat) × (Int32) × (Int32) × (Nat → Int32) × (Int32) × (Int32) × (Int32) × (Int32)) => match u with | (true, na0x0, na0x1, na0x2, oo0x1, oo0x2, oo0x3, oo0x4, oo0x5, oo0x6, oo0x7, oo0x8, nn0x5, oo1x1, oo1x2, oo1x3, oo1x4, oo1x5, oo1x6, oo1x7) => v = some (.ref na0x0) ∧ (0 ≤ ((Tv 0) : Int32).toInt ∧ ((Tv 0) : Int32).toInt ≤ 400 ∧ 0 ≤ (oo0x4 : Int32).toInt ∧ (oo0x4 : Int32).toInt ≤ 400 ∧ 0 ≤ (oo0x5 : Int32).toInt ∧ (oo0x5 : Int32).toInt ≤ 400) ∧ (0 ≤ (oo0x1 : Int32).toInt ∧ (oo0x1 : Int32).toInt ≤ 400) ∧ (RuK (cB (Tf 1) (Tv 0))) ∧ (nn0x5 ≤ 400) | (false, na0x0, na0x1, na0x2, oo0x1, oo0x2, oo0x3, oo0x4, oo0x5, oo0x6, oo0x7, oo0x8, nn0x5, oo1x1, oo1x2, oo1x3, oo1x4, oo1x5, oo1x6, oo1x7) => v = some (.null) ∧ (0 ≤ ((Tv 0) : Int32).toInt ∧ ((Tv 0) : Int32).toInt ≤ 400 ∧ 0 ≤ (oo1x4 : Int32).toInt ∧ (oo1x4 : Int32).toInt ≤ 400 ∧ 0 ≤ (oo1x5 : Int32).toInt ∧ (oo1x5 : Int32).toInt ≤ 400) ∧ (0 ≤ (oo1x1 : Int32).toInt ∧ (oo1x1 : Int32).toInt ≤ 400) ∧ (RuF (cB (Tf 1) (Tv 0)) oo1x7)) (fun (u : (Bool) × (Nat) × (Nat) × (Nat) × (Int32) × (Int32) × (Nat → Int32) × (Int32) × (Int32) × (Int32) × (Int32) × (Nat → Int32) × (Nat) × (Int32) × (Int32) × (Nat → Int32) × (Int32) × (Int32) × (Int32) × (Int32)) => match u with | (true, na0x0, na0x1, na0x2, oo0x1, oo0x2, oo0x3, oo0x4, oo0x5, oo0x6, oo0x7, oo0x8, nn0x5, oo1x1, oo1x2, oo1x3, oo1x4, oo1x5, oo1x6, oo1x7) => [((Va 0), .inr (7, [.ref (Va 1), .int oo0x1, .int oo0x2])), ((Va 1), .inl (tc 0, 400, .inl oo0x3)), ((Ta 0), .inr (10, [.ref (Ta 1), .int (Tv 0), .int oo0x4, .int oo0x5, .int oo0x6, .int oo0x7])), ((Ta 1), .inl (tc 0, 400, .inl (Tf 1))), (na0x0, .inr (6, [.ref na0x1, .ref na0x2])), (na0x1, .inl (tc 0, nn0x5, .inl oo0x8)), (na0x2, .inl (tc 1, 64, .inr (.inl (fun _ => 0))))] | (false, na0x0, na0x1, na0x2, oo0x1, oo0x2, oo0x3, oo0x4, oo0x5, oo0x6, oo0x7, oo0x8, nn0x5, oo1x1, oo1x2, oo1x3, oo1x4, oo1x5, oo1x6, oo1x7) => [((Va 0), .inr (7, [.ref (Va 1), .int oo1x1, .int oo1x2])), ((Va 1), .inl (tc 0, 400, .inl oo1x3)), ((Ta 0), .inr (10, [.ref (Ta 1), .int (Tv 0), .int oo1x4, .int oo1x5, .int oo1x6, .int oo1x7])), ((Ta 1), .inl (tc 0, 400, .inl (Tf 1)))]) 3 466 := by
  refine Ct.start (by decide) (Nat.le_of_ble_eq_true rfl) (fun p e s m below meth c A ls hx hb hr hlk hin hml hown hts hK hX hP hD hA hl hS => ?_)
  have hl : lv_has ls 3 [(0, .ref (Va 0)), (1, .ref (Ta 0))] := hl
  refine lv_aload_n hx hb dX7_read_0 rfl (lv_at hl 0 rfl) ?_
  refine lv_iconst (v := 0) hx hb dX7_read_1 (by decide) ?_
  refine pf_X7_15 hx hb hts hown hK hP hD hS 0 rfl (Nat.le_of_ble_eq_true rfl) rfl rfl dX7_read_2 (fun H locs hP₀ hD₀ hS₀ => ?_)
  replace hP : va_P D classes [((Va 0), .inr (7, [.ref (Va 1), .int 0, .int (Vv 1)])), ((Va 1), .inl (tc 0, 400, .inl (Vf 1))), ((Ta 0), .inr (10, [.ref (Ta 1), .int (Tv 0), .int (Tv 1), .int (Tv 2), .int (Tv 3), .int (Tv 4)])), ((Ta 1), .inl (tc 0, 400, .inl (Tf 1)))] H := hP₀
  replace hD : va_D A [((Va 0), .inr (7, [.ref (Va 1), .int 0, .int (Vv 1)])), ((Va 1), .inl (tc 0, 400, .inl (Vf 1))), ((Ta 0), .inr (10, [.ref (Ta 1), .int (Tv 0), .int (Tv 1), .int (Tv 2), .int (Tv 3), .int (Tv 4)])), ((Ta 1), .inl (tc 0, 400, .inl (Tf 1)))] := hD₀
  replace hS := hS₀
  clear hP₀ hD₀ hS₀
  refine lv_aload_n hx hb dX7_read_5 rfl (lv_at hl 0 rfl) ?_
  refine lv_iconst (v := 0) hx hb dX7_read_6 (by decide) ?_
  refine pf_X7_19 hx hb hts hown hK hP hD hS 0 rfl (Nat.le_of_ble_eq_true rfl) rfl rfl dX7_read_7 (fun H locs hP₀ hD₀ hS₀ => ?_)
  replace hP : va_P D classes [((Va 0), .inr (7, [.ref (Va 1), .int 0, .int 0])), ((Va 1), .inl (tc 0, 400, .inl (Vf 1))), ((Ta 0), .inr (10, [.ref (Ta 1), .int (Tv 0), .int (Tv 1), .int (Tv 2), .int (Tv 3), .int (Tv 4)])), ((Ta 1), .inl (tc 0, 400, .inl (Tf 1)))] H := hP₀
  replace hD : va_D A [((Va 0), .inr (7, [.ref (Va 1), .int 0, .int 0])), ((Va 1), .inl (tc 0, 400, .inl (Vf 1))), ((Ta 0), .inr (10, [.ref (Ta 1), .int (Tv 0), .int (Tv 1), .int (Tv 2), .int (Tv 3), .int (Tv 4)])), ((Ta 1), .inl (tc 0, 400, .inl (Tf 1)))] := hD₀
  replace hS := hS₀
  clear hP₀ hD₀ hS₀
  refine lv_aload_n hx hb dX7_read_10 rfl (lv_at hl 1 rfl) ?_
  refine cV (a := (Ta 0)) (As := []) (rest := []) (wr := [((Va 0), .inr (7, [.ref (Va 1), .int 0, .int 0])), ((Va 1), .inl (tc 0, 400, .inl (Vf 1)))]) ⟨hx, hb, hml, hown, hts⟩ hK hX hA (cu_fX10_begin l D tc sk (Ta 0) (Ta 1) (Tv 0) (Tv 1) (Tv 2) (Tv 3) (Tv 4) (Tf 1) h_tape h_by) k_474 k_612 k_472 k_473 k_96 pl_X10_begin ⟨Nat.le_of_ble_eq_true rfl, Nat.le_of_ble_eq_true rfl⟩ rfl rfl (va_recv hK hP (ci := 10) (q0 := 2) rfl rfl) hP hD hS [2, 3] [0, 1] rfl rfl rfl rfl rfl (by decide) rfl hl.1 rfl (Nat.le_of_ble_eq_true rfl) dX7_read_11 ⟨Nat.le_of_ble_eq_true rfl, Nat.le_of_ble_eq_true rfl⟩ (fun v_1 u_2 H locs hv_3 hP₀ hD₀ hS₀ => ?_)
  obtain ⟨sv_4, sv_5, sv_6⟩ := u_2
  obtain ⟨rfl, pf_7, pf_8⟩ := hv_3
  have pf_7 : 0 ≤ ((Tv 0) : Int32).toInt ∧ ((Tv 0) : Int32).toInt ≤ 400 ∧ 0 ≤ (sv_4 : Int32).toInt ∧ (sv_4 : Int32).toInt ≤ 400 ∧ 0 ≤ (sv_5 : Int32).toInt ∧ (sv_5 : Int32).toInt ≤ 400 := pf_7
  have pf_8 : TpR (Tf 1) (Tv 0) (rSK (cB (Tf 1) (Tv 0)) (.ok (0, 0))) sv_4 sv_5 sv_6 0 := pf_8
  obtain ⟨ro_9, ero_9⟩ : ∃ z : Except Int (Nat × Nat), z = (rSK (cB (Tf 1) (Tv 0)) (.ok (0, 0))) := ⟨_, rfl⟩
  rw [← ero_9] at pf_8
  have tb_10 : TpB (rTE (cB (Tf 1) (Tv 0)) ro_9) sv_5 0 := TpR.tb pf_8
  refine W.eq (g2 := F0 m 14 ls []) rfl ?_
  replace hP : va_P D classes [((Va 0), .inr (7, [.ref (Va 1), .int 0, .int 0])), ((Va 1), .inl (tc 0, 400, .inl (Vf 1))), ((Ta 0), .inr (10, [.ref (Ta 1), .int (Tv 0), .int sv_4, .int sv_5, .int sv_6, .int 0])), ((Ta 1), .inl (tc 0, 400, .inl (Tf 1)))] H := hP₀
  replace hD : va_D A [((Va 0), .inr (7, [.ref (Va 1), .int 0, .int 0])), ((Va 1), .inl (tc 0, 400, .inl (Vf 1))), ((Ta 0), .inr (10, [.ref (Ta 1), .int (Tv 0), .int sv_4, .int sv_5, .int sv_6, .int 0])), ((Ta 1), .inl (tc 0, 400, .inl (Tf 1)))] := hD₀
  replace hS := hS₀
  clear hP₀ hD₀ hS₀
  refine lv_iconst (v := 0) hx hb dX7_read_14 (by decide) ?_
  refine lv_istore_n (lv' := [(2, .int 0), (0, .ref (Va 0)), (1, .ref (Ta 0))]) hx hb dX7_read_15 rfl hl (by decide) rfl (fun ls hl₀ => ?_)
  replace hl := hl₀
  clear hl₀
  have loop_29 : ∀ (n_27 : Nat) (vy_19 : Int32) (vy_20 : Int32) (vy_21 : Int32) (vy_22 : Nat → Int32) (vy_23 : Int32) (vy_24 : Int32) (vy_25 : Int32) (vy_26 : Int32) (H : Heap) (locs : List Loc) (ls : Array Slot), (14 - (vy_19 : Int32).toInt).toNat < n_27 → (0 ≤ (vy_19 : Int32).toInt ∧ (vy_19 : Int32).toInt ≤ 13) → (0 ≤ ((Tv 0) : Int32).toInt ∧ ((Tv 0) : Int32).toInt ≤ 400 ∧ 0 ≤ (vy_23 : Int32).toInt ∧ (vy_23 : Int32).toInt ≤ 400 ∧ 0 ≤ (vy_24 : Int32).toInt ∧ (vy_24 : Int32).toInt ≤ 400) → (0 ≤ (vy_20 : Int32).toInt ∧ (vy_20 : Int32).toInt ≤ 400) → (RcL (Tf 1) (Tv 0) vy_23 vy_24 vy_25 vy_26 vy_21 vy_19) → va_P D classes [((Va 0), .inr (7, [.ref (Va 1), .int vy_20, .int vy_21])), ((Va 1), .inl (tc 0, 400, .inl vy_22)), ((Ta 0), .inr (10, [.ref (Ta 1), .int (Tv 0), .int vy_23, .int vy_24, .int vy_25, .int vy_26])), ((Ta 1), .inl (tc 0, 400, .inl (Tf 1)))] H → va_D A [((Va 0), .inr (7, [.ref (Va 1), .int vy_20, .int vy_21])), ((Va 1), .inl (tc 0, 400, .inl vy_22)), ((Ta 0), .inr (10, [.ref (Ta 1), .int (Tv 0), .int vy_23, .int vy_24, .int vy_25, .int vy_26])), ((Ta 1), .inl (tc 0, 400, .inl (Tf 1)))] → va_S A s.heap H locs → lv_has ls 3 [(2, .int vy_19), (0, .ref (Va 0)), (1, .ref (Ta 0))] → W p l e ({ frames := 30, cells := 3, slots := 466, locals := 719 }) s m ([.ref (Va 0), .ref (Ta 0)].toArray) below meth c H locs 0 0 (MQ below (QW (fun (v : Option Value) (u : (Bool) × (Nat) × (Nat) × (Nat) × (Int32) × (Int32) × (Nat → Int32) × (Int32) × (Int32) × (Int32) × (Int32) × (Nat → Int32) × (Nat) × (Int32) × (Int32) × (Nat → Int32) × (Int32) × (Int32) × (Int32) × (Int32)) => match u with | (true, na0x0, na0x1, na0x2, oo0x1, oo0x2, oo0x3, oo0x4, oo0x5, oo0x6, oo0x7, oo0x8, nn0x5, oo1x1, oo1x2, oo1x3, oo1x4, oo1x5, oo1x6, oo1x7) => v = some (.ref na0x0) ∧ (0 ≤ ((Tv 0) : Int32).toInt ∧ ((Tv 0) : Int32).toInt ≤ 400 ∧ 0 ≤ (oo0x4 : Int32).toInt ∧ (oo0x4 : Int32).toInt ≤ 400 ∧ 0 ≤ (oo0x5 : Int32).toInt ∧ (oo0x5 : Int32).toInt ≤ 400) ∧ (0 ≤ (oo0x1 : Int32).toInt ∧ (oo0x1 : Int32).toInt ≤ 400) ∧ (RuK (cB (Tf 1) (Tv 0))) ∧ (nn0x5 ≤ 400) | (false, na0x0, na0x1, na0x2, oo0x1, oo0x2, oo0x3, oo0x4, oo0x5, oo0x6, oo0x7, oo0x8, nn0x5, oo1x1, oo1x2, oo1x3, oo1x4, oo1x5, oo1x6, oo1x7) => v = some (.null) ∧ (0 ≤ ((Tv 0) : Int32).toInt ∧ ((Tv 0) : Int32).toInt ≤ 400 ∧ 0 ≤ (oo1x4 : Int32).toInt ∧ (oo1x4 : Int32).toInt ≤ 400 ∧ 0 ≤ (oo1x5 : Int32).toInt ∧ (oo1x5 : Int32).toInt ≤ 400) ∧ (0 ≤ (oo1x1 : Int32).toInt ∧ (oo1x1 : Int32).toInt ≤ 400) ∧ (RuF (cB (Tf 1) (Tv 0)) oo1x7)) (BW D (fun (u : (Bool) × (Nat) × (Nat) × (Nat) × (Int32) × (Int32) × (Nat → Int32) × (Int32) × (Int32) × (Int32) × (Int32) × (Nat → Int32) × (Nat) × (Int32) × (Int32) × (Nat → Int32) × (Int32) × (Int32) × (Int32) × (Int32)) => match u with | (true, na0x0, na0x1, na0x2, oo0x1, oo0x2, oo0x3, oo0x4, oo0x5, oo0x6, oo0x7, oo0x8, nn0x5, oo1x1, oo1x2, oo1x3, oo1x4, oo1x5, oo1x6, oo1x7) => [((Va 0), .inr (7, [.ref (Va 1), .int oo0x1, .int oo0x2])), ((Va 1), .inl (tc 0, 400, .inl oo0x3)), ((Ta 0), .inr (10, [.ref (Ta 1), .int (Tv 0), .int oo0x4, .int oo0x5, .int oo0x6, .int oo0x7])), ((Ta 1), .inl (tc 0, 400, .inl (Tf 1))), (na0x0, .inr (6, [.ref na0x1, .ref na0x2])), (na0x1, .inl (tc 0, nn0x5, .inl oo0x8)), (na0x2, .inl (tc 1, 64, .inr (.inl (fun _ => 0))))] | (false, na0x0, na0x1, na0x2, oo0x1, oo0x2, oo0x3, oo0x4, oo0x5, oo0x6, oo0x7, oo0x8, nn0x5, oo1x1, oo1x2, oo1x3, oo1x4, oo1x5, oo1x6, oo1x7) => [((Va 0), .inr (7, [.ref (Va 1), .int oo1x1, .int oo1x2])), ((Va 1), .inl (tc 0, 400, .inl oo1x3)), ((Ta 0), .inr (10, [.ref (Ta 1), .int (Tv 0), .int oo1x4, .int oo1x5, .int oo1x6, .int oo1x7])), ((Ta 1), .inl (tc 0, 400, .inl (Tf 1)))]) A) A) ([.ref (Va 0), .ref (Ta 0)].toArray) s 3 466 A) (F0 m 16 ls []) := by
    clear hP hD hS hl
    intro n_27
    induction n_27 with
    | zero =>
      intro vy_19 vy_20 vy_21 vy_22 vy_23 vy_24 vy_25 vy_26 H locs ls h1
      exact absurd h1 (Nat.not_lt_zero _)
    | succ n_27 ih_28 =>
      intro vy_19 vy_20 vy_21 vy_22 vy_23 vy_24 vy_25 vy_26 H locs ls hn_34 pf_30 pf_31 pf_32 pf_33 hP hD hS hl
      obtain ⟨rq_35, pf_36, pf_37, pf_38⟩ := id pf_33
      have tb_39 : TpB (rTE (cB (Tf 1) (Tv 0)) rq_35) vy_24 vy_26 := TpR.tb pf_36
      refine lv_iload_n hx hb dX7_read_16 rfl (lv_at hl 0 rfl) ?_
      refine lv_bipush (v := 12) hx hb dX7_read_17 (by decide) ?_
      refine lv_icmp_gt (tgt := 108) hx hb dX7_read_19 (by decide) (fun c_40 => ?_) (fun c_40 => ?_)
      · skip
        refine lv_aload_n hx hb dX7_read_108 rfl (lv_at hl 2 rfl) ?_
        refine cV (a := (Ta 0)) (As := []) (rest := []) (wr := [((Va 0), .inr (7, [.ref (Va 1), .int vy_20, .int vy_21])), ((Va 1), .inl (tc 0, 400, .inl vy_22))]) ⟨hx, hb, hml, hown, hts⟩ hK hX hA (cu_fX10_finish l D tc sk (Ta 0) (Ta 1) (Tv 0) vy_23 vy_24 vy_25 vy_26 (Tf 1) rq_35 pf_31 h_by pf_36) k_595 k_666 k_593 k_594 k_96 pl_X10_finish ⟨Nat.le_of_ble_eq_true rfl, Nat.le_of_ble_eq_true rfl⟩ rfl rfl (va_recv hK hP (ci := 10) (q0 := 2) rfl rfl) hP hD hS [2, 3] [0, 1] rfl rfl rfl rfl rfl (by decide) rfl hl.1 rfl (Nat.le_of_ble_eq_true rfl) dX7_read_109 ⟨Nat.le_of_ble_eq_true rfl, Nat.le_of_ble_eq_true rfl⟩ (fun v_41 u_42 H locs hv_43 hP₀ hD₀ hS₀ => ?_)
        obtain ⟨sv_44, sv_45⟩ := u_42
        obtain ⟨rfl, pf_46, pf_47⟩ := hv_43
        have pf_46 : 0 ≤ ((Tv 0) : Int32).toInt ∧ ((Tv 0) : Int32).toInt ≤ 400 ∧ 0 ≤ (vy_23 : Int32).toInt ∧ (vy_23 : Int32).toInt ≤ 400 ∧ 0 ≤ (vy_24 : Int32).toInt ∧ (vy_24 : Int32).toInt ≤ 400 := pf_46
        have pf_47 : TpR (Tf 1) (Tv 0) (rEN (cB (Tf 1) (Tv 0)) rq_35) vy_23 vy_24 sv_44 sv_45 := pf_47
        obtain ⟨ro_48, ero_48⟩ : ∃ z : Except Int (Nat × Nat), z = (rEN (cB (Tf 1) (Tv 0)) rq_35) := ⟨_, rfl⟩
        rw [← ero_48] at pf_47
        have tb_49 : TpB (rTE (cB (Tf 1) (Tv 0)) ro_48) vy_24 sv_45 := TpR.tb pf_47
        refine W.eq (g2 := F0 m 112 ls []) rfl ?_
        replace hP : va_P D classes [((Va 0), .inr (7, [.ref (Va 1), .int vy_20, .int vy_21])), ((Va 1), .inl (tc 0, 400, .inl vy_22)), ((Ta 0), .inr (10, [.ref (Ta 1), .int (Tv 0), .int vy_23, .int vy_24, .int sv_44, .int sv_45])), ((Ta 1), .inl (tc 0, 400, .inl (Tf 1)))] H := hP₀
        replace hD : va_D A [((Va 0), .inr (7, [.ref (Va 1), .int vy_20, .int vy_21])), ((Va 1), .inl (tc 0, 400, .inl vy_22)), ((Ta 0), .inr (10, [.ref (Ta 1), .int (Tv 0), .int vy_23, .int vy_24, .int sv_44, .int sv_45])), ((Ta 1), .inl (tc 0, 400, .inl (Tf 1)))] := hD₀
        replace hS := hS₀
        clear hP₀ hD₀ hS₀
        refine lv_aload_n hx hb dX7_read_112 rfl (lv_at hl 2 rfl) ?_
        refine gf_X7_65 hx hb hts hown hK hP 2 rfl rfl dX7_read_113 ?_
        refine lv_if_ne (tgt := 138) hx hb dX7_read_116 (by decide) (fun c_50 => ?_) (fun c_50 => ?_)
        · skip
          refine lv_null hx hb dX7_read_138 ?_
          have hu_51 : TpR (Tf 1) (Tv 0) (rEN (cB (Tf 1) (Tv 0)) rq_35) vy_23 vy_24 sv_44 sv_45 := by
            rw [← ero_48]
            exact pf_47
          have hr_52 : 12 < (vy_19 : Int32).toInt := by
            have z_1 := Int32.lt_iff_toInt_lt.mp c_40
            have z_2 : ¬ (sv_45 : Int32).toInt = (0 : Int32).toInt := fun z => c_50 (Int32.toInt_inj.mp z)
            have y_0 : (0 : Int32).toInt = 0 := by decide
            have y_12 : (12 : Int32).toInt = 12 := by decide
            omega
          have hr_53 : ¬ (vy_19 : Int32).toInt = 0 := by
            have z_1 := Int32.lt_iff_toInt_lt.mp c_40
            have z_2 : ¬ (sv_45 : Int32).toInt = (0 : Int32).toInt := fun z => c_50 (Int32.toInt_inj.mp z)
            have y_0 : (0 : Int32).toInt = 0 := by decide
            have y_12 : (12 : Int32).toInt = 12 := by decide
            omega
          have hr_54 : ¬ (sv_45 : Int32).toInt = 0 := by
            have z_1 := Int32.lt_iff_toInt_lt.mp c_40
            have z_2 : ¬ (sv_45 : Int32).toInt = (0 : Int32).toInt := fun z => c_50 (Int32.toInt_inj.mp z)
            have y_0 : (0 : Int32).toInt = 0 := by decide
            have y_12 : (12 : Int32).toInt = 12 := by decide
            omega
          exact retA (v := .null) hx hb hr hlk (Or.inl ⟨_, rfl⟩) (Or.inl rfl) hP hD hS (false, 0, 0, 0, 0, 0, (fun _ => 0), 0, 0, 0, 0, (fun _ => 0), 0, vy_20, vy_21, vy_22, vy_23, vy_24, sv_44, sv_45) ⟨rfl, pf_46, pf_32, (RuF.of (RcL.fin pf_38 hr_53 (Or.inl hr_52)) hu_51 hr_54)⟩ [0, 1, 2, 3] rfl rfl dX7_read_139 (Nat.le_of_ble_eq_true rfl) (Nat.le_of_ble_eq_true rfl) rfl
        · skip
          refine lv_aload_n hx hb dX7_read_119 rfl (lv_at hl 1 rfl) ?_
          refine gf_X7_15 hx hb hts hown hK hP 0 rfl rfl dX7_read_120 ?_
          refine lv_if_lt (tgt := 138) hx hb dX7_read_123 (by decide) (fun c_55 => ?_) (fun c_55 => ?_)
          · skip
            refine lv_null hx hb dX7_read_138 ?_
            have hu_56 : TpR (Tf 1) (Tv 0) (rEN (cB (Tf 1) (Tv 0)) rq_35) vy_23 vy_24 sv_44 sv_45 := by
              rw [← ero_48]
              exact pf_47
            have hr_57 : 12 < (vy_19 : Int32).toInt := by
              have z_1 := Int32.lt_iff_toInt_lt.mp c_40
              have z_2 := congrArg Int32.toInt c_50
              have z_3 := Int32.lt_iff_toInt_lt.mp c_55
              have y_0 : (0 : Int32).toInt = 0 := by decide
              have y_12 : (12 : Int32).toInt = 12 := by decide
              omega
            have hr_58 : ¬ (vy_19 : Int32).toInt = 0 := by
              have z_1 := Int32.lt_iff_toInt_lt.mp c_40
              have z_2 := congrArg Int32.toInt c_50
              have z_3 := Int32.lt_iff_toInt_lt.mp c_55
              have y_0 : (0 : Int32).toInt = 0 := by decide
              have y_12 : (12 : Int32).toInt = 12 := by decide
              omega
            have hr_59 : ¬ (sv_45 : Int32).toInt = 0 := by
              have z_1 := Int32.lt_iff_toInt_lt.mp c_40
              have z_2 := congrArg Int32.toInt c_50
              have z_3 := Int32.lt_iff_toInt_lt.mp c_55
              have y_0 : (0 : Int32).toInt = 0 := by decide
              have y_12 : (12 : Int32).toInt = 12 := by decide
              omega
            exact retA (v := .null) hx hb hr hlk (Or.inl ⟨_, rfl⟩) (Or.inl rfl) hP hD hS (false, 0, 0, 0, 0, 0, (fun _ => 0), 0, 0, 0, 0, (fun _ => 0), 0, vy_20, vy_21, vy_22, vy_23, vy_24, sv_44, sv_45) ⟨rfl, pf_46, pf_32, (RuF.of (RcL.fin pf_38 hr_58 (Or.inl hr_57)) hu_56 hr_59)⟩ [0, 1, 2, 3] rfl rfl dX7_read_139 (Nat.le_of_ble_eq_true rfl) (Nat.le_of_ble_eq_true rfl) rfl
          · skip
            refine lv_aload_n hx hb dX7_read_126 rfl (lv_at hl 1 rfl) ?_
            refine gf_X7_15 hx hb hts hown hK hP 0 rfl rfl dX7_read_127 ?_
            refine lv_aload_n hx hb dX7_read_130 rfl (lv_at hl 1 rfl) ?_
            refine gf_X7_9 hx hb hts hown hK hP 0 rfl rfl dX7_read_131 ?_
            refine va_alen hx hb hK hP 1 0 rfl rfl (v := 400) rfl dX7_read_134 ?_
            refine lv_icmp_le (tgt := 140) hx hb dX7_read_135 (by decide) (fun c_60 => ?_) (fun c_60 => ?_)
            · skip
              refine va_new (ci := 6) (fs := [.null, .null]) (C := RX6) (T := TX6) (N := 2) hx hb hts iX6 tyX6 tyX6_ok hown (hts _ k_667) (hts _ k_668) (hts _ k_112) hK hP hD hS hA rfl dfX6 (Nat.le_of_ble_eq_true rfl) (Nat.le_of_ble_eq_true rfl) dX7_read_140 (fun q_61 H hP₀ hD₀ hS₀ => ?_)
              replace hP : va_P D classes [((Va 0), .inr (7, [.ref (Va 1), .int vy_20, .int vy_21])), ((Va 1), .inl (tc 0, 400, .inl vy_22)), ((Ta 0), .inr (10, [.ref (Ta 1), .int (Tv 0), .int vy_23, .int vy_24, .int sv_44, .int sv_45])), ((Ta 1), .inl (tc 0, 400, .inl (Tf 1))), (q_61, .inr (6, [.null, .null]))] H := hP₀
              replace hD : va_D A [((Va 0), .inr (7, [.ref (Va 1), .int vy_20, .int vy_21])), ((Va 1), .inl (tc 0, 400, .inl vy_22)), ((Ta 0), .inr (10, [.ref (Ta 1), .int (Tv 0), .int vy_23, .int vy_24, .int sv_44, .int sv_45])), ((Ta 1), .inl (tc 0, 400, .inl (Tf 1))), (q_61, .inr (6, [.null, .null]))] := hD₀
              replace hS := hS₀
              clear hP₀ hD₀ hS₀
              refine lv_dup hx hb dX7_read_143 rfl ?_
              refine lv_aload_n hx hb dX7_read_144 rfl (lv_at hl 1 rfl) ?_
              refine gf_X7_9 hx hb hts hown hK hP 0 rfl rfl dX7_read_145 ?_
              refine lv_aload_n hx hb dX7_read_148 rfl (lv_at hl 1 rfl) ?_
              refine gf_X7_15 hx hb hts hown hK hP 0 rfl rfl dX7_read_149 ?_
              have ha_62 : 0 ≤ vy_20.toInt ∧ vy_20.toInt ≤ 400 := by
                have z_1 := Int32.lt_iff_toInt_lt.mp c_40
                have z_2 := congrArg Int32.toInt c_50
                have z_3 := Int32.le_iff_toInt_le.mp (Int32.not_lt.mp c_55)
                have z_4 := Int32.le_iff_toInt_le.mp c_60
                have y_0 : (0 : Int32).toInt = 0 := by decide
                have y_12 : (12 : Int32).toInt = 12 := by decide
                have y_400 : (400 : Int32).toInt = 400 := by decide
                omega
              refine cS (As := [.ref (Va 1), .int vy_20]) (rest := [.ref q_61, .ref q_61]) (wr := [((Va 0), .inr (7, [.ref (Va 1), .int vy_20, .int vy_21])), ((Ta 0), .inr (10, [.ref (Ta 1), .int (Tv 0), .int vy_23, .int vy_24, .int sv_44, .int sv_45])), ((Ta 1), .inl (tc 0, 400, .inl (Tf 1))), (q_61, .inr (6, [.null, .null]))]) ⟨hx, hb, hml, hown, hts⟩ hK hX hA (cu_J7_copyOf l D tc sk (Va 1) vy_22 vy_20 ha_62) k_671 k_669 k_670 k_113 pl_J7_copyOf_59c91 ⟨Nat.le_of_ble_eq_true rfl, Nat.le_of_ble_eq_true rfl⟩ rfl rfl  hP hD hS [1] [0, 2, 3, 4] rfl rfl rfl rfl rfl (by decide) rfl hl.1 rfl (Nat.le_of_ble_eq_true rfl) dX7_read_152 ⟨Nat.le_of_ble_eq_true rfl, Nat.le_of_ble_eq_true rfl⟩ (fun v_63 u_64 H locs hv_65 hP₀ hD₀ hS₀ => ?_)
              obtain ⟨sv_66, sv_67, sv_68⟩ := u_64
              obtain ⟨rfl, pf_69⟩ := hv_65
              have pf_69 : sv_68 ≤ 400 := pf_69
              refine W.eq (g2 := F0 m 155 ls [.ref sv_66, .ref q_61, .ref q_61]) rfl ?_
              replace hP : va_P D classes [((Va 0), .inr (7, [.ref (Va 1), .int vy_20, .int vy_21])), ((Ta 0), .inr (10, [.ref (Ta 1), .int (Tv 0), .int vy_23, .int vy_24, .int sv_44, .int sv_45])), ((Ta 1), .inl (tc 0, 400, .inl (Tf 1))), (q_61, .inr (6, [.null, .null])), ((Va 1), .inl (tc 0, 400, .inl vy_22)), (sv_66, .inl (tc 0, sv_68, .inl sv_67))] H := hP₀
              replace hD : va_D A [((Va 0), .inr (7, [.ref (Va 1), .int vy_20, .int vy_21])), ((Ta 0), .inr (10, [.ref (Ta 1), .int (Tv 0), .int vy_23, .int vy_24, .int sv_44, .int sv_45])), ((Ta 1), .inl (tc 0, 400, .inl (Tf 1))), (q_61, .inr (6, [.null, .null])), ((Va 1), .inl (tc 0, 400, .inl vy_22)), (sv_66, .inl (tc 0, sv_68, .inl sv_67))] := hD₀
              replace hS := hS₀
              clear hP₀ hD₀ hS₀
              refine cI (a := q_61) (As := [.ref sv_66]) (rest := [.ref q_61]) (wr := [((Va 0), .inr (7, [.ref (Va 1), .int vy_20, .int vy_21])), ((Ta 0), .inr (10, [.ref (Ta 1), .int (Tv 0), .int vy_23, .int vy_24, .int sv_44, .int sv_45])), ((Ta 1), .inl (tc 0, 400, .inl (Tf 1))), ((Va 1), .inl (tc 0, 400, .inl vy_22)), (sv_66, .inl (tc 0, sv_68, .inl sv_67))]) ⟨hx, hb, hml, hown, hts⟩ hK hX hA (ct_X6_init l D tc sk q_61 sv_66) k_685 k_683 k_684 k_112 rfl pl_X6_init ⟨Nat.le_of_ble_eq_true rfl, Nat.le_of_ble_eq_true rfl⟩ rfl rfl  hP hD hS [3] [0, 1, 2, 4, 5] rfl rfl rfl rfl rfl (by decide) rfl hl.1 rfl (Nat.le_of_ble_eq_true rfl) dX7_read_155 ⟨Nat.le_of_ble_eq_true rfl, Nat.le_of_ble_eq_true rfl⟩ (fun v_70 u_71 H locs hv_72 hP₀ hD₀ hS₀ => ?_)
              obtain ⟨sv_73, rfl⟩ : ∃ z, z = u_71 := ⟨_, rfl⟩
              obtain rfl : v_70 = none := hv_72
              refine W.eq (g2 := F0 m 158 ls [.ref q_61]) rfl ?_
              replace hP : va_P D classes [((Va 0), .inr (7, [.ref (Va 1), .int vy_20, .int vy_21])), ((Ta 0), .inr (10, [.ref (Ta 1), .int (Tv 0), .int vy_23, .int vy_24, .int sv_44, .int sv_45])), ((Ta 1), .inl (tc 0, 400, .inl (Tf 1))), ((Va 1), .inl (tc 0, 400, .inl vy_22)), (sv_66, .inl (tc 0, sv_68, .inl sv_67)), (q_61, .inr (6, [.ref sv_66, .ref sv_73])), (sv_73, .inl (tc 1, 64, .inr (.inl (fun _ => 0))))] H := hP₀
              replace hD : va_D A [((Va 0), .inr (7, [.ref (Va 1), .int vy_20, .int vy_21])), ((Ta 0), .inr (10, [.ref (Ta 1), .int (Tv 0), .int vy_23, .int vy_24, .int sv_44, .int sv_45])), ((Ta 1), .inl (tc 0, 400, .inl (Tf 1))), ((Va 1), .inl (tc 0, 400, .inl vy_22)), (sv_66, .inl (tc 0, sv_68, .inl sv_67)), (q_61, .inr (6, [.ref sv_66, .ref sv_73])), (sv_73, .inl (tc 1, 64, .inr (.inl (fun _ => 0))))] := hD₀
              replace hS := hS₀
              clear hP₀ hD₀ hS₀
              have hu_74 : TpR (Tf 1) (Tv 0) (rEN (cB (Tf 1) (Tv 0)) rq_35) vy_23 vy_24 sv_44 sv_45 := by
                rw [← ero_48]
                exact pf_47
              have hr_75 : 12 < (vy_19 : Int32).toInt := by
                have z_1 := Int32.lt_iff_toInt_lt.mp c_40
                have z_2 := congrArg Int32.toInt c_50
                have z_3 := Int32.le_iff_toInt_le.mp (Int32.not_lt.mp c_55)
                have z_4 := Int32.le_iff_toInt_le.mp c_60
                have y_0 : (0 : Int32).toInt = 0 := by decide
                have y_12 : (12 : Int32).toInt = 12 := by decide
                have y_400 : (400 : Int32).toInt = 400 := by decide
                omega
              have hr_76 : ¬ (vy_19 : Int32).toInt = 0 := by
                have z_1 := Int32.lt_iff_toInt_lt.mp c_40
                have z_2 := congrArg Int32.toInt c_50
                have z_3 := Int32.le_iff_toInt_le.mp (Int32.not_lt.mp c_55)
                have z_4 := Int32.le_iff_toInt_le.mp c_60
                have y_0 : (0 : Int32).toInt = 0 := by decide
                have y_12 : (12 : Int32).toInt = 12 := by decide
                have y_400 : (400 : Int32).toInt = 400 := by decide
                omega
              have hr_77 : (sv_45 : Int32).toInt = 0 := by
                have z_1 := Int32.lt_iff_toInt_lt.mp c_40
                have z_2 := congrArg Int32.toInt c_50
                have z_3 := Int32.le_iff_toInt_le.mp (Int32.not_lt.mp c_55)
                have z_4 := Int32.le_iff_toInt_le.mp c_60
                have y_0 : (0 : Int32).toInt = 0 := by decide
                have y_12 : (12 : Int32).toInt = 12 := by decide
                have y_400 : (400 : Int32).toInt = 400 := by decide
                omega
              exact retA (v := .ref q_61) hx hb hr hlk (Or.inl ⟨_, rfl⟩) (Or.inr ⟨_, rfl⟩) hP hD hS (true, q_61, sv_66, sv_73, vy_20, vy_21, vy_22, vy_23, vy_24, sv_44, sv_45, sv_67, sv_68, 0, 0, (fun _ => 0), 0, 0, 0, 0) ⟨rfl, pf_46, pf_32, (RuK.of (RcL.fin pf_38 hr_76 (Or.inl hr_75)) hu_74 hr_77), pf_69⟩ [0, 3, 1, 2, 5, 4, 6] rfl rfl dX7_read_158 (Nat.le_of_ble_eq_true rfl) (Nat.le_of_ble_eq_true rfl) rfl
            · skip
              refine lv_null hx hb dX7_read_138 ?_
              have hu_78 : TpR (Tf 1) (Tv 0) (rEN (cB (Tf 1) (Tv 0)) rq_35) vy_23 vy_24 sv_44 sv_45 := by
                rw [← ero_48]
                exact pf_47
              have hr_79 : 12 < (vy_19 : Int32).toInt := by
                have z_1 := Int32.lt_iff_toInt_lt.mp c_40
                have z_2 := congrArg Int32.toInt c_50
                have z_3 := Int32.le_iff_toInt_le.mp (Int32.not_lt.mp c_55)
                have z_4 := Int32.lt_iff_toInt_lt.mp (Int32.not_le.mp c_60)
                have y_0 : (0 : Int32).toInt = 0 := by decide
                have y_12 : (12 : Int32).toInt = 12 := by decide
                have y_400 : (400 : Int32).toInt = 400 := by decide
                omega
              have hr_80 : ¬ (vy_19 : Int32).toInt = 0 := by
                have z_1 := Int32.lt_iff_toInt_lt.mp c_40
                have z_2 := congrArg Int32.toInt c_50
                have z_3 := Int32.le_iff_toInt_le.mp (Int32.not_lt.mp c_55)
                have z_4 := Int32.lt_iff_toInt_lt.mp (Int32.not_le.mp c_60)
                have y_0 : (0 : Int32).toInt = 0 := by decide
                have y_12 : (12 : Int32).toInt = 12 := by decide
                have y_400 : (400 : Int32).toInt = 400 := by decide
                omega
              have hr_81 : ¬ (sv_45 : Int32).toInt = 0 := by
                have z_1 := Int32.lt_iff_toInt_lt.mp c_40
                have z_2 := congrArg Int32.toInt c_50
                have z_3 := Int32.le_iff_toInt_le.mp (Int32.not_lt.mp c_55)
                have z_4 := Int32.lt_iff_toInt_lt.mp (Int32.not_le.mp c_60)
                have y_0 : (0 : Int32).toInt = 0 := by decide
                have y_12 : (12 : Int32).toInt = 12 := by decide
                have y_400 : (400 : Int32).toInt = 400 := by decide
                omega
              exact retA (v := .null) hx hb hr hlk (Or.inl ⟨_, rfl⟩) (Or.inl rfl) hP hD hS (false, 0, 0, 0, 0, 0, (fun _ => 0), 0, 0, 0, 0, (fun _ => 0), 0, vy_20, vy_21, vy_22, vy_23, vy_24, sv_44, sv_45) ⟨rfl, pf_46, pf_32, (RuF.of (RcL.fin pf_38 hr_80 (Or.inl hr_79)) hu_78 hr_81)⟩ [0, 1, 2, 3] rfl rfl dX7_read_139 (Nat.le_of_ble_eq_true rfl) (Nat.le_of_ble_eq_true rfl) rfl
      · skip
        refine lv_iload_n hx hb dX7_read_22 rfl (lv_at hl 0 rfl) ?_
        refine lv_if_eq (tgt := 35) hx hb dX7_read_23 (by decide) (fun c_82 => ?_) (fun c_82 => ?_)
        · skip
          refine lv_aload_n hx hb dX7_read_35 rfl (lv_at hl 2 rfl) ?_
          refine va_ldcS hx hb hown (sx_1 hX) dX7_read_36 ?_
          have ha_83 : (1 : Nat) < 7 := by
            have z_1 := Int32.le_iff_toInt_le.mp (Int32.not_lt.mp c_40)
            have z_2 := congrArg Int32.toInt c_82
            have y_0 : (0 : Int32).toInt = 0 := by decide
            have y_12 : (12 : Int32).toInt = 12 := by decide
            have y_1 : (1 : Int32).toInt = 1 := by decide
            omega
          refine cV (a := (Ta 0)) (As := [.ref (sk.1 1)]) (rest := []) (wr := [((Va 0), .inr (7, [.ref (Va 1), .int vy_20, .int vy_21])), ((Va 1), .inl (tc 0, 400, .inl vy_22))]) ⟨hx, hb, hml, hown, hts⟩ hK hX hA (cu_fX10_isWord l D tc sk (Ta 0) (Ta 1) (Tv 0) vy_23 vy_24 vy_25 vy_26 (Tf 1) 1 rq_35 ha_83 pf_31 h_by pf_36) k_618 k_615 k_616 k_617 k_96 pl_X10_isWord ⟨Nat.le_of_ble_eq_true rfl, Nat.le_of_ble_eq_true rfl⟩ rfl rfl (va_recv hK hP (ci := 10) (q0 := 2) rfl rfl) hP hD hS [2, 3] [0, 1] rfl rfl rfl rfl rfl (by decide) rfl hl.1 rfl (Nat.le_of_ble_eq_true rfl) dX7_read_38 ⟨Nat.le_of_ble_eq_true rfl, Nat.le_of_ble_eq_true rfl⟩ (fun v_84 u_85 H locs hv_86 hP₀ hD₀ hS₀ => ?_)
          obtain ⟨r_87, rfl, he_88, hm_90, hm_91⟩ := hv_86
          have he_88 : (r_87.toInt = 0 ∨ r_87.toInt = 1) := he_88
          refine W.eq (g2 := F0 m 41 ls [.int r_87]) rfl ?_
          replace hP : va_P D classes [((Va 0), .inr (7, [.ref (Va 1), .int vy_20, .int vy_21])), ((Va 1), .inl (tc 0, 400, .inl vy_22)), ((Ta 0), .inr (10, [.ref (Ta 1), .int (Tv 0), .int vy_23, .int vy_24, .int vy_25, .int vy_26])), ((Ta 1), .inl (tc 0, 400, .inl (Tf 1)))] H := hP₀
          replace hD : va_D A [((Va 0), .inr (7, [.ref (Va 1), .int vy_20, .int vy_21])), ((Va 1), .inl (tc 0, 400, .inl vy_22)), ((Ta 0), .inr (10, [.ref (Ta 1), .int (Tv 0), .int vy_23, .int vy_24, .int vy_25, .int vy_26])), ((Ta 1), .inl (tc 0, 400, .inl (Tf 1)))] := hD₀
          replace hS := hS₀
          clear hP₀ hD₀ hS₀
          refine lv_if_ne (tgt := 52) hx hb dX7_read_41 (by decide) (fun c_92 => ?_) (fun c_92 => ?_)
          · skip
            have hz_94 : (r_87 : Int32).toInt = 1 := by
              have z_1 := Int32.le_iff_toInt_le.mp (Int32.not_lt.mp c_40)
              have z_2 := congrArg Int32.toInt c_82
              have z_3 : ¬ (r_87 : Int32).toInt = (0 : Int32).toInt := fun z => c_92 (Int32.toInt_inj.mp z)
              have y_0 : (0 : Int32).toInt = 0 := by decide
              have y_12 : (12 : Int32).toInt = 12 := by decide
              omega
            obtain pf_93 := hm_90 hz_94
            have pf_93 : TWd (cB (Tf 1) (Tv 0)) (wS (1 : Nat)) rq_35 := pf_93
            refine lv_iload_n hx hb dX7_read_52 rfl (lv_at hl 0 rfl) ?_
            refine lv_bipush (v := 12) hx hb dX7_read_53 (by decide) ?_
            refine lv_icmp_ne (tgt := 63) hx hb dX7_read_55 (by decide) (fun c_95 => ?_) (fun c_95 => ?_)
            · skip
              refine lv_aload_n hx hb dX7_read_63 rfl (lv_at hl 2 rfl) ?_
              refine cV (a := (Ta 0)) (As := []) (rest := []) (wr := [((Va 0), .inr (7, [.ref (Va 1), .int vy_20, .int vy_21])), ((Va 1), .inl (tc 0, 400, .inl vy_22))]) ⟨hx, hb, hml, hown, hts⟩ hK hX hA (cu_fX10_step l D tc sk (Ta 0) (Ta 1) (Tv 0) vy_23 vy_24 vy_25 vy_26 (Tf 1) (rTE (cB (Tf 1) (Tv 0)) rq_35) pf_31 h_by tb_39) k_478 k_620 k_476 k_477 k_96 pl_X10_step ⟨Nat.le_of_ble_eq_true rfl, Nat.le_of_ble_eq_true rfl⟩ rfl rfl (va_recv hK hP (ci := 10) (q0 := 2) rfl rfl) hP hD hS [2, 3] [0, 1] rfl rfl rfl rfl rfl (by decide) rfl hl.1 rfl (Nat.le_of_ble_eq_true rfl) dX7_read_64 ⟨Nat.le_of_ble_eq_true rfl, Nat.le_of_ble_eq_true rfl⟩ (fun v_96 u_97 H locs hv_98 hP₀ hD₀ hS₀ => ?_)
              obtain ⟨sv_99, sv_100, sv_101⟩ := u_97
              obtain ⟨rfl, pf_102, pf_103⟩ := hv_98
              have pf_102 : 0 ≤ ((Tv 0) : Int32).toInt ∧ ((Tv 0) : Int32).toInt ≤ 400 ∧ 0 ≤ (sv_99 : Int32).toInt ∧ (sv_99 : Int32).toInt ≤ 400 ∧ 0 ≤ (sv_100 : Int32).toInt ∧ (sv_100 : Int32).toInt ≤ 400 := pf_102
              have pf_103 : TpR (Tf 1) (Tv 0) (rSK (cB (Tf 1) (Tv 0)) (rTE (cB (Tf 1) (Tv 0)) rq_35)) sv_99 sv_100 sv_101 vy_26 := pf_103
              rw [rNX_eq] at pf_103
              obtain ⟨ro_104, ero_104⟩ : ∃ z : Except Int (Nat × Nat), z = (rNX (cB (Tf 1) (Tv 0)) rq_35) := ⟨_, rfl⟩
              rw [← ero_104] at pf_103
              have tb_105 : TpB (rTE (cB (Tf 1) (Tv 0)) ro_104) sv_100 vy_26 := TpR.tb pf_103
              have cd_106 : Ctd ro_104 vy_21 := by rw [ero_104]; exact (Ctd.nx pf_37)
              refine W.eq (g2 := F0 m 67 ls []) rfl ?_
              replace hP : va_P D classes [((Va 0), .inr (7, [.ref (Va 1), .int vy_20, .int vy_21])), ((Va 1), .inl (tc 0, 400, .inl vy_22)), ((Ta 0), .inr (10, [.ref (Ta 1), .int (Tv 0), .int sv_99, .int sv_100, .int sv_101, .int vy_26])), ((Ta 1), .inl (tc 0, 400, .inl (Tf 1)))] H := hP₀
              replace hD : va_D A [((Va 0), .inr (7, [.ref (Va 1), .int vy_20, .int vy_21])), ((Va 1), .inl (tc 0, 400, .inl vy_22)), ((Ta 0), .inr (10, [.ref (Ta 1), .int (Tv 0), .int sv_99, .int sv_100, .int sv_101, .int vy_26])), ((Ta 1), .inl (tc 0, 400, .inl (Tf 1)))] := hD₀
              replace hS := hS₀
              clear hP₀ hD₀ hS₀
              refine lv_aload_n hx hb dX7_read_67 rfl (lv_at hl 1 rfl) ?_
              refine lv_aload_n hx hb dX7_read_68 rfl (lv_at hl 2 rfl) ?_
              refine cV (a := (Va 0)) (As := [.ref (Ta 0)]) (rest := []) (wr := []) ⟨hx, hb, hml, hown, hts⟩ hK hX hA (cu_fX7_readSum l D tc sk (Va 0) (Va 1) vy_20 vy_21 vy_22 (Ta 0) (Ta 1) (Tv 0) sv_99 sv_100 sv_101 vy_26 (Tf 1) ro_104 pf_102 pf_32 h_by pf_103 cd_106) k_624 k_621 k_623 k_7 k_99 pl_X7_readSum ⟨Nat.le_of_ble_eq_true rfl, Nat.le_of_ble_eq_true rfl⟩ rfl rfl (va_recv hK hP (ci := 7) (q0 := 0) rfl rfl) hP hD hS [0, 1, 2, 3] [] rfl rfl rfl rfl rfl (by decide) rfl hl.1 rfl (Nat.le_of_ble_eq_true rfl) dX7_read_69 ⟨Nat.le_of_ble_eq_true rfl, Nat.le_of_ble_eq_true rfl⟩ (fun v_107 u_108 H locs hv_109 hP₀ hD₀ hS₀ => ?_)
              obtain ⟨sv_110, sv_111, sv_112, sv_113, sv_114, sv_115, sv_116⟩ := u_108
              obtain ⟨rfl, pf_117, pf_118, pf_119, pf_120⟩ := hv_109
              have pf_117 : 0 ≤ ((Tv 0) : Int32).toInt ∧ ((Tv 0) : Int32).toInt ≤ 400 ∧ 0 ≤ (sv_113 : Int32).toInt ∧ (sv_113 : Int32).toInt ≤ 400 ∧ 0 ≤ (sv_114 : Int32).toInt ∧ (sv_114 : Int32).toInt ≤ 400 := pf_117
              have pf_118 : 0 ≤ (sv_110 : Int32).toInt ∧ (sv_110 : Int32).toInt ≤ 400 := pf_118
              have pf_119 : TpR (Tf 1) (Tv 0) (pz_b ro_104 (pz_sum (cB (Tf 1) (Tv 0)))) sv_113 sv_114 sv_115 sv_116 := pf_119
              obtain ⟨ro_121, ero_121⟩ : ∃ z : Except Int (Nat × Nat), z = (pz_b ro_104 (pz_sum (cB (Tf 1) (Tv 0)))) := ⟨_, rfl⟩
              rw [← ero_121] at pf_119
              have tb_122 : TpB (rTE (cB (Tf 1) (Tv 0)) ro_121) sv_114 sv_116 := TpR.tb pf_119
              have pf_120 : Ctd (pz_b ro_104 (pz_sum (cB (Tf 1) (Tv 0)))) sv_111 := pf_120
              rw [← ero_121] at pf_120
              refine W.eq (g2 := F0 m 72 ls []) rfl ?_
              replace hP : va_P D classes [((Va 0), .inr (7, [.ref (Va 1), .int sv_110, .int sv_111])), ((Va 1), .inl (tc 0, 400, .inl sv_112)), ((Ta 0), .inr (10, [.ref (Ta 1), .int (Tv 0), .int sv_113, .int sv_114, .int sv_115, .int sv_116])), ((Ta 1), .inl (tc 0, 400, .inl (Tf 1)))] H := hP₀
              replace hD : va_D A [((Va 0), .inr (7, [.ref (Va 1), .int sv_110, .int sv_111])), ((Va 1), .inl (tc 0, 400, .inl sv_112)), ((Ta 0), .inr (10, [.ref (Ta 1), .int (Tv 0), .int sv_113, .int sv_114, .int sv_115, .int sv_116])), ((Ta 1), .inl (tc 0, 400, .inl (Tf 1)))] := hD₀
              replace hS := hS₀
              clear hP₀ hD₀ hS₀
              refine lv_aload_n hx hb dX7_read_72 rfl (lv_at hl 2 rfl) ?_
              refine va_ldcS hx hb hown (sx_3 hX) dX7_read_73 ?_
              have ha_123 : (3 : Nat) < 7 := by
                have z_1 := Int32.le_iff_toInt_le.mp (Int32.not_lt.mp c_40)
                have z_2 := congrArg Int32.toInt c_82
                have z_3 : ¬ (r_87 : Int32).toInt = (0 : Int32).toInt := fun z => c_92 (Int32.toInt_inj.mp z)
                have z_4 : ¬ (vy_19 : Int32).toInt = (12 : Int32).toInt := fun z => c_95 (Int32.toInt_inj.mp z)
                have y_0 : (0 : Int32).toInt = 0 := by decide
                have y_12 : (12 : Int32).toInt = 12 := by decide
                have y_3 : (3 : Int32).toInt = 3 := by decide
                omega
              refine cV (a := (Ta 0)) (As := [.ref (sk.1 3)]) (rest := []) (wr := [((Va 0), .inr (7, [.ref (Va 1), .int sv_110, .int sv_111])), ((Va 1), .inl (tc 0, 400, .inl sv_112))]) ⟨hx, hb, hml, hown, hts⟩ hK hX hA (cu_fX10_takesWord l D tc sk (Ta 0) (Ta 1) (Tv 0) sv_113 sv_114 sv_115 sv_116 (Tf 1) 3 ro_121 ha_123 pf_117 h_by pf_119) k_650 k_647 k_648 k_649 k_96 pl_X10_takesWord ⟨Nat.le_of_ble_eq_true rfl, Nat.le_of_ble_eq_true rfl⟩ rfl rfl (va_recv hK hP (ci := 10) (q0 := 2) rfl rfl) hP hD hS [2, 3] [0, 1] rfl rfl rfl rfl rfl (by decide) rfl hl.1 rfl (Nat.le_of_ble_eq_true rfl) dX7_read_75 ⟨Nat.le_of_ble_eq_true rfl, Nat.le_of_ble_eq_true rfl⟩ (fun v_124 u_125 H locs hv_126 hP₀ hD₀ hS₀ => ?_)
              obtain ⟨sv_127, sv_128, sv_129⟩ := u_125
              obtain ⟨r_131, rfl, he_132, pf_130, hm_134, hm_135⟩ := hv_126
              have he_132 : (r_131.toInt = 0 ∨ r_131.toInt = 1) := he_132
              have pf_130 : 0 ≤ ((Tv 0) : Int32).toInt ∧ ((Tv 0) : Int32).toInt ≤ 400 ∧ 0 ≤ (sv_127 : Int32).toInt ∧ (sv_127 : Int32).toInt ≤ 400 ∧ 0 ≤ (sv_128 : Int32).toInt ∧ (sv_128 : Int32).toInt ≤ 400 := pf_130
              refine W.eq (g2 := F0 m 78 ls [.int r_131]) rfl ?_
              replace hP : va_P D classes [((Va 0), .inr (7, [.ref (Va 1), .int sv_110, .int sv_111])), ((Va 1), .inl (tc 0, 400, .inl sv_112)), ((Ta 0), .inr (10, [.ref (Ta 1), .int (Tv 0), .int sv_127, .int sv_128, .int sv_129, .int sv_116])), ((Ta 1), .inl (tc 0, 400, .inl (Tf 1)))] H := hP₀
              replace hD : va_D A [((Va 0), .inr (7, [.ref (Va 1), .int sv_110, .int sv_111])), ((Va 1), .inl (tc 0, 400, .inl sv_112)), ((Ta 0), .inr (10, [.ref (Ta 1), .int (Tv 0), .int sv_127, .int sv_128, .int sv_129, .int sv_116])), ((Ta 1), .inl (tc 0, 400, .inl (Tf 1)))] := hD₀
              replace hS := hS₀
              clear hP₀ hD₀ hS₀
              refine lv_if_eq (tgt := 96) hx hb dX7_read_78 (by decide) (fun c_136 => ?_) (fun c_136 => ?_)
              · skip
                have hz_139 : (r_131 : Int32).toInt = 0 := by
                  have z_1 := Int32.le_iff_toInt_le.mp (Int32.not_lt.mp c_40)
                  have z_2 := congrArg Int32.toInt c_82
                  have z_3 : ¬ (r_87 : Int32).toInt = (0 : Int32).toInt := fun z => c_92 (Int32.toInt_inj.mp z)
                  have z_4 : ¬ (vy_19 : Int32).toInt = (12 : Int32).toInt := fun z => c_95 (Int32.toInt_inj.mp z)
                  have z_5 := congrArg Int32.toInt c_136
                  have y_0 : (0 : Int32).toInt = 0 := by decide
                  have y_12 : (12 : Int32).toInt = 12 := by decide
                  omega
                obtain ⟨pf_137, pf_138⟩ := hm_135 hz_139
                have pf_137 : NWd (cB (Tf 1) (Tv 0)) (wS (3 : Nat)) ro_121 := pf_137
                have pf_138 : TpR (Tf 1) (Tv 0) ro_121 sv_127 sv_128 sv_129 sv_116 := pf_138
                have tb_140 : TpB (rTE (cB (Tf 1) (Tv 0)) ro_121) sv_128 sv_116 := TpR.tb pf_138
                refine lv_aload_n hx hb dX7_read_96 rfl (lv_at hl 1 rfl) ?_
                refine lv_bipush (v := (-2)) hx hb dX7_read_97 (by decide) ?_
                refine cV (a := (Va 0)) (As := [.int (-2)]) (rest := []) (wr := [((Ta 0), .inr (10, [.ref (Ta 1), .int (Tv 0), .int sv_127, .int sv_128, .int sv_129, .int sv_116])), ((Ta 1), .inl (tc 0, 400, .inl (Tf 1)))]) ⟨hx, hb, hml, hown, hts⟩ hK hX hA (cu_fX7_put l D tc sk (Va 0) (Va 1) sv_110 sv_111 sv_112 (-2) pf_118) k_642 k_639 k_641 k_10 k_99 pl_X7_put ⟨Nat.le_of_ble_eq_true rfl, Nat.le_of_ble_eq_true rfl⟩ rfl rfl (va_recv hK hP (ci := 7) (q0 := 0) rfl rfl) hP hD hS [0, 1] [2, 3] rfl rfl rfl rfl rfl (by decide) rfl hl.1 rfl (Nat.le_of_ble_eq_true rfl) dX7_read_99 ⟨Nat.le_of_ble_eq_true rfl, Nat.le_of_ble_eq_true rfl⟩ (fun v_141 u_142 H locs hv_143 hP₀ hD₀ hS₀ => ?_)
                obtain ⟨sv_144, sv_145⟩ := u_142
                obtain ⟨rfl, pf_146⟩ := hv_143
                have pf_146 : 0 ≤ (sv_144 : Int32).toInt ∧ (sv_144 : Int32).toInt ≤ 400 := pf_146
                refine W.eq (g2 := F0 m 102 ls []) rfl ?_
                replace hP : va_P D classes [((Ta 0), .inr (10, [.ref (Ta 1), .int (Tv 0), .int sv_127, .int sv_128, .int sv_129, .int sv_116])), ((Ta 1), .inl (tc 0, 400, .inl (Tf 1))), ((Va 0), .inr (7, [.ref (Va 1), .int sv_144, .int sv_111])), ((Va 1), .inl (tc 0, 400, .inl sv_145))] H := hP₀
                replace hD : va_D A [((Ta 0), .inr (10, [.ref (Ta 1), .int (Tv 0), .int sv_127, .int sv_128, .int sv_129, .int sv_116])), ((Ta 1), .inl (tc 0, 400, .inl (Tf 1))), ((Va 0), .inr (7, [.ref (Va 1), .int sv_144, .int sv_111])), ((Va 1), .inl (tc 0, 400, .inl sv_145))] := hD₀
                replace hS := hS₀
                clear hP₀ hD₀ hS₀
                obtain ⟨x_147, ex_147⟩ : ∃ y : Int32, y = vy_19 + 1 := ⟨_, rfl⟩
                refine lv_iinc (v := x_147) (lv' := [(2, .int x_147), (0, .ref (Va 0)), (1, .ref (Ta 0))]) hx hb dX7_read_102 hl (k := 0) rfl (by rw [ex_147]; rfl) (by decide) rfl (fun ls hl₀ => ?_)
                replace hl := hl₀
                clear hl₀
                refine lv_goto (tgt := 16) hx hb dX7_read_105 (by decide) ?_
                have hb_148 : 14 - (x_147 : Int32).toInt < 14 - (vy_19 : Int32).toInt ∧ 1 ≤ 14 - (vy_19 : Int32).toInt := by
                  have z_1 := Int32.le_iff_toInt_le.mp (Int32.not_lt.mp c_40)
                  have z_2 := congrArg Int32.toInt c_82
                  have z_3 : ¬ (r_87 : Int32).toInt = (0 : Int32).toInt := fun z => c_92 (Int32.toInt_inj.mp z)
                  have z_4 : ¬ (vy_19 : Int32).toInt = (12 : Int32).toInt := fun z => c_95 (Int32.toInt_inj.mp z)
                  have z_5 := congrArg Int32.toInt c_136
                  have y_0 : (0 : Int32).toInt = 0 := by decide
                  have y_12 : (12 : Int32).toInt = 12 := by decide
                  have y_1 : (1 : Int32).toInt = 1 := by decide
                  have t_x_147 : x_147.toInt = (vy_19 : Int32).toInt + (1 : Int32).toInt := by rw [ex_147]; exact add_toInt (by omega) (by omega)
                  omega
                have ha_149 : 0 ≤ (x_147 : Int32).toInt ∧ (x_147 : Int32).toInt ≤ 13 := by
                  have z_1 := Int32.le_iff_toInt_le.mp (Int32.not_lt.mp c_40)
                  have z_2 := congrArg Int32.toInt c_82
                  have z_3 : ¬ (r_87 : Int32).toInt = (0 : Int32).toInt := fun z => c_92 (Int32.toInt_inj.mp z)
                  have z_4 : ¬ (vy_19 : Int32).toInt = (12 : Int32).toInt := fun z => c_95 (Int32.toInt_inj.mp z)
                  have z_5 := congrArg Int32.toInt c_136
                  have y_0 : (0 : Int32).toInt = 0 := by decide
                  have y_12 : (12 : Int32).toInt = 12 := by decide
                  have y_1 : (1 : Int32).toInt = 1 := by decide
                  have t_x_147 : x_147.toInt = (vy_19 : Int32).toInt + (1 : Int32).toInt := by rw [ex_147]; exact add_toInt (by omega) (by omega)
                  omega
                have hw_150 : TWd (cB (Tf 1) (Tv 0)) pz_buy rq_35 := by
                  rw [← wS1]
                  exact pf_93
                have hr_151 : (vy_19 : Int32).toInt.toNat ≠ 12 := by
                  have z_1 := Int32.le_iff_toInt_le.mp (Int32.not_lt.mp c_40)
                  have z_2 := congrArg Int32.toInt c_82
                  have z_3 : ¬ (r_87 : Int32).toInt = (0 : Int32).toInt := fun z => c_92 (Int32.toInt_inj.mp z)
                  have z_4 : ¬ (vy_19 : Int32).toInt = (12 : Int32).toInt := fun z => c_95 (Int32.toInt_inj.mp z)
                  have z_5 := congrArg Int32.toInt c_136
                  have y_0 : (0 : Int32).toInt = 0 := by decide
                  have y_12 : (12 : Int32).toInt = 12 := by decide
                  omega
                have hw_152 : NWd (cB (Tf 1) (Tv 0)) pz_if (pz_b (rNX (cB (Tf 1) (Tv 0)) rq_35) (pz_sum (cB (Tf 1) (Tv 0)))) := by
                  rw [← ero_104, ← ero_121, ← wS3]
                  exact pf_137
                have hE_153 : pz_b rq_35 (pz_cla (cB (Tf 1) (Tv 0)) (vy_19 : Int32).toInt.toNat) = ro_121 := by
                  rw [ero_121, ero_104]
                  exact (cla_un hw_150 hr_151 hw_152)
                have hu_154 : TpR (Tf 1) (Tv 0) (pz_b rq_35 (pz_cla (cB (Tf 1) (Tv 0)) (vy_19 : Int32).toInt.toNat)) sv_127 sv_128 sv_129 sv_116 := by rw [hE_153]; exact pf_138
                have hu_155 : Ctd (pz_b rq_35 (pz_cla (cB (Tf 1) (Tv 0)) (vy_19 : Int32).toInt.toNat)) sv_111 := by rw [hE_153]; exact pf_120
                have hi_156 : (x_147 : Int32).toInt = (vy_19 : Int32).toInt + 1 := by
                  have z_1 := Int32.le_iff_toInt_le.mp (Int32.not_lt.mp c_40)
                  have z_2 := congrArg Int32.toInt c_82
                  have z_3 : ¬ (r_87 : Int32).toInt = (0 : Int32).toInt := fun z => c_92 (Int32.toInt_inj.mp z)
                  have z_4 : ¬ (vy_19 : Int32).toInt = (12 : Int32).toInt := fun z => c_95 (Int32.toInt_inj.mp z)
                  have z_5 := congrArg Int32.toInt c_136
                  have y_0 : (0 : Int32).toInt = 0 := by decide
                  have y_12 : (12 : Int32).toInt = 12 := by decide
                  have y_1 : (1 : Int32).toInt = 1 := by decide
                  have t_x_147 : x_147.toInt = (vy_19 : Int32).toInt + (1 : Int32).toInt := by rw [ex_147]; exact add_toInt (by omega) (by omega)
                  omega
                have hr_157 : (vy_19 : Int32).toInt = 0 := by
                  have z_1 := Int32.le_iff_toInt_le.mp (Int32.not_lt.mp c_40)
                  have z_2 := congrArg Int32.toInt c_82
                  have z_3 : ¬ (r_87 : Int32).toInt = (0 : Int32).toInt := fun z => c_92 (Int32.toInt_inj.mp z)
                  have z_4 : ¬ (vy_19 : Int32).toInt = (12 : Int32).toInt := fun z => c_95 (Int32.toInt_inj.mp z)
                  have z_5 := congrArg Int32.toInt c_136
                  have y_0 : (0 : Int32).toInt = 0 := by decide
                  have y_12 : (12 : Int32).toInt = 12 := by decide
                  omega
                exact ih_28 x_147 sv_144 sv_111 sv_145 sv_127 sv_128 sv_129 sv_116 _ _ _ (by omega) ha_149 pf_130 pf_146 (RcL.next0 hr_157 pf_38 hu_154 hu_155 hi_156) (hP.sub [2, 3, 0, 1] rfl) (hD.sub [2, 3, 0, 1] rfl rfl) hS (lv_sub hl [0, 1, 2] rfl)
              · skip
                have hz_160 : (r_131 : Int32).toInt = 1 := by
                  have z_1 := Int32.le_iff_toInt_le.mp (Int32.not_lt.mp c_40)
                  have z_2 := congrArg Int32.toInt c_82
                  have z_3 : ¬ (r_87 : Int32).toInt = (0 : Int32).toInt := fun z => c_92 (Int32.toInt_inj.mp z)
                  have z_4 : ¬ (vy_19 : Int32).toInt = (12 : Int32).toInt := fun z => c_95 (Int32.toInt_inj.mp z)
                  have z_5 : ¬ (r_131 : Int32).toInt = (0 : Int32).toInt := fun z => c_136 (Int32.toInt_inj.mp z)
                  have y_0 : (0 : Int32).toInt = 0 := by decide
                  have y_12 : (12 : Int32).toInt = 12 := by decide
                  omega
                obtain ⟨pf_158, pf_159⟩ := hm_134 hz_160
                have pf_158 : TWd (cB (Tf 1) (Tv 0)) (wS (3 : Nat)) ro_121 := pf_158
                have pf_159 : TpR (Tf 1) (Tv 0) (rNX (cB (Tf 1) (Tv 0)) ro_121) sv_127 sv_128 sv_129 sv_116 := pf_159
                obtain ⟨ro_161, ero_161⟩ : ∃ z : Except Int (Nat × Nat), z = (rNX (cB (Tf 1) (Tv 0)) ro_121) := ⟨_, rfl⟩
                rw [← ero_161] at pf_159
                have tb_162 : TpB (rTE (cB (Tf 1) (Tv 0)) ro_161) sv_128 sv_116 := TpR.tb pf_159
                have cd_163 : Ctd ro_161 sv_111 := by rw [ero_161]; exact (Ctd.nx pf_120)
                refine lv_aload_n hx hb dX7_read_81 rfl (lv_at hl 1 rfl) ?_
                refine lv_aload_n hx hb dX7_read_82 rfl (lv_at hl 2 rfl) ?_
                refine lv_iconst (v := 0) hx hb dX7_read_83 (by decide) ?_
                refine cV (a := (Va 0)) (As := [.ref (Ta 0), .int 0]) (rest := []) (wr := []) ⟨hx, hb, hml, hown, hts⟩ hK hX hA (cu_fX7_readTest_0 l D tc sk (Va 0) (Va 1) sv_110 sv_111 sv_112 (Ta 0) (Ta 1) (Tv 0) sv_127 sv_128 sv_129 sv_116 (Tf 1) ro_161 pf_130 pf_118 h_by pf_159 cd_163) k_655 k_652 k_654 k_11 k_99 pl_X7_readTest ⟨Nat.le_of_ble_eq_true rfl, Nat.le_of_ble_eq_true rfl⟩ rfl rfl (va_recv hK hP (ci := 7) (q0 := 0) rfl rfl) hP hD hS [0, 1, 2, 3] [] rfl rfl rfl rfl rfl (by decide) rfl hl.1 rfl (Nat.le_of_ble_eq_true rfl) dX7_read_84 ⟨Nat.le_of_ble_eq_true rfl, Nat.le_of_ble_eq_true rfl⟩ (fun v_164 u_165 H locs hv_166 hP₀ hD₀ hS₀ => ?_)
                obtain ⟨sv_167, sv_168, sv_169, sv_170, sv_171, sv_172, sv_173⟩ := u_165
                obtain ⟨rfl, pf_174, pf_175, pf_176, pf_177⟩ := hv_166
                have pf_174 : 0 ≤ ((Tv 0) : Int32).toInt ∧ ((Tv 0) : Int32).toInt ≤ 400 ∧ 0 ≤ (sv_170 : Int32).toInt ∧ (sv_170 : Int32).toInt ≤ 400 ∧ 0 ≤ (sv_171 : Int32).toInt ∧ (sv_171 : Int32).toInt ≤ 400 := pf_174
                have pf_175 : 0 ≤ (sv_167 : Int32).toInt ∧ (sv_167 : Int32).toInt ≤ 400 := pf_175
                have pf_176 : TpR (Tf 1) (Tv 0) (pz_b ro_161 (pz_tst (cB (Tf 1) (Tv 0)) (pz_fact (cB (Tf 1) (Tv 0)) 10))) sv_170 sv_171 sv_172 sv_173 := pf_176
                obtain ⟨ro_178, ero_178⟩ : ∃ z : Except Int (Nat × Nat), z = (pz_b ro_161 (pz_tst (cB (Tf 1) (Tv 0)) (pz_fact (cB (Tf 1) (Tv 0)) 10))) := ⟨_, rfl⟩
                rw [← ero_178] at pf_176
                have tb_179 : TpB (rTE (cB (Tf 1) (Tv 0)) ro_178) sv_171 sv_173 := TpR.tb pf_176
                have pf_177 : Ctd (pz_b ro_161 (pz_tst (cB (Tf 1) (Tv 0)) (pz_fact (cB (Tf 1) (Tv 0)) 10))) sv_168 := pf_177
                rw [← ero_178] at pf_177
                refine W.eq (g2 := F0 m 87 ls []) rfl ?_
                replace hP : va_P D classes [((Va 0), .inr (7, [.ref (Va 1), .int sv_167, .int sv_168])), ((Va 1), .inl (tc 0, 400, .inl sv_169)), ((Ta 0), .inr (10, [.ref (Ta 1), .int (Tv 0), .int sv_170, .int sv_171, .int sv_172, .int sv_173])), ((Ta 1), .inl (tc 0, 400, .inl (Tf 1)))] H := hP₀
                replace hD : va_D A [((Va 0), .inr (7, [.ref (Va 1), .int sv_167, .int sv_168])), ((Va 1), .inl (tc 0, 400, .inl sv_169)), ((Ta 0), .inr (10, [.ref (Ta 1), .int (Tv 0), .int sv_170, .int sv_171, .int sv_172, .int sv_173])), ((Ta 1), .inl (tc 0, 400, .inl (Tf 1)))] := hD₀
                replace hS := hS₀
                clear hP₀ hD₀ hS₀
                refine lv_aload_n hx hb dX7_read_87 rfl (lv_at hl 1 rfl) ?_
                refine lv_bipush (v := (-3)) hx hb dX7_read_88 (by decide) ?_
                refine cV (a := (Va 0)) (As := [.int (-3)]) (rest := []) (wr := [((Ta 0), .inr (10, [.ref (Ta 1), .int (Tv 0), .int sv_170, .int sv_171, .int sv_172, .int sv_173])), ((Ta 1), .inl (tc 0, 400, .inl (Tf 1)))]) ⟨hx, hb, hml, hown, hts⟩ hK hX hA (cu_fX7_put l D tc sk (Va 0) (Va 1) sv_167 sv_168 sv_169 (-3) pf_175) k_642 k_639 k_641 k_10 k_99 pl_X7_put ⟨Nat.le_of_ble_eq_true rfl, Nat.le_of_ble_eq_true rfl⟩ rfl rfl (va_recv hK hP (ci := 7) (q0 := 0) rfl rfl) hP hD hS [0, 1] [2, 3] rfl rfl rfl rfl rfl (by decide) rfl hl.1 rfl (Nat.le_of_ble_eq_true rfl) dX7_read_90 ⟨Nat.le_of_ble_eq_true rfl, Nat.le_of_ble_eq_true rfl⟩ (fun v_180 u_181 H locs hv_182 hP₀ hD₀ hS₀ => ?_)
                obtain ⟨sv_183, sv_184⟩ := u_181
                obtain ⟨rfl, pf_185⟩ := hv_182
                have pf_185 : 0 ≤ (sv_183 : Int32).toInt ∧ (sv_183 : Int32).toInt ≤ 400 := pf_185
                refine W.eq (g2 := F0 m 93 ls []) rfl ?_
                replace hP : va_P D classes [((Ta 0), .inr (10, [.ref (Ta 1), .int (Tv 0), .int sv_170, .int sv_171, .int sv_172, .int sv_173])), ((Ta 1), .inl (tc 0, 400, .inl (Tf 1))), ((Va 0), .inr (7, [.ref (Va 1), .int sv_183, .int sv_168])), ((Va 1), .inl (tc 0, 400, .inl sv_184))] H := hP₀
                replace hD : va_D A [((Ta 0), .inr (10, [.ref (Ta 1), .int (Tv 0), .int sv_170, .int sv_171, .int sv_172, .int sv_173])), ((Ta 1), .inl (tc 0, 400, .inl (Tf 1))), ((Va 0), .inr (7, [.ref (Va 1), .int sv_183, .int sv_168])), ((Va 1), .inl (tc 0, 400, .inl sv_184))] := hD₀
                replace hS := hS₀
                clear hP₀ hD₀ hS₀
                refine lv_goto (tgt := 102) hx hb dX7_read_93 (by decide) ?_
                obtain ⟨x_186, ex_186⟩ : ∃ y : Int32, y = vy_19 + 1 := ⟨_, rfl⟩
                refine lv_iinc (v := x_186) (lv' := [(2, .int x_186), (0, .ref (Va 0)), (1, .ref (Ta 0))]) hx hb dX7_read_102 hl (k := 0) rfl (by rw [ex_186]; rfl) (by decide) rfl (fun ls hl₀ => ?_)
                replace hl := hl₀
                clear hl₀
                refine lv_goto (tgt := 16) hx hb dX7_read_105 (by decide) ?_
                have hb_187 : 14 - (x_186 : Int32).toInt < 14 - (vy_19 : Int32).toInt ∧ 1 ≤ 14 - (vy_19 : Int32).toInt := by
                  have z_1 := Int32.le_iff_toInt_le.mp (Int32.not_lt.mp c_40)
                  have z_2 := congrArg Int32.toInt c_82
                  have z_3 : ¬ (r_87 : Int32).toInt = (0 : Int32).toInt := fun z => c_92 (Int32.toInt_inj.mp z)
                  have z_4 : ¬ (vy_19 : Int32).toInt = (12 : Int32).toInt := fun z => c_95 (Int32.toInt_inj.mp z)
                  have z_5 : ¬ (r_131 : Int32).toInt = (0 : Int32).toInt := fun z => c_136 (Int32.toInt_inj.mp z)
                  have y_0 : (0 : Int32).toInt = 0 := by decide
                  have y_12 : (12 : Int32).toInt = 12 := by decide
                  have y_1 : (1 : Int32).toInt = 1 := by decide
                  have t_x_186 : x_186.toInt = (vy_19 : Int32).toInt + (1 : Int32).toInt := by rw [ex_186]; exact add_toInt (by omega) (by omega)
                  omega
                have ha_188 : 0 ≤ (x_186 : Int32).toInt ∧ (x_186 : Int32).toInt ≤ 13 := by
                  have z_1 := Int32.le_iff_toInt_le.mp (Int32.not_lt.mp c_40)
                  have z_2 := congrArg Int32.toInt c_82
                  have z_3 : ¬ (r_87 : Int32).toInt = (0 : Int32).toInt := fun z => c_92 (Int32.toInt_inj.mp z)
                  have z_4 : ¬ (vy_19 : Int32).toInt = (12 : Int32).toInt := fun z => c_95 (Int32.toInt_inj.mp z)
                  have z_5 : ¬ (r_131 : Int32).toInt = (0 : Int32).toInt := fun z => c_136 (Int32.toInt_inj.mp z)
                  have y_0 : (0 : Int32).toInt = 0 := by decide
                  have y_12 : (12 : Int32).toInt = 12 := by decide
                  have y_1 : (1 : Int32).toInt = 1 := by decide
                  have t_x_186 : x_186.toInt = (vy_19 : Int32).toInt + (1 : Int32).toInt := by rw [ex_186]; exact add_toInt (by omega) (by omega)
                  omega
                have hw_189 : TWd (cB (Tf 1) (Tv 0)) pz_buy rq_35 := by
                  rw [← wS1]
                  exact pf_93
                have hr_190 : (vy_19 : Int32).toInt.toNat ≠ 12 := by
                  have z_1 := Int32.le_iff_toInt_le.mp (Int32.not_lt.mp c_40)
                  have z_2 := congrArg Int32.toInt c_82
                  have z_3 : ¬ (r_87 : Int32).toInt = (0 : Int32).toInt := fun z => c_92 (Int32.toInt_inj.mp z)
                  have z_4 : ¬ (vy_19 : Int32).toInt = (12 : Int32).toInt := fun z => c_95 (Int32.toInt_inj.mp z)
                  have z_5 : ¬ (r_131 : Int32).toInt = (0 : Int32).toInt := fun z => c_136 (Int32.toInt_inj.mp z)
                  have y_0 : (0 : Int32).toInt = 0 := by decide
                  have y_12 : (12 : Int32).toInt = 12 := by decide
                  omega
                have hw_191 : TWd (cB (Tf 1) (Tv 0)) pz_if (pz_b (rNX (cB (Tf 1) (Tv 0)) rq_35) (pz_sum (cB (Tf 1) (Tv 0)))) := by
                  rw [← ero_104, ← ero_121, ← wS3]
                  exact pf_158
                have hE_192 : pz_b rq_35 (pz_cla (cB (Tf 1) (Tv 0)) (vy_19 : Int32).toInt.toNat) = ro_178 := by
                  rw [ero_178, ero_161, ero_121, ero_104]
                  exact (cla_if hw_189 hr_190 hw_191)
                have hu_193 : TpR (Tf 1) (Tv 0) (pz_b rq_35 (pz_cla (cB (Tf 1) (Tv 0)) (vy_19 : Int32).toInt.toNat)) sv_170 sv_171 sv_172 sv_173 := by rw [hE_192]; exact pf_176
                have hu_194 : Ctd (pz_b rq_35 (pz_cla (cB (Tf 1) (Tv 0)) (vy_19 : Int32).toInt.toNat)) sv_168 := by rw [hE_192]; exact pf_177
                have hi_195 : (x_186 : Int32).toInt = (vy_19 : Int32).toInt + 1 := by
                  have z_1 := Int32.le_iff_toInt_le.mp (Int32.not_lt.mp c_40)
                  have z_2 := congrArg Int32.toInt c_82
                  have z_3 : ¬ (r_87 : Int32).toInt = (0 : Int32).toInt := fun z => c_92 (Int32.toInt_inj.mp z)
                  have z_4 : ¬ (vy_19 : Int32).toInt = (12 : Int32).toInt := fun z => c_95 (Int32.toInt_inj.mp z)
                  have z_5 : ¬ (r_131 : Int32).toInt = (0 : Int32).toInt := fun z => c_136 (Int32.toInt_inj.mp z)
                  have y_0 : (0 : Int32).toInt = 0 := by decide
                  have y_12 : (12 : Int32).toInt = 12 := by decide
                  have y_1 : (1 : Int32).toInt = 1 := by decide
                  have t_x_186 : x_186.toInt = (vy_19 : Int32).toInt + (1 : Int32).toInt := by rw [ex_186]; exact add_toInt (by omega) (by omega)
                  omega
                have hr_196 : (vy_19 : Int32).toInt = 0 := by
                  have z_1 := Int32.le_iff_toInt_le.mp (Int32.not_lt.mp c_40)
                  have z_2 := congrArg Int32.toInt c_82
                  have z_3 : ¬ (r_87 : Int32).toInt = (0 : Int32).toInt := fun z => c_92 (Int32.toInt_inj.mp z)
                  have z_4 : ¬ (vy_19 : Int32).toInt = (12 : Int32).toInt := fun z => c_95 (Int32.toInt_inj.mp z)
                  have z_5 : ¬ (r_131 : Int32).toInt = (0 : Int32).toInt := fun z => c_136 (Int32.toInt_inj.mp z)
                  have y_0 : (0 : Int32).toInt = 0 := by decide
                  have y_12 : (12 : Int32).toInt = 12 := by decide
                  omega
                exact ih_28 x_186 sv_183 sv_168 sv_184 sv_170 sv_171 sv_172 sv_173 _ _ _ (by omega) ha_188 pf_174 pf_185 (RcL.next0 hr_196 pf_38 hu_193 hu_194 hi_195) (hP.sub [2, 3, 0, 1] rfl) (hD.sub [2, 3, 0, 1] rfl rfl) hS (lv_sub hl [0, 1, 2] rfl)
            · skip
              refine lv_aload_n hx hb dX7_read_58 rfl (lv_at hl 2 rfl) ?_
              refine lv_iconst (v := 4) hx hb dX7_read_59 (by decide) ?_
              have ha_197 : 0 ≤ (4 : Int32).toInt ∧ (4 : Int32).toInt ≤ 4 := by
                have z_1 := Int32.le_iff_toInt_le.mp (Int32.not_lt.mp c_40)
                have z_2 := congrArg Int32.toInt c_82
                have z_3 : ¬ (r_87 : Int32).toInt = (0 : Int32).toInt := fun z => c_92 (Int32.toInt_inj.mp z)
                have z_4 := congrArg Int32.toInt c_95
                have y_0 : (0 : Int32).toInt = 0 := by decide
                have y_12 : (12 : Int32).toInt = 12 := by decide
                have y_4 : (4 : Int32).toInt = 4 := by decide
                omega
              have ha_198 : (4 : Int32).toInt = (4 : Int) := by
                have z_1 := Int32.le_iff_toInt_le.mp (Int32.not_lt.mp c_40)
                have z_2 := congrArg Int32.toInt c_82
                have z_3 : ¬ (r_87 : Int32).toInt = (0 : Int32).toInt := fun z => c_92 (Int32.toInt_inj.mp z)
                have z_4 := congrArg Int32.toInt c_95
                have y_0 : (0 : Int32).toInt = 0 := by decide
                have y_12 : (12 : Int32).toInt = 12 := by decide
                have y_4 : (4 : Int32).toInt = 4 := by decide
                omega
              refine cV (a := (Ta 0)) (As := [.int 4]) (rest := []) (wr := [((Va 0), .inr (7, [.ref (Va 1), .int vy_20, .int vy_21])), ((Va 1), .inl (tc 0, 400, .inl vy_22))]) ⟨hx, hb, hml, hown, hts⟩ hK hX hA (cu_fX10_fail l D tc sk (Ta 0) (Ta 1) (Tv 0) vy_23 vy_24 vy_25 vy_26 (Tf 1) 4 rq_35 4 pf_31 pf_36 ha_197 ha_198) k_557 k_619 k_555 k_556 k_96 pl_X10_fail ⟨Nat.le_of_ble_eq_true rfl, Nat.le_of_ble_eq_true rfl⟩ rfl rfl (va_recv hK hP (ci := 10) (q0 := 2) rfl rfl) hP hD hS [2, 3] [0, 1] rfl rfl rfl rfl rfl (by decide) rfl hl.1 rfl (Nat.le_of_ble_eq_true rfl) dX7_read_60 ⟨Nat.le_of_ble_eq_true rfl, Nat.le_of_ble_eq_true rfl⟩ (fun v_199 u_200 H locs hv_201 hP₀ hD₀ hS₀ => ?_)
              obtain ⟨sv_202, sv_203⟩ := u_200
              obtain ⟨rfl, pf_204, pf_205⟩ := hv_201
              have pf_204 : 0 ≤ ((Tv 0) : Int32).toInt ∧ ((Tv 0) : Int32).toInt ≤ 400 ∧ 0 ≤ (vy_23 : Int32).toInt ∧ (vy_23 : Int32).toInt ≤ 400 ∧ 0 ≤ (vy_24 : Int32).toInt ∧ (vy_24 : Int32).toInt ≤ 400 := pf_204
              have pf_205 : TpR (Tf 1) (Tv 0) (rER (4 : Int) rq_35) vy_23 vy_24 sv_202 sv_203 := pf_205
              obtain ⟨ro_206, ero_206⟩ : ∃ z : Except Int (Nat × Nat), z = (rER 4 rq_35) := ⟨_, rfl⟩
              rw [← ero_206] at pf_205
              have tb_207 : TpB (rTE (cB (Tf 1) (Tv 0)) ro_206) vy_24 sv_203 := TpR.tb pf_205
              have cd_208 : Ctd ro_206 vy_21 := by rw [ero_206]; exact (Ctd.er)
              refine W.eq (g2 := F0 m 63 ls []) rfl ?_
              replace hP : va_P D classes [((Va 0), .inr (7, [.ref (Va 1), .int vy_20, .int vy_21])), ((Va 1), .inl (tc 0, 400, .inl vy_22)), ((Ta 0), .inr (10, [.ref (Ta 1), .int (Tv 0), .int vy_23, .int vy_24, .int sv_202, .int sv_203])), ((Ta 1), .inl (tc 0, 400, .inl (Tf 1)))] H := hP₀
              replace hD : va_D A [((Va 0), .inr (7, [.ref (Va 1), .int vy_20, .int vy_21])), ((Va 1), .inl (tc 0, 400, .inl vy_22)), ((Ta 0), .inr (10, [.ref (Ta 1), .int (Tv 0), .int vy_23, .int vy_24, .int sv_202, .int sv_203])), ((Ta 1), .inl (tc 0, 400, .inl (Tf 1)))] := hD₀
              replace hS := hS₀
              clear hP₀ hD₀ hS₀
              refine lv_aload_n hx hb dX7_read_63 rfl (lv_at hl 2 rfl) ?_
              refine cV (a := (Ta 0)) (As := []) (rest := []) (wr := [((Va 0), .inr (7, [.ref (Va 1), .int vy_20, .int vy_21])), ((Va 1), .inl (tc 0, 400, .inl vy_22))]) ⟨hx, hb, hml, hown, hts⟩ hK hX hA (cu_fX10_step l D tc sk (Ta 0) (Ta 1) (Tv 0) vy_23 vy_24 sv_202 sv_203 (Tf 1) (rTE (cB (Tf 1) (Tv 0)) ro_206) pf_204 h_by tb_207) k_478 k_620 k_476 k_477 k_96 pl_X10_step ⟨Nat.le_of_ble_eq_true rfl, Nat.le_of_ble_eq_true rfl⟩ rfl rfl (va_recv hK hP (ci := 10) (q0 := 2) rfl rfl) hP hD hS [2, 3] [0, 1] rfl rfl rfl rfl rfl (by decide) rfl hl.1 rfl (Nat.le_of_ble_eq_true rfl) dX7_read_64 ⟨Nat.le_of_ble_eq_true rfl, Nat.le_of_ble_eq_true rfl⟩ (fun v_209 u_210 H locs hv_211 hP₀ hD₀ hS₀ => ?_)
              obtain ⟨sv_212, sv_213, sv_214⟩ := u_210
              obtain ⟨rfl, pf_215, pf_216⟩ := hv_211
              have pf_215 : 0 ≤ ((Tv 0) : Int32).toInt ∧ ((Tv 0) : Int32).toInt ≤ 400 ∧ 0 ≤ (sv_212 : Int32).toInt ∧ (sv_212 : Int32).toInt ≤ 400 ∧ 0 ≤ (sv_213 : Int32).toInt ∧ (sv_213 : Int32).toInt ≤ 400 := pf_215
              have pf_216 : TpR (Tf 1) (Tv 0) (rSK (cB (Tf 1) (Tv 0)) (rTE (cB (Tf 1) (Tv 0)) ro_206)) sv_212 sv_213 sv_214 sv_203 := pf_216
              rw [rNX_eq] at pf_216
              obtain ⟨ro_217, ero_217⟩ : ∃ z : Except Int (Nat × Nat), z = (rNX (cB (Tf 1) (Tv 0)) ro_206) := ⟨_, rfl⟩
              rw [← ero_217] at pf_216
              have tb_218 : TpB (rTE (cB (Tf 1) (Tv 0)) ro_217) sv_213 sv_203 := TpR.tb pf_216
              have cd_219 : Ctd ro_217 vy_21 := by rw [ero_217]; exact (Ctd.nx cd_208)
              refine W.eq (g2 := F0 m 67 ls []) rfl ?_
              replace hP : va_P D classes [((Va 0), .inr (7, [.ref (Va 1), .int vy_20, .int vy_21])), ((Va 1), .inl (tc 0, 400, .inl vy_22)), ((Ta 0), .inr (10, [.ref (Ta 1), .int (Tv 0), .int sv_212, .int sv_213, .int sv_214, .int sv_203])), ((Ta 1), .inl (tc 0, 400, .inl (Tf 1)))] H := hP₀
              replace hD : va_D A [((Va 0), .inr (7, [.ref (Va 1), .int vy_20, .int vy_21])), ((Va 1), .inl (tc 0, 400, .inl vy_22)), ((Ta 0), .inr (10, [.ref (Ta 1), .int (Tv 0), .int sv_212, .int sv_213, .int sv_214, .int sv_203])), ((Ta 1), .inl (tc 0, 400, .inl (Tf 1)))] := hD₀
              replace hS := hS₀
              clear hP₀ hD₀ hS₀
              refine lv_aload_n hx hb dX7_read_67 rfl (lv_at hl 1 rfl) ?_
              refine lv_aload_n hx hb dX7_read_68 rfl (lv_at hl 2 rfl) ?_
              refine cV (a := (Va 0)) (As := [.ref (Ta 0)]) (rest := []) (wr := []) ⟨hx, hb, hml, hown, hts⟩ hK hX hA (cu_fX7_readSum l D tc sk (Va 0) (Va 1) vy_20 vy_21 vy_22 (Ta 0) (Ta 1) (Tv 0) sv_212 sv_213 sv_214 sv_203 (Tf 1) ro_217 pf_215 pf_32 h_by pf_216 cd_219) k_624 k_621 k_623 k_7 k_99 pl_X7_readSum ⟨Nat.le_of_ble_eq_true rfl, Nat.le_of_ble_eq_true rfl⟩ rfl rfl (va_recv hK hP (ci := 7) (q0 := 0) rfl rfl) hP hD hS [0, 1, 2, 3] [] rfl rfl rfl rfl rfl (by decide) rfl hl.1 rfl (Nat.le_of_ble_eq_true rfl) dX7_read_69 ⟨Nat.le_of_ble_eq_true rfl, Nat.le_of_ble_eq_true rfl⟩ (fun v_220 u_221 H locs hv_222 hP₀ hD₀ hS₀ => ?_)
              obtain ⟨sv_223, sv_224, sv_225, sv_226, sv_227, sv_228, sv_229⟩ := u_221
              obtain ⟨rfl, pf_230, pf_231, pf_232, pf_233⟩ := hv_222
              have pf_230 : 0 ≤ ((Tv 0) : Int32).toInt ∧ ((Tv 0) : Int32).toInt ≤ 400 ∧ 0 ≤ (sv_226 : Int32).toInt ∧ (sv_226 : Int32).toInt ≤ 400 ∧ 0 ≤ (sv_227 : Int32).toInt ∧ (sv_227 : Int32).toInt ≤ 400 := pf_230
              have pf_231 : 0 ≤ (sv_223 : Int32).toInt ∧ (sv_223 : Int32).toInt ≤ 400 := pf_231
              have pf_232 : TpR (Tf 1) (Tv 0) (pz_b ro_217 (pz_sum (cB (Tf 1) (Tv 0)))) sv_226 sv_227 sv_228 sv_229 := pf_232
              obtain ⟨ro_234, ero_234⟩ : ∃ z : Except Int (Nat × Nat), z = (pz_b ro_217 (pz_sum (cB (Tf 1) (Tv 0)))) := ⟨_, rfl⟩
              rw [← ero_234] at pf_232
              have tb_235 : TpB (rTE (cB (Tf 1) (Tv 0)) ro_234) sv_227 sv_229 := TpR.tb pf_232
              have pf_233 : Ctd (pz_b ro_217 (pz_sum (cB (Tf 1) (Tv 0)))) sv_224 := pf_233
              rw [← ero_234] at pf_233
              refine W.eq (g2 := F0 m 72 ls []) rfl ?_
              replace hP : va_P D classes [((Va 0), .inr (7, [.ref (Va 1), .int sv_223, .int sv_224])), ((Va 1), .inl (tc 0, 400, .inl sv_225)), ((Ta 0), .inr (10, [.ref (Ta 1), .int (Tv 0), .int sv_226, .int sv_227, .int sv_228, .int sv_229])), ((Ta 1), .inl (tc 0, 400, .inl (Tf 1)))] H := hP₀
              replace hD : va_D A [((Va 0), .inr (7, [.ref (Va 1), .int sv_223, .int sv_224])), ((Va 1), .inl (tc 0, 400, .inl sv_225)), ((Ta 0), .inr (10, [.ref (Ta 1), .int (Tv 0), .int sv_226, .int sv_227, .int sv_228, .int sv_229])), ((Ta 1), .inl (tc 0, 400, .inl (Tf 1)))] := hD₀
              replace hS := hS₀
              clear hP₀ hD₀ hS₀
              refine lv_aload_n hx hb dX7_read_72 rfl (lv_at hl 2 rfl) ?_
              refine va_ldcS hx hb hown (sx_3 hX) dX7_read_73 ?_
              have ha_236 : (3 : Nat) < 7 := by
                have z_1 := Int32.le_iff_toInt_le.mp (Int32.not_lt.mp c_40)
                have z_2 := congrArg Int32.toInt c_82
                have z_3 : ¬ (r_87 : Int32).toInt = (0 : Int32).toInt := fun z => c_92 (Int32.toInt_inj.mp z)
                have z_4 := congrArg Int32.toInt c_95
                have y_0 : (0 : Int32).toInt = 0 := by decide
                have y_12 : (12 : Int32).toInt = 12 := by decide
                have y_3 : (3 : Int32).toInt = 3 := by decide
                omega
              refine cV (a := (Ta 0)) (As := [.ref (sk.1 3)]) (rest := []) (wr := [((Va 0), .inr (7, [.ref (Va 1), .int sv_223, .int sv_224])), ((Va 1), .inl (tc 0, 400, .inl sv_225))]) ⟨hx, hb, hml, hown, hts⟩ hK hX hA (cu_fX10_takesWord l D tc sk (Ta 0) (Ta 1) (Tv 0) sv_226 sv_227 sv_228 sv_229 (Tf 1) 3 ro_234 ha_236 pf_230 h_by pf_232) k_650 k_647 k_648 k_649 k_96 pl_X10_takesWord ⟨Nat.le_of_ble_eq_true rfl, Nat.le_of_ble_eq_true rfl⟩ rfl rfl (va_recv hK hP (ci := 10) (q0 := 2) rfl rfl) hP hD hS [2, 3] [0, 1] rfl rfl rfl rfl rfl (by decide) rfl hl.1 rfl (Nat.le_of_ble_eq_true rfl) dX7_read_75 ⟨Nat.le_of_ble_eq_true rfl, Nat.le_of_ble_eq_true rfl⟩ (fun v_237 u_238 H locs hv_239 hP₀ hD₀ hS₀ => ?_)
              obtain ⟨sv_240, sv_241, sv_242⟩ := u_238
              obtain ⟨r_244, rfl, he_245, pf_243, hm_247, hm_248⟩ := hv_239
              have he_245 : (r_244.toInt = 0 ∨ r_244.toInt = 1) := he_245
              have pf_243 : 0 ≤ ((Tv 0) : Int32).toInt ∧ ((Tv 0) : Int32).toInt ≤ 400 ∧ 0 ≤ (sv_240 : Int32).toInt ∧ (sv_240 : Int32).toInt ≤ 400 ∧ 0 ≤ (sv_241 : Int32).toInt ∧ (sv_241 : Int32).toInt ≤ 400 := pf_243
              refine W.eq (g2 := F0 m 78 ls [.int r_244]) rfl ?_
              replace hP : va_P D classes [((Va 0), .inr (7, [.ref (Va 1), .int sv_223, .int sv_224])), ((Va 1), .inl (tc 0, 400, .inl sv_225)), ((Ta 0), .inr (10, [.ref (Ta 1), .int (Tv 0), .int sv_240, .int sv_241, .int sv_242, .int sv_229])), ((Ta 1), .inl (tc 0, 400, .inl (Tf 1)))] H := hP₀
              replace hD : va_D A [((Va 0), .inr (7, [.ref (Va 1), .int sv_223, .int sv_224])), ((Va 1), .inl (tc 0, 400, .inl sv_225)), ((Ta 0), .inr (10, [.ref (Ta 1), .int (Tv 0), .int sv_240, .int sv_241, .int sv_242, .int sv_229])), ((Ta 1), .inl (tc 0, 400, .inl (Tf 1)))] := hD₀
              replace hS := hS₀
              clear hP₀ hD₀ hS₀
              refine lv_if_eq (tgt := 96) hx hb dX7_read_78 (by decide) (fun c_249 => ?_) (fun c_249 => ?_)
              · skip
                have hz_252 : (r_244 : Int32).toInt = 0 := by
                  have z_1 := Int32.le_iff_toInt_le.mp (Int32.not_lt.mp c_40)
                  have z_2 := congrArg Int32.toInt c_82
                  have z_3 : ¬ (r_87 : Int32).toInt = (0 : Int32).toInt := fun z => c_92 (Int32.toInt_inj.mp z)
                  have z_4 := congrArg Int32.toInt c_95
                  have z_5 := congrArg Int32.toInt c_249
                  have y_0 : (0 : Int32).toInt = 0 := by decide
                  have y_12 : (12 : Int32).toInt = 12 := by decide
                  omega
                obtain ⟨pf_250, pf_251⟩ := hm_248 hz_252
                have pf_250 : NWd (cB (Tf 1) (Tv 0)) (wS (3 : Nat)) ro_234 := pf_250
                have pf_251 : TpR (Tf 1) (Tv 0) ro_234 sv_240 sv_241 sv_242 sv_229 := pf_251
                have tb_253 : TpB (rTE (cB (Tf 1) (Tv 0)) ro_234) sv_241 sv_229 := TpR.tb pf_251
                refine lv_aload_n hx hb dX7_read_96 rfl (lv_at hl 1 rfl) ?_
                refine lv_bipush (v := (-2)) hx hb dX7_read_97 (by decide) ?_
                refine cV (a := (Va 0)) (As := [.int (-2)]) (rest := []) (wr := [((Ta 0), .inr (10, [.ref (Ta 1), .int (Tv 0), .int sv_240, .int sv_241, .int sv_242, .int sv_229])), ((Ta 1), .inl (tc 0, 400, .inl (Tf 1)))]) ⟨hx, hb, hml, hown, hts⟩ hK hX hA (cu_fX7_put l D tc sk (Va 0) (Va 1) sv_223 sv_224 sv_225 (-2) pf_231) k_642 k_639 k_641 k_10 k_99 pl_X7_put ⟨Nat.le_of_ble_eq_true rfl, Nat.le_of_ble_eq_true rfl⟩ rfl rfl (va_recv hK hP (ci := 7) (q0 := 0) rfl rfl) hP hD hS [0, 1] [2, 3] rfl rfl rfl rfl rfl (by decide) rfl hl.1 rfl (Nat.le_of_ble_eq_true rfl) dX7_read_99 ⟨Nat.le_of_ble_eq_true rfl, Nat.le_of_ble_eq_true rfl⟩ (fun v_254 u_255 H locs hv_256 hP₀ hD₀ hS₀ => ?_)
                obtain ⟨sv_257, sv_258⟩ := u_255
                obtain ⟨rfl, pf_259⟩ := hv_256
                have pf_259 : 0 ≤ (sv_257 : Int32).toInt ∧ (sv_257 : Int32).toInt ≤ 400 := pf_259
                refine W.eq (g2 := F0 m 102 ls []) rfl ?_
                replace hP : va_P D classes [((Ta 0), .inr (10, [.ref (Ta 1), .int (Tv 0), .int sv_240, .int sv_241, .int sv_242, .int sv_229])), ((Ta 1), .inl (tc 0, 400, .inl (Tf 1))), ((Va 0), .inr (7, [.ref (Va 1), .int sv_257, .int sv_224])), ((Va 1), .inl (tc 0, 400, .inl sv_258))] H := hP₀
                replace hD : va_D A [((Ta 0), .inr (10, [.ref (Ta 1), .int (Tv 0), .int sv_240, .int sv_241, .int sv_242, .int sv_229])), ((Ta 1), .inl (tc 0, 400, .inl (Tf 1))), ((Va 0), .inr (7, [.ref (Va 1), .int sv_257, .int sv_224])), ((Va 1), .inl (tc 0, 400, .inl sv_258))] := hD₀
                replace hS := hS₀
                clear hP₀ hD₀ hS₀
                obtain ⟨x_260, ex_260⟩ : ∃ y : Int32, y = vy_19 + 1 := ⟨_, rfl⟩
                refine lv_iinc (v := x_260) (lv' := [(2, .int x_260), (0, .ref (Va 0)), (1, .ref (Ta 0))]) hx hb dX7_read_102 hl (k := 0) rfl (by rw [ex_260]; rfl) (by decide) rfl (fun ls hl₀ => ?_)
                replace hl := hl₀
                clear hl₀
                refine lv_goto (tgt := 16) hx hb dX7_read_105 (by decide) ?_
                have hb_261 : 14 - (x_260 : Int32).toInt < 14 - (vy_19 : Int32).toInt ∧ 1 ≤ 14 - (vy_19 : Int32).toInt := by
                  have z_1 := Int32.le_iff_toInt_le.mp (Int32.not_lt.mp c_40)
                  have z_2 := congrArg Int32.toInt c_82
                  have z_3 : ¬ (r_87 : Int32).toInt = (0 : Int32).toInt := fun z => c_92 (Int32.toInt_inj.mp z)
                  have z_4 := congrArg Int32.toInt c_95
                  have z_5 := congrArg Int32.toInt c_249
                  have y_0 : (0 : Int32).toInt = 0 := by decide
                  have y_12 : (12 : Int32).toInt = 12 := by decide
                  have y_1 : (1 : Int32).toInt = 1 := by decide
                  have t_x_260 : x_260.toInt = (vy_19 : Int32).toInt + (1 : Int32).toInt := by rw [ex_260]; exact add_toInt (by omega) (by omega)
                  omega
                have ha_262 : 0 ≤ (x_260 : Int32).toInt ∧ (x_260 : Int32).toInt ≤ 13 := by
                  have z_1 := Int32.le_iff_toInt_le.mp (Int32.not_lt.mp c_40)
                  have z_2 := congrArg Int32.toInt c_82
                  have z_3 : ¬ (r_87 : Int32).toInt = (0 : Int32).toInt := fun z => c_92 (Int32.toInt_inj.mp z)
                  have z_4 := congrArg Int32.toInt c_95
                  have z_5 := congrArg Int32.toInt c_249
                  have y_0 : (0 : Int32).toInt = 0 := by decide
                  have y_12 : (12 : Int32).toInt = 12 := by decide
                  have y_1 : (1 : Int32).toInt = 1 := by decide
                  have t_x_260 : x_260.toInt = (vy_19 : Int32).toInt + (1 : Int32).toInt := by rw [ex_260]; exact add_toInt (by omega) (by omega)
                  omega
                have hw_263 : TWd (cB (Tf 1) (Tv 0)) pz_buy rq_35 := by
                  rw [← wS1]
                  exact pf_93
                have hr_264 : (vy_19 : Int32).toInt.toNat = 12 := by
                  have z_1 := Int32.le_iff_toInt_le.mp (Int32.not_lt.mp c_40)
                  have z_2 := congrArg Int32.toInt c_82
                  have z_3 : ¬ (r_87 : Int32).toInt = (0 : Int32).toInt := fun z => c_92 (Int32.toInt_inj.mp z)
                  have z_4 := congrArg Int32.toInt c_95
                  have z_5 := congrArg Int32.toInt c_249
                  have y_0 : (0 : Int32).toInt = 0 := by decide
                  have y_12 : (12 : Int32).toInt = 12 := by decide
                  omega
                have hE_265 : pz_b rq_35 (pz_cla (cB (Tf 1) (Tv 0)) (vy_19 : Int32).toInt.toNat) = ro_234 := by
                  rw [ero_234, ero_217, ero_206]
                  exact ((cla_12 hw_263 hr_264).trans (by cases rq_35 <;> rfl))
                have hu_266 : TpR (Tf 1) (Tv 0) (pz_b rq_35 (pz_cla (cB (Tf 1) (Tv 0)) (vy_19 : Int32).toInt.toNat)) sv_240 sv_241 sv_242 sv_229 := by rw [hE_265]; exact pf_251
                have hu_267 : Ctd (pz_b rq_35 (pz_cla (cB (Tf 1) (Tv 0)) (vy_19 : Int32).toInt.toNat)) sv_224 := by rw [hE_265]; exact pf_233
                have hi_268 : (x_260 : Int32).toInt = (vy_19 : Int32).toInt + 1 := by
                  have z_1 := Int32.le_iff_toInt_le.mp (Int32.not_lt.mp c_40)
                  have z_2 := congrArg Int32.toInt c_82
                  have z_3 : ¬ (r_87 : Int32).toInt = (0 : Int32).toInt := fun z => c_92 (Int32.toInt_inj.mp z)
                  have z_4 := congrArg Int32.toInt c_95
                  have z_5 := congrArg Int32.toInt c_249
                  have y_0 : (0 : Int32).toInt = 0 := by decide
                  have y_12 : (12 : Int32).toInt = 12 := by decide
                  have y_1 : (1 : Int32).toInt = 1 := by decide
                  have t_x_260 : x_260.toInt = (vy_19 : Int32).toInt + (1 : Int32).toInt := by rw [ex_260]; exact add_toInt (by omega) (by omega)
                  omega
                have hr_269 : (vy_19 : Int32).toInt = 0 := by
                  have z_1 := Int32.le_iff_toInt_le.mp (Int32.not_lt.mp c_40)
                  have z_2 := congrArg Int32.toInt c_82
                  have z_3 : ¬ (r_87 : Int32).toInt = (0 : Int32).toInt := fun z => c_92 (Int32.toInt_inj.mp z)
                  have z_4 := congrArg Int32.toInt c_95
                  have z_5 := congrArg Int32.toInt c_249
                  have y_0 : (0 : Int32).toInt = 0 := by decide
                  have y_12 : (12 : Int32).toInt = 12 := by decide
                  omega
                exact ih_28 x_260 sv_257 sv_224 sv_258 sv_240 sv_241 sv_242 sv_229 _ _ _ (by omega) ha_262 pf_243 pf_259 (RcL.next0 hr_269 pf_38 hu_266 hu_267 hi_268) (hP.sub [2, 3, 0, 1] rfl) (hD.sub [2, 3, 0, 1] rfl rfl) hS (lv_sub hl [0, 1, 2] rfl)
              · skip
                have hz_272 : (r_244 : Int32).toInt = 1 := by
                  have z_1 := Int32.le_iff_toInt_le.mp (Int32.not_lt.mp c_40)
                  have z_2 := congrArg Int32.toInt c_82
                  have z_3 : ¬ (r_87 : Int32).toInt = (0 : Int32).toInt := fun z => c_92 (Int32.toInt_inj.mp z)
                  have z_4 := congrArg Int32.toInt c_95
                  have z_5 : ¬ (r_244 : Int32).toInt = (0 : Int32).toInt := fun z => c_249 (Int32.toInt_inj.mp z)
                  have y_0 : (0 : Int32).toInt = 0 := by decide
                  have y_12 : (12 : Int32).toInt = 12 := by decide
                  omega
                obtain ⟨pf_270, pf_271⟩ := hm_247 hz_272
                have pf_270 : TWd (cB (Tf 1) (Tv 0)) (wS (3 : Nat)) ro_234 := pf_270
                have pf_271 : TpR (Tf 1) (Tv 0) (rNX (cB (Tf 1) (Tv 0)) ro_234) sv_240 sv_241 sv_242 sv_229 := pf_271
                obtain ⟨ro_273, ero_273⟩ : ∃ z : Except Int (Nat × Nat), z = (rNX (cB (Tf 1) (Tv 0)) ro_234) := ⟨_, rfl⟩
                rw [← ero_273] at pf_271
                have tb_274 : TpB (rTE (cB (Tf 1) (Tv 0)) ro_273) sv_241 sv_229 := TpR.tb pf_271
                have cd_275 : Ctd ro_273 sv_224 := by rw [ero_273]; exact (Ctd.nx pf_233)
                refine lv_aload_n hx hb dX7_read_81 rfl (lv_at hl 1 rfl) ?_
                refine lv_aload_n hx hb dX7_read_82 rfl (lv_at hl 2 rfl) ?_
                refine lv_iconst (v := 0) hx hb dX7_read_83 (by decide) ?_
                refine cV (a := (Va 0)) (As := [.ref (Ta 0), .int 0]) (rest := []) (wr := []) ⟨hx, hb, hml, hown, hts⟩ hK hX hA (cu_fX7_readTest_0 l D tc sk (Va 0) (Va 1) sv_223 sv_224 sv_225 (Ta 0) (Ta 1) (Tv 0) sv_240 sv_241 sv_242 sv_229 (Tf 1) ro_273 pf_243 pf_231 h_by pf_271 cd_275) k_655 k_652 k_654 k_11 k_99 pl_X7_readTest ⟨Nat.le_of_ble_eq_true rfl, Nat.le_of_ble_eq_true rfl⟩ rfl rfl (va_recv hK hP (ci := 7) (q0 := 0) rfl rfl) hP hD hS [0, 1, 2, 3] [] rfl rfl rfl rfl rfl (by decide) rfl hl.1 rfl (Nat.le_of_ble_eq_true rfl) dX7_read_84 ⟨Nat.le_of_ble_eq_true rfl, Nat.le_of_ble_eq_true rfl⟩ (fun v_276 u_277 H locs hv_278 hP₀ hD₀ hS₀ => ?_)
                obtain ⟨sv_279, sv_280, sv_281, sv_282, sv_283, sv_284, sv_285⟩ := u_277
                obtain ⟨rfl, pf_286, pf_287, pf_288, pf_289⟩ := hv_278
                have pf_286 : 0 ≤ ((Tv 0) : Int32).toInt ∧ ((Tv 0) : Int32).toInt ≤ 400 ∧ 0 ≤ (sv_282 : Int32).toInt ∧ (sv_282 : Int32).toInt ≤ 400 ∧ 0 ≤ (sv_283 : Int32).toInt ∧ (sv_283 : Int32).toInt ≤ 400 := pf_286
                have pf_287 : 0 ≤ (sv_279 : Int32).toInt ∧ (sv_279 : Int32).toInt ≤ 400 := pf_287
                have pf_288 : TpR (Tf 1) (Tv 0) (pz_b ro_273 (pz_tst (cB (Tf 1) (Tv 0)) (pz_fact (cB (Tf 1) (Tv 0)) 10))) sv_282 sv_283 sv_284 sv_285 := pf_288
                obtain ⟨ro_290, ero_290⟩ : ∃ z : Except Int (Nat × Nat), z = (pz_b ro_273 (pz_tst (cB (Tf 1) (Tv 0)) (pz_fact (cB (Tf 1) (Tv 0)) 10))) := ⟨_, rfl⟩
                rw [← ero_290] at pf_288
                have tb_291 : TpB (rTE (cB (Tf 1) (Tv 0)) ro_290) sv_283 sv_285 := TpR.tb pf_288
                have pf_289 : Ctd (pz_b ro_273 (pz_tst (cB (Tf 1) (Tv 0)) (pz_fact (cB (Tf 1) (Tv 0)) 10))) sv_280 := pf_289
                rw [← ero_290] at pf_289
                refine W.eq (g2 := F0 m 87 ls []) rfl ?_
                replace hP : va_P D classes [((Va 0), .inr (7, [.ref (Va 1), .int sv_279, .int sv_280])), ((Va 1), .inl (tc 0, 400, .inl sv_281)), ((Ta 0), .inr (10, [.ref (Ta 1), .int (Tv 0), .int sv_282, .int sv_283, .int sv_284, .int sv_285])), ((Ta 1), .inl (tc 0, 400, .inl (Tf 1)))] H := hP₀
                replace hD : va_D A [((Va 0), .inr (7, [.ref (Va 1), .int sv_279, .int sv_280])), ((Va 1), .inl (tc 0, 400, .inl sv_281)), ((Ta 0), .inr (10, [.ref (Ta 1), .int (Tv 0), .int sv_282, .int sv_283, .int sv_284, .int sv_285])), ((Ta 1), .inl (tc 0, 400, .inl (Tf 1)))] := hD₀
                replace hS := hS₀
                clear hP₀ hD₀ hS₀
                refine lv_aload_n hx hb dX7_read_87 rfl (lv_at hl 1 rfl) ?_
                refine lv_bipush (v := (-3)) hx hb dX7_read_88 (by decide) ?_
                refine cV (a := (Va 0)) (As := [.int (-3)]) (rest := []) (wr := [((Ta 0), .inr (10, [.ref (Ta 1), .int (Tv 0), .int sv_282, .int sv_283, .int sv_284, .int sv_285])), ((Ta 1), .inl (tc 0, 400, .inl (Tf 1)))]) ⟨hx, hb, hml, hown, hts⟩ hK hX hA (cu_fX7_put l D tc sk (Va 0) (Va 1) sv_279 sv_280 sv_281 (-3) pf_287) k_642 k_639 k_641 k_10 k_99 pl_X7_put ⟨Nat.le_of_ble_eq_true rfl, Nat.le_of_ble_eq_true rfl⟩ rfl rfl (va_recv hK hP (ci := 7) (q0 := 0) rfl rfl) hP hD hS [0, 1] [2, 3] rfl rfl rfl rfl rfl (by decide) rfl hl.1 rfl (Nat.le_of_ble_eq_true rfl) dX7_read_90 ⟨Nat.le_of_ble_eq_true rfl, Nat.le_of_ble_eq_true rfl⟩ (fun v_292 u_293 H locs hv_294 hP₀ hD₀ hS₀ => ?_)
                obtain ⟨sv_295, sv_296⟩ := u_293
                obtain ⟨rfl, pf_297⟩ := hv_294
                have pf_297 : 0 ≤ (sv_295 : Int32).toInt ∧ (sv_295 : Int32).toInt ≤ 400 := pf_297
                refine W.eq (g2 := F0 m 93 ls []) rfl ?_
                replace hP : va_P D classes [((Ta 0), .inr (10, [.ref (Ta 1), .int (Tv 0), .int sv_282, .int sv_283, .int sv_284, .int sv_285])), ((Ta 1), .inl (tc 0, 400, .inl (Tf 1))), ((Va 0), .inr (7, [.ref (Va 1), .int sv_295, .int sv_280])), ((Va 1), .inl (tc 0, 400, .inl sv_296))] H := hP₀
                replace hD : va_D A [((Ta 0), .inr (10, [.ref (Ta 1), .int (Tv 0), .int sv_282, .int sv_283, .int sv_284, .int sv_285])), ((Ta 1), .inl (tc 0, 400, .inl (Tf 1))), ((Va 0), .inr (7, [.ref (Va 1), .int sv_295, .int sv_280])), ((Va 1), .inl (tc 0, 400, .inl sv_296))] := hD₀
                replace hS := hS₀
                clear hP₀ hD₀ hS₀
                refine lv_goto (tgt := 102) hx hb dX7_read_93 (by decide) ?_
                obtain ⟨x_298, ex_298⟩ : ∃ y : Int32, y = vy_19 + 1 := ⟨_, rfl⟩
                refine lv_iinc (v := x_298) (lv' := [(2, .int x_298), (0, .ref (Va 0)), (1, .ref (Ta 0))]) hx hb dX7_read_102 hl (k := 0) rfl (by rw [ex_298]; rfl) (by decide) rfl (fun ls hl₀ => ?_)
                replace hl := hl₀
                clear hl₀
                refine lv_goto (tgt := 16) hx hb dX7_read_105 (by decide) ?_
                have hb_299 : 14 - (x_298 : Int32).toInt < 14 - (vy_19 : Int32).toInt ∧ 1 ≤ 14 - (vy_19 : Int32).toInt := by
                  have z_1 := Int32.le_iff_toInt_le.mp (Int32.not_lt.mp c_40)
                  have z_2 := congrArg Int32.toInt c_82
                  have z_3 : ¬ (r_87 : Int32).toInt = (0 : Int32).toInt := fun z => c_92 (Int32.toInt_inj.mp z)
                  have z_4 := congrArg Int32.toInt c_95
                  have z_5 : ¬ (r_244 : Int32).toInt = (0 : Int32).toInt := fun z => c_249 (Int32.toInt_inj.mp z)
                  have y_0 : (0 : Int32).toInt = 0 := by decide
                  have y_12 : (12 : Int32).toInt = 12 := by decide
                  have y_1 : (1 : Int32).toInt = 1 := by decide
                  have t_x_298 : x_298.toInt = (vy_19 : Int32).toInt + (1 : Int32).toInt := by rw [ex_298]; exact add_toInt (by omega) (by omega)
                  omega
                have ha_300 : 0 ≤ (x_298 : Int32).toInt ∧ (x_298 : Int32).toInt ≤ 13 := by
                  have z_1 := Int32.le_iff_toInt_le.mp (Int32.not_lt.mp c_40)
                  have z_2 := congrArg Int32.toInt c_82
                  have z_3 : ¬ (r_87 : Int32).toInt = (0 : Int32).toInt := fun z => c_92 (Int32.toInt_inj.mp z)
                  have z_4 := congrArg Int32.toInt c_95
                  have z_5 : ¬ (r_244 : Int32).toInt = (0 : Int32).toInt := fun z => c_249 (Int32.toInt_inj.mp z)
                  have y_0 : (0 : Int32).toInt = 0 := by decide
                  have y_12 : (12 : Int32).toInt = 12 := by decide
                  have y_1 : (1 : Int32).toInt = 1 := by decide
                  have t_x_298 : x_298.toInt = (vy_19 : Int32).toInt + (1 : Int32).toInt := by rw [ex_298]; exact add_toInt (by omega) (by omega)
                  omega
                have hw_301 : TWd (cB (Tf 1) (Tv 0)) pz_buy rq_35 := by
                  rw [← wS1]
                  exact pf_93
                have hr_302 : (vy_19 : Int32).toInt.toNat = 12 := by
                  have z_1 := Int32.le_iff_toInt_le.mp (Int32.not_lt.mp c_40)
                  have z_2 := congrArg Int32.toInt c_82
                  have z_3 : ¬ (r_87 : Int32).toInt = (0 : Int32).toInt := fun z => c_92 (Int32.toInt_inj.mp z)
                  have z_4 := congrArg Int32.toInt c_95
                  have z_5 : ¬ (r_244 : Int32).toInt = (0 : Int32).toInt := fun z => c_249 (Int32.toInt_inj.mp z)
                  have y_0 : (0 : Int32).toInt = 0 := by decide
                  have y_12 : (12 : Int32).toInt = 12 := by decide
                  omega
                have hE_303 : pz_b rq_35 (pz_cla (cB (Tf 1) (Tv 0)) (vy_19 : Int32).toInt.toNat) = ro_290 := by
                  rw [ero_290, ero_273, ero_234, ero_217, ero_206]
                  exact ((cla_12 hw_301 hr_302).trans (by cases rq_35 <;> rfl))
                have hu_304 : TpR (Tf 1) (Tv 0) (pz_b rq_35 (pz_cla (cB (Tf 1) (Tv 0)) (vy_19 : Int32).toInt.toNat)) sv_282 sv_283 sv_284 sv_285 := by rw [hE_303]; exact pf_288
                have hu_305 : Ctd (pz_b rq_35 (pz_cla (cB (Tf 1) (Tv 0)) (vy_19 : Int32).toInt.toNat)) sv_280 := by rw [hE_303]; exact pf_289
                have hi_306 : (x_298 : Int32).toInt = (vy_19 : Int32).toInt + 1 := by
                  have z_1 := Int32.le_iff_toInt_le.mp (Int32.not_lt.mp c_40)
                  have z_2 := congrArg Int32.toInt c_82
                  have z_3 : ¬ (r_87 : Int32).toInt = (0 : Int32).toInt := fun z => c_92 (Int32.toInt_inj.mp z)
                  have z_4 := congrArg Int32.toInt c_95
                  have z_5 : ¬ (r_244 : Int32).toInt = (0 : Int32).toInt := fun z => c_249 (Int32.toInt_inj.mp z)
                  have y_0 : (0 : Int32).toInt = 0 := by decide
                  have y_12 : (12 : Int32).toInt = 12 := by decide
                  have y_1 : (1 : Int32).toInt = 1 := by decide
                  have t_x_298 : x_298.toInt = (vy_19 : Int32).toInt + (1 : Int32).toInt := by rw [ex_298]; exact add_toInt (by omega) (by omega)
                  omega
                have hr_307 : (vy_19 : Int32).toInt = 0 := by
                  have z_1 := Int32.le_iff_toInt_le.mp (Int32.not_lt.mp c_40)
                  have z_2 := congrArg Int32.toInt c_82
                  have z_3 : ¬ (r_87 : Int32).toInt = (0 : Int32).toInt := fun z => c_92 (Int32.toInt_inj.mp z)
                  have z_4 := congrArg Int32.toInt c_95
                  have z_5 : ¬ (r_244 : Int32).toInt = (0 : Int32).toInt := fun z => c_249 (Int32.toInt_inj.mp z)
                  have y_0 : (0 : Int32).toInt = 0 := by decide
                  have y_12 : (12 : Int32).toInt = 12 := by decide
                  omega
                exact ih_28 x_298 sv_295 sv_280 sv_296 sv_282 sv_283 sv_284 sv_285 _ _ _ (by omega) ha_300 pf_286 pf_297 (RcL.next0 hr_307 pf_38 hu_304 hu_305 hi_306) (hP.sub [2, 3, 0, 1] rfl) (hD.sub [2, 3, 0, 1] rfl rfl) hS (lv_sub hl [0, 1, 2] rfl)
          · skip
            have hz_309 : (r_87 : Int32).toInt = 0 := by
              have z_1 := Int32.le_iff_toInt_le.mp (Int32.not_lt.mp c_40)
              have z_2 := congrArg Int32.toInt c_82
              have z_3 := congrArg Int32.toInt c_92
              have y_0 : (0 : Int32).toInt = 0 := by decide
              have y_12 : (12 : Int32).toInt = 12 := by decide
              omega
            obtain pf_308 := hm_91 hz_309
            have pf_308 : NWd (cB (Tf 1) (Tv 0)) (wS (1 : Nat)) rq_35 := pf_308
            refine lv_aload_n hx hb dX7_read_44 rfl (lv_at hl 2 rfl) ?_
            refine lv_iconst (v := 0) hx hb dX7_read_45 (by decide) ?_
            have ha_310 : 0 ≤ (0 : Int32).toInt ∧ (0 : Int32).toInt ≤ 4 := by
              have z_1 := Int32.le_iff_toInt_le.mp (Int32.not_lt.mp c_40)
              have z_2 := congrArg Int32.toInt c_82
              have z_3 := congrArg Int32.toInt c_92
              have y_0 : (0 : Int32).toInt = 0 := by decide
              have y_12 : (12 : Int32).toInt = 12 := by decide
              omega
            have ha_311 : (0 : Int32).toInt = (0 : Int) := by
              have z_1 := Int32.le_iff_toInt_le.mp (Int32.not_lt.mp c_40)
              have z_2 := congrArg Int32.toInt c_82
              have z_3 := congrArg Int32.toInt c_92
              have y_0 : (0 : Int32).toInt = 0 := by decide
              have y_12 : (12 : Int32).toInt = 12 := by decide
              omega
            refine cV (a := (Ta 0)) (As := [.int 0]) (rest := []) (wr := [((Va 0), .inr (7, [.ref (Va 1), .int vy_20, .int vy_21])), ((Va 1), .inl (tc 0, 400, .inl vy_22))]) ⟨hx, hb, hml, hown, hts⟩ hK hX hA (cu_fX10_fail l D tc sk (Ta 0) (Ta 1) (Tv 0) vy_23 vy_24 vy_25 vy_26 (Tf 1) 0 rq_35 0 pf_31 pf_36 ha_310 ha_311) k_557 k_619 k_555 k_556 k_96 pl_X10_fail ⟨Nat.le_of_ble_eq_true rfl, Nat.le_of_ble_eq_true rfl⟩ rfl rfl (va_recv hK hP (ci := 10) (q0 := 2) rfl rfl) hP hD hS [2, 3] [0, 1] rfl rfl rfl rfl rfl (by decide) rfl hl.1 rfl (Nat.le_of_ble_eq_true rfl) dX7_read_46 ⟨Nat.le_of_ble_eq_true rfl, Nat.le_of_ble_eq_true rfl⟩ (fun v_312 u_313 H locs hv_314 hP₀ hD₀ hS₀ => ?_)
            obtain ⟨sv_315, sv_316⟩ := u_313
            obtain ⟨rfl, pf_317, pf_318⟩ := hv_314
            have pf_317 : 0 ≤ ((Tv 0) : Int32).toInt ∧ ((Tv 0) : Int32).toInt ≤ 400 ∧ 0 ≤ (vy_23 : Int32).toInt ∧ (vy_23 : Int32).toInt ≤ 400 ∧ 0 ≤ (vy_24 : Int32).toInt ∧ (vy_24 : Int32).toInt ≤ 400 := pf_317
            have pf_318 : TpR (Tf 1) (Tv 0) (rER (0 : Int) rq_35) vy_23 vy_24 sv_315 sv_316 := pf_318
            obtain ⟨ro_319, ero_319⟩ : ∃ z : Except Int (Nat × Nat), z = (rER 0 rq_35) := ⟨_, rfl⟩
            rw [← ero_319] at pf_318
            have tb_320 : TpB (rTE (cB (Tf 1) (Tv 0)) ro_319) vy_24 sv_316 := TpR.tb pf_318
            have cd_321 : Ctd ro_319 vy_21 := by rw [ero_319]; exact (Ctd.er)
            refine W.eq (g2 := F0 m 49 ls []) rfl ?_
            replace hP : va_P D classes [((Va 0), .inr (7, [.ref (Va 1), .int vy_20, .int vy_21])), ((Va 1), .inl (tc 0, 400, .inl vy_22)), ((Ta 0), .inr (10, [.ref (Ta 1), .int (Tv 0), .int vy_23, .int vy_24, .int sv_315, .int sv_316])), ((Ta 1), .inl (tc 0, 400, .inl (Tf 1)))] H := hP₀
            replace hD : va_D A [((Va 0), .inr (7, [.ref (Va 1), .int vy_20, .int vy_21])), ((Va 1), .inl (tc 0, 400, .inl vy_22)), ((Ta 0), .inr (10, [.ref (Ta 1), .int (Tv 0), .int vy_23, .int vy_24, .int sv_315, .int sv_316])), ((Ta 1), .inl (tc 0, 400, .inl (Tf 1)))] := hD₀
            replace hS := hS₀
            clear hP₀ hD₀ hS₀
            refine lv_goto (tgt := 63) hx hb dX7_read_49 (by decide) ?_
            refine lv_aload_n hx hb dX7_read_63 rfl (lv_at hl 2 rfl) ?_
            refine cV (a := (Ta 0)) (As := []) (rest := []) (wr := [((Va 0), .inr (7, [.ref (Va 1), .int vy_20, .int vy_21])), ((Va 1), .inl (tc 0, 400, .inl vy_22))]) ⟨hx, hb, hml, hown, hts⟩ hK hX hA (cu_fX10_step l D tc sk (Ta 0) (Ta 1) (Tv 0) vy_23 vy_24 sv_315 sv_316 (Tf 1) (rTE (cB (Tf 1) (Tv 0)) ro_319) pf_317 h_by tb_320) k_478 k_620 k_476 k_477 k_96 pl_X10_step ⟨Nat.le_of_ble_eq_true rfl, Nat.le_of_ble_eq_true rfl⟩ rfl rfl (va_recv hK hP (ci := 10) (q0 := 2) rfl rfl) hP hD hS [2, 3] [0, 1] rfl rfl rfl rfl rfl (by decide) rfl hl.1 rfl (Nat.le_of_ble_eq_true rfl) dX7_read_64 ⟨Nat.le_of_ble_eq_true rfl, Nat.le_of_ble_eq_true rfl⟩ (fun v_322 u_323 H locs hv_324 hP₀ hD₀ hS₀ => ?_)
            obtain ⟨sv_325, sv_326, sv_327⟩ := u_323
            obtain ⟨rfl, pf_328, pf_329⟩ := hv_324
            have pf_328 : 0 ≤ ((Tv 0) : Int32).toInt ∧ ((Tv 0) : Int32).toInt ≤ 400 ∧ 0 ≤ (sv_325 : Int32).toInt ∧ (sv_325 : Int32).toInt ≤ 400 ∧ 0 ≤ (sv_326 : Int32).toInt ∧ (sv_326 : Int32).toInt ≤ 400 := pf_328
            have pf_329 : TpR (Tf 1) (Tv 0) (rSK (cB (Tf 1) (Tv 0)) (rTE (cB (Tf 1) (Tv 0)) ro_319)) sv_325 sv_326 sv_327 sv_316 := pf_329
            rw [rNX_eq] at pf_329
            obtain ⟨ro_330, ero_330⟩ : ∃ z : Except Int (Nat × Nat), z = (rNX (cB (Tf 1) (Tv 0)) ro_319) := ⟨_, rfl⟩
            rw [← ero_330] at pf_329
            have tb_331 : TpB (rTE (cB (Tf 1) (Tv 0)) ro_330) sv_326 sv_316 := TpR.tb pf_329
            have cd_332 : Ctd ro_330 vy_21 := by rw [ero_330]; exact (Ctd.nx cd_321)
            refine W.eq (g2 := F0 m 67 ls []) rfl ?_
            replace hP : va_P D classes [((Va 0), .inr (7, [.ref (Va 1), .int vy_20, .int vy_21])), ((Va 1), .inl (tc 0, 400, .inl vy_22)), ((Ta 0), .inr (10, [.ref (Ta 1), .int (Tv 0), .int sv_325, .int sv_326, .int sv_327, .int sv_316])), ((Ta 1), .inl (tc 0, 400, .inl (Tf 1)))] H := hP₀
            replace hD : va_D A [((Va 0), .inr (7, [.ref (Va 1), .int vy_20, .int vy_21])), ((Va 1), .inl (tc 0, 400, .inl vy_22)), ((Ta 0), .inr (10, [.ref (Ta 1), .int (Tv 0), .int sv_325, .int sv_326, .int sv_327, .int sv_316])), ((Ta 1), .inl (tc 0, 400, .inl (Tf 1)))] := hD₀
            replace hS := hS₀
            clear hP₀ hD₀ hS₀
            refine lv_aload_n hx hb dX7_read_67 rfl (lv_at hl 1 rfl) ?_
            refine lv_aload_n hx hb dX7_read_68 rfl (lv_at hl 2 rfl) ?_
            refine cV (a := (Va 0)) (As := [.ref (Ta 0)]) (rest := []) (wr := []) ⟨hx, hb, hml, hown, hts⟩ hK hX hA (cu_fX7_readSum l D tc sk (Va 0) (Va 1) vy_20 vy_21 vy_22 (Ta 0) (Ta 1) (Tv 0) sv_325 sv_326 sv_327 sv_316 (Tf 1) ro_330 pf_328 pf_32 h_by pf_329 cd_332) k_624 k_621 k_623 k_7 k_99 pl_X7_readSum ⟨Nat.le_of_ble_eq_true rfl, Nat.le_of_ble_eq_true rfl⟩ rfl rfl (va_recv hK hP (ci := 7) (q0 := 0) rfl rfl) hP hD hS [0, 1, 2, 3] [] rfl rfl rfl rfl rfl (by decide) rfl hl.1 rfl (Nat.le_of_ble_eq_true rfl) dX7_read_69 ⟨Nat.le_of_ble_eq_true rfl, Nat.le_of_ble_eq_true rfl⟩ (fun v_333 u_334 H locs hv_335 hP₀ hD₀ hS₀ => ?_)
            obtain ⟨sv_336, sv_337, sv_338, sv_339, sv_340, sv_341, sv_342⟩ := u_334
            obtain ⟨rfl, pf_343, pf_344, pf_345, pf_346⟩ := hv_335
            have pf_343 : 0 ≤ ((Tv 0) : Int32).toInt ∧ ((Tv 0) : Int32).toInt ≤ 400 ∧ 0 ≤ (sv_339 : Int32).toInt ∧ (sv_339 : Int32).toInt ≤ 400 ∧ 0 ≤ (sv_340 : Int32).toInt ∧ (sv_340 : Int32).toInt ≤ 400 := pf_343
            have pf_344 : 0 ≤ (sv_336 : Int32).toInt ∧ (sv_336 : Int32).toInt ≤ 400 := pf_344
            have pf_345 : TpR (Tf 1) (Tv 0) (pz_b ro_330 (pz_sum (cB (Tf 1) (Tv 0)))) sv_339 sv_340 sv_341 sv_342 := pf_345
            obtain ⟨ro_347, ero_347⟩ : ∃ z : Except Int (Nat × Nat), z = (pz_b ro_330 (pz_sum (cB (Tf 1) (Tv 0)))) := ⟨_, rfl⟩
            rw [← ero_347] at pf_345
            have tb_348 : TpB (rTE (cB (Tf 1) (Tv 0)) ro_347) sv_340 sv_342 := TpR.tb pf_345
            have pf_346 : Ctd (pz_b ro_330 (pz_sum (cB (Tf 1) (Tv 0)))) sv_337 := pf_346
            rw [← ero_347] at pf_346
            refine W.eq (g2 := F0 m 72 ls []) rfl ?_
            replace hP : va_P D classes [((Va 0), .inr (7, [.ref (Va 1), .int sv_336, .int sv_337])), ((Va 1), .inl (tc 0, 400, .inl sv_338)), ((Ta 0), .inr (10, [.ref (Ta 1), .int (Tv 0), .int sv_339, .int sv_340, .int sv_341, .int sv_342])), ((Ta 1), .inl (tc 0, 400, .inl (Tf 1)))] H := hP₀
            replace hD : va_D A [((Va 0), .inr (7, [.ref (Va 1), .int sv_336, .int sv_337])), ((Va 1), .inl (tc 0, 400, .inl sv_338)), ((Ta 0), .inr (10, [.ref (Ta 1), .int (Tv 0), .int sv_339, .int sv_340, .int sv_341, .int sv_342])), ((Ta 1), .inl (tc 0, 400, .inl (Tf 1)))] := hD₀
            replace hS := hS₀
            clear hP₀ hD₀ hS₀
            refine lv_aload_n hx hb dX7_read_72 rfl (lv_at hl 2 rfl) ?_
            refine va_ldcS hx hb hown (sx_3 hX) dX7_read_73 ?_
            have ha_349 : (3 : Nat) < 7 := by
              have z_1 := Int32.le_iff_toInt_le.mp (Int32.not_lt.mp c_40)
              have z_2 := congrArg Int32.toInt c_82
              have z_3 := congrArg Int32.toInt c_92
              have y_0 : (0 : Int32).toInt = 0 := by decide
              have y_12 : (12 : Int32).toInt = 12 := by decide
              have y_3 : (3 : Int32).toInt = 3 := by decide
              omega
            refine cV (a := (Ta 0)) (As := [.ref (sk.1 3)]) (rest := []) (wr := [((Va 0), .inr (7, [.ref (Va 1), .int sv_336, .int sv_337])), ((Va 1), .inl (tc 0, 400, .inl sv_338))]) ⟨hx, hb, hml, hown, hts⟩ hK hX hA (cu_fX10_takesWord l D tc sk (Ta 0) (Ta 1) (Tv 0) sv_339 sv_340 sv_341 sv_342 (Tf 1) 3 ro_347 ha_349 pf_343 h_by pf_345) k_650 k_647 k_648 k_649 k_96 pl_X10_takesWord ⟨Nat.le_of_ble_eq_true rfl, Nat.le_of_ble_eq_true rfl⟩ rfl rfl (va_recv hK hP (ci := 10) (q0 := 2) rfl rfl) hP hD hS [2, 3] [0, 1] rfl rfl rfl rfl rfl (by decide) rfl hl.1 rfl (Nat.le_of_ble_eq_true rfl) dX7_read_75 ⟨Nat.le_of_ble_eq_true rfl, Nat.le_of_ble_eq_true rfl⟩ (fun v_350 u_351 H locs hv_352 hP₀ hD₀ hS₀ => ?_)
            obtain ⟨sv_353, sv_354, sv_355⟩ := u_351
            obtain ⟨r_357, rfl, he_358, pf_356, hm_360, hm_361⟩ := hv_352
            have he_358 : (r_357.toInt = 0 ∨ r_357.toInt = 1) := he_358
            have pf_356 : 0 ≤ ((Tv 0) : Int32).toInt ∧ ((Tv 0) : Int32).toInt ≤ 400 ∧ 0 ≤ (sv_353 : Int32).toInt ∧ (sv_353 : Int32).toInt ≤ 400 ∧ 0 ≤ (sv_354 : Int32).toInt ∧ (sv_354 : Int32).toInt ≤ 400 := pf_356
            refine W.eq (g2 := F0 m 78 ls [.int r_357]) rfl ?_
            replace hP : va_P D classes [((Va 0), .inr (7, [.ref (Va 1), .int sv_336, .int sv_337])), ((Va 1), .inl (tc 0, 400, .inl sv_338)), ((Ta 0), .inr (10, [.ref (Ta 1), .int (Tv 0), .int sv_353, .int sv_354, .int sv_355, .int sv_342])), ((Ta 1), .inl (tc 0, 400, .inl (Tf 1)))] H := hP₀
            replace hD : va_D A [((Va 0), .inr (7, [.ref (Va 1), .int sv_336, .int sv_337])), ((Va 1), .inl (tc 0, 400, .inl sv_338)), ((Ta 0), .inr (10, [.ref (Ta 1), .int (Tv 0), .int sv_353, .int sv_354, .int sv_355, .int sv_342])), ((Ta 1), .inl (tc 0, 400, .inl (Tf 1)))] := hD₀
            replace hS := hS₀
            clear hP₀ hD₀ hS₀
            refine lv_if_eq (tgt := 96) hx hb dX7_read_78 (by decide) (fun c_362 => ?_) (fun c_362 => ?_)
            · skip
              have hz_365 : (r_357 : Int32).toInt = 0 := by
                have z_1 := Int32.le_iff_toInt_le.mp (Int32.not_lt.mp c_40)
                have z_2 := congrArg Int32.toInt c_82
                have z_3 := congrArg Int32.toInt c_92
                have z_4 := congrArg Int32.toInt c_362
                have y_0 : (0 : Int32).toInt = 0 := by decide
                have y_12 : (12 : Int32).toInt = 12 := by decide
                omega
              obtain ⟨pf_363, pf_364⟩ := hm_361 hz_365
              have pf_363 : NWd (cB (Tf 1) (Tv 0)) (wS (3 : Nat)) ro_347 := pf_363
              have pf_364 : TpR (Tf 1) (Tv 0) ro_347 sv_353 sv_354 sv_355 sv_342 := pf_364
              have tb_366 : TpB (rTE (cB (Tf 1) (Tv 0)) ro_347) sv_354 sv_342 := TpR.tb pf_364
              refine lv_aload_n hx hb dX7_read_96 rfl (lv_at hl 1 rfl) ?_
              refine lv_bipush (v := (-2)) hx hb dX7_read_97 (by decide) ?_
              refine cV (a := (Va 0)) (As := [.int (-2)]) (rest := []) (wr := [((Ta 0), .inr (10, [.ref (Ta 1), .int (Tv 0), .int sv_353, .int sv_354, .int sv_355, .int sv_342])), ((Ta 1), .inl (tc 0, 400, .inl (Tf 1)))]) ⟨hx, hb, hml, hown, hts⟩ hK hX hA (cu_fX7_put l D tc sk (Va 0) (Va 1) sv_336 sv_337 sv_338 (-2) pf_344) k_642 k_639 k_641 k_10 k_99 pl_X7_put ⟨Nat.le_of_ble_eq_true rfl, Nat.le_of_ble_eq_true rfl⟩ rfl rfl (va_recv hK hP (ci := 7) (q0 := 0) rfl rfl) hP hD hS [0, 1] [2, 3] rfl rfl rfl rfl rfl (by decide) rfl hl.1 rfl (Nat.le_of_ble_eq_true rfl) dX7_read_99 ⟨Nat.le_of_ble_eq_true rfl, Nat.le_of_ble_eq_true rfl⟩ (fun v_367 u_368 H locs hv_369 hP₀ hD₀ hS₀ => ?_)
              obtain ⟨sv_370, sv_371⟩ := u_368
              obtain ⟨rfl, pf_372⟩ := hv_369
              have pf_372 : 0 ≤ (sv_370 : Int32).toInt ∧ (sv_370 : Int32).toInt ≤ 400 := pf_372
              refine W.eq (g2 := F0 m 102 ls []) rfl ?_
              replace hP : va_P D classes [((Ta 0), .inr (10, [.ref (Ta 1), .int (Tv 0), .int sv_353, .int sv_354, .int sv_355, .int sv_342])), ((Ta 1), .inl (tc 0, 400, .inl (Tf 1))), ((Va 0), .inr (7, [.ref (Va 1), .int sv_370, .int sv_337])), ((Va 1), .inl (tc 0, 400, .inl sv_371))] H := hP₀
              replace hD : va_D A [((Ta 0), .inr (10, [.ref (Ta 1), .int (Tv 0), .int sv_353, .int sv_354, .int sv_355, .int sv_342])), ((Ta 1), .inl (tc 0, 400, .inl (Tf 1))), ((Va 0), .inr (7, [.ref (Va 1), .int sv_370, .int sv_337])), ((Va 1), .inl (tc 0, 400, .inl sv_371))] := hD₀
              replace hS := hS₀
              clear hP₀ hD₀ hS₀
              obtain ⟨x_373, ex_373⟩ : ∃ y : Int32, y = vy_19 + 1 := ⟨_, rfl⟩
              refine lv_iinc (v := x_373) (lv' := [(2, .int x_373), (0, .ref (Va 0)), (1, .ref (Ta 0))]) hx hb dX7_read_102 hl (k := 0) rfl (by rw [ex_373]; rfl) (by decide) rfl (fun ls hl₀ => ?_)
              replace hl := hl₀
              clear hl₀
              refine lv_goto (tgt := 16) hx hb dX7_read_105 (by decide) ?_
              have hb_374 : 14 - (x_373 : Int32).toInt < 14 - (vy_19 : Int32).toInt ∧ 1 ≤ 14 - (vy_19 : Int32).toInt := by
                have z_1 := Int32.le_iff_toInt_le.mp (Int32.not_lt.mp c_40)
                have z_2 := congrArg Int32.toInt c_82
                have z_3 := congrArg Int32.toInt c_92
                have z_4 := congrArg Int32.toInt c_362
                have y_0 : (0 : Int32).toInt = 0 := by decide
                have y_12 : (12 : Int32).toInt = 12 := by decide
                have y_1 : (1 : Int32).toInt = 1 := by decide
                have t_x_373 : x_373.toInt = (vy_19 : Int32).toInt + (1 : Int32).toInt := by rw [ex_373]; exact add_toInt (by omega) (by omega)
                omega
              have ha_375 : 0 ≤ (x_373 : Int32).toInt ∧ (x_373 : Int32).toInt ≤ 13 := by
                have z_1 := Int32.le_iff_toInt_le.mp (Int32.not_lt.mp c_40)
                have z_2 := congrArg Int32.toInt c_82
                have z_3 := congrArg Int32.toInt c_92
                have z_4 := congrArg Int32.toInt c_362
                have y_0 : (0 : Int32).toInt = 0 := by decide
                have y_12 : (12 : Int32).toInt = 12 := by decide
                have y_1 : (1 : Int32).toInt = 1 := by decide
                have t_x_373 : x_373.toInt = (vy_19 : Int32).toInt + (1 : Int32).toInt := by rw [ex_373]; exact add_toInt (by omega) (by omega)
                omega
              have hw_376 : NWd (cB (Tf 1) (Tv 0)) pz_buy rq_35 := by
                rw [← wS1]
                exact pf_308
              have hE_377 : pz_b rq_35 (pz_cla (cB (Tf 1) (Tv 0)) (vy_19 : Int32).toInt.toNat) = ro_347 := by
                rw [ero_347, ero_330, ero_319]
                exact ((cla_no hw_376).trans (by cases rq_35 <;> rfl))
              have hu_378 : TpR (Tf 1) (Tv 0) (pz_b rq_35 (pz_cla (cB (Tf 1) (Tv 0)) (vy_19 : Int32).toInt.toNat)) sv_353 sv_354 sv_355 sv_342 := by rw [hE_377]; exact pf_364
              have hu_379 : Ctd (pz_b rq_35 (pz_cla (cB (Tf 1) (Tv 0)) (vy_19 : Int32).toInt.toNat)) sv_337 := by rw [hE_377]; exact pf_346
              have hi_380 : (x_373 : Int32).toInt = (vy_19 : Int32).toInt + 1 := by
                have z_1 := Int32.le_iff_toInt_le.mp (Int32.not_lt.mp c_40)
                have z_2 := congrArg Int32.toInt c_82
                have z_3 := congrArg Int32.toInt c_92
                have z_4 := congrArg Int32.toInt c_362
                have y_0 : (0 : Int32).toInt = 0 := by decide
                have y_12 : (12 : Int32).toInt = 12 := by decide
                have y_1 : (1 : Int32).toInt = 1 := by decide
                have t_x_373 : x_373.toInt = (vy_19 : Int32).toInt + (1 : Int32).toInt := by rw [ex_373]; exact add_toInt (by omega) (by omega)
                omega
              have hr_381 : (vy_19 : Int32).toInt = 0 := by
                have z_1 := Int32.le_iff_toInt_le.mp (Int32.not_lt.mp c_40)
                have z_2 := congrArg Int32.toInt c_82
                have z_3 := congrArg Int32.toInt c_92
                have z_4 := congrArg Int32.toInt c_362
                have y_0 : (0 : Int32).toInt = 0 := by decide
                have y_12 : (12 : Int32).toInt = 12 := by decide
                omega
              exact ih_28 x_373 sv_370 sv_337 sv_371 sv_353 sv_354 sv_355 sv_342 _ _ _ (by omega) ha_375 pf_356 pf_372 (RcL.next0 hr_381 pf_38 hu_378 hu_379 hi_380) (hP.sub [2, 3, 0, 1] rfl) (hD.sub [2, 3, 0, 1] rfl rfl) hS (lv_sub hl [0, 1, 2] rfl)
            · skip
              have hz_384 : (r_357 : Int32).toInt = 1 := by
                have z_1 := Int32.le_iff_toInt_le.mp (Int32.not_lt.mp c_40)
                have z_2 := congrArg Int32.toInt c_82
                have z_3 := congrArg Int32.toInt c_92
                have z_4 : ¬ (r_357 : Int32).toInt = (0 : Int32).toInt := fun z => c_362 (Int32.toInt_inj.mp z)
                have y_0 : (0 : Int32).toInt = 0 := by decide
                have y_12 : (12 : Int32).toInt = 12 := by decide
                omega
              obtain ⟨pf_382, pf_383⟩ := hm_360 hz_384
              have pf_382 : TWd (cB (Tf 1) (Tv 0)) (wS (3 : Nat)) ro_347 := pf_382
              have pf_383 : TpR (Tf 1) (Tv 0) (rNX (cB (Tf 1) (Tv 0)) ro_347) sv_353 sv_354 sv_355 sv_342 := pf_383
              obtain ⟨ro_385, ero_385⟩ : ∃ z : Except Int (Nat × Nat), z = (rNX (cB (Tf 1) (Tv 0)) ro_347) := ⟨_, rfl⟩
              rw [← ero_385] at pf_383
              have tb_386 : TpB (rTE (cB (Tf 1) (Tv 0)) ro_385) sv_354 sv_342 := TpR.tb pf_383
              have cd_387 : Ctd ro_385 sv_337 := by rw [ero_385]; exact (Ctd.nx pf_346)
              refine lv_aload_n hx hb dX7_read_81 rfl (lv_at hl 1 rfl) ?_
              refine lv_aload_n hx hb dX7_read_82 rfl (lv_at hl 2 rfl) ?_
              refine lv_iconst (v := 0) hx hb dX7_read_83 (by decide) ?_
              refine cV (a := (Va 0)) (As := [.ref (Ta 0), .int 0]) (rest := []) (wr := []) ⟨hx, hb, hml, hown, hts⟩ hK hX hA (cu_fX7_readTest_0 l D tc sk (Va 0) (Va 1) sv_336 sv_337 sv_338 (Ta 0) (Ta 1) (Tv 0) sv_353 sv_354 sv_355 sv_342 (Tf 1) ro_385 pf_356 pf_344 h_by pf_383 cd_387) k_655 k_652 k_654 k_11 k_99 pl_X7_readTest ⟨Nat.le_of_ble_eq_true rfl, Nat.le_of_ble_eq_true rfl⟩ rfl rfl (va_recv hK hP (ci := 7) (q0 := 0) rfl rfl) hP hD hS [0, 1, 2, 3] [] rfl rfl rfl rfl rfl (by decide) rfl hl.1 rfl (Nat.le_of_ble_eq_true rfl) dX7_read_84 ⟨Nat.le_of_ble_eq_true rfl, Nat.le_of_ble_eq_true rfl⟩ (fun v_388 u_389 H locs hv_390 hP₀ hD₀ hS₀ => ?_)
              obtain ⟨sv_391, sv_392, sv_393, sv_394, sv_395, sv_396, sv_397⟩ := u_389
              obtain ⟨rfl, pf_398, pf_399, pf_400, pf_401⟩ := hv_390
              have pf_398 : 0 ≤ ((Tv 0) : Int32).toInt ∧ ((Tv 0) : Int32).toInt ≤ 400 ∧ 0 ≤ (sv_394 : Int32).toInt ∧ (sv_394 : Int32).toInt ≤ 400 ∧ 0 ≤ (sv_395 : Int32).toInt ∧ (sv_395 : Int32).toInt ≤ 400 := pf_398
              have pf_399 : 0 ≤ (sv_391 : Int32).toInt ∧ (sv_391 : Int32).toInt ≤ 400 := pf_399
              have pf_400 : TpR (Tf 1) (Tv 0) (pz_b ro_385 (pz_tst (cB (Tf 1) (Tv 0)) (pz_fact (cB (Tf 1) (Tv 0)) 10))) sv_394 sv_395 sv_396 sv_397 := pf_400
              obtain ⟨ro_402, ero_402⟩ : ∃ z : Except Int (Nat × Nat), z = (pz_b ro_385 (pz_tst (cB (Tf 1) (Tv 0)) (pz_fact (cB (Tf 1) (Tv 0)) 10))) := ⟨_, rfl⟩
              rw [← ero_402] at pf_400
              have tb_403 : TpB (rTE (cB (Tf 1) (Tv 0)) ro_402) sv_395 sv_397 := TpR.tb pf_400
              have pf_401 : Ctd (pz_b ro_385 (pz_tst (cB (Tf 1) (Tv 0)) (pz_fact (cB (Tf 1) (Tv 0)) 10))) sv_392 := pf_401
              rw [← ero_402] at pf_401
              refine W.eq (g2 := F0 m 87 ls []) rfl ?_
              replace hP : va_P D classes [((Va 0), .inr (7, [.ref (Va 1), .int sv_391, .int sv_392])), ((Va 1), .inl (tc 0, 400, .inl sv_393)), ((Ta 0), .inr (10, [.ref (Ta 1), .int (Tv 0), .int sv_394, .int sv_395, .int sv_396, .int sv_397])), ((Ta 1), .inl (tc 0, 400, .inl (Tf 1)))] H := hP₀
              replace hD : va_D A [((Va 0), .inr (7, [.ref (Va 1), .int sv_391, .int sv_392])), ((Va 1), .inl (tc 0, 400, .inl sv_393)), ((Ta 0), .inr (10, [.ref (Ta 1), .int (Tv 0), .int sv_394, .int sv_395, .int sv_396, .int sv_397])), ((Ta 1), .inl (tc 0, 400, .inl (Tf 1)))] := hD₀
              replace hS := hS₀
              clear hP₀ hD₀ hS₀
              refine lv_aload_n hx hb dX7_read_87 rfl (lv_at hl 1 rfl) ?_
              refine lv_bipush (v := (-3)) hx hb dX7_read_88 (by decide) ?_
              refine cV (a := (Va 0)) (As := [.int (-3)]) (rest := []) (wr := [((Ta 0), .inr (10, [.ref (Ta 1), .int (Tv 0), .int sv_394, .int sv_395, .int sv_396, .int sv_397])), ((Ta 1), .inl (tc 0, 400, .inl (Tf 1)))]) ⟨hx, hb, hml, hown, hts⟩ hK hX hA (cu_fX7_put l D tc sk (Va 0) (Va 1) sv_391 sv_392 sv_393 (-3) pf_399) k_642 k_639 k_641 k_10 k_99 pl_X7_put ⟨Nat.le_of_ble_eq_true rfl, Nat.le_of_ble_eq_true rfl⟩ rfl rfl (va_recv hK hP (ci := 7) (q0 := 0) rfl rfl) hP hD hS [0, 1] [2, 3] rfl rfl rfl rfl rfl (by decide) rfl hl.1 rfl (Nat.le_of_ble_eq_true rfl) dX7_read_90 ⟨Nat.le_of_ble_eq_true rfl, Nat.le_of_ble_eq_true rfl⟩ (fun v_404 u_405 H locs hv_406 hP₀ hD₀ hS₀ => ?_)
              obtain ⟨sv_407, sv_408⟩ := u_405
              obtain ⟨rfl, pf_409⟩ := hv_406
              have pf_409 : 0 ≤ (sv_407 : Int32).toInt ∧ (sv_407 : Int32).toInt ≤ 400 := pf_409
              refine W.eq (g2 := F0 m 93 ls []) rfl ?_
              replace hP : va_P D classes [((Ta 0), .inr (10, [.ref (Ta 1), .int (Tv 0), .int sv_394, .int sv_395, .int sv_396, .int sv_397])), ((Ta 1), .inl (tc 0, 400, .inl (Tf 1))), ((Va 0), .inr (7, [.ref (Va 1), .int sv_407, .int sv_392])), ((Va 1), .inl (tc 0, 400, .inl sv_408))] H := hP₀
              replace hD : va_D A [((Ta 0), .inr (10, [.ref (Ta 1), .int (Tv 0), .int sv_394, .int sv_395, .int sv_396, .int sv_397])), ((Ta 1), .inl (tc 0, 400, .inl (Tf 1))), ((Va 0), .inr (7, [.ref (Va 1), .int sv_407, .int sv_392])), ((Va 1), .inl (tc 0, 400, .inl sv_408))] := hD₀
              replace hS := hS₀
              clear hP₀ hD₀ hS₀
              refine lv_goto (tgt := 102) hx hb dX7_read_93 (by decide) ?_
              obtain ⟨x_410, ex_410⟩ : ∃ y : Int32, y = vy_19 + 1 := ⟨_, rfl⟩
              refine lv_iinc (v := x_410) (lv' := [(2, .int x_410), (0, .ref (Va 0)), (1, .ref (Ta 0))]) hx hb dX7_read_102 hl (k := 0) rfl (by rw [ex_410]; rfl) (by decide) rfl (fun ls hl₀ => ?_)
              replace hl := hl₀
              clear hl₀
              refine lv_goto (tgt := 16) hx hb dX7_read_105 (by decide) ?_
              have hb_411 : 14 - (x_410 : Int32).toInt < 14 - (vy_19 : Int32).toInt ∧ 1 ≤ 14 - (vy_19 : Int32).toInt := by
                have z_1 := Int32.le_iff_toInt_le.mp (Int32.not_lt.mp c_40)
                have z_2 := congrArg Int32.toInt c_82
                have z_3 := congrArg Int32.toInt c_92
                have z_4 : ¬ (r_357 : Int32).toInt = (0 : Int32).toInt := fun z => c_362 (Int32.toInt_inj.mp z)
                have y_0 : (0 : Int32).toInt = 0 := by decide
                have y_12 : (12 : Int32).toInt = 12 := by decide
                have y_1 : (1 : Int32).toInt = 1 := by decide
                have t_x_410 : x_410.toInt = (vy_19 : Int32).toInt + (1 : Int32).toInt := by rw [ex_410]; exact add_toInt (by omega) (by omega)
                omega
              have ha_412 : 0 ≤ (x_410 : Int32).toInt ∧ (x_410 : Int32).toInt ≤ 13 := by
                have z_1 := Int32.le_iff_toInt_le.mp (Int32.not_lt.mp c_40)
                have z_2 := congrArg Int32.toInt c_82
                have z_3 := congrArg Int32.toInt c_92
                have z_4 : ¬ (r_357 : Int32).toInt = (0 : Int32).toInt := fun z => c_362 (Int32.toInt_inj.mp z)
                have y_0 : (0 : Int32).toInt = 0 := by decide
                have y_12 : (12 : Int32).toInt = 12 := by decide
                have y_1 : (1 : Int32).toInt = 1 := by decide
                have t_x_410 : x_410.toInt = (vy_19 : Int32).toInt + (1 : Int32).toInt := by rw [ex_410]; exact add_toInt (by omega) (by omega)
                omega
              have hw_413 : NWd (cB (Tf 1) (Tv 0)) pz_buy rq_35 := by
                rw [← wS1]
                exact pf_308
              have hE_414 : pz_b rq_35 (pz_cla (cB (Tf 1) (Tv 0)) (vy_19 : Int32).toInt.toNat) = ro_402 := by
                rw [ero_402, ero_385, ero_347, ero_330, ero_319]
                exact ((cla_no hw_413).trans (by cases rq_35 <;> rfl))
              have hu_415 : TpR (Tf 1) (Tv 0) (pz_b rq_35 (pz_cla (cB (Tf 1) (Tv 0)) (vy_19 : Int32).toInt.toNat)) sv_394 sv_395 sv_396 sv_397 := by rw [hE_414]; exact pf_400
              have hu_416 : Ctd (pz_b rq_35 (pz_cla (cB (Tf 1) (Tv 0)) (vy_19 : Int32).toInt.toNat)) sv_392 := by rw [hE_414]; exact pf_401
              have hi_417 : (x_410 : Int32).toInt = (vy_19 : Int32).toInt + 1 := by
                have z_1 := Int32.le_iff_toInt_le.mp (Int32.not_lt.mp c_40)
                have z_2 := congrArg Int32.toInt c_82
                have z_3 := congrArg Int32.toInt c_92
                have z_4 : ¬ (r_357 : Int32).toInt = (0 : Int32).toInt := fun z => c_362 (Int32.toInt_inj.mp z)
                have y_0 : (0 : Int32).toInt = 0 := by decide
                have y_12 : (12 : Int32).toInt = 12 := by decide
                have y_1 : (1 : Int32).toInt = 1 := by decide
                have t_x_410 : x_410.toInt = (vy_19 : Int32).toInt + (1 : Int32).toInt := by rw [ex_410]; exact add_toInt (by omega) (by omega)
                omega
              have hr_418 : (vy_19 : Int32).toInt = 0 := by
                have z_1 := Int32.le_iff_toInt_le.mp (Int32.not_lt.mp c_40)
                have z_2 := congrArg Int32.toInt c_82
                have z_3 := congrArg Int32.toInt c_92
                have z_4 : ¬ (r_357 : Int32).toInt = (0 : Int32).toInt := fun z => c_362 (Int32.toInt_inj.mp z)
                have y_0 : (0 : Int32).toInt = 0 := by decide
                have y_12 : (12 : Int32).toInt = 12 := by decide
                omega
              exact ih_28 x_410 sv_407 sv_392 sv_408 sv_394 sv_395 sv_396 sv_397 _ _ _ (by omega) ha_412 pf_398 pf_409 (RcL.next0 hr_418 pf_38 hu_415 hu_416 hi_417) (hP.sub [2, 3, 0, 1] rfl) (hD.sub [2, 3, 0, 1] rfl rfl) hS (lv_sub hl [0, 1, 2] rfl)
        · skip
          refine lv_aload_n hx hb dX7_read_26 rfl (lv_at hl 2 rfl) ?_
          refine lv_bipush (v := 59) hx hb dX7_read_27 (by decide) ?_
          have ha_419 : 0 ≤ (59 : Int32).toInt := by
            have z_1 := Int32.le_iff_toInt_le.mp (Int32.not_lt.mp c_40)
            have z_2 : ¬ (vy_19 : Int32).toInt = (0 : Int32).toInt := fun z => c_82 (Int32.toInt_inj.mp z)
            have y_0 : (0 : Int32).toInt = 0 := by decide
            have y_12 : (12 : Int32).toInt = 12 := by decide
            have y_59 : (59 : Int32).toInt = 59 := by decide
            omega
          have ha_420 : (59 : Int32).toInt = (59 : Int) := by
            have z_1 := Int32.le_iff_toInt_le.mp (Int32.not_lt.mp c_40)
            have z_2 : ¬ (vy_19 : Int32).toInt = (0 : Int32).toInt := fun z => c_82 (Int32.toInt_inj.mp z)
            have y_0 : (0 : Int32).toInt = 0 := by decide
            have y_12 : (12 : Int32).toInt = 12 := by decide
            have y_59 : (59 : Int32).toInt = 59 := by decide
            omega
          refine cV (a := (Ta 0)) (As := [.int 59]) (rest := []) (wr := [((Va 0), .inr (7, [.ref (Va 1), .int vy_20, .int vy_21])), ((Va 1), .inl (tc 0, 400, .inl vy_22))]) ⟨hx, hb, hml, hown, hts⟩ hK hX hA (cu_fX10_takes l D tc sk (Ta 0) (Ta 1) (Tv 0) vy_23 vy_24 vy_25 vy_26 (Tf 1) 59 rq_35 59 pf_31 h_by pf_36 ha_419 ha_420) k_492 k_613 k_490 k_491 k_96 pl_X10_takes ⟨Nat.le_of_ble_eq_true rfl, Nat.le_of_ble_eq_true rfl⟩ rfl rfl (va_recv hK hP (ci := 10) (q0 := 2) rfl rfl) hP hD hS [2, 3] [0, 1] rfl rfl rfl rfl rfl (by decide) rfl hl.1 rfl (Nat.le_of_ble_eq_true rfl) dX7_read_29 ⟨Nat.le_of_ble_eq_true rfl, Nat.le_of_ble_eq_true rfl⟩ (fun v_421 u_422 H locs hv_423 hP₀ hD₀ hS₀ => ?_)
          obtain ⟨sv_424, sv_425, sv_426⟩ := u_422
          obtain ⟨r_428, rfl, he_429, pf_427, hm_431, hm_432⟩ := hv_423
          have he_429 : (r_428.toInt = 0 ∨ r_428.toInt = 1) := he_429
          have pf_427 : 0 ≤ ((Tv 0) : Int32).toInt ∧ ((Tv 0) : Int32).toInt ≤ 400 ∧ 0 ≤ (sv_424 : Int32).toInt ∧ (sv_424 : Int32).toInt ≤ 400 ∧ 0 ≤ (sv_425 : Int32).toInt ∧ (sv_425 : Int32).toInt ≤ 400 := pf_427
          refine W.eq (g2 := F0 m 32 ls [.int r_428]) rfl ?_
          replace hP : va_P D classes [((Va 0), .inr (7, [.ref (Va 1), .int vy_20, .int vy_21])), ((Va 1), .inl (tc 0, 400, .inl vy_22)), ((Ta 0), .inr (10, [.ref (Ta 1), .int (Tv 0), .int sv_424, .int sv_425, .int sv_426, .int vy_26])), ((Ta 1), .inl (tc 0, 400, .inl (Tf 1)))] H := hP₀
          replace hD : va_D A [((Va 0), .inr (7, [.ref (Va 1), .int vy_20, .int vy_21])), ((Va 1), .inl (tc 0, 400, .inl vy_22)), ((Ta 0), .inr (10, [.ref (Ta 1), .int (Tv 0), .int sv_424, .int sv_425, .int sv_426, .int vy_26])), ((Ta 1), .inl (tc 0, 400, .inl (Tf 1)))] := hD₀
          replace hS := hS₀
          clear hP₀ hD₀ hS₀
          refine lv_if_eq (tgt := 108) hx hb dX7_read_32 (by decide) (fun c_433 => ?_) (fun c_433 => ?_)
          · skip
            have hz_436 : (r_428 : Int32).toInt = 0 := by
              have z_1 := Int32.le_iff_toInt_le.mp (Int32.not_lt.mp c_40)
              have z_2 : ¬ (vy_19 : Int32).toInt = (0 : Int32).toInt := fun z => c_82 (Int32.toInt_inj.mp z)
              have z_3 := congrArg Int32.toInt c_433
              have y_0 : (0 : Int32).toInt = 0 := by decide
              have y_12 : (12 : Int32).toInt = 12 := by decide
              omega
            obtain ⟨pf_434, pf_435⟩ := hm_432 hz_436
            have pf_434 : NSg (cB (Tf 1) (Tv 0)) (59 : Int) rq_35 := pf_434
            have pf_435 : TpR (Tf 1) (Tv 0) rq_35 sv_424 sv_425 sv_426 vy_26 := pf_435
            have tb_437 : TpB (rTE (cB (Tf 1) (Tv 0)) rq_35) sv_425 vy_26 := TpR.tb pf_435
            refine lv_aload_n hx hb dX7_read_108 rfl (lv_at hl 2 rfl) ?_
            refine cV (a := (Ta 0)) (As := []) (rest := []) (wr := [((Va 0), .inr (7, [.ref (Va 1), .int vy_20, .int vy_21])), ((Va 1), .inl (tc 0, 400, .inl vy_22))]) ⟨hx, hb, hml, hown, hts⟩ hK hX hA (cu_fX10_finish l D tc sk (Ta 0) (Ta 1) (Tv 0) sv_424 sv_425 sv_426 vy_26 (Tf 1) rq_35 pf_427 h_by pf_435) k_595 k_666 k_593 k_594 k_96 pl_X10_finish ⟨Nat.le_of_ble_eq_true rfl, Nat.le_of_ble_eq_true rfl⟩ rfl rfl (va_recv hK hP (ci := 10) (q0 := 2) rfl rfl) hP hD hS [2, 3] [0, 1] rfl rfl rfl rfl rfl (by decide) rfl hl.1 rfl (Nat.le_of_ble_eq_true rfl) dX7_read_109 ⟨Nat.le_of_ble_eq_true rfl, Nat.le_of_ble_eq_true rfl⟩ (fun v_438 u_439 H locs hv_440 hP₀ hD₀ hS₀ => ?_)
            obtain ⟨sv_441, sv_442⟩ := u_439
            obtain ⟨rfl, pf_443, pf_444⟩ := hv_440
            have pf_443 : 0 ≤ ((Tv 0) : Int32).toInt ∧ ((Tv 0) : Int32).toInt ≤ 400 ∧ 0 ≤ (sv_424 : Int32).toInt ∧ (sv_424 : Int32).toInt ≤ 400 ∧ 0 ≤ (sv_425 : Int32).toInt ∧ (sv_425 : Int32).toInt ≤ 400 := pf_443
            have pf_444 : TpR (Tf 1) (Tv 0) (rEN (cB (Tf 1) (Tv 0)) rq_35) sv_424 sv_425 sv_441 sv_442 := pf_444
            obtain ⟨ro_445, ero_445⟩ : ∃ z : Except Int (Nat × Nat), z = (rEN (cB (Tf 1) (Tv 0)) rq_35) := ⟨_, rfl⟩
            rw [← ero_445] at pf_444
            have tb_446 : TpB (rTE (cB (Tf 1) (Tv 0)) ro_445) sv_425 sv_442 := TpR.tb pf_444
            refine W.eq (g2 := F0 m 112 ls []) rfl ?_
            replace hP : va_P D classes [((Va 0), .inr (7, [.ref (Va 1), .int vy_20, .int vy_21])), ((Va 1), .inl (tc 0, 400, .inl vy_22)), ((Ta 0), .inr (10, [.ref (Ta 1), .int (Tv 0), .int sv_424, .int sv_425, .int sv_441, .int sv_442])), ((Ta 1), .inl (tc 0, 400, .inl (Tf 1)))] H := hP₀
            replace hD : va_D A [((Va 0), .inr (7, [.ref (Va 1), .int vy_20, .int vy_21])), ((Va 1), .inl (tc 0, 400, .inl vy_22)), ((Ta 0), .inr (10, [.ref (Ta 1), .int (Tv 0), .int sv_424, .int sv_425, .int sv_441, .int sv_442])), ((Ta 1), .inl (tc 0, 400, .inl (Tf 1)))] := hD₀
            replace hS := hS₀
            clear hP₀ hD₀ hS₀
            refine lv_aload_n hx hb dX7_read_112 rfl (lv_at hl 2 rfl) ?_
            refine gf_X7_65 hx hb hts hown hK hP 2 rfl rfl dX7_read_113 ?_
            refine lv_if_ne (tgt := 138) hx hb dX7_read_116 (by decide) (fun c_447 => ?_) (fun c_447 => ?_)
            · skip
              refine lv_null hx hb dX7_read_138 ?_
              have hu_448 : TpR (Tf 1) (Tv 0) (rEN (cB (Tf 1) (Tv 0)) rq_35) sv_424 sv_425 sv_441 sv_442 := by
                rw [← ero_445]
                exact pf_444
              have hr_449 : ¬ (vy_19 : Int32).toInt = 0 := by
                have z_1 := Int32.le_iff_toInt_le.mp (Int32.not_lt.mp c_40)
                have z_2 : ¬ (vy_19 : Int32).toInt = (0 : Int32).toInt := fun z => c_82 (Int32.toInt_inj.mp z)
                have z_3 := congrArg Int32.toInt c_433
                have z_4 : ¬ (sv_442 : Int32).toInt = (0 : Int32).toInt := fun z => c_447 (Int32.toInt_inj.mp z)
                have y_0 : (0 : Int32).toInt = 0 := by decide
                have y_12 : (12 : Int32).toInt = 12 := by decide
                omega
              have hr_450 : ¬ (sv_442 : Int32).toInt = 0 := by
                have z_1 := Int32.le_iff_toInt_le.mp (Int32.not_lt.mp c_40)
                have z_2 : ¬ (vy_19 : Int32).toInt = (0 : Int32).toInt := fun z => c_82 (Int32.toInt_inj.mp z)
                have z_3 := congrArg Int32.toInt c_433
                have z_4 : ¬ (sv_442 : Int32).toInt = (0 : Int32).toInt := fun z => c_447 (Int32.toInt_inj.mp z)
                have y_0 : (0 : Int32).toInt = 0 := by decide
                have y_12 : (12 : Int32).toInt = 12 := by decide
                omega
              exact retA (v := .null) hx hb hr hlk (Or.inl ⟨_, rfl⟩) (Or.inl rfl) hP hD hS (false, 0, 0, 0, 0, 0, (fun _ => 0), 0, 0, 0, 0, (fun _ => 0), 0, vy_20, vy_21, vy_22, sv_424, sv_425, sv_441, sv_442) ⟨rfl, pf_443, pf_32, (RuF.of (RcL.fin pf_38 hr_449 (Or.inr pf_434)) hu_448 hr_450)⟩ [0, 1, 2, 3] rfl rfl dX7_read_139 (Nat.le_of_ble_eq_true rfl) (Nat.le_of_ble_eq_true rfl) rfl
            · skip
              refine lv_aload_n hx hb dX7_read_119 rfl (lv_at hl 1 rfl) ?_
              refine gf_X7_15 hx hb hts hown hK hP 0 rfl rfl dX7_read_120 ?_
              refine lv_if_lt (tgt := 138) hx hb dX7_read_123 (by decide) (fun c_451 => ?_) (fun c_451 => ?_)
              · skip
                refine lv_null hx hb dX7_read_138 ?_
                have hu_452 : TpR (Tf 1) (Tv 0) (rEN (cB (Tf 1) (Tv 0)) rq_35) sv_424 sv_425 sv_441 sv_442 := by
                  rw [← ero_445]
                  exact pf_444
                have hr_453 : ¬ (vy_19 : Int32).toInt = 0 := by
                  have z_1 := Int32.le_iff_toInt_le.mp (Int32.not_lt.mp c_40)
                  have z_2 : ¬ (vy_19 : Int32).toInt = (0 : Int32).toInt := fun z => c_82 (Int32.toInt_inj.mp z)
                  have z_3 := congrArg Int32.toInt c_433
                  have z_4 := congrArg Int32.toInt c_447
                  have z_5 := Int32.lt_iff_toInt_lt.mp c_451
                  have y_0 : (0 : Int32).toInt = 0 := by decide
                  have y_12 : (12 : Int32).toInt = 12 := by decide
                  omega
                have hr_454 : ¬ (sv_442 : Int32).toInt = 0 := by
                  have z_1 := Int32.le_iff_toInt_le.mp (Int32.not_lt.mp c_40)
                  have z_2 : ¬ (vy_19 : Int32).toInt = (0 : Int32).toInt := fun z => c_82 (Int32.toInt_inj.mp z)
                  have z_3 := congrArg Int32.toInt c_433
                  have z_4 := congrArg Int32.toInt c_447
                  have z_5 := Int32.lt_iff_toInt_lt.mp c_451
                  have y_0 : (0 : Int32).toInt = 0 := by decide
                  have y_12 : (12 : Int32).toInt = 12 := by decide
                  omega
                exact retA (v := .null) hx hb hr hlk (Or.inl ⟨_, rfl⟩) (Or.inl rfl) hP hD hS (false, 0, 0, 0, 0, 0, (fun _ => 0), 0, 0, 0, 0, (fun _ => 0), 0, vy_20, vy_21, vy_22, sv_424, sv_425, sv_441, sv_442) ⟨rfl, pf_443, pf_32, (RuF.of (RcL.fin pf_38 hr_453 (Or.inr pf_434)) hu_452 hr_454)⟩ [0, 1, 2, 3] rfl rfl dX7_read_139 (Nat.le_of_ble_eq_true rfl) (Nat.le_of_ble_eq_true rfl) rfl
              · skip
                refine lv_aload_n hx hb dX7_read_126 rfl (lv_at hl 1 rfl) ?_
                refine gf_X7_15 hx hb hts hown hK hP 0 rfl rfl dX7_read_127 ?_
                refine lv_aload_n hx hb dX7_read_130 rfl (lv_at hl 1 rfl) ?_
                refine gf_X7_9 hx hb hts hown hK hP 0 rfl rfl dX7_read_131 ?_
                refine va_alen hx hb hK hP 1 0 rfl rfl (v := 400) rfl dX7_read_134 ?_
                refine lv_icmp_le (tgt := 140) hx hb dX7_read_135 (by decide) (fun c_455 => ?_) (fun c_455 => ?_)
                · skip
                  refine va_new (ci := 6) (fs := [.null, .null]) (C := RX6) (T := TX6) (N := 2) hx hb hts iX6 tyX6 tyX6_ok hown (hts _ k_667) (hts _ k_668) (hts _ k_112) hK hP hD hS hA rfl dfX6 (Nat.le_of_ble_eq_true rfl) (Nat.le_of_ble_eq_true rfl) dX7_read_140 (fun q_456 H hP₀ hD₀ hS₀ => ?_)
                  replace hP : va_P D classes [((Va 0), .inr (7, [.ref (Va 1), .int vy_20, .int vy_21])), ((Va 1), .inl (tc 0, 400, .inl vy_22)), ((Ta 0), .inr (10, [.ref (Ta 1), .int (Tv 0), .int sv_424, .int sv_425, .int sv_441, .int sv_442])), ((Ta 1), .inl (tc 0, 400, .inl (Tf 1))), (q_456, .inr (6, [.null, .null]))] H := hP₀
                  replace hD : va_D A [((Va 0), .inr (7, [.ref (Va 1), .int vy_20, .int vy_21])), ((Va 1), .inl (tc 0, 400, .inl vy_22)), ((Ta 0), .inr (10, [.ref (Ta 1), .int (Tv 0), .int sv_424, .int sv_425, .int sv_441, .int sv_442])), ((Ta 1), .inl (tc 0, 400, .inl (Tf 1))), (q_456, .inr (6, [.null, .null]))] := hD₀
                  replace hS := hS₀
                  clear hP₀ hD₀ hS₀
                  refine lv_dup hx hb dX7_read_143 rfl ?_
                  refine lv_aload_n hx hb dX7_read_144 rfl (lv_at hl 1 rfl) ?_
                  refine gf_X7_9 hx hb hts hown hK hP 0 rfl rfl dX7_read_145 ?_
                  refine lv_aload_n hx hb dX7_read_148 rfl (lv_at hl 1 rfl) ?_
                  refine gf_X7_15 hx hb hts hown hK hP 0 rfl rfl dX7_read_149 ?_
                  have ha_457 : 0 ≤ vy_20.toInt ∧ vy_20.toInt ≤ 400 := by
                    have z_1 := Int32.le_iff_toInt_le.mp (Int32.not_lt.mp c_40)
                    have z_2 : ¬ (vy_19 : Int32).toInt = (0 : Int32).toInt := fun z => c_82 (Int32.toInt_inj.mp z)
                    have z_3 := congrArg Int32.toInt c_433
                    have z_4 := congrArg Int32.toInt c_447
                    have z_5 := Int32.le_iff_toInt_le.mp (Int32.not_lt.mp c_451)
                    have z_6 := Int32.le_iff_toInt_le.mp c_455
                    have y_0 : (0 : Int32).toInt = 0 := by decide
                    have y_12 : (12 : Int32).toInt = 12 := by decide
                    have y_400 : (400 : Int32).toInt = 400 := by decide
                    omega
                  refine cS (As := [.ref (Va 1), .int vy_20]) (rest := [.ref q_456, .ref q_456]) (wr := [((Va 0), .inr (7, [.ref (Va 1), .int vy_20, .int vy_21])), ((Ta 0), .inr (10, [.ref (Ta 1), .int (Tv 0), .int sv_424, .int sv_425, .int sv_441, .int sv_442])), ((Ta 1), .inl (tc 0, 400, .inl (Tf 1))), (q_456, .inr (6, [.null, .null]))]) ⟨hx, hb, hml, hown, hts⟩ hK hX hA (cu_J7_copyOf l D tc sk (Va 1) vy_22 vy_20 ha_457) k_671 k_669 k_670 k_113 pl_J7_copyOf_59c91 ⟨Nat.le_of_ble_eq_true rfl, Nat.le_of_ble_eq_true rfl⟩ rfl rfl  hP hD hS [1] [0, 2, 3, 4] rfl rfl rfl rfl rfl (by decide) rfl hl.1 rfl (Nat.le_of_ble_eq_true rfl) dX7_read_152 ⟨Nat.le_of_ble_eq_true rfl, Nat.le_of_ble_eq_true rfl⟩ (fun v_458 u_459 H locs hv_460 hP₀ hD₀ hS₀ => ?_)
                  obtain ⟨sv_461, sv_462, sv_463⟩ := u_459
                  obtain ⟨rfl, pf_464⟩ := hv_460
                  have pf_464 : sv_463 ≤ 400 := pf_464
                  refine W.eq (g2 := F0 m 155 ls [.ref sv_461, .ref q_456, .ref q_456]) rfl ?_
                  replace hP : va_P D classes [((Va 0), .inr (7, [.ref (Va 1), .int vy_20, .int vy_21])), ((Ta 0), .inr (10, [.ref (Ta 1), .int (Tv 0), .int sv_424, .int sv_425, .int sv_441, .int sv_442])), ((Ta 1), .inl (tc 0, 400, .inl (Tf 1))), (q_456, .inr (6, [.null, .null])), ((Va 1), .inl (tc 0, 400, .inl vy_22)), (sv_461, .inl (tc 0, sv_463, .inl sv_462))] H := hP₀
                  replace hD : va_D A [((Va 0), .inr (7, [.ref (Va 1), .int vy_20, .int vy_21])), ((Ta 0), .inr (10, [.ref (Ta 1), .int (Tv 0), .int sv_424, .int sv_425, .int sv_441, .int sv_442])), ((Ta 1), .inl (tc 0, 400, .inl (Tf 1))), (q_456, .inr (6, [.null, .null])), ((Va 1), .inl (tc 0, 400, .inl vy_22)), (sv_461, .inl (tc 0, sv_463, .inl sv_462))] := hD₀
                  replace hS := hS₀
                  clear hP₀ hD₀ hS₀
                  refine cI (a := q_456) (As := [.ref sv_461]) (rest := [.ref q_456]) (wr := [((Va 0), .inr (7, [.ref (Va 1), .int vy_20, .int vy_21])), ((Ta 0), .inr (10, [.ref (Ta 1), .int (Tv 0), .int sv_424, .int sv_425, .int sv_441, .int sv_442])), ((Ta 1), .inl (tc 0, 400, .inl (Tf 1))), ((Va 1), .inl (tc 0, 400, .inl vy_22)), (sv_461, .inl (tc 0, sv_463, .inl sv_462))]) ⟨hx, hb, hml, hown, hts⟩ hK hX hA (ct_X6_init l D tc sk q_456 sv_461) k_685 k_683 k_684 k_112 rfl pl_X6_init ⟨Nat.le_of_ble_eq_true rfl, Nat.le_of_ble_eq_true rfl⟩ rfl rfl  hP hD hS [3] [0, 1, 2, 4, 5] rfl rfl rfl rfl rfl (by decide) rfl hl.1 rfl (Nat.le_of_ble_eq_true rfl) dX7_read_155 ⟨Nat.le_of_ble_eq_true rfl, Nat.le_of_ble_eq_true rfl⟩ (fun v_465 u_466 H locs hv_467 hP₀ hD₀ hS₀ => ?_)
                  obtain ⟨sv_468, rfl⟩ : ∃ z, z = u_466 := ⟨_, rfl⟩
                  obtain rfl : v_465 = none := hv_467
                  refine W.eq (g2 := F0 m 158 ls [.ref q_456]) rfl ?_
                  replace hP : va_P D classes [((Va 0), .inr (7, [.ref (Va 1), .int vy_20, .int vy_21])), ((Ta 0), .inr (10, [.ref (Ta 1), .int (Tv 0), .int sv_424, .int sv_425, .int sv_441, .int sv_442])), ((Ta 1), .inl (tc 0, 400, .inl (Tf 1))), ((Va 1), .inl (tc 0, 400, .inl vy_22)), (sv_461, .inl (tc 0, sv_463, .inl sv_462)), (q_456, .inr (6, [.ref sv_461, .ref sv_468])), (sv_468, .inl (tc 1, 64, .inr (.inl (fun _ => 0))))] H := hP₀
                  replace hD : va_D A [((Va 0), .inr (7, [.ref (Va 1), .int vy_20, .int vy_21])), ((Ta 0), .inr (10, [.ref (Ta 1), .int (Tv 0), .int sv_424, .int sv_425, .int sv_441, .int sv_442])), ((Ta 1), .inl (tc 0, 400, .inl (Tf 1))), ((Va 1), .inl (tc 0, 400, .inl vy_22)), (sv_461, .inl (tc 0, sv_463, .inl sv_462)), (q_456, .inr (6, [.ref sv_461, .ref sv_468])), (sv_468, .inl (tc 1, 64, .inr (.inl (fun _ => 0))))] := hD₀
                  replace hS := hS₀
                  clear hP₀ hD₀ hS₀
                  have hu_469 : TpR (Tf 1) (Tv 0) (rEN (cB (Tf 1) (Tv 0)) rq_35) sv_424 sv_425 sv_441 sv_442 := by
                    rw [← ero_445]
                    exact pf_444
                  have hr_470 : ¬ (vy_19 : Int32).toInt = 0 := by
                    have z_1 := Int32.le_iff_toInt_le.mp (Int32.not_lt.mp c_40)
                    have z_2 : ¬ (vy_19 : Int32).toInt = (0 : Int32).toInt := fun z => c_82 (Int32.toInt_inj.mp z)
                    have z_3 := congrArg Int32.toInt c_433
                    have z_4 := congrArg Int32.toInt c_447
                    have z_5 := Int32.le_iff_toInt_le.mp (Int32.not_lt.mp c_451)
                    have z_6 := Int32.le_iff_toInt_le.mp c_455
                    have y_0 : (0 : Int32).toInt = 0 := by decide
                    have y_12 : (12 : Int32).toInt = 12 := by decide
                    have y_400 : (400 : Int32).toInt = 400 := by decide
                    omega
                  have hr_471 : (sv_442 : Int32).toInt = 0 := by
                    have z_1 := Int32.le_iff_toInt_le.mp (Int32.not_lt.mp c_40)
                    have z_2 : ¬ (vy_19 : Int32).toInt = (0 : Int32).toInt := fun z => c_82 (Int32.toInt_inj.mp z)
                    have z_3 := congrArg Int32.toInt c_433
                    have z_4 := congrArg Int32.toInt c_447
                    have z_5 := Int32.le_iff_toInt_le.mp (Int32.not_lt.mp c_451)
                    have z_6 := Int32.le_iff_toInt_le.mp c_455
                    have y_0 : (0 : Int32).toInt = 0 := by decide
                    have y_12 : (12 : Int32).toInt = 12 := by decide
                    have y_400 : (400 : Int32).toInt = 400 := by decide
                    omega
                  exact retA (v := .ref q_456) hx hb hr hlk (Or.inl ⟨_, rfl⟩) (Or.inr ⟨_, rfl⟩) hP hD hS (true, q_456, sv_461, sv_468, vy_20, vy_21, vy_22, sv_424, sv_425, sv_441, sv_442, sv_462, sv_463, 0, 0, (fun _ => 0), 0, 0, 0, 0) ⟨rfl, pf_443, pf_32, (RuK.of (RcL.fin pf_38 hr_470 (Or.inr pf_434)) hu_469 hr_471), pf_464⟩ [0, 3, 1, 2, 5, 4, 6] rfl rfl dX7_read_158 (Nat.le_of_ble_eq_true rfl) (Nat.le_of_ble_eq_true rfl) rfl
                · skip
                  refine lv_null hx hb dX7_read_138 ?_
                  have hu_472 : TpR (Tf 1) (Tv 0) (rEN (cB (Tf 1) (Tv 0)) rq_35) sv_424 sv_425 sv_441 sv_442 := by
                    rw [← ero_445]
                    exact pf_444
                  have hr_473 : ¬ (vy_19 : Int32).toInt = 0 := by
                    have z_1 := Int32.le_iff_toInt_le.mp (Int32.not_lt.mp c_40)
                    have z_2 : ¬ (vy_19 : Int32).toInt = (0 : Int32).toInt := fun z => c_82 (Int32.toInt_inj.mp z)
                    have z_3 := congrArg Int32.toInt c_433
                    have z_4 := congrArg Int32.toInt c_447
                    have z_5 := Int32.le_iff_toInt_le.mp (Int32.not_lt.mp c_451)
                    have z_6 := Int32.lt_iff_toInt_lt.mp (Int32.not_le.mp c_455)
                    have y_0 : (0 : Int32).toInt = 0 := by decide
                    have y_12 : (12 : Int32).toInt = 12 := by decide
                    have y_400 : (400 : Int32).toInt = 400 := by decide
                    omega
                  have hr_474 : ¬ (sv_442 : Int32).toInt = 0 := by
                    have z_1 := Int32.le_iff_toInt_le.mp (Int32.not_lt.mp c_40)
                    have z_2 : ¬ (vy_19 : Int32).toInt = (0 : Int32).toInt := fun z => c_82 (Int32.toInt_inj.mp z)
                    have z_3 := congrArg Int32.toInt c_433
                    have z_4 := congrArg Int32.toInt c_447
                    have z_5 := Int32.le_iff_toInt_le.mp (Int32.not_lt.mp c_451)
                    have z_6 := Int32.lt_iff_toInt_lt.mp (Int32.not_le.mp c_455)
                    have y_0 : (0 : Int32).toInt = 0 := by decide
                    have y_12 : (12 : Int32).toInt = 12 := by decide
                    have y_400 : (400 : Int32).toInt = 400 := by decide
                    omega
                  exact retA (v := .null) hx hb hr hlk (Or.inl ⟨_, rfl⟩) (Or.inl rfl) hP hD hS (false, 0, 0, 0, 0, 0, (fun _ => 0), 0, 0, 0, 0, (fun _ => 0), 0, vy_20, vy_21, vy_22, sv_424, sv_425, sv_441, sv_442) ⟨rfl, pf_443, pf_32, (RuF.of (RcL.fin pf_38 hr_473 (Or.inr pf_434)) hu_472 hr_474)⟩ [0, 1, 2, 3] rfl rfl dX7_read_139 (Nat.le_of_ble_eq_true rfl) (Nat.le_of_ble_eq_true rfl) rfl
          · skip
            have hz_477 : (r_428 : Int32).toInt = 1 := by
              have z_1 := Int32.le_iff_toInt_le.mp (Int32.not_lt.mp c_40)
              have z_2 : ¬ (vy_19 : Int32).toInt = (0 : Int32).toInt := fun z => c_82 (Int32.toInt_inj.mp z)
              have z_3 : ¬ (r_428 : Int32).toInt = (0 : Int32).toInt := fun z => c_433 (Int32.toInt_inj.mp z)
              have y_0 : (0 : Int32).toInt = 0 := by decide
              have y_12 : (12 : Int32).toInt = 12 := by decide
              omega
            obtain ⟨pf_475, pf_476⟩ := hm_431 hz_477
            have pf_475 : Sg (cB (Tf 1) (Tv 0)) (59 : Int) rq_35 := pf_475
            have pf_476 : TpR (Tf 1) (Tv 0) (rNX (cB (Tf 1) (Tv 0)) rq_35) sv_424 sv_425 sv_426 vy_26 := pf_476
            obtain ⟨ro_478, ero_478⟩ : ∃ z : Except Int (Nat × Nat), z = (rNX (cB (Tf 1) (Tv 0)) rq_35) := ⟨_, rfl⟩
            rw [← ero_478] at pf_476
            have tb_479 : TpB (rTE (cB (Tf 1) (Tv 0)) ro_478) sv_425 vy_26 := TpR.tb pf_476
            have cd_480 : Ctd ro_478 vy_21 := by rw [ero_478]; exact (Ctd.nx pf_37)
            refine lv_aload_n hx hb dX7_read_35 rfl (lv_at hl 2 rfl) ?_
            refine va_ldcS hx hb hown (sx_1 hX) dX7_read_36 ?_
            have ha_481 : (1 : Nat) < 7 := by
              have z_1 := Int32.le_iff_toInt_le.mp (Int32.not_lt.mp c_40)
              have z_2 : ¬ (vy_19 : Int32).toInt = (0 : Int32).toInt := fun z => c_82 (Int32.toInt_inj.mp z)
              have z_3 : ¬ (r_428 : Int32).toInt = (0 : Int32).toInt := fun z => c_433 (Int32.toInt_inj.mp z)
              have y_0 : (0 : Int32).toInt = 0 := by decide
              have y_12 : (12 : Int32).toInt = 12 := by decide
              have y_1 : (1 : Int32).toInt = 1 := by decide
              omega
            refine cV (a := (Ta 0)) (As := [.ref (sk.1 1)]) (rest := []) (wr := [((Va 0), .inr (7, [.ref (Va 1), .int vy_20, .int vy_21])), ((Va 1), .inl (tc 0, 400, .inl vy_22))]) ⟨hx, hb, hml, hown, hts⟩ hK hX hA (cu_fX10_isWord l D tc sk (Ta 0) (Ta 1) (Tv 0) sv_424 sv_425 sv_426 vy_26 (Tf 1) 1 ro_478 ha_481 pf_427 h_by pf_476) k_618 k_615 k_616 k_617 k_96 pl_X10_isWord ⟨Nat.le_of_ble_eq_true rfl, Nat.le_of_ble_eq_true rfl⟩ rfl rfl (va_recv hK hP (ci := 10) (q0 := 2) rfl rfl) hP hD hS [2, 3] [0, 1] rfl rfl rfl rfl rfl (by decide) rfl hl.1 rfl (Nat.le_of_ble_eq_true rfl) dX7_read_38 ⟨Nat.le_of_ble_eq_true rfl, Nat.le_of_ble_eq_true rfl⟩ (fun v_482 u_483 H locs hv_484 hP₀ hD₀ hS₀ => ?_)
            obtain ⟨r_485, rfl, he_486, hm_488, hm_489⟩ := hv_484
            have he_486 : (r_485.toInt = 0 ∨ r_485.toInt = 1) := he_486
            refine W.eq (g2 := F0 m 41 ls [.int r_485]) rfl ?_
            replace hP : va_P D classes [((Va 0), .inr (7, [.ref (Va 1), .int vy_20, .int vy_21])), ((Va 1), .inl (tc 0, 400, .inl vy_22)), ((Ta 0), .inr (10, [.ref (Ta 1), .int (Tv 0), .int sv_424, .int sv_425, .int sv_426, .int vy_26])), ((Ta 1), .inl (tc 0, 400, .inl (Tf 1)))] H := hP₀
            replace hD : va_D A [((Va 0), .inr (7, [.ref (Va 1), .int vy_20, .int vy_21])), ((Va 1), .inl (tc 0, 400, .inl vy_22)), ((Ta 0), .inr (10, [.ref (Ta 1), .int (Tv 0), .int sv_424, .int sv_425, .int sv_426, .int vy_26])), ((Ta 1), .inl (tc 0, 400, .inl (Tf 1)))] := hD₀
            replace hS := hS₀
            clear hP₀ hD₀ hS₀
            refine lv_if_ne (tgt := 52) hx hb dX7_read_41 (by decide) (fun c_490 => ?_) (fun c_490 => ?_)
            · skip
              have hz_492 : (r_485 : Int32).toInt = 1 := by
                have z_1 := Int32.le_iff_toInt_le.mp (Int32.not_lt.mp c_40)
                have z_2 : ¬ (vy_19 : Int32).toInt = (0 : Int32).toInt := fun z => c_82 (Int32.toInt_inj.mp z)
                have z_3 : ¬ (r_428 : Int32).toInt = (0 : Int32).toInt := fun z => c_433 (Int32.toInt_inj.mp z)
                have z_4 : ¬ (r_485 : Int32).toInt = (0 : Int32).toInt := fun z => c_490 (Int32.toInt_inj.mp z)
                have y_0 : (0 : Int32).toInt = 0 := by decide
                have y_12 : (12 : Int32).toInt = 12 := by decide
                omega
              obtain pf_491 := hm_488 hz_492
              have pf_491 : TWd (cB (Tf 1) (Tv 0)) (wS (1 : Nat)) ro_478 := pf_491
              refine lv_iload_n hx hb dX7_read_52 rfl (lv_at hl 0 rfl) ?_
              refine lv_bipush (v := 12) hx hb dX7_read_53 (by decide) ?_
              refine lv_icmp_ne (tgt := 63) hx hb dX7_read_55 (by decide) (fun c_493 => ?_) (fun c_493 => ?_)
              · skip
                refine lv_aload_n hx hb dX7_read_63 rfl (lv_at hl 2 rfl) ?_
                refine cV (a := (Ta 0)) (As := []) (rest := []) (wr := [((Va 0), .inr (7, [.ref (Va 1), .int vy_20, .int vy_21])), ((Va 1), .inl (tc 0, 400, .inl vy_22))]) ⟨hx, hb, hml, hown, hts⟩ hK hX hA (cu_fX10_step l D tc sk (Ta 0) (Ta 1) (Tv 0) sv_424 sv_425 sv_426 vy_26 (Tf 1) (rTE (cB (Tf 1) (Tv 0)) ro_478) pf_427 h_by tb_479) k_478 k_620 k_476 k_477 k_96 pl_X10_step ⟨Nat.le_of_ble_eq_true rfl, Nat.le_of_ble_eq_true rfl⟩ rfl rfl (va_recv hK hP (ci := 10) (q0 := 2) rfl rfl) hP hD hS [2, 3] [0, 1] rfl rfl rfl rfl rfl (by decide) rfl hl.1 rfl (Nat.le_of_ble_eq_true rfl) dX7_read_64 ⟨Nat.le_of_ble_eq_true rfl, Nat.le_of_ble_eq_true rfl⟩ (fun v_494 u_495 H locs hv_496 hP₀ hD₀ hS₀ => ?_)
                obtain ⟨sv_497, sv_498, sv_499⟩ := u_495
                obtain ⟨rfl, pf_500, pf_501⟩ := hv_496
                have pf_500 : 0 ≤ ((Tv 0) : Int32).toInt ∧ ((Tv 0) : Int32).toInt ≤ 400 ∧ 0 ≤ (sv_497 : Int32).toInt ∧ (sv_497 : Int32).toInt ≤ 400 ∧ 0 ≤ (sv_498 : Int32).toInt ∧ (sv_498 : Int32).toInt ≤ 400 := pf_500
                have pf_501 : TpR (Tf 1) (Tv 0) (rSK (cB (Tf 1) (Tv 0)) (rTE (cB (Tf 1) (Tv 0)) ro_478)) sv_497 sv_498 sv_499 vy_26 := pf_501
                rw [rNX_eq] at pf_501
                obtain ⟨ro_502, ero_502⟩ : ∃ z : Except Int (Nat × Nat), z = (rNX (cB (Tf 1) (Tv 0)) ro_478) := ⟨_, rfl⟩
                rw [← ero_502] at pf_501
                have tb_503 : TpB (rTE (cB (Tf 1) (Tv 0)) ro_502) sv_498 vy_26 := TpR.tb pf_501
                have cd_504 : Ctd ro_502 vy_21 := by rw [ero_502]; exact (Ctd.nx cd_480)
                refine W.eq (g2 := F0 m 67 ls []) rfl ?_
                replace hP : va_P D classes [((Va 0), .inr (7, [.ref (Va 1), .int vy_20, .int vy_21])), ((Va 1), .inl (tc 0, 400, .inl vy_22)), ((Ta 0), .inr (10, [.ref (Ta 1), .int (Tv 0), .int sv_497, .int sv_498, .int sv_499, .int vy_26])), ((Ta 1), .inl (tc 0, 400, .inl (Tf 1)))] H := hP₀
                replace hD : va_D A [((Va 0), .inr (7, [.ref (Va 1), .int vy_20, .int vy_21])), ((Va 1), .inl (tc 0, 400, .inl vy_22)), ((Ta 0), .inr (10, [.ref (Ta 1), .int (Tv 0), .int sv_497, .int sv_498, .int sv_499, .int vy_26])), ((Ta 1), .inl (tc 0, 400, .inl (Tf 1)))] := hD₀
                replace hS := hS₀
                clear hP₀ hD₀ hS₀
                refine lv_aload_n hx hb dX7_read_67 rfl (lv_at hl 1 rfl) ?_
                refine lv_aload_n hx hb dX7_read_68 rfl (lv_at hl 2 rfl) ?_
                refine cV (a := (Va 0)) (As := [.ref (Ta 0)]) (rest := []) (wr := []) ⟨hx, hb, hml, hown, hts⟩ hK hX hA (cu_fX7_readSum l D tc sk (Va 0) (Va 1) vy_20 vy_21 vy_22 (Ta 0) (Ta 1) (Tv 0) sv_497 sv_498 sv_499 vy_26 (Tf 1) ro_502 pf_500 pf_32 h_by pf_501 cd_504) k_624 k_621 k_623 k_7 k_99 pl_X7_readSum ⟨Nat.le_of_ble_eq_true rfl, Nat.le_of_ble_eq_true rfl⟩ rfl rfl (va_recv hK hP (ci := 7) (q0 := 0) rfl rfl) hP hD hS [0, 1, 2, 3] [] rfl rfl rfl rfl rfl (by decide) rfl hl.1 rfl (Nat.le_of_ble_eq_true rfl) dX7_read_69 ⟨Nat.le_of_ble_eq_true rfl, Nat.le_of_ble_eq_true rfl⟩ (fun v_505 u_506 H locs hv_507 hP₀ hD₀ hS₀ => ?_)
                obtain ⟨sv_508, sv_509, sv_510, sv_511, sv_512, sv_513, sv_514⟩ := u_506
                obtain ⟨rfl, pf_515, pf_516, pf_517, pf_518⟩ := hv_507
                have pf_515 : 0 ≤ ((Tv 0) : Int32).toInt ∧ ((Tv 0) : Int32).toInt ≤ 400 ∧ 0 ≤ (sv_511 : Int32).toInt ∧ (sv_511 : Int32).toInt ≤ 400 ∧ 0 ≤ (sv_512 : Int32).toInt ∧ (sv_512 : Int32).toInt ≤ 400 := pf_515
                have pf_516 : 0 ≤ (sv_508 : Int32).toInt ∧ (sv_508 : Int32).toInt ≤ 400 := pf_516
                have pf_517 : TpR (Tf 1) (Tv 0) (pz_b ro_502 (pz_sum (cB (Tf 1) (Tv 0)))) sv_511 sv_512 sv_513 sv_514 := pf_517
                obtain ⟨ro_519, ero_519⟩ : ∃ z : Except Int (Nat × Nat), z = (pz_b ro_502 (pz_sum (cB (Tf 1) (Tv 0)))) := ⟨_, rfl⟩
                rw [← ero_519] at pf_517
                have tb_520 : TpB (rTE (cB (Tf 1) (Tv 0)) ro_519) sv_512 sv_514 := TpR.tb pf_517
                have pf_518 : Ctd (pz_b ro_502 (pz_sum (cB (Tf 1) (Tv 0)))) sv_509 := pf_518
                rw [← ero_519] at pf_518
                refine W.eq (g2 := F0 m 72 ls []) rfl ?_
                replace hP : va_P D classes [((Va 0), .inr (7, [.ref (Va 1), .int sv_508, .int sv_509])), ((Va 1), .inl (tc 0, 400, .inl sv_510)), ((Ta 0), .inr (10, [.ref (Ta 1), .int (Tv 0), .int sv_511, .int sv_512, .int sv_513, .int sv_514])), ((Ta 1), .inl (tc 0, 400, .inl (Tf 1)))] H := hP₀
                replace hD : va_D A [((Va 0), .inr (7, [.ref (Va 1), .int sv_508, .int sv_509])), ((Va 1), .inl (tc 0, 400, .inl sv_510)), ((Ta 0), .inr (10, [.ref (Ta 1), .int (Tv 0), .int sv_511, .int sv_512, .int sv_513, .int sv_514])), ((Ta 1), .inl (tc 0, 400, .inl (Tf 1)))] := hD₀
                replace hS := hS₀
                clear hP₀ hD₀ hS₀
                refine lv_aload_n hx hb dX7_read_72 rfl (lv_at hl 2 rfl) ?_
                refine va_ldcS hx hb hown (sx_3 hX) dX7_read_73 ?_
                have ha_521 : (3 : Nat) < 7 := by
                  have z_1 := Int32.le_iff_toInt_le.mp (Int32.not_lt.mp c_40)
                  have z_2 : ¬ (vy_19 : Int32).toInt = (0 : Int32).toInt := fun z => c_82 (Int32.toInt_inj.mp z)
                  have z_3 : ¬ (r_428 : Int32).toInt = (0 : Int32).toInt := fun z => c_433 (Int32.toInt_inj.mp z)
                  have z_4 : ¬ (r_485 : Int32).toInt = (0 : Int32).toInt := fun z => c_490 (Int32.toInt_inj.mp z)
                  have z_5 : ¬ (vy_19 : Int32).toInt = (12 : Int32).toInt := fun z => c_493 (Int32.toInt_inj.mp z)
                  have y_0 : (0 : Int32).toInt = 0 := by decide
                  have y_12 : (12 : Int32).toInt = 12 := by decide
                  have y_3 : (3 : Int32).toInt = 3 := by decide
                  omega
                refine cV (a := (Ta 0)) (As := [.ref (sk.1 3)]) (rest := []) (wr := [((Va 0), .inr (7, [.ref (Va 1), .int sv_508, .int sv_509])), ((Va 1), .inl (tc 0, 400, .inl sv_510))]) ⟨hx, hb, hml, hown, hts⟩ hK hX hA (cu_fX10_takesWord l D tc sk (Ta 0) (Ta 1) (Tv 0) sv_511 sv_512 sv_513 sv_514 (Tf 1) 3 ro_519 ha_521 pf_515 h_by pf_517) k_650 k_647 k_648 k_649 k_96 pl_X10_takesWord ⟨Nat.le_of_ble_eq_true rfl, Nat.le_of_ble_eq_true rfl⟩ rfl rfl (va_recv hK hP (ci := 10) (q0 := 2) rfl rfl) hP hD hS [2, 3] [0, 1] rfl rfl rfl rfl rfl (by decide) rfl hl.1 rfl (Nat.le_of_ble_eq_true rfl) dX7_read_75 ⟨Nat.le_of_ble_eq_true rfl, Nat.le_of_ble_eq_true rfl⟩ (fun v_522 u_523 H locs hv_524 hP₀ hD₀ hS₀ => ?_)
                obtain ⟨sv_525, sv_526, sv_527⟩ := u_523
                obtain ⟨r_529, rfl, he_530, pf_528, hm_532, hm_533⟩ := hv_524
                have he_530 : (r_529.toInt = 0 ∨ r_529.toInt = 1) := he_530
                have pf_528 : 0 ≤ ((Tv 0) : Int32).toInt ∧ ((Tv 0) : Int32).toInt ≤ 400 ∧ 0 ≤ (sv_525 : Int32).toInt ∧ (sv_525 : Int32).toInt ≤ 400 ∧ 0 ≤ (sv_526 : Int32).toInt ∧ (sv_526 : Int32).toInt ≤ 400 := pf_528
                refine W.eq (g2 := F0 m 78 ls [.int r_529]) rfl ?_
                replace hP : va_P D classes [((Va 0), .inr (7, [.ref (Va 1), .int sv_508, .int sv_509])), ((Va 1), .inl (tc 0, 400, .inl sv_510)), ((Ta 0), .inr (10, [.ref (Ta 1), .int (Tv 0), .int sv_525, .int sv_526, .int sv_527, .int sv_514])), ((Ta 1), .inl (tc 0, 400, .inl (Tf 1)))] H := hP₀
                replace hD : va_D A [((Va 0), .inr (7, [.ref (Va 1), .int sv_508, .int sv_509])), ((Va 1), .inl (tc 0, 400, .inl sv_510)), ((Ta 0), .inr (10, [.ref (Ta 1), .int (Tv 0), .int sv_525, .int sv_526, .int sv_527, .int sv_514])), ((Ta 1), .inl (tc 0, 400, .inl (Tf 1)))] := hD₀
                replace hS := hS₀
                clear hP₀ hD₀ hS₀
                refine lv_if_eq (tgt := 96) hx hb dX7_read_78 (by decide) (fun c_534 => ?_) (fun c_534 => ?_)
                · skip
                  have hz_537 : (r_529 : Int32).toInt = 0 := by
                    have z_1 := Int32.le_iff_toInt_le.mp (Int32.not_lt.mp c_40)
                    have z_2 : ¬ (vy_19 : Int32).toInt = (0 : Int32).toInt := fun z => c_82 (Int32.toInt_inj.mp z)
                    have z_3 : ¬ (r_428 : Int32).toInt = (0 : Int32).toInt := fun z => c_433 (Int32.toInt_inj.mp z)
                    have z_4 : ¬ (r_485 : Int32).toInt = (0 : Int32).toInt := fun z => c_490 (Int32.toInt_inj.mp z)
                    have z_5 : ¬ (vy_19 : Int32).toInt = (12 : Int32).toInt := fun z => c_493 (Int32.toInt_inj.mp z)
                    have z_6 := congrArg Int32.toInt c_534
                    have y_0 : (0 : Int32).toInt = 0 := by decide
                    have y_12 : (12 : Int32).toInt = 12 := by decide
                    omega
                  obtain ⟨pf_535, pf_536⟩ := hm_533 hz_537
                  have pf_535 : NWd (cB (Tf 1) (Tv 0)) (wS (3 : Nat)) ro_519 := pf_535
                  have pf_536 : TpR (Tf 1) (Tv 0) ro_519 sv_525 sv_526 sv_527 sv_514 := pf_536
                  have tb_538 : TpB (rTE (cB (Tf 1) (Tv 0)) ro_519) sv_526 sv_514 := TpR.tb pf_536
                  refine lv_aload_n hx hb dX7_read_96 rfl (lv_at hl 1 rfl) ?_
                  refine lv_bipush (v := (-2)) hx hb dX7_read_97 (by decide) ?_
                  refine cV (a := (Va 0)) (As := [.int (-2)]) (rest := []) (wr := [((Ta 0), .inr (10, [.ref (Ta 1), .int (Tv 0), .int sv_525, .int sv_526, .int sv_527, .int sv_514])), ((Ta 1), .inl (tc 0, 400, .inl (Tf 1)))]) ⟨hx, hb, hml, hown, hts⟩ hK hX hA (cu_fX7_put l D tc sk (Va 0) (Va 1) sv_508 sv_509 sv_510 (-2) pf_516) k_642 k_639 k_641 k_10 k_99 pl_X7_put ⟨Nat.le_of_ble_eq_true rfl, Nat.le_of_ble_eq_true rfl⟩ rfl rfl (va_recv hK hP (ci := 7) (q0 := 0) rfl rfl) hP hD hS [0, 1] [2, 3] rfl rfl rfl rfl rfl (by decide) rfl hl.1 rfl (Nat.le_of_ble_eq_true rfl) dX7_read_99 ⟨Nat.le_of_ble_eq_true rfl, Nat.le_of_ble_eq_true rfl⟩ (fun v_539 u_540 H locs hv_541 hP₀ hD₀ hS₀ => ?_)
                  obtain ⟨sv_542, sv_543⟩ := u_540
                  obtain ⟨rfl, pf_544⟩ := hv_541
                  have pf_544 : 0 ≤ (sv_542 : Int32).toInt ∧ (sv_542 : Int32).toInt ≤ 400 := pf_544
                  refine W.eq (g2 := F0 m 102 ls []) rfl ?_
                  replace hP : va_P D classes [((Ta 0), .inr (10, [.ref (Ta 1), .int (Tv 0), .int sv_525, .int sv_526, .int sv_527, .int sv_514])), ((Ta 1), .inl (tc 0, 400, .inl (Tf 1))), ((Va 0), .inr (7, [.ref (Va 1), .int sv_542, .int sv_509])), ((Va 1), .inl (tc 0, 400, .inl sv_543))] H := hP₀
                  replace hD : va_D A [((Ta 0), .inr (10, [.ref (Ta 1), .int (Tv 0), .int sv_525, .int sv_526, .int sv_527, .int sv_514])), ((Ta 1), .inl (tc 0, 400, .inl (Tf 1))), ((Va 0), .inr (7, [.ref (Va 1), .int sv_542, .int sv_509])), ((Va 1), .inl (tc 0, 400, .inl sv_543))] := hD₀
                  replace hS := hS₀
                  clear hP₀ hD₀ hS₀
                  obtain ⟨x_545, ex_545⟩ : ∃ y : Int32, y = vy_19 + 1 := ⟨_, rfl⟩
                  refine lv_iinc (v := x_545) (lv' := [(2, .int x_545), (0, .ref (Va 0)), (1, .ref (Ta 0))]) hx hb dX7_read_102 hl (k := 0) rfl (by rw [ex_545]; rfl) (by decide) rfl (fun ls hl₀ => ?_)
                  replace hl := hl₀
                  clear hl₀
                  refine lv_goto (tgt := 16) hx hb dX7_read_105 (by decide) ?_
                  have hb_546 : 14 - (x_545 : Int32).toInt < 14 - (vy_19 : Int32).toInt ∧ 1 ≤ 14 - (vy_19 : Int32).toInt := by
                    have z_1 := Int32.le_iff_toInt_le.mp (Int32.not_lt.mp c_40)
                    have z_2 : ¬ (vy_19 : Int32).toInt = (0 : Int32).toInt := fun z => c_82 (Int32.toInt_inj.mp z)
                    have z_3 : ¬ (r_428 : Int32).toInt = (0 : Int32).toInt := fun z => c_433 (Int32.toInt_inj.mp z)
                    have z_4 : ¬ (r_485 : Int32).toInt = (0 : Int32).toInt := fun z => c_490 (Int32.toInt_inj.mp z)
                    have z_5 : ¬ (vy_19 : Int32).toInt = (12 : Int32).toInt := fun z => c_493 (Int32.toInt_inj.mp z)
                    have z_6 := congrArg Int32.toInt c_534
                    have y_0 : (0 : Int32).toInt = 0 := by decide
                    have y_12 : (12 : Int32).toInt = 12 := by decide
                    have y_1 : (1 : Int32).toInt = 1 := by decide
                    have t_x_545 : x_545.toInt = (vy_19 : Int32).toInt + (1 : Int32).toInt := by rw [ex_545]; exact add_toInt (by omega) (by omega)
                    omega
                  have ha_547 : 0 ≤ (x_545 : Int32).toInt ∧ (x_545 : Int32).toInt ≤ 13 := by
                    have z_1 := Int32.le_iff_toInt_le.mp (Int32.not_lt.mp c_40)
                    have z_2 : ¬ (vy_19 : Int32).toInt = (0 : Int32).toInt := fun z => c_82 (Int32.toInt_inj.mp z)
                    have z_3 : ¬ (r_428 : Int32).toInt = (0 : Int32).toInt := fun z => c_433 (Int32.toInt_inj.mp z)
                    have z_4 : ¬ (r_485 : Int32).toInt = (0 : Int32).toInt := fun z => c_490 (Int32.toInt_inj.mp z)
                    have z_5 : ¬ (vy_19 : Int32).toInt = (12 : Int32).toInt := fun z => c_493 (Int32.toInt_inj.mp z)
                    have z_6 := congrArg Int32.toInt c_534
                    have y_0 : (0 : Int32).toInt = 0 := by decide
                    have y_12 : (12 : Int32).toInt = 12 := by decide
                    have y_1 : (1 : Int32).toInt = 1 := by decide
                    have t_x_545 : x_545.toInt = (vy_19 : Int32).toInt + (1 : Int32).toInt := by rw [ex_545]; exact add_toInt (by omega) (by omega)
                    omega
                  have hw_548 : TWd (cB (Tf 1) (Tv 0)) pz_buy (rNX (cB (Tf 1) (Tv 0)) rq_35) := by
                    rw [← ero_478, ← wS1]
                    exact pf_491
                  have hr_549 : (vy_19 : Int32).toInt.toNat ≠ 12 := by
                    have z_1 := Int32.le_iff_toInt_le.mp (Int32.not_lt.mp c_40)
                    have z_2 : ¬ (vy_19 : Int32).toInt = (0 : Int32).toInt := fun z => c_82 (Int32.toInt_inj.mp z)
                    have z_3 : ¬ (r_428 : Int32).toInt = (0 : Int32).toInt := fun z => c_433 (Int32.toInt_inj.mp z)
                    have z_4 : ¬ (r_485 : Int32).toInt = (0 : Int32).toInt := fun z => c_490 (Int32.toInt_inj.mp z)
                    have z_5 : ¬ (vy_19 : Int32).toInt = (12 : Int32).toInt := fun z => c_493 (Int32.toInt_inj.mp z)
                    have z_6 := congrArg Int32.toInt c_534
                    have y_0 : (0 : Int32).toInt = 0 := by decide
                    have y_12 : (12 : Int32).toInt = 12 := by decide
                    omega
                  have hw_550 : NWd (cB (Tf 1) (Tv 0)) pz_if (pz_b (rNX (cB (Tf 1) (Tv 0)) (rNX (cB (Tf 1) (Tv 0)) rq_35)) (pz_sum (cB (Tf 1) (Tv 0)))) := by
                    rw [← ero_478, ← ero_502, ← ero_519, ← wS3]
                    exact pf_535
                  have hE_551 : pz_b (rNX (cB (Tf 1) (Tv 0)) rq_35) (pz_cla (cB (Tf 1) (Tv 0)) (vy_19 : Int32).toInt.toNat) = ro_519 := by
                    rw [ero_519, ero_502, ero_478]
                    exact (cla_un hw_548 hr_549 hw_550)
                  have hu_552 : TpR (Tf 1) (Tv 0) (pz_b (rNX (cB (Tf 1) (Tv 0)) rq_35) (pz_cla (cB (Tf 1) (Tv 0)) (vy_19 : Int32).toInt.toNat)) sv_525 sv_526 sv_527 sv_514 := by rw [hE_551]; exact pf_536
                  have hu_553 : Ctd (pz_b (rNX (cB (Tf 1) (Tv 0)) rq_35) (pz_cla (cB (Tf 1) (Tv 0)) (vy_19 : Int32).toInt.toNat)) sv_509 := by rw [hE_551]; exact pf_518
                  have hi_554 : (x_545 : Int32).toInt = (vy_19 : Int32).toInt + 1 := by
                    have z_1 := Int32.le_iff_toInt_le.mp (Int32.not_lt.mp c_40)
                    have z_2 : ¬ (vy_19 : Int32).toInt = (0 : Int32).toInt := fun z => c_82 (Int32.toInt_inj.mp z)
                    have z_3 : ¬ (r_428 : Int32).toInt = (0 : Int32).toInt := fun z => c_433 (Int32.toInt_inj.mp z)
                    have z_4 : ¬ (r_485 : Int32).toInt = (0 : Int32).toInt := fun z => c_490 (Int32.toInt_inj.mp z)
                    have z_5 : ¬ (vy_19 : Int32).toInt = (12 : Int32).toInt := fun z => c_493 (Int32.toInt_inj.mp z)
                    have z_6 := congrArg Int32.toInt c_534
                    have y_0 : (0 : Int32).toInt = 0 := by decide
                    have y_12 : (12 : Int32).toInt = 12 := by decide
                    have y_1 : (1 : Int32).toInt = 1 := by decide
                    have t_x_545 : x_545.toInt = (vy_19 : Int32).toInt + (1 : Int32).toInt := by rw [ex_545]; exact add_toInt (by omega) (by omega)
                    omega
                  have hr_555 : 1 ≤ (vy_19 : Int32).toInt ∧ (vy_19 : Int32).toInt ≤ 12 := by
                    have z_1 := Int32.le_iff_toInt_le.mp (Int32.not_lt.mp c_40)
                    have z_2 : ¬ (vy_19 : Int32).toInt = (0 : Int32).toInt := fun z => c_82 (Int32.toInt_inj.mp z)
                    have z_3 : ¬ (r_428 : Int32).toInt = (0 : Int32).toInt := fun z => c_433 (Int32.toInt_inj.mp z)
                    have z_4 : ¬ (r_485 : Int32).toInt = (0 : Int32).toInt := fun z => c_490 (Int32.toInt_inj.mp z)
                    have z_5 : ¬ (vy_19 : Int32).toInt = (12 : Int32).toInt := fun z => c_493 (Int32.toInt_inj.mp z)
                    have z_6 := congrArg Int32.toInt c_534
                    have y_0 : (0 : Int32).toInt = 0 := by decide
                    have y_12 : (12 : Int32).toInt = 12 := by decide
                    omega
                  exact ih_28 x_545 sv_542 sv_509 sv_543 sv_525 sv_526 sv_527 sv_514 _ _ _ (by omega) ha_547 pf_528 pf_544 (RcL.nextS h_tape.2.1 hr_555 pf_475 pf_38 hu_552 hu_553 hi_554) (hP.sub [2, 3, 0, 1] rfl) (hD.sub [2, 3, 0, 1] rfl rfl) hS (lv_sub hl [0, 1, 2] rfl)
                · skip
                  have hz_558 : (r_529 : Int32).toInt = 1 := by
                    have z_1 := Int32.le_iff_toInt_le.mp (Int32.not_lt.mp c_40)
                    have z_2 : ¬ (vy_19 : Int32).toInt = (0 : Int32).toInt := fun z => c_82 (Int32.toInt_inj.mp z)
                    have z_3 : ¬ (r_428 : Int32).toInt = (0 : Int32).toInt := fun z => c_433 (Int32.toInt_inj.mp z)
                    have z_4 : ¬ (r_485 : Int32).toInt = (0 : Int32).toInt := fun z => c_490 (Int32.toInt_inj.mp z)
                    have z_5 : ¬ (vy_19 : Int32).toInt = (12 : Int32).toInt := fun z => c_493 (Int32.toInt_inj.mp z)
                    have z_6 : ¬ (r_529 : Int32).toInt = (0 : Int32).toInt := fun z => c_534 (Int32.toInt_inj.mp z)
                    have y_0 : (0 : Int32).toInt = 0 := by decide
                    have y_12 : (12 : Int32).toInt = 12 := by decide
                    omega
                  obtain ⟨pf_556, pf_557⟩ := hm_532 hz_558
                  have pf_556 : TWd (cB (Tf 1) (Tv 0)) (wS (3 : Nat)) ro_519 := pf_556
                  have pf_557 : TpR (Tf 1) (Tv 0) (rNX (cB (Tf 1) (Tv 0)) ro_519) sv_525 sv_526 sv_527 sv_514 := pf_557
                  obtain ⟨ro_559, ero_559⟩ : ∃ z : Except Int (Nat × Nat), z = (rNX (cB (Tf 1) (Tv 0)) ro_519) := ⟨_, rfl⟩
                  rw [← ero_559] at pf_557
                  have tb_560 : TpB (rTE (cB (Tf 1) (Tv 0)) ro_559) sv_526 sv_514 := TpR.tb pf_557
                  have cd_561 : Ctd ro_559 sv_509 := by rw [ero_559]; exact (Ctd.nx pf_518)
                  refine lv_aload_n hx hb dX7_read_81 rfl (lv_at hl 1 rfl) ?_
                  refine lv_aload_n hx hb dX7_read_82 rfl (lv_at hl 2 rfl) ?_
                  refine lv_iconst (v := 0) hx hb dX7_read_83 (by decide) ?_
                  refine cV (a := (Va 0)) (As := [.ref (Ta 0), .int 0]) (rest := []) (wr := []) ⟨hx, hb, hml, hown, hts⟩ hK hX hA (cu_fX7_readTest_0 l D tc sk (Va 0) (Va 1) sv_508 sv_509 sv_510 (Ta 0) (Ta 1) (Tv 0) sv_525 sv_526 sv_527 sv_514 (Tf 1) ro_559 pf_528 pf_516 h_by pf_557 cd_561) k_655 k_652 k_654 k_11 k_99 pl_X7_readTest ⟨Nat.le_of_ble_eq_true rfl, Nat.le_of_ble_eq_true rfl⟩ rfl rfl (va_recv hK hP (ci := 7) (q0 := 0) rfl rfl) hP hD hS [0, 1, 2, 3] [] rfl rfl rfl rfl rfl (by decide) rfl hl.1 rfl (Nat.le_of_ble_eq_true rfl) dX7_read_84 ⟨Nat.le_of_ble_eq_true rfl, Nat.le_of_ble_eq_true rfl⟩ (fun v_562 u_563 H locs hv_564 hP₀ hD₀ hS₀ => ?_)
                  obtain ⟨sv_565, sv_566, sv_567, sv_568, sv_569, sv_570, sv_571⟩ := u_563
                  obtain ⟨rfl, pf_572, pf_573, pf_574, pf_575⟩ := hv_564
                  have pf_572 : 0 ≤ ((Tv 0) : Int32).toInt ∧ ((Tv 0) : Int32).toInt ≤ 400 ∧ 0 ≤ (sv_568 : Int32).toInt ∧ (sv_568 : Int32).toInt ≤ 400 ∧ 0 ≤ (sv_569 : Int32).toInt ∧ (sv_569 : Int32).toInt ≤ 400 := pf_572
                  have pf_573 : 0 ≤ (sv_565 : Int32).toInt ∧ (sv_565 : Int32).toInt ≤ 400 := pf_573
                  have pf_574 : TpR (Tf 1) (Tv 0) (pz_b ro_559 (pz_tst (cB (Tf 1) (Tv 0)) (pz_fact (cB (Tf 1) (Tv 0)) 10))) sv_568 sv_569 sv_570 sv_571 := pf_574
                  obtain ⟨ro_576, ero_576⟩ : ∃ z : Except Int (Nat × Nat), z = (pz_b ro_559 (pz_tst (cB (Tf 1) (Tv 0)) (pz_fact (cB (Tf 1) (Tv 0)) 10))) := ⟨_, rfl⟩
                  rw [← ero_576] at pf_574
                  have tb_577 : TpB (rTE (cB (Tf 1) (Tv 0)) ro_576) sv_569 sv_571 := TpR.tb pf_574
                  have pf_575 : Ctd (pz_b ro_559 (pz_tst (cB (Tf 1) (Tv 0)) (pz_fact (cB (Tf 1) (Tv 0)) 10))) sv_566 := pf_575
                  rw [← ero_576] at pf_575
                  refine W.eq (g2 := F0 m 87 ls []) rfl ?_
                  replace hP : va_P D classes [((Va 0), .inr (7, [.ref (Va 1), .int sv_565, .int sv_566])), ((Va 1), .inl (tc 0, 400, .inl sv_567)), ((Ta 0), .inr (10, [.ref (Ta 1), .int (Tv 0), .int sv_568, .int sv_569, .int sv_570, .int sv_571])), ((Ta 1), .inl (tc 0, 400, .inl (Tf 1)))] H := hP₀
                  replace hD : va_D A [((Va 0), .inr (7, [.ref (Va 1), .int sv_565, .int sv_566])), ((Va 1), .inl (tc 0, 400, .inl sv_567)), ((Ta 0), .inr (10, [.ref (Ta 1), .int (Tv 0), .int sv_568, .int sv_569, .int sv_570, .int sv_571])), ((Ta 1), .inl (tc 0, 400, .inl (Tf 1)))] := hD₀
                  replace hS := hS₀
                  clear hP₀ hD₀ hS₀
                  refine lv_aload_n hx hb dX7_read_87 rfl (lv_at hl 1 rfl) ?_
                  refine lv_bipush (v := (-3)) hx hb dX7_read_88 (by decide) ?_
                  refine cV (a := (Va 0)) (As := [.int (-3)]) (rest := []) (wr := [((Ta 0), .inr (10, [.ref (Ta 1), .int (Tv 0), .int sv_568, .int sv_569, .int sv_570, .int sv_571])), ((Ta 1), .inl (tc 0, 400, .inl (Tf 1)))]) ⟨hx, hb, hml, hown, hts⟩ hK hX hA (cu_fX7_put l D tc sk (Va 0) (Va 1) sv_565 sv_566 sv_567 (-3) pf_573) k_642 k_639 k_641 k_10 k_99 pl_X7_put ⟨Nat.le_of_ble_eq_true rfl, Nat.le_of_ble_eq_true rfl⟩ rfl rfl (va_recv hK hP (ci := 7) (q0 := 0) rfl rfl) hP hD hS [0, 1] [2, 3] rfl rfl rfl rfl rfl (by decide) rfl hl.1 rfl (Nat.le_of_ble_eq_true rfl) dX7_read_90 ⟨Nat.le_of_ble_eq_true rfl, Nat.le_of_ble_eq_true rfl⟩ (fun v_578 u_579 H locs hv_580 hP₀ hD₀ hS₀ => ?_)
                  obtain ⟨sv_581, sv_582⟩ := u_579
                  obtain ⟨rfl, pf_583⟩ := hv_580
                  have pf_583 : 0 ≤ (sv_581 : Int32).toInt ∧ (sv_581 : Int32).toInt ≤ 400 := pf_583
                  refine W.eq (g2 := F0 m 93 ls []) rfl ?_
                  replace hP : va_P D classes [((Ta 0), .inr (10, [.ref (Ta 1), .int (Tv 0), .int sv_568, .int sv_569, .int sv_570, .int sv_571])), ((Ta 1), .inl (tc 0, 400, .inl (Tf 1))), ((Va 0), .inr (7, [.ref (Va 1), .int sv_581, .int sv_566])), ((Va 1), .inl (tc 0, 400, .inl sv_582))] H := hP₀
                  replace hD : va_D A [((Ta 0), .inr (10, [.ref (Ta 1), .int (Tv 0), .int sv_568, .int sv_569, .int sv_570, .int sv_571])), ((Ta 1), .inl (tc 0, 400, .inl (Tf 1))), ((Va 0), .inr (7, [.ref (Va 1), .int sv_581, .int sv_566])), ((Va 1), .inl (tc 0, 400, .inl sv_582))] := hD₀
                  replace hS := hS₀
                  clear hP₀ hD₀ hS₀
                  refine lv_goto (tgt := 102) hx hb dX7_read_93 (by decide) ?_
                  obtain ⟨x_584, ex_584⟩ : ∃ y : Int32, y = vy_19 + 1 := ⟨_, rfl⟩
                  refine lv_iinc (v := x_584) (lv' := [(2, .int x_584), (0, .ref (Va 0)), (1, .ref (Ta 0))]) hx hb dX7_read_102 hl (k := 0) rfl (by rw [ex_584]; rfl) (by decide) rfl (fun ls hl₀ => ?_)
                  replace hl := hl₀
                  clear hl₀
                  refine lv_goto (tgt := 16) hx hb dX7_read_105 (by decide) ?_
                  have hb_585 : 14 - (x_584 : Int32).toInt < 14 - (vy_19 : Int32).toInt ∧ 1 ≤ 14 - (vy_19 : Int32).toInt := by
                    have z_1 := Int32.le_iff_toInt_le.mp (Int32.not_lt.mp c_40)
                    have z_2 : ¬ (vy_19 : Int32).toInt = (0 : Int32).toInt := fun z => c_82 (Int32.toInt_inj.mp z)
                    have z_3 : ¬ (r_428 : Int32).toInt = (0 : Int32).toInt := fun z => c_433 (Int32.toInt_inj.mp z)
                    have z_4 : ¬ (r_485 : Int32).toInt = (0 : Int32).toInt := fun z => c_490 (Int32.toInt_inj.mp z)
                    have z_5 : ¬ (vy_19 : Int32).toInt = (12 : Int32).toInt := fun z => c_493 (Int32.toInt_inj.mp z)
                    have z_6 : ¬ (r_529 : Int32).toInt = (0 : Int32).toInt := fun z => c_534 (Int32.toInt_inj.mp z)
                    have y_0 : (0 : Int32).toInt = 0 := by decide
                    have y_12 : (12 : Int32).toInt = 12 := by decide
                    have y_1 : (1 : Int32).toInt = 1 := by decide
                    have t_x_584 : x_584.toInt = (vy_19 : Int32).toInt + (1 : Int32).toInt := by rw [ex_584]; exact add_toInt (by omega) (by omega)
                    omega
                  have ha_586 : 0 ≤ (x_584 : Int32).toInt ∧ (x_584 : Int32).toInt ≤ 13 := by
                    have z_1 := Int32.le_iff_toInt_le.mp (Int32.not_lt.mp c_40)
                    have z_2 : ¬ (vy_19 : Int32).toInt = (0 : Int32).toInt := fun z => c_82 (Int32.toInt_inj.mp z)
                    have z_3 : ¬ (r_428 : Int32).toInt = (0 : Int32).toInt := fun z => c_433 (Int32.toInt_inj.mp z)
                    have z_4 : ¬ (r_485 : Int32).toInt = (0 : Int32).toInt := fun z => c_490 (Int32.toInt_inj.mp z)
                    have z_5 : ¬ (vy_19 : Int32).toInt = (12 : Int32).toInt := fun z => c_493 (Int32.toInt_inj.mp z)
                    have z_6 : ¬ (r_529 : Int32).toInt = (0 : Int32).toInt := fun z => c_534 (Int32.toInt_inj.mp z)
                    have y_0 : (0 : Int32).toInt = 0 := by decide
                    have y_12 : (12 : Int32).toInt = 12 := by decide
                    have y_1 : (1 : Int32).toInt = 1 := by decide
                    have t_x_584 : x_584.toInt = (vy_19 : Int32).toInt + (1 : Int32).toInt := by rw [ex_584]; exact add_toInt (by omega) (by omega)
                    omega
                  have hw_587 : TWd (cB (Tf 1) (Tv 0)) pz_buy (rNX (cB (Tf 1) (Tv 0)) rq_35) := by
                    rw [← ero_478, ← wS1]
                    exact pf_491
                  have hr_588 : (vy_19 : Int32).toInt.toNat ≠ 12 := by
                    have z_1 := Int32.le_iff_toInt_le.mp (Int32.not_lt.mp c_40)
                    have z_2 : ¬ (vy_19 : Int32).toInt = (0 : Int32).toInt := fun z => c_82 (Int32.toInt_inj.mp z)
                    have z_3 : ¬ (r_428 : Int32).toInt = (0 : Int32).toInt := fun z => c_433 (Int32.toInt_inj.mp z)
                    have z_4 : ¬ (r_485 : Int32).toInt = (0 : Int32).toInt := fun z => c_490 (Int32.toInt_inj.mp z)
                    have z_5 : ¬ (vy_19 : Int32).toInt = (12 : Int32).toInt := fun z => c_493 (Int32.toInt_inj.mp z)
                    have z_6 : ¬ (r_529 : Int32).toInt = (0 : Int32).toInt := fun z => c_534 (Int32.toInt_inj.mp z)
                    have y_0 : (0 : Int32).toInt = 0 := by decide
                    have y_12 : (12 : Int32).toInt = 12 := by decide
                    omega
                  have hw_589 : TWd (cB (Tf 1) (Tv 0)) pz_if (pz_b (rNX (cB (Tf 1) (Tv 0)) (rNX (cB (Tf 1) (Tv 0)) rq_35)) (pz_sum (cB (Tf 1) (Tv 0)))) := by
                    rw [← ero_478, ← ero_502, ← ero_519, ← wS3]
                    exact pf_556
                  have hE_590 : pz_b (rNX (cB (Tf 1) (Tv 0)) rq_35) (pz_cla (cB (Tf 1) (Tv 0)) (vy_19 : Int32).toInt.toNat) = ro_576 := by
                    rw [ero_576, ero_559, ero_519, ero_502, ero_478]
                    exact (cla_if hw_587 hr_588 hw_589)
                  have hu_591 : TpR (Tf 1) (Tv 0) (pz_b (rNX (cB (Tf 1) (Tv 0)) rq_35) (pz_cla (cB (Tf 1) (Tv 0)) (vy_19 : Int32).toInt.toNat)) sv_568 sv_569 sv_570 sv_571 := by rw [hE_590]; exact pf_574
                  have hu_592 : Ctd (pz_b (rNX (cB (Tf 1) (Tv 0)) rq_35) (pz_cla (cB (Tf 1) (Tv 0)) (vy_19 : Int32).toInt.toNat)) sv_566 := by rw [hE_590]; exact pf_575
                  have hi_593 : (x_584 : Int32).toInt = (vy_19 : Int32).toInt + 1 := by
                    have z_1 := Int32.le_iff_toInt_le.mp (Int32.not_lt.mp c_40)
                    have z_2 : ¬ (vy_19 : Int32).toInt = (0 : Int32).toInt := fun z => c_82 (Int32.toInt_inj.mp z)
                    have z_3 : ¬ (r_428 : Int32).toInt = (0 : Int32).toInt := fun z => c_433 (Int32.toInt_inj.mp z)
                    have z_4 : ¬ (r_485 : Int32).toInt = (0 : Int32).toInt := fun z => c_490 (Int32.toInt_inj.mp z)
                    have z_5 : ¬ (vy_19 : Int32).toInt = (12 : Int32).toInt := fun z => c_493 (Int32.toInt_inj.mp z)
                    have z_6 : ¬ (r_529 : Int32).toInt = (0 : Int32).toInt := fun z => c_534 (Int32.toInt_inj.mp z)
                    have y_0 : (0 : Int32).toInt = 0 := by decide
                    have y_12 : (12 : Int32).toInt = 12 := by decide
                    have y_1 : (1 : Int32).toInt = 1 := by decide
                    have t_x_584 : x_584.toInt = (vy_19 : Int32).toInt + (1 : Int32).toInt := by rw [ex_584]; exact add_toInt (by omega) (by omega)
                    omega
                  have hr_594 : 1 ≤ (vy_19 : Int32).toInt ∧ (vy_19 : Int32).toInt ≤ 12 := by
                    have z_1 := Int32.le_iff_toInt_le.mp (Int32.not_lt.mp c_40)
                    have z_2 : ¬ (vy_19 : Int32).toInt = (0 : Int32).toInt := fun z => c_82 (Int32.toInt_inj.mp z)
                    have z_3 : ¬ (r_428 : Int32).toInt = (0 : Int32).toInt := fun z => c_433 (Int32.toInt_inj.mp z)
                    have z_4 : ¬ (r_485 : Int32).toInt = (0 : Int32).toInt := fun z => c_490 (Int32.toInt_inj.mp z)
                    have z_5 : ¬ (vy_19 : Int32).toInt = (12 : Int32).toInt := fun z => c_493 (Int32.toInt_inj.mp z)
                    have z_6 : ¬ (r_529 : Int32).toInt = (0 : Int32).toInt := fun z => c_534 (Int32.toInt_inj.mp z)
                    have y_0 : (0 : Int32).toInt = 0 := by decide
                    have y_12 : (12 : Int32).toInt = 12 := by decide
                    omega
                  exact ih_28 x_584 sv_581 sv_566 sv_582 sv_568 sv_569 sv_570 sv_571 _ _ _ (by omega) ha_586 pf_572 pf_583 (RcL.nextS h_tape.2.1 hr_594 pf_475 pf_38 hu_591 hu_592 hi_593) (hP.sub [2, 3, 0, 1] rfl) (hD.sub [2, 3, 0, 1] rfl rfl) hS (lv_sub hl [0, 1, 2] rfl)
              · skip
                refine lv_aload_n hx hb dX7_read_58 rfl (lv_at hl 2 rfl) ?_
                refine lv_iconst (v := 4) hx hb dX7_read_59 (by decide) ?_
                have ha_595 : 0 ≤ (4 : Int32).toInt ∧ (4 : Int32).toInt ≤ 4 := by
                  have z_1 := Int32.le_iff_toInt_le.mp (Int32.not_lt.mp c_40)
                  have z_2 : ¬ (vy_19 : Int32).toInt = (0 : Int32).toInt := fun z => c_82 (Int32.toInt_inj.mp z)
                  have z_3 : ¬ (r_428 : Int32).toInt = (0 : Int32).toInt := fun z => c_433 (Int32.toInt_inj.mp z)
                  have z_4 : ¬ (r_485 : Int32).toInt = (0 : Int32).toInt := fun z => c_490 (Int32.toInt_inj.mp z)
                  have z_5 := congrArg Int32.toInt c_493
                  have y_0 : (0 : Int32).toInt = 0 := by decide
                  have y_12 : (12 : Int32).toInt = 12 := by decide
                  have y_4 : (4 : Int32).toInt = 4 := by decide
                  omega
                have ha_596 : (4 : Int32).toInt = (4 : Int) := by
                  have z_1 := Int32.le_iff_toInt_le.mp (Int32.not_lt.mp c_40)
                  have z_2 : ¬ (vy_19 : Int32).toInt = (0 : Int32).toInt := fun z => c_82 (Int32.toInt_inj.mp z)
                  have z_3 : ¬ (r_428 : Int32).toInt = (0 : Int32).toInt := fun z => c_433 (Int32.toInt_inj.mp z)
                  have z_4 : ¬ (r_485 : Int32).toInt = (0 : Int32).toInt := fun z => c_490 (Int32.toInt_inj.mp z)
                  have z_5 := congrArg Int32.toInt c_493
                  have y_0 : (0 : Int32).toInt = 0 := by decide
                  have y_12 : (12 : Int32).toInt = 12 := by decide
                  have y_4 : (4 : Int32).toInt = 4 := by decide
                  omega
                refine cV (a := (Ta 0)) (As := [.int 4]) (rest := []) (wr := [((Va 0), .inr (7, [.ref (Va 1), .int vy_20, .int vy_21])), ((Va 1), .inl (tc 0, 400, .inl vy_22))]) ⟨hx, hb, hml, hown, hts⟩ hK hX hA (cu_fX10_fail l D tc sk (Ta 0) (Ta 1) (Tv 0) sv_424 sv_425 sv_426 vy_26 (Tf 1) 4 ro_478 4 pf_427 pf_476 ha_595 ha_596) k_557 k_619 k_555 k_556 k_96 pl_X10_fail ⟨Nat.le_of_ble_eq_true rfl, Nat.le_of_ble_eq_true rfl⟩ rfl rfl (va_recv hK hP (ci := 10) (q0 := 2) rfl rfl) hP hD hS [2, 3] [0, 1] rfl rfl rfl rfl rfl (by decide) rfl hl.1 rfl (Nat.le_of_ble_eq_true rfl) dX7_read_60 ⟨Nat.le_of_ble_eq_true rfl, Nat.le_of_ble_eq_true rfl⟩ (fun v_597 u_598 H locs hv_599 hP₀ hD₀ hS₀ => ?_)
                obtain ⟨sv_600, sv_601⟩ := u_598
                obtain ⟨rfl, pf_602, pf_603⟩ := hv_599
                have pf_602 : 0 ≤ ((Tv 0) : Int32).toInt ∧ ((Tv 0) : Int32).toInt ≤ 400 ∧ 0 ≤ (sv_424 : Int32).toInt ∧ (sv_424 : Int32).toInt ≤ 400 ∧ 0 ≤ (sv_425 : Int32).toInt ∧ (sv_425 : Int32).toInt ≤ 400 := pf_602
                have pf_603 : TpR (Tf 1) (Tv 0) (rER (4 : Int) ro_478) sv_424 sv_425 sv_600 sv_601 := pf_603
                obtain ⟨ro_604, ero_604⟩ : ∃ z : Except Int (Nat × Nat), z = (rER 4 ro_478) := ⟨_, rfl⟩
                rw [← ero_604] at pf_603
                have tb_605 : TpB (rTE (cB (Tf 1) (Tv 0)) ro_604) sv_425 sv_601 := TpR.tb pf_603
                have cd_606 : Ctd ro_604 vy_21 := by rw [ero_604]; exact (Ctd.er)
                refine W.eq (g2 := F0 m 63 ls []) rfl ?_
                replace hP : va_P D classes [((Va 0), .inr (7, [.ref (Va 1), .int vy_20, .int vy_21])), ((Va 1), .inl (tc 0, 400, .inl vy_22)), ((Ta 0), .inr (10, [.ref (Ta 1), .int (Tv 0), .int sv_424, .int sv_425, .int sv_600, .int sv_601])), ((Ta 1), .inl (tc 0, 400, .inl (Tf 1)))] H := hP₀
                replace hD : va_D A [((Va 0), .inr (7, [.ref (Va 1), .int vy_20, .int vy_21])), ((Va 1), .inl (tc 0, 400, .inl vy_22)), ((Ta 0), .inr (10, [.ref (Ta 1), .int (Tv 0), .int sv_424, .int sv_425, .int sv_600, .int sv_601])), ((Ta 1), .inl (tc 0, 400, .inl (Tf 1)))] := hD₀
                replace hS := hS₀
                clear hP₀ hD₀ hS₀
                refine lv_aload_n hx hb dX7_read_63 rfl (lv_at hl 2 rfl) ?_
                refine cV (a := (Ta 0)) (As := []) (rest := []) (wr := [((Va 0), .inr (7, [.ref (Va 1), .int vy_20, .int vy_21])), ((Va 1), .inl (tc 0, 400, .inl vy_22))]) ⟨hx, hb, hml, hown, hts⟩ hK hX hA (cu_fX10_step l D tc sk (Ta 0) (Ta 1) (Tv 0) sv_424 sv_425 sv_600 sv_601 (Tf 1) (rTE (cB (Tf 1) (Tv 0)) ro_604) pf_602 h_by tb_605) k_478 k_620 k_476 k_477 k_96 pl_X10_step ⟨Nat.le_of_ble_eq_true rfl, Nat.le_of_ble_eq_true rfl⟩ rfl rfl (va_recv hK hP (ci := 10) (q0 := 2) rfl rfl) hP hD hS [2, 3] [0, 1] rfl rfl rfl rfl rfl (by decide) rfl hl.1 rfl (Nat.le_of_ble_eq_true rfl) dX7_read_64 ⟨Nat.le_of_ble_eq_true rfl, Nat.le_of_ble_eq_true rfl⟩ (fun v_607 u_608 H locs hv_609 hP₀ hD₀ hS₀ => ?_)
                obtain ⟨sv_610, sv_611, sv_612⟩ := u_608
                obtain ⟨rfl, pf_613, pf_614⟩ := hv_609
                have pf_613 : 0 ≤ ((Tv 0) : Int32).toInt ∧ ((Tv 0) : Int32).toInt ≤ 400 ∧ 0 ≤ (sv_610 : Int32).toInt ∧ (sv_610 : Int32).toInt ≤ 400 ∧ 0 ≤ (sv_611 : Int32).toInt ∧ (sv_611 : Int32).toInt ≤ 400 := pf_613
                have pf_614 : TpR (Tf 1) (Tv 0) (rSK (cB (Tf 1) (Tv 0)) (rTE (cB (Tf 1) (Tv 0)) ro_604)) sv_610 sv_611 sv_612 sv_601 := pf_614
                rw [rNX_eq] at pf_614
                obtain ⟨ro_615, ero_615⟩ : ∃ z : Except Int (Nat × Nat), z = (rNX (cB (Tf 1) (Tv 0)) ro_604) := ⟨_, rfl⟩
                rw [← ero_615] at pf_614
                have tb_616 : TpB (rTE (cB (Tf 1) (Tv 0)) ro_615) sv_611 sv_601 := TpR.tb pf_614
                have cd_617 : Ctd ro_615 vy_21 := by rw [ero_615]; exact (Ctd.nx cd_606)
                refine W.eq (g2 := F0 m 67 ls []) rfl ?_
                replace hP : va_P D classes [((Va 0), .inr (7, [.ref (Va 1), .int vy_20, .int vy_21])), ((Va 1), .inl (tc 0, 400, .inl vy_22)), ((Ta 0), .inr (10, [.ref (Ta 1), .int (Tv 0), .int sv_610, .int sv_611, .int sv_612, .int sv_601])), ((Ta 1), .inl (tc 0, 400, .inl (Tf 1)))] H := hP₀
                replace hD : va_D A [((Va 0), .inr (7, [.ref (Va 1), .int vy_20, .int vy_21])), ((Va 1), .inl (tc 0, 400, .inl vy_22)), ((Ta 0), .inr (10, [.ref (Ta 1), .int (Tv 0), .int sv_610, .int sv_611, .int sv_612, .int sv_601])), ((Ta 1), .inl (tc 0, 400, .inl (Tf 1)))] := hD₀
                replace hS := hS₀
                clear hP₀ hD₀ hS₀
                refine lv_aload_n hx hb dX7_read_67 rfl (lv_at hl 1 rfl) ?_
                refine lv_aload_n hx hb dX7_read_68 rfl (lv_at hl 2 rfl) ?_
                refine cV (a := (Va 0)) (As := [.ref (Ta 0)]) (rest := []) (wr := []) ⟨hx, hb, hml, hown, hts⟩ hK hX hA (cu_fX7_readSum l D tc sk (Va 0) (Va 1) vy_20 vy_21 vy_22 (Ta 0) (Ta 1) (Tv 0) sv_610 sv_611 sv_612 sv_601 (Tf 1) ro_615 pf_613 pf_32 h_by pf_614 cd_617) k_624 k_621 k_623 k_7 k_99 pl_X7_readSum ⟨Nat.le_of_ble_eq_true rfl, Nat.le_of_ble_eq_true rfl⟩ rfl rfl (va_recv hK hP (ci := 7) (q0 := 0) rfl rfl) hP hD hS [0, 1, 2, 3] [] rfl rfl rfl rfl rfl (by decide) rfl hl.1 rfl (Nat.le_of_ble_eq_true rfl) dX7_read_69 ⟨Nat.le_of_ble_eq_true rfl, Nat.le_of_ble_eq_true rfl⟩ (fun v_618 u_619 H locs hv_620 hP₀ hD₀ hS₀ => ?_)
                obtain ⟨sv_621, sv_622, sv_623, sv_624, sv_625, sv_626, sv_627⟩ := u_619
                obtain ⟨rfl, pf_628, pf_629, pf_630, pf_631⟩ := hv_620
                have pf_628 : 0 ≤ ((Tv 0) : Int32).toInt ∧ ((Tv 0) : Int32).toInt ≤ 400 ∧ 0 ≤ (sv_624 : Int32).toInt ∧ (sv_624 : Int32).toInt ≤ 400 ∧ 0 ≤ (sv_625 : Int32).toInt ∧ (sv_625 : Int32).toInt ≤ 400 := pf_628
                have pf_629 : 0 ≤ (sv_621 : Int32).toInt ∧ (sv_621 : Int32).toInt ≤ 400 := pf_629
                have pf_630 : TpR (Tf 1) (Tv 0) (pz_b ro_615 (pz_sum (cB (Tf 1) (Tv 0)))) sv_624 sv_625 sv_626 sv_627 := pf_630
                obtain ⟨ro_632, ero_632⟩ : ∃ z : Except Int (Nat × Nat), z = (pz_b ro_615 (pz_sum (cB (Tf 1) (Tv 0)))) := ⟨_, rfl⟩
                rw [← ero_632] at pf_630
                have tb_633 : TpB (rTE (cB (Tf 1) (Tv 0)) ro_632) sv_625 sv_627 := TpR.tb pf_630
                have pf_631 : Ctd (pz_b ro_615 (pz_sum (cB (Tf 1) (Tv 0)))) sv_622 := pf_631
                rw [← ero_632] at pf_631
                refine W.eq (g2 := F0 m 72 ls []) rfl ?_
                replace hP : va_P D classes [((Va 0), .inr (7, [.ref (Va 1), .int sv_621, .int sv_622])), ((Va 1), .inl (tc 0, 400, .inl sv_623)), ((Ta 0), .inr (10, [.ref (Ta 1), .int (Tv 0), .int sv_624, .int sv_625, .int sv_626, .int sv_627])), ((Ta 1), .inl (tc 0, 400, .inl (Tf 1)))] H := hP₀
                replace hD : va_D A [((Va 0), .inr (7, [.ref (Va 1), .int sv_621, .int sv_622])), ((Va 1), .inl (tc 0, 400, .inl sv_623)), ((Ta 0), .inr (10, [.ref (Ta 1), .int (Tv 0), .int sv_624, .int sv_625, .int sv_626, .int sv_627])), ((Ta 1), .inl (tc 0, 400, .inl (Tf 1)))] := hD₀
                replace hS := hS₀
                clear hP₀ hD₀ hS₀
                refine lv_aload_n hx hb dX7_read_72 rfl (lv_at hl 2 rfl) ?_
                refine va_ldcS hx hb hown (sx_3 hX) dX7_read_73 ?_
                have ha_634 : (3 : Nat) < 7 := by
                  have z_1 := Int32.le_iff_toInt_le.mp (Int32.not_lt.mp c_40)
                  have z_2 : ¬ (vy_19 : Int32).toInt = (0 : Int32).toInt := fun z => c_82 (Int32.toInt_inj.mp z)
                  have z_3 : ¬ (r_428 : Int32).toInt = (0 : Int32).toInt := fun z => c_433 (Int32.toInt_inj.mp z)
                  have z_4 : ¬ (r_485 : Int32).toInt = (0 : Int32).toInt := fun z => c_490 (Int32.toInt_inj.mp z)
                  have z_5 := congrArg Int32.toInt c_493
                  have y_0 : (0 : Int32).toInt = 0 := by decide
                  have y_12 : (12 : Int32).toInt = 12 := by decide
                  have y_3 : (3 : Int32).toInt = 3 := by decide
                  omega
                refine cV (a := (Ta 0)) (As := [.ref (sk.1 3)]) (rest := []) (wr := [((Va 0), .inr (7, [.ref (Va 1), .int sv_621, .int sv_622])), ((Va 1), .inl (tc 0, 400, .inl sv_623))]) ⟨hx, hb, hml, hown, hts⟩ hK hX hA (cu_fX10_takesWord l D tc sk (Ta 0) (Ta 1) (Tv 0) sv_624 sv_625 sv_626 sv_627 (Tf 1) 3 ro_632 ha_634 pf_628 h_by pf_630) k_650 k_647 k_648 k_649 k_96 pl_X10_takesWord ⟨Nat.le_of_ble_eq_true rfl, Nat.le_of_ble_eq_true rfl⟩ rfl rfl (va_recv hK hP (ci := 10) (q0 := 2) rfl rfl) hP hD hS [2, 3] [0, 1] rfl rfl rfl rfl rfl (by decide) rfl hl.1 rfl (Nat.le_of_ble_eq_true rfl) dX7_read_75 ⟨Nat.le_of_ble_eq_true rfl, Nat.le_of_ble_eq_true rfl⟩ (fun v_635 u_636 H locs hv_637 hP₀ hD₀ hS₀ => ?_)
                obtain ⟨sv_638, sv_639, sv_640⟩ := u_636
                obtain ⟨r_642, rfl, he_643, pf_641, hm_645, hm_646⟩ := hv_637
                have he_643 : (r_642.toInt = 0 ∨ r_642.toInt = 1) := he_643
                have pf_641 : 0 ≤ ((Tv 0) : Int32).toInt ∧ ((Tv 0) : Int32).toInt ≤ 400 ∧ 0 ≤ (sv_638 : Int32).toInt ∧ (sv_638 : Int32).toInt ≤ 400 ∧ 0 ≤ (sv_639 : Int32).toInt ∧ (sv_639 : Int32).toInt ≤ 400 := pf_641
                refine W.eq (g2 := F0 m 78 ls [.int r_642]) rfl ?_
                replace hP : va_P D classes [((Va 0), .inr (7, [.ref (Va 1), .int sv_621, .int sv_622])), ((Va 1), .inl (tc 0, 400, .inl sv_623)), ((Ta 0), .inr (10, [.ref (Ta 1), .int (Tv 0), .int sv_638, .int sv_639, .int sv_640, .int sv_627])), ((Ta 1), .inl (tc 0, 400, .inl (Tf 1)))] H := hP₀
                replace hD : va_D A [((Va 0), .inr (7, [.ref (Va 1), .int sv_621, .int sv_622])), ((Va 1), .inl (tc 0, 400, .inl sv_623)), ((Ta 0), .inr (10, [.ref (Ta 1), .int (Tv 0), .int sv_638, .int sv_639, .int sv_640, .int sv_627])), ((Ta 1), .inl (tc 0, 400, .inl (Tf 1)))] := hD₀
                replace hS := hS₀
                clear hP₀ hD₀ hS₀
                refine lv_if_eq (tgt := 96) hx hb dX7_read_78 (by decide) (fun c_647 => ?_) (fun c_647 => ?_)
                · skip
                  have hz_650 : (r_642 : Int32).toInt = 0 := by
                    have z_1 := Int32.le_iff_toInt_le.mp (Int32.not_lt.mp c_40)
                    have z_2 : ¬ (vy_19 : Int32).toInt = (0 : Int32).toInt := fun z => c_82 (Int32.toInt_inj.mp z)
                    have z_3 : ¬ (r_428 : Int32).toInt = (0 : Int32).toInt := fun z => c_433 (Int32.toInt_inj.mp z)
                    have z_4 : ¬ (r_485 : Int32).toInt = (0 : Int32).toInt := fun z => c_490 (Int32.toInt_inj.mp z)
                    have z_5 := congrArg Int32.toInt c_493
                    have z_6 := congrArg Int32.toInt c_647
                    have y_0 : (0 : Int32).toInt = 0 := by decide
                    have y_12 : (12 : Int32).toInt = 12 := by decide
                    omega
                  obtain ⟨pf_648, pf_649⟩ := hm_646 hz_650
                  have pf_648 : NWd (cB (Tf 1) (Tv 0)) (wS (3 : Nat)) ro_632 := pf_648
                  have pf_649 : TpR (Tf 1) (Tv 0) ro_632 sv_638 sv_639 sv_640 sv_627 := pf_649
                  have tb_651 : TpB (rTE (cB (Tf 1) (Tv 0)) ro_632) sv_639 sv_627 := TpR.tb pf_649
                  refine lv_aload_n hx hb dX7_read_96 rfl (lv_at hl 1 rfl) ?_
                  refine lv_bipush (v := (-2)) hx hb dX7_read_97 (by decide) ?_
                  refine cV (a := (Va 0)) (As := [.int (-2)]) (rest := []) (wr := [((Ta 0), .inr (10, [.ref (Ta 1), .int (Tv 0), .int sv_638, .int sv_639, .int sv_640, .int sv_627])), ((Ta 1), .inl (tc 0, 400, .inl (Tf 1)))]) ⟨hx, hb, hml, hown, hts⟩ hK hX hA (cu_fX7_put l D tc sk (Va 0) (Va 1) sv_621 sv_622 sv_623 (-2) pf_629) k_642 k_639 k_641 k_10 k_99 pl_X7_put ⟨Nat.le_of_ble_eq_true rfl, Nat.le_of_ble_eq_true rfl⟩ rfl rfl (va_recv hK hP (ci := 7) (q0 := 0) rfl rfl) hP hD hS [0, 1] [2, 3] rfl rfl rfl rfl rfl (by decide) rfl hl.1 rfl (Nat.le_of_ble_eq_true rfl) dX7_read_99 ⟨Nat.le_of_ble_eq_true rfl, Nat.le_of_ble_eq_true rfl⟩ (fun v_652 u_653 H locs hv_654 hP₀ hD₀ hS₀ => ?_)
                  obtain ⟨sv_655, sv_656⟩ := u_653
                  obtain ⟨rfl, pf_657⟩ := hv_654
                  have pf_657 : 0 ≤ (sv_655 : Int32).toInt ∧ (sv_655 : Int32).toInt ≤ 400 := pf_657
                  refine W.eq (g2 := F0 m 102 ls []) rfl ?_
                  replace hP : va_P D classes [((Ta 0), .inr (10, [.ref (Ta 1), .int (Tv 0), .int sv_638, .int sv_639, .int sv_640, .int sv_627])), ((Ta 1), .inl (tc 0, 400, .inl (Tf 1))), ((Va 0), .inr (7, [.ref (Va 1), .int sv_655, .int sv_622])), ((Va 1), .inl (tc 0, 400, .inl sv_656))] H := hP₀
                  replace hD : va_D A [((Ta 0), .inr (10, [.ref (Ta 1), .int (Tv 0), .int sv_638, .int sv_639, .int sv_640, .int sv_627])), ((Ta 1), .inl (tc 0, 400, .inl (Tf 1))), ((Va 0), .inr (7, [.ref (Va 1), .int sv_655, .int sv_622])), ((Va 1), .inl (tc 0, 400, .inl sv_656))] := hD₀
                  replace hS := hS₀
                  clear hP₀ hD₀ hS₀
                  obtain ⟨x_658, ex_658⟩ : ∃ y : Int32, y = vy_19 + 1 := ⟨_, rfl⟩
                  refine lv_iinc (v := x_658) (lv' := [(2, .int x_658), (0, .ref (Va 0)), (1, .ref (Ta 0))]) hx hb dX7_read_102 hl (k := 0) rfl (by rw [ex_658]; rfl) (by decide) rfl (fun ls hl₀ => ?_)
                  replace hl := hl₀
                  clear hl₀
                  refine lv_goto (tgt := 16) hx hb dX7_read_105 (by decide) ?_
                  have hb_659 : 14 - (x_658 : Int32).toInt < 14 - (vy_19 : Int32).toInt ∧ 1 ≤ 14 - (vy_19 : Int32).toInt := by
                    have z_1 := Int32.le_iff_toInt_le.mp (Int32.not_lt.mp c_40)
                    have z_2 : ¬ (vy_19 : Int32).toInt = (0 : Int32).toInt := fun z => c_82 (Int32.toInt_inj.mp z)
                    have z_3 : ¬ (r_428 : Int32).toInt = (0 : Int32).toInt := fun z => c_433 (Int32.toInt_inj.mp z)
                    have z_4 : ¬ (r_485 : Int32).toInt = (0 : Int32).toInt := fun z => c_490 (Int32.toInt_inj.mp z)
                    have z_5 := congrArg Int32.toInt c_493
                    have z_6 := congrArg Int32.toInt c_647
                    have y_0 : (0 : Int32).toInt = 0 := by decide
                    have y_12 : (12 : Int32).toInt = 12 := by decide
                    have y_1 : (1 : Int32).toInt = 1 := by decide
                    have t_x_658 : x_658.toInt = (vy_19 : Int32).toInt + (1 : Int32).toInt := by rw [ex_658]; exact add_toInt (by omega) (by omega)
                    omega
                  have ha_660 : 0 ≤ (x_658 : Int32).toInt ∧ (x_658 : Int32).toInt ≤ 13 := by
                    have z_1 := Int32.le_iff_toInt_le.mp (Int32.not_lt.mp c_40)
                    have z_2 : ¬ (vy_19 : Int32).toInt = (0 : Int32).toInt := fun z => c_82 (Int32.toInt_inj.mp z)
                    have z_3 : ¬ (r_428 : Int32).toInt = (0 : Int32).toInt := fun z => c_433 (Int32.toInt_inj.mp z)
                    have z_4 : ¬ (r_485 : Int32).toInt = (0 : Int32).toInt := fun z => c_490 (Int32.toInt_inj.mp z)
                    have z_5 := congrArg Int32.toInt c_493
                    have z_6 := congrArg Int32.toInt c_647
                    have y_0 : (0 : Int32).toInt = 0 := by decide
                    have y_12 : (12 : Int32).toInt = 12 := by decide
                    have y_1 : (1 : Int32).toInt = 1 := by decide
                    have t_x_658 : x_658.toInt = (vy_19 : Int32).toInt + (1 : Int32).toInt := by rw [ex_658]; exact add_toInt (by omega) (by omega)
                    omega
                  have hw_661 : TWd (cB (Tf 1) (Tv 0)) pz_buy (rNX (cB (Tf 1) (Tv 0)) rq_35) := by
                    rw [← ero_478, ← wS1]
                    exact pf_491
                  have hr_662 : (vy_19 : Int32).toInt.toNat = 12 := by
                    have z_1 := Int32.le_iff_toInt_le.mp (Int32.not_lt.mp c_40)
                    have z_2 : ¬ (vy_19 : Int32).toInt = (0 : Int32).toInt := fun z => c_82 (Int32.toInt_inj.mp z)
                    have z_3 : ¬ (r_428 : Int32).toInt = (0 : Int32).toInt := fun z => c_433 (Int32.toInt_inj.mp z)
                    have z_4 : ¬ (r_485 : Int32).toInt = (0 : Int32).toInt := fun z => c_490 (Int32.toInt_inj.mp z)
                    have z_5 := congrArg Int32.toInt c_493
                    have z_6 := congrArg Int32.toInt c_647
                    have y_0 : (0 : Int32).toInt = 0 := by decide
                    have y_12 : (12 : Int32).toInt = 12 := by decide
                    omega
                  have hE_663 : pz_b (rNX (cB (Tf 1) (Tv 0)) rq_35) (pz_cla (cB (Tf 1) (Tv 0)) (vy_19 : Int32).toInt.toNat) = ro_632 := by
                    rw [ero_632, ero_615, ero_604, ero_478]
                    exact ((cla_12 hw_661 hr_662).trans (by cases rq_35 <;> rfl))
                  have hu_664 : TpR (Tf 1) (Tv 0) (pz_b (rNX (cB (Tf 1) (Tv 0)) rq_35) (pz_cla (cB (Tf 1) (Tv 0)) (vy_19 : Int32).toInt.toNat)) sv_638 sv_639 sv_640 sv_627 := by rw [hE_663]; exact pf_649
                  have hu_665 : Ctd (pz_b (rNX (cB (Tf 1) (Tv 0)) rq_35) (pz_cla (cB (Tf 1) (Tv 0)) (vy_19 : Int32).toInt.toNat)) sv_622 := by rw [hE_663]; exact pf_631
                  have hi_666 : (x_658 : Int32).toInt = (vy_19 : Int32).toInt + 1 := by
                    have z_1 := Int32.le_iff_toInt_le.mp (Int32.not_lt.mp c_40)
                    have z_2 : ¬ (vy_19 : Int32).toInt = (0 : Int32).toInt := fun z => c_82 (Int32.toInt_inj.mp z)
                    have z_3 : ¬ (r_428 : Int32).toInt = (0 : Int32).toInt := fun z => c_433 (Int32.toInt_inj.mp z)
                    have z_4 : ¬ (r_485 : Int32).toInt = (0 : Int32).toInt := fun z => c_490 (Int32.toInt_inj.mp z)
                    have z_5 := congrArg Int32.toInt c_493
                    have z_6 := congrArg Int32.toInt c_647
                    have y_0 : (0 : Int32).toInt = 0 := by decide
                    have y_12 : (12 : Int32).toInt = 12 := by decide
                    have y_1 : (1 : Int32).toInt = 1 := by decide
                    have t_x_658 : x_658.toInt = (vy_19 : Int32).toInt + (1 : Int32).toInt := by rw [ex_658]; exact add_toInt (by omega) (by omega)
                    omega
                  have hr_667 : 1 ≤ (vy_19 : Int32).toInt ∧ (vy_19 : Int32).toInt ≤ 12 := by
                    have z_1 := Int32.le_iff_toInt_le.mp (Int32.not_lt.mp c_40)
                    have z_2 : ¬ (vy_19 : Int32).toInt = (0 : Int32).toInt := fun z => c_82 (Int32.toInt_inj.mp z)
                    have z_3 : ¬ (r_428 : Int32).toInt = (0 : Int32).toInt := fun z => c_433 (Int32.toInt_inj.mp z)
                    have z_4 : ¬ (r_485 : Int32).toInt = (0 : Int32).toInt := fun z => c_490 (Int32.toInt_inj.mp z)
                    have z_5 := congrArg Int32.toInt c_493
                    have z_6 := congrArg Int32.toInt c_647
                    have y_0 : (0 : Int32).toInt = 0 := by decide
                    have y_12 : (12 : Int32).toInt = 12 := by decide
                    omega
                  exact ih_28 x_658 sv_655 sv_622 sv_656 sv_638 sv_639 sv_640 sv_627 _ _ _ (by omega) ha_660 pf_641 pf_657 (RcL.nextS h_tape.2.1 hr_667 pf_475 pf_38 hu_664 hu_665 hi_666) (hP.sub [2, 3, 0, 1] rfl) (hD.sub [2, 3, 0, 1] rfl rfl) hS (lv_sub hl [0, 1, 2] rfl)
                · skip
                  have hz_670 : (r_642 : Int32).toInt = 1 := by
                    have z_1 := Int32.le_iff_toInt_le.mp (Int32.not_lt.mp c_40)
                    have z_2 : ¬ (vy_19 : Int32).toInt = (0 : Int32).toInt := fun z => c_82 (Int32.toInt_inj.mp z)
                    have z_3 : ¬ (r_428 : Int32).toInt = (0 : Int32).toInt := fun z => c_433 (Int32.toInt_inj.mp z)
                    have z_4 : ¬ (r_485 : Int32).toInt = (0 : Int32).toInt := fun z => c_490 (Int32.toInt_inj.mp z)
                    have z_5 := congrArg Int32.toInt c_493
                    have z_6 : ¬ (r_642 : Int32).toInt = (0 : Int32).toInt := fun z => c_647 (Int32.toInt_inj.mp z)
                    have y_0 : (0 : Int32).toInt = 0 := by decide
                    have y_12 : (12 : Int32).toInt = 12 := by decide
                    omega
                  obtain ⟨pf_668, pf_669⟩ := hm_645 hz_670
                  have pf_668 : TWd (cB (Tf 1) (Tv 0)) (wS (3 : Nat)) ro_632 := pf_668
                  have pf_669 : TpR (Tf 1) (Tv 0) (rNX (cB (Tf 1) (Tv 0)) ro_632) sv_638 sv_639 sv_640 sv_627 := pf_669
                  obtain ⟨ro_671, ero_671⟩ : ∃ z : Except Int (Nat × Nat), z = (rNX (cB (Tf 1) (Tv 0)) ro_632) := ⟨_, rfl⟩
                  rw [← ero_671] at pf_669
                  have tb_672 : TpB (rTE (cB (Tf 1) (Tv 0)) ro_671) sv_639 sv_627 := TpR.tb pf_669
                  have cd_673 : Ctd ro_671 sv_622 := by rw [ero_671]; exact (Ctd.nx pf_631)
                  refine lv_aload_n hx hb dX7_read_81 rfl (lv_at hl 1 rfl) ?_
                  refine lv_aload_n hx hb dX7_read_82 rfl (lv_at hl 2 rfl) ?_
                  refine lv_iconst (v := 0) hx hb dX7_read_83 (by decide) ?_
                  refine cV (a := (Va 0)) (As := [.ref (Ta 0), .int 0]) (rest := []) (wr := []) ⟨hx, hb, hml, hown, hts⟩ hK hX hA (cu_fX7_readTest_0 l D tc sk (Va 0) (Va 1) sv_621 sv_622 sv_623 (Ta 0) (Ta 1) (Tv 0) sv_638 sv_639 sv_640 sv_627 (Tf 1) ro_671 pf_641 pf_629 h_by pf_669 cd_673) k_655 k_652 k_654 k_11 k_99 pl_X7_readTest ⟨Nat.le_of_ble_eq_true rfl, Nat.le_of_ble_eq_true rfl⟩ rfl rfl (va_recv hK hP (ci := 7) (q0 := 0) rfl rfl) hP hD hS [0, 1, 2, 3] [] rfl rfl rfl rfl rfl (by decide) rfl hl.1 rfl (Nat.le_of_ble_eq_true rfl) dX7_read_84 ⟨Nat.le_of_ble_eq_true rfl, Nat.le_of_ble_eq_true rfl⟩ (fun v_674 u_675 H locs hv_676 hP₀ hD₀ hS₀ => ?_)
                  obtain ⟨sv_677, sv_678, sv_679, sv_680, sv_681, sv_682, sv_683⟩ := u_675
                  obtain ⟨rfl, pf_684, pf_685, pf_686, pf_687⟩ := hv_676
                  have pf_684 : 0 ≤ ((Tv 0) : Int32).toInt ∧ ((Tv 0) : Int32).toInt ≤ 400 ∧ 0 ≤ (sv_680 : Int32).toInt ∧ (sv_680 : Int32).toInt ≤ 400 ∧ 0 ≤ (sv_681 : Int32).toInt ∧ (sv_681 : Int32).toInt ≤ 400 := pf_684
                  have pf_685 : 0 ≤ (sv_677 : Int32).toInt ∧ (sv_677 : Int32).toInt ≤ 400 := pf_685
                  have pf_686 : TpR (Tf 1) (Tv 0) (pz_b ro_671 (pz_tst (cB (Tf 1) (Tv 0)) (pz_fact (cB (Tf 1) (Tv 0)) 10))) sv_680 sv_681 sv_682 sv_683 := pf_686
                  obtain ⟨ro_688, ero_688⟩ : ∃ z : Except Int (Nat × Nat), z = (pz_b ro_671 (pz_tst (cB (Tf 1) (Tv 0)) (pz_fact (cB (Tf 1) (Tv 0)) 10))) := ⟨_, rfl⟩
                  rw [← ero_688] at pf_686
                  have tb_689 : TpB (rTE (cB (Tf 1) (Tv 0)) ro_688) sv_681 sv_683 := TpR.tb pf_686
                  have pf_687 : Ctd (pz_b ro_671 (pz_tst (cB (Tf 1) (Tv 0)) (pz_fact (cB (Tf 1) (Tv 0)) 10))) sv_678 := pf_687
                  rw [← ero_688] at pf_687
                  refine W.eq (g2 := F0 m 87 ls []) rfl ?_
                  replace hP : va_P D classes [((Va 0), .inr (7, [.ref (Va 1), .int sv_677, .int sv_678])), ((Va 1), .inl (tc 0, 400, .inl sv_679)), ((Ta 0), .inr (10, [.ref (Ta 1), .int (Tv 0), .int sv_680, .int sv_681, .int sv_682, .int sv_683])), ((Ta 1), .inl (tc 0, 400, .inl (Tf 1)))] H := hP₀
                  replace hD : va_D A [((Va 0), .inr (7, [.ref (Va 1), .int sv_677, .int sv_678])), ((Va 1), .inl (tc 0, 400, .inl sv_679)), ((Ta 0), .inr (10, [.ref (Ta 1), .int (Tv 0), .int sv_680, .int sv_681, .int sv_682, .int sv_683])), ((Ta 1), .inl (tc 0, 400, .inl (Tf 1)))] := hD₀
                  replace hS := hS₀
                  clear hP₀ hD₀ hS₀
                  refine lv_aload_n hx hb dX7_read_87 rfl (lv_at hl 1 rfl) ?_
                  refine lv_bipush (v := (-3)) hx hb dX7_read_88 (by decide) ?_
                  refine cV (a := (Va 0)) (As := [.int (-3)]) (rest := []) (wr := [((Ta 0), .inr (10, [.ref (Ta 1), .int (Tv 0), .int sv_680, .int sv_681, .int sv_682, .int sv_683])), ((Ta 1), .inl (tc 0, 400, .inl (Tf 1)))]) ⟨hx, hb, hml, hown, hts⟩ hK hX hA (cu_fX7_put l D tc sk (Va 0) (Va 1) sv_677 sv_678 sv_679 (-3) pf_685) k_642 k_639 k_641 k_10 k_99 pl_X7_put ⟨Nat.le_of_ble_eq_true rfl, Nat.le_of_ble_eq_true rfl⟩ rfl rfl (va_recv hK hP (ci := 7) (q0 := 0) rfl rfl) hP hD hS [0, 1] [2, 3] rfl rfl rfl rfl rfl (by decide) rfl hl.1 rfl (Nat.le_of_ble_eq_true rfl) dX7_read_90 ⟨Nat.le_of_ble_eq_true rfl, Nat.le_of_ble_eq_true rfl⟩ (fun v_690 u_691 H locs hv_692 hP₀ hD₀ hS₀ => ?_)
                  obtain ⟨sv_693, sv_694⟩ := u_691
                  obtain ⟨rfl, pf_695⟩ := hv_692
                  have pf_695 : 0 ≤ (sv_693 : Int32).toInt ∧ (sv_693 : Int32).toInt ≤ 400 := pf_695
                  refine W.eq (g2 := F0 m 93 ls []) rfl ?_
                  replace hP : va_P D classes [((Ta 0), .inr (10, [.ref (Ta 1), .int (Tv 0), .int sv_680, .int sv_681, .int sv_682, .int sv_683])), ((Ta 1), .inl (tc 0, 400, .inl (Tf 1))), ((Va 0), .inr (7, [.ref (Va 1), .int sv_693, .int sv_678])), ((Va 1), .inl (tc 0, 400, .inl sv_694))] H := hP₀
                  replace hD : va_D A [((Ta 0), .inr (10, [.ref (Ta 1), .int (Tv 0), .int sv_680, .int sv_681, .int sv_682, .int sv_683])), ((Ta 1), .inl (tc 0, 400, .inl (Tf 1))), ((Va 0), .inr (7, [.ref (Va 1), .int sv_693, .int sv_678])), ((Va 1), .inl (tc 0, 400, .inl sv_694))] := hD₀
                  replace hS := hS₀
                  clear hP₀ hD₀ hS₀
                  refine lv_goto (tgt := 102) hx hb dX7_read_93 (by decide) ?_
                  obtain ⟨x_696, ex_696⟩ : ∃ y : Int32, y = vy_19 + 1 := ⟨_, rfl⟩
                  refine lv_iinc (v := x_696) (lv' := [(2, .int x_696), (0, .ref (Va 0)), (1, .ref (Ta 0))]) hx hb dX7_read_102 hl (k := 0) rfl (by rw [ex_696]; rfl) (by decide) rfl (fun ls hl₀ => ?_)
                  replace hl := hl₀
                  clear hl₀
                  refine lv_goto (tgt := 16) hx hb dX7_read_105 (by decide) ?_
                  have hb_697 : 14 - (x_696 : Int32).toInt < 14 - (vy_19 : Int32).toInt ∧ 1 ≤ 14 - (vy_19 : Int32).toInt := by
                    have z_1 := Int32.le_iff_toInt_le.mp (Int32.not_lt.mp c_40)
                    have z_2 : ¬ (vy_19 : Int32).toInt = (0 : Int32).toInt := fun z => c_82 (Int32.toInt_inj.mp z)
                    have z_3 : ¬ (r_428 : Int32).toInt = (0 : Int32).toInt := fun z => c_433 (Int32.toInt_inj.mp z)
                    have z_4 : ¬ (r_485 : Int32).toInt = (0 : Int32).toInt := fun z => c_490 (Int32.toInt_inj.mp z)
                    have z_5 := congrArg Int32.toInt c_493
                    have z_6 : ¬ (r_642 : Int32).toInt = (0 : Int32).toInt := fun z => c_647 (Int32.toInt_inj.mp z)
                    have y_0 : (0 : Int32).toInt = 0 := by decide
                    have y_12 : (12 : Int32).toInt = 12 := by decide
                    have y_1 : (1 : Int32).toInt = 1 := by decide
                    have t_x_696 : x_696.toInt = (vy_19 : Int32).toInt + (1 : Int32).toInt := by rw [ex_696]; exact add_toInt (by omega) (by omega)
                    omega
                  have ha_698 : 0 ≤ (x_696 : Int32).toInt ∧ (x_696 : Int32).toInt ≤ 13 := by
                    have z_1 := Int32.le_iff_toInt_le.mp (Int32.not_lt.mp c_40)
                    have z_2 : ¬ (vy_19 : Int32).toInt = (0 : Int32).toInt := fun z => c_82 (Int32.toInt_inj.mp z)
                    have z_3 : ¬ (r_428 : Int32).toInt = (0 : Int32).toInt := fun z => c_433 (Int32.toInt_inj.mp z)
                    have z_4 : ¬ (r_485 : Int32).toInt = (0 : Int32).toInt := fun z => c_490 (Int32.toInt_inj.mp z)
                    have z_5 := congrArg Int32.toInt c_493
                    have z_6 : ¬ (r_642 : Int32).toInt = (0 : Int32).toInt := fun z => c_647 (Int32.toInt_inj.mp z)
                    have y_0 : (0 : Int32).toInt = 0 := by decide
                    have y_12 : (12 : Int32).toInt = 12 := by decide
                    have y_1 : (1 : Int32).toInt = 1 := by decide
                    have t_x_696 : x_696.toInt = (vy_19 : Int32).toInt + (1 : Int32).toInt := by rw [ex_696]; exact add_toInt (by omega) (by omega)
                    omega
                  have hw_699 : TWd (cB (Tf 1) (Tv 0)) pz_buy (rNX (cB (Tf 1) (Tv 0)) rq_35) := by
                    rw [← ero_478, ← wS1]
                    exact pf_491
                  have hr_700 : (vy_19 : Int32).toInt.toNat = 12 := by
                    have z_1 := Int32.le_iff_toInt_le.mp (Int32.not_lt.mp c_40)
                    have z_2 : ¬ (vy_19 : Int32).toInt = (0 : Int32).toInt := fun z => c_82 (Int32.toInt_inj.mp z)
                    have z_3 : ¬ (r_428 : Int32).toInt = (0 : Int32).toInt := fun z => c_433 (Int32.toInt_inj.mp z)
                    have z_4 : ¬ (r_485 : Int32).toInt = (0 : Int32).toInt := fun z => c_490 (Int32.toInt_inj.mp z)
                    have z_5 := congrArg Int32.toInt c_493
                    have z_6 : ¬ (r_642 : Int32).toInt = (0 : Int32).toInt := fun z => c_647 (Int32.toInt_inj.mp z)
                    have y_0 : (0 : Int32).toInt = 0 := by decide
                    have y_12 : (12 : Int32).toInt = 12 := by decide
                    omega
                  have hE_701 : pz_b (rNX (cB (Tf 1) (Tv 0)) rq_35) (pz_cla (cB (Tf 1) (Tv 0)) (vy_19 : Int32).toInt.toNat) = ro_688 := by
                    rw [ero_688, ero_671, ero_632, ero_615, ero_604, ero_478]
                    exact ((cla_12 hw_699 hr_700).trans (by cases rq_35 <;> rfl))
                  have hu_702 : TpR (Tf 1) (Tv 0) (pz_b (rNX (cB (Tf 1) (Tv 0)) rq_35) (pz_cla (cB (Tf 1) (Tv 0)) (vy_19 : Int32).toInt.toNat)) sv_680 sv_681 sv_682 sv_683 := by rw [hE_701]; exact pf_686
                  have hu_703 : Ctd (pz_b (rNX (cB (Tf 1) (Tv 0)) rq_35) (pz_cla (cB (Tf 1) (Tv 0)) (vy_19 : Int32).toInt.toNat)) sv_678 := by rw [hE_701]; exact pf_687
                  have hi_704 : (x_696 : Int32).toInt = (vy_19 : Int32).toInt + 1 := by
                    have z_1 := Int32.le_iff_toInt_le.mp (Int32.not_lt.mp c_40)
                    have z_2 : ¬ (vy_19 : Int32).toInt = (0 : Int32).toInt := fun z => c_82 (Int32.toInt_inj.mp z)
                    have z_3 : ¬ (r_428 : Int32).toInt = (0 : Int32).toInt := fun z => c_433 (Int32.toInt_inj.mp z)
                    have z_4 : ¬ (r_485 : Int32).toInt = (0 : Int32).toInt := fun z => c_490 (Int32.toInt_inj.mp z)
                    have z_5 := congrArg Int32.toInt c_493
                    have z_6 : ¬ (r_642 : Int32).toInt = (0 : Int32).toInt := fun z => c_647 (Int32.toInt_inj.mp z)
                    have y_0 : (0 : Int32).toInt = 0 := by decide
                    have y_12 : (12 : Int32).toInt = 12 := by decide
                    have y_1 : (1 : Int32).toInt = 1 := by decide
                    have t_x_696 : x_696.toInt = (vy_19 : Int32).toInt + (1 : Int32).toInt := by rw [ex_696]; exact add_toInt (by omega) (by omega)
                    omega
                  have hr_705 : 1 ≤ (vy_19 : Int32).toInt ∧ (vy_19 : Int32).toInt ≤ 12 := by
                    have z_1 := Int32.le_iff_toInt_le.mp (Int32.not_lt.mp c_40)
                    have z_2 : ¬ (vy_19 : Int32).toInt = (0 : Int32).toInt := fun z => c_82 (Int32.toInt_inj.mp z)
                    have z_3 : ¬ (r_428 : Int32).toInt = (0 : Int32).toInt := fun z => c_433 (Int32.toInt_inj.mp z)
                    have z_4 : ¬ (r_485 : Int32).toInt = (0 : Int32).toInt := fun z => c_490 (Int32.toInt_inj.mp z)
                    have z_5 := congrArg Int32.toInt c_493
                    have z_6 : ¬ (r_642 : Int32).toInt = (0 : Int32).toInt := fun z => c_647 (Int32.toInt_inj.mp z)
                    have y_0 : (0 : Int32).toInt = 0 := by decide
                    have y_12 : (12 : Int32).toInt = 12 := by decide
                    omega
                  exact ih_28 x_696 sv_693 sv_678 sv_694 sv_680 sv_681 sv_682 sv_683 _ _ _ (by omega) ha_698 pf_684 pf_695 (RcL.nextS h_tape.2.1 hr_705 pf_475 pf_38 hu_702 hu_703 hi_704) (hP.sub [2, 3, 0, 1] rfl) (hD.sub [2, 3, 0, 1] rfl rfl) hS (lv_sub hl [0, 1, 2] rfl)
            · skip
              have hz_707 : (r_485 : Int32).toInt = 0 := by
                have z_1 := Int32.le_iff_toInt_le.mp (Int32.not_lt.mp c_40)
                have z_2 : ¬ (vy_19 : Int32).toInt = (0 : Int32).toInt := fun z => c_82 (Int32.toInt_inj.mp z)
                have z_3 : ¬ (r_428 : Int32).toInt = (0 : Int32).toInt := fun z => c_433 (Int32.toInt_inj.mp z)
                have z_4 := congrArg Int32.toInt c_490
                have y_0 : (0 : Int32).toInt = 0 := by decide
                have y_12 : (12 : Int32).toInt = 12 := by decide
                omega
              obtain pf_706 := hm_489 hz_707
              have pf_706 : NWd (cB (Tf 1) (Tv 0)) (wS (1 : Nat)) ro_478 := pf_706
              refine lv_aload_n hx hb dX7_read_44 rfl (lv_at hl 2 rfl) ?_
              refine lv_iconst (v := 0) hx hb dX7_read_45 (by decide) ?_
              have ha_708 : 0 ≤ (0 : Int32).toInt ∧ (0 : Int32).toInt ≤ 4 := by
                have z_1 := Int32.le_iff_toInt_le.mp (Int32.not_lt.mp c_40)
                have z_2 : ¬ (vy_19 : Int32).toInt = (0 : Int32).toInt := fun z => c_82 (Int32.toInt_inj.mp z)
                have z_3 : ¬ (r_428 : Int32).toInt = (0 : Int32).toInt := fun z => c_433 (Int32.toInt_inj.mp z)
                have z_4 := congrArg Int32.toInt c_490
                have y_0 : (0 : Int32).toInt = 0 := by decide
                have y_12 : (12 : Int32).toInt = 12 := by decide
                omega
              have ha_709 : (0 : Int32).toInt = (0 : Int) := by
                have z_1 := Int32.le_iff_toInt_le.mp (Int32.not_lt.mp c_40)
                have z_2 : ¬ (vy_19 : Int32).toInt = (0 : Int32).toInt := fun z => c_82 (Int32.toInt_inj.mp z)
                have z_3 : ¬ (r_428 : Int32).toInt = (0 : Int32).toInt := fun z => c_433 (Int32.toInt_inj.mp z)
                have z_4 := congrArg Int32.toInt c_490
                have y_0 : (0 : Int32).toInt = 0 := by decide
                have y_12 : (12 : Int32).toInt = 12 := by decide
                omega
              refine cV (a := (Ta 0)) (As := [.int 0]) (rest := []) (wr := [((Va 0), .inr (7, [.ref (Va 1), .int vy_20, .int vy_21])), ((Va 1), .inl (tc 0, 400, .inl vy_22))]) ⟨hx, hb, hml, hown, hts⟩ hK hX hA (cu_fX10_fail l D tc sk (Ta 0) (Ta 1) (Tv 0) sv_424 sv_425 sv_426 vy_26 (Tf 1) 0 ro_478 0 pf_427 pf_476 ha_708 ha_709) k_557 k_619 k_555 k_556 k_96 pl_X10_fail ⟨Nat.le_of_ble_eq_true rfl, Nat.le_of_ble_eq_true rfl⟩ rfl rfl (va_recv hK hP (ci := 10) (q0 := 2) rfl rfl) hP hD hS [2, 3] [0, 1] rfl rfl rfl rfl rfl (by decide) rfl hl.1 rfl (Nat.le_of_ble_eq_true rfl) dX7_read_46 ⟨Nat.le_of_ble_eq_true rfl, Nat.le_of_ble_eq_true rfl⟩ (fun v_710 u_711 H locs hv_712 hP₀ hD₀ hS₀ => ?_)
              obtain ⟨sv_713, sv_714⟩ := u_711
              obtain ⟨rfl, pf_715, pf_716⟩ := hv_712
              have pf_715 : 0 ≤ ((Tv 0) : Int32).toInt ∧ ((Tv 0) : Int32).toInt ≤ 400 ∧ 0 ≤ (sv_424 : Int32).toInt ∧ (sv_424 : Int32).toInt ≤ 400 ∧ 0 ≤ (sv_425 : Int32).toInt ∧ (sv_425 : Int32).toInt ≤ 400 := pf_715
              have pf_716 : TpR (Tf 1) (Tv 0) (rER (0 : Int) ro_478) sv_424 sv_425 sv_713 sv_714 := pf_716
              obtain ⟨ro_717, ero_717⟩ : ∃ z : Except Int (Nat × Nat), z = (rER 0 ro_478) := ⟨_, rfl⟩
              rw [← ero_717] at pf_716
              have tb_718 : TpB (rTE (cB (Tf 1) (Tv 0)) ro_717) sv_425 sv_714 := TpR.tb pf_716
              have cd_719 : Ctd ro_717 vy_21 := by rw [ero_717]; exact (Ctd.er)
              refine W.eq (g2 := F0 m 49 ls []) rfl ?_
              replace hP : va_P D classes [((Va 0), .inr (7, [.ref (Va 1), .int vy_20, .int vy_21])), ((Va 1), .inl (tc 0, 400, .inl vy_22)), ((Ta 0), .inr (10, [.ref (Ta 1), .int (Tv 0), .int sv_424, .int sv_425, .int sv_713, .int sv_714])), ((Ta 1), .inl (tc 0, 400, .inl (Tf 1)))] H := hP₀
              replace hD : va_D A [((Va 0), .inr (7, [.ref (Va 1), .int vy_20, .int vy_21])), ((Va 1), .inl (tc 0, 400, .inl vy_22)), ((Ta 0), .inr (10, [.ref (Ta 1), .int (Tv 0), .int sv_424, .int sv_425, .int sv_713, .int sv_714])), ((Ta 1), .inl (tc 0, 400, .inl (Tf 1)))] := hD₀
              replace hS := hS₀
              clear hP₀ hD₀ hS₀
              refine lv_goto (tgt := 63) hx hb dX7_read_49 (by decide) ?_
              refine lv_aload_n hx hb dX7_read_63 rfl (lv_at hl 2 rfl) ?_
              refine cV (a := (Ta 0)) (As := []) (rest := []) (wr := [((Va 0), .inr (7, [.ref (Va 1), .int vy_20, .int vy_21])), ((Va 1), .inl (tc 0, 400, .inl vy_22))]) ⟨hx, hb, hml, hown, hts⟩ hK hX hA (cu_fX10_step l D tc sk (Ta 0) (Ta 1) (Tv 0) sv_424 sv_425 sv_713 sv_714 (Tf 1) (rTE (cB (Tf 1) (Tv 0)) ro_717) pf_715 h_by tb_718) k_478 k_620 k_476 k_477 k_96 pl_X10_step ⟨Nat.le_of_ble_eq_true rfl, Nat.le_of_ble_eq_true rfl⟩ rfl rfl (va_recv hK hP (ci := 10) (q0 := 2) rfl rfl) hP hD hS [2, 3] [0, 1] rfl rfl rfl rfl rfl (by decide) rfl hl.1 rfl (Nat.le_of_ble_eq_true rfl) dX7_read_64 ⟨Nat.le_of_ble_eq_true rfl, Nat.le_of_ble_eq_true rfl⟩ (fun v_720 u_721 H locs hv_722 hP₀ hD₀ hS₀ => ?_)
              obtain ⟨sv_723, sv_724, sv_725⟩ := u_721
              obtain ⟨rfl, pf_726, pf_727⟩ := hv_722
              have pf_726 : 0 ≤ ((Tv 0) : Int32).toInt ∧ ((Tv 0) : Int32).toInt ≤ 400 ∧ 0 ≤ (sv_723 : Int32).toInt ∧ (sv_723 : Int32).toInt ≤ 400 ∧ 0 ≤ (sv_724 : Int32).toInt ∧ (sv_724 : Int32).toInt ≤ 400 := pf_726
              have pf_727 : TpR (Tf 1) (Tv 0) (rSK (cB (Tf 1) (Tv 0)) (rTE (cB (Tf 1) (Tv 0)) ro_717)) sv_723 sv_724 sv_725 sv_714 := pf_727
              rw [rNX_eq] at pf_727
              obtain ⟨ro_728, ero_728⟩ : ∃ z : Except Int (Nat × Nat), z = (rNX (cB (Tf 1) (Tv 0)) ro_717) := ⟨_, rfl⟩
              rw [← ero_728] at pf_727
              have tb_729 : TpB (rTE (cB (Tf 1) (Tv 0)) ro_728) sv_724 sv_714 := TpR.tb pf_727
              have cd_730 : Ctd ro_728 vy_21 := by rw [ero_728]; exact (Ctd.nx cd_719)
              refine W.eq (g2 := F0 m 67 ls []) rfl ?_
              replace hP : va_P D classes [((Va 0), .inr (7, [.ref (Va 1), .int vy_20, .int vy_21])), ((Va 1), .inl (tc 0, 400, .inl vy_22)), ((Ta 0), .inr (10, [.ref (Ta 1), .int (Tv 0), .int sv_723, .int sv_724, .int sv_725, .int sv_714])), ((Ta 1), .inl (tc 0, 400, .inl (Tf 1)))] H := hP₀
              replace hD : va_D A [((Va 0), .inr (7, [.ref (Va 1), .int vy_20, .int vy_21])), ((Va 1), .inl (tc 0, 400, .inl vy_22)), ((Ta 0), .inr (10, [.ref (Ta 1), .int (Tv 0), .int sv_723, .int sv_724, .int sv_725, .int sv_714])), ((Ta 1), .inl (tc 0, 400, .inl (Tf 1)))] := hD₀
              replace hS := hS₀
              clear hP₀ hD₀ hS₀
              refine lv_aload_n hx hb dX7_read_67 rfl (lv_at hl 1 rfl) ?_
              refine lv_aload_n hx hb dX7_read_68 rfl (lv_at hl 2 rfl) ?_
              refine cV (a := (Va 0)) (As := [.ref (Ta 0)]) (rest := []) (wr := []) ⟨hx, hb, hml, hown, hts⟩ hK hX hA (cu_fX7_readSum l D tc sk (Va 0) (Va 1) vy_20 vy_21 vy_22 (Ta 0) (Ta 1) (Tv 0) sv_723 sv_724 sv_725 sv_714 (Tf 1) ro_728 pf_726 pf_32 h_by pf_727 cd_730) k_624 k_621 k_623 k_7 k_99 pl_X7_readSum ⟨Nat.le_of_ble_eq_true rfl, Nat.le_of_ble_eq_true rfl⟩ rfl rfl (va_recv hK hP (ci := 7) (q0 := 0) rfl rfl) hP hD hS [0, 1, 2, 3] [] rfl rfl rfl rfl rfl (by decide) rfl hl.1 rfl (Nat.le_of_ble_eq_true rfl) dX7_read_69 ⟨Nat.le_of_ble_eq_true rfl, Nat.le_of_ble_eq_true rfl⟩ (fun v_731 u_732 H locs hv_733 hP₀ hD₀ hS₀ => ?_)
              obtain ⟨sv_734, sv_735, sv_736, sv_737, sv_738, sv_739, sv_740⟩ := u_732
              obtain ⟨rfl, pf_741, pf_742, pf_743, pf_744⟩ := hv_733
              have pf_741 : 0 ≤ ((Tv 0) : Int32).toInt ∧ ((Tv 0) : Int32).toInt ≤ 400 ∧ 0 ≤ (sv_737 : Int32).toInt ∧ (sv_737 : Int32).toInt ≤ 400 ∧ 0 ≤ (sv_738 : Int32).toInt ∧ (sv_738 : Int32).toInt ≤ 400 := pf_741
              have pf_742 : 0 ≤ (sv_734 : Int32).toInt ∧ (sv_734 : Int32).toInt ≤ 400 := pf_742
              have pf_743 : TpR (Tf 1) (Tv 0) (pz_b ro_728 (pz_sum (cB (Tf 1) (Tv 0)))) sv_737 sv_738 sv_739 sv_740 := pf_743
              obtain ⟨ro_745, ero_745⟩ : ∃ z : Except Int (Nat × Nat), z = (pz_b ro_728 (pz_sum (cB (Tf 1) (Tv 0)))) := ⟨_, rfl⟩
              rw [← ero_745] at pf_743
              have tb_746 : TpB (rTE (cB (Tf 1) (Tv 0)) ro_745) sv_738 sv_740 := TpR.tb pf_743
              have pf_744 : Ctd (pz_b ro_728 (pz_sum (cB (Tf 1) (Tv 0)))) sv_735 := pf_744
              rw [← ero_745] at pf_744
              refine W.eq (g2 := F0 m 72 ls []) rfl ?_
              replace hP : va_P D classes [((Va 0), .inr (7, [.ref (Va 1), .int sv_734, .int sv_735])), ((Va 1), .inl (tc 0, 400, .inl sv_736)), ((Ta 0), .inr (10, [.ref (Ta 1), .int (Tv 0), .int sv_737, .int sv_738, .int sv_739, .int sv_740])), ((Ta 1), .inl (tc 0, 400, .inl (Tf 1)))] H := hP₀
              replace hD : va_D A [((Va 0), .inr (7, [.ref (Va 1), .int sv_734, .int sv_735])), ((Va 1), .inl (tc 0, 400, .inl sv_736)), ((Ta 0), .inr (10, [.ref (Ta 1), .int (Tv 0), .int sv_737, .int sv_738, .int sv_739, .int sv_740])), ((Ta 1), .inl (tc 0, 400, .inl (Tf 1)))] := hD₀
              replace hS := hS₀
              clear hP₀ hD₀ hS₀
              refine lv_aload_n hx hb dX7_read_72 rfl (lv_at hl 2 rfl) ?_
              refine va_ldcS hx hb hown (sx_3 hX) dX7_read_73 ?_
              have ha_747 : (3 : Nat) < 7 := by
                have z_1 := Int32.le_iff_toInt_le.mp (Int32.not_lt.mp c_40)
                have z_2 : ¬ (vy_19 : Int32).toInt = (0 : Int32).toInt := fun z => c_82 (Int32.toInt_inj.mp z)
                have z_3 : ¬ (r_428 : Int32).toInt = (0 : Int32).toInt := fun z => c_433 (Int32.toInt_inj.mp z)
                have z_4 := congrArg Int32.toInt c_490
                have y_0 : (0 : Int32).toInt = 0 := by decide
                have y_12 : (12 : Int32).toInt = 12 := by decide
                have y_3 : (3 : Int32).toInt = 3 := by decide
                omega
              refine cV (a := (Ta 0)) (As := [.ref (sk.1 3)]) (rest := []) (wr := [((Va 0), .inr (7, [.ref (Va 1), .int sv_734, .int sv_735])), ((Va 1), .inl (tc 0, 400, .inl sv_736))]) ⟨hx, hb, hml, hown, hts⟩ hK hX hA (cu_fX10_takesWord l D tc sk (Ta 0) (Ta 1) (Tv 0) sv_737 sv_738 sv_739 sv_740 (Tf 1) 3 ro_745 ha_747 pf_741 h_by pf_743) k_650 k_647 k_648 k_649 k_96 pl_X10_takesWord ⟨Nat.le_of_ble_eq_true rfl, Nat.le_of_ble_eq_true rfl⟩ rfl rfl (va_recv hK hP (ci := 10) (q0 := 2) rfl rfl) hP hD hS [2, 3] [0, 1] rfl rfl rfl rfl rfl (by decide) rfl hl.1 rfl (Nat.le_of_ble_eq_true rfl) dX7_read_75 ⟨Nat.le_of_ble_eq_true rfl, Nat.le_of_ble_eq_true rfl⟩ (fun v_748 u_749 H locs hv_750 hP₀ hD₀ hS₀ => ?_)
              obtain ⟨sv_751, sv_752, sv_753⟩ := u_749
              obtain ⟨r_755, rfl, he_756, pf_754, hm_758, hm_759⟩ := hv_750
              have he_756 : (r_755.toInt = 0 ∨ r_755.toInt = 1) := he_756
              have pf_754 : 0 ≤ ((Tv 0) : Int32).toInt ∧ ((Tv 0) : Int32).toInt ≤ 400 ∧ 0 ≤ (sv_751 : Int32).toInt ∧ (sv_751 : Int32).toInt ≤ 400 ∧ 0 ≤ (sv_752 : Int32).toInt ∧ (sv_752 : Int32).toInt ≤ 400 := pf_754
              refine W.eq (g2 := F0 m 78 ls [.int r_755]) rfl ?_
              replace hP : va_P D classes [((Va 0), .inr (7, [.ref (Va 1), .int sv_734, .int sv_735])), ((Va 1), .inl (tc 0, 400, .inl sv_736)), ((Ta 0), .inr (10, [.ref (Ta 1), .int (Tv 0), .int sv_751, .int sv_752, .int sv_753, .int sv_740])), ((Ta 1), .inl (tc 0, 400, .inl (Tf 1)))] H := hP₀
              replace hD : va_D A [((Va 0), .inr (7, [.ref (Va 1), .int sv_734, .int sv_735])), ((Va 1), .inl (tc 0, 400, .inl sv_736)), ((Ta 0), .inr (10, [.ref (Ta 1), .int (Tv 0), .int sv_751, .int sv_752, .int sv_753, .int sv_740])), ((Ta 1), .inl (tc 0, 400, .inl (Tf 1)))] := hD₀
              replace hS := hS₀
              clear hP₀ hD₀ hS₀
              refine lv_if_eq (tgt := 96) hx hb dX7_read_78 (by decide) (fun c_760 => ?_) (fun c_760 => ?_)
              · skip
                have hz_763 : (r_755 : Int32).toInt = 0 := by
                  have z_1 := Int32.le_iff_toInt_le.mp (Int32.not_lt.mp c_40)
                  have z_2 : ¬ (vy_19 : Int32).toInt = (0 : Int32).toInt := fun z => c_82 (Int32.toInt_inj.mp z)
                  have z_3 : ¬ (r_428 : Int32).toInt = (0 : Int32).toInt := fun z => c_433 (Int32.toInt_inj.mp z)
                  have z_4 := congrArg Int32.toInt c_490
                  have z_5 := congrArg Int32.toInt c_760
                  have y_0 : (0 : Int32).toInt = 0 := by decide
                  have y_12 : (12 : Int32).toInt = 12 := by decide
                  omega
                obtain ⟨pf_761, pf_762⟩ := hm_759 hz_763
                have pf_761 : NWd (cB (Tf 1) (Tv 0)) (wS (3 : Nat)) ro_745 := pf_761
                have pf_762 : TpR (Tf 1) (Tv 0) ro_745 sv_751 sv_752 sv_753 sv_740 := pf_762
                have tb_764 : TpB (rTE (cB (Tf 1) (Tv 0)) ro_745) sv_752 sv_740 := TpR.tb pf_762
                refine lv_aload_n hx hb dX7_read_96 rfl (lv_at hl 1 rfl) ?_
                refine lv_bipush (v := (-2)) hx hb dX7_read_97 (by decide) ?_
                refine cV (a := (Va 0)) (As := [.int (-2)]) (rest := []) (wr := [((Ta 0), .inr (10, [.ref (Ta 1), .int (Tv 0), .int sv_751, .int sv_752, .int sv_753, .int sv_740])), ((Ta 1), .inl (tc 0, 400, .inl (Tf 1)))]) ⟨hx, hb, hml, hown, hts⟩ hK hX hA (cu_fX7_put l D tc sk (Va 0) (Va 1) sv_734 sv_735 sv_736 (-2) pf_742) k_642 k_639 k_641 k_10 k_99 pl_X7_put ⟨Nat.le_of_ble_eq_true rfl, Nat.le_of_ble_eq_true rfl⟩ rfl rfl (va_recv hK hP (ci := 7) (q0 := 0) rfl rfl) hP hD hS [0, 1] [2, 3] rfl rfl rfl rfl rfl (by decide) rfl hl.1 rfl (Nat.le_of_ble_eq_true rfl) dX7_read_99 ⟨Nat.le_of_ble_eq_true rfl, Nat.le_of_ble_eq_true rfl⟩ (fun v_765 u_766 H locs hv_767 hP₀ hD₀ hS₀ => ?_)
                obtain ⟨sv_768, sv_769⟩ := u_766
                obtain ⟨rfl, pf_770⟩ := hv_767
                have pf_770 : 0 ≤ (sv_768 : Int32).toInt ∧ (sv_768 : Int32).toInt ≤ 400 := pf_770
                refine W.eq (g2 := F0 m 102 ls []) rfl ?_
                replace hP : va_P D classes [((Ta 0), .inr (10, [.ref (Ta 1), .int (Tv 0), .int sv_751, .int sv_752, .int sv_753, .int sv_740])), ((Ta 1), .inl (tc 0, 400, .inl (Tf 1))), ((Va 0), .inr (7, [.ref (Va 1), .int sv_768, .int sv_735])), ((Va 1), .inl (tc 0, 400, .inl sv_769))] H := hP₀
                replace hD : va_D A [((Ta 0), .inr (10, [.ref (Ta 1), .int (Tv 0), .int sv_751, .int sv_752, .int sv_753, .int sv_740])), ((Ta 1), .inl (tc 0, 400, .inl (Tf 1))), ((Va 0), .inr (7, [.ref (Va 1), .int sv_768, .int sv_735])), ((Va 1), .inl (tc 0, 400, .inl sv_769))] := hD₀
                replace hS := hS₀
                clear hP₀ hD₀ hS₀
                obtain ⟨x_771, ex_771⟩ : ∃ y : Int32, y = vy_19 + 1 := ⟨_, rfl⟩
                refine lv_iinc (v := x_771) (lv' := [(2, .int x_771), (0, .ref (Va 0)), (1, .ref (Ta 0))]) hx hb dX7_read_102 hl (k := 0) rfl (by rw [ex_771]; rfl) (by decide) rfl (fun ls hl₀ => ?_)
                replace hl := hl₀
                clear hl₀
                refine lv_goto (tgt := 16) hx hb dX7_read_105 (by decide) ?_
                have hb_772 : 14 - (x_771 : Int32).toInt < 14 - (vy_19 : Int32).toInt ∧ 1 ≤ 14 - (vy_19 : Int32).toInt := by
                  have z_1 := Int32.le_iff_toInt_le.mp (Int32.not_lt.mp c_40)
                  have z_2 : ¬ (vy_19 : Int32).toInt = (0 : Int32).toInt := fun z => c_82 (Int32.toInt_inj.mp z)
                  have z_3 : ¬ (r_428 : Int32).toInt = (0 : Int32).toInt := fun z => c_433 (Int32.toInt_inj.mp z)
                  have z_4 := congrArg Int32.toInt c_490
                  have z_5 := congrArg Int32.toInt c_760
                  have y_0 : (0 : Int32).toInt = 0 := by decide
                  have y_12 : (12 : Int32).toInt = 12 := by decide
                  have y_1 : (1 : Int32).toInt = 1 := by decide
                  have t_x_771 : x_771.toInt = (vy_19 : Int32).toInt + (1 : Int32).toInt := by rw [ex_771]; exact add_toInt (by omega) (by omega)
                  omega
                have ha_773 : 0 ≤ (x_771 : Int32).toInt ∧ (x_771 : Int32).toInt ≤ 13 := by
                  have z_1 := Int32.le_iff_toInt_le.mp (Int32.not_lt.mp c_40)
                  have z_2 : ¬ (vy_19 : Int32).toInt = (0 : Int32).toInt := fun z => c_82 (Int32.toInt_inj.mp z)
                  have z_3 : ¬ (r_428 : Int32).toInt = (0 : Int32).toInt := fun z => c_433 (Int32.toInt_inj.mp z)
                  have z_4 := congrArg Int32.toInt c_490
                  have z_5 := congrArg Int32.toInt c_760
                  have y_0 : (0 : Int32).toInt = 0 := by decide
                  have y_12 : (12 : Int32).toInt = 12 := by decide
                  have y_1 : (1 : Int32).toInt = 1 := by decide
                  have t_x_771 : x_771.toInt = (vy_19 : Int32).toInt + (1 : Int32).toInt := by rw [ex_771]; exact add_toInt (by omega) (by omega)
                  omega
                have hw_774 : NWd (cB (Tf 1) (Tv 0)) pz_buy (rNX (cB (Tf 1) (Tv 0)) rq_35) := by
                  rw [← ero_478, ← wS1]
                  exact pf_706
                have hE_775 : pz_b (rNX (cB (Tf 1) (Tv 0)) rq_35) (pz_cla (cB (Tf 1) (Tv 0)) (vy_19 : Int32).toInt.toNat) = ro_745 := by
                  rw [ero_745, ero_728, ero_717, ero_478]
                  exact ((cla_no hw_774).trans (by cases rq_35 <;> rfl))
                have hu_776 : TpR (Tf 1) (Tv 0) (pz_b (rNX (cB (Tf 1) (Tv 0)) rq_35) (pz_cla (cB (Tf 1) (Tv 0)) (vy_19 : Int32).toInt.toNat)) sv_751 sv_752 sv_753 sv_740 := by rw [hE_775]; exact pf_762
                have hu_777 : Ctd (pz_b (rNX (cB (Tf 1) (Tv 0)) rq_35) (pz_cla (cB (Tf 1) (Tv 0)) (vy_19 : Int32).toInt.toNat)) sv_735 := by rw [hE_775]; exact pf_744
                have hi_778 : (x_771 : Int32).toInt = (vy_19 : Int32).toInt + 1 := by
                  have z_1 := Int32.le_iff_toInt_le.mp (Int32.not_lt.mp c_40)
                  have z_2 : ¬ (vy_19 : Int32).toInt = (0 : Int32).toInt := fun z => c_82 (Int32.toInt_inj.mp z)
                  have z_3 : ¬ (r_428 : Int32).toInt = (0 : Int32).toInt := fun z => c_433 (Int32.toInt_inj.mp z)
                  have z_4 := congrArg Int32.toInt c_490
                  have z_5 := congrArg Int32.toInt c_760
                  have y_0 : (0 : Int32).toInt = 0 := by decide
                  have y_12 : (12 : Int32).toInt = 12 := by decide
                  have y_1 : (1 : Int32).toInt = 1 := by decide
                  have t_x_771 : x_771.toInt = (vy_19 : Int32).toInt + (1 : Int32).toInt := by rw [ex_771]; exact add_toInt (by omega) (by omega)
                  omega
                have hr_779 : 1 ≤ (vy_19 : Int32).toInt ∧ (vy_19 : Int32).toInt ≤ 12 := by
                  have z_1 := Int32.le_iff_toInt_le.mp (Int32.not_lt.mp c_40)
                  have z_2 : ¬ (vy_19 : Int32).toInt = (0 : Int32).toInt := fun z => c_82 (Int32.toInt_inj.mp z)
                  have z_3 : ¬ (r_428 : Int32).toInt = (0 : Int32).toInt := fun z => c_433 (Int32.toInt_inj.mp z)
                  have z_4 := congrArg Int32.toInt c_490
                  have z_5 := congrArg Int32.toInt c_760
                  have y_0 : (0 : Int32).toInt = 0 := by decide
                  have y_12 : (12 : Int32).toInt = 12 := by decide
                  omega
                exact ih_28 x_771 sv_768 sv_735 sv_769 sv_751 sv_752 sv_753 sv_740 _ _ _ (by omega) ha_773 pf_754 pf_770 (RcL.nextS h_tape.2.1 hr_779 pf_475 pf_38 hu_776 hu_777 hi_778) (hP.sub [2, 3, 0, 1] rfl) (hD.sub [2, 3, 0, 1] rfl rfl) hS (lv_sub hl [0, 1, 2] rfl)
              · skip
                have hz_782 : (r_755 : Int32).toInt = 1 := by
                  have z_1 := Int32.le_iff_toInt_le.mp (Int32.not_lt.mp c_40)
                  have z_2 : ¬ (vy_19 : Int32).toInt = (0 : Int32).toInt := fun z => c_82 (Int32.toInt_inj.mp z)
                  have z_3 : ¬ (r_428 : Int32).toInt = (0 : Int32).toInt := fun z => c_433 (Int32.toInt_inj.mp z)
                  have z_4 := congrArg Int32.toInt c_490
                  have z_5 : ¬ (r_755 : Int32).toInt = (0 : Int32).toInt := fun z => c_760 (Int32.toInt_inj.mp z)
                  have y_0 : (0 : Int32).toInt = 0 := by decide
                  have y_12 : (12 : Int32).toInt = 12 := by decide
                  omega
                obtain ⟨pf_780, pf_781⟩ := hm_758 hz_782
                have pf_780 : TWd (cB (Tf 1) (Tv 0)) (wS (3 : Nat)) ro_745 := pf_780
                have pf_781 : TpR (Tf 1) (Tv 0) (rNX (cB (Tf 1) (Tv 0)) ro_745) sv_751 sv_752 sv_753 sv_740 := pf_781
                obtain ⟨ro_783, ero_783⟩ : ∃ z : Except Int (Nat × Nat), z = (rNX (cB (Tf 1) (Tv 0)) ro_745) := ⟨_, rfl⟩
                rw [← ero_783] at pf_781
                have tb_784 : TpB (rTE (cB (Tf 1) (Tv 0)) ro_783) sv_752 sv_740 := TpR.tb pf_781
                have cd_785 : Ctd ro_783 sv_735 := by rw [ero_783]; exact (Ctd.nx pf_744)
                refine lv_aload_n hx hb dX7_read_81 rfl (lv_at hl 1 rfl) ?_
                refine lv_aload_n hx hb dX7_read_82 rfl (lv_at hl 2 rfl) ?_
                refine lv_iconst (v := 0) hx hb dX7_read_83 (by decide) ?_
                refine cV (a := (Va 0)) (As := [.ref (Ta 0), .int 0]) (rest := []) (wr := []) ⟨hx, hb, hml, hown, hts⟩ hK hX hA (cu_fX7_readTest_0 l D tc sk (Va 0) (Va 1) sv_734 sv_735 sv_736 (Ta 0) (Ta 1) (Tv 0) sv_751 sv_752 sv_753 sv_740 (Tf 1) ro_783 pf_754 pf_742 h_by pf_781 cd_785) k_655 k_652 k_654 k_11 k_99 pl_X7_readTest ⟨Nat.le_of_ble_eq_true rfl, Nat.le_of_ble_eq_true rfl⟩ rfl rfl (va_recv hK hP (ci := 7) (q0 := 0) rfl rfl) hP hD hS [0, 1, 2, 3] [] rfl rfl rfl rfl rfl (by decide) rfl hl.1 rfl (Nat.le_of_ble_eq_true rfl) dX7_read_84 ⟨Nat.le_of_ble_eq_true rfl, Nat.le_of_ble_eq_true rfl⟩ (fun v_786 u_787 H locs hv_788 hP₀ hD₀ hS₀ => ?_)
                obtain ⟨sv_789, sv_790, sv_791, sv_792, sv_793, sv_794, sv_795⟩ := u_787
                obtain ⟨rfl, pf_796, pf_797, pf_798, pf_799⟩ := hv_788
                have pf_796 : 0 ≤ ((Tv 0) : Int32).toInt ∧ ((Tv 0) : Int32).toInt ≤ 400 ∧ 0 ≤ (sv_792 : Int32).toInt ∧ (sv_792 : Int32).toInt ≤ 400 ∧ 0 ≤ (sv_793 : Int32).toInt ∧ (sv_793 : Int32).toInt ≤ 400 := pf_796
                have pf_797 : 0 ≤ (sv_789 : Int32).toInt ∧ (sv_789 : Int32).toInt ≤ 400 := pf_797
                have pf_798 : TpR (Tf 1) (Tv 0) (pz_b ro_783 (pz_tst (cB (Tf 1) (Tv 0)) (pz_fact (cB (Tf 1) (Tv 0)) 10))) sv_792 sv_793 sv_794 sv_795 := pf_798
                obtain ⟨ro_800, ero_800⟩ : ∃ z : Except Int (Nat × Nat), z = (pz_b ro_783 (pz_tst (cB (Tf 1) (Tv 0)) (pz_fact (cB (Tf 1) (Tv 0)) 10))) := ⟨_, rfl⟩
                rw [← ero_800] at pf_798
                have tb_801 : TpB (rTE (cB (Tf 1) (Tv 0)) ro_800) sv_793 sv_795 := TpR.tb pf_798
                have pf_799 : Ctd (pz_b ro_783 (pz_tst (cB (Tf 1) (Tv 0)) (pz_fact (cB (Tf 1) (Tv 0)) 10))) sv_790 := pf_799
                rw [← ero_800] at pf_799
                refine W.eq (g2 := F0 m 87 ls []) rfl ?_
                replace hP : va_P D classes [((Va 0), .inr (7, [.ref (Va 1), .int sv_789, .int sv_790])), ((Va 1), .inl (tc 0, 400, .inl sv_791)), ((Ta 0), .inr (10, [.ref (Ta 1), .int (Tv 0), .int sv_792, .int sv_793, .int sv_794, .int sv_795])), ((Ta 1), .inl (tc 0, 400, .inl (Tf 1)))] H := hP₀
                replace hD : va_D A [((Va 0), .inr (7, [.ref (Va 1), .int sv_789, .int sv_790])), ((Va 1), .inl (tc 0, 400, .inl sv_791)), ((Ta 0), .inr (10, [.ref (Ta 1), .int (Tv 0), .int sv_792, .int sv_793, .int sv_794, .int sv_795])), ((Ta 1), .inl (tc 0, 400, .inl (Tf 1)))] := hD₀
                replace hS := hS₀
                clear hP₀ hD₀ hS₀
                refine lv_aload_n hx hb dX7_read_87 rfl (lv_at hl 1 rfl) ?_
                refine lv_bipush (v := (-3)) hx hb dX7_read_88 (by decide) ?_
                refine cV (a := (Va 0)) (As := [.int (-3)]) (rest := []) (wr := [((Ta 0), .inr (10, [.ref (Ta 1), .int (Tv 0), .int sv_792, .int sv_793, .int sv_794, .int sv_795])), ((Ta 1), .inl (tc 0, 400, .inl (Tf 1)))]) ⟨hx, hb, hml, hown, hts⟩ hK hX hA (cu_fX7_put l D tc sk (Va 0) (Va 1) sv_789 sv_790 sv_791 (-3) pf_797) k_642 k_639 k_641 k_10 k_99 pl_X7_put ⟨Nat.le_of_ble_eq_true rfl, Nat.le_of_ble_eq_true rfl⟩ rfl rfl (va_recv hK hP (ci := 7) (q0 := 0) rfl rfl) hP hD hS [0, 1] [2, 3] rfl rfl rfl rfl rfl (by decide) rfl hl.1 rfl (Nat.le_of_ble_eq_true rfl) dX7_read_90 ⟨Nat.le_of_ble_eq_true rfl, Nat.le_of_ble_eq_true rfl⟩ (fun v_802 u_803 H locs hv_804 hP₀ hD₀ hS₀ => ?_)
                obtain ⟨sv_805, sv_806⟩ := u_803
                obtain ⟨rfl, pf_807⟩ := hv_804
                have pf_807 : 0 ≤ (sv_805 : Int32).toInt ∧ (sv_805 : Int32).toInt ≤ 400 := pf_807
                refine W.eq (g2 := F0 m 93 ls []) rfl ?_
                replace hP : va_P D classes [((Ta 0), .inr (10, [.ref (Ta 1), .int (Tv 0), .int sv_792, .int sv_793, .int sv_794, .int sv_795])), ((Ta 1), .inl (tc 0, 400, .inl (Tf 1))), ((Va 0), .inr (7, [.ref (Va 1), .int sv_805, .int sv_790])), ((Va 1), .inl (tc 0, 400, .inl sv_806))] H := hP₀
                replace hD : va_D A [((Ta 0), .inr (10, [.ref (Ta 1), .int (Tv 0), .int sv_792, .int sv_793, .int sv_794, .int sv_795])), ((Ta 1), .inl (tc 0, 400, .inl (Tf 1))), ((Va 0), .inr (7, [.ref (Va 1), .int sv_805, .int sv_790])), ((Va 1), .inl (tc 0, 400, .inl sv_806))] := hD₀
                replace hS := hS₀
                clear hP₀ hD₀ hS₀
                refine lv_goto (tgt := 102) hx hb dX7_read_93 (by decide) ?_
                obtain ⟨x_808, ex_808⟩ : ∃ y : Int32, y = vy_19 + 1 := ⟨_, rfl⟩
                refine lv_iinc (v := x_808) (lv' := [(2, .int x_808), (0, .ref (Va 0)), (1, .ref (Ta 0))]) hx hb dX7_read_102 hl (k := 0) rfl (by rw [ex_808]; rfl) (by decide) rfl (fun ls hl₀ => ?_)
                replace hl := hl₀
                clear hl₀
                refine lv_goto (tgt := 16) hx hb dX7_read_105 (by decide) ?_
                have hb_809 : 14 - (x_808 : Int32).toInt < 14 - (vy_19 : Int32).toInt ∧ 1 ≤ 14 - (vy_19 : Int32).toInt := by
                  have z_1 := Int32.le_iff_toInt_le.mp (Int32.not_lt.mp c_40)
                  have z_2 : ¬ (vy_19 : Int32).toInt = (0 : Int32).toInt := fun z => c_82 (Int32.toInt_inj.mp z)
                  have z_3 : ¬ (r_428 : Int32).toInt = (0 : Int32).toInt := fun z => c_433 (Int32.toInt_inj.mp z)
                  have z_4 := congrArg Int32.toInt c_490
                  have z_5 : ¬ (r_755 : Int32).toInt = (0 : Int32).toInt := fun z => c_760 (Int32.toInt_inj.mp z)
                  have y_0 : (0 : Int32).toInt = 0 := by decide
                  have y_12 : (12 : Int32).toInt = 12 := by decide
                  have y_1 : (1 : Int32).toInt = 1 := by decide
                  have t_x_808 : x_808.toInt = (vy_19 : Int32).toInt + (1 : Int32).toInt := by rw [ex_808]; exact add_toInt (by omega) (by omega)
                  omega
                have ha_810 : 0 ≤ (x_808 : Int32).toInt ∧ (x_808 : Int32).toInt ≤ 13 := by
                  have z_1 := Int32.le_iff_toInt_le.mp (Int32.not_lt.mp c_40)
                  have z_2 : ¬ (vy_19 : Int32).toInt = (0 : Int32).toInt := fun z => c_82 (Int32.toInt_inj.mp z)
                  have z_3 : ¬ (r_428 : Int32).toInt = (0 : Int32).toInt := fun z => c_433 (Int32.toInt_inj.mp z)
                  have z_4 := congrArg Int32.toInt c_490
                  have z_5 : ¬ (r_755 : Int32).toInt = (0 : Int32).toInt := fun z => c_760 (Int32.toInt_inj.mp z)
                  have y_0 : (0 : Int32).toInt = 0 := by decide
                  have y_12 : (12 : Int32).toInt = 12 := by decide
                  have y_1 : (1 : Int32).toInt = 1 := by decide
                  have t_x_808 : x_808.toInt = (vy_19 : Int32).toInt + (1 : Int32).toInt := by rw [ex_808]; exact add_toInt (by omega) (by omega)
                  omega
                have hw_811 : NWd (cB (Tf 1) (Tv 0)) pz_buy (rNX (cB (Tf 1) (Tv 0)) rq_35) := by
                  rw [← ero_478, ← wS1]
                  exact pf_706
                have hE_812 : pz_b (rNX (cB (Tf 1) (Tv 0)) rq_35) (pz_cla (cB (Tf 1) (Tv 0)) (vy_19 : Int32).toInt.toNat) = ro_800 := by
                  rw [ero_800, ero_783, ero_745, ero_728, ero_717, ero_478]
                  exact ((cla_no hw_811).trans (by cases rq_35 <;> rfl))
                have hu_813 : TpR (Tf 1) (Tv 0) (pz_b (rNX (cB (Tf 1) (Tv 0)) rq_35) (pz_cla (cB (Tf 1) (Tv 0)) (vy_19 : Int32).toInt.toNat)) sv_792 sv_793 sv_794 sv_795 := by rw [hE_812]; exact pf_798
                have hu_814 : Ctd (pz_b (rNX (cB (Tf 1) (Tv 0)) rq_35) (pz_cla (cB (Tf 1) (Tv 0)) (vy_19 : Int32).toInt.toNat)) sv_790 := by rw [hE_812]; exact pf_799
                have hi_815 : (x_808 : Int32).toInt = (vy_19 : Int32).toInt + 1 := by
                  have z_1 := Int32.le_iff_toInt_le.mp (Int32.not_lt.mp c_40)
                  have z_2 : ¬ (vy_19 : Int32).toInt = (0 : Int32).toInt := fun z => c_82 (Int32.toInt_inj.mp z)
                  have z_3 : ¬ (r_428 : Int32).toInt = (0 : Int32).toInt := fun z => c_433 (Int32.toInt_inj.mp z)
                  have z_4 := congrArg Int32.toInt c_490
                  have z_5 : ¬ (r_755 : Int32).toInt = (0 : Int32).toInt := fun z => c_760 (Int32.toInt_inj.mp z)
                  have y_0 : (0 : Int32).toInt = 0 := by decide
                  have y_12 : (12 : Int32).toInt = 12 := by decide
                  have y_1 : (1 : Int32).toInt = 1 := by decide
                  have t_x_808 : x_808.toInt = (vy_19 : Int32).toInt + (1 : Int32).toInt := by rw [ex_808]; exact add_toInt (by omega) (by omega)
                  omega
                have hr_816 : 1 ≤ (vy_19 : Int32).toInt ∧ (vy_19 : Int32).toInt ≤ 12 := by
                  have z_1 := Int32.le_iff_toInt_le.mp (Int32.not_lt.mp c_40)
                  have z_2 : ¬ (vy_19 : Int32).toInt = (0 : Int32).toInt := fun z => c_82 (Int32.toInt_inj.mp z)
                  have z_3 : ¬ (r_428 : Int32).toInt = (0 : Int32).toInt := fun z => c_433 (Int32.toInt_inj.mp z)
                  have z_4 := congrArg Int32.toInt c_490
                  have z_5 : ¬ (r_755 : Int32).toInt = (0 : Int32).toInt := fun z => c_760 (Int32.toInt_inj.mp z)
                  have y_0 : (0 : Int32).toInt = 0 := by decide
                  have y_12 : (12 : Int32).toInt = 12 := by decide
                  omega
                exact ih_28 x_808 sv_805 sv_790 sv_806 sv_792 sv_793 sv_794 sv_795 _ _ _ (by omega) ha_810 pf_796 pf_807 (RcL.nextS h_tape.2.1 hr_816 pf_475 pf_38 hu_813 hu_814 hi_815) (hP.sub [2, 3, 0, 1] rfl) (hD.sub [2, 3, 0, 1] rfl rfl) hS (lv_sub hl [0, 1, 2] rfl)
  have ha_817 : 0 ≤ (0 : Int32).toInt ∧ (0 : Int32).toInt ≤ 13 := by
    have y_0 : (0 : Int32).toInt = 0 := by decide
    omega
  have ha_818 : 0 ≤ (0 : Int32).toInt ∧ (0 : Int32).toInt ≤ 400 := by
    have y_0 : (0 : Int32).toInt = 0 := by decide
    omega
  have hu_819 : TpR (Tf 1) (Tv 0) (rSK (cB (Tf 1) (Tv 0)) (.ok (0, 0))) sv_4 sv_5 sv_6 0 := by
    rw [← ero_9]
    exact pf_8
  exact loop_29 _ 0 0 0 (Vf 1) sv_4 sv_5 sv_6 0 _ _ _ (Nat.lt_succ_self _) ha_817 pf_7 ha_818 (RcL.start hu_819) hP hD hS hl
set_option maxRecDepth 100000 in
theorem cu_fX7_read (l : Launch) (D : va_G) (tc : Nat → ClassId) (sk : (Nat → Nat) × (Nat → Nat)) (Va_0 : Nat) (Va_1 : Nat) (Vv_0 : Int32) (Vv_1 : Int32) (Vf_1 : Nat → Int32) (Ta_0 : Nat) (Ta_1 : Nat) (Tv_0 : Int32) (Tv_1 : Int32) (Tv_2 : Int32) (Tv_3 : Int32) (Tv_4 : Int32) (Tf_1 : Nat → Int32) (h_tape : 0 ≤ (Tv_0 : Int32).toInt ∧ (Tv_0 : Int32).toInt ≤ 400 ∧ 0 ≤ (Tv_1 : Int32).toInt ∧ (Tv_1 : Int32).toInt ≤ 400 ∧ 0 ≤ (Tv_2 : Int32).toInt ∧ (Tv_2 : Int32).toInt ≤ 400) (h_by : Byt Tf_1) : Ct l yX7_read cX7_read 3 (some (.object "PoisonBook$Rule")) { frames := 30, cells := 3, slots := 466, locals := 719 } D tc sk [.ref Va_0, .ref Ta_0] [(Va_0, .inr (7, [.ref Va_1, .int Vv_0, .int Vv_1])), (Va_1, .inl (tc 0, 400, .inl Vf_1)), (Ta_0, .inr (10, [.ref Ta_1, .int Tv_0, .int Tv_1, .int Tv_2, .int Tv_3, .int Tv_4])), (Ta_1, .inl (tc 0, 400, .inl Tf_1))] (fun (v : Option Value) (u : (Bool) × (Nat) × (Nat) × (Nat) × (Int32) × (Int32) × (Nat → Int32) × (Int32) × (Int32) × (Int32) × (Int32) × (Nat → Int32) × (Nat) × (Int32) × (Int32) × (Nat → Int32) × (Int32) × (Int32) × (Int32) × (Int32)) => match u with | (true, na0x0, na0x1, na0x2, oo0x1, oo0x2, oo0x3, oo0x4, oo0x5, oo0x6, oo0x7, oo0x8, nn0x5, oo1x1, oo1x2, oo1x3, oo1x4, oo1x5, oo1x6, oo1x7) => v = some (.ref na0x0) ∧ (0 ≤ (Tv_0 : Int32).toInt ∧ (Tv_0 : Int32).toInt ≤ 400 ∧ 0 ≤ (oo0x4 : Int32).toInt ∧ (oo0x4 : Int32).toInt ≤ 400 ∧ 0 ≤ (oo0x5 : Int32).toInt ∧ (oo0x5 : Int32).toInt ≤ 400) ∧ (0 ≤ (oo0x1 : Int32).toInt ∧ (oo0x1 : Int32).toInt ≤ 400) ∧ (RuK (cB Tf_1 Tv_0)) ∧ (nn0x5 ≤ 400) | (false, na0x0, na0x1, na0x2, oo0x1, oo0x2, oo0x3, oo0x4, oo0x5, oo0x6, oo0x7, oo0x8, nn0x5, oo1x1, oo1x2, oo1x3, oo1x4, oo1x5, oo1x6, oo1x7) => v = some (.null) ∧ (0 ≤ (Tv_0 : Int32).toInt ∧ (Tv_0 : Int32).toInt ≤ 400 ∧ 0 ≤ (oo1x4 : Int32).toInt ∧ (oo1x4 : Int32).toInt ≤ 400 ∧ 0 ≤ (oo1x5 : Int32).toInt ∧ (oo1x5 : Int32).toInt ≤ 400) ∧ (0 ≤ (oo1x1 : Int32).toInt ∧ (oo1x1 : Int32).toInt ≤ 400) ∧ (RuF (cB Tf_1 Tv_0) oo1x7)) (fun (u : (Bool) × (Nat) × (Nat) × (Nat) × (Int32) × (Int32) × (Nat → Int32) × (Int32) × (Int32) × (Int32) × (Int32) × (Nat → Int32) × (Nat) × (Int32) × (Int32) × (Nat → Int32) × (Int32) × (Int32) × (Int32) × (Int32)) => match u with | (true, na0x0, na0x1, na0x2, oo0x1, oo0x2, oo0x3, oo0x4, oo0x5, oo0x6, oo0x7, oo0x8, nn0x5, oo1x1, oo1x2, oo1x3, oo1x4, oo1x5, oo1x6, oo1x7) => [(Va_0, .inr (7, [.ref Va_1, .int oo0x1, .int oo0x2])), (Va_1, .inl (tc 0, 400, .inl oo0x3)), (Ta_0, .inr (10, [.ref Ta_1, .int Tv_0, .int oo0x4, .int oo0x5, .int oo0x6, .int oo0x7])), (Ta_1, .inl (tc 0, 400, .inl Tf_1)), (na0x0, .inr (6, [.ref na0x1, .ref na0x2])), (na0x1, .inl (tc 0, nn0x5, .inl oo0x8)), (na0x2, .inl (tc 1, 64, .inr (.inl (fun _ => 0))))] | (false, na0x0, na0x1, na0x2, oo0x1, oo0x2, oo0x3, oo0x4, oo0x5, oo0x6, oo0x7, oo0x8, nn0x5, oo1x1, oo1x2, oo1x3, oo1x4, oo1x5, oo1x6, oo1x7) => [(Va_0, .inr (7, [.ref Va_1, .int oo1x1, .int oo1x2])), (Va_1, .inl (tc 0, 400, .inl oo1x3)), (Ta_0, .inr (10, [.ref Ta_1, .int Tv_0, .int oo1x4, .int oo1x5, .int oo1x6, .int oo1x7])), (Ta_1, .inl (tc 0, 400, .inl Tf_1))]) 3 466 :=
  ct_fX7_read l D tc sk (fun k => ([Va_0, Va_1] : List (Nat)).getD k 0) (fun k => ([Vv_0, Vv_1] : List (Int32)).getD k 0) (fun k => ([(fun _ => 0), Vf_1] : List (Nat → Int32)).getD k (fun _ => 0)) (fun k => ([Ta_0, Ta_1] : List (Nat)).getD k 0) (fun k => ([Tv_0, Tv_1, Tv_2, Tv_3, Tv_4] : List (Int32)).getD k 0) (fun k => ([(fun _ => 0), Tf_1] : List (Nat → Int32)).getD k (fun _ => 0)) h_tape h_by
