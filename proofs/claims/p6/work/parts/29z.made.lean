set_option maxHeartbeats 4000000 in
set_option maxRecDepth 100000 in
theorem ct_X7_read_b (l : Launch) (D : va_G) (tc : Nat → ClassId) (sk : (Nat → Nat) × (Nat → Nat)) (Va : Nat → Nat) (Vv : Nat → Int32) (Vf : Nat → Nat → Int32) (Ta : Nat → Nat) (Tv : Nat → Int32) (Tf : Nat → Nat → Int32) (h_tape : 0 ≤ ((Tv 0) : Int32).toInt ∧ ((Tv 0) : Int32).toInt ≤ 400 ∧ 0 ≤ ((Tv 1) : Int32).toInt ∧ ((Tv 1) : Int32).toInt ≤ 400 ∧ 0 ≤ ((Tv 2) : Int32).toInt ∧ ((Tv 2) : Int32).toInt ≤ 400) : Ct l yX7_read cX7_read 3 (some (.object "PoisonBook$Rule")) { frames := 30, cells := 3, slots := 466, locals := 719 } D tc sk [.ref (Va 0), .ref (Ta 0)] [((Va 0), .inr (7, [.ref (Va 1), .int (Vv 0), .int (Vv 1)])), ((Va 1), .inl (tc 0, 400, .inl (Vf 1))), ((Ta 0), .inr (10, [.ref (Ta 1), .int (Tv 0), .int (Tv 1), .int (Tv 2), .int (Tv 3), .int (Tv 4)])), ((Ta 1), .inl (tc 0, 400, .inl (Tf 1)))] (fun (v : Option Value) (u : (Bool) × (Nat) × (Nat) × (Nat) × (Int32) × (Int32) × (Nat → Int32) × (Int32) × (Int32) × (Int32) × (Int32) × (Nat → Int32) × (Nat) × (Int32) × (Int32) × (Nat → Int32) × (Int32) × (Int32) × (Int32) × (Int32)) => match u with | (true, na0x0, na0x1, na0x2, oo0x1, oo0x2, oo0x3, oo0x4, oo0x5, oo0x6, oo0x7, oo0x8, nn0x5, oo1x1, oo1x2, oo1x3, oo1x4, oo1x5, oo1x6, oo1x7) => v = some (.ref na0x0) ∧ (0 ≤ ((Tv 0) : Int32).toInt ∧ ((Tv 0) : Int32).toInt ≤ 400 ∧ 0 ≤ (oo0x4 : Int32).toInt ∧ (oo0x4 : Int32).toInt ≤ 400 ∧ 0 ≤ (oo0x5 : Int32).toInt ∧ (oo0x5 : Int32).toInt ≤ 400) ∧ (nn0x5 ≤ 400) | (false, na0x0, na0x1, na0x2, oo0x1, oo0x2, oo0x3, oo0x4, oo0x5, oo0x6, oo0x7, oo0x8, nn0x5, oo1x1, oo1x2, oo1x3, oo1x4, oo1x5, oo1x6, oo1x7) => v = some (.null) ∧ (0 ≤ ((Tv 0) : Int32).toInt ∧ ((Tv 0) : Int32).toInt ≤ 400 ∧ 0 ≤ (oo1x4 : Int32).toInt ∧ (oo1x4 : Int32).toInt ≤ 400 ∧ 0 ≤ (oo1x5 : Int32).toInt ∧ (oo1x5 : Int32).toInt ≤ 400)) (fun (u : (Bool) × (Nat) × (Nat) × (Nat) × (Int32) × (Int32) × (Nat → Int32) × (Int32) × (Int32) × (Int32) × (Int32) × (Nat → Int32) × (Nat) × (Int32) × (Int32) × (Nat → Int32) × (Int32) × (Int32) × (Int32) × (Int32)) => match u with | (true, na0x0, na0x1, na0x2, oo0x1, oo0x2, oo0x3, oo0x4, oo0x5, oo0x6, oo0x7, oo0x8, nn0x5, oo1x1, oo1x2, oo1x3, oo1x4, oo1x5, oo1x6, oo1x7) => [((Va 0), .inr (7, [.ref (Va 1), .int oo0x1, .int oo0x2])), ((Va 1), .inl (tc 0, 400, .inl oo0x3)), ((Ta 0), .inr (10, [.ref (Ta 1), .int (Tv 0), .int oo0x4, .int oo0x5, .int oo0x6, .int oo0x7])), ((Ta 1), .inl (tc 0, 400, .inl (Tf 1))), (na0x0, .inr (6, [.ref na0x1, .ref na0x2])), (na0x1, .inl (tc 0, nn0x5, .inl oo0x8)), (na0x2, .inl (tc 1, 64, .inr (.inl (fun _ => 0))))] | (false, na0x0, na0x1, na0x2, oo0x1, oo0x2, oo0x3, oo0x4, oo0x5, oo0x6, oo0x7, oo0x8, nn0x5, oo1x1, oo1x2, oo1x3, oo1x4, oo1x5, oo1x6, oo1x7) => [((Va 0), .inr (7, [.ref (Va 1), .int oo1x1, .int oo1x2])), ((Va 1), .inl (tc 0, 400, .inl oo1x3)), ((Ta 0), .inr (10, [.ref (Ta 1), .int (Tv 0), .int oo1x4, .int oo1x5, .int oo1x6, .int oo1x7])), ((Ta 1), .inl (tc 0, 400, .inl (Tf 1)))]) 3 466 := by
  refine Ct.start (by decide) (Nat.le_of_ble_eq_true rfl) (fun p e s m below meth c A ls hx hb hr hlk hin hml hown hts hK hX hP hD hA hl hS => ?_)
  have hl : lv_has ls 3 [(0, .ref (Va 0)), (1, .ref (Ta 0))] := hl
  refine lv_aload_n hx hb dX7_read_0 rfl (lv_at hl 0 rfl) ?_
  refine lv_iconst (v := 0) hx hb dX7_read_1 (by decide) ?_
  refine pf_X7_15 hx hb hts hown hK hP hD hS 0 rfl (Nat.le_of_ble_eq_true rfl) rfl rfl dX7_read_2 (fun H locs hP₀ hD₀ hS₀ => ?_)
  replace hP : va_P D classes [((Va 0), .inr (7, [.ref (Va 1), .int 0, .int (Vv 1)])), ((Va 1), .inl (tc 0, 400, .inl (Vf 1))), ((Ta 0), .inr (10, [.ref (Ta 1), .int (Tv 0), .int (Tv 1), .int (Tv 2), .int (Tv 3), .int (Tv 4)])), ((Ta 1), .inl (tc 0, 400, .inl (Tf 1)))] H := hP₀
  replace hD : va_D A [((Va 0), .inr (7, [.ref (Va 1), .int 0, .int (Vv 1)])), ((Va 1), .inl (tc 0, 400, .inl (Vf 1))), ((Ta 0), .inr (10, [.ref (Ta 1), .int (Tv 0), .int (Tv 1), .int (Tv 2), .int (Tv 3), .int (Tv 4)])), ((Ta 1), .inl (tc 0, 400, .inl (Tf 1)))] := hD₀
  replace hS := hS₀
  clear hP₀ hD₀ hS₀
  refine lv_aload_n hx hb dX7_read_5 rfl (lv_at hl 0 rfl) ?_
  refine lv_iconst (v := 0) hx hb dX7_read_6 (by decide) ?_
  refine pf_X7_19 hx hb hts hown hK hP hD hS 0 rfl (Nat.le_of_ble_eq_true rfl) rfl rfl dX7_read_7 (fun H locs hP₀ hD₀ hS₀ => ?_)
  replace hP : va_P D classes [((Va 0), .inr (7, [.ref (Va 1), .int 0, .int 0])), ((Va 1), .inl (tc 0, 400, .inl (Vf 1))), ((Ta 0), .inr (10, [.ref (Ta 1), .int (Tv 0), .int (Tv 1), .int (Tv 2), .int (Tv 3), .int (Tv 4)])), ((Ta 1), .inl (tc 0, 400, .inl (Tf 1)))] H := hP₀
  replace hD : va_D A [((Va 0), .inr (7, [.ref (Va 1), .int 0, .int 0])), ((Va 1), .inl (tc 0, 400, .inl (Vf 1))), ((Ta 0), .inr (10, [.ref (Ta 1), .int (Tv 0), .int (Tv 1), .int (Tv 2), .int (Tv 3), .int (Tv 4)])), ((Ta 1), .inl (tc 0, 400, .inl (Tf 1)))] := hD₀
  replace hS := hS₀
  clear hP₀ hD₀ hS₀
  refine lv_aload_n hx hb dX7_read_10 rfl (lv_at hl 1 rfl) ?_
  refine cV (a := (Ta 0)) (As := []) (rest := []) (wr := [((Va 0), .inr (7, [.ref (Va 1), .int 0, .int 0])), ((Va 1), .inl (tc 0, 400, .inl (Vf 1)))]) ⟨hx, hb, hml, hown, hts⟩ hK hX hA (cu_X10_begin l D tc sk (Ta 0) (Ta 1) (Tv 0) (Tv 1) (Tv 2) (Tv 3) (Tv 4) (Tf 1) h_tape) k_474 k_612 k_472 k_473 k_96 pl_X10_begin ⟨Nat.le_of_ble_eq_true rfl, Nat.le_of_ble_eq_true rfl⟩ rfl rfl (va_recv hK hP (ci := 10) (q0 := 2) rfl rfl) hP hD hS [2, 3] [0, 1] rfl rfl rfl rfl rfl (by decide) rfl hl.1 rfl (Nat.le_of_ble_eq_true rfl) dX7_read_11 ⟨Nat.le_of_ble_eq_true rfl, Nat.le_of_ble_eq_true rfl⟩ (fun v_1 u_2 H locs hv_3 hP₀ hD₀ hS₀ => ?_)
  obtain ⟨sv_4, sv_5, sv_6⟩ := u_2
  obtain ⟨rfl, he_7⟩ := hv_3
  have he_7 : (0 ≤ ((Tv 0) : Int32).toInt ∧ ((Tv 0) : Int32).toInt ≤ 400 ∧ 0 ≤ (sv_4 : Int32).toInt ∧ (sv_4 : Int32).toInt ≤ 400 ∧ 0 ≤ (sv_5 : Int32).toInt ∧ (sv_5 : Int32).toInt ≤ 400) := he_7
  refine W.eq (g2 := F0 m 14 ls []) rfl ?_
  replace hP : va_P D classes [((Va 0), .inr (7, [.ref (Va 1), .int 0, .int 0])), ((Va 1), .inl (tc 0, 400, .inl (Vf 1))), ((Ta 0), .inr (10, [.ref (Ta 1), .int (Tv 0), .int sv_4, .int sv_5, .int sv_6, .int 0])), ((Ta 1), .inl (tc 0, 400, .inl (Tf 1)))] H := hP₀
  replace hD : va_D A [((Va 0), .inr (7, [.ref (Va 1), .int 0, .int 0])), ((Va 1), .inl (tc 0, 400, .inl (Vf 1))), ((Ta 0), .inr (10, [.ref (Ta 1), .int (Tv 0), .int sv_4, .int sv_5, .int sv_6, .int 0])), ((Ta 1), .inl (tc 0, 400, .inl (Tf 1)))] := hD₀
  replace hS := hS₀
  clear hP₀ hD₀ hS₀
  refine lv_iconst (v := 0) hx hb dX7_read_14 (by decide) ?_
  refine lv_istore_n (lv' := [(2, .int 0), (0, .ref (Va 0)), (1, .ref (Ta 0))]) hx hb dX7_read_15 rfl hl (by decide) rfl (fun ls hl₀ => ?_)
  replace hl := hl₀
  clear hl₀
  have loop_26 : ∀ (n_24 : Nat) (vy_16 : Int32) (vy_17 : Int32) (vy_18 : Int32) (vy_19 : Nat → Int32) (vy_20 : Int32) (vy_21 : Int32) (vy_22 : Int32) (vy_23 : Int32) (H : Heap) (locs : List Loc) (ls : Array Slot), (13 - (vy_16 : Int32).toInt).toNat < n_24 → (0 ≤ (vy_16 : Int32).toInt) → (0 ≤ ((Tv 0) : Int32).toInt ∧ ((Tv 0) : Int32).toInt ≤ 400 ∧ 0 ≤ (vy_20 : Int32).toInt ∧ (vy_20 : Int32).toInt ≤ 400 ∧ 0 ≤ (vy_21 : Int32).toInt ∧ (vy_21 : Int32).toInt ≤ 400) → va_P D classes [((Va 0), .inr (7, [.ref (Va 1), .int vy_17, .int vy_18])), ((Va 1), .inl (tc 0, 400, .inl vy_19)), ((Ta 0), .inr (10, [.ref (Ta 1), .int (Tv 0), .int vy_20, .int vy_21, .int vy_22, .int vy_23])), ((Ta 1), .inl (tc 0, 400, .inl (Tf 1)))] H → va_D A [((Va 0), .inr (7, [.ref (Va 1), .int vy_17, .int vy_18])), ((Va 1), .inl (tc 0, 400, .inl vy_19)), ((Ta 0), .inr (10, [.ref (Ta 1), .int (Tv 0), .int vy_20, .int vy_21, .int vy_22, .int vy_23])), ((Ta 1), .inl (tc 0, 400, .inl (Tf 1)))] → va_S A s.heap H locs → lv_has ls 3 [(2, .int vy_16), (0, .ref (Va 0)), (1, .ref (Ta 0))] → W p l e ({ frames := 30, cells := 3, slots := 466, locals := 719 }) s m ([.ref (Va 0), .ref (Ta 0)].toArray) below meth c H locs 0 0 (MQ below (QW (fun (v : Option Value) (u : (Bool) × (Nat) × (Nat) × (Nat) × (Int32) × (Int32) × (Nat → Int32) × (Int32) × (Int32) × (Int32) × (Int32) × (Nat → Int32) × (Nat) × (Int32) × (Int32) × (Nat → Int32) × (Int32) × (Int32) × (Int32) × (Int32)) => match u with | (true, na0x0, na0x1, na0x2, oo0x1, oo0x2, oo0x3, oo0x4, oo0x5, oo0x6, oo0x7, oo0x8, nn0x5, oo1x1, oo1x2, oo1x3, oo1x4, oo1x5, oo1x6, oo1x7) => v = some (.ref na0x0) ∧ (0 ≤ ((Tv 0) : Int32).toInt ∧ ((Tv 0) : Int32).toInt ≤ 400 ∧ 0 ≤ (oo0x4 : Int32).toInt ∧ (oo0x4 : Int32).toInt ≤ 400 ∧ 0 ≤ (oo0x5 : Int32).toInt ∧ (oo0x5 : Int32).toInt ≤ 400) ∧ (nn0x5 ≤ 400) | (false, na0x0, na0x1, na0x2, oo0x1, oo0x2, oo0x3, oo0x4, oo0x5, oo0x6, oo0x7, oo0x8, nn0x5, oo1x1, oo1x2, oo1x3, oo1x4, oo1x5, oo1x6, oo1x7) => v = some (.null) ∧ (0 ≤ ((Tv 0) : Int32).toInt ∧ ((Tv 0) : Int32).toInt ≤ 400 ∧ 0 ≤ (oo1x4 : Int32).toInt ∧ (oo1x4 : Int32).toInt ≤ 400 ∧ 0 ≤ (oo1x5 : Int32).toInt ∧ (oo1x5 : Int32).toInt ≤ 400)) (BW D (fun (u : (Bool) × (Nat) × (Nat) × (Nat) × (Int32) × (Int32) × (Nat → Int32) × (Int32) × (Int32) × (Int32) × (Int32) × (Nat → Int32) × (Nat) × (Int32) × (Int32) × (Nat → Int32) × (Int32) × (Int32) × (Int32) × (Int32)) => match u with | (true, na0x0, na0x1, na0x2, oo0x1, oo0x2, oo0x3, oo0x4, oo0x5, oo0x6, oo0x7, oo0x8, nn0x5, oo1x1, oo1x2, oo1x3, oo1x4, oo1x5, oo1x6, oo1x7) => [((Va 0), .inr (7, [.ref (Va 1), .int oo0x1, .int oo0x2])), ((Va 1), .inl (tc 0, 400, .inl oo0x3)), ((Ta 0), .inr (10, [.ref (Ta 1), .int (Tv 0), .int oo0x4, .int oo0x5, .int oo0x6, .int oo0x7])), ((Ta 1), .inl (tc 0, 400, .inl (Tf 1))), (na0x0, .inr (6, [.ref na0x1, .ref na0x2])), (na0x1, .inl (tc 0, nn0x5, .inl oo0x8)), (na0x2, .inl (tc 1, 64, .inr (.inl (fun _ => 0))))] | (false, na0x0, na0x1, na0x2, oo0x1, oo0x2, oo0x3, oo0x4, oo0x5, oo0x6, oo0x7, oo0x8, nn0x5, oo1x1, oo1x2, oo1x3, oo1x4, oo1x5, oo1x6, oo1x7) => [((Va 0), .inr (7, [.ref (Va 1), .int oo1x1, .int oo1x2])), ((Va 1), .inl (tc 0, 400, .inl oo1x3)), ((Ta 0), .inr (10, [.ref (Ta 1), .int (Tv 0), .int oo1x4, .int oo1x5, .int oo1x6, .int oo1x7])), ((Ta 1), .inl (tc 0, 400, .inl (Tf 1)))]) A) A) ([.ref (Va 0), .ref (Ta 0)].toArray) s 3 466 A) (F0 m 16 ls []) := by
    clear hP hD hS hl
    intro n_24
    induction n_24 with
    | zero =>
      intro vy_16 vy_17 vy_18 vy_19 vy_20 vy_21 vy_22 vy_23 H locs ls h1
      exact absurd h1 (Nat.not_lt_zero _)
    | succ n_24 ih_25 =>
      intro vy_16 vy_17 vy_18 vy_19 vy_20 vy_21 vy_22 vy_23 H locs ls hn_29 pf_27 pf_28 hP hD hS hl
      refine lv_iload_n hx hb dX7_read_16 rfl (lv_at hl 0 rfl) ?_
      refine lv_bipush (v := 12) hx hb dX7_read_17 (by decide) ?_
      refine lv_icmp_gt (tgt := 108) hx hb dX7_read_19 (by decide) (fun c_30 => ?_) (fun c_30 => ?_)
      · skip
        refine lv_aload_n hx hb dX7_read_108 rfl (lv_at hl 2 rfl) ?_
        refine cV (a := (Ta 0)) (As := []) (rest := []) (wr := [((Va 0), .inr (7, [.ref (Va 1), .int vy_17, .int vy_18])), ((Va 1), .inl (tc 0, 400, .inl vy_19))]) ⟨hx, hb, hml, hown, hts⟩ hK hX hA (cu_X10_finish l D tc sk (Ta 0) (Ta 1) (Tv 0) vy_20 vy_21 vy_22 vy_23 (Tf 1) pf_28) k_595 k_666 k_593 k_594 k_96 pl_X10_finish ⟨Nat.le_of_ble_eq_true rfl, Nat.le_of_ble_eq_true rfl⟩ rfl rfl (va_recv hK hP (ci := 10) (q0 := 2) rfl rfl) hP hD hS [2, 3] [0, 1] rfl rfl rfl rfl rfl (by decide) rfl hl.1 rfl (Nat.le_of_ble_eq_true rfl) dX7_read_109 ⟨Nat.le_of_ble_eq_true rfl, Nat.le_of_ble_eq_true rfl⟩ (fun v_31 u_32 H locs hv_33 hP₀ hD₀ hS₀ => ?_)
        obtain ⟨sv_34, sv_35⟩ := u_32
        obtain ⟨rfl, he_36⟩ := hv_33
        have he_36 : (0 ≤ ((Tv 0) : Int32).toInt ∧ ((Tv 0) : Int32).toInt ≤ 400 ∧ 0 ≤ (vy_20 : Int32).toInt ∧ (vy_20 : Int32).toInt ≤ 400 ∧ 0 ≤ (vy_21 : Int32).toInt ∧ (vy_21 : Int32).toInt ≤ 400) := he_36
        refine W.eq (g2 := F0 m 112 ls []) rfl ?_
        replace hP : va_P D classes [((Va 0), .inr (7, [.ref (Va 1), .int vy_17, .int vy_18])), ((Va 1), .inl (tc 0, 400, .inl vy_19)), ((Ta 0), .inr (10, [.ref (Ta 1), .int (Tv 0), .int vy_20, .int vy_21, .int sv_34, .int sv_35])), ((Ta 1), .inl (tc 0, 400, .inl (Tf 1)))] H := hP₀
        replace hD : va_D A [((Va 0), .inr (7, [.ref (Va 1), .int vy_17, .int vy_18])), ((Va 1), .inl (tc 0, 400, .inl vy_19)), ((Ta 0), .inr (10, [.ref (Ta 1), .int (Tv 0), .int vy_20, .int vy_21, .int sv_34, .int sv_35])), ((Ta 1), .inl (tc 0, 400, .inl (Tf 1)))] := hD₀
        replace hS := hS₀
        clear hP₀ hD₀ hS₀
        refine lv_aload_n hx hb dX7_read_112 rfl (lv_at hl 2 rfl) ?_
        refine gf_X7_65 hx hb hts hown hK hP 2 rfl rfl dX7_read_113 ?_
        refine lv_if_ne (tgt := 138) hx hb dX7_read_116 (by decide) (fun c_37 => ?_) (fun c_37 => ?_)
        · skip
          refine lv_null hx hb dX7_read_138 ?_
          exact retA (v := .null) hx hb hr hlk (Or.inl ⟨_, rfl⟩) (Or.inl rfl) hP hD hS (false, 0, 0, 0, 0, 0, (fun _ => 0), 0, 0, 0, 0, (fun _ => 0), 0, vy_17, vy_18, vy_19, vy_20, vy_21, sv_34, sv_35) ⟨rfl, he_36⟩ [0, 1, 2, 3] rfl rfl dX7_read_139 (Nat.le_of_ble_eq_true rfl) (Nat.le_of_ble_eq_true rfl) rfl
        · skip
          refine lv_aload_n hx hb dX7_read_119 rfl (lv_at hl 1 rfl) ?_
          refine gf_X7_15 hx hb hts hown hK hP 0 rfl rfl dX7_read_120 ?_
          refine lv_if_lt (tgt := 138) hx hb dX7_read_123 (by decide) (fun c_38 => ?_) (fun c_38 => ?_)
          · skip
            refine lv_null hx hb dX7_read_138 ?_
            exact retA (v := .null) hx hb hr hlk (Or.inl ⟨_, rfl⟩) (Or.inl rfl) hP hD hS (false, 0, 0, 0, 0, 0, (fun _ => 0), 0, 0, 0, 0, (fun _ => 0), 0, vy_17, vy_18, vy_19, vy_20, vy_21, sv_34, sv_35) ⟨rfl, he_36⟩ [0, 1, 2, 3] rfl rfl dX7_read_139 (Nat.le_of_ble_eq_true rfl) (Nat.le_of_ble_eq_true rfl) rfl
          · skip
            refine lv_aload_n hx hb dX7_read_126 rfl (lv_at hl 1 rfl) ?_
            refine gf_X7_15 hx hb hts hown hK hP 0 rfl rfl dX7_read_127 ?_
            refine lv_aload_n hx hb dX7_read_130 rfl (lv_at hl 1 rfl) ?_
            refine gf_X7_9 hx hb hts hown hK hP 0 rfl rfl dX7_read_131 ?_
            refine va_alen hx hb hK hP 1 0 rfl rfl (v := 400) rfl dX7_read_134 ?_
            refine lv_icmp_le (tgt := 140) hx hb dX7_read_135 (by decide) (fun c_39 => ?_) (fun c_39 => ?_)
            · skip
              refine va_new (ci := 6) (fs := [.null, .null]) (C := RX6) (T := TX6) (N := 2) hx hb hts iX6 tyX6 tyX6_ok hown (hts _ k_667) (hts _ k_668) (hts _ k_112) hK hP hD hS hA rfl dfX6 (Nat.le_of_ble_eq_true rfl) (Nat.le_of_ble_eq_true rfl) dX7_read_140 (fun q_40 H hP₀ hD₀ hS₀ => ?_)
              replace hP : va_P D classes [((Va 0), .inr (7, [.ref (Va 1), .int vy_17, .int vy_18])), ((Va 1), .inl (tc 0, 400, .inl vy_19)), ((Ta 0), .inr (10, [.ref (Ta 1), .int (Tv 0), .int vy_20, .int vy_21, .int sv_34, .int sv_35])), ((Ta 1), .inl (tc 0, 400, .inl (Tf 1))), (q_40, .inr (6, [.null, .null]))] H := hP₀
              replace hD : va_D A [((Va 0), .inr (7, [.ref (Va 1), .int vy_17, .int vy_18])), ((Va 1), .inl (tc 0, 400, .inl vy_19)), ((Ta 0), .inr (10, [.ref (Ta 1), .int (Tv 0), .int vy_20, .int vy_21, .int sv_34, .int sv_35])), ((Ta 1), .inl (tc 0, 400, .inl (Tf 1))), (q_40, .inr (6, [.null, .null]))] := hD₀
              replace hS := hS₀
              clear hP₀ hD₀ hS₀
              refine lv_dup hx hb dX7_read_143 rfl ?_
              refine lv_aload_n hx hb dX7_read_144 rfl (lv_at hl 1 rfl) ?_
              refine gf_X7_9 hx hb hts hown hK hP 0 rfl rfl dX7_read_145 ?_
              refine lv_aload_n hx hb dX7_read_148 rfl (lv_at hl 1 rfl) ?_
              refine gf_X7_15 hx hb hts hown hK hP 0 rfl rfl dX7_read_149 ?_
              have ha_41 : 0 ≤ vy_17.toInt ∧ vy_17.toInt ≤ 400 := by
                have z_1 := Int32.lt_iff_toInt_lt.mp c_30
                have z_2 := congrArg Int32.toInt c_37
                have z_3 := Int32.le_iff_toInt_le.mp (Int32.not_lt.mp c_38)
                have z_4 := Int32.le_iff_toInt_le.mp c_39
                have y_0 : (0 : Int32).toInt = 0 := by decide
                have y_12 : (12 : Int32).toInt = 12 := by decide
                have y_400 : (400 : Int32).toInt = 400 := by decide
                omega
              refine cS (As := [.ref (Va 1), .int vy_17]) (rest := [.ref q_40, .ref q_40]) (wr := [((Va 0), .inr (7, [.ref (Va 1), .int vy_17, .int vy_18])), ((Ta 0), .inr (10, [.ref (Ta 1), .int (Tv 0), .int vy_20, .int vy_21, .int sv_34, .int sv_35])), ((Ta 1), .inl (tc 0, 400, .inl (Tf 1))), (q_40, .inr (6, [.null, .null]))]) ⟨hx, hb, hml, hown, hts⟩ hK hX hA (cu_J7_copyOf l D tc sk (Va 1) vy_19 vy_17 ha_41) k_671 k_669 k_670 k_113 pl_J7_copyOf_59c91 ⟨Nat.le_of_ble_eq_true rfl, Nat.le_of_ble_eq_true rfl⟩ rfl rfl  hP hD hS [1] [0, 2, 3, 4] rfl rfl rfl rfl rfl (by decide) rfl hl.1 rfl (Nat.le_of_ble_eq_true rfl) dX7_read_152 ⟨Nat.le_of_ble_eq_true rfl, Nat.le_of_ble_eq_true rfl⟩ (fun v_42 u_43 H locs hv_44 hP₀ hD₀ hS₀ => ?_)
              obtain ⟨sv_45, sv_46, sv_47⟩ := u_43
              obtain ⟨rfl, pf_48⟩ := hv_44
              have pf_48 : sv_47 ≤ 400 := pf_48
              refine W.eq (g2 := F0 m 155 ls [.ref sv_45, .ref q_40, .ref q_40]) rfl ?_
              replace hP : va_P D classes [((Va 0), .inr (7, [.ref (Va 1), .int vy_17, .int vy_18])), ((Ta 0), .inr (10, [.ref (Ta 1), .int (Tv 0), .int vy_20, .int vy_21, .int sv_34, .int sv_35])), ((Ta 1), .inl (tc 0, 400, .inl (Tf 1))), (q_40, .inr (6, [.null, .null])), ((Va 1), .inl (tc 0, 400, .inl vy_19)), (sv_45, .inl (tc 0, sv_47, .inl sv_46))] H := hP₀
              replace hD : va_D A [((Va 0), .inr (7, [.ref (Va 1), .int vy_17, .int vy_18])), ((Ta 0), .inr (10, [.ref (Ta 1), .int (Tv 0), .int vy_20, .int vy_21, .int sv_34, .int sv_35])), ((Ta 1), .inl (tc 0, 400, .inl (Tf 1))), (q_40, .inr (6, [.null, .null])), ((Va 1), .inl (tc 0, 400, .inl vy_19)), (sv_45, .inl (tc 0, sv_47, .inl sv_46))] := hD₀
              replace hS := hS₀
              clear hP₀ hD₀ hS₀
              refine cI (a := q_40) (As := [.ref sv_45]) (rest := [.ref q_40]) (wr := [((Va 0), .inr (7, [.ref (Va 1), .int vy_17, .int vy_18])), ((Ta 0), .inr (10, [.ref (Ta 1), .int (Tv 0), .int vy_20, .int vy_21, .int sv_34, .int sv_35])), ((Ta 1), .inl (tc 0, 400, .inl (Tf 1))), ((Va 1), .inl (tc 0, 400, .inl vy_19)), (sv_45, .inl (tc 0, sv_47, .inl sv_46))]) ⟨hx, hb, hml, hown, hts⟩ hK hX hA (ct_X6_init l D tc sk q_40 sv_45) k_685 k_683 k_684 k_112 rfl pl_X6_init ⟨Nat.le_of_ble_eq_true rfl, Nat.le_of_ble_eq_true rfl⟩ rfl rfl  hP hD hS [3] [0, 1, 2, 4, 5] rfl rfl rfl rfl rfl (by decide) rfl hl.1 rfl (Nat.le_of_ble_eq_true rfl) dX7_read_155 ⟨Nat.le_of_ble_eq_true rfl, Nat.le_of_ble_eq_true rfl⟩ (fun v_49 u_50 H locs hv_51 hP₀ hD₀ hS₀ => ?_)
              obtain ⟨sv_52, rfl⟩ : ∃ z, z = u_50 := ⟨_, rfl⟩
              obtain rfl : v_49 = none := hv_51
              refine W.eq (g2 := F0 m 158 ls [.ref q_40]) rfl ?_
              replace hP : va_P D classes [((Va 0), .inr (7, [.ref (Va 1), .int vy_17, .int vy_18])), ((Ta 0), .inr (10, [.ref (Ta 1), .int (Tv 0), .int vy_20, .int vy_21, .int sv_34, .int sv_35])), ((Ta 1), .inl (tc 0, 400, .inl (Tf 1))), ((Va 1), .inl (tc 0, 400, .inl vy_19)), (sv_45, .inl (tc 0, sv_47, .inl sv_46)), (q_40, .inr (6, [.ref sv_45, .ref sv_52])), (sv_52, .inl (tc 1, 64, .inr (.inl (fun _ => 0))))] H := hP₀
              replace hD : va_D A [((Va 0), .inr (7, [.ref (Va 1), .int vy_17, .int vy_18])), ((Ta 0), .inr (10, [.ref (Ta 1), .int (Tv 0), .int vy_20, .int vy_21, .int sv_34, .int sv_35])), ((Ta 1), .inl (tc 0, 400, .inl (Tf 1))), ((Va 1), .inl (tc 0, 400, .inl vy_19)), (sv_45, .inl (tc 0, sv_47, .inl sv_46)), (q_40, .inr (6, [.ref sv_45, .ref sv_52])), (sv_52, .inl (tc 1, 64, .inr (.inl (fun _ => 0))))] := hD₀
              replace hS := hS₀
              clear hP₀ hD₀ hS₀
              exact retA (v := .ref q_40) hx hb hr hlk (Or.inl ⟨_, rfl⟩) (Or.inr ⟨_, rfl⟩) hP hD hS (true, q_40, sv_45, sv_52, vy_17, vy_18, vy_19, vy_20, vy_21, sv_34, sv_35, sv_46, sv_47, 0, 0, (fun _ => 0), 0, 0, 0, 0) ⟨rfl, he_36, pf_48⟩ [0, 3, 1, 2, 5, 4, 6] rfl rfl dX7_read_158 (Nat.le_of_ble_eq_true rfl) (Nat.le_of_ble_eq_true rfl) rfl
            · skip
              refine lv_null hx hb dX7_read_138 ?_
              exact retA (v := .null) hx hb hr hlk (Or.inl ⟨_, rfl⟩) (Or.inl rfl) hP hD hS (false, 0, 0, 0, 0, 0, (fun _ => 0), 0, 0, 0, 0, (fun _ => 0), 0, vy_17, vy_18, vy_19, vy_20, vy_21, sv_34, sv_35) ⟨rfl, he_36⟩ [0, 1, 2, 3] rfl rfl dX7_read_139 (Nat.le_of_ble_eq_true rfl) (Nat.le_of_ble_eq_true rfl) rfl
      · skip
        refine lv_iload_n hx hb dX7_read_22 rfl (lv_at hl 0 rfl) ?_
        refine lv_if_eq (tgt := 35) hx hb dX7_read_23 (by decide) (fun c_53 => ?_) (fun c_53 => ?_)
        · skip
          refine lv_aload_n hx hb dX7_read_35 rfl (lv_at hl 2 rfl) ?_
          refine va_ldcS hx hb hown (sx_1 hX) dX7_read_36 ?_
          have ha_54 : (1 : Nat) < 7 := by
            have z_1 := Int32.le_iff_toInt_le.mp (Int32.not_lt.mp c_30)
            have z_2 := congrArg Int32.toInt c_53
            have y_0 : (0 : Int32).toInt = 0 := by decide
            have y_12 : (12 : Int32).toInt = 12 := by decide
            have y_1 : (1 : Int32).toInt = 1 := by decide
            omega
          refine cV (a := (Ta 0)) (As := [.ref (sk.1 1)]) (rest := []) (wr := [((Va 0), .inr (7, [.ref (Va 1), .int vy_17, .int vy_18])), ((Va 1), .inl (tc 0, 400, .inl vy_19))]) ⟨hx, hb, hml, hown, hts⟩ hK hX hA (cu_X10_isWord l D tc sk (Ta 0) (Ta 1) (Tv 0) vy_20 vy_21 vy_22 vy_23 (Tf 1) 1 ha_54 pf_28) k_618 k_615 k_616 k_617 k_96 pl_X10_isWord ⟨Nat.le_of_ble_eq_true rfl, Nat.le_of_ble_eq_true rfl⟩ rfl rfl (va_recv hK hP (ci := 10) (q0 := 2) rfl rfl) hP hD hS [2, 3] [0, 1] rfl rfl rfl rfl rfl (by decide) rfl hl.1 rfl (Nat.le_of_ble_eq_true rfl) dX7_read_38 ⟨Nat.le_of_ble_eq_true rfl, Nat.le_of_ble_eq_true rfl⟩ (fun v_55 u_56 H locs hv_57 hP₀ hD₀ hS₀ => ?_)
          obtain ⟨r_58, rfl, he_59⟩ := hv_57
          have he_59 : ((r_58.toInt = 0 ∨ r_58.toInt = 1)) ∧ (0 ≤ ((Tv 0) : Int32).toInt ∧ ((Tv 0) : Int32).toInt ≤ 400 ∧ 0 ≤ (vy_20 : Int32).toInt ∧ (vy_20 : Int32).toInt ≤ 400 ∧ 0 ≤ (vy_21 : Int32).toInt ∧ (vy_21 : Int32).toInt ≤ 400) := he_59
          refine W.eq (g2 := F0 m 41 ls [.int r_58]) rfl ?_
          replace hP : va_P D classes [((Va 0), .inr (7, [.ref (Va 1), .int vy_17, .int vy_18])), ((Va 1), .inl (tc 0, 400, .inl vy_19)), ((Ta 0), .inr (10, [.ref (Ta 1), .int (Tv 0), .int vy_20, .int vy_21, .int vy_22, .int vy_23])), ((Ta 1), .inl (tc 0, 400, .inl (Tf 1)))] H := hP₀
          replace hD : va_D A [((Va 0), .inr (7, [.ref (Va 1), .int vy_17, .int vy_18])), ((Va 1), .inl (tc 0, 400, .inl vy_19)), ((Ta 0), .inr (10, [.ref (Ta 1), .int (Tv 0), .int vy_20, .int vy_21, .int vy_22, .int vy_23])), ((Ta 1), .inl (tc 0, 400, .inl (Tf 1)))] := hD₀
          replace hS := hS₀
          clear hP₀ hD₀ hS₀
          refine lv_if_ne (tgt := 52) hx hb dX7_read_41 (by decide) (fun c_60 => ?_) (fun c_60 => ?_)
          · skip
            refine lv_iload_n hx hb dX7_read_52 rfl (lv_at hl 0 rfl) ?_
            refine lv_bipush (v := 12) hx hb dX7_read_53 (by decide) ?_
            refine lv_icmp_ne (tgt := 63) hx hb dX7_read_55 (by decide) (fun c_61 => ?_) (fun c_61 => ?_)
            · skip
              refine lv_aload_n hx hb dX7_read_63 rfl (lv_at hl 2 rfl) ?_
              refine cV (a := (Ta 0)) (As := []) (rest := []) (wr := [((Va 0), .inr (7, [.ref (Va 1), .int vy_17, .int vy_18])), ((Va 1), .inl (tc 0, 400, .inl vy_19))]) ⟨hx, hb, hml, hown, hts⟩ hK hX hA (cu_X10_step l D tc sk (Ta 0) (Ta 1) (Tv 0) vy_20 vy_21 vy_22 vy_23 (Tf 1) he_59.2) k_478 k_620 k_476 k_477 k_96 pl_X10_step ⟨Nat.le_of_ble_eq_true rfl, Nat.le_of_ble_eq_true rfl⟩ rfl rfl (va_recv hK hP (ci := 10) (q0 := 2) rfl rfl) hP hD hS [2, 3] [0, 1] rfl rfl rfl rfl rfl (by decide) rfl hl.1 rfl (Nat.le_of_ble_eq_true rfl) dX7_read_64 ⟨Nat.le_of_ble_eq_true rfl, Nat.le_of_ble_eq_true rfl⟩ (fun v_62 u_63 H locs hv_64 hP₀ hD₀ hS₀ => ?_)
              obtain ⟨sv_65, sv_66, sv_67⟩ := u_63
              obtain ⟨rfl, he_68⟩ := hv_64
              have he_68 : (0 ≤ ((Tv 0) : Int32).toInt ∧ ((Tv 0) : Int32).toInt ≤ 400 ∧ 0 ≤ (sv_65 : Int32).toInt ∧ (sv_65 : Int32).toInt ≤ 400 ∧ 0 ≤ (sv_66 : Int32).toInt ∧ (sv_66 : Int32).toInt ≤ 400) := he_68
              refine W.eq (g2 := F0 m 67 ls []) rfl ?_
              replace hP : va_P D classes [((Va 0), .inr (7, [.ref (Va 1), .int vy_17, .int vy_18])), ((Va 1), .inl (tc 0, 400, .inl vy_19)), ((Ta 0), .inr (10, [.ref (Ta 1), .int (Tv 0), .int sv_65, .int sv_66, .int sv_67, .int vy_23])), ((Ta 1), .inl (tc 0, 400, .inl (Tf 1)))] H := hP₀
              replace hD : va_D A [((Va 0), .inr (7, [.ref (Va 1), .int vy_17, .int vy_18])), ((Va 1), .inl (tc 0, 400, .inl vy_19)), ((Ta 0), .inr (10, [.ref (Ta 1), .int (Tv 0), .int sv_65, .int sv_66, .int sv_67, .int vy_23])), ((Ta 1), .inl (tc 0, 400, .inl (Tf 1)))] := hD₀
              replace hS := hS₀
              clear hP₀ hD₀ hS₀
              refine lv_aload_n hx hb dX7_read_67 rfl (lv_at hl 1 rfl) ?_
              refine lv_aload_n hx hb dX7_read_68 rfl (lv_at hl 2 rfl) ?_
              refine cV (a := (Va 0)) (As := [.ref (Ta 0)]) (rest := []) (wr := []) ⟨hx, hb, hml, hown, hts⟩ hK hX hA (cu_X7_readSum l D tc sk (Va 0) (Va 1) vy_17 vy_18 vy_19 (Ta 0) (Ta 1) (Tv 0) sv_65 sv_66 sv_67 vy_23 (Tf 1) he_68) k_624 k_621 k_623 k_7 k_99 pl_X7_readSum ⟨Nat.le_of_ble_eq_true rfl, Nat.le_of_ble_eq_true rfl⟩ rfl rfl (va_recv hK hP (ci := 7) (q0 := 0) rfl rfl) hP hD hS [0, 1, 2, 3] [] rfl rfl rfl rfl rfl (by decide) rfl hl.1 rfl (Nat.le_of_ble_eq_true rfl) dX7_read_69 ⟨Nat.le_of_ble_eq_true rfl, Nat.le_of_ble_eq_true rfl⟩ (fun v_69 u_70 H locs hv_71 hP₀ hD₀ hS₀ => ?_)
              obtain ⟨sv_72, sv_73, sv_74, sv_75, sv_76, sv_77, sv_78⟩ := u_70
              obtain ⟨rfl, he_79⟩ := hv_71
              have he_79 : (0 ≤ ((Tv 0) : Int32).toInt ∧ ((Tv 0) : Int32).toInt ≤ 400 ∧ 0 ≤ (sv_75 : Int32).toInt ∧ (sv_75 : Int32).toInt ≤ 400 ∧ 0 ≤ (sv_76 : Int32).toInt ∧ (sv_76 : Int32).toInt ≤ 400) := he_79
              refine W.eq (g2 := F0 m 72 ls []) rfl ?_
              replace hP : va_P D classes [((Va 0), .inr (7, [.ref (Va 1), .int sv_72, .int sv_73])), ((Va 1), .inl (tc 0, 400, .inl sv_74)), ((Ta 0), .inr (10, [.ref (Ta 1), .int (Tv 0), .int sv_75, .int sv_76, .int sv_77, .int sv_78])), ((Ta 1), .inl (tc 0, 400, .inl (Tf 1)))] H := hP₀
              replace hD : va_D A [((Va 0), .inr (7, [.ref (Va 1), .int sv_72, .int sv_73])), ((Va 1), .inl (tc 0, 400, .inl sv_74)), ((Ta 0), .inr (10, [.ref (Ta 1), .int (Tv 0), .int sv_75, .int sv_76, .int sv_77, .int sv_78])), ((Ta 1), .inl (tc 0, 400, .inl (Tf 1)))] := hD₀
              replace hS := hS₀
              clear hP₀ hD₀ hS₀
              refine lv_aload_n hx hb dX7_read_72 rfl (lv_at hl 2 rfl) ?_
              refine va_ldcS hx hb hown (sx_3 hX) dX7_read_73 ?_
              have ha_80 : (3 : Nat) < 7 := by
                have z_1 := Int32.le_iff_toInt_le.mp (Int32.not_lt.mp c_30)
                have z_2 := congrArg Int32.toInt c_53
                have z_3 : ¬ (r_58 : Int32).toInt = (0 : Int32).toInt := fun z => c_60 (Int32.toInt_inj.mp z)
                have z_4 : ¬ (vy_16 : Int32).toInt = (12 : Int32).toInt := fun z => c_61 (Int32.toInt_inj.mp z)
                have y_0 : (0 : Int32).toInt = 0 := by decide
                have y_12 : (12 : Int32).toInt = 12 := by decide
                have y_3 : (3 : Int32).toInt = 3 := by decide
                omega
              refine cV (a := (Ta 0)) (As := [.ref (sk.1 3)]) (rest := []) (wr := [((Va 0), .inr (7, [.ref (Va 1), .int sv_72, .int sv_73])), ((Va 1), .inl (tc 0, 400, .inl sv_74))]) ⟨hx, hb, hml, hown, hts⟩ hK hX hA (cu_X10_takesWord l D tc sk (Ta 0) (Ta 1) (Tv 0) sv_75 sv_76 sv_77 sv_78 (Tf 1) 3 ha_80 he_79) k_650 k_647 k_648 k_649 k_96 pl_X10_takesWord ⟨Nat.le_of_ble_eq_true rfl, Nat.le_of_ble_eq_true rfl⟩ rfl rfl (va_recv hK hP (ci := 10) (q0 := 2) rfl rfl) hP hD hS [2, 3] [0, 1] rfl rfl rfl rfl rfl (by decide) rfl hl.1 rfl (Nat.le_of_ble_eq_true rfl) dX7_read_75 ⟨Nat.le_of_ble_eq_true rfl, Nat.le_of_ble_eq_true rfl⟩ (fun v_81 u_82 H locs hv_83 hP₀ hD₀ hS₀ => ?_)
              obtain ⟨sv_84, sv_85, sv_86⟩ := u_82
              obtain ⟨r_87, rfl, he_88⟩ := hv_83
              have he_88 : ((r_87.toInt = 0 ∨ r_87.toInt = 1)) ∧ (0 ≤ ((Tv 0) : Int32).toInt ∧ ((Tv 0) : Int32).toInt ≤ 400 ∧ 0 ≤ (sv_84 : Int32).toInt ∧ (sv_84 : Int32).toInt ≤ 400 ∧ 0 ≤ (sv_85 : Int32).toInt ∧ (sv_85 : Int32).toInt ≤ 400) := he_88
              refine W.eq (g2 := F0 m 78 ls [.int r_87]) rfl ?_
              replace hP : va_P D classes [((Va 0), .inr (7, [.ref (Va 1), .int sv_72, .int sv_73])), ((Va 1), .inl (tc 0, 400, .inl sv_74)), ((Ta 0), .inr (10, [.ref (Ta 1), .int (Tv 0), .int sv_84, .int sv_85, .int sv_86, .int sv_78])), ((Ta 1), .inl (tc 0, 400, .inl (Tf 1)))] H := hP₀
              replace hD : va_D A [((Va 0), .inr (7, [.ref (Va 1), .int sv_72, .int sv_73])), ((Va 1), .inl (tc 0, 400, .inl sv_74)), ((Ta 0), .inr (10, [.ref (Ta 1), .int (Tv 0), .int sv_84, .int sv_85, .int sv_86, .int sv_78])), ((Ta 1), .inl (tc 0, 400, .inl (Tf 1)))] := hD₀
              replace hS := hS₀
              clear hP₀ hD₀ hS₀
              refine lv_if_eq (tgt := 96) hx hb dX7_read_78 (by decide) (fun c_89 => ?_) (fun c_89 => ?_)
              · skip
                refine lv_aload_n hx hb dX7_read_96 rfl (lv_at hl 1 rfl) ?_
                refine lv_bipush (v := (-2)) hx hb dX7_read_97 (by decide) ?_
                refine cV (a := (Va 0)) (As := [.int (-2)]) (rest := []) (wr := [((Ta 0), .inr (10, [.ref (Ta 1), .int (Tv 0), .int sv_84, .int sv_85, .int sv_86, .int sv_78])), ((Ta 1), .inl (tc 0, 400, .inl (Tf 1)))]) ⟨hx, hb, hml, hown, hts⟩ hK hX hA (cu_X7_put l D tc sk (Va 0) (Va 1) sv_72 sv_73 sv_74 (-2)) k_642 k_639 k_641 k_10 k_99 pl_X7_put ⟨Nat.le_of_ble_eq_true rfl, Nat.le_of_ble_eq_true rfl⟩ rfl rfl (va_recv hK hP (ci := 7) (q0 := 0) rfl rfl) hP hD hS [0, 1] [2, 3] rfl rfl rfl rfl rfl (by decide) rfl hl.1 rfl (Nat.le_of_ble_eq_true rfl) dX7_read_99 ⟨Nat.le_of_ble_eq_true rfl, Nat.le_of_ble_eq_true rfl⟩ (fun v_90 u_91 H locs hv_92 hP₀ hD₀ hS₀ => ?_)
                obtain ⟨sv_93, sv_94⟩ := u_91
                obtain rfl : v_90 = none := hv_92
                refine W.eq (g2 := F0 m 102 ls []) rfl ?_
                replace hP : va_P D classes [((Ta 0), .inr (10, [.ref (Ta 1), .int (Tv 0), .int sv_84, .int sv_85, .int sv_86, .int sv_78])), ((Ta 1), .inl (tc 0, 400, .inl (Tf 1))), ((Va 0), .inr (7, [.ref (Va 1), .int sv_93, .int sv_73])), ((Va 1), .inl (tc 0, 400, .inl sv_94))] H := hP₀
                replace hD : va_D A [((Ta 0), .inr (10, [.ref (Ta 1), .int (Tv 0), .int sv_84, .int sv_85, .int sv_86, .int sv_78])), ((Ta 1), .inl (tc 0, 400, .inl (Tf 1))), ((Va 0), .inr (7, [.ref (Va 1), .int sv_93, .int sv_73])), ((Va 1), .inl (tc 0, 400, .inl sv_94))] := hD₀
                replace hS := hS₀
                clear hP₀ hD₀ hS₀
                obtain ⟨x_95, ex_95⟩ : ∃ y : Int32, y = vy_16 + 1 := ⟨_, rfl⟩
                refine lv_iinc (v := x_95) (lv' := [(2, .int x_95), (0, .ref (Va 0)), (1, .ref (Ta 0))]) hx hb dX7_read_102 hl (k := 0) rfl (by rw [ex_95]; rfl) (by decide) rfl (fun ls hl₀ => ?_)
                replace hl := hl₀
                clear hl₀
                refine lv_goto (tgt := 16) hx hb dX7_read_105 (by decide) ?_
                have hb_96 : 13 - (x_95 : Int32).toInt < 13 - (vy_16 : Int32).toInt ∧ 1 ≤ 13 - (vy_16 : Int32).toInt := by
                  have z_1 := Int32.le_iff_toInt_le.mp (Int32.not_lt.mp c_30)
                  have z_2 := congrArg Int32.toInt c_53
                  have z_3 : ¬ (r_58 : Int32).toInt = (0 : Int32).toInt := fun z => c_60 (Int32.toInt_inj.mp z)
                  have z_4 : ¬ (vy_16 : Int32).toInt = (12 : Int32).toInt := fun z => c_61 (Int32.toInt_inj.mp z)
                  have z_5 := congrArg Int32.toInt c_89
                  have y_0 : (0 : Int32).toInt = 0 := by decide
                  have y_12 : (12 : Int32).toInt = 12 := by decide
                  have y_1 : (1 : Int32).toInt = 1 := by decide
                  have t_x_95 : x_95.toInt = (vy_16 : Int32).toInt + (1 : Int32).toInt := by rw [ex_95]; exact add_toInt (by omega) (by omega)
                  omega
                have ha_97 : 0 ≤ (x_95 : Int32).toInt := by
                  have z_1 := Int32.le_iff_toInt_le.mp (Int32.not_lt.mp c_30)
                  have z_2 := congrArg Int32.toInt c_53
                  have z_3 : ¬ (r_58 : Int32).toInt = (0 : Int32).toInt := fun z => c_60 (Int32.toInt_inj.mp z)
                  have z_4 : ¬ (vy_16 : Int32).toInt = (12 : Int32).toInt := fun z => c_61 (Int32.toInt_inj.mp z)
                  have z_5 := congrArg Int32.toInt c_89
                  have y_0 : (0 : Int32).toInt = 0 := by decide
                  have y_12 : (12 : Int32).toInt = 12 := by decide
                  have y_1 : (1 : Int32).toInt = 1 := by decide
                  have t_x_95 : x_95.toInt = (vy_16 : Int32).toInt + (1 : Int32).toInt := by rw [ex_95]; exact add_toInt (by omega) (by omega)
                  omega
                exact ih_25 x_95 sv_93 sv_73 sv_94 sv_84 sv_85 sv_86 sv_78 _ _ _ (by omega) ha_97 he_88.2 (hP.sub [2, 3, 0, 1] rfl) (hD.sub [2, 3, 0, 1] rfl rfl) hS (lv_sub hl [0, 1, 2] rfl)
              · skip
                refine lv_aload_n hx hb dX7_read_81 rfl (lv_at hl 1 rfl) ?_
                refine lv_aload_n hx hb dX7_read_82 rfl (lv_at hl 2 rfl) ?_
                refine lv_iconst (v := 0) hx hb dX7_read_83 (by decide) ?_
                refine cV (a := (Va 0)) (As := [.ref (Ta 0), .int 0]) (rest := []) (wr := []) ⟨hx, hb, hml, hown, hts⟩ hK hX hA (cu_X7_readTest_0 l D tc sk (Va 0) (Va 1) sv_72 sv_73 sv_74 (Ta 0) (Ta 1) (Tv 0) sv_84 sv_85 sv_86 sv_78 (Tf 1) he_88.2) k_655 k_652 k_654 k_11 k_99 pl_X7_readTest ⟨Nat.le_of_ble_eq_true rfl, Nat.le_of_ble_eq_true rfl⟩ rfl rfl (va_recv hK hP (ci := 7) (q0 := 0) rfl rfl) hP hD hS [0, 1, 2, 3] [] rfl rfl rfl rfl rfl (by decide) rfl hl.1 rfl (Nat.le_of_ble_eq_true rfl) dX7_read_84 ⟨Nat.le_of_ble_eq_true rfl, Nat.le_of_ble_eq_true rfl⟩ (fun v_98 u_99 H locs hv_100 hP₀ hD₀ hS₀ => ?_)
                obtain ⟨sv_101, sv_102, sv_103, sv_104, sv_105, sv_106, sv_107⟩ := u_99
                obtain ⟨rfl, he_108⟩ := hv_100
                have he_108 : (0 ≤ ((Tv 0) : Int32).toInt ∧ ((Tv 0) : Int32).toInt ≤ 400 ∧ 0 ≤ (sv_104 : Int32).toInt ∧ (sv_104 : Int32).toInt ≤ 400 ∧ 0 ≤ (sv_105 : Int32).toInt ∧ (sv_105 : Int32).toInt ≤ 400) := he_108
                refine W.eq (g2 := F0 m 87 ls []) rfl ?_
                replace hP : va_P D classes [((Va 0), .inr (7, [.ref (Va 1), .int sv_101, .int sv_102])), ((Va 1), .inl (tc 0, 400, .inl sv_103)), ((Ta 0), .inr (10, [.ref (Ta 1), .int (Tv 0), .int sv_104, .int sv_105, .int sv_106, .int sv_107])), ((Ta 1), .inl (tc 0, 400, .inl (Tf 1)))] H := hP₀
                replace hD : va_D A [((Va 0), .inr (7, [.ref (Va 1), .int sv_101, .int sv_102])), ((Va 1), .inl (tc 0, 400, .inl sv_103)), ((Ta 0), .inr (10, [.ref (Ta 1), .int (Tv 0), .int sv_104, .int sv_105, .int sv_106, .int sv_107])), ((Ta 1), .inl (tc 0, 400, .inl (Tf 1)))] := hD₀
                replace hS := hS₀
                clear hP₀ hD₀ hS₀
                refine lv_aload_n hx hb dX7_read_87 rfl (lv_at hl 1 rfl) ?_
                refine lv_bipush (v := (-3)) hx hb dX7_read_88 (by decide) ?_
                refine cV (a := (Va 0)) (As := [.int (-3)]) (rest := []) (wr := [((Ta 0), .inr (10, [.ref (Ta 1), .int (Tv 0), .int sv_104, .int sv_105, .int sv_106, .int sv_107])), ((Ta 1), .inl (tc 0, 400, .inl (Tf 1)))]) ⟨hx, hb, hml, hown, hts⟩ hK hX hA (cu_X7_put l D tc sk (Va 0) (Va 1) sv_101 sv_102 sv_103 (-3)) k_642 k_639 k_641 k_10 k_99 pl_X7_put ⟨Nat.le_of_ble_eq_true rfl, Nat.le_of_ble_eq_true rfl⟩ rfl rfl (va_recv hK hP (ci := 7) (q0 := 0) rfl rfl) hP hD hS [0, 1] [2, 3] rfl rfl rfl rfl rfl (by decide) rfl hl.1 rfl (Nat.le_of_ble_eq_true rfl) dX7_read_90 ⟨Nat.le_of_ble_eq_true rfl, Nat.le_of_ble_eq_true rfl⟩ (fun v_109 u_110 H locs hv_111 hP₀ hD₀ hS₀ => ?_)
                obtain ⟨sv_112, sv_113⟩ := u_110
                obtain rfl : v_109 = none := hv_111
                refine W.eq (g2 := F0 m 93 ls []) rfl ?_
                replace hP : va_P D classes [((Ta 0), .inr (10, [.ref (Ta 1), .int (Tv 0), .int sv_104, .int sv_105, .int sv_106, .int sv_107])), ((Ta 1), .inl (tc 0, 400, .inl (Tf 1))), ((Va 0), .inr (7, [.ref (Va 1), .int sv_112, .int sv_102])), ((Va 1), .inl (tc 0, 400, .inl sv_113))] H := hP₀
                replace hD : va_D A [((Ta 0), .inr (10, [.ref (Ta 1), .int (Tv 0), .int sv_104, .int sv_105, .int sv_106, .int sv_107])), ((Ta 1), .inl (tc 0, 400, .inl (Tf 1))), ((Va 0), .inr (7, [.ref (Va 1), .int sv_112, .int sv_102])), ((Va 1), .inl (tc 0, 400, .inl sv_113))] := hD₀
                replace hS := hS₀
                clear hP₀ hD₀ hS₀
                refine lv_goto (tgt := 102) hx hb dX7_read_93 (by decide) ?_
                obtain ⟨x_114, ex_114⟩ : ∃ y : Int32, y = vy_16 + 1 := ⟨_, rfl⟩
                refine lv_iinc (v := x_114) (lv' := [(2, .int x_114), (0, .ref (Va 0)), (1, .ref (Ta 0))]) hx hb dX7_read_102 hl (k := 0) rfl (by rw [ex_114]; rfl) (by decide) rfl (fun ls hl₀ => ?_)
                replace hl := hl₀
                clear hl₀
                refine lv_goto (tgt := 16) hx hb dX7_read_105 (by decide) ?_
                have hb_115 : 13 - (x_114 : Int32).toInt < 13 - (vy_16 : Int32).toInt ∧ 1 ≤ 13 - (vy_16 : Int32).toInt := by
                  have z_1 := Int32.le_iff_toInt_le.mp (Int32.not_lt.mp c_30)
                  have z_2 := congrArg Int32.toInt c_53
                  have z_3 : ¬ (r_58 : Int32).toInt = (0 : Int32).toInt := fun z => c_60 (Int32.toInt_inj.mp z)
                  have z_4 : ¬ (vy_16 : Int32).toInt = (12 : Int32).toInt := fun z => c_61 (Int32.toInt_inj.mp z)
                  have z_5 : ¬ (r_87 : Int32).toInt = (0 : Int32).toInt := fun z => c_89 (Int32.toInt_inj.mp z)
                  have y_0 : (0 : Int32).toInt = 0 := by decide
                  have y_12 : (12 : Int32).toInt = 12 := by decide
                  have y_1 : (1 : Int32).toInt = 1 := by decide
                  have t_x_114 : x_114.toInt = (vy_16 : Int32).toInt + (1 : Int32).toInt := by rw [ex_114]; exact add_toInt (by omega) (by omega)
                  omega
                have ha_116 : 0 ≤ (x_114 : Int32).toInt := by
                  have z_1 := Int32.le_iff_toInt_le.mp (Int32.not_lt.mp c_30)
                  have z_2 := congrArg Int32.toInt c_53
                  have z_3 : ¬ (r_58 : Int32).toInt = (0 : Int32).toInt := fun z => c_60 (Int32.toInt_inj.mp z)
                  have z_4 : ¬ (vy_16 : Int32).toInt = (12 : Int32).toInt := fun z => c_61 (Int32.toInt_inj.mp z)
                  have z_5 : ¬ (r_87 : Int32).toInt = (0 : Int32).toInt := fun z => c_89 (Int32.toInt_inj.mp z)
                  have y_0 : (0 : Int32).toInt = 0 := by decide
                  have y_12 : (12 : Int32).toInt = 12 := by decide
                  have y_1 : (1 : Int32).toInt = 1 := by decide
                  have t_x_114 : x_114.toInt = (vy_16 : Int32).toInt + (1 : Int32).toInt := by rw [ex_114]; exact add_toInt (by omega) (by omega)
                  omega
                exact ih_25 x_114 sv_112 sv_102 sv_113 sv_104 sv_105 sv_106 sv_107 _ _ _ (by omega) ha_116 he_108 (hP.sub [2, 3, 0, 1] rfl) (hD.sub [2, 3, 0, 1] rfl rfl) hS (lv_sub hl [0, 1, 2] rfl)
            · skip
              refine lv_aload_n hx hb dX7_read_58 rfl (lv_at hl 2 rfl) ?_
              refine lv_iconst (v := 4) hx hb dX7_read_59 (by decide) ?_
              refine cV (a := (Ta 0)) (As := [.int 4]) (rest := []) (wr := [((Va 0), .inr (7, [.ref (Va 1), .int vy_17, .int vy_18])), ((Va 1), .inl (tc 0, 400, .inl vy_19))]) ⟨hx, hb, hml, hown, hts⟩ hK hX hA (cu_X10_fail l D tc sk (Ta 0) (Ta 1) (Tv 0) vy_20 vy_21 vy_22 vy_23 (Tf 1) 4 he_59.2) k_557 k_619 k_555 k_556 k_96 pl_X10_fail ⟨Nat.le_of_ble_eq_true rfl, Nat.le_of_ble_eq_true rfl⟩ rfl rfl (va_recv hK hP (ci := 10) (q0 := 2) rfl rfl) hP hD hS [2, 3] [0, 1] rfl rfl rfl rfl rfl (by decide) rfl hl.1 rfl (Nat.le_of_ble_eq_true rfl) dX7_read_60 ⟨Nat.le_of_ble_eq_true rfl, Nat.le_of_ble_eq_true rfl⟩ (fun v_117 u_118 H locs hv_119 hP₀ hD₀ hS₀ => ?_)
              obtain ⟨sv_120, sv_121⟩ := u_118
              obtain ⟨rfl, he_122⟩ := hv_119
              have he_122 : (0 ≤ ((Tv 0) : Int32).toInt ∧ ((Tv 0) : Int32).toInt ≤ 400 ∧ 0 ≤ (vy_20 : Int32).toInt ∧ (vy_20 : Int32).toInt ≤ 400 ∧ 0 ≤ (vy_21 : Int32).toInt ∧ (vy_21 : Int32).toInt ≤ 400) := he_122
              refine W.eq (g2 := F0 m 63 ls []) rfl ?_
              replace hP : va_P D classes [((Va 0), .inr (7, [.ref (Va 1), .int vy_17, .int vy_18])), ((Va 1), .inl (tc 0, 400, .inl vy_19)), ((Ta 0), .inr (10, [.ref (Ta 1), .int (Tv 0), .int vy_20, .int vy_21, .int sv_120, .int sv_121])), ((Ta 1), .inl (tc 0, 400, .inl (Tf 1)))] H := hP₀
              replace hD : va_D A [((Va 0), .inr (7, [.ref (Va 1), .int vy_17, .int vy_18])), ((Va 1), .inl (tc 0, 400, .inl vy_19)), ((Ta 0), .inr (10, [.ref (Ta 1), .int (Tv 0), .int vy_20, .int vy_21, .int sv_120, .int sv_121])), ((Ta 1), .inl (tc 0, 400, .inl (Tf 1)))] := hD₀
              replace hS := hS₀
              clear hP₀ hD₀ hS₀
              refine lv_aload_n hx hb dX7_read_63 rfl (lv_at hl 2 rfl) ?_
              refine cV (a := (Ta 0)) (As := []) (rest := []) (wr := [((Va 0), .inr (7, [.ref (Va 1), .int vy_17, .int vy_18])), ((Va 1), .inl (tc 0, 400, .inl vy_19))]) ⟨hx, hb, hml, hown, hts⟩ hK hX hA (cu_X10_step l D tc sk (Ta 0) (Ta 1) (Tv 0) vy_20 vy_21 sv_120 sv_121 (Tf 1) he_122) k_478 k_620 k_476 k_477 k_96 pl_X10_step ⟨Nat.le_of_ble_eq_true rfl, Nat.le_of_ble_eq_true rfl⟩ rfl rfl (va_recv hK hP (ci := 10) (q0 := 2) rfl rfl) hP hD hS [2, 3] [0, 1] rfl rfl rfl rfl rfl (by decide) rfl hl.1 rfl (Nat.le_of_ble_eq_true rfl) dX7_read_64 ⟨Nat.le_of_ble_eq_true rfl, Nat.le_of_ble_eq_true rfl⟩ (fun v_123 u_124 H locs hv_125 hP₀ hD₀ hS₀ => ?_)
              obtain ⟨sv_126, sv_127, sv_128⟩ := u_124
              obtain ⟨rfl, he_129⟩ := hv_125
              have he_129 : (0 ≤ ((Tv 0) : Int32).toInt ∧ ((Tv 0) : Int32).toInt ≤ 400 ∧ 0 ≤ (sv_126 : Int32).toInt ∧ (sv_126 : Int32).toInt ≤ 400 ∧ 0 ≤ (sv_127 : Int32).toInt ∧ (sv_127 : Int32).toInt ≤ 400) := he_129
              refine W.eq (g2 := F0 m 67 ls []) rfl ?_
              replace hP : va_P D classes [((Va 0), .inr (7, [.ref (Va 1), .int vy_17, .int vy_18])), ((Va 1), .inl (tc 0, 400, .inl vy_19)), ((Ta 0), .inr (10, [.ref (Ta 1), .int (Tv 0), .int sv_126, .int sv_127, .int sv_128, .int sv_121])), ((Ta 1), .inl (tc 0, 400, .inl (Tf 1)))] H := hP₀
              replace hD : va_D A [((Va 0), .inr (7, [.ref (Va 1), .int vy_17, .int vy_18])), ((Va 1), .inl (tc 0, 400, .inl vy_19)), ((Ta 0), .inr (10, [.ref (Ta 1), .int (Tv 0), .int sv_126, .int sv_127, .int sv_128, .int sv_121])), ((Ta 1), .inl (tc 0, 400, .inl (Tf 1)))] := hD₀
              replace hS := hS₀
              clear hP₀ hD₀ hS₀
              refine lv_aload_n hx hb dX7_read_67 rfl (lv_at hl 1 rfl) ?_
              refine lv_aload_n hx hb dX7_read_68 rfl (lv_at hl 2 rfl) ?_
              refine cV (a := (Va 0)) (As := [.ref (Ta 0)]) (rest := []) (wr := []) ⟨hx, hb, hml, hown, hts⟩ hK hX hA (cu_X7_readSum l D tc sk (Va 0) (Va 1) vy_17 vy_18 vy_19 (Ta 0) (Ta 1) (Tv 0) sv_126 sv_127 sv_128 sv_121 (Tf 1) he_129) k_624 k_621 k_623 k_7 k_99 pl_X7_readSum ⟨Nat.le_of_ble_eq_true rfl, Nat.le_of_ble_eq_true rfl⟩ rfl rfl (va_recv hK hP (ci := 7) (q0 := 0) rfl rfl) hP hD hS [0, 1, 2, 3] [] rfl rfl rfl rfl rfl (by decide) rfl hl.1 rfl (Nat.le_of_ble_eq_true rfl) dX7_read_69 ⟨Nat.le_of_ble_eq_true rfl, Nat.le_of_ble_eq_true rfl⟩ (fun v_130 u_131 H locs hv_132 hP₀ hD₀ hS₀ => ?_)
              obtain ⟨sv_133, sv_134, sv_135, sv_136, sv_137, sv_138, sv_139⟩ := u_131
              obtain ⟨rfl, he_140⟩ := hv_132
              have he_140 : (0 ≤ ((Tv 0) : Int32).toInt ∧ ((Tv 0) : Int32).toInt ≤ 400 ∧ 0 ≤ (sv_136 : Int32).toInt ∧ (sv_136 : Int32).toInt ≤ 400 ∧ 0 ≤ (sv_137 : Int32).toInt ∧ (sv_137 : Int32).toInt ≤ 400) := he_140
              refine W.eq (g2 := F0 m 72 ls []) rfl ?_
              replace hP : va_P D classes [((Va 0), .inr (7, [.ref (Va 1), .int sv_133, .int sv_134])), ((Va 1), .inl (tc 0, 400, .inl sv_135)), ((Ta 0), .inr (10, [.ref (Ta 1), .int (Tv 0), .int sv_136, .int sv_137, .int sv_138, .int sv_139])), ((Ta 1), .inl (tc 0, 400, .inl (Tf 1)))] H := hP₀
              replace hD : va_D A [((Va 0), .inr (7, [.ref (Va 1), .int sv_133, .int sv_134])), ((Va 1), .inl (tc 0, 400, .inl sv_135)), ((Ta 0), .inr (10, [.ref (Ta 1), .int (Tv 0), .int sv_136, .int sv_137, .int sv_138, .int sv_139])), ((Ta 1), .inl (tc 0, 400, .inl (Tf 1)))] := hD₀
              replace hS := hS₀
              clear hP₀ hD₀ hS₀
              refine lv_aload_n hx hb dX7_read_72 rfl (lv_at hl 2 rfl) ?_
              refine va_ldcS hx hb hown (sx_3 hX) dX7_read_73 ?_
              have ha_141 : (3 : Nat) < 7 := by
                have z_1 := Int32.le_iff_toInt_le.mp (Int32.not_lt.mp c_30)
                have z_2 := congrArg Int32.toInt c_53
                have z_3 : ¬ (r_58 : Int32).toInt = (0 : Int32).toInt := fun z => c_60 (Int32.toInt_inj.mp z)
                have z_4 := congrArg Int32.toInt c_61
                have y_0 : (0 : Int32).toInt = 0 := by decide
                have y_12 : (12 : Int32).toInt = 12 := by decide
                have y_3 : (3 : Int32).toInt = 3 := by decide
                omega
              refine cV (a := (Ta 0)) (As := [.ref (sk.1 3)]) (rest := []) (wr := [((Va 0), .inr (7, [.ref (Va 1), .int sv_133, .int sv_134])), ((Va 1), .inl (tc 0, 400, .inl sv_135))]) ⟨hx, hb, hml, hown, hts⟩ hK hX hA (cu_X10_takesWord l D tc sk (Ta 0) (Ta 1) (Tv 0) sv_136 sv_137 sv_138 sv_139 (Tf 1) 3 ha_141 he_140) k_650 k_647 k_648 k_649 k_96 pl_X10_takesWord ⟨Nat.le_of_ble_eq_true rfl, Nat.le_of_ble_eq_true rfl⟩ rfl rfl (va_recv hK hP (ci := 10) (q0 := 2) rfl rfl) hP hD hS [2, 3] [0, 1] rfl rfl rfl rfl rfl (by decide) rfl hl.1 rfl (Nat.le_of_ble_eq_true rfl) dX7_read_75 ⟨Nat.le_of_ble_eq_true rfl, Nat.le_of_ble_eq_true rfl⟩ (fun v_142 u_143 H locs hv_144 hP₀ hD₀ hS₀ => ?_)
              obtain ⟨sv_145, sv_146, sv_147⟩ := u_143
              obtain ⟨r_148, rfl, he_149⟩ := hv_144
              have he_149 : ((r_148.toInt = 0 ∨ r_148.toInt = 1)) ∧ (0 ≤ ((Tv 0) : Int32).toInt ∧ ((Tv 0) : Int32).toInt ≤ 400 ∧ 0 ≤ (sv_145 : Int32).toInt ∧ (sv_145 : Int32).toInt ≤ 400 ∧ 0 ≤ (sv_146 : Int32).toInt ∧ (sv_146 : Int32).toInt ≤ 400) := he_149
              refine W.eq (g2 := F0 m 78 ls [.int r_148]) rfl ?_
              replace hP : va_P D classes [((Va 0), .inr (7, [.ref (Va 1), .int sv_133, .int sv_134])), ((Va 1), .inl (tc 0, 400, .inl sv_135)), ((Ta 0), .inr (10, [.ref (Ta 1), .int (Tv 0), .int sv_145, .int sv_146, .int sv_147, .int sv_139])), ((Ta 1), .inl (tc 0, 400, .inl (Tf 1)))] H := hP₀
              replace hD : va_D A [((Va 0), .inr (7, [.ref (Va 1), .int sv_133, .int sv_134])), ((Va 1), .inl (tc 0, 400, .inl sv_135)), ((Ta 0), .inr (10, [.ref (Ta 1), .int (Tv 0), .int sv_145, .int sv_146, .int sv_147, .int sv_139])), ((Ta 1), .inl (tc 0, 400, .inl (Tf 1)))] := hD₀
              replace hS := hS₀
              clear hP₀ hD₀ hS₀
              refine lv_if_eq (tgt := 96) hx hb dX7_read_78 (by decide) (fun c_150 => ?_) (fun c_150 => ?_)
              · skip
                refine lv_aload_n hx hb dX7_read_96 rfl (lv_at hl 1 rfl) ?_
                refine lv_bipush (v := (-2)) hx hb dX7_read_97 (by decide) ?_
                refine cV (a := (Va 0)) (As := [.int (-2)]) (rest := []) (wr := [((Ta 0), .inr (10, [.ref (Ta 1), .int (Tv 0), .int sv_145, .int sv_146, .int sv_147, .int sv_139])), ((Ta 1), .inl (tc 0, 400, .inl (Tf 1)))]) ⟨hx, hb, hml, hown, hts⟩ hK hX hA (cu_X7_put l D tc sk (Va 0) (Va 1) sv_133 sv_134 sv_135 (-2)) k_642 k_639 k_641 k_10 k_99 pl_X7_put ⟨Nat.le_of_ble_eq_true rfl, Nat.le_of_ble_eq_true rfl⟩ rfl rfl (va_recv hK hP (ci := 7) (q0 := 0) rfl rfl) hP hD hS [0, 1] [2, 3] rfl rfl rfl rfl rfl (by decide) rfl hl.1 rfl (Nat.le_of_ble_eq_true rfl) dX7_read_99 ⟨Nat.le_of_ble_eq_true rfl, Nat.le_of_ble_eq_true rfl⟩ (fun v_151 u_152 H locs hv_153 hP₀ hD₀ hS₀ => ?_)
                obtain ⟨sv_154, sv_155⟩ := u_152
                obtain rfl : v_151 = none := hv_153
                refine W.eq (g2 := F0 m 102 ls []) rfl ?_
                replace hP : va_P D classes [((Ta 0), .inr (10, [.ref (Ta 1), .int (Tv 0), .int sv_145, .int sv_146, .int sv_147, .int sv_139])), ((Ta 1), .inl (tc 0, 400, .inl (Tf 1))), ((Va 0), .inr (7, [.ref (Va 1), .int sv_154, .int sv_134])), ((Va 1), .inl (tc 0, 400, .inl sv_155))] H := hP₀
                replace hD : va_D A [((Ta 0), .inr (10, [.ref (Ta 1), .int (Tv 0), .int sv_145, .int sv_146, .int sv_147, .int sv_139])), ((Ta 1), .inl (tc 0, 400, .inl (Tf 1))), ((Va 0), .inr (7, [.ref (Va 1), .int sv_154, .int sv_134])), ((Va 1), .inl (tc 0, 400, .inl sv_155))] := hD₀
                replace hS := hS₀
                clear hP₀ hD₀ hS₀
                obtain ⟨x_156, ex_156⟩ : ∃ y : Int32, y = vy_16 + 1 := ⟨_, rfl⟩
                refine lv_iinc (v := x_156) (lv' := [(2, .int x_156), (0, .ref (Va 0)), (1, .ref (Ta 0))]) hx hb dX7_read_102 hl (k := 0) rfl (by rw [ex_156]; rfl) (by decide) rfl (fun ls hl₀ => ?_)
                replace hl := hl₀
                clear hl₀
                refine lv_goto (tgt := 16) hx hb dX7_read_105 (by decide) ?_
                have hb_157 : 13 - (x_156 : Int32).toInt < 13 - (vy_16 : Int32).toInt ∧ 1 ≤ 13 - (vy_16 : Int32).toInt := by
                  have z_1 := Int32.le_iff_toInt_le.mp (Int32.not_lt.mp c_30)
                  have z_2 := congrArg Int32.toInt c_53
                  have z_3 : ¬ (r_58 : Int32).toInt = (0 : Int32).toInt := fun z => c_60 (Int32.toInt_inj.mp z)
                  have z_4 := congrArg Int32.toInt c_61
                  have z_5 := congrArg Int32.toInt c_150
                  have y_0 : (0 : Int32).toInt = 0 := by decide
                  have y_12 : (12 : Int32).toInt = 12 := by decide
                  have y_1 : (1 : Int32).toInt = 1 := by decide
                  have t_x_156 : x_156.toInt = (vy_16 : Int32).toInt + (1 : Int32).toInt := by rw [ex_156]; exact add_toInt (by omega) (by omega)
                  omega
                have ha_158 : 0 ≤ (x_156 : Int32).toInt := by
                  have z_1 := Int32.le_iff_toInt_le.mp (Int32.not_lt.mp c_30)
                  have z_2 := congrArg Int32.toInt c_53
                  have z_3 : ¬ (r_58 : Int32).toInt = (0 : Int32).toInt := fun z => c_60 (Int32.toInt_inj.mp z)
                  have z_4 := congrArg Int32.toInt c_61
                  have z_5 := congrArg Int32.toInt c_150
                  have y_0 : (0 : Int32).toInt = 0 := by decide
                  have y_12 : (12 : Int32).toInt = 12 := by decide
                  have y_1 : (1 : Int32).toInt = 1 := by decide
                  have t_x_156 : x_156.toInt = (vy_16 : Int32).toInt + (1 : Int32).toInt := by rw [ex_156]; exact add_toInt (by omega) (by omega)
                  omega
                exact ih_25 x_156 sv_154 sv_134 sv_155 sv_145 sv_146 sv_147 sv_139 _ _ _ (by omega) ha_158 he_149.2 (hP.sub [2, 3, 0, 1] rfl) (hD.sub [2, 3, 0, 1] rfl rfl) hS (lv_sub hl [0, 1, 2] rfl)
              · skip
                refine lv_aload_n hx hb dX7_read_81 rfl (lv_at hl 1 rfl) ?_
                refine lv_aload_n hx hb dX7_read_82 rfl (lv_at hl 2 rfl) ?_
                refine lv_iconst (v := 0) hx hb dX7_read_83 (by decide) ?_
                refine cV (a := (Va 0)) (As := [.ref (Ta 0), .int 0]) (rest := []) (wr := []) ⟨hx, hb, hml, hown, hts⟩ hK hX hA (cu_X7_readTest_0 l D tc sk (Va 0) (Va 1) sv_133 sv_134 sv_135 (Ta 0) (Ta 1) (Tv 0) sv_145 sv_146 sv_147 sv_139 (Tf 1) he_149.2) k_655 k_652 k_654 k_11 k_99 pl_X7_readTest ⟨Nat.le_of_ble_eq_true rfl, Nat.le_of_ble_eq_true rfl⟩ rfl rfl (va_recv hK hP (ci := 7) (q0 := 0) rfl rfl) hP hD hS [0, 1, 2, 3] [] rfl rfl rfl rfl rfl (by decide) rfl hl.1 rfl (Nat.le_of_ble_eq_true rfl) dX7_read_84 ⟨Nat.le_of_ble_eq_true rfl, Nat.le_of_ble_eq_true rfl⟩ (fun v_159 u_160 H locs hv_161 hP₀ hD₀ hS₀ => ?_)
                obtain ⟨sv_162, sv_163, sv_164, sv_165, sv_166, sv_167, sv_168⟩ := u_160
                obtain ⟨rfl, he_169⟩ := hv_161
                have he_169 : (0 ≤ ((Tv 0) : Int32).toInt ∧ ((Tv 0) : Int32).toInt ≤ 400 ∧ 0 ≤ (sv_165 : Int32).toInt ∧ (sv_165 : Int32).toInt ≤ 400 ∧ 0 ≤ (sv_166 : Int32).toInt ∧ (sv_166 : Int32).toInt ≤ 400) := he_169
                refine W.eq (g2 := F0 m 87 ls []) rfl ?_
                replace hP : va_P D classes [((Va 0), .inr (7, [.ref (Va 1), .int sv_162, .int sv_163])), ((Va 1), .inl (tc 0, 400, .inl sv_164)), ((Ta 0), .inr (10, [.ref (Ta 1), .int (Tv 0), .int sv_165, .int sv_166, .int sv_167, .int sv_168])), ((Ta 1), .inl (tc 0, 400, .inl (Tf 1)))] H := hP₀
                replace hD : va_D A [((Va 0), .inr (7, [.ref (Va 1), .int sv_162, .int sv_163])), ((Va 1), .inl (tc 0, 400, .inl sv_164)), ((Ta 0), .inr (10, [.ref (Ta 1), .int (Tv 0), .int sv_165, .int sv_166, .int sv_167, .int sv_168])), ((Ta 1), .inl (tc 0, 400, .inl (Tf 1)))] := hD₀
                replace hS := hS₀
                clear hP₀ hD₀ hS₀
                refine lv_aload_n hx hb dX7_read_87 rfl (lv_at hl 1 rfl) ?_
                refine lv_bipush (v := (-3)) hx hb dX7_read_88 (by decide) ?_
                refine cV (a := (Va 0)) (As := [.int (-3)]) (rest := []) (wr := [((Ta 0), .inr (10, [.ref (Ta 1), .int (Tv 0), .int sv_165, .int sv_166, .int sv_167, .int sv_168])), ((Ta 1), .inl (tc 0, 400, .inl (Tf 1)))]) ⟨hx, hb, hml, hown, hts⟩ hK hX hA (cu_X7_put l D tc sk (Va 0) (Va 1) sv_162 sv_163 sv_164 (-3)) k_642 k_639 k_641 k_10 k_99 pl_X7_put ⟨Nat.le_of_ble_eq_true rfl, Nat.le_of_ble_eq_true rfl⟩ rfl rfl (va_recv hK hP (ci := 7) (q0 := 0) rfl rfl) hP hD hS [0, 1] [2, 3] rfl rfl rfl rfl rfl (by decide) rfl hl.1 rfl (Nat.le_of_ble_eq_true rfl) dX7_read_90 ⟨Nat.le_of_ble_eq_true rfl, Nat.le_of_ble_eq_true rfl⟩ (fun v_170 u_171 H locs hv_172 hP₀ hD₀ hS₀ => ?_)
                obtain ⟨sv_173, sv_174⟩ := u_171
                obtain rfl : v_170 = none := hv_172
                refine W.eq (g2 := F0 m 93 ls []) rfl ?_
                replace hP : va_P D classes [((Ta 0), .inr (10, [.ref (Ta 1), .int (Tv 0), .int sv_165, .int sv_166, .int sv_167, .int sv_168])), ((Ta 1), .inl (tc 0, 400, .inl (Tf 1))), ((Va 0), .inr (7, [.ref (Va 1), .int sv_173, .int sv_163])), ((Va 1), .inl (tc 0, 400, .inl sv_174))] H := hP₀
                replace hD : va_D A [((Ta 0), .inr (10, [.ref (Ta 1), .int (Tv 0), .int sv_165, .int sv_166, .int sv_167, .int sv_168])), ((Ta 1), .inl (tc 0, 400, .inl (Tf 1))), ((Va 0), .inr (7, [.ref (Va 1), .int sv_173, .int sv_163])), ((Va 1), .inl (tc 0, 400, .inl sv_174))] := hD₀
                replace hS := hS₀
                clear hP₀ hD₀ hS₀
                refine lv_goto (tgt := 102) hx hb dX7_read_93 (by decide) ?_
                obtain ⟨x_175, ex_175⟩ : ∃ y : Int32, y = vy_16 + 1 := ⟨_, rfl⟩
                refine lv_iinc (v := x_175) (lv' := [(2, .int x_175), (0, .ref (Va 0)), (1, .ref (Ta 0))]) hx hb dX7_read_102 hl (k := 0) rfl (by rw [ex_175]; rfl) (by decide) rfl (fun ls hl₀ => ?_)
                replace hl := hl₀
                clear hl₀
                refine lv_goto (tgt := 16) hx hb dX7_read_105 (by decide) ?_
                have hb_176 : 13 - (x_175 : Int32).toInt < 13 - (vy_16 : Int32).toInt ∧ 1 ≤ 13 - (vy_16 : Int32).toInt := by
                  have z_1 := Int32.le_iff_toInt_le.mp (Int32.not_lt.mp c_30)
                  have z_2 := congrArg Int32.toInt c_53
                  have z_3 : ¬ (r_58 : Int32).toInt = (0 : Int32).toInt := fun z => c_60 (Int32.toInt_inj.mp z)
                  have z_4 := congrArg Int32.toInt c_61
                  have z_5 : ¬ (r_148 : Int32).toInt = (0 : Int32).toInt := fun z => c_150 (Int32.toInt_inj.mp z)
                  have y_0 : (0 : Int32).toInt = 0 := by decide
                  have y_12 : (12 : Int32).toInt = 12 := by decide
                  have y_1 : (1 : Int32).toInt = 1 := by decide
                  have t_x_175 : x_175.toInt = (vy_16 : Int32).toInt + (1 : Int32).toInt := by rw [ex_175]; exact add_toInt (by omega) (by omega)
                  omega
                have ha_177 : 0 ≤ (x_175 : Int32).toInt := by
                  have z_1 := Int32.le_iff_toInt_le.mp (Int32.not_lt.mp c_30)
                  have z_2 := congrArg Int32.toInt c_53
                  have z_3 : ¬ (r_58 : Int32).toInt = (0 : Int32).toInt := fun z => c_60 (Int32.toInt_inj.mp z)
                  have z_4 := congrArg Int32.toInt c_61
                  have z_5 : ¬ (r_148 : Int32).toInt = (0 : Int32).toInt := fun z => c_150 (Int32.toInt_inj.mp z)
                  have y_0 : (0 : Int32).toInt = 0 := by decide
                  have y_12 : (12 : Int32).toInt = 12 := by decide
                  have y_1 : (1 : Int32).toInt = 1 := by decide
                  have t_x_175 : x_175.toInt = (vy_16 : Int32).toInt + (1 : Int32).toInt := by rw [ex_175]; exact add_toInt (by omega) (by omega)
                  omega
                exact ih_25 x_175 sv_173 sv_163 sv_174 sv_165 sv_166 sv_167 sv_168 _ _ _ (by omega) ha_177 he_169 (hP.sub [2, 3, 0, 1] rfl) (hD.sub [2, 3, 0, 1] rfl rfl) hS (lv_sub hl [0, 1, 2] rfl)
          · skip
            refine lv_aload_n hx hb dX7_read_44 rfl (lv_at hl 2 rfl) ?_
            refine lv_iconst (v := 0) hx hb dX7_read_45 (by decide) ?_
            refine cV (a := (Ta 0)) (As := [.int 0]) (rest := []) (wr := [((Va 0), .inr (7, [.ref (Va 1), .int vy_17, .int vy_18])), ((Va 1), .inl (tc 0, 400, .inl vy_19))]) ⟨hx, hb, hml, hown, hts⟩ hK hX hA (cu_X10_fail l D tc sk (Ta 0) (Ta 1) (Tv 0) vy_20 vy_21 vy_22 vy_23 (Tf 1) 0 he_59.2) k_557 k_619 k_555 k_556 k_96 pl_X10_fail ⟨Nat.le_of_ble_eq_true rfl, Nat.le_of_ble_eq_true rfl⟩ rfl rfl (va_recv hK hP (ci := 10) (q0 := 2) rfl rfl) hP hD hS [2, 3] [0, 1] rfl rfl rfl rfl rfl (by decide) rfl hl.1 rfl (Nat.le_of_ble_eq_true rfl) dX7_read_46 ⟨Nat.le_of_ble_eq_true rfl, Nat.le_of_ble_eq_true rfl⟩ (fun v_178 u_179 H locs hv_180 hP₀ hD₀ hS₀ => ?_)
            obtain ⟨sv_181, sv_182⟩ := u_179
            obtain ⟨rfl, he_183⟩ := hv_180
            have he_183 : (0 ≤ ((Tv 0) : Int32).toInt ∧ ((Tv 0) : Int32).toInt ≤ 400 ∧ 0 ≤ (vy_20 : Int32).toInt ∧ (vy_20 : Int32).toInt ≤ 400 ∧ 0 ≤ (vy_21 : Int32).toInt ∧ (vy_21 : Int32).toInt ≤ 400) := he_183
            refine W.eq (g2 := F0 m 49 ls []) rfl ?_
            replace hP : va_P D classes [((Va 0), .inr (7, [.ref (Va 1), .int vy_17, .int vy_18])), ((Va 1), .inl (tc 0, 400, .inl vy_19)), ((Ta 0), .inr (10, [.ref (Ta 1), .int (Tv 0), .int vy_20, .int vy_21, .int sv_181, .int sv_182])), ((Ta 1), .inl (tc 0, 400, .inl (Tf 1)))] H := hP₀
            replace hD : va_D A [((Va 0), .inr (7, [.ref (Va 1), .int vy_17, .int vy_18])), ((Va 1), .inl (tc 0, 400, .inl vy_19)), ((Ta 0), .inr (10, [.ref (Ta 1), .int (Tv 0), .int vy_20, .int vy_21, .int sv_181, .int sv_182])), ((Ta 1), .inl (tc 0, 400, .inl (Tf 1)))] := hD₀
            replace hS := hS₀
            clear hP₀ hD₀ hS₀
            refine lv_goto (tgt := 63) hx hb dX7_read_49 (by decide) ?_
            refine lv_aload_n hx hb dX7_read_63 rfl (lv_at hl 2 rfl) ?_
            refine cV (a := (Ta 0)) (As := []) (rest := []) (wr := [((Va 0), .inr (7, [.ref (Va 1), .int vy_17, .int vy_18])), ((Va 1), .inl (tc 0, 400, .inl vy_19))]) ⟨hx, hb, hml, hown, hts⟩ hK hX hA (cu_X10_step l D tc sk (Ta 0) (Ta 1) (Tv 0) vy_20 vy_21 sv_181 sv_182 (Tf 1) he_183) k_478 k_620 k_476 k_477 k_96 pl_X10_step ⟨Nat.le_of_ble_eq_true rfl, Nat.le_of_ble_eq_true rfl⟩ rfl rfl (va_recv hK hP (ci := 10) (q0 := 2) rfl rfl) hP hD hS [2, 3] [0, 1] rfl rfl rfl rfl rfl (by decide) rfl hl.1 rfl (Nat.le_of_ble_eq_true rfl) dX7_read_64 ⟨Nat.le_of_ble_eq_true rfl, Nat.le_of_ble_eq_true rfl⟩ (fun v_184 u_185 H locs hv_186 hP₀ hD₀ hS₀ => ?_)
            obtain ⟨sv_187, sv_188, sv_189⟩ := u_185
            obtain ⟨rfl, he_190⟩ := hv_186
            have he_190 : (0 ≤ ((Tv 0) : Int32).toInt ∧ ((Tv 0) : Int32).toInt ≤ 400 ∧ 0 ≤ (sv_187 : Int32).toInt ∧ (sv_187 : Int32).toInt ≤ 400 ∧ 0 ≤ (sv_188 : Int32).toInt ∧ (sv_188 : Int32).toInt ≤ 400) := he_190
            refine W.eq (g2 := F0 m 67 ls []) rfl ?_
            replace hP : va_P D classes [((Va 0), .inr (7, [.ref (Va 1), .int vy_17, .int vy_18])), ((Va 1), .inl (tc 0, 400, .inl vy_19)), ((Ta 0), .inr (10, [.ref (Ta 1), .int (Tv 0), .int sv_187, .int sv_188, .int sv_189, .int sv_182])), ((Ta 1), .inl (tc 0, 400, .inl (Tf 1)))] H := hP₀
            replace hD : va_D A [((Va 0), .inr (7, [.ref (Va 1), .int vy_17, .int vy_18])), ((Va 1), .inl (tc 0, 400, .inl vy_19)), ((Ta 0), .inr (10, [.ref (Ta 1), .int (Tv 0), .int sv_187, .int sv_188, .int sv_189, .int sv_182])), ((Ta 1), .inl (tc 0, 400, .inl (Tf 1)))] := hD₀
            replace hS := hS₀
            clear hP₀ hD₀ hS₀
            refine lv_aload_n hx hb dX7_read_67 rfl (lv_at hl 1 rfl) ?_
            refine lv_aload_n hx hb dX7_read_68 rfl (lv_at hl 2 rfl) ?_
            refine cV (a := (Va 0)) (As := [.ref (Ta 0)]) (rest := []) (wr := []) ⟨hx, hb, hml, hown, hts⟩ hK hX hA (cu_X7_readSum l D tc sk (Va 0) (Va 1) vy_17 vy_18 vy_19 (Ta 0) (Ta 1) (Tv 0) sv_187 sv_188 sv_189 sv_182 (Tf 1) he_190) k_624 k_621 k_623 k_7 k_99 pl_X7_readSum ⟨Nat.le_of_ble_eq_true rfl, Nat.le_of_ble_eq_true rfl⟩ rfl rfl (va_recv hK hP (ci := 7) (q0 := 0) rfl rfl) hP hD hS [0, 1, 2, 3] [] rfl rfl rfl rfl rfl (by decide) rfl hl.1 rfl (Nat.le_of_ble_eq_true rfl) dX7_read_69 ⟨Nat.le_of_ble_eq_true rfl, Nat.le_of_ble_eq_true rfl⟩ (fun v_191 u_192 H locs hv_193 hP₀ hD₀ hS₀ => ?_)
            obtain ⟨sv_194, sv_195, sv_196, sv_197, sv_198, sv_199, sv_200⟩ := u_192
            obtain ⟨rfl, he_201⟩ := hv_193
            have he_201 : (0 ≤ ((Tv 0) : Int32).toInt ∧ ((Tv 0) : Int32).toInt ≤ 400 ∧ 0 ≤ (sv_197 : Int32).toInt ∧ (sv_197 : Int32).toInt ≤ 400 ∧ 0 ≤ (sv_198 : Int32).toInt ∧ (sv_198 : Int32).toInt ≤ 400) := he_201
            refine W.eq (g2 := F0 m 72 ls []) rfl ?_
            replace hP : va_P D classes [((Va 0), .inr (7, [.ref (Va 1), .int sv_194, .int sv_195])), ((Va 1), .inl (tc 0, 400, .inl sv_196)), ((Ta 0), .inr (10, [.ref (Ta 1), .int (Tv 0), .int sv_197, .int sv_198, .int sv_199, .int sv_200])), ((Ta 1), .inl (tc 0, 400, .inl (Tf 1)))] H := hP₀
            replace hD : va_D A [((Va 0), .inr (7, [.ref (Va 1), .int sv_194, .int sv_195])), ((Va 1), .inl (tc 0, 400, .inl sv_196)), ((Ta 0), .inr (10, [.ref (Ta 1), .int (Tv 0), .int sv_197, .int sv_198, .int sv_199, .int sv_200])), ((Ta 1), .inl (tc 0, 400, .inl (Tf 1)))] := hD₀
            replace hS := hS₀
            clear hP₀ hD₀ hS₀
            refine lv_aload_n hx hb dX7_read_72 rfl (lv_at hl 2 rfl) ?_
            refine va_ldcS hx hb hown (sx_3 hX) dX7_read_73 ?_
            have ha_202 : (3 : Nat) < 7 := by
              have z_1 := Int32.le_iff_toInt_le.mp (Int32.not_lt.mp c_30)
              have z_2 := congrArg Int32.toInt c_53
              have z_3 := congrArg Int32.toInt c_60
              have y_0 : (0 : Int32).toInt = 0 := by decide
              have y_12 : (12 : Int32).toInt = 12 := by decide
              have y_3 : (3 : Int32).toInt = 3 := by decide
              omega
            refine cV (a := (Ta 0)) (As := [.ref (sk.1 3)]) (rest := []) (wr := [((Va 0), .inr (7, [.ref (Va 1), .int sv_194, .int sv_195])), ((Va 1), .inl (tc 0, 400, .inl sv_196))]) ⟨hx, hb, hml, hown, hts⟩ hK hX hA (cu_X10_takesWord l D tc sk (Ta 0) (Ta 1) (Tv 0) sv_197 sv_198 sv_199 sv_200 (Tf 1) 3 ha_202 he_201) k_650 k_647 k_648 k_649 k_96 pl_X10_takesWord ⟨Nat.le_of_ble_eq_true rfl, Nat.le_of_ble_eq_true rfl⟩ rfl rfl (va_recv hK hP (ci := 10) (q0 := 2) rfl rfl) hP hD hS [2, 3] [0, 1] rfl rfl rfl rfl rfl (by decide) rfl hl.1 rfl (Nat.le_of_ble_eq_true rfl) dX7_read_75 ⟨Nat.le_of_ble_eq_true rfl, Nat.le_of_ble_eq_true rfl⟩ (fun v_203 u_204 H locs hv_205 hP₀ hD₀ hS₀ => ?_)
            obtain ⟨sv_206, sv_207, sv_208⟩ := u_204
            obtain ⟨r_209, rfl, he_210⟩ := hv_205
            have he_210 : ((r_209.toInt = 0 ∨ r_209.toInt = 1)) ∧ (0 ≤ ((Tv 0) : Int32).toInt ∧ ((Tv 0) : Int32).toInt ≤ 400 ∧ 0 ≤ (sv_206 : Int32).toInt ∧ (sv_206 : Int32).toInt ≤ 400 ∧ 0 ≤ (sv_207 : Int32).toInt ∧ (sv_207 : Int32).toInt ≤ 400) := he_210
            refine W.eq (g2 := F0 m 78 ls [.int r_209]) rfl ?_
            replace hP : va_P D classes [((Va 0), .inr (7, [.ref (Va 1), .int sv_194, .int sv_195])), ((Va 1), .inl (tc 0, 400, .inl sv_196)), ((Ta 0), .inr (10, [.ref (Ta 1), .int (Tv 0), .int sv_206, .int sv_207, .int sv_208, .int sv_200])), ((Ta 1), .inl (tc 0, 400, .inl (Tf 1)))] H := hP₀
            replace hD : va_D A [((Va 0), .inr (7, [.ref (Va 1), .int sv_194, .int sv_195])), ((Va 1), .inl (tc 0, 400, .inl sv_196)), ((Ta 0), .inr (10, [.ref (Ta 1), .int (Tv 0), .int sv_206, .int sv_207, .int sv_208, .int sv_200])), ((Ta 1), .inl (tc 0, 400, .inl (Tf 1)))] := hD₀
            replace hS := hS₀
            clear hP₀ hD₀ hS₀
            refine lv_if_eq (tgt := 96) hx hb dX7_read_78 (by decide) (fun c_211 => ?_) (fun c_211 => ?_)
            · skip
              refine lv_aload_n hx hb dX7_read_96 rfl (lv_at hl 1 rfl) ?_
              refine lv_bipush (v := (-2)) hx hb dX7_read_97 (by decide) ?_
              refine cV (a := (Va 0)) (As := [.int (-2)]) (rest := []) (wr := [((Ta 0), .inr (10, [.ref (Ta 1), .int (Tv 0), .int sv_206, .int sv_207, .int sv_208, .int sv_200])), ((Ta 1), .inl (tc 0, 400, .inl (Tf 1)))]) ⟨hx, hb, hml, hown, hts⟩ hK hX hA (cu_X7_put l D tc sk (Va 0) (Va 1) sv_194 sv_195 sv_196 (-2)) k_642 k_639 k_641 k_10 k_99 pl_X7_put ⟨Nat.le_of_ble_eq_true rfl, Nat.le_of_ble_eq_true rfl⟩ rfl rfl (va_recv hK hP (ci := 7) (q0 := 0) rfl rfl) hP hD hS [0, 1] [2, 3] rfl rfl rfl rfl rfl (by decide) rfl hl.1 rfl (Nat.le_of_ble_eq_true rfl) dX7_read_99 ⟨Nat.le_of_ble_eq_true rfl, Nat.le_of_ble_eq_true rfl⟩ (fun v_212 u_213 H locs hv_214 hP₀ hD₀ hS₀ => ?_)
              obtain ⟨sv_215, sv_216⟩ := u_213
              obtain rfl : v_212 = none := hv_214
              refine W.eq (g2 := F0 m 102 ls []) rfl ?_
              replace hP : va_P D classes [((Ta 0), .inr (10, [.ref (Ta 1), .int (Tv 0), .int sv_206, .int sv_207, .int sv_208, .int sv_200])), ((Ta 1), .inl (tc 0, 400, .inl (Tf 1))), ((Va 0), .inr (7, [.ref (Va 1), .int sv_215, .int sv_195])), ((Va 1), .inl (tc 0, 400, .inl sv_216))] H := hP₀
              replace hD : va_D A [((Ta 0), .inr (10, [.ref (Ta 1), .int (Tv 0), .int sv_206, .int sv_207, .int sv_208, .int sv_200])), ((Ta 1), .inl (tc 0, 400, .inl (Tf 1))), ((Va 0), .inr (7, [.ref (Va 1), .int sv_215, .int sv_195])), ((Va 1), .inl (tc 0, 400, .inl sv_216))] := hD₀
              replace hS := hS₀
              clear hP₀ hD₀ hS₀
              obtain ⟨x_217, ex_217⟩ : ∃ y : Int32, y = vy_16 + 1 := ⟨_, rfl⟩
              refine lv_iinc (v := x_217) (lv' := [(2, .int x_217), (0, .ref (Va 0)), (1, .ref (Ta 0))]) hx hb dX7_read_102 hl (k := 0) rfl (by rw [ex_217]; rfl) (by decide) rfl (fun ls hl₀ => ?_)
              replace hl := hl₀
              clear hl₀
              refine lv_goto (tgt := 16) hx hb dX7_read_105 (by decide) ?_
              have hb_218 : 13 - (x_217 : Int32).toInt < 13 - (vy_16 : Int32).toInt ∧ 1 ≤ 13 - (vy_16 : Int32).toInt := by
                have z_1 := Int32.le_iff_toInt_le.mp (Int32.not_lt.mp c_30)
                have z_2 := congrArg Int32.toInt c_53
                have z_3 := congrArg Int32.toInt c_60
                have z_4 := congrArg Int32.toInt c_211
                have y_0 : (0 : Int32).toInt = 0 := by decide
                have y_12 : (12 : Int32).toInt = 12 := by decide
                have y_1 : (1 : Int32).toInt = 1 := by decide
                have t_x_217 : x_217.toInt = (vy_16 : Int32).toInt + (1 : Int32).toInt := by rw [ex_217]; exact add_toInt (by omega) (by omega)
                omega
              have ha_219 : 0 ≤ (x_217 : Int32).toInt := by
                have z_1 := Int32.le_iff_toInt_le.mp (Int32.not_lt.mp c_30)
                have z_2 := congrArg Int32.toInt c_53
                have z_3 := congrArg Int32.toInt c_60
                have z_4 := congrArg Int32.toInt c_211
                have y_0 : (0 : Int32).toInt = 0 := by decide
                have y_12 : (12 : Int32).toInt = 12 := by decide
                have y_1 : (1 : Int32).toInt = 1 := by decide
                have t_x_217 : x_217.toInt = (vy_16 : Int32).toInt + (1 : Int32).toInt := by rw [ex_217]; exact add_toInt (by omega) (by omega)
                omega
              exact ih_25 x_217 sv_215 sv_195 sv_216 sv_206 sv_207 sv_208 sv_200 _ _ _ (by omega) ha_219 he_210.2 (hP.sub [2, 3, 0, 1] rfl) (hD.sub [2, 3, 0, 1] rfl rfl) hS (lv_sub hl [0, 1, 2] rfl)
            · skip
              refine lv_aload_n hx hb dX7_read_81 rfl (lv_at hl 1 rfl) ?_
              refine lv_aload_n hx hb dX7_read_82 rfl (lv_at hl 2 rfl) ?_
              refine lv_iconst (v := 0) hx hb dX7_read_83 (by decide) ?_
              refine cV (a := (Va 0)) (As := [.ref (Ta 0), .int 0]) (rest := []) (wr := []) ⟨hx, hb, hml, hown, hts⟩ hK hX hA (cu_X7_readTest_0 l D tc sk (Va 0) (Va 1) sv_194 sv_195 sv_196 (Ta 0) (Ta 1) (Tv 0) sv_206 sv_207 sv_208 sv_200 (Tf 1) he_210.2) k_655 k_652 k_654 k_11 k_99 pl_X7_readTest ⟨Nat.le_of_ble_eq_true rfl, Nat.le_of_ble_eq_true rfl⟩ rfl rfl (va_recv hK hP (ci := 7) (q0 := 0) rfl rfl) hP hD hS [0, 1, 2, 3] [] rfl rfl rfl rfl rfl (by decide) rfl hl.1 rfl (Nat.le_of_ble_eq_true rfl) dX7_read_84 ⟨Nat.le_of_ble_eq_true rfl, Nat.le_of_ble_eq_true rfl⟩ (fun v_220 u_221 H locs hv_222 hP₀ hD₀ hS₀ => ?_)
              obtain ⟨sv_223, sv_224, sv_225, sv_226, sv_227, sv_228, sv_229⟩ := u_221
              obtain ⟨rfl, he_230⟩ := hv_222
              have he_230 : (0 ≤ ((Tv 0) : Int32).toInt ∧ ((Tv 0) : Int32).toInt ≤ 400 ∧ 0 ≤ (sv_226 : Int32).toInt ∧ (sv_226 : Int32).toInt ≤ 400 ∧ 0 ≤ (sv_227 : Int32).toInt ∧ (sv_227 : Int32).toInt ≤ 400) := he_230
              refine W.eq (g2 := F0 m 87 ls []) rfl ?_
              replace hP : va_P D classes [((Va 0), .inr (7, [.ref (Va 1), .int sv_223, .int sv_224])), ((Va 1), .inl (tc 0, 400, .inl sv_225)), ((Ta 0), .inr (10, [.ref (Ta 1), .int (Tv 0), .int sv_226, .int sv_227, .int sv_228, .int sv_229])), ((Ta 1), .inl (tc 0, 400, .inl (Tf 1)))] H := hP₀
              replace hD : va_D A [((Va 0), .inr (7, [.ref (Va 1), .int sv_223, .int sv_224])), ((Va 1), .inl (tc 0, 400, .inl sv_225)), ((Ta 0), .inr (10, [.ref (Ta 1), .int (Tv 0), .int sv_226, .int sv_227, .int sv_228, .int sv_229])), ((Ta 1), .inl (tc 0, 400, .inl (Tf 1)))] := hD₀
              replace hS := hS₀
              clear hP₀ hD₀ hS₀
              refine lv_aload_n hx hb dX7_read_87 rfl (lv_at hl 1 rfl) ?_
              refine lv_bipush (v := (-3)) hx hb dX7_read_88 (by decide) ?_
              refine cV (a := (Va 0)) (As := [.int (-3)]) (rest := []) (wr := [((Ta 0), .inr (10, [.ref (Ta 1), .int (Tv 0), .int sv_226, .int sv_227, .int sv_228, .int sv_229])), ((Ta 1), .inl (tc 0, 400, .inl (Tf 1)))]) ⟨hx, hb, hml, hown, hts⟩ hK hX hA (cu_X7_put l D tc sk (Va 0) (Va 1) sv_223 sv_224 sv_225 (-3)) k_642 k_639 k_641 k_10 k_99 pl_X7_put ⟨Nat.le_of_ble_eq_true rfl, Nat.le_of_ble_eq_true rfl⟩ rfl rfl (va_recv hK hP (ci := 7) (q0 := 0) rfl rfl) hP hD hS [0, 1] [2, 3] rfl rfl rfl rfl rfl (by decide) rfl hl.1 rfl (Nat.le_of_ble_eq_true rfl) dX7_read_90 ⟨Nat.le_of_ble_eq_true rfl, Nat.le_of_ble_eq_true rfl⟩ (fun v_231 u_232 H locs hv_233 hP₀ hD₀ hS₀ => ?_)
              obtain ⟨sv_234, sv_235⟩ := u_232
              obtain rfl : v_231 = none := hv_233
              refine W.eq (g2 := F0 m 93 ls []) rfl ?_
              replace hP : va_P D classes [((Ta 0), .inr (10, [.ref (Ta 1), .int (Tv 0), .int sv_226, .int sv_227, .int sv_228, .int sv_229])), ((Ta 1), .inl (tc 0, 400, .inl (Tf 1))), ((Va 0), .inr (7, [.ref (Va 1), .int sv_234, .int sv_224])), ((Va 1), .inl (tc 0, 400, .inl sv_235))] H := hP₀
              replace hD : va_D A [((Ta 0), .inr (10, [.ref (Ta 1), .int (Tv 0), .int sv_226, .int sv_227, .int sv_228, .int sv_229])), ((Ta 1), .inl (tc 0, 400, .inl (Tf 1))), ((Va 0), .inr (7, [.ref (Va 1), .int sv_234, .int sv_224])), ((Va 1), .inl (tc 0, 400, .inl sv_235))] := hD₀
              replace hS := hS₀
              clear hP₀ hD₀ hS₀
              refine lv_goto (tgt := 102) hx hb dX7_read_93 (by decide) ?_
              obtain ⟨x_236, ex_236⟩ : ∃ y : Int32, y = vy_16 + 1 := ⟨_, rfl⟩
              refine lv_iinc (v := x_236) (lv' := [(2, .int x_236), (0, .ref (Va 0)), (1, .ref (Ta 0))]) hx hb dX7_read_102 hl (k := 0) rfl (by rw [ex_236]; rfl) (by decide) rfl (fun ls hl₀ => ?_)
              replace hl := hl₀
              clear hl₀
              refine lv_goto (tgt := 16) hx hb dX7_read_105 (by decide) ?_
              have hb_237 : 13 - (x_236 : Int32).toInt < 13 - (vy_16 : Int32).toInt ∧ 1 ≤ 13 - (vy_16 : Int32).toInt := by
                have z_1 := Int32.le_iff_toInt_le.mp (Int32.not_lt.mp c_30)
                have z_2 := congrArg Int32.toInt c_53
                have z_3 := congrArg Int32.toInt c_60
                have z_4 : ¬ (r_209 : Int32).toInt = (0 : Int32).toInt := fun z => c_211 (Int32.toInt_inj.mp z)
                have y_0 : (0 : Int32).toInt = 0 := by decide
                have y_12 : (12 : Int32).toInt = 12 := by decide
                have y_1 : (1 : Int32).toInt = 1 := by decide
                have t_x_236 : x_236.toInt = (vy_16 : Int32).toInt + (1 : Int32).toInt := by rw [ex_236]; exact add_toInt (by omega) (by omega)
                omega
              have ha_238 : 0 ≤ (x_236 : Int32).toInt := by
                have z_1 := Int32.le_iff_toInt_le.mp (Int32.not_lt.mp c_30)
                have z_2 := congrArg Int32.toInt c_53
                have z_3 := congrArg Int32.toInt c_60
                have z_4 : ¬ (r_209 : Int32).toInt = (0 : Int32).toInt := fun z => c_211 (Int32.toInt_inj.mp z)
                have y_0 : (0 : Int32).toInt = 0 := by decide
                have y_12 : (12 : Int32).toInt = 12 := by decide
                have y_1 : (1 : Int32).toInt = 1 := by decide
                have t_x_236 : x_236.toInt = (vy_16 : Int32).toInt + (1 : Int32).toInt := by rw [ex_236]; exact add_toInt (by omega) (by omega)
                omega
              exact ih_25 x_236 sv_234 sv_224 sv_235 sv_226 sv_227 sv_228 sv_229 _ _ _ (by omega) ha_238 he_230 (hP.sub [2, 3, 0, 1] rfl) (hD.sub [2, 3, 0, 1] rfl rfl) hS (lv_sub hl [0, 1, 2] rfl)
        · skip
          refine lv_aload_n hx hb dX7_read_26 rfl (lv_at hl 2 rfl) ?_
          refine lv_bipush (v := 59) hx hb dX7_read_27 (by decide) ?_
          refine cV (a := (Ta 0)) (As := [.int 59]) (rest := []) (wr := [((Va 0), .inr (7, [.ref (Va 1), .int vy_17, .int vy_18])), ((Va 1), .inl (tc 0, 400, .inl vy_19))]) ⟨hx, hb, hml, hown, hts⟩ hK hX hA (cu_X10_takes l D tc sk (Ta 0) (Ta 1) (Tv 0) vy_20 vy_21 vy_22 vy_23 (Tf 1) 59 pf_28) k_492 k_613 k_490 k_491 k_96 pl_X10_takes ⟨Nat.le_of_ble_eq_true rfl, Nat.le_of_ble_eq_true rfl⟩ rfl rfl (va_recv hK hP (ci := 10) (q0 := 2) rfl rfl) hP hD hS [2, 3] [0, 1] rfl rfl rfl rfl rfl (by decide) rfl hl.1 rfl (Nat.le_of_ble_eq_true rfl) dX7_read_29 ⟨Nat.le_of_ble_eq_true rfl, Nat.le_of_ble_eq_true rfl⟩ (fun v_239 u_240 H locs hv_241 hP₀ hD₀ hS₀ => ?_)
          obtain ⟨sv_242, sv_243, sv_244⟩ := u_240
          obtain ⟨r_245, rfl, he_246⟩ := hv_241
          have he_246 : ((r_245.toInt = 0 ∨ (r_245.toInt = 1 ∧ vy_22.toInt = (59 : Int32).toInt))) ∧ (0 ≤ ((Tv 0) : Int32).toInt ∧ ((Tv 0) : Int32).toInt ≤ 400 ∧ 0 ≤ (sv_242 : Int32).toInt ∧ (sv_242 : Int32).toInt ≤ 400 ∧ 0 ≤ (sv_243 : Int32).toInt ∧ (sv_243 : Int32).toInt ≤ 400) := he_246
          refine W.eq (g2 := F0 m 32 ls [.int r_245]) rfl ?_
          replace hP : va_P D classes [((Va 0), .inr (7, [.ref (Va 1), .int vy_17, .int vy_18])), ((Va 1), .inl (tc 0, 400, .inl vy_19)), ((Ta 0), .inr (10, [.ref (Ta 1), .int (Tv 0), .int sv_242, .int sv_243, .int sv_244, .int vy_23])), ((Ta 1), .inl (tc 0, 400, .inl (Tf 1)))] H := hP₀
          replace hD : va_D A [((Va 0), .inr (7, [.ref (Va 1), .int vy_17, .int vy_18])), ((Va 1), .inl (tc 0, 400, .inl vy_19)), ((Ta 0), .inr (10, [.ref (Ta 1), .int (Tv 0), .int sv_242, .int sv_243, .int sv_244, .int vy_23])), ((Ta 1), .inl (tc 0, 400, .inl (Tf 1)))] := hD₀
          replace hS := hS₀
          clear hP₀ hD₀ hS₀
          refine lv_if_eq (tgt := 108) hx hb dX7_read_32 (by decide) (fun c_247 => ?_) (fun c_247 => ?_)
          · skip
            refine lv_aload_n hx hb dX7_read_108 rfl (lv_at hl 2 rfl) ?_
            refine cV (a := (Ta 0)) (As := []) (rest := []) (wr := [((Va 0), .inr (7, [.ref (Va 1), .int vy_17, .int vy_18])), ((Va 1), .inl (tc 0, 400, .inl vy_19))]) ⟨hx, hb, hml, hown, hts⟩ hK hX hA (cu_X10_finish l D tc sk (Ta 0) (Ta 1) (Tv 0) sv_242 sv_243 sv_244 vy_23 (Tf 1) he_246.2) k_595 k_666 k_593 k_594 k_96 pl_X10_finish ⟨Nat.le_of_ble_eq_true rfl, Nat.le_of_ble_eq_true rfl⟩ rfl rfl (va_recv hK hP (ci := 10) (q0 := 2) rfl rfl) hP hD hS [2, 3] [0, 1] rfl rfl rfl rfl rfl (by decide) rfl hl.1 rfl (Nat.le_of_ble_eq_true rfl) dX7_read_109 ⟨Nat.le_of_ble_eq_true rfl, Nat.le_of_ble_eq_true rfl⟩ (fun v_248 u_249 H locs hv_250 hP₀ hD₀ hS₀ => ?_)
            obtain ⟨sv_251, sv_252⟩ := u_249
            obtain ⟨rfl, he_253⟩ := hv_250
            have he_253 : (0 ≤ ((Tv 0) : Int32).toInt ∧ ((Tv 0) : Int32).toInt ≤ 400 ∧ 0 ≤ (sv_242 : Int32).toInt ∧ (sv_242 : Int32).toInt ≤ 400 ∧ 0 ≤ (sv_243 : Int32).toInt ∧ (sv_243 : Int32).toInt ≤ 400) := he_253
            refine W.eq (g2 := F0 m 112 ls []) rfl ?_
            replace hP : va_P D classes [((Va 0), .inr (7, [.ref (Va 1), .int vy_17, .int vy_18])), ((Va 1), .inl (tc 0, 400, .inl vy_19)), ((Ta 0), .inr (10, [.ref (Ta 1), .int (Tv 0), .int sv_242, .int sv_243, .int sv_251, .int sv_252])), ((Ta 1), .inl (tc 0, 400, .inl (Tf 1)))] H := hP₀
            replace hD : va_D A [((Va 0), .inr (7, [.ref (Va 1), .int vy_17, .int vy_18])), ((Va 1), .inl (tc 0, 400, .inl vy_19)), ((Ta 0), .inr (10, [.ref (Ta 1), .int (Tv 0), .int sv_242, .int sv_243, .int sv_251, .int sv_252])), ((Ta 1), .inl (tc 0, 400, .inl (Tf 1)))] := hD₀
            replace hS := hS₀
            clear hP₀ hD₀ hS₀
            refine lv_aload_n hx hb dX7_read_112 rfl (lv_at hl 2 rfl) ?_
            refine gf_X7_65 hx hb hts hown hK hP 2 rfl rfl dX7_read_113 ?_
            refine lv_if_ne (tgt := 138) hx hb dX7_read_116 (by decide) (fun c_254 => ?_) (fun c_254 => ?_)
            · skip
              refine lv_null hx hb dX7_read_138 ?_
              exact retA (v := .null) hx hb hr hlk (Or.inl ⟨_, rfl⟩) (Or.inl rfl) hP hD hS (false, 0, 0, 0, 0, 0, (fun _ => 0), 0, 0, 0, 0, (fun _ => 0), 0, vy_17, vy_18, vy_19, sv_242, sv_243, sv_251, sv_252) ⟨rfl, he_253⟩ [0, 1, 2, 3] rfl rfl dX7_read_139 (Nat.le_of_ble_eq_true rfl) (Nat.le_of_ble_eq_true rfl) rfl
            · skip
              refine lv_aload_n hx hb dX7_read_119 rfl (lv_at hl 1 rfl) ?_
              refine gf_X7_15 hx hb hts hown hK hP 0 rfl rfl dX7_read_120 ?_
              refine lv_if_lt (tgt := 138) hx hb dX7_read_123 (by decide) (fun c_255 => ?_) (fun c_255 => ?_)
              · skip
                refine lv_null hx hb dX7_read_138 ?_
                exact retA (v := .null) hx hb hr hlk (Or.inl ⟨_, rfl⟩) (Or.inl rfl) hP hD hS (false, 0, 0, 0, 0, 0, (fun _ => 0), 0, 0, 0, 0, (fun _ => 0), 0, vy_17, vy_18, vy_19, sv_242, sv_243, sv_251, sv_252) ⟨rfl, he_253⟩ [0, 1, 2, 3] rfl rfl dX7_read_139 (Nat.le_of_ble_eq_true rfl) (Nat.le_of_ble_eq_true rfl) rfl
              · skip
                refine lv_aload_n hx hb dX7_read_126 rfl (lv_at hl 1 rfl) ?_
                refine gf_X7_15 hx hb hts hown hK hP 0 rfl rfl dX7_read_127 ?_
                refine lv_aload_n hx hb dX7_read_130 rfl (lv_at hl 1 rfl) ?_
                refine gf_X7_9 hx hb hts hown hK hP 0 rfl rfl dX7_read_131 ?_
                refine va_alen hx hb hK hP 1 0 rfl rfl (v := 400) rfl dX7_read_134 ?_
                refine lv_icmp_le (tgt := 140) hx hb dX7_read_135 (by decide) (fun c_256 => ?_) (fun c_256 => ?_)
                · skip
                  refine va_new (ci := 6) (fs := [.null, .null]) (C := RX6) (T := TX6) (N := 2) hx hb hts iX6 tyX6 tyX6_ok hown (hts _ k_667) (hts _ k_668) (hts _ k_112) hK hP hD hS hA rfl dfX6 (Nat.le_of_ble_eq_true rfl) (Nat.le_of_ble_eq_true rfl) dX7_read_140 (fun q_257 H hP₀ hD₀ hS₀ => ?_)
                  replace hP : va_P D classes [((Va 0), .inr (7, [.ref (Va 1), .int vy_17, .int vy_18])), ((Va 1), .inl (tc 0, 400, .inl vy_19)), ((Ta 0), .inr (10, [.ref (Ta 1), .int (Tv 0), .int sv_242, .int sv_243, .int sv_251, .int sv_252])), ((Ta 1), .inl (tc 0, 400, .inl (Tf 1))), (q_257, .inr (6, [.null, .null]))] H := hP₀
                  replace hD : va_D A [((Va 0), .inr (7, [.ref (Va 1), .int vy_17, .int vy_18])), ((Va 1), .inl (tc 0, 400, .inl vy_19)), ((Ta 0), .inr (10, [.ref (Ta 1), .int (Tv 0), .int sv_242, .int sv_243, .int sv_251, .int sv_252])), ((Ta 1), .inl (tc 0, 400, .inl (Tf 1))), (q_257, .inr (6, [.null, .null]))] := hD₀
                  replace hS := hS₀
                  clear hP₀ hD₀ hS₀
                  refine lv_dup hx hb dX7_read_143 rfl ?_
                  refine lv_aload_n hx hb dX7_read_144 rfl (lv_at hl 1 rfl) ?_
                  refine gf_X7_9 hx hb hts hown hK hP 0 rfl rfl dX7_read_145 ?_
                  refine lv_aload_n hx hb dX7_read_148 rfl (lv_at hl 1 rfl) ?_
                  refine gf_X7_15 hx hb hts hown hK hP 0 rfl rfl dX7_read_149 ?_
                  have ha_258 : 0 ≤ vy_17.toInt ∧ vy_17.toInt ≤ 400 := by
                    have z_1 := Int32.le_iff_toInt_le.mp (Int32.not_lt.mp c_30)
                    have z_2 : ¬ (vy_16 : Int32).toInt = (0 : Int32).toInt := fun z => c_53 (Int32.toInt_inj.mp z)
                    have z_3 := congrArg Int32.toInt c_247
                    have z_4 := congrArg Int32.toInt c_254
                    have z_5 := Int32.le_iff_toInt_le.mp (Int32.not_lt.mp c_255)
                    have z_6 := Int32.le_iff_toInt_le.mp c_256
                    have y_0 : (0 : Int32).toInt = 0 := by decide
                    have y_12 : (12 : Int32).toInt = 12 := by decide
                    have y_400 : (400 : Int32).toInt = 400 := by decide
                    omega
                  refine cS (As := [.ref (Va 1), .int vy_17]) (rest := [.ref q_257, .ref q_257]) (wr := [((Va 0), .inr (7, [.ref (Va 1), .int vy_17, .int vy_18])), ((Ta 0), .inr (10, [.ref (Ta 1), .int (Tv 0), .int sv_242, .int sv_243, .int sv_251, .int sv_252])), ((Ta 1), .inl (tc 0, 400, .inl (Tf 1))), (q_257, .inr (6, [.null, .null]))]) ⟨hx, hb, hml, hown, hts⟩ hK hX hA (cu_J7_copyOf l D tc sk (Va 1) vy_19 vy_17 ha_258) k_671 k_669 k_670 k_113 pl_J7_copyOf_59c91 ⟨Nat.le_of_ble_eq_true rfl, Nat.le_of_ble_eq_true rfl⟩ rfl rfl  hP hD hS [1] [0, 2, 3, 4] rfl rfl rfl rfl rfl (by decide) rfl hl.1 rfl (Nat.le_of_ble_eq_true rfl) dX7_read_152 ⟨Nat.le_of_ble_eq_true rfl, Nat.le_of_ble_eq_true rfl⟩ (fun v_259 u_260 H locs hv_261 hP₀ hD₀ hS₀ => ?_)
                  obtain ⟨sv_262, sv_263, sv_264⟩ := u_260
                  obtain ⟨rfl, pf_265⟩ := hv_261
                  have pf_265 : sv_264 ≤ 400 := pf_265
                  refine W.eq (g2 := F0 m 155 ls [.ref sv_262, .ref q_257, .ref q_257]) rfl ?_
                  replace hP : va_P D classes [((Va 0), .inr (7, [.ref (Va 1), .int vy_17, .int vy_18])), ((Ta 0), .inr (10, [.ref (Ta 1), .int (Tv 0), .int sv_242, .int sv_243, .int sv_251, .int sv_252])), ((Ta 1), .inl (tc 0, 400, .inl (Tf 1))), (q_257, .inr (6, [.null, .null])), ((Va 1), .inl (tc 0, 400, .inl vy_19)), (sv_262, .inl (tc 0, sv_264, .inl sv_263))] H := hP₀
                  replace hD : va_D A [((Va 0), .inr (7, [.ref (Va 1), .int vy_17, .int vy_18])), ((Ta 0), .inr (10, [.ref (Ta 1), .int (Tv 0), .int sv_242, .int sv_243, .int sv_251, .int sv_252])), ((Ta 1), .inl (tc 0, 400, .inl (Tf 1))), (q_257, .inr (6, [.null, .null])), ((Va 1), .inl (tc 0, 400, .inl vy_19)), (sv_262, .inl (tc 0, sv_264, .inl sv_263))] := hD₀
                  replace hS := hS₀
                  clear hP₀ hD₀ hS₀
                  refine cI (a := q_257) (As := [.ref sv_262]) (rest := [.ref q_257]) (wr := [((Va 0), .inr (7, [.ref (Va 1), .int vy_17, .int vy_18])), ((Ta 0), .inr (10, [.ref (Ta 1), .int (Tv 0), .int sv_242, .int sv_243, .int sv_251, .int sv_252])), ((Ta 1), .inl (tc 0, 400, .inl (Tf 1))), ((Va 1), .inl (tc 0, 400, .inl vy_19)), (sv_262, .inl (tc 0, sv_264, .inl sv_263))]) ⟨hx, hb, hml, hown, hts⟩ hK hX hA (ct_X6_init l D tc sk q_257 sv_262) k_685 k_683 k_684 k_112 rfl pl_X6_init ⟨Nat.le_of_ble_eq_true rfl, Nat.le_of_ble_eq_true rfl⟩ rfl rfl  hP hD hS [3] [0, 1, 2, 4, 5] rfl rfl rfl rfl rfl (by decide) rfl hl.1 rfl (Nat.le_of_ble_eq_true rfl) dX7_read_155 ⟨Nat.le_of_ble_eq_true rfl, Nat.le_of_ble_eq_true rfl⟩ (fun v_266 u_267 H locs hv_268 hP₀ hD₀ hS₀ => ?_)
                  obtain ⟨sv_269, rfl⟩ : ∃ z, z = u_267 := ⟨_, rfl⟩
                  obtain rfl : v_266 = none := hv_268
                  refine W.eq (g2 := F0 m 158 ls [.ref q_257]) rfl ?_
                  replace hP : va_P D classes [((Va 0), .inr (7, [.ref (Va 1), .int vy_17, .int vy_18])), ((Ta 0), .inr (10, [.ref (Ta 1), .int (Tv 0), .int sv_242, .int sv_243, .int sv_251, .int sv_252])), ((Ta 1), .inl (tc 0, 400, .inl (Tf 1))), ((Va 1), .inl (tc 0, 400, .inl vy_19)), (sv_262, .inl (tc 0, sv_264, .inl sv_263)), (q_257, .inr (6, [.ref sv_262, .ref sv_269])), (sv_269, .inl (tc 1, 64, .inr (.inl (fun _ => 0))))] H := hP₀
                  replace hD : va_D A [((Va 0), .inr (7, [.ref (Va 1), .int vy_17, .int vy_18])), ((Ta 0), .inr (10, [.ref (Ta 1), .int (Tv 0), .int sv_242, .int sv_243, .int sv_251, .int sv_252])), ((Ta 1), .inl (tc 0, 400, .inl (Tf 1))), ((Va 1), .inl (tc 0, 400, .inl vy_19)), (sv_262, .inl (tc 0, sv_264, .inl sv_263)), (q_257, .inr (6, [.ref sv_262, .ref sv_269])), (sv_269, .inl (tc 1, 64, .inr (.inl (fun _ => 0))))] := hD₀
                  replace hS := hS₀
                  clear hP₀ hD₀ hS₀
                  exact retA (v := .ref q_257) hx hb hr hlk (Or.inl ⟨_, rfl⟩) (Or.inr ⟨_, rfl⟩) hP hD hS (true, q_257, sv_262, sv_269, vy_17, vy_18, vy_19, sv_242, sv_243, sv_251, sv_252, sv_263, sv_264, 0, 0, (fun _ => 0), 0, 0, 0, 0) ⟨rfl, he_253, pf_265⟩ [0, 3, 1, 2, 5, 4, 6] rfl rfl dX7_read_158 (Nat.le_of_ble_eq_true rfl) (Nat.le_of_ble_eq_true rfl) rfl
                · skip
                  refine lv_null hx hb dX7_read_138 ?_
                  exact retA (v := .null) hx hb hr hlk (Or.inl ⟨_, rfl⟩) (Or.inl rfl) hP hD hS (false, 0, 0, 0, 0, 0, (fun _ => 0), 0, 0, 0, 0, (fun _ => 0), 0, vy_17, vy_18, vy_19, sv_242, sv_243, sv_251, sv_252) ⟨rfl, he_253⟩ [0, 1, 2, 3] rfl rfl dX7_read_139 (Nat.le_of_ble_eq_true rfl) (Nat.le_of_ble_eq_true rfl) rfl
          · skip
            refine lv_aload_n hx hb dX7_read_35 rfl (lv_at hl 2 rfl) ?_
            refine va_ldcS hx hb hown (sx_1 hX) dX7_read_36 ?_
            have ha_270 : (1 : Nat) < 7 := by
              have z_1 := Int32.le_iff_toInt_le.mp (Int32.not_lt.mp c_30)
              have z_2 : ¬ (vy_16 : Int32).toInt = (0 : Int32).toInt := fun z => c_53 (Int32.toInt_inj.mp z)
              have z_3 : ¬ (r_245 : Int32).toInt = (0 : Int32).toInt := fun z => c_247 (Int32.toInt_inj.mp z)
              have y_0 : (0 : Int32).toInt = 0 := by decide
              have y_12 : (12 : Int32).toInt = 12 := by decide
              have y_1 : (1 : Int32).toInt = 1 := by decide
              omega
            refine cV (a := (Ta 0)) (As := [.ref (sk.1 1)]) (rest := []) (wr := [((Va 0), .inr (7, [.ref (Va 1), .int vy_17, .int vy_18])), ((Va 1), .inl (tc 0, 400, .inl vy_19))]) ⟨hx, hb, hml, hown, hts⟩ hK hX hA (cu_X10_isWord l D tc sk (Ta 0) (Ta 1) (Tv 0) sv_242 sv_243 sv_244 vy_23 (Tf 1) 1 ha_270 he_246.2) k_618 k_615 k_616 k_617 k_96 pl_X10_isWord ⟨Nat.le_of_ble_eq_true rfl, Nat.le_of_ble_eq_true rfl⟩ rfl rfl (va_recv hK hP (ci := 10) (q0 := 2) rfl rfl) hP hD hS [2, 3] [0, 1] rfl rfl rfl rfl rfl (by decide) rfl hl.1 rfl (Nat.le_of_ble_eq_true rfl) dX7_read_38 ⟨Nat.le_of_ble_eq_true rfl, Nat.le_of_ble_eq_true rfl⟩ (fun v_271 u_272 H locs hv_273 hP₀ hD₀ hS₀ => ?_)
            obtain ⟨r_274, rfl, he_275⟩ := hv_273
            have he_275 : ((r_274.toInt = 0 ∨ r_274.toInt = 1)) ∧ (0 ≤ ((Tv 0) : Int32).toInt ∧ ((Tv 0) : Int32).toInt ≤ 400 ∧ 0 ≤ (sv_242 : Int32).toInt ∧ (sv_242 : Int32).toInt ≤ 400 ∧ 0 ≤ (sv_243 : Int32).toInt ∧ (sv_243 : Int32).toInt ≤ 400) := he_275
            refine W.eq (g2 := F0 m 41 ls [.int r_274]) rfl ?_
            replace hP : va_P D classes [((Va 0), .inr (7, [.ref (Va 1), .int vy_17, .int vy_18])), ((Va 1), .inl (tc 0, 400, .inl vy_19)), ((Ta 0), .inr (10, [.ref (Ta 1), .int (Tv 0), .int sv_242, .int sv_243, .int sv_244, .int vy_23])), ((Ta 1), .inl (tc 0, 400, .inl (Tf 1)))] H := hP₀
            replace hD : va_D A [((Va 0), .inr (7, [.ref (Va 1), .int vy_17, .int vy_18])), ((Va 1), .inl (tc 0, 400, .inl vy_19)), ((Ta 0), .inr (10, [.ref (Ta 1), .int (Tv 0), .int sv_242, .int sv_243, .int sv_244, .int vy_23])), ((Ta 1), .inl (tc 0, 400, .inl (Tf 1)))] := hD₀
            replace hS := hS₀
            clear hP₀ hD₀ hS₀
            refine lv_if_ne (tgt := 52) hx hb dX7_read_41 (by decide) (fun c_276 => ?_) (fun c_276 => ?_)
            · skip
              refine lv_iload_n hx hb dX7_read_52 rfl (lv_at hl 0 rfl) ?_
              refine lv_bipush (v := 12) hx hb dX7_read_53 (by decide) ?_
              refine lv_icmp_ne (tgt := 63) hx hb dX7_read_55 (by decide) (fun c_277 => ?_) (fun c_277 => ?_)
              · skip
                refine lv_aload_n hx hb dX7_read_63 rfl (lv_at hl 2 rfl) ?_
                refine cV (a := (Ta 0)) (As := []) (rest := []) (wr := [((Va 0), .inr (7, [.ref (Va 1), .int vy_17, .int vy_18])), ((Va 1), .inl (tc 0, 400, .inl vy_19))]) ⟨hx, hb, hml, hown, hts⟩ hK hX hA (cu_X10_step l D tc sk (Ta 0) (Ta 1) (Tv 0) sv_242 sv_243 sv_244 vy_23 (Tf 1) he_275.2) k_478 k_620 k_476 k_477 k_96 pl_X10_step ⟨Nat.le_of_ble_eq_true rfl, Nat.le_of_ble_eq_true rfl⟩ rfl rfl (va_recv hK hP (ci := 10) (q0 := 2) rfl rfl) hP hD hS [2, 3] [0, 1] rfl rfl rfl rfl rfl (by decide) rfl hl.1 rfl (Nat.le_of_ble_eq_true rfl) dX7_read_64 ⟨Nat.le_of_ble_eq_true rfl, Nat.le_of_ble_eq_true rfl⟩ (fun v_278 u_279 H locs hv_280 hP₀ hD₀ hS₀ => ?_)
                obtain ⟨sv_281, sv_282, sv_283⟩ := u_279
                obtain ⟨rfl, he_284⟩ := hv_280
                have he_284 : (0 ≤ ((Tv 0) : Int32).toInt ∧ ((Tv 0) : Int32).toInt ≤ 400 ∧ 0 ≤ (sv_281 : Int32).toInt ∧ (sv_281 : Int32).toInt ≤ 400 ∧ 0 ≤ (sv_282 : Int32).toInt ∧ (sv_282 : Int32).toInt ≤ 400) := he_284
                refine W.eq (g2 := F0 m 67 ls []) rfl ?_
                replace hP : va_P D classes [((Va 0), .inr (7, [.ref (Va 1), .int vy_17, .int vy_18])), ((Va 1), .inl (tc 0, 400, .inl vy_19)), ((Ta 0), .inr (10, [.ref (Ta 1), .int (Tv 0), .int sv_281, .int sv_282, .int sv_283, .int vy_23])), ((Ta 1), .inl (tc 0, 400, .inl (Tf 1)))] H := hP₀
                replace hD : va_D A [((Va 0), .inr (7, [.ref (Va 1), .int vy_17, .int vy_18])), ((Va 1), .inl (tc 0, 400, .inl vy_19)), ((Ta 0), .inr (10, [.ref (Ta 1), .int (Tv 0), .int sv_281, .int sv_282, .int sv_283, .int vy_23])), ((Ta 1), .inl (tc 0, 400, .inl (Tf 1)))] := hD₀
                replace hS := hS₀
                clear hP₀ hD₀ hS₀
                refine lv_aload_n hx hb dX7_read_67 rfl (lv_at hl 1 rfl) ?_
                refine lv_aload_n hx hb dX7_read_68 rfl (lv_at hl 2 rfl) ?_
                refine cV (a := (Va 0)) (As := [.ref (Ta 0)]) (rest := []) (wr := []) ⟨hx, hb, hml, hown, hts⟩ hK hX hA (cu_X7_readSum l D tc sk (Va 0) (Va 1) vy_17 vy_18 vy_19 (Ta 0) (Ta 1) (Tv 0) sv_281 sv_282 sv_283 vy_23 (Tf 1) he_284) k_624 k_621 k_623 k_7 k_99 pl_X7_readSum ⟨Nat.le_of_ble_eq_true rfl, Nat.le_of_ble_eq_true rfl⟩ rfl rfl (va_recv hK hP (ci := 7) (q0 := 0) rfl rfl) hP hD hS [0, 1, 2, 3] [] rfl rfl rfl rfl rfl (by decide) rfl hl.1 rfl (Nat.le_of_ble_eq_true rfl) dX7_read_69 ⟨Nat.le_of_ble_eq_true rfl, Nat.le_of_ble_eq_true rfl⟩ (fun v_285 u_286 H locs hv_287 hP₀ hD₀ hS₀ => ?_)
                obtain ⟨sv_288, sv_289, sv_290, sv_291, sv_292, sv_293, sv_294⟩ := u_286
                obtain ⟨rfl, he_295⟩ := hv_287
                have he_295 : (0 ≤ ((Tv 0) : Int32).toInt ∧ ((Tv 0) : Int32).toInt ≤ 400 ∧ 0 ≤ (sv_291 : Int32).toInt ∧ (sv_291 : Int32).toInt ≤ 400 ∧ 0 ≤ (sv_292 : Int32).toInt ∧ (sv_292 : Int32).toInt ≤ 400) := he_295
                refine W.eq (g2 := F0 m 72 ls []) rfl ?_
                replace hP : va_P D classes [((Va 0), .inr (7, [.ref (Va 1), .int sv_288, .int sv_289])), ((Va 1), .inl (tc 0, 400, .inl sv_290)), ((Ta 0), .inr (10, [.ref (Ta 1), .int (Tv 0), .int sv_291, .int sv_292, .int sv_293, .int sv_294])), ((Ta 1), .inl (tc 0, 400, .inl (Tf 1)))] H := hP₀
                replace hD : va_D A [((Va 0), .inr (7, [.ref (Va 1), .int sv_288, .int sv_289])), ((Va 1), .inl (tc 0, 400, .inl sv_290)), ((Ta 0), .inr (10, [.ref (Ta 1), .int (Tv 0), .int sv_291, .int sv_292, .int sv_293, .int sv_294])), ((Ta 1), .inl (tc 0, 400, .inl (Tf 1)))] := hD₀
                replace hS := hS₀
                clear hP₀ hD₀ hS₀
                refine lv_aload_n hx hb dX7_read_72 rfl (lv_at hl 2 rfl) ?_
                refine va_ldcS hx hb hown (sx_3 hX) dX7_read_73 ?_
                have ha_296 : (3 : Nat) < 7 := by
                  have z_1 := Int32.le_iff_toInt_le.mp (Int32.not_lt.mp c_30)
                  have z_2 : ¬ (vy_16 : Int32).toInt = (0 : Int32).toInt := fun z => c_53 (Int32.toInt_inj.mp z)
                  have z_3 : ¬ (r_245 : Int32).toInt = (0 : Int32).toInt := fun z => c_247 (Int32.toInt_inj.mp z)
                  have z_4 : ¬ (r_274 : Int32).toInt = (0 : Int32).toInt := fun z => c_276 (Int32.toInt_inj.mp z)
                  have z_5 : ¬ (vy_16 : Int32).toInt = (12 : Int32).toInt := fun z => c_277 (Int32.toInt_inj.mp z)
                  have y_0 : (0 : Int32).toInt = 0 := by decide
                  have y_12 : (12 : Int32).toInt = 12 := by decide
                  have y_3 : (3 : Int32).toInt = 3 := by decide
                  omega
                refine cV (a := (Ta 0)) (As := [.ref (sk.1 3)]) (rest := []) (wr := [((Va 0), .inr (7, [.ref (Va 1), .int sv_288, .int sv_289])), ((Va 1), .inl (tc 0, 400, .inl sv_290))]) ⟨hx, hb, hml, hown, hts⟩ hK hX hA (cu_X10_takesWord l D tc sk (Ta 0) (Ta 1) (Tv 0) sv_291 sv_292 sv_293 sv_294 (Tf 1) 3 ha_296 he_295) k_650 k_647 k_648 k_649 k_96 pl_X10_takesWord ⟨Nat.le_of_ble_eq_true rfl, Nat.le_of_ble_eq_true rfl⟩ rfl rfl (va_recv hK hP (ci := 10) (q0 := 2) rfl rfl) hP hD hS [2, 3] [0, 1] rfl rfl rfl rfl rfl (by decide) rfl hl.1 rfl (Nat.le_of_ble_eq_true rfl) dX7_read_75 ⟨Nat.le_of_ble_eq_true rfl, Nat.le_of_ble_eq_true rfl⟩ (fun v_297 u_298 H locs hv_299 hP₀ hD₀ hS₀ => ?_)
                obtain ⟨sv_300, sv_301, sv_302⟩ := u_298
                obtain ⟨r_303, rfl, he_304⟩ := hv_299
                have he_304 : ((r_303.toInt = 0 ∨ r_303.toInt = 1)) ∧ (0 ≤ ((Tv 0) : Int32).toInt ∧ ((Tv 0) : Int32).toInt ≤ 400 ∧ 0 ≤ (sv_300 : Int32).toInt ∧ (sv_300 : Int32).toInt ≤ 400 ∧ 0 ≤ (sv_301 : Int32).toInt ∧ (sv_301 : Int32).toInt ≤ 400) := he_304
                refine W.eq (g2 := F0 m 78 ls [.int r_303]) rfl ?_
                replace hP : va_P D classes [((Va 0), .inr (7, [.ref (Va 1), .int sv_288, .int sv_289])), ((Va 1), .inl (tc 0, 400, .inl sv_290)), ((Ta 0), .inr (10, [.ref (Ta 1), .int (Tv 0), .int sv_300, .int sv_301, .int sv_302, .int sv_294])), ((Ta 1), .inl (tc 0, 400, .inl (Tf 1)))] H := hP₀
                replace hD : va_D A [((Va 0), .inr (7, [.ref (Va 1), .int sv_288, .int sv_289])), ((Va 1), .inl (tc 0, 400, .inl sv_290)), ((Ta 0), .inr (10, [.ref (Ta 1), .int (Tv 0), .int sv_300, .int sv_301, .int sv_302, .int sv_294])), ((Ta 1), .inl (tc 0, 400, .inl (Tf 1)))] := hD₀
                replace hS := hS₀
                clear hP₀ hD₀ hS₀
                refine lv_if_eq (tgt := 96) hx hb dX7_read_78 (by decide) (fun c_305 => ?_) (fun c_305 => ?_)
                · skip
                  refine lv_aload_n hx hb dX7_read_96 rfl (lv_at hl 1 rfl) ?_
                  refine lv_bipush (v := (-2)) hx hb dX7_read_97 (by decide) ?_
                  refine cV (a := (Va 0)) (As := [.int (-2)]) (rest := []) (wr := [((Ta 0), .inr (10, [.ref (Ta 1), .int (Tv 0), .int sv_300, .int sv_301, .int sv_302, .int sv_294])), ((Ta 1), .inl (tc 0, 400, .inl (Tf 1)))]) ⟨hx, hb, hml, hown, hts⟩ hK hX hA (cu_X7_put l D tc sk (Va 0) (Va 1) sv_288 sv_289 sv_290 (-2)) k_642 k_639 k_641 k_10 k_99 pl_X7_put ⟨Nat.le_of_ble_eq_true rfl, Nat.le_of_ble_eq_true rfl⟩ rfl rfl (va_recv hK hP (ci := 7) (q0 := 0) rfl rfl) hP hD hS [0, 1] [2, 3] rfl rfl rfl rfl rfl (by decide) rfl hl.1 rfl (Nat.le_of_ble_eq_true rfl) dX7_read_99 ⟨Nat.le_of_ble_eq_true rfl, Nat.le_of_ble_eq_true rfl⟩ (fun v_306 u_307 H locs hv_308 hP₀ hD₀ hS₀ => ?_)
                  obtain ⟨sv_309, sv_310⟩ := u_307
                  obtain rfl : v_306 = none := hv_308
                  refine W.eq (g2 := F0 m 102 ls []) rfl ?_
                  replace hP : va_P D classes [((Ta 0), .inr (10, [.ref (Ta 1), .int (Tv 0), .int sv_300, .int sv_301, .int sv_302, .int sv_294])), ((Ta 1), .inl (tc 0, 400, .inl (Tf 1))), ((Va 0), .inr (7, [.ref (Va 1), .int sv_309, .int sv_289])), ((Va 1), .inl (tc 0, 400, .inl sv_310))] H := hP₀
                  replace hD : va_D A [((Ta 0), .inr (10, [.ref (Ta 1), .int (Tv 0), .int sv_300, .int sv_301, .int sv_302, .int sv_294])), ((Ta 1), .inl (tc 0, 400, .inl (Tf 1))), ((Va 0), .inr (7, [.ref (Va 1), .int sv_309, .int sv_289])), ((Va 1), .inl (tc 0, 400, .inl sv_310))] := hD₀
                  replace hS := hS₀
                  clear hP₀ hD₀ hS₀
                  obtain ⟨x_311, ex_311⟩ : ∃ y : Int32, y = vy_16 + 1 := ⟨_, rfl⟩
                  refine lv_iinc (v := x_311) (lv' := [(2, .int x_311), (0, .ref (Va 0)), (1, .ref (Ta 0))]) hx hb dX7_read_102 hl (k := 0) rfl (by rw [ex_311]; rfl) (by decide) rfl (fun ls hl₀ => ?_)
                  replace hl := hl₀
                  clear hl₀
                  refine lv_goto (tgt := 16) hx hb dX7_read_105 (by decide) ?_
                  have hb_312 : 13 - (x_311 : Int32).toInt < 13 - (vy_16 : Int32).toInt ∧ 1 ≤ 13 - (vy_16 : Int32).toInt := by
                    have z_1 := Int32.le_iff_toInt_le.mp (Int32.not_lt.mp c_30)
                    have z_2 : ¬ (vy_16 : Int32).toInt = (0 : Int32).toInt := fun z => c_53 (Int32.toInt_inj.mp z)
                    have z_3 : ¬ (r_245 : Int32).toInt = (0 : Int32).toInt := fun z => c_247 (Int32.toInt_inj.mp z)
                    have z_4 : ¬ (r_274 : Int32).toInt = (0 : Int32).toInt := fun z => c_276 (Int32.toInt_inj.mp z)
                    have z_5 : ¬ (vy_16 : Int32).toInt = (12 : Int32).toInt := fun z => c_277 (Int32.toInt_inj.mp z)
                    have z_6 := congrArg Int32.toInt c_305
                    have y_0 : (0 : Int32).toInt = 0 := by decide
                    have y_12 : (12 : Int32).toInt = 12 := by decide
                    have y_1 : (1 : Int32).toInt = 1 := by decide
                    have t_x_311 : x_311.toInt = (vy_16 : Int32).toInt + (1 : Int32).toInt := by rw [ex_311]; exact add_toInt (by omega) (by omega)
                    omega
                  have ha_313 : 0 ≤ (x_311 : Int32).toInt := by
                    have z_1 := Int32.le_iff_toInt_le.mp (Int32.not_lt.mp c_30)
                    have z_2 : ¬ (vy_16 : Int32).toInt = (0 : Int32).toInt := fun z => c_53 (Int32.toInt_inj.mp z)
                    have z_3 : ¬ (r_245 : Int32).toInt = (0 : Int32).toInt := fun z => c_247 (Int32.toInt_inj.mp z)
                    have z_4 : ¬ (r_274 : Int32).toInt = (0 : Int32).toInt := fun z => c_276 (Int32.toInt_inj.mp z)
                    have z_5 : ¬ (vy_16 : Int32).toInt = (12 : Int32).toInt := fun z => c_277 (Int32.toInt_inj.mp z)
                    have z_6 := congrArg Int32.toInt c_305
                    have y_0 : (0 : Int32).toInt = 0 := by decide
                    have y_12 : (12 : Int32).toInt = 12 := by decide
                    have y_1 : (1 : Int32).toInt = 1 := by decide
                    have t_x_311 : x_311.toInt = (vy_16 : Int32).toInt + (1 : Int32).toInt := by rw [ex_311]; exact add_toInt (by omega) (by omega)
                    omega
                  exact ih_25 x_311 sv_309 sv_289 sv_310 sv_300 sv_301 sv_302 sv_294 _ _ _ (by omega) ha_313 he_304.2 (hP.sub [2, 3, 0, 1] rfl) (hD.sub [2, 3, 0, 1] rfl rfl) hS (lv_sub hl [0, 1, 2] rfl)
                · skip
                  refine lv_aload_n hx hb dX7_read_81 rfl (lv_at hl 1 rfl) ?_
                  refine lv_aload_n hx hb dX7_read_82 rfl (lv_at hl 2 rfl) ?_
                  refine lv_iconst (v := 0) hx hb dX7_read_83 (by decide) ?_
                  refine cV (a := (Va 0)) (As := [.ref (Ta 0), .int 0]) (rest := []) (wr := []) ⟨hx, hb, hml, hown, hts⟩ hK hX hA (cu_X7_readTest_0 l D tc sk (Va 0) (Va 1) sv_288 sv_289 sv_290 (Ta 0) (Ta 1) (Tv 0) sv_300 sv_301 sv_302 sv_294 (Tf 1) he_304.2) k_655 k_652 k_654 k_11 k_99 pl_X7_readTest ⟨Nat.le_of_ble_eq_true rfl, Nat.le_of_ble_eq_true rfl⟩ rfl rfl (va_recv hK hP (ci := 7) (q0 := 0) rfl rfl) hP hD hS [0, 1, 2, 3] [] rfl rfl rfl rfl rfl (by decide) rfl hl.1 rfl (Nat.le_of_ble_eq_true rfl) dX7_read_84 ⟨Nat.le_of_ble_eq_true rfl, Nat.le_of_ble_eq_true rfl⟩ (fun v_314 u_315 H locs hv_316 hP₀ hD₀ hS₀ => ?_)
                  obtain ⟨sv_317, sv_318, sv_319, sv_320, sv_321, sv_322, sv_323⟩ := u_315
                  obtain ⟨rfl, he_324⟩ := hv_316
                  have he_324 : (0 ≤ ((Tv 0) : Int32).toInt ∧ ((Tv 0) : Int32).toInt ≤ 400 ∧ 0 ≤ (sv_320 : Int32).toInt ∧ (sv_320 : Int32).toInt ≤ 400 ∧ 0 ≤ (sv_321 : Int32).toInt ∧ (sv_321 : Int32).toInt ≤ 400) := he_324
                  refine W.eq (g2 := F0 m 87 ls []) rfl ?_
                  replace hP : va_P D classes [((Va 0), .inr (7, [.ref (Va 1), .int sv_317, .int sv_318])), ((Va 1), .inl (tc 0, 400, .inl sv_319)), ((Ta 0), .inr (10, [.ref (Ta 1), .int (Tv 0), .int sv_320, .int sv_321, .int sv_322, .int sv_323])), ((Ta 1), .inl (tc 0, 400, .inl (Tf 1)))] H := hP₀
                  replace hD : va_D A [((Va 0), .inr (7, [.ref (Va 1), .int sv_317, .int sv_318])), ((Va 1), .inl (tc 0, 400, .inl sv_319)), ((Ta 0), .inr (10, [.ref (Ta 1), .int (Tv 0), .int sv_320, .int sv_321, .int sv_322, .int sv_323])), ((Ta 1), .inl (tc 0, 400, .inl (Tf 1)))] := hD₀
                  replace hS := hS₀
                  clear hP₀ hD₀ hS₀
                  refine lv_aload_n hx hb dX7_read_87 rfl (lv_at hl 1 rfl) ?_
                  refine lv_bipush (v := (-3)) hx hb dX7_read_88 (by decide) ?_
                  refine cV (a := (Va 0)) (As := [.int (-3)]) (rest := []) (wr := [((Ta 0), .inr (10, [.ref (Ta 1), .int (Tv 0), .int sv_320, .int sv_321, .int sv_322, .int sv_323])), ((Ta 1), .inl (tc 0, 400, .inl (Tf 1)))]) ⟨hx, hb, hml, hown, hts⟩ hK hX hA (cu_X7_put l D tc sk (Va 0) (Va 1) sv_317 sv_318 sv_319 (-3)) k_642 k_639 k_641 k_10 k_99 pl_X7_put ⟨Nat.le_of_ble_eq_true rfl, Nat.le_of_ble_eq_true rfl⟩ rfl rfl (va_recv hK hP (ci := 7) (q0 := 0) rfl rfl) hP hD hS [0, 1] [2, 3] rfl rfl rfl rfl rfl (by decide) rfl hl.1 rfl (Nat.le_of_ble_eq_true rfl) dX7_read_90 ⟨Nat.le_of_ble_eq_true rfl, Nat.le_of_ble_eq_true rfl⟩ (fun v_325 u_326 H locs hv_327 hP₀ hD₀ hS₀ => ?_)
                  obtain ⟨sv_328, sv_329⟩ := u_326
                  obtain rfl : v_325 = none := hv_327
                  refine W.eq (g2 := F0 m 93 ls []) rfl ?_
                  replace hP : va_P D classes [((Ta 0), .inr (10, [.ref (Ta 1), .int (Tv 0), .int sv_320, .int sv_321, .int sv_322, .int sv_323])), ((Ta 1), .inl (tc 0, 400, .inl (Tf 1))), ((Va 0), .inr (7, [.ref (Va 1), .int sv_328, .int sv_318])), ((Va 1), .inl (tc 0, 400, .inl sv_329))] H := hP₀
                  replace hD : va_D A [((Ta 0), .inr (10, [.ref (Ta 1), .int (Tv 0), .int sv_320, .int sv_321, .int sv_322, .int sv_323])), ((Ta 1), .inl (tc 0, 400, .inl (Tf 1))), ((Va 0), .inr (7, [.ref (Va 1), .int sv_328, .int sv_318])), ((Va 1), .inl (tc 0, 400, .inl sv_329))] := hD₀
                  replace hS := hS₀
                  clear hP₀ hD₀ hS₀
                  refine lv_goto (tgt := 102) hx hb dX7_read_93 (by decide) ?_
                  obtain ⟨x_330, ex_330⟩ : ∃ y : Int32, y = vy_16 + 1 := ⟨_, rfl⟩
                  refine lv_iinc (v := x_330) (lv' := [(2, .int x_330), (0, .ref (Va 0)), (1, .ref (Ta 0))]) hx hb dX7_read_102 hl (k := 0) rfl (by rw [ex_330]; rfl) (by decide) rfl (fun ls hl₀ => ?_)
                  replace hl := hl₀
                  clear hl₀
                  refine lv_goto (tgt := 16) hx hb dX7_read_105 (by decide) ?_
                  have hb_331 : 13 - (x_330 : Int32).toInt < 13 - (vy_16 : Int32).toInt ∧ 1 ≤ 13 - (vy_16 : Int32).toInt := by
                    have z_1 := Int32.le_iff_toInt_le.mp (Int32.not_lt.mp c_30)
                    have z_2 : ¬ (vy_16 : Int32).toInt = (0 : Int32).toInt := fun z => c_53 (Int32.toInt_inj.mp z)
                    have z_3 : ¬ (r_245 : Int32).toInt = (0 : Int32).toInt := fun z => c_247 (Int32.toInt_inj.mp z)
                    have z_4 : ¬ (r_274 : Int32).toInt = (0 : Int32).toInt := fun z => c_276 (Int32.toInt_inj.mp z)
                    have z_5 : ¬ (vy_16 : Int32).toInt = (12 : Int32).toInt := fun z => c_277 (Int32.toInt_inj.mp z)
                    have z_6 : ¬ (r_303 : Int32).toInt = (0 : Int32).toInt := fun z => c_305 (Int32.toInt_inj.mp z)
                    have y_0 : (0 : Int32).toInt = 0 := by decide
                    have y_12 : (12 : Int32).toInt = 12 := by decide
                    have y_1 : (1 : Int32).toInt = 1 := by decide
                    have t_x_330 : x_330.toInt = (vy_16 : Int32).toInt + (1 : Int32).toInt := by rw [ex_330]; exact add_toInt (by omega) (by omega)
                    omega
                  have ha_332 : 0 ≤ (x_330 : Int32).toInt := by
                    have z_1 := Int32.le_iff_toInt_le.mp (Int32.not_lt.mp c_30)
                    have z_2 : ¬ (vy_16 : Int32).toInt = (0 : Int32).toInt := fun z => c_53 (Int32.toInt_inj.mp z)
                    have z_3 : ¬ (r_245 : Int32).toInt = (0 : Int32).toInt := fun z => c_247 (Int32.toInt_inj.mp z)
                    have z_4 : ¬ (r_274 : Int32).toInt = (0 : Int32).toInt := fun z => c_276 (Int32.toInt_inj.mp z)
                    have z_5 : ¬ (vy_16 : Int32).toInt = (12 : Int32).toInt := fun z => c_277 (Int32.toInt_inj.mp z)
                    have z_6 : ¬ (r_303 : Int32).toInt = (0 : Int32).toInt := fun z => c_305 (Int32.toInt_inj.mp z)
                    have y_0 : (0 : Int32).toInt = 0 := by decide
                    have y_12 : (12 : Int32).toInt = 12 := by decide
                    have y_1 : (1 : Int32).toInt = 1 := by decide
                    have t_x_330 : x_330.toInt = (vy_16 : Int32).toInt + (1 : Int32).toInt := by rw [ex_330]; exact add_toInt (by omega) (by omega)
                    omega
                  exact ih_25 x_330 sv_328 sv_318 sv_329 sv_320 sv_321 sv_322 sv_323 _ _ _ (by omega) ha_332 he_324 (hP.sub [2, 3, 0, 1] rfl) (hD.sub [2, 3, 0, 1] rfl rfl) hS (lv_sub hl [0, 1, 2] rfl)
              · skip
                refine lv_aload_n hx hb dX7_read_58 rfl (lv_at hl 2 rfl) ?_
                refine lv_iconst (v := 4) hx hb dX7_read_59 (by decide) ?_
                refine cV (a := (Ta 0)) (As := [.int 4]) (rest := []) (wr := [((Va 0), .inr (7, [.ref (Va 1), .int vy_17, .int vy_18])), ((Va 1), .inl (tc 0, 400, .inl vy_19))]) ⟨hx, hb, hml, hown, hts⟩ hK hX hA (cu_X10_fail l D tc sk (Ta 0) (Ta 1) (Tv 0) sv_242 sv_243 sv_244 vy_23 (Tf 1) 4 he_275.2) k_557 k_619 k_555 k_556 k_96 pl_X10_fail ⟨Nat.le_of_ble_eq_true rfl, Nat.le_of_ble_eq_true rfl⟩ rfl rfl (va_recv hK hP (ci := 10) (q0 := 2) rfl rfl) hP hD hS [2, 3] [0, 1] rfl rfl rfl rfl rfl (by decide) rfl hl.1 rfl (Nat.le_of_ble_eq_true rfl) dX7_read_60 ⟨Nat.le_of_ble_eq_true rfl, Nat.le_of_ble_eq_true rfl⟩ (fun v_333 u_334 H locs hv_335 hP₀ hD₀ hS₀ => ?_)
                obtain ⟨sv_336, sv_337⟩ := u_334
                obtain ⟨rfl, he_338⟩ := hv_335
                have he_338 : (0 ≤ ((Tv 0) : Int32).toInt ∧ ((Tv 0) : Int32).toInt ≤ 400 ∧ 0 ≤ (sv_242 : Int32).toInt ∧ (sv_242 : Int32).toInt ≤ 400 ∧ 0 ≤ (sv_243 : Int32).toInt ∧ (sv_243 : Int32).toInt ≤ 400) := he_338
                refine W.eq (g2 := F0 m 63 ls []) rfl ?_
                replace hP : va_P D classes [((Va 0), .inr (7, [.ref (Va 1), .int vy_17, .int vy_18])), ((Va 1), .inl (tc 0, 400, .inl vy_19)), ((Ta 0), .inr (10, [.ref (Ta 1), .int (Tv 0), .int sv_242, .int sv_243, .int sv_336, .int sv_337])), ((Ta 1), .inl (tc 0, 400, .inl (Tf 1)))] H := hP₀
                replace hD : va_D A [((Va 0), .inr (7, [.ref (Va 1), .int vy_17, .int vy_18])), ((Va 1), .inl (tc 0, 400, .inl vy_19)), ((Ta 0), .inr (10, [.ref (Ta 1), .int (Tv 0), .int sv_242, .int sv_243, .int sv_336, .int sv_337])), ((Ta 1), .inl (tc 0, 400, .inl (Tf 1)))] := hD₀
                replace hS := hS₀
                clear hP₀ hD₀ hS₀
                refine lv_aload_n hx hb dX7_read_63 rfl (lv_at hl 2 rfl) ?_
                refine cV (a := (Ta 0)) (As := []) (rest := []) (wr := [((Va 0), .inr (7, [.ref (Va 1), .int vy_17, .int vy_18])), ((Va 1), .inl (tc 0, 400, .inl vy_19))]) ⟨hx, hb, hml, hown, hts⟩ hK hX hA (cu_X10_step l D tc sk (Ta 0) (Ta 1) (Tv 0) sv_242 sv_243 sv_336 sv_337 (Tf 1) he_338) k_478 k_620 k_476 k_477 k_96 pl_X10_step ⟨Nat.le_of_ble_eq_true rfl, Nat.le_of_ble_eq_true rfl⟩ rfl rfl (va_recv hK hP (ci := 10) (q0 := 2) rfl rfl) hP hD hS [2, 3] [0, 1] rfl rfl rfl rfl rfl (by decide) rfl hl.1 rfl (Nat.le_of_ble_eq_true rfl) dX7_read_64 ⟨Nat.le_of_ble_eq_true rfl, Nat.le_of_ble_eq_true rfl⟩ (fun v_339 u_340 H locs hv_341 hP₀ hD₀ hS₀ => ?_)
                obtain ⟨sv_342, sv_343, sv_344⟩ := u_340
                obtain ⟨rfl, he_345⟩ := hv_341
                have he_345 : (0 ≤ ((Tv 0) : Int32).toInt ∧ ((Tv 0) : Int32).toInt ≤ 400 ∧ 0 ≤ (sv_342 : Int32).toInt ∧ (sv_342 : Int32).toInt ≤ 400 ∧ 0 ≤ (sv_343 : Int32).toInt ∧ (sv_343 : Int32).toInt ≤ 400) := he_345
                refine W.eq (g2 := F0 m 67 ls []) rfl ?_
                replace hP : va_P D classes [((Va 0), .inr (7, [.ref (Va 1), .int vy_17, .int vy_18])), ((Va 1), .inl (tc 0, 400, .inl vy_19)), ((Ta 0), .inr (10, [.ref (Ta 1), .int (Tv 0), .int sv_342, .int sv_343, .int sv_344, .int sv_337])), ((Ta 1), .inl (tc 0, 400, .inl (Tf 1)))] H := hP₀
                replace hD : va_D A [((Va 0), .inr (7, [.ref (Va 1), .int vy_17, .int vy_18])), ((Va 1), .inl (tc 0, 400, .inl vy_19)), ((Ta 0), .inr (10, [.ref (Ta 1), .int (Tv 0), .int sv_342, .int sv_343, .int sv_344, .int sv_337])), ((Ta 1), .inl (tc 0, 400, .inl (Tf 1)))] := hD₀
                replace hS := hS₀
                clear hP₀ hD₀ hS₀
                refine lv_aload_n hx hb dX7_read_67 rfl (lv_at hl 1 rfl) ?_
                refine lv_aload_n hx hb dX7_read_68 rfl (lv_at hl 2 rfl) ?_
                refine cV (a := (Va 0)) (As := [.ref (Ta 0)]) (rest := []) (wr := []) ⟨hx, hb, hml, hown, hts⟩ hK hX hA (cu_X7_readSum l D tc sk (Va 0) (Va 1) vy_17 vy_18 vy_19 (Ta 0) (Ta 1) (Tv 0) sv_342 sv_343 sv_344 sv_337 (Tf 1) he_345) k_624 k_621 k_623 k_7 k_99 pl_X7_readSum ⟨Nat.le_of_ble_eq_true rfl, Nat.le_of_ble_eq_true rfl⟩ rfl rfl (va_recv hK hP (ci := 7) (q0 := 0) rfl rfl) hP hD hS [0, 1, 2, 3] [] rfl rfl rfl rfl rfl (by decide) rfl hl.1 rfl (Nat.le_of_ble_eq_true rfl) dX7_read_69 ⟨Nat.le_of_ble_eq_true rfl, Nat.le_of_ble_eq_true rfl⟩ (fun v_346 u_347 H locs hv_348 hP₀ hD₀ hS₀ => ?_)
                obtain ⟨sv_349, sv_350, sv_351, sv_352, sv_353, sv_354, sv_355⟩ := u_347
                obtain ⟨rfl, he_356⟩ := hv_348
                have he_356 : (0 ≤ ((Tv 0) : Int32).toInt ∧ ((Tv 0) : Int32).toInt ≤ 400 ∧ 0 ≤ (sv_352 : Int32).toInt ∧ (sv_352 : Int32).toInt ≤ 400 ∧ 0 ≤ (sv_353 : Int32).toInt ∧ (sv_353 : Int32).toInt ≤ 400) := he_356
                refine W.eq (g2 := F0 m 72 ls []) rfl ?_
                replace hP : va_P D classes [((Va 0), .inr (7, [.ref (Va 1), .int sv_349, .int sv_350])), ((Va 1), .inl (tc 0, 400, .inl sv_351)), ((Ta 0), .inr (10, [.ref (Ta 1), .int (Tv 0), .int sv_352, .int sv_353, .int sv_354, .int sv_355])), ((Ta 1), .inl (tc 0, 400, .inl (Tf 1)))] H := hP₀
                replace hD : va_D A [((Va 0), .inr (7, [.ref (Va 1), .int sv_349, .int sv_350])), ((Va 1), .inl (tc 0, 400, .inl sv_351)), ((Ta 0), .inr (10, [.ref (Ta 1), .int (Tv 0), .int sv_352, .int sv_353, .int sv_354, .int sv_355])), ((Ta 1), .inl (tc 0, 400, .inl (Tf 1)))] := hD₀
                replace hS := hS₀
                clear hP₀ hD₀ hS₀
                refine lv_aload_n hx hb dX7_read_72 rfl (lv_at hl 2 rfl) ?_
                refine va_ldcS hx hb hown (sx_3 hX) dX7_read_73 ?_
                have ha_357 : (3 : Nat) < 7 := by
                  have z_1 := Int32.le_iff_toInt_le.mp (Int32.not_lt.mp c_30)
                  have z_2 : ¬ (vy_16 : Int32).toInt = (0 : Int32).toInt := fun z => c_53 (Int32.toInt_inj.mp z)
                  have z_3 : ¬ (r_245 : Int32).toInt = (0 : Int32).toInt := fun z => c_247 (Int32.toInt_inj.mp z)
                  have z_4 : ¬ (r_274 : Int32).toInt = (0 : Int32).toInt := fun z => c_276 (Int32.toInt_inj.mp z)
                  have z_5 := congrArg Int32.toInt c_277
                  have y_0 : (0 : Int32).toInt = 0 := by decide
                  have y_12 : (12 : Int32).toInt = 12 := by decide
                  have y_3 : (3 : Int32).toInt = 3 := by decide
                  omega
                refine cV (a := (Ta 0)) (As := [.ref (sk.1 3)]) (rest := []) (wr := [((Va 0), .inr (7, [.ref (Va 1), .int sv_349, .int sv_350])), ((Va 1), .inl (tc 0, 400, .inl sv_351))]) ⟨hx, hb, hml, hown, hts⟩ hK hX hA (cu_X10_takesWord l D tc sk (Ta 0) (Ta 1) (Tv 0) sv_352 sv_353 sv_354 sv_355 (Tf 1) 3 ha_357 he_356) k_650 k_647 k_648 k_649 k_96 pl_X10_takesWord ⟨Nat.le_of_ble_eq_true rfl, Nat.le_of_ble_eq_true rfl⟩ rfl rfl (va_recv hK hP (ci := 10) (q0 := 2) rfl rfl) hP hD hS [2, 3] [0, 1] rfl rfl rfl rfl rfl (by decide) rfl hl.1 rfl (Nat.le_of_ble_eq_true rfl) dX7_read_75 ⟨Nat.le_of_ble_eq_true rfl, Nat.le_of_ble_eq_true rfl⟩ (fun v_358 u_359 H locs hv_360 hP₀ hD₀ hS₀ => ?_)
                obtain ⟨sv_361, sv_362, sv_363⟩ := u_359
                obtain ⟨r_364, rfl, he_365⟩ := hv_360
                have he_365 : ((r_364.toInt = 0 ∨ r_364.toInt = 1)) ∧ (0 ≤ ((Tv 0) : Int32).toInt ∧ ((Tv 0) : Int32).toInt ≤ 400 ∧ 0 ≤ (sv_361 : Int32).toInt ∧ (sv_361 : Int32).toInt ≤ 400 ∧ 0 ≤ (sv_362 : Int32).toInt ∧ (sv_362 : Int32).toInt ≤ 400) := he_365
                refine W.eq (g2 := F0 m 78 ls [.int r_364]) rfl ?_
                replace hP : va_P D classes [((Va 0), .inr (7, [.ref (Va 1), .int sv_349, .int sv_350])), ((Va 1), .inl (tc 0, 400, .inl sv_351)), ((Ta 0), .inr (10, [.ref (Ta 1), .int (Tv 0), .int sv_361, .int sv_362, .int sv_363, .int sv_355])), ((Ta 1), .inl (tc 0, 400, .inl (Tf 1)))] H := hP₀
                replace hD : va_D A [((Va 0), .inr (7, [.ref (Va 1), .int sv_349, .int sv_350])), ((Va 1), .inl (tc 0, 400, .inl sv_351)), ((Ta 0), .inr (10, [.ref (Ta 1), .int (Tv 0), .int sv_361, .int sv_362, .int sv_363, .int sv_355])), ((Ta 1), .inl (tc 0, 400, .inl (Tf 1)))] := hD₀
                replace hS := hS₀
                clear hP₀ hD₀ hS₀
                refine lv_if_eq (tgt := 96) hx hb dX7_read_78 (by decide) (fun c_366 => ?_) (fun c_366 => ?_)
                · skip
                  refine lv_aload_n hx hb dX7_read_96 rfl (lv_at hl 1 rfl) ?_
                  refine lv_bipush (v := (-2)) hx hb dX7_read_97 (by decide) ?_
                  refine cV (a := (Va 0)) (As := [.int (-2)]) (rest := []) (wr := [((Ta 0), .inr (10, [.ref (Ta 1), .int (Tv 0), .int sv_361, .int sv_362, .int sv_363, .int sv_355])), ((Ta 1), .inl (tc 0, 400, .inl (Tf 1)))]) ⟨hx, hb, hml, hown, hts⟩ hK hX hA (cu_X7_put l D tc sk (Va 0) (Va 1) sv_349 sv_350 sv_351 (-2)) k_642 k_639 k_641 k_10 k_99 pl_X7_put ⟨Nat.le_of_ble_eq_true rfl, Nat.le_of_ble_eq_true rfl⟩ rfl rfl (va_recv hK hP (ci := 7) (q0 := 0) rfl rfl) hP hD hS [0, 1] [2, 3] rfl rfl rfl rfl rfl (by decide) rfl hl.1 rfl (Nat.le_of_ble_eq_true rfl) dX7_read_99 ⟨Nat.le_of_ble_eq_true rfl, Nat.le_of_ble_eq_true rfl⟩ (fun v_367 u_368 H locs hv_369 hP₀ hD₀ hS₀ => ?_)
                  obtain ⟨sv_370, sv_371⟩ := u_368
                  obtain rfl : v_367 = none := hv_369
                  refine W.eq (g2 := F0 m 102 ls []) rfl ?_
                  replace hP : va_P D classes [((Ta 0), .inr (10, [.ref (Ta 1), .int (Tv 0), .int sv_361, .int sv_362, .int sv_363, .int sv_355])), ((Ta 1), .inl (tc 0, 400, .inl (Tf 1))), ((Va 0), .inr (7, [.ref (Va 1), .int sv_370, .int sv_350])), ((Va 1), .inl (tc 0, 400, .inl sv_371))] H := hP₀
                  replace hD : va_D A [((Ta 0), .inr (10, [.ref (Ta 1), .int (Tv 0), .int sv_361, .int sv_362, .int sv_363, .int sv_355])), ((Ta 1), .inl (tc 0, 400, .inl (Tf 1))), ((Va 0), .inr (7, [.ref (Va 1), .int sv_370, .int sv_350])), ((Va 1), .inl (tc 0, 400, .inl sv_371))] := hD₀
                  replace hS := hS₀
                  clear hP₀ hD₀ hS₀
                  obtain ⟨x_372, ex_372⟩ : ∃ y : Int32, y = vy_16 + 1 := ⟨_, rfl⟩
                  refine lv_iinc (v := x_372) (lv' := [(2, .int x_372), (0, .ref (Va 0)), (1, .ref (Ta 0))]) hx hb dX7_read_102 hl (k := 0) rfl (by rw [ex_372]; rfl) (by decide) rfl (fun ls hl₀ => ?_)
                  replace hl := hl₀
                  clear hl₀
                  refine lv_goto (tgt := 16) hx hb dX7_read_105 (by decide) ?_
                  have hb_373 : 13 - (x_372 : Int32).toInt < 13 - (vy_16 : Int32).toInt ∧ 1 ≤ 13 - (vy_16 : Int32).toInt := by
                    have z_1 := Int32.le_iff_toInt_le.mp (Int32.not_lt.mp c_30)
                    have z_2 : ¬ (vy_16 : Int32).toInt = (0 : Int32).toInt := fun z => c_53 (Int32.toInt_inj.mp z)
                    have z_3 : ¬ (r_245 : Int32).toInt = (0 : Int32).toInt := fun z => c_247 (Int32.toInt_inj.mp z)
                    have z_4 : ¬ (r_274 : Int32).toInt = (0 : Int32).toInt := fun z => c_276 (Int32.toInt_inj.mp z)
                    have z_5 := congrArg Int32.toInt c_277
                    have z_6 := congrArg Int32.toInt c_366
                    have y_0 : (0 : Int32).toInt = 0 := by decide
                    have y_12 : (12 : Int32).toInt = 12 := by decide
                    have y_1 : (1 : Int32).toInt = 1 := by decide
                    have t_x_372 : x_372.toInt = (vy_16 : Int32).toInt + (1 : Int32).toInt := by rw [ex_372]; exact add_toInt (by omega) (by omega)
                    omega
                  have ha_374 : 0 ≤ (x_372 : Int32).toInt := by
                    have z_1 := Int32.le_iff_toInt_le.mp (Int32.not_lt.mp c_30)
                    have z_2 : ¬ (vy_16 : Int32).toInt = (0 : Int32).toInt := fun z => c_53 (Int32.toInt_inj.mp z)
                    have z_3 : ¬ (r_245 : Int32).toInt = (0 : Int32).toInt := fun z => c_247 (Int32.toInt_inj.mp z)
                    have z_4 : ¬ (r_274 : Int32).toInt = (0 : Int32).toInt := fun z => c_276 (Int32.toInt_inj.mp z)
                    have z_5 := congrArg Int32.toInt c_277
                    have z_6 := congrArg Int32.toInt c_366
                    have y_0 : (0 : Int32).toInt = 0 := by decide
                    have y_12 : (12 : Int32).toInt = 12 := by decide
                    have y_1 : (1 : Int32).toInt = 1 := by decide
                    have t_x_372 : x_372.toInt = (vy_16 : Int32).toInt + (1 : Int32).toInt := by rw [ex_372]; exact add_toInt (by omega) (by omega)
                    omega
                  exact ih_25 x_372 sv_370 sv_350 sv_371 sv_361 sv_362 sv_363 sv_355 _ _ _ (by omega) ha_374 he_365.2 (hP.sub [2, 3, 0, 1] rfl) (hD.sub [2, 3, 0, 1] rfl rfl) hS (lv_sub hl [0, 1, 2] rfl)
                · skip
                  refine lv_aload_n hx hb dX7_read_81 rfl (lv_at hl 1 rfl) ?_
                  refine lv_aload_n hx hb dX7_read_82 rfl (lv_at hl 2 rfl) ?_
                  refine lv_iconst (v := 0) hx hb dX7_read_83 (by decide) ?_
                  refine cV (a := (Va 0)) (As := [.ref (Ta 0), .int 0]) (rest := []) (wr := []) ⟨hx, hb, hml, hown, hts⟩ hK hX hA (cu_X7_readTest_0 l D tc sk (Va 0) (Va 1) sv_349 sv_350 sv_351 (Ta 0) (Ta 1) (Tv 0) sv_361 sv_362 sv_363 sv_355 (Tf 1) he_365.2) k_655 k_652 k_654 k_11 k_99 pl_X7_readTest ⟨Nat.le_of_ble_eq_true rfl, Nat.le_of_ble_eq_true rfl⟩ rfl rfl (va_recv hK hP (ci := 7) (q0 := 0) rfl rfl) hP hD hS [0, 1, 2, 3] [] rfl rfl rfl rfl rfl (by decide) rfl hl.1 rfl (Nat.le_of_ble_eq_true rfl) dX7_read_84 ⟨Nat.le_of_ble_eq_true rfl, Nat.le_of_ble_eq_true rfl⟩ (fun v_375 u_376 H locs hv_377 hP₀ hD₀ hS₀ => ?_)
                  obtain ⟨sv_378, sv_379, sv_380, sv_381, sv_382, sv_383, sv_384⟩ := u_376
                  obtain ⟨rfl, he_385⟩ := hv_377
                  have he_385 : (0 ≤ ((Tv 0) : Int32).toInt ∧ ((Tv 0) : Int32).toInt ≤ 400 ∧ 0 ≤ (sv_381 : Int32).toInt ∧ (sv_381 : Int32).toInt ≤ 400 ∧ 0 ≤ (sv_382 : Int32).toInt ∧ (sv_382 : Int32).toInt ≤ 400) := he_385
                  refine W.eq (g2 := F0 m 87 ls []) rfl ?_
                  replace hP : va_P D classes [((Va 0), .inr (7, [.ref (Va 1), .int sv_378, .int sv_379])), ((Va 1), .inl (tc 0, 400, .inl sv_380)), ((Ta 0), .inr (10, [.ref (Ta 1), .int (Tv 0), .int sv_381, .int sv_382, .int sv_383, .int sv_384])), ((Ta 1), .inl (tc 0, 400, .inl (Tf 1)))] H := hP₀
                  replace hD : va_D A [((Va 0), .inr (7, [.ref (Va 1), .int sv_378, .int sv_379])), ((Va 1), .inl (tc 0, 400, .inl sv_380)), ((Ta 0), .inr (10, [.ref (Ta 1), .int (Tv 0), .int sv_381, .int sv_382, .int sv_383, .int sv_384])), ((Ta 1), .inl (tc 0, 400, .inl (Tf 1)))] := hD₀
                  replace hS := hS₀
                  clear hP₀ hD₀ hS₀
                  refine lv_aload_n hx hb dX7_read_87 rfl (lv_at hl 1 rfl) ?_
                  refine lv_bipush (v := (-3)) hx hb dX7_read_88 (by decide) ?_
                  refine cV (a := (Va 0)) (As := [.int (-3)]) (rest := []) (wr := [((Ta 0), .inr (10, [.ref (Ta 1), .int (Tv 0), .int sv_381, .int sv_382, .int sv_383, .int sv_384])), ((Ta 1), .inl (tc 0, 400, .inl (Tf 1)))]) ⟨hx, hb, hml, hown, hts⟩ hK hX hA (cu_X7_put l D tc sk (Va 0) (Va 1) sv_378 sv_379 sv_380 (-3)) k_642 k_639 k_641 k_10 k_99 pl_X7_put ⟨Nat.le_of_ble_eq_true rfl, Nat.le_of_ble_eq_true rfl⟩ rfl rfl (va_recv hK hP (ci := 7) (q0 := 0) rfl rfl) hP hD hS [0, 1] [2, 3] rfl rfl rfl rfl rfl (by decide) rfl hl.1 rfl (Nat.le_of_ble_eq_true rfl) dX7_read_90 ⟨Nat.le_of_ble_eq_true rfl, Nat.le_of_ble_eq_true rfl⟩ (fun v_386 u_387 H locs hv_388 hP₀ hD₀ hS₀ => ?_)
                  obtain ⟨sv_389, sv_390⟩ := u_387
                  obtain rfl : v_386 = none := hv_388
                  refine W.eq (g2 := F0 m 93 ls []) rfl ?_
                  replace hP : va_P D classes [((Ta 0), .inr (10, [.ref (Ta 1), .int (Tv 0), .int sv_381, .int sv_382, .int sv_383, .int sv_384])), ((Ta 1), .inl (tc 0, 400, .inl (Tf 1))), ((Va 0), .inr (7, [.ref (Va 1), .int sv_389, .int sv_379])), ((Va 1), .inl (tc 0, 400, .inl sv_390))] H := hP₀
                  replace hD : va_D A [((Ta 0), .inr (10, [.ref (Ta 1), .int (Tv 0), .int sv_381, .int sv_382, .int sv_383, .int sv_384])), ((Ta 1), .inl (tc 0, 400, .inl (Tf 1))), ((Va 0), .inr (7, [.ref (Va 1), .int sv_389, .int sv_379])), ((Va 1), .inl (tc 0, 400, .inl sv_390))] := hD₀
                  replace hS := hS₀
                  clear hP₀ hD₀ hS₀
                  refine lv_goto (tgt := 102) hx hb dX7_read_93 (by decide) ?_
                  obtain ⟨x_391, ex_391⟩ : ∃ y : Int32, y = vy_16 + 1 := ⟨_, rfl⟩
                  refine lv_iinc (v := x_391) (lv' := [(2, .int x_391), (0, .ref (Va 0)), (1, .ref (Ta 0))]) hx hb dX7_read_102 hl (k := 0) rfl (by rw [ex_391]; rfl) (by decide) rfl (fun ls hl₀ => ?_)
                  replace hl := hl₀
                  clear hl₀
                  refine lv_goto (tgt := 16) hx hb dX7_read_105 (by decide) ?_
                  have hb_392 : 13 - (x_391 : Int32).toInt < 13 - (vy_16 : Int32).toInt ∧ 1 ≤ 13 - (vy_16 : Int32).toInt := by
                    have z_1 := Int32.le_iff_toInt_le.mp (Int32.not_lt.mp c_30)
                    have z_2 : ¬ (vy_16 : Int32).toInt = (0 : Int32).toInt := fun z => c_53 (Int32.toInt_inj.mp z)
                    have z_3 : ¬ (r_245 : Int32).toInt = (0 : Int32).toInt := fun z => c_247 (Int32.toInt_inj.mp z)
                    have z_4 : ¬ (r_274 : Int32).toInt = (0 : Int32).toInt := fun z => c_276 (Int32.toInt_inj.mp z)
                    have z_5 := congrArg Int32.toInt c_277
                    have z_6 : ¬ (r_364 : Int32).toInt = (0 : Int32).toInt := fun z => c_366 (Int32.toInt_inj.mp z)
                    have y_0 : (0 : Int32).toInt = 0 := by decide
                    have y_12 : (12 : Int32).toInt = 12 := by decide
                    have y_1 : (1 : Int32).toInt = 1 := by decide
                    have t_x_391 : x_391.toInt = (vy_16 : Int32).toInt + (1 : Int32).toInt := by rw [ex_391]; exact add_toInt (by omega) (by omega)
                    omega
                  have ha_393 : 0 ≤ (x_391 : Int32).toInt := by
                    have z_1 := Int32.le_iff_toInt_le.mp (Int32.not_lt.mp c_30)
                    have z_2 : ¬ (vy_16 : Int32).toInt = (0 : Int32).toInt := fun z => c_53 (Int32.toInt_inj.mp z)
                    have z_3 : ¬ (r_245 : Int32).toInt = (0 : Int32).toInt := fun z => c_247 (Int32.toInt_inj.mp z)
                    have z_4 : ¬ (r_274 : Int32).toInt = (0 : Int32).toInt := fun z => c_276 (Int32.toInt_inj.mp z)
                    have z_5 := congrArg Int32.toInt c_277
                    have z_6 : ¬ (r_364 : Int32).toInt = (0 : Int32).toInt := fun z => c_366 (Int32.toInt_inj.mp z)
                    have y_0 : (0 : Int32).toInt = 0 := by decide
                    have y_12 : (12 : Int32).toInt = 12 := by decide
                    have y_1 : (1 : Int32).toInt = 1 := by decide
                    have t_x_391 : x_391.toInt = (vy_16 : Int32).toInt + (1 : Int32).toInt := by rw [ex_391]; exact add_toInt (by omega) (by omega)
                    omega
                  exact ih_25 x_391 sv_389 sv_379 sv_390 sv_381 sv_382 sv_383 sv_384 _ _ _ (by omega) ha_393 he_385 (hP.sub [2, 3, 0, 1] rfl) (hD.sub [2, 3, 0, 1] rfl rfl) hS (lv_sub hl [0, 1, 2] rfl)
            · skip
              refine lv_aload_n hx hb dX7_read_44 rfl (lv_at hl 2 rfl) ?_
              refine lv_iconst (v := 0) hx hb dX7_read_45 (by decide) ?_
              refine cV (a := (Ta 0)) (As := [.int 0]) (rest := []) (wr := [((Va 0), .inr (7, [.ref (Va 1), .int vy_17, .int vy_18])), ((Va 1), .inl (tc 0, 400, .inl vy_19))]) ⟨hx, hb, hml, hown, hts⟩ hK hX hA (cu_X10_fail l D tc sk (Ta 0) (Ta 1) (Tv 0) sv_242 sv_243 sv_244 vy_23 (Tf 1) 0 he_275.2) k_557 k_619 k_555 k_556 k_96 pl_X10_fail ⟨Nat.le_of_ble_eq_true rfl, Nat.le_of_ble_eq_true rfl⟩ rfl rfl (va_recv hK hP (ci := 10) (q0 := 2) rfl rfl) hP hD hS [2, 3] [0, 1] rfl rfl rfl rfl rfl (by decide) rfl hl.1 rfl (Nat.le_of_ble_eq_true rfl) dX7_read_46 ⟨Nat.le_of_ble_eq_true rfl, Nat.le_of_ble_eq_true rfl⟩ (fun v_394 u_395 H locs hv_396 hP₀ hD₀ hS₀ => ?_)
              obtain ⟨sv_397, sv_398⟩ := u_395
              obtain ⟨rfl, he_399⟩ := hv_396
              have he_399 : (0 ≤ ((Tv 0) : Int32).toInt ∧ ((Tv 0) : Int32).toInt ≤ 400 ∧ 0 ≤ (sv_242 : Int32).toInt ∧ (sv_242 : Int32).toInt ≤ 400 ∧ 0 ≤ (sv_243 : Int32).toInt ∧ (sv_243 : Int32).toInt ≤ 400) := he_399
              refine W.eq (g2 := F0 m 49 ls []) rfl ?_
              replace hP : va_P D classes [((Va 0), .inr (7, [.ref (Va 1), .int vy_17, .int vy_18])), ((Va 1), .inl (tc 0, 400, .inl vy_19)), ((Ta 0), .inr (10, [.ref (Ta 1), .int (Tv 0), .int sv_242, .int sv_243, .int sv_397, .int sv_398])), ((Ta 1), .inl (tc 0, 400, .inl (Tf 1)))] H := hP₀
              replace hD : va_D A [((Va 0), .inr (7, [.ref (Va 1), .int vy_17, .int vy_18])), ((Va 1), .inl (tc 0, 400, .inl vy_19)), ((Ta 0), .inr (10, [.ref (Ta 1), .int (Tv 0), .int sv_242, .int sv_243, .int sv_397, .int sv_398])), ((Ta 1), .inl (tc 0, 400, .inl (Tf 1)))] := hD₀
              replace hS := hS₀
              clear hP₀ hD₀ hS₀
              refine lv_goto (tgt := 63) hx hb dX7_read_49 (by decide) ?_
              refine lv_aload_n hx hb dX7_read_63 rfl (lv_at hl 2 rfl) ?_
              refine cV (a := (Ta 0)) (As := []) (rest := []) (wr := [((Va 0), .inr (7, [.ref (Va 1), .int vy_17, .int vy_18])), ((Va 1), .inl (tc 0, 400, .inl vy_19))]) ⟨hx, hb, hml, hown, hts⟩ hK hX hA (cu_X10_step l D tc sk (Ta 0) (Ta 1) (Tv 0) sv_242 sv_243 sv_397 sv_398 (Tf 1) he_399) k_478 k_620 k_476 k_477 k_96 pl_X10_step ⟨Nat.le_of_ble_eq_true rfl, Nat.le_of_ble_eq_true rfl⟩ rfl rfl (va_recv hK hP (ci := 10) (q0 := 2) rfl rfl) hP hD hS [2, 3] [0, 1] rfl rfl rfl rfl rfl (by decide) rfl hl.1 rfl (Nat.le_of_ble_eq_true rfl) dX7_read_64 ⟨Nat.le_of_ble_eq_true rfl, Nat.le_of_ble_eq_true rfl⟩ (fun v_400 u_401 H locs hv_402 hP₀ hD₀ hS₀ => ?_)
              obtain ⟨sv_403, sv_404, sv_405⟩ := u_401
              obtain ⟨rfl, he_406⟩ := hv_402
              have he_406 : (0 ≤ ((Tv 0) : Int32).toInt ∧ ((Tv 0) : Int32).toInt ≤ 400 ∧ 0 ≤ (sv_403 : Int32).toInt ∧ (sv_403 : Int32).toInt ≤ 400 ∧ 0 ≤ (sv_404 : Int32).toInt ∧ (sv_404 : Int32).toInt ≤ 400) := he_406
              refine W.eq (g2 := F0 m 67 ls []) rfl ?_
              replace hP : va_P D classes [((Va 0), .inr (7, [.ref (Va 1), .int vy_17, .int vy_18])), ((Va 1), .inl (tc 0, 400, .inl vy_19)), ((Ta 0), .inr (10, [.ref (Ta 1), .int (Tv 0), .int sv_403, .int sv_404, .int sv_405, .int sv_398])), ((Ta 1), .inl (tc 0, 400, .inl (Tf 1)))] H := hP₀
              replace hD : va_D A [((Va 0), .inr (7, [.ref (Va 1), .int vy_17, .int vy_18])), ((Va 1), .inl (tc 0, 400, .inl vy_19)), ((Ta 0), .inr (10, [.ref (Ta 1), .int (Tv 0), .int sv_403, .int sv_404, .int sv_405, .int sv_398])), ((Ta 1), .inl (tc 0, 400, .inl (Tf 1)))] := hD₀
              replace hS := hS₀
              clear hP₀ hD₀ hS₀
              refine lv_aload_n hx hb dX7_read_67 rfl (lv_at hl 1 rfl) ?_
              refine lv_aload_n hx hb dX7_read_68 rfl (lv_at hl 2 rfl) ?_
              refine cV (a := (Va 0)) (As := [.ref (Ta 0)]) (rest := []) (wr := []) ⟨hx, hb, hml, hown, hts⟩ hK hX hA (cu_X7_readSum l D tc sk (Va 0) (Va 1) vy_17 vy_18 vy_19 (Ta 0) (Ta 1) (Tv 0) sv_403 sv_404 sv_405 sv_398 (Tf 1) he_406) k_624 k_621 k_623 k_7 k_99 pl_X7_readSum ⟨Nat.le_of_ble_eq_true rfl, Nat.le_of_ble_eq_true rfl⟩ rfl rfl (va_recv hK hP (ci := 7) (q0 := 0) rfl rfl) hP hD hS [0, 1, 2, 3] [] rfl rfl rfl rfl rfl (by decide) rfl hl.1 rfl (Nat.le_of_ble_eq_true rfl) dX7_read_69 ⟨Nat.le_of_ble_eq_true rfl, Nat.le_of_ble_eq_true rfl⟩ (fun v_407 u_408 H locs hv_409 hP₀ hD₀ hS₀ => ?_)
              obtain ⟨sv_410, sv_411, sv_412, sv_413, sv_414, sv_415, sv_416⟩ := u_408
              obtain ⟨rfl, he_417⟩ := hv_409
              have he_417 : (0 ≤ ((Tv 0) : Int32).toInt ∧ ((Tv 0) : Int32).toInt ≤ 400 ∧ 0 ≤ (sv_413 : Int32).toInt ∧ (sv_413 : Int32).toInt ≤ 400 ∧ 0 ≤ (sv_414 : Int32).toInt ∧ (sv_414 : Int32).toInt ≤ 400) := he_417
              refine W.eq (g2 := F0 m 72 ls []) rfl ?_
              replace hP : va_P D classes [((Va 0), .inr (7, [.ref (Va 1), .int sv_410, .int sv_411])), ((Va 1), .inl (tc 0, 400, .inl sv_412)), ((Ta 0), .inr (10, [.ref (Ta 1), .int (Tv 0), .int sv_413, .int sv_414, .int sv_415, .int sv_416])), ((Ta 1), .inl (tc 0, 400, .inl (Tf 1)))] H := hP₀
              replace hD : va_D A [((Va 0), .inr (7, [.ref (Va 1), .int sv_410, .int sv_411])), ((Va 1), .inl (tc 0, 400, .inl sv_412)), ((Ta 0), .inr (10, [.ref (Ta 1), .int (Tv 0), .int sv_413, .int sv_414, .int sv_415, .int sv_416])), ((Ta 1), .inl (tc 0, 400, .inl (Tf 1)))] := hD₀
              replace hS := hS₀
              clear hP₀ hD₀ hS₀
              refine lv_aload_n hx hb dX7_read_72 rfl (lv_at hl 2 rfl) ?_
              refine va_ldcS hx hb hown (sx_3 hX) dX7_read_73 ?_
              have ha_418 : (3 : Nat) < 7 := by
                have z_1 := Int32.le_iff_toInt_le.mp (Int32.not_lt.mp c_30)
                have z_2 : ¬ (vy_16 : Int32).toInt = (0 : Int32).toInt := fun z => c_53 (Int32.toInt_inj.mp z)
                have z_3 : ¬ (r_245 : Int32).toInt = (0 : Int32).toInt := fun z => c_247 (Int32.toInt_inj.mp z)
                have z_4 := congrArg Int32.toInt c_276
                have y_0 : (0 : Int32).toInt = 0 := by decide
                have y_12 : (12 : Int32).toInt = 12 := by decide
                have y_3 : (3 : Int32).toInt = 3 := by decide
                omega
              refine cV (a := (Ta 0)) (As := [.ref (sk.1 3)]) (rest := []) (wr := [((Va 0), .inr (7, [.ref (Va 1), .int sv_410, .int sv_411])), ((Va 1), .inl (tc 0, 400, .inl sv_412))]) ⟨hx, hb, hml, hown, hts⟩ hK hX hA (cu_X10_takesWord l D tc sk (Ta 0) (Ta 1) (Tv 0) sv_413 sv_414 sv_415 sv_416 (Tf 1) 3 ha_418 he_417) k_650 k_647 k_648 k_649 k_96 pl_X10_takesWord ⟨Nat.le_of_ble_eq_true rfl, Nat.le_of_ble_eq_true rfl⟩ rfl rfl (va_recv hK hP (ci := 10) (q0 := 2) rfl rfl) hP hD hS [2, 3] [0, 1] rfl rfl rfl rfl rfl (by decide) rfl hl.1 rfl (Nat.le_of_ble_eq_true rfl) dX7_read_75 ⟨Nat.le_of_ble_eq_true rfl, Nat.le_of_ble_eq_true rfl⟩ (fun v_419 u_420 H locs hv_421 hP₀ hD₀ hS₀ => ?_)
              obtain ⟨sv_422, sv_423, sv_424⟩ := u_420
              obtain ⟨r_425, rfl, he_426⟩ := hv_421
              have he_426 : ((r_425.toInt = 0 ∨ r_425.toInt = 1)) ∧ (0 ≤ ((Tv 0) : Int32).toInt ∧ ((Tv 0) : Int32).toInt ≤ 400 ∧ 0 ≤ (sv_422 : Int32).toInt ∧ (sv_422 : Int32).toInt ≤ 400 ∧ 0 ≤ (sv_423 : Int32).toInt ∧ (sv_423 : Int32).toInt ≤ 400) := he_426
              refine W.eq (g2 := F0 m 78 ls [.int r_425]) rfl ?_
              replace hP : va_P D classes [((Va 0), .inr (7, [.ref (Va 1), .int sv_410, .int sv_411])), ((Va 1), .inl (tc 0, 400, .inl sv_412)), ((Ta 0), .inr (10, [.ref (Ta 1), .int (Tv 0), .int sv_422, .int sv_423, .int sv_424, .int sv_416])), ((Ta 1), .inl (tc 0, 400, .inl (Tf 1)))] H := hP₀
              replace hD : va_D A [((Va 0), .inr (7, [.ref (Va 1), .int sv_410, .int sv_411])), ((Va 1), .inl (tc 0, 400, .inl sv_412)), ((Ta 0), .inr (10, [.ref (Ta 1), .int (Tv 0), .int sv_422, .int sv_423, .int sv_424, .int sv_416])), ((Ta 1), .inl (tc 0, 400, .inl (Tf 1)))] := hD₀
              replace hS := hS₀
              clear hP₀ hD₀ hS₀
              refine lv_if_eq (tgt := 96) hx hb dX7_read_78 (by decide) (fun c_427 => ?_) (fun c_427 => ?_)
              · skip
                refine lv_aload_n hx hb dX7_read_96 rfl (lv_at hl 1 rfl) ?_
                refine lv_bipush (v := (-2)) hx hb dX7_read_97 (by decide) ?_
                refine cV (a := (Va 0)) (As := [.int (-2)]) (rest := []) (wr := [((Ta 0), .inr (10, [.ref (Ta 1), .int (Tv 0), .int sv_422, .int sv_423, .int sv_424, .int sv_416])), ((Ta 1), .inl (tc 0, 400, .inl (Tf 1)))]) ⟨hx, hb, hml, hown, hts⟩ hK hX hA (cu_X7_put l D tc sk (Va 0) (Va 1) sv_410 sv_411 sv_412 (-2)) k_642 k_639 k_641 k_10 k_99 pl_X7_put ⟨Nat.le_of_ble_eq_true rfl, Nat.le_of_ble_eq_true rfl⟩ rfl rfl (va_recv hK hP (ci := 7) (q0 := 0) rfl rfl) hP hD hS [0, 1] [2, 3] rfl rfl rfl rfl rfl (by decide) rfl hl.1 rfl (Nat.le_of_ble_eq_true rfl) dX7_read_99 ⟨Nat.le_of_ble_eq_true rfl, Nat.le_of_ble_eq_true rfl⟩ (fun v_428 u_429 H locs hv_430 hP₀ hD₀ hS₀ => ?_)
                obtain ⟨sv_431, sv_432⟩ := u_429
                obtain rfl : v_428 = none := hv_430
                refine W.eq (g2 := F0 m 102 ls []) rfl ?_
                replace hP : va_P D classes [((Ta 0), .inr (10, [.ref (Ta 1), .int (Tv 0), .int sv_422, .int sv_423, .int sv_424, .int sv_416])), ((Ta 1), .inl (tc 0, 400, .inl (Tf 1))), ((Va 0), .inr (7, [.ref (Va 1), .int sv_431, .int sv_411])), ((Va 1), .inl (tc 0, 400, .inl sv_432))] H := hP₀
                replace hD : va_D A [((Ta 0), .inr (10, [.ref (Ta 1), .int (Tv 0), .int sv_422, .int sv_423, .int sv_424, .int sv_416])), ((Ta 1), .inl (tc 0, 400, .inl (Tf 1))), ((Va 0), .inr (7, [.ref (Va 1), .int sv_431, .int sv_411])), ((Va 1), .inl (tc 0, 400, .inl sv_432))] := hD₀
                replace hS := hS₀
                clear hP₀ hD₀ hS₀
                obtain ⟨x_433, ex_433⟩ : ∃ y : Int32, y = vy_16 + 1 := ⟨_, rfl⟩
                refine lv_iinc (v := x_433) (lv' := [(2, .int x_433), (0, .ref (Va 0)), (1, .ref (Ta 0))]) hx hb dX7_read_102 hl (k := 0) rfl (by rw [ex_433]; rfl) (by decide) rfl (fun ls hl₀ => ?_)
                replace hl := hl₀
                clear hl₀
                refine lv_goto (tgt := 16) hx hb dX7_read_105 (by decide) ?_
                have hb_434 : 13 - (x_433 : Int32).toInt < 13 - (vy_16 : Int32).toInt ∧ 1 ≤ 13 - (vy_16 : Int32).toInt := by
                  have z_1 := Int32.le_iff_toInt_le.mp (Int32.not_lt.mp c_30)
                  have z_2 : ¬ (vy_16 : Int32).toInt = (0 : Int32).toInt := fun z => c_53 (Int32.toInt_inj.mp z)
                  have z_3 : ¬ (r_245 : Int32).toInt = (0 : Int32).toInt := fun z => c_247 (Int32.toInt_inj.mp z)
                  have z_4 := congrArg Int32.toInt c_276
                  have z_5 := congrArg Int32.toInt c_427
                  have y_0 : (0 : Int32).toInt = 0 := by decide
                  have y_12 : (12 : Int32).toInt = 12 := by decide
                  have y_1 : (1 : Int32).toInt = 1 := by decide
                  have t_x_433 : x_433.toInt = (vy_16 : Int32).toInt + (1 : Int32).toInt := by rw [ex_433]; exact add_toInt (by omega) (by omega)
                  omega
                have ha_435 : 0 ≤ (x_433 : Int32).toInt := by
                  have z_1 := Int32.le_iff_toInt_le.mp (Int32.not_lt.mp c_30)
                  have z_2 : ¬ (vy_16 : Int32).toInt = (0 : Int32).toInt := fun z => c_53 (Int32.toInt_inj.mp z)
                  have z_3 : ¬ (r_245 : Int32).toInt = (0 : Int32).toInt := fun z => c_247 (Int32.toInt_inj.mp z)
                  have z_4 := congrArg Int32.toInt c_276
                  have z_5 := congrArg Int32.toInt c_427
                  have y_0 : (0 : Int32).toInt = 0 := by decide
                  have y_12 : (12 : Int32).toInt = 12 := by decide
                  have y_1 : (1 : Int32).toInt = 1 := by decide
                  have t_x_433 : x_433.toInt = (vy_16 : Int32).toInt + (1 : Int32).toInt := by rw [ex_433]; exact add_toInt (by omega) (by omega)
                  omega
                exact ih_25 x_433 sv_431 sv_411 sv_432 sv_422 sv_423 sv_424 sv_416 _ _ _ (by omega) ha_435 he_426.2 (hP.sub [2, 3, 0, 1] rfl) (hD.sub [2, 3, 0, 1] rfl rfl) hS (lv_sub hl [0, 1, 2] rfl)
              · skip
                refine lv_aload_n hx hb dX7_read_81 rfl (lv_at hl 1 rfl) ?_
                refine lv_aload_n hx hb dX7_read_82 rfl (lv_at hl 2 rfl) ?_
                refine lv_iconst (v := 0) hx hb dX7_read_83 (by decide) ?_
                refine cV (a := (Va 0)) (As := [.ref (Ta 0), .int 0]) (rest := []) (wr := []) ⟨hx, hb, hml, hown, hts⟩ hK hX hA (cu_X7_readTest_0 l D tc sk (Va 0) (Va 1) sv_410 sv_411 sv_412 (Ta 0) (Ta 1) (Tv 0) sv_422 sv_423 sv_424 sv_416 (Tf 1) he_426.2) k_655 k_652 k_654 k_11 k_99 pl_X7_readTest ⟨Nat.le_of_ble_eq_true rfl, Nat.le_of_ble_eq_true rfl⟩ rfl rfl (va_recv hK hP (ci := 7) (q0 := 0) rfl rfl) hP hD hS [0, 1, 2, 3] [] rfl rfl rfl rfl rfl (by decide) rfl hl.1 rfl (Nat.le_of_ble_eq_true rfl) dX7_read_84 ⟨Nat.le_of_ble_eq_true rfl, Nat.le_of_ble_eq_true rfl⟩ (fun v_436 u_437 H locs hv_438 hP₀ hD₀ hS₀ => ?_)
                obtain ⟨sv_439, sv_440, sv_441, sv_442, sv_443, sv_444, sv_445⟩ := u_437
                obtain ⟨rfl, he_446⟩ := hv_438
                have he_446 : (0 ≤ ((Tv 0) : Int32).toInt ∧ ((Tv 0) : Int32).toInt ≤ 400 ∧ 0 ≤ (sv_442 : Int32).toInt ∧ (sv_442 : Int32).toInt ≤ 400 ∧ 0 ≤ (sv_443 : Int32).toInt ∧ (sv_443 : Int32).toInt ≤ 400) := he_446
                refine W.eq (g2 := F0 m 87 ls []) rfl ?_
                replace hP : va_P D classes [((Va 0), .inr (7, [.ref (Va 1), .int sv_439, .int sv_440])), ((Va 1), .inl (tc 0, 400, .inl sv_441)), ((Ta 0), .inr (10, [.ref (Ta 1), .int (Tv 0), .int sv_442, .int sv_443, .int sv_444, .int sv_445])), ((Ta 1), .inl (tc 0, 400, .inl (Tf 1)))] H := hP₀
                replace hD : va_D A [((Va 0), .inr (7, [.ref (Va 1), .int sv_439, .int sv_440])), ((Va 1), .inl (tc 0, 400, .inl sv_441)), ((Ta 0), .inr (10, [.ref (Ta 1), .int (Tv 0), .int sv_442, .int sv_443, .int sv_444, .int sv_445])), ((Ta 1), .inl (tc 0, 400, .inl (Tf 1)))] := hD₀
                replace hS := hS₀
                clear hP₀ hD₀ hS₀
                refine lv_aload_n hx hb dX7_read_87 rfl (lv_at hl 1 rfl) ?_
                refine lv_bipush (v := (-3)) hx hb dX7_read_88 (by decide) ?_
                refine cV (a := (Va 0)) (As := [.int (-3)]) (rest := []) (wr := [((Ta 0), .inr (10, [.ref (Ta 1), .int (Tv 0), .int sv_442, .int sv_443, .int sv_444, .int sv_445])), ((Ta 1), .inl (tc 0, 400, .inl (Tf 1)))]) ⟨hx, hb, hml, hown, hts⟩ hK hX hA (cu_X7_put l D tc sk (Va 0) (Va 1) sv_439 sv_440 sv_441 (-3)) k_642 k_639 k_641 k_10 k_99 pl_X7_put ⟨Nat.le_of_ble_eq_true rfl, Nat.le_of_ble_eq_true rfl⟩ rfl rfl (va_recv hK hP (ci := 7) (q0 := 0) rfl rfl) hP hD hS [0, 1] [2, 3] rfl rfl rfl rfl rfl (by decide) rfl hl.1 rfl (Nat.le_of_ble_eq_true rfl) dX7_read_90 ⟨Nat.le_of_ble_eq_true rfl, Nat.le_of_ble_eq_true rfl⟩ (fun v_447 u_448 H locs hv_449 hP₀ hD₀ hS₀ => ?_)
                obtain ⟨sv_450, sv_451⟩ := u_448
                obtain rfl : v_447 = none := hv_449
                refine W.eq (g2 := F0 m 93 ls []) rfl ?_
                replace hP : va_P D classes [((Ta 0), .inr (10, [.ref (Ta 1), .int (Tv 0), .int sv_442, .int sv_443, .int sv_444, .int sv_445])), ((Ta 1), .inl (tc 0, 400, .inl (Tf 1))), ((Va 0), .inr (7, [.ref (Va 1), .int sv_450, .int sv_440])), ((Va 1), .inl (tc 0, 400, .inl sv_451))] H := hP₀
                replace hD : va_D A [((Ta 0), .inr (10, [.ref (Ta 1), .int (Tv 0), .int sv_442, .int sv_443, .int sv_444, .int sv_445])), ((Ta 1), .inl (tc 0, 400, .inl (Tf 1))), ((Va 0), .inr (7, [.ref (Va 1), .int sv_450, .int sv_440])), ((Va 1), .inl (tc 0, 400, .inl sv_451))] := hD₀
                replace hS := hS₀
                clear hP₀ hD₀ hS₀
                refine lv_goto (tgt := 102) hx hb dX7_read_93 (by decide) ?_
                obtain ⟨x_452, ex_452⟩ : ∃ y : Int32, y = vy_16 + 1 := ⟨_, rfl⟩
                refine lv_iinc (v := x_452) (lv' := [(2, .int x_452), (0, .ref (Va 0)), (1, .ref (Ta 0))]) hx hb dX7_read_102 hl (k := 0) rfl (by rw [ex_452]; rfl) (by decide) rfl (fun ls hl₀ => ?_)
                replace hl := hl₀
                clear hl₀
                refine lv_goto (tgt := 16) hx hb dX7_read_105 (by decide) ?_
                have hb_453 : 13 - (x_452 : Int32).toInt < 13 - (vy_16 : Int32).toInt ∧ 1 ≤ 13 - (vy_16 : Int32).toInt := by
                  have z_1 := Int32.le_iff_toInt_le.mp (Int32.not_lt.mp c_30)
                  have z_2 : ¬ (vy_16 : Int32).toInt = (0 : Int32).toInt := fun z => c_53 (Int32.toInt_inj.mp z)
                  have z_3 : ¬ (r_245 : Int32).toInt = (0 : Int32).toInt := fun z => c_247 (Int32.toInt_inj.mp z)
                  have z_4 := congrArg Int32.toInt c_276
                  have z_5 : ¬ (r_425 : Int32).toInt = (0 : Int32).toInt := fun z => c_427 (Int32.toInt_inj.mp z)
                  have y_0 : (0 : Int32).toInt = 0 := by decide
                  have y_12 : (12 : Int32).toInt = 12 := by decide
                  have y_1 : (1 : Int32).toInt = 1 := by decide
                  have t_x_452 : x_452.toInt = (vy_16 : Int32).toInt + (1 : Int32).toInt := by rw [ex_452]; exact add_toInt (by omega) (by omega)
                  omega
                have ha_454 : 0 ≤ (x_452 : Int32).toInt := by
                  have z_1 := Int32.le_iff_toInt_le.mp (Int32.not_lt.mp c_30)
                  have z_2 : ¬ (vy_16 : Int32).toInt = (0 : Int32).toInt := fun z => c_53 (Int32.toInt_inj.mp z)
                  have z_3 : ¬ (r_245 : Int32).toInt = (0 : Int32).toInt := fun z => c_247 (Int32.toInt_inj.mp z)
                  have z_4 := congrArg Int32.toInt c_276
                  have z_5 : ¬ (r_425 : Int32).toInt = (0 : Int32).toInt := fun z => c_427 (Int32.toInt_inj.mp z)
                  have y_0 : (0 : Int32).toInt = 0 := by decide
                  have y_12 : (12 : Int32).toInt = 12 := by decide
                  have y_1 : (1 : Int32).toInt = 1 := by decide
                  have t_x_452 : x_452.toInt = (vy_16 : Int32).toInt + (1 : Int32).toInt := by rw [ex_452]; exact add_toInt (by omega) (by omega)
                  omega
                exact ih_25 x_452 sv_450 sv_440 sv_451 sv_442 sv_443 sv_444 sv_445 _ _ _ (by omega) ha_454 he_446 (hP.sub [2, 3, 0, 1] rfl) (hD.sub [2, 3, 0, 1] rfl rfl) hS (lv_sub hl [0, 1, 2] rfl)
  have ha_455 : 0 ≤ (0 : Int32).toInt := by
    have y_0 : (0 : Int32).toInt = 0 := by decide
    omega
  exact loop_26 _ 0 0 0 (Vf 1) sv_4 sv_5 sv_6 0 _ _ _ (Nat.lt_succ_self _) ha_455 he_7 hP hD hS hl
set_option maxRecDepth 100000 in
theorem cu_X7_read_b (l : Launch) (D : va_G) (tc : Nat → ClassId) (sk : (Nat → Nat) × (Nat → Nat)) (Va_0 : Nat) (Va_1 : Nat) (Vv_0 : Int32) (Vv_1 : Int32) (Vf_1 : Nat → Int32) (Ta_0 : Nat) (Ta_1 : Nat) (Tv_0 : Int32) (Tv_1 : Int32) (Tv_2 : Int32) (Tv_3 : Int32) (Tv_4 : Int32) (Tf_1 : Nat → Int32) (h_tape : 0 ≤ (Tv_0 : Int32).toInt ∧ (Tv_0 : Int32).toInt ≤ 400 ∧ 0 ≤ (Tv_1 : Int32).toInt ∧ (Tv_1 : Int32).toInt ≤ 400 ∧ 0 ≤ (Tv_2 : Int32).toInt ∧ (Tv_2 : Int32).toInt ≤ 400) : Ct l yX7_read cX7_read 3 (some (.object "PoisonBook$Rule")) { frames := 30, cells := 3, slots := 466, locals := 719 } D tc sk [.ref Va_0, .ref Ta_0] [(Va_0, .inr (7, [.ref Va_1, .int Vv_0, .int Vv_1])), (Va_1, .inl (tc 0, 400, .inl Vf_1)), (Ta_0, .inr (10, [.ref Ta_1, .int Tv_0, .int Tv_1, .int Tv_2, .int Tv_3, .int Tv_4])), (Ta_1, .inl (tc 0, 400, .inl Tf_1))] (fun (v : Option Value) (u : (Bool) × (Nat) × (Nat) × (Nat) × (Int32) × (Int32) × (Nat → Int32) × (Int32) × (Int32) × (Int32) × (Int32) × (Nat → Int32) × (Nat) × (Int32) × (Int32) × (Nat → Int32) × (Int32) × (Int32) × (Int32) × (Int32)) => match u with | (true, na0x0, na0x1, na0x2, oo0x1, oo0x2, oo0x3, oo0x4, oo0x5, oo0x6, oo0x7, oo0x8, nn0x5, oo1x1, oo1x2, oo1x3, oo1x4, oo1x5, oo1x6, oo1x7) => v = some (.ref na0x0) ∧ (0 ≤ (Tv_0 : Int32).toInt ∧ (Tv_0 : Int32).toInt ≤ 400 ∧ 0 ≤ (oo0x4 : Int32).toInt ∧ (oo0x4 : Int32).toInt ≤ 400 ∧ 0 ≤ (oo0x5 : Int32).toInt ∧ (oo0x5 : Int32).toInt ≤ 400) ∧ (nn0x5 ≤ 400) | (false, na0x0, na0x1, na0x2, oo0x1, oo0x2, oo0x3, oo0x4, oo0x5, oo0x6, oo0x7, oo0x8, nn0x5, oo1x1, oo1x2, oo1x3, oo1x4, oo1x5, oo1x6, oo1x7) => v = some (.null) ∧ (0 ≤ (Tv_0 : Int32).toInt ∧ (Tv_0 : Int32).toInt ≤ 400 ∧ 0 ≤ (oo1x4 : Int32).toInt ∧ (oo1x4 : Int32).toInt ≤ 400 ∧ 0 ≤ (oo1x5 : Int32).toInt ∧ (oo1x5 : Int32).toInt ≤ 400)) (fun (u : (Bool) × (Nat) × (Nat) × (Nat) × (Int32) × (Int32) × (Nat → Int32) × (Int32) × (Int32) × (Int32) × (Int32) × (Nat → Int32) × (Nat) × (Int32) × (Int32) × (Nat → Int32) × (Int32) × (Int32) × (Int32) × (Int32)) => match u with | (true, na0x0, na0x1, na0x2, oo0x1, oo0x2, oo0x3, oo0x4, oo0x5, oo0x6, oo0x7, oo0x8, nn0x5, oo1x1, oo1x2, oo1x3, oo1x4, oo1x5, oo1x6, oo1x7) => [(Va_0, .inr (7, [.ref Va_1, .int oo0x1, .int oo0x2])), (Va_1, .inl (tc 0, 400, .inl oo0x3)), (Ta_0, .inr (10, [.ref Ta_1, .int Tv_0, .int oo0x4, .int oo0x5, .int oo0x6, .int oo0x7])), (Ta_1, .inl (tc 0, 400, .inl Tf_1)), (na0x0, .inr (6, [.ref na0x1, .ref na0x2])), (na0x1, .inl (tc 0, nn0x5, .inl oo0x8)), (na0x2, .inl (tc 1, 64, .inr (.inl (fun _ => 0))))] | (false, na0x0, na0x1, na0x2, oo0x1, oo0x2, oo0x3, oo0x4, oo0x5, oo0x6, oo0x7, oo0x8, nn0x5, oo1x1, oo1x2, oo1x3, oo1x4, oo1x5, oo1x6, oo1x7) => [(Va_0, .inr (7, [.ref Va_1, .int oo1x1, .int oo1x2])), (Va_1, .inl (tc 0, 400, .inl oo1x3)), (Ta_0, .inr (10, [.ref Ta_1, .int Tv_0, .int oo1x4, .int oo1x5, .int oo1x6, .int oo1x7])), (Ta_1, .inl (tc 0, 400, .inl Tf_1))]) 3 466 :=
  ct_X7_read_b l D tc sk (fun k => ([Va_0, Va_1] : List (Nat)).getD k 0) (fun k => ([Vv_0, Vv_1] : List (Int32)).getD k 0) (fun k => ([(fun _ => 0), Vf_1] : List (Nat → Int32)).getD k (fun _ => 0)) (fun k => ([Ta_0, Ta_1] : List (Nat)).getD k 0) (fun k => ([Tv_0, Tv_1, Tv_2, Tv_3, Tv_4] : List (Int32)).getD k 0) (fun k => ([(fun _ => 0), Tf_1] : List (Nat → Int32)).getD k (fun _ => 0)) h_tape
set_option maxHeartbeats 4000000 in
set_option maxRecDepth 100000 in
theorem ct_X5_keep_n_b (l : Launch) (D : va_G) (tc : Nat → ClassId) (sk : (Nat → Nat) × (Nat → Nat)) (Pa : Nat → Nat) (Pv : Nat → Int32) (Pq : Nat → Nat → Option Nat) (Aa : Nat → Nat) (Av : Nat → Int32) (Af : Nat → Nat → Int32) (h_nx : 0 ≤ ((Pv 0) : Int32).toInt ∧ ((Pv 0) : Int32).toInt < 20) (h_q : (Pq 1) (Pv 0).toNatClampNeg = none) (h_bA : 0 ≤ ((Av 3) : Int32).toInt ∧ ((Av 3) : Int32).toInt ≤ 6) : Ct l yX5_keep cX5_keep 3 none { frames := 2, cells := 9, slots := 70, locals := 61 } D tc sk [.ref (Pa 0), .ref (Aa 0)] [((Pa 0), .inr (5, [.ref (Pa 1), .int (Pv 0), .int (Pv 1)])), ((Pa 1), .inl (tc 5, 20, .inr (.inr (.inr (.inr (Pq 1)))))), ((Aa 0), .inr (9, [.int (Av 0), .int (Av 1), .int (Av 2), .int (Av 3), .int (Av 4), .int (Av 5), .ref (Aa 1), .ref (Aa 2), .ref (Aa 3), .ref (Aa 4), .ref (Aa 5), .ref (Aa 6), .ref (Aa 7), .ref (Aa 8)])), ((Aa 1), .inl (tc 0, 10, .inl (Af 1))), ((Aa 2), .inl (tc 0, 10, .inl (Af 2))), ((Aa 3), .inl (tc 0, 6, .inl (Af 3))), ((Aa 4), .inl (tc 0, 6, .inl (Af 4))), ((Aa 5), .inl (tc 0, 6, .inl (Af 5))), ((Aa 6), .inl (tc 0, 6, .inl (Af 6))), ((Aa 7), .inl (tc 0, 6, .inl (Af 7))), ((Aa 8), .inl (tc 0, 6, .inl (Af 8)))] (fun (v : Option Value) (u : (Bool) × (Nat) × (Nat) × (Nat) × (Nat) × (Nat) × (Nat) × (Nat) × (Nat) × (Nat) × (Int32) × (Int32) × (Nat → Int32) × (Nat → Int32) × (Nat → Int32) × (Nat → Int32) × (Nat → Int32) × (Nat → Int32) × (Nat → Int32) × (Nat → Int32)) => match u with | (true, na0x0, na0x1, na0x2, na0x3, na0x4, na0x5, na0x6, na0x7, na0x8, oo0x1, oo0x2, oo0x3, oo0x4, oo0x5, oo0x6, oo0x7, oo0x8, oo0x9, oo0x10) => v = none ∧ (0 ≤ (oo0x1 : Int32).toInt ∧ (oo0x1 : Int32).toInt < 20) ∧ (0 ≤ ((Av 3) : Int32).toInt ∧ ((Av 3) : Int32).toInt ≤ 6) | (false, na0x0, na0x1, na0x2, na0x3, na0x4, na0x5, na0x6, na0x7, na0x8, oo0x1, oo0x2, oo0x3, oo0x4, oo0x5, oo0x6, oo0x7, oo0x8, oo0x9, oo0x10) => v = none ∧ (0 ≤ ((Pv 0) : Int32).toInt ∧ ((Pv 0) : Int32).toInt < 20)) (fun (u : (Bool) × (Nat) × (Nat) × (Nat) × (Nat) × (Nat) × (Nat) × (Nat) × (Nat) × (Nat) × (Int32) × (Int32) × (Nat → Int32) × (Nat → Int32) × (Nat → Int32) × (Nat → Int32) × (Nat → Int32) × (Nat → Int32) × (Nat → Int32) × (Nat → Int32)) => match u with | (true, na0x0, na0x1, na0x2, na0x3, na0x4, na0x5, na0x6, na0x7, na0x8, oo0x1, oo0x2, oo0x3, oo0x4, oo0x5, oo0x6, oo0x7, oo0x8, oo0x9, oo0x10) => [((Pa 0), .inr (5, [.ref (Pa 1), .int oo0x1, .int oo0x2])), ((Pa 1), .inl (tc 5, 20, .inr (.inr (.inr (.inr (va_up (Pq 1) ((Pv 0) : Int32).toNatClampNeg (some na0x0))))))), ((Aa 0), .inr (9, [.int (Av 0), .int (Av 1), .int (Av 2), .int (Av 3), .int (Av 4), .int (Av 5), .ref (Aa 1), .ref (Aa 2), .ref (Aa 3), .ref (Aa 4), .ref (Aa 5), .ref (Aa 6), .ref (Aa 7), .ref (Aa 8)])), ((Aa 1), .inl (tc 0, 10, .inl (Af 1))), ((Aa 2), .inl (tc 0, 10, .inl (Af 2))), ((Aa 3), .inl (tc 0, 6, .inl (Af 3))), ((Aa 4), .inl (tc 0, 6, .inl (Af 4))), ((Aa 5), .inl (tc 0, 6, .inl (Af 5))), ((Aa 6), .inl (tc 0, 6, .inl (Af 6))), ((Aa 7), .inl (tc 0, 6, .inl (Af 7))), ((Aa 8), .inl (tc 0, 6, .inl (Af 8))), (na0x0, .inr (9, [.int (Av 0), .int (Av 1), .int (Av 2), .int (Av 3), .int (Av 4), .int (Av 5), .ref na0x1, .ref na0x2, .ref na0x3, .ref na0x4, .ref na0x5, .ref na0x6, .ref na0x7, .ref na0x8])), (na0x1, .inl (tc 0, 10, .inl oo0x3)), (na0x2, .inl (tc 0, 10, .inl oo0x4)), (na0x3, .inl (tc 0, 6, .inl oo0x5)), (na0x4, .inl (tc 0, 6, .inl oo0x6)), (na0x5, .inl (tc 0, 6, .inl oo0x7)), (na0x6, .inl (tc 0, 6, .inl oo0x8)), (na0x7, .inl (tc 0, 6, .inl oo0x9)), (na0x8, .inl (tc 0, 6, .inl oo0x10))] | (false, na0x0, na0x1, na0x2, na0x3, na0x4, na0x5, na0x6, na0x7, na0x8, oo0x1, oo0x2, oo0x3, oo0x4, oo0x5, oo0x6, oo0x7, oo0x8, oo0x9, oo0x10) => [((Pa 0), .inr (5, [.ref (Pa 1), .int (Pv 0), .int (Pv 1)])), ((Pa 1), .inl (tc 5, 20, .inr (.inr (.inr (.inr (Pq 1)))))), ((Aa 0), .inr (9, [.int (Av 0), .int (Av 1), .int (Av 2), .int (Av 3), .int (Av 4), .int (Av 5), .ref (Aa 1), .ref (Aa 2), .ref (Aa 3), .ref (Aa 4), .ref (Aa 5), .ref (Aa 6), .ref (Aa 7), .ref (Aa 8)])), ((Aa 1), .inl (tc 0, 10, .inl (Af 1))), ((Aa 2), .inl (tc 0, 10, .inl (Af 2))), ((Aa 3), .inl (tc 0, 6, .inl (Af 3))), ((Aa 4), .inl (tc 0, 6, .inl (Af 4))), ((Aa 5), .inl (tc 0, 6, .inl (Af 5))), ((Aa 6), .inl (tc 0, 6, .inl (Af 6))), ((Aa 7), .inl (tc 0, 6, .inl (Af 7))), ((Aa 8), .inl (tc 0, 6, .inl (Af 8)))]) 9 70 := by
  refine Ct.start (by decide) (Nat.le_of_ble_eq_true rfl) (fun p e s m below meth c A ls hx hb hr hlk hin hml hown hts hK hX hP hD hA hl hS => ?_)
  have hl : lv_has ls 3 [(0, .ref (Pa 0)), (1, .ref (Aa 0))] := hl
  refine lv_aload_n hx hb dX5_keep_0 rfl (lv_at hl 0 rfl) ?_
  refine gf_X5_17 hx hb hts hown hK hP 0 rfl rfl dX5_keep_1 ?_
  refine lv_if_lt (tgt := 16) hx hb dX5_keep_4 (by decide) (fun c_1 => ?_) (fun c_1 => ?_)
  · skip
    exact retV hx hb hr hlk hP hD hS (false, 0, 0, 0, 0, 0, 0, 0, 0, 0, 0, 0, (fun _ => 0), (fun _ => 0), (fun _ => 0), (fun _ => 0), (fun _ => 0), (fun _ => 0), (fun _ => 0), (fun _ => 0)) ⟨rfl, h_nx⟩ [0, 1, 2, 3, 4, 5, 6, 7, 8, 9, 10] rfl rfl dX5_keep_16 (Nat.le_of_ble_eq_true rfl) (Nat.le_of_ble_eq_true rfl) rfl
  · skip
    refine lv_aload_n hx hb dX5_keep_7 rfl (lv_at hl 0 rfl) ?_
    refine gf_X5_17 hx hb hts hown hK hP 0 rfl rfl dX5_keep_8 ?_
    refine lv_bipush (v := 20) hx hb dX5_keep_11 (by decide) ?_
    refine lv_icmp_lt (tgt := 17) hx hb dX5_keep_13 (by decide) (fun c_2 => ?_) (fun c_2 => ?_)
    · skip
      refine lv_aload_n hx hb dX5_keep_17 rfl (lv_at hl 0 rfl) ?_
      refine gf_X5_13 hx hb hts hown hK hP 0 rfl rfl dX5_keep_18 ?_
      refine lv_aload_n hx hb dX5_keep_21 rfl (lv_at hl 0 rfl) ?_
      refine gf_X5_17 hx hb hts hown hK hP 0 rfl rfl dX5_keep_22 ?_
      have hi_3 : vp_in (Pv 0) 20 := by
        have z_1 := Int32.le_iff_toInt_le.mp (Int32.not_lt.mp c_1)
        have z_2 := Int32.lt_iff_toInt_lt.mp c_2
        have y_0 : (0 : Int32).toInt = 0 := by decide
        have y_20 : (20 : Int32).toInt = 20 := by decide
        refine vp_in_iff.mpr ⟨?_, ?_⟩ <;> omega
      refine va_aldq hx hb hK hP 1 5 rfl rfl hi_3 dX5_keep_25 ?_
      refine lv_val (v := .null) (by rw [h_q]; rfl) ?_
      refine lv_astore_nN (lv' := [(2, .null), (0, .ref (Pa 0)), (1, .ref (Aa 0))]) hx hb dX5_keep_26 rfl hl (by decide) rfl (fun ls hl₀ => ?_)
      replace hl := hl₀
      clear hl₀
      refine lv_aload_nN hx hb dX5_keep_27 rfl (lv_at hl 0 rfl) ?_
      refine lv_ifnonnullN hx hb dX5_keep_28 ?_
      refine va_new (ci := 9) (fs := [.int 0, .int 0, .int 0, .int 0, .int 0, .int 0, .null, .null, .null, .null, .null, .null, .null, .null]) (C := RX9) (T := TX9) (N := 14) hx hb hts iX9 tyX9 tyX9_ok hown (hts _ k_331) (hts _ k_164) (hts _ k_98) hK hP hD hS hA rfl dfX9 (Nat.le_of_ble_eq_true rfl) (Nat.le_of_ble_eq_true rfl) dX5_keep_31 (fun q_4 H hP₀ hD₀ hS₀ => ?_)
      replace hP : va_P D classes [((Pa 0), .inr (5, [.ref (Pa 1), .int (Pv 0), .int (Pv 1)])), ((Pa 1), .inl (tc 5, 20, .inr (.inr (.inr (.inr (Pq 1)))))), ((Aa 0), .inr (9, [.int (Av 0), .int (Av 1), .int (Av 2), .int (Av 3), .int (Av 4), .int (Av 5), .ref (Aa 1), .ref (Aa 2), .ref (Aa 3), .ref (Aa 4), .ref (Aa 5), .ref (Aa 6), .ref (Aa 7), .ref (Aa 8)])), ((Aa 1), .inl (tc 0, 10, .inl (Af 1))), ((Aa 2), .inl (tc 0, 10, .inl (Af 2))), ((Aa 3), .inl (tc 0, 6, .inl (Af 3))), ((Aa 4), .inl (tc 0, 6, .inl (Af 4))), ((Aa 5), .inl (tc 0, 6, .inl (Af 5))), ((Aa 6), .inl (tc 0, 6, .inl (Af 6))), ((Aa 7), .inl (tc 0, 6, .inl (Af 7))), ((Aa 8), .inl (tc 0, 6, .inl (Af 8))), (q_4, .inr (9, [.int 0, .int 0, .int 0, .int 0, .int 0, .int 0, .null, .null, .null, .null, .null, .null, .null, .null]))] H := hP₀
      replace hD : va_D A [((Pa 0), .inr (5, [.ref (Pa 1), .int (Pv 0), .int (Pv 1)])), ((Pa 1), .inl (tc 5, 20, .inr (.inr (.inr (.inr (Pq 1)))))), ((Aa 0), .inr (9, [.int (Av 0), .int (Av 1), .int (Av 2), .int (Av 3), .int (Av 4), .int (Av 5), .ref (Aa 1), .ref (Aa 2), .ref (Aa 3), .ref (Aa 4), .ref (Aa 5), .ref (Aa 6), .ref (Aa 7), .ref (Aa 8)])), ((Aa 1), .inl (tc 0, 10, .inl (Af 1))), ((Aa 2), .inl (tc 0, 10, .inl (Af 2))), ((Aa 3), .inl (tc 0, 6, .inl (Af 3))), ((Aa 4), .inl (tc 0, 6, .inl (Af 4))), ((Aa 5), .inl (tc 0, 6, .inl (Af 5))), ((Aa 6), .inl (tc 0, 6, .inl (Af 6))), ((Aa 7), .inl (tc 0, 6, .inl (Af 7))), ((Aa 8), .inl (tc 0, 6, .inl (Af 8))), (q_4, .inr (9, [.int 0, .int 0, .int 0, .int 0, .int 0, .int 0, .null, .null, .null, .null, .null, .null, .null, .null]))] := hD₀
      replace hS := hS₀
      clear hP₀ hD₀ hS₀
      refine lv_dup hx hb dX5_keep_34 rfl ?_
      refine cN (a := q_4) (As := []) (rest := [.ref q_4]) (wr := [((Pa 0), .inr (5, [.ref (Pa 1), .int (Pv 0), .int (Pv 1)])), ((Pa 1), .inl (tc 5, 20, .inr (.inr (.inr (.inr (Pq 1)))))), ((Aa 0), .inr (9, [.int (Av 0), .int (Av 1), .int (Av 2), .int (Av 3), .int (Av 4), .int (Av 5), .ref (Aa 1), .ref (Aa 2), .ref (Aa 3), .ref (Aa 4), .ref (Aa 5), .ref (Aa 6), .ref (Aa 7), .ref (Aa 8)])), ((Aa 1), .inl (tc 0, 10, .inl (Af 1))), ((Aa 2), .inl (tc 0, 10, .inl (Af 2))), ((Aa 3), .inl (tc 0, 6, .inl (Af 3))), ((Aa 4), .inl (tc 0, 6, .inl (Af 4))), ((Aa 5), .inl (tc 0, 6, .inl (Af 5))), ((Aa 6), .inl (tc 0, 6, .inl (Af 6))), ((Aa 7), .inl (tc 0, 6, .inl (Af 7))), ((Aa 8), .inl (tc 0, 6, .inl (Af 8)))]) ⟨hx, hb, hml, hown, hts⟩ hK hX hA (ct_X9_init l D tc sk q_4) k_167 (by decide) k_166 k_98 rfl pl_X9_init ⟨Nat.le_of_ble_eq_true rfl, Nat.le_of_ble_eq_true rfl⟩ rfl rfl  hP hD hS [11] [0, 1, 2, 3, 4, 5, 6, 7, 8, 9, 10] rfl rfl rfl rfl rfl (by decide) rfl hl.1 rfl (Nat.le_of_ble_eq_true rfl) dX5_keep_35 ⟨Nat.le_of_ble_eq_true rfl, Nat.le_of_ble_eq_true rfl⟩ (fun v_5 u_6 H locs hv_7 hP₀ hD₀ hS₀ => ?_)
      obtain ⟨sv_8, sv_9, sv_10, sv_11, sv_12, sv_13, sv_14, sv_15⟩ := u_6
      obtain rfl : v_5 = none := hv_7
      refine W.eq (g2 := F0 m 38 ls [.ref q_4]) rfl ?_
      replace hP : va_P D classes [((Pa 0), .inr (5, [.ref (Pa 1), .int (Pv 0), .int (Pv 1)])), ((Pa 1), .inl (tc 5, 20, .inr (.inr (.inr (.inr (Pq 1)))))), ((Aa 0), .inr (9, [.int (Av 0), .int (Av 1), .int (Av 2), .int (Av 3), .int (Av 4), .int (Av 5), .ref (Aa 1), .ref (Aa 2), .ref (Aa 3), .ref (Aa 4), .ref (Aa 5), .ref (Aa 6), .ref (Aa 7), .ref (Aa 8)])), ((Aa 1), .inl (tc 0, 10, .inl (Af 1))), ((Aa 2), .inl (tc 0, 10, .inl (Af 2))), ((Aa 3), .inl (tc 0, 6, .inl (Af 3))), ((Aa 4), .inl (tc 0, 6, .inl (Af 4))), ((Aa 5), .inl (tc 0, 6, .inl (Af 5))), ((Aa 6), .inl (tc 0, 6, .inl (Af 6))), ((Aa 7), .inl (tc 0, 6, .inl (Af 7))), ((Aa 8), .inl (tc 0, 6, .inl (Af 8))), (q_4, .inr (9, [.int 0, .int 0, .int 0, .int 0, .int 0, .int 0, .ref sv_8, .ref sv_9, .ref sv_10, .ref sv_11, .ref sv_12, .ref sv_13, .ref sv_14, .ref sv_15])), (sv_8, .inl (tc 0, 10, .inl (fun _ => 0))), (sv_9, .inl (tc 0, 10, .inl (fun _ => 0))), (sv_10, .inl (tc 0, 6, .inl (fun _ => 0))), (sv_11, .inl (tc 0, 6, .inl (fun _ => 0))), (sv_12, .inl (tc 0, 6, .inl (fun _ => 0))), (sv_13, .inl (tc 0, 6, .inl (fun _ => 0))), (sv_14, .inl (tc 0, 6, .inl (fun _ => 0))), (sv_15, .inl (tc 0, 6, .inl (fun _ => 0)))] H := hP₀
      replace hD : va_D A [((Pa 0), .inr (5, [.ref (Pa 1), .int (Pv 0), .int (Pv 1)])), ((Pa 1), .inl (tc 5, 20, .inr (.inr (.inr (.inr (Pq 1)))))), ((Aa 0), .inr (9, [.int (Av 0), .int (Av 1), .int (Av 2), .int (Av 3), .int (Av 4), .int (Av 5), .ref (Aa 1), .ref (Aa 2), .ref (Aa 3), .ref (Aa 4), .ref (Aa 5), .ref (Aa 6), .ref (Aa 7), .ref (Aa 8)])), ((Aa 1), .inl (tc 0, 10, .inl (Af 1))), ((Aa 2), .inl (tc 0, 10, .inl (Af 2))), ((Aa 3), .inl (tc 0, 6, .inl (Af 3))), ((Aa 4), .inl (tc 0, 6, .inl (Af 4))), ((Aa 5), .inl (tc 0, 6, .inl (Af 5))), ((Aa 6), .inl (tc 0, 6, .inl (Af 6))), ((Aa 7), .inl (tc 0, 6, .inl (Af 7))), ((Aa 8), .inl (tc 0, 6, .inl (Af 8))), (q_4, .inr (9, [.int 0, .int 0, .int 0, .int 0, .int 0, .int 0, .ref sv_8, .ref sv_9, .ref sv_10, .ref sv_11, .ref sv_12, .ref sv_13, .ref sv_14, .ref sv_15])), (sv_8, .inl (tc 0, 10, .inl (fun _ => 0))), (sv_9, .inl (tc 0, 10, .inl (fun _ => 0))), (sv_10, .inl (tc 0, 6, .inl (fun _ => 0))), (sv_11, .inl (tc 0, 6, .inl (fun _ => 0))), (sv_12, .inl (tc 0, 6, .inl (fun _ => 0))), (sv_13, .inl (tc 0, 6, .inl (fun _ => 0))), (sv_14, .inl (tc 0, 6, .inl (fun _ => 0))), (sv_15, .inl (tc 0, 6, .inl (fun _ => 0)))] := hD₀
      replace hS := hS₀
      clear hP₀ hD₀ hS₀
      refine lv_astore_n (lv' := [(2, .ref q_4), (0, .ref (Pa 0)), (1, .ref (Aa 0))]) hx hb dX5_keep_38 rfl hl (by decide) rfl (fun ls hl₀ => ?_)
      replace hl := hl₀
      clear hl₀
      refine lv_aload_n hx hb dX5_keep_39 rfl (lv_at hl 1 rfl) ?_
      refine gf_X5_13 hx hb hts hown hK hP 0 rfl rfl dX5_keep_40 ?_
      refine lv_aload_n hx hb dX5_keep_43 rfl (lv_at hl 1 rfl) ?_
      refine gf_X5_17 hx hb hts hown hK hP 0 rfl rfl dX5_keep_44 ?_
      refine lv_aload_n hx hb dX5_keep_47 rfl (lv_at hl 0 rfl) ?_
      have hi_16 : vp_in (Pv 0) 20 := by
        have z_1 := Int32.le_iff_toInt_le.mp (Int32.not_lt.mp c_1)
        have z_2 := Int32.lt_iff_toInt_lt.mp c_2
        have y_0 : (0 : Int32).toInt = 0 := by decide
        have y_20 : (20 : Int32).toInt = 20 := by decide
        refine vp_in_iff.mpr ⟨?_, ?_⟩ <;> omega
      refine st_ref hx hb hK hP hD hS 1 5 11 9 (r := (RX9, TX9, 14)) rfl rfl rfl rfl hi_16 dX5_keep_48 (fun g_17 H locs eg_17 hP₀ hD₀ hS₀ => ?_)
      replace hP : va_P D classes [((Pa 0), .inr (5, [.ref (Pa 1), .int (Pv 0), .int (Pv 1)])), ((Pa 1), .inl (tc 5, 20, .inr (.inr (.inr (.inr g_17))))), ((Aa 0), .inr (9, [.int (Av 0), .int (Av 1), .int (Av 2), .int (Av 3), .int (Av 4), .int (Av 5), .ref (Aa 1), .ref (Aa 2), .ref (Aa 3), .ref (Aa 4), .ref (Aa 5), .ref (Aa 6), .ref (Aa 7), .ref (Aa 8)])), ((Aa 1), .inl (tc 0, 10, .inl (Af 1))), ((Aa 2), .inl (tc 0, 10, .inl (Af 2))), ((Aa 3), .inl (tc 0, 6, .inl (Af 3))), ((Aa 4), .inl (tc 0, 6, .inl (Af 4))), ((Aa 5), .inl (tc 0, 6, .inl (Af 5))), ((Aa 6), .inl (tc 0, 6, .inl (Af 6))), ((Aa 7), .inl (tc 0, 6, .inl (Af 7))), ((Aa 8), .inl (tc 0, 6, .inl (Af 8))), (q_4, .inr (9, [.int 0, .int 0, .int 0, .int 0, .int 0, .int 0, .ref sv_8, .ref sv_9, .ref sv_10, .ref sv_11, .ref sv_12, .ref sv_13, .ref sv_14, .ref sv_15])), (sv_8, .inl (tc 0, 10, .inl (fun _ => 0))), (sv_9, .inl (tc 0, 10, .inl (fun _ => 0))), (sv_10, .inl (tc 0, 6, .inl (fun _ => 0))), (sv_11, .inl (tc 0, 6, .inl (fun _ => 0))), (sv_12, .inl (tc 0, 6, .inl (fun _ => 0))), (sv_13, .inl (tc 0, 6, .inl (fun _ => 0))), (sv_14, .inl (tc 0, 6, .inl (fun _ => 0))), (sv_15, .inl (tc 0, 6, .inl (fun _ => 0)))] H := hP₀
      replace hD : va_D A [((Pa 0), .inr (5, [.ref (Pa 1), .int (Pv 0), .int (Pv 1)])), ((Pa 1), .inl (tc 5, 20, .inr (.inr (.inr (.inr g_17))))), ((Aa 0), .inr (9, [.int (Av 0), .int (Av 1), .int (Av 2), .int (Av 3), .int (Av 4), .int (Av 5), .ref (Aa 1), .ref (Aa 2), .ref (Aa 3), .ref (Aa 4), .ref (Aa 5), .ref (Aa 6), .ref (Aa 7), .ref (Aa 8)])), ((Aa 1), .inl (tc 0, 10, .inl (Af 1))), ((Aa 2), .inl (tc 0, 10, .inl (Af 2))), ((Aa 3), .inl (tc 0, 6, .inl (Af 3))), ((Aa 4), .inl (tc 0, 6, .inl (Af 4))), ((Aa 5), .inl (tc 0, 6, .inl (Af 5))), ((Aa 6), .inl (tc 0, 6, .inl (Af 6))), ((Aa 7), .inl (tc 0, 6, .inl (Af 7))), ((Aa 8), .inl (tc 0, 6, .inl (Af 8))), (q_4, .inr (9, [.int 0, .int 0, .int 0, .int 0, .int 0, .int 0, .ref sv_8, .ref sv_9, .ref sv_10, .ref sv_11, .ref sv_12, .ref sv_13, .ref sv_14, .ref sv_15])), (sv_8, .inl (tc 0, 10, .inl (fun _ => 0))), (sv_9, .inl (tc 0, 10, .inl (fun _ => 0))), (sv_10, .inl (tc 0, 6, .inl (fun _ => 0))), (sv_11, .inl (tc 0, 6, .inl (fun _ => 0))), (sv_12, .inl (tc 0, 6, .inl (fun _ => 0))), (sv_13, .inl (tc 0, 6, .inl (fun _ => 0))), (sv_14, .inl (tc 0, 6, .inl (fun _ => 0))), (sv_15, .inl (tc 0, 6, .inl (fun _ => 0)))] := hD₀
      replace hS := hS₀
      clear hP₀ hD₀ hS₀
      subst eg_17
      replace hP : va_P D classes [((Pa 0), .inr (5, [.ref (Pa 1), .int (Pv 0), .int (Pv 1)])), ((Pa 1), .inl (tc 5, 20, .inr (.inr (.inr (.inr (va_up (Pq 1) ((Pv 0) : Int32).toNatClampNeg (some q_4))))))), ((Aa 0), .inr (9, [.int (Av 0), .int (Av 1), .int (Av 2), .int (Av 3), .int (Av 4), .int (Av 5), .ref (Aa 1), .ref (Aa 2), .ref (Aa 3), .ref (Aa 4), .ref (Aa 5), .ref (Aa 6), .ref (Aa 7), .ref (Aa 8)])), ((Aa 1), .inl (tc 0, 10, .inl (Af 1))), ((Aa 2), .inl (tc 0, 10, .inl (Af 2))), ((Aa 3), .inl (tc 0, 6, .inl (Af 3))), ((Aa 4), .inl (tc 0, 6, .inl (Af 4))), ((Aa 5), .inl (tc 0, 6, .inl (Af 5))), ((Aa 6), .inl (tc 0, 6, .inl (Af 6))), ((Aa 7), .inl (tc 0, 6, .inl (Af 7))), ((Aa 8), .inl (tc 0, 6, .inl (Af 8))), (q_4, .inr (9, [.int 0, .int 0, .int 0, .int 0, .int 0, .int 0, .ref sv_8, .ref sv_9, .ref sv_10, .ref sv_11, .ref sv_12, .ref sv_13, .ref sv_14, .ref sv_15])), (sv_8, .inl (tc 0, 10, .inl (fun _ => 0))), (sv_9, .inl (tc 0, 10, .inl (fun _ => 0))), (sv_10, .inl (tc 0, 6, .inl (fun _ => 0))), (sv_11, .inl (tc 0, 6, .inl (fun _ => 0))), (sv_12, .inl (tc 0, 6, .inl (fun _ => 0))), (sv_13, .inl (tc 0, 6, .inl (fun _ => 0))), (sv_14, .inl (tc 0, 6, .inl (fun _ => 0))), (sv_15, .inl (tc 0, 6, .inl (fun _ => 0)))] H := hP
      replace hD : va_D A [((Pa 0), .inr (5, [.ref (Pa 1), .int (Pv 0), .int (Pv 1)])), ((Pa 1), .inl (tc 5, 20, .inr (.inr (.inr (.inr (va_up (Pq 1) ((Pv 0) : Int32).toNatClampNeg (some q_4))))))), ((Aa 0), .inr (9, [.int (Av 0), .int (Av 1), .int (Av 2), .int (Av 3), .int (Av 4), .int (Av 5), .ref (Aa 1), .ref (Aa 2), .ref (Aa 3), .ref (Aa 4), .ref (Aa 5), .ref (Aa 6), .ref (Aa 7), .ref (Aa 8)])), ((Aa 1), .inl (tc 0, 10, .inl (Af 1))), ((Aa 2), .inl (tc 0, 10, .inl (Af 2))), ((Aa 3), .inl (tc 0, 6, .inl (Af 3))), ((Aa 4), .inl (tc 0, 6, .inl (Af 4))), ((Aa 5), .inl (tc 0, 6, .inl (Af 5))), ((Aa 6), .inl (tc 0, 6, .inl (Af 6))), ((Aa 7), .inl (tc 0, 6, .inl (Af 7))), ((Aa 8), .inl (tc 0, 6, .inl (Af 8))), (q_4, .inr (9, [.int 0, .int 0, .int 0, .int 0, .int 0, .int 0, .ref sv_8, .ref sv_9, .ref sv_10, .ref sv_11, .ref sv_12, .ref sv_13, .ref sv_14, .ref sv_15])), (sv_8, .inl (tc 0, 10, .inl (fun _ => 0))), (sv_9, .inl (tc 0, 10, .inl (fun _ => 0))), (sv_10, .inl (tc 0, 6, .inl (fun _ => 0))), (sv_11, .inl (tc 0, 6, .inl (fun _ => 0))), (sv_12, .inl (tc 0, 6, .inl (fun _ => 0))), (sv_13, .inl (tc 0, 6, .inl (fun _ => 0))), (sv_14, .inl (tc 0, 6, .inl (fun _ => 0))), (sv_15, .inl (tc 0, 6, .inl (fun _ => 0)))] := hD
      refine lv_aload_n hx hb dX5_keep_49 rfl (lv_at hl 0 rfl) ?_
      refine lv_aload_n hx hb dX5_keep_50 rfl (lv_at hl 2 rfl) ?_
      refine cV (a := q_4) (As := [.ref (Aa 0)]) (rest := []) (wr := [((Pa 0), .inr (5, [.ref (Pa 1), .int (Pv 0), .int (Pv 1)])), ((Pa 1), .inl (tc 5, 20, .inr (.inr (.inr (.inr (va_up (Pq 1) ((Pv 0) : Int32).toNatClampNeg (some q_4)))))))]) ⟨hx, hb, hml, hown, hts⟩ hK hX hA (cu_X9_copyFrom l D tc sk q_4 sv_8 sv_9 sv_10 sv_11 sv_12 sv_13 sv_14 sv_15 0 0 0 0 0 0 (fun _ => 0) (fun _ => 0) (fun _ => 0) (fun _ => 0) (fun _ => 0) (fun _ => 0) (fun _ => 0) (fun _ => 0) (Aa 0) (Aa 1) (Aa 2) (Aa 3) (Aa 4) (Aa 5) (Aa 6) (Aa 7) (Aa 8) (Av 0) (Av 1) (Av 2) (Av 3) (Av 4) (Av 5) (Af 1) (Af 2) (Af 3) (Af 4) (Af 5) (Af 6) (Af 7) (Af 8)) k_599 k_730 k_597 k_598 k_98 pl_X9_copyFrom ⟨Nat.le_of_ble_eq_true rfl, Nat.le_of_ble_eq_true rfl⟩ rfl rfl (va_recv hK hP (ci := 9) (q0 := 11) rfl rfl) hP hD hS [11, 12, 13, 14, 15, 16, 17, 18, 19, 2, 3, 4, 5, 6, 7, 8, 9, 10] [0, 1] rfl rfl rfl rfl rfl (by decide) rfl hl.1 rfl (Nat.le_of_ble_eq_true rfl) dX5_keep_51 ⟨Nat.le_of_ble_eq_true rfl, Nat.le_of_ble_eq_true rfl⟩ (fun v_18 u_19 H locs hv_20 hP₀ hD₀ hS₀ => ?_)
      obtain ⟨sv_21, sv_22, sv_23, sv_24, sv_25, sv_26, sv_27, sv_28⟩ := u_19
      obtain rfl : v_18 = none := hv_20
      refine W.eq (g2 := F0 m 54 ls []) rfl ?_
      replace hP : va_P D classes [((Pa 0), .inr (5, [.ref (Pa 1), .int (Pv 0), .int (Pv 1)])), ((Pa 1), .inl (tc 5, 20, .inr (.inr (.inr (.inr (va_up (Pq 1) ((Pv 0) : Int32).toNatClampNeg (some q_4))))))), (q_4, .inr (9, [.int (Av 0), .int (Av 1), .int (Av 2), .int (Av 3), .int (Av 4), .int (Av 5), .ref sv_8, .ref sv_9, .ref sv_10, .ref sv_11, .ref sv_12, .ref sv_13, .ref sv_14, .ref sv_15])), (sv_8, .inl (tc 0, 10, .inl sv_21)), (sv_9, .inl (tc 0, 10, .inl sv_22)), (sv_10, .inl (tc 0, 6, .inl sv_23)), (sv_11, .inl (tc 0, 6, .inl sv_24)), (sv_12, .inl (tc 0, 6, .inl sv_25)), (sv_13, .inl (tc 0, 6, .inl sv_26)), (sv_14, .inl (tc 0, 6, .inl sv_27)), (sv_15, .inl (tc 0, 6, .inl sv_28)), ((Aa 0), .inr (9, [.int (Av 0), .int (Av 1), .int (Av 2), .int (Av 3), .int (Av 4), .int (Av 5), .ref (Aa 1), .ref (Aa 2), .ref (Aa 3), .ref (Aa 4), .ref (Aa 5), .ref (Aa 6), .ref (Aa 7), .ref (Aa 8)])), ((Aa 1), .inl (tc 0, 10, .inl (Af 1))), ((Aa 2), .inl (tc 0, 10, .inl (Af 2))), ((Aa 3), .inl (tc 0, 6, .inl (Af 3))), ((Aa 4), .inl (tc 0, 6, .inl (Af 4))), ((Aa 5), .inl (tc 0, 6, .inl (Af 5))), ((Aa 6), .inl (tc 0, 6, .inl (Af 6))), ((Aa 7), .inl (tc 0, 6, .inl (Af 7))), ((Aa 8), .inl (tc 0, 6, .inl (Af 8)))] H := hP₀
      replace hD : va_D A [((Pa 0), .inr (5, [.ref (Pa 1), .int (Pv 0), .int (Pv 1)])), ((Pa 1), .inl (tc 5, 20, .inr (.inr (.inr (.inr (va_up (Pq 1) ((Pv 0) : Int32).toNatClampNeg (some q_4))))))), (q_4, .inr (9, [.int (Av 0), .int (Av 1), .int (Av 2), .int (Av 3), .int (Av 4), .int (Av 5), .ref sv_8, .ref sv_9, .ref sv_10, .ref sv_11, .ref sv_12, .ref sv_13, .ref sv_14, .ref sv_15])), (sv_8, .inl (tc 0, 10, .inl sv_21)), (sv_9, .inl (tc 0, 10, .inl sv_22)), (sv_10, .inl (tc 0, 6, .inl sv_23)), (sv_11, .inl (tc 0, 6, .inl sv_24)), (sv_12, .inl (tc 0, 6, .inl sv_25)), (sv_13, .inl (tc 0, 6, .inl sv_26)), (sv_14, .inl (tc 0, 6, .inl sv_27)), (sv_15, .inl (tc 0, 6, .inl sv_28)), ((Aa 0), .inr (9, [.int (Av 0), .int (Av 1), .int (Av 2), .int (Av 3), .int (Av 4), .int (Av 5), .ref (Aa 1), .ref (Aa 2), .ref (Aa 3), .ref (Aa 4), .ref (Aa 5), .ref (Aa 6), .ref (Aa 7), .ref (Aa 8)])), ((Aa 1), .inl (tc 0, 10, .inl (Af 1))), ((Aa 2), .inl (tc 0, 10, .inl (Af 2))), ((Aa 3), .inl (tc 0, 6, .inl (Af 3))), ((Aa 4), .inl (tc 0, 6, .inl (Af 4))), ((Aa 5), .inl (tc 0, 6, .inl (Af 5))), ((Aa 6), .inl (tc 0, 6, .inl (Af 6))), ((Aa 7), .inl (tc 0, 6, .inl (Af 7))), ((Aa 8), .inl (tc 0, 6, .inl (Af 8)))] := hD₀
      replace hS := hS₀
      clear hP₀ hD₀ hS₀
      refine lv_aload_n hx hb dX5_keep_54 rfl (lv_at hl 1 rfl) ?_
      refine lv_aload_n hx hb dX5_keep_55 rfl (lv_at hl 1 rfl) ?_
      refine gf_X5_17 hx hb hts hown hK hP 0 rfl rfl dX5_keep_56 ?_
      refine lv_iconst (v := 1) hx hb dX5_keep_59 (by decide) ?_
      refine lv_iadd hx hb dX5_keep_60 ?_
      refine lv_topi (fun x_29 ex_29 => ?_)
      refine lv_bipush (v := 20) hx hb dX5_keep_61 (by decide) ?_
      refine lv_irem hx hb dX5_keep_63 (by decide) ?_
      refine lv_topi (fun x_30 ex_30 => ?_)
      refine pf_X5_17 hx hb hts hown hK hP hD hS 0 rfl (Nat.le_of_ble_eq_true rfl) rfl rfl dX5_keep_64 (fun H locs hP₀ hD₀ hS₀ => ?_)
      replace hP : va_P D classes [((Pa 0), .inr (5, [.ref (Pa 1), .int x_30, .int (Pv 1)])), ((Pa 1), .inl (tc 5, 20, .inr (.inr (.inr (.inr (va_up (Pq 1) ((Pv 0) : Int32).toNatClampNeg (some q_4))))))), (q_4, .inr (9, [.int (Av 0), .int (Av 1), .int (Av 2), .int (Av 3), .int (Av 4), .int (Av 5), .ref sv_8, .ref sv_9, .ref sv_10, .ref sv_11, .ref sv_12, .ref sv_13, .ref sv_14, .ref sv_15])), (sv_8, .inl (tc 0, 10, .inl sv_21)), (sv_9, .inl (tc 0, 10, .inl sv_22)), (sv_10, .inl (tc 0, 6, .inl sv_23)), (sv_11, .inl (tc 0, 6, .inl sv_24)), (sv_12, .inl (tc 0, 6, .inl sv_25)), (sv_13, .inl (tc 0, 6, .inl sv_26)), (sv_14, .inl (tc 0, 6, .inl sv_27)), (sv_15, .inl (tc 0, 6, .inl sv_28)), ((Aa 0), .inr (9, [.int (Av 0), .int (Av 1), .int (Av 2), .int (Av 3), .int (Av 4), .int (Av 5), .ref (Aa 1), .ref (Aa 2), .ref (Aa 3), .ref (Aa 4), .ref (Aa 5), .ref (Aa 6), .ref (Aa 7), .ref (Aa 8)])), ((Aa 1), .inl (tc 0, 10, .inl (Af 1))), ((Aa 2), .inl (tc 0, 10, .inl (Af 2))), ((Aa 3), .inl (tc 0, 6, .inl (Af 3))), ((Aa 4), .inl (tc 0, 6, .inl (Af 4))), ((Aa 5), .inl (tc 0, 6, .inl (Af 5))), ((Aa 6), .inl (tc 0, 6, .inl (Af 6))), ((Aa 7), .inl (tc 0, 6, .inl (Af 7))), ((Aa 8), .inl (tc 0, 6, .inl (Af 8)))] H := hP₀
      replace hD : va_D A [((Pa 0), .inr (5, [.ref (Pa 1), .int x_30, .int (Pv 1)])), ((Pa 1), .inl (tc 5, 20, .inr (.inr (.inr (.inr (va_up (Pq 1) ((Pv 0) : Int32).toNatClampNeg (some q_4))))))), (q_4, .inr (9, [.int (Av 0), .int (Av 1), .int (Av 2), .int (Av 3), .int (Av 4), .int (Av 5), .ref sv_8, .ref sv_9, .ref sv_10, .ref sv_11, .ref sv_12, .ref sv_13, .ref sv_14, .ref sv_15])), (sv_8, .inl (tc 0, 10, .inl sv_21)), (sv_9, .inl (tc 0, 10, .inl sv_22)), (sv_10, .inl (tc 0, 6, .inl sv_23)), (sv_11, .inl (tc 0, 6, .inl sv_24)), (sv_12, .inl (tc 0, 6, .inl sv_25)), (sv_13, .inl (tc 0, 6, .inl sv_26)), (sv_14, .inl (tc 0, 6, .inl sv_27)), (sv_15, .inl (tc 0, 6, .inl sv_28)), ((Aa 0), .inr (9, [.int (Av 0), .int (Av 1), .int (Av 2), .int (Av 3), .int (Av 4), .int (Av 5), .ref (Aa 1), .ref (Aa 2), .ref (Aa 3), .ref (Aa 4), .ref (Aa 5), .ref (Aa 6), .ref (Aa 7), .ref (Aa 8)])), ((Aa 1), .inl (tc 0, 10, .inl (Af 1))), ((Aa 2), .inl (tc 0, 10, .inl (Af 2))), ((Aa 3), .inl (tc 0, 6, .inl (Af 3))), ((Aa 4), .inl (tc 0, 6, .inl (Af 4))), ((Aa 5), .inl (tc 0, 6, .inl (Af 5))), ((Aa 6), .inl (tc 0, 6, .inl (Af 6))), ((Aa 7), .inl (tc 0, 6, .inl (Af 7))), ((Aa 8), .inl (tc 0, 6, .inl (Af 8)))] := hD₀
      replace hS := hS₀
      clear hP₀ hD₀ hS₀
      refine lv_aload_n hx hb dX5_keep_67 rfl (lv_at hl 1 rfl) ?_
      refine lv_bipush (v := 20) hx hb dX5_keep_68 (by decide) ?_
      refine lv_aload_n hx hb dX5_keep_70 rfl (lv_at hl 1 rfl) ?_
      refine gf_X5_21 hx hb hts hown hK hP 0 rfl rfl dX5_keep_71 ?_
      refine lv_iconst (v := 1) hx hb dX5_keep_74 (by decide) ?_
      refine lv_iadd hx hb dX5_keep_75 ?_
      refine lv_topi (fun x_31 ex_31 => ?_)
      refine va_mmin hx hb (hml.trans hl.1.symm) hown (hts _ k_731) (hts _ k_680) (hts _ k_114) (hts _ k_681) (Nat.le_of_ble_eq_true rfl) (Nat.le_of_ble_eq_true rfl) (Nat.le_of_ble_eq_true rfl) (Nat.le_of_ble_eq_true rfl) dX5_keep_76 ?_
      refine lv_topi (fun x_32 ex_32 => ?_)
      have mx_32 := imin_f ex_32
      rw [show (20 : Int32).toInt = 20 by decide] at mx_32
      refine pf_X5_21 hx hb hts hown hK hP hD hS 0 rfl (Nat.le_of_ble_eq_true rfl) rfl rfl dX5_keep_79 (fun H locs hP₀ hD₀ hS₀ => ?_)
      replace hP : va_P D classes [((Pa 0), .inr (5, [.ref (Pa 1), .int x_30, .int x_32])), ((Pa 1), .inl (tc 5, 20, .inr (.inr (.inr (.inr (va_up (Pq 1) ((Pv 0) : Int32).toNatClampNeg (some q_4))))))), (q_4, .inr (9, [.int (Av 0), .int (Av 1), .int (Av 2), .int (Av 3), .int (Av 4), .int (Av 5), .ref sv_8, .ref sv_9, .ref sv_10, .ref sv_11, .ref sv_12, .ref sv_13, .ref sv_14, .ref sv_15])), (sv_8, .inl (tc 0, 10, .inl sv_21)), (sv_9, .inl (tc 0, 10, .inl sv_22)), (sv_10, .inl (tc 0, 6, .inl sv_23)), (sv_11, .inl (tc 0, 6, .inl sv_24)), (sv_12, .inl (tc 0, 6, .inl sv_25)), (sv_13, .inl (tc 0, 6, .inl sv_26)), (sv_14, .inl (tc 0, 6, .inl sv_27)), (sv_15, .inl (tc 0, 6, .inl sv_28)), ((Aa 0), .inr (9, [.int (Av 0), .int (Av 1), .int (Av 2), .int (Av 3), .int (Av 4), .int (Av 5), .ref (Aa 1), .ref (Aa 2), .ref (Aa 3), .ref (Aa 4), .ref (Aa 5), .ref (Aa 6), .ref (Aa 7), .ref (Aa 8)])), ((Aa 1), .inl (tc 0, 10, .inl (Af 1))), ((Aa 2), .inl (tc 0, 10, .inl (Af 2))), ((Aa 3), .inl (tc 0, 6, .inl (Af 3))), ((Aa 4), .inl (tc 0, 6, .inl (Af 4))), ((Aa 5), .inl (tc 0, 6, .inl (Af 5))), ((Aa 6), .inl (tc 0, 6, .inl (Af 6))), ((Aa 7), .inl (tc 0, 6, .inl (Af 7))), ((Aa 8), .inl (tc 0, 6, .inl (Af 8)))] H := hP₀
      replace hD : va_D A [((Pa 0), .inr (5, [.ref (Pa 1), .int x_30, .int x_32])), ((Pa 1), .inl (tc 5, 20, .inr (.inr (.inr (.inr (va_up (Pq 1) ((Pv 0) : Int32).toNatClampNeg (some q_4))))))), (q_4, .inr (9, [.int (Av 0), .int (Av 1), .int (Av 2), .int (Av 3), .int (Av 4), .int (Av 5), .ref sv_8, .ref sv_9, .ref sv_10, .ref sv_11, .ref sv_12, .ref sv_13, .ref sv_14, .ref sv_15])), (sv_8, .inl (tc 0, 10, .inl sv_21)), (sv_9, .inl (tc 0, 10, .inl sv_22)), (sv_10, .inl (tc 0, 6, .inl sv_23)), (sv_11, .inl (tc 0, 6, .inl sv_24)), (sv_12, .inl (tc 0, 6, .inl sv_25)), (sv_13, .inl (tc 0, 6, .inl sv_26)), (sv_14, .inl (tc 0, 6, .inl sv_27)), (sv_15, .inl (tc 0, 6, .inl sv_28)), ((Aa 0), .inr (9, [.int (Av 0), .int (Av 1), .int (Av 2), .int (Av 3), .int (Av 4), .int (Av 5), .ref (Aa 1), .ref (Aa 2), .ref (Aa 3), .ref (Aa 4), .ref (Aa 5), .ref (Aa 6), .ref (Aa 7), .ref (Aa 8)])), ((Aa 1), .inl (tc 0, 10, .inl (Af 1))), ((Aa 2), .inl (tc 0, 10, .inl (Af 2))), ((Aa 3), .inl (tc 0, 6, .inl (Af 3))), ((Aa 4), .inl (tc 0, 6, .inl (Af 4))), ((Aa 5), .inl (tc 0, 6, .inl (Af 5))), ((Aa 6), .inl (tc 0, 6, .inl (Af 6))), ((Aa 7), .inl (tc 0, 6, .inl (Af 7))), ((Aa 8), .inl (tc 0, 6, .inl (Af 8)))] := hD₀
      replace hS := hS₀
      clear hP₀ hD₀ hS₀
      have ha_33 : 0 ≤ (x_30 : Int32).toInt ∧ (x_30 : Int32).toInt < 20 := by
        have z_1 := Int32.le_iff_toInt_le.mp (Int32.not_lt.mp c_1)
        have z_2 := Int32.lt_iff_toInt_lt.mp c_2
        have y_0 : (0 : Int32).toInt = 0 := by decide
        have y_20 : (20 : Int32).toInt = 20 := by decide
        have y_1 : (1 : Int32).toInt = 1 := by decide
        have t_x_29 : x_29.toInt = ((Pv 0) : Int32).toInt + (1 : Int32).toInt := by rw [ex_29]; exact add_toInt (by omega) (by omega)
        have t_x_30 := rem_bounds (x := x_29) (y := 20) (by omega)
        rw [← ex_30] at t_x_30
        omega
      exact retV hx hb hr hlk hP hD hS (true, q_4, sv_8, sv_9, sv_10, sv_11, sv_12, sv_13, sv_14, sv_15, x_30, x_32, sv_21, sv_22, sv_23, sv_24, sv_25, sv_26, sv_27, sv_28) ⟨rfl, ha_33, h_bA⟩ [0, 1, 11, 12, 13, 14, 15, 16, 17, 18, 19, 2, 3, 4, 5, 6, 7, 8, 9, 10] rfl rfl dX5_keep_82 (Nat.le_of_ble_eq_true rfl) (Nat.le_of_ble_eq_true rfl) rfl
    · skip
      exact retV hx hb hr hlk hP hD hS (false, 0, 0, 0, 0, 0, 0, 0, 0, 0, 0, 0, (fun _ => 0), (fun _ => 0), (fun _ => 0), (fun _ => 0), (fun _ => 0), (fun _ => 0), (fun _ => 0), (fun _ => 0)) ⟨rfl, h_nx⟩ [0, 1, 2, 3, 4, 5, 6, 7, 8, 9, 10] rfl rfl dX5_keep_16 (Nat.le_of_ble_eq_true rfl) (Nat.le_of_ble_eq_true rfl) rfl
set_option maxRecDepth 100000 in
theorem cu_X5_keep_n_b (l : Launch) (D : va_G) (tc : Nat → ClassId) (sk : (Nat → Nat) × (Nat → Nat)) (Pa_0 : Nat) (Pa_1 : Nat) (Pv_0 : Int32) (Pv_1 : Int32) (Pq_1 : Nat → Option Nat) (Aa_0 : Nat) (Aa_1 : Nat) (Aa_2 : Nat) (Aa_3 : Nat) (Aa_4 : Nat) (Aa_5 : Nat) (Aa_6 : Nat) (Aa_7 : Nat) (Aa_8 : Nat) (Av_0 : Int32) (Av_1 : Int32) (Av_2 : Int32) (Av_3 : Int32) (Av_4 : Int32) (Av_5 : Int32) (Af_1 : Nat → Int32) (Af_2 : Nat → Int32) (Af_3 : Nat → Int32) (Af_4 : Nat → Int32) (Af_5 : Nat → Int32) (Af_6 : Nat → Int32) (Af_7 : Nat → Int32) (Af_8 : Nat → Int32) (h_nx : 0 ≤ (Pv_0 : Int32).toInt ∧ (Pv_0 : Int32).toInt < 20) (h_q : Pq_1 Pv_0.toNatClampNeg = none) (h_bA : 0 ≤ (Av_3 : Int32).toInt ∧ (Av_3 : Int32).toInt ≤ 6) : Ct l yX5_keep cX5_keep 3 none { frames := 2, cells := 9, slots := 70, locals := 61 } D tc sk [.ref Pa_0, .ref Aa_0] [(Pa_0, .inr (5, [.ref Pa_1, .int Pv_0, .int Pv_1])), (Pa_1, .inl (tc 5, 20, .inr (.inr (.inr (.inr Pq_1))))), (Aa_0, .inr (9, [.int Av_0, .int Av_1, .int Av_2, .int Av_3, .int Av_4, .int Av_5, .ref Aa_1, .ref Aa_2, .ref Aa_3, .ref Aa_4, .ref Aa_5, .ref Aa_6, .ref Aa_7, .ref Aa_8])), (Aa_1, .inl (tc 0, 10, .inl Af_1)), (Aa_2, .inl (tc 0, 10, .inl Af_2)), (Aa_3, .inl (tc 0, 6, .inl Af_3)), (Aa_4, .inl (tc 0, 6, .inl Af_4)), (Aa_5, .inl (tc 0, 6, .inl Af_5)), (Aa_6, .inl (tc 0, 6, .inl Af_6)), (Aa_7, .inl (tc 0, 6, .inl Af_7)), (Aa_8, .inl (tc 0, 6, .inl Af_8))] (fun (v : Option Value) (u : (Bool) × (Nat) × (Nat) × (Nat) × (Nat) × (Nat) × (Nat) × (Nat) × (Nat) × (Nat) × (Int32) × (Int32) × (Nat → Int32) × (Nat → Int32) × (Nat → Int32) × (Nat → Int32) × (Nat → Int32) × (Nat → Int32) × (Nat → Int32) × (Nat → Int32)) => match u with | (true, na0x0, na0x1, na0x2, na0x3, na0x4, na0x5, na0x6, na0x7, na0x8, oo0x1, oo0x2, oo0x3, oo0x4, oo0x5, oo0x6, oo0x7, oo0x8, oo0x9, oo0x10) => v = none ∧ (0 ≤ (oo0x1 : Int32).toInt ∧ (oo0x1 : Int32).toInt < 20) ∧ (0 ≤ (Av_3 : Int32).toInt ∧ (Av_3 : Int32).toInt ≤ 6) | (false, na0x0, na0x1, na0x2, na0x3, na0x4, na0x5, na0x6, na0x7, na0x8, oo0x1, oo0x2, oo0x3, oo0x4, oo0x5, oo0x6, oo0x7, oo0x8, oo0x9, oo0x10) => v = none ∧ (0 ≤ (Pv_0 : Int32).toInt ∧ (Pv_0 : Int32).toInt < 20)) (fun (u : (Bool) × (Nat) × (Nat) × (Nat) × (Nat) × (Nat) × (Nat) × (Nat) × (Nat) × (Nat) × (Int32) × (Int32) × (Nat → Int32) × (Nat → Int32) × (Nat → Int32) × (Nat → Int32) × (Nat → Int32) × (Nat → Int32) × (Nat → Int32) × (Nat → Int32)) => match u with | (true, na0x0, na0x1, na0x2, na0x3, na0x4, na0x5, na0x6, na0x7, na0x8, oo0x1, oo0x2, oo0x3, oo0x4, oo0x5, oo0x6, oo0x7, oo0x8, oo0x9, oo0x10) => [(Pa_0, .inr (5, [.ref Pa_1, .int oo0x1, .int oo0x2])), (Pa_1, .inl (tc 5, 20, .inr (.inr (.inr (.inr (va_up Pq_1 (Pv_0 : Int32).toNatClampNeg (some na0x0))))))), (Aa_0, .inr (9, [.int Av_0, .int Av_1, .int Av_2, .int Av_3, .int Av_4, .int Av_5, .ref Aa_1, .ref Aa_2, .ref Aa_3, .ref Aa_4, .ref Aa_5, .ref Aa_6, .ref Aa_7, .ref Aa_8])), (Aa_1, .inl (tc 0, 10, .inl Af_1)), (Aa_2, .inl (tc 0, 10, .inl Af_2)), (Aa_3, .inl (tc 0, 6, .inl Af_3)), (Aa_4, .inl (tc 0, 6, .inl Af_4)), (Aa_5, .inl (tc 0, 6, .inl Af_5)), (Aa_6, .inl (tc 0, 6, .inl Af_6)), (Aa_7, .inl (tc 0, 6, .inl Af_7)), (Aa_8, .inl (tc 0, 6, .inl Af_8)), (na0x0, .inr (9, [.int Av_0, .int Av_1, .int Av_2, .int Av_3, .int Av_4, .int Av_5, .ref na0x1, .ref na0x2, .ref na0x3, .ref na0x4, .ref na0x5, .ref na0x6, .ref na0x7, .ref na0x8])), (na0x1, .inl (tc 0, 10, .inl oo0x3)), (na0x2, .inl (tc 0, 10, .inl oo0x4)), (na0x3, .inl (tc 0, 6, .inl oo0x5)), (na0x4, .inl (tc 0, 6, .inl oo0x6)), (na0x5, .inl (tc 0, 6, .inl oo0x7)), (na0x6, .inl (tc 0, 6, .inl oo0x8)), (na0x7, .inl (tc 0, 6, .inl oo0x9)), (na0x8, .inl (tc 0, 6, .inl oo0x10))] | (false, na0x0, na0x1, na0x2, na0x3, na0x4, na0x5, na0x6, na0x7, na0x8, oo0x1, oo0x2, oo0x3, oo0x4, oo0x5, oo0x6, oo0x7, oo0x8, oo0x9, oo0x10) => [(Pa_0, .inr (5, [.ref Pa_1, .int Pv_0, .int Pv_1])), (Pa_1, .inl (tc 5, 20, .inr (.inr (.inr (.inr Pq_1))))), (Aa_0, .inr (9, [.int Av_0, .int Av_1, .int Av_2, .int Av_3, .int Av_4, .int Av_5, .ref Aa_1, .ref Aa_2, .ref Aa_3, .ref Aa_4, .ref Aa_5, .ref Aa_6, .ref Aa_7, .ref Aa_8])), (Aa_1, .inl (tc 0, 10, .inl Af_1)), (Aa_2, .inl (tc 0, 10, .inl Af_2)), (Aa_3, .inl (tc 0, 6, .inl Af_3)), (Aa_4, .inl (tc 0, 6, .inl Af_4)), (Aa_5, .inl (tc 0, 6, .inl Af_5)), (Aa_6, .inl (tc 0, 6, .inl Af_6)), (Aa_7, .inl (tc 0, 6, .inl Af_7)), (Aa_8, .inl (tc 0, 6, .inl Af_8))]) 9 70 :=
  ct_X5_keep_n_b l D tc sk (fun k => ([Pa_0, Pa_1] : List (Nat)).getD k 0) (fun k => ([Pv_0, Pv_1] : List (Int32)).getD k 0) (fun k => ([(fun _ => none), Pq_1] : List (Nat → Option Nat)).getD k (fun _ => none)) (fun k => ([Aa_0, Aa_1, Aa_2, Aa_3, Aa_4, Aa_5, Aa_6, Aa_7, Aa_8] : List (Nat)).getD k 0) (fun k => ([Av_0, Av_1, Av_2, Av_3, Av_4, Av_5] : List (Int32)).getD k 0) (fun k => ([(fun _ => 0), Af_1, Af_2, Af_3, Af_4, Af_5, Af_6, Af_7, Af_8] : List (Nat → Int32)).getD k (fun _ => 0)) h_nx h_q h_bA
set_option maxHeartbeats 4000000 in
set_option maxRecDepth 100000 in
theorem ct_X5_keep_s_b (l : Launch) (D : va_G) (tc : Nat → ClassId) (sk : (Nat → Nat) × (Nat → Nat)) (Pa : Nat → Nat) (Pv : Nat → Int32) (Pq : Nat → Nat → Option Nat) (Aa : Nat → Nat) (Av : Nat → Int32) (Af : Nat → Nat → Int32) (Ea : Nat → Nat) (Ev : Nat → Int32) (Ef : Nat → Nat → Int32) (h_nx : 0 ≤ ((Pv 0) : Int32).toInt ∧ ((Pv 0) : Int32).toInt < 20) (h_q : (Pq 1) (Pv 0).toNatClampNeg = some (Ea 0)) (h_bA : 0 ≤ ((Av 3) : Int32).toInt ∧ ((Av 3) : Int32).toInt ≤ 6) (h_bE : 0 ≤ ((Ev 3) : Int32).toInt ∧ ((Ev 3) : Int32).toInt ≤ 6) : Ct l yX5_keep cX5_keep 3 none { frames := 2, cells := 0, slots := 0, locals := 61 } D tc sk [.ref (Pa 0), .ref (Aa 0)] [((Pa 0), .inr (5, [.ref (Pa 1), .int (Pv 0), .int (Pv 1)])), ((Pa 1), .inl (tc 5, 20, .inr (.inr (.inr (.inr (Pq 1)))))), ((Aa 0), .inr (9, [.int (Av 0), .int (Av 1), .int (Av 2), .int (Av 3), .int (Av 4), .int (Av 5), .ref (Aa 1), .ref (Aa 2), .ref (Aa 3), .ref (Aa 4), .ref (Aa 5), .ref (Aa 6), .ref (Aa 7), .ref (Aa 8)])), ((Aa 1), .inl (tc 0, 10, .inl (Af 1))), ((Aa 2), .inl (tc 0, 10, .inl (Af 2))), ((Aa 3), .inl (tc 0, 6, .inl (Af 3))), ((Aa 4), .inl (tc 0, 6, .inl (Af 4))), ((Aa 5), .inl (tc 0, 6, .inl (Af 5))), ((Aa 6), .inl (tc 0, 6, .inl (Af 6))), ((Aa 7), .inl (tc 0, 6, .inl (Af 7))), ((Aa 8), .inl (tc 0, 6, .inl (Af 8))), ((Ea 0), .inr (9, [.int (Ev 0), .int (Ev 1), .int (Ev 2), .int (Ev 3), .int (Ev 4), .int (Ev 5), .ref (Ea 1), .ref (Ea 2), .ref (Ea 3), .ref (Ea 4), .ref (Ea 5), .ref (Ea 6), .ref (Ea 7), .ref (Ea 8)])), ((Ea 1), .inl (tc 0, 10, .inl (Ef 1))), ((Ea 2), .inl (tc 0, 10, .inl (Ef 2))), ((Ea 3), .inl (tc 0, 6, .inl (Ef 3))), ((Ea 4), .inl (tc 0, 6, .inl (Ef 4))), ((Ea 5), .inl (tc 0, 6, .inl (Ef 5))), ((Ea 6), .inl (tc 0, 6, .inl (Ef 6))), ((Ea 7), .inl (tc 0, 6, .inl (Ef 7))), ((Ea 8), .inl (tc 0, 6, .inl (Ef 8)))] (fun (v : Option Value) (u : (Int32) × (Int32) × (Int32) × (Int32) × (Int32) × (Int32) × (Int32) × (Int32) × (Nat → Int32) × (Nat → Int32) × (Nat → Int32) × (Nat → Int32) × (Nat → Int32) × (Nat → Int32) × (Nat → Int32) × (Nat → Int32)) => match u with | (oo0x1, oo0x2, oo0x3, oo0x4, oo0x5, oo0x6, oo0x7, oo0x8, oo0x9, oo0x10, oo0x11, oo0x12, oo0x13, oo0x14, oo0x15, oo0x16) => v = none ∧ (0 ≤ (oo0x1 : Int32).toInt ∧ (oo0x1 : Int32).toInt < 20) ∧ (0 ≤ (oo0x6 : Int32).toInt ∧ (oo0x6 : Int32).toInt ≤ 6)) (fun (u : (Int32) × (Int32) × (Int32) × (Int32) × (Int32) × (Int32) × (Int32) × (Int32) × (Nat → Int32) × (Nat → Int32) × (Nat → Int32) × (Nat → Int32) × (Nat → Int32) × (Nat → Int32) × (Nat → Int32) × (Nat → Int32)) => match u with | (oo0x1, oo0x2, oo0x3, oo0x4, oo0x5, oo0x6, oo0x7, oo0x8, oo0x9, oo0x10, oo0x11, oo0x12, oo0x13, oo0x14, oo0x15, oo0x16) => [((Pa 0), .inr (5, [.ref (Pa 1), .int oo0x1, .int oo0x2])), ((Pa 1), .inl (tc 5, 20, .inr (.inr (.inr (.inr (Pq 1)))))), ((Aa 0), .inr (9, [.int (Av 0), .int (Av 1), .int (Av 2), .int (Av 3), .int (Av 4), .int (Av 5), .ref (Aa 1), .ref (Aa 2), .ref (Aa 3), .ref (Aa 4), .ref (Aa 5), .ref (Aa 6), .ref (Aa 7), .ref (Aa 8)])), ((Aa 1), .inl (tc 0, 10, .inl (Af 1))), ((Aa 2), .inl (tc 0, 10, .inl (Af 2))), ((Aa 3), .inl (tc 0, 6, .inl (Af 3))), ((Aa 4), .inl (tc 0, 6, .inl (Af 4))), ((Aa 5), .inl (tc 0, 6, .inl (Af 5))), ((Aa 6), .inl (tc 0, 6, .inl (Af 6))), ((Aa 7), .inl (tc 0, 6, .inl (Af 7))), ((Aa 8), .inl (tc 0, 6, .inl (Af 8))), ((Ea 0), .inr (9, [.int oo0x3, .int oo0x4, .int oo0x5, .int oo0x6, .int oo0x7, .int oo0x8, .ref (Ea 1), .ref (Ea 2), .ref (Ea 3), .ref (Ea 4), .ref (Ea 5), .ref (Ea 6), .ref (Ea 7), .ref (Ea 8)])), ((Ea 1), .inl (tc 0, 10, .inl oo0x9)), ((Ea 2), .inl (tc 0, 10, .inl oo0x10)), ((Ea 3), .inl (tc 0, 6, .inl oo0x11)), ((Ea 4), .inl (tc 0, 6, .inl oo0x12)), ((Ea 5), .inl (tc 0, 6, .inl oo0x13)), ((Ea 6), .inl (tc 0, 6, .inl oo0x14)), ((Ea 7), .inl (tc 0, 6, .inl oo0x15)), ((Ea 8), .inl (tc 0, 6, .inl oo0x16))]) 0 0 := by
  refine Ct.start (by decide) (Nat.le_of_ble_eq_true rfl) (fun p e s m below meth c A ls hx hb hr hlk hin hml hown hts hK hX hP hD hA hl hS => ?_)
  have hl : lv_has ls 3 [(0, .ref (Pa 0)), (1, .ref (Aa 0))] := hl
  refine lv_aload_n hx hb dX5_keep_0 rfl (lv_at hl 0 rfl) ?_
  refine gf_X5_17 hx hb hts hown hK hP 0 rfl rfl dX5_keep_1 ?_
  refine lv_if_lt (tgt := 16) hx hb dX5_keep_4 (by decide) (fun c_1 => ?_) (fun c_1 => ?_)
  · skip
    exact retV hx hb hr hlk hP hD hS ((Pv 0), (Pv 1), (Ev 0), (Ev 1), (Ev 2), (Ev 3), (Ev 4), (Ev 5), (Ef 1), (Ef 2), (Ef 3), (Ef 4), (Ef 5), (Ef 6), (Ef 7), (Ef 8)) ⟨rfl, h_nx, h_bE⟩ [0, 1, 2, 3, 4, 5, 6, 7, 8, 9, 10, 11, 12, 13, 14, 15, 16, 17, 18, 19] rfl rfl dX5_keep_16 (Nat.le_of_ble_eq_true rfl) (Nat.le_of_ble_eq_true rfl) rfl
  · skip
    refine lv_aload_n hx hb dX5_keep_7 rfl (lv_at hl 0 rfl) ?_
    refine gf_X5_17 hx hb hts hown hK hP 0 rfl rfl dX5_keep_8 ?_
    refine lv_bipush (v := 20) hx hb dX5_keep_11 (by decide) ?_
    refine lv_icmp_lt (tgt := 17) hx hb dX5_keep_13 (by decide) (fun c_2 => ?_) (fun c_2 => ?_)
    · skip
      refine lv_aload_n hx hb dX5_keep_17 rfl (lv_at hl 0 rfl) ?_
      refine gf_X5_13 hx hb hts hown hK hP 0 rfl rfl dX5_keep_18 ?_
      refine lv_aload_n hx hb dX5_keep_21 rfl (lv_at hl 0 rfl) ?_
      refine gf_X5_17 hx hb hts hown hK hP 0 rfl rfl dX5_keep_22 ?_
      have hi_3 : vp_in (Pv 0) 20 := by
        have z_1 := Int32.le_iff_toInt_le.mp (Int32.not_lt.mp c_1)
        have z_2 := Int32.lt_iff_toInt_lt.mp c_2
        have y_0 : (0 : Int32).toInt = 0 := by decide
        have y_20 : (20 : Int32).toInt = 20 := by decide
        refine vp_in_iff.mpr ⟨?_, ?_⟩ <;> omega
      refine va_aldq hx hb hK hP 1 5 rfl rfl hi_3 dX5_keep_25 ?_
      refine lv_val (v := .ref (Ea 0)) (by rw [h_q]; rfl) ?_
      refine lv_astore_n (lv' := [(2, .ref (Ea 0)), (0, .ref (Pa 0)), (1, .ref (Aa 0))]) hx hb dX5_keep_26 rfl hl (by decide) rfl (fun ls hl₀ => ?_)
      replace hl := hl₀
      clear hl₀
      refine lv_aload_n hx hb dX5_keep_27 rfl (lv_at hl 0 rfl) ?_
      refine lv_ifnonnull (tgt := 49) hx hb dX5_keep_28 (by decide) ?_
      refine lv_aload_n hx hb dX5_keep_49 rfl (lv_at hl 0 rfl) ?_
      refine lv_aload_n hx hb dX5_keep_50 rfl (lv_at hl 2 rfl) ?_
      refine cV (a := (Ea 0)) (As := [.ref (Aa 0)]) (rest := []) (wr := [((Pa 0), .inr (5, [.ref (Pa 1), .int (Pv 0), .int (Pv 1)])), ((Pa 1), .inl (tc 5, 20, .inr (.inr (.inr (.inr (Pq 1))))))]) ⟨hx, hb, hml, hown, hts⟩ hK hX hA (cu_X9_copyFrom l D tc sk (Ea 0) (Ea 1) (Ea 2) (Ea 3) (Ea 4) (Ea 5) (Ea 6) (Ea 7) (Ea 8) (Ev 0) (Ev 1) (Ev 2) (Ev 3) (Ev 4) (Ev 5) (Ef 1) (Ef 2) (Ef 3) (Ef 4) (Ef 5) (Ef 6) (Ef 7) (Ef 8) (Aa 0) (Aa 1) (Aa 2) (Aa 3) (Aa 4) (Aa 5) (Aa 6) (Aa 7) (Aa 8) (Av 0) (Av 1) (Av 2) (Av 3) (Av 4) (Av 5) (Af 1) (Af 2) (Af 3) (Af 4) (Af 5) (Af 6) (Af 7) (Af 8)) k_599 k_730 k_597 k_598 k_98 pl_X9_copyFrom ⟨Nat.le_of_ble_eq_true rfl, Nat.le_of_ble_eq_true rfl⟩ rfl rfl (va_recv hK hP (ci := 9) (q0 := 11) rfl rfl) hP hD hS [11, 12, 13, 14, 15, 16, 17, 18, 19, 2, 3, 4, 5, 6, 7, 8, 9, 10] [0, 1] rfl rfl rfl rfl rfl (by decide) rfl hl.1 rfl (Nat.le_of_ble_eq_true rfl) dX5_keep_51 ⟨Nat.le_of_ble_eq_true rfl, Nat.le_of_ble_eq_true rfl⟩ (fun v_4 u_5 H locs hv_6 hP₀ hD₀ hS₀ => ?_)
      obtain ⟨sv_7, sv_8, sv_9, sv_10, sv_11, sv_12, sv_13, sv_14⟩ := u_5
      obtain rfl : v_4 = none := hv_6
      refine W.eq (g2 := F0 m 54 ls []) rfl ?_
      replace hP : va_P D classes [((Pa 0), .inr (5, [.ref (Pa 1), .int (Pv 0), .int (Pv 1)])), ((Pa 1), .inl (tc 5, 20, .inr (.inr (.inr (.inr (Pq 1)))))), ((Ea 0), .inr (9, [.int (Av 0), .int (Av 1), .int (Av 2), .int (Av 3), .int (Av 4), .int (Av 5), .ref (Ea 1), .ref (Ea 2), .ref (Ea 3), .ref (Ea 4), .ref (Ea 5), .ref (Ea 6), .ref (Ea 7), .ref (Ea 8)])), ((Ea 1), .inl (tc 0, 10, .inl sv_7)), ((Ea 2), .inl (tc 0, 10, .inl sv_8)), ((Ea 3), .inl (tc 0, 6, .inl sv_9)), ((Ea 4), .inl (tc 0, 6, .inl sv_10)), ((Ea 5), .inl (tc 0, 6, .inl sv_11)), ((Ea 6), .inl (tc 0, 6, .inl sv_12)), ((Ea 7), .inl (tc 0, 6, .inl sv_13)), ((Ea 8), .inl (tc 0, 6, .inl sv_14)), ((Aa 0), .inr (9, [.int (Av 0), .int (Av 1), .int (Av 2), .int (Av 3), .int (Av 4), .int (Av 5), .ref (Aa 1), .ref (Aa 2), .ref (Aa 3), .ref (Aa 4), .ref (Aa 5), .ref (Aa 6), .ref (Aa 7), .ref (Aa 8)])), ((Aa 1), .inl (tc 0, 10, .inl (Af 1))), ((Aa 2), .inl (tc 0, 10, .inl (Af 2))), ((Aa 3), .inl (tc 0, 6, .inl (Af 3))), ((Aa 4), .inl (tc 0, 6, .inl (Af 4))), ((Aa 5), .inl (tc 0, 6, .inl (Af 5))), ((Aa 6), .inl (tc 0, 6, .inl (Af 6))), ((Aa 7), .inl (tc 0, 6, .inl (Af 7))), ((Aa 8), .inl (tc 0, 6, .inl (Af 8)))] H := hP₀
      replace hD : va_D A [((Pa 0), .inr (5, [.ref (Pa 1), .int (Pv 0), .int (Pv 1)])), ((Pa 1), .inl (tc 5, 20, .inr (.inr (.inr (.inr (Pq 1)))))), ((Ea 0), .inr (9, [.int (Av 0), .int (Av 1), .int (Av 2), .int (Av 3), .int (Av 4), .int (Av 5), .ref (Ea 1), .ref (Ea 2), .ref (Ea 3), .ref (Ea 4), .ref (Ea 5), .ref (Ea 6), .ref (Ea 7), .ref (Ea 8)])), ((Ea 1), .inl (tc 0, 10, .inl sv_7)), ((Ea 2), .inl (tc 0, 10, .inl sv_8)), ((Ea 3), .inl (tc 0, 6, .inl sv_9)), ((Ea 4), .inl (tc 0, 6, .inl sv_10)), ((Ea 5), .inl (tc 0, 6, .inl sv_11)), ((Ea 6), .inl (tc 0, 6, .inl sv_12)), ((Ea 7), .inl (tc 0, 6, .inl sv_13)), ((Ea 8), .inl (tc 0, 6, .inl sv_14)), ((Aa 0), .inr (9, [.int (Av 0), .int (Av 1), .int (Av 2), .int (Av 3), .int (Av 4), .int (Av 5), .ref (Aa 1), .ref (Aa 2), .ref (Aa 3), .ref (Aa 4), .ref (Aa 5), .ref (Aa 6), .ref (Aa 7), .ref (Aa 8)])), ((Aa 1), .inl (tc 0, 10, .inl (Af 1))), ((Aa 2), .inl (tc 0, 10, .inl (Af 2))), ((Aa 3), .inl (tc 0, 6, .inl (Af 3))), ((Aa 4), .inl (tc 0, 6, .inl (Af 4))), ((Aa 5), .inl (tc 0, 6, .inl (Af 5))), ((Aa 6), .inl (tc 0, 6, .inl (Af 6))), ((Aa 7), .inl (tc 0, 6, .inl (Af 7))), ((Aa 8), .inl (tc 0, 6, .inl (Af 8)))] := hD₀
      replace hS := hS₀
      clear hP₀ hD₀ hS₀
      refine lv_aload_n hx hb dX5_keep_54 rfl (lv_at hl 1 rfl) ?_
      refine lv_aload_n hx hb dX5_keep_55 rfl (lv_at hl 1 rfl) ?_
      refine gf_X5_17 hx hb hts hown hK hP 0 rfl rfl dX5_keep_56 ?_
      refine lv_iconst (v := 1) hx hb dX5_keep_59 (by decide) ?_
      refine lv_iadd hx hb dX5_keep_60 ?_
      refine lv_topi (fun x_15 ex_15 => ?_)
      refine lv_bipush (v := 20) hx hb dX5_keep_61 (by decide) ?_
      refine lv_irem hx hb dX5_keep_63 (by decide) ?_
      refine lv_topi (fun x_16 ex_16 => ?_)
      refine pf_X5_17 hx hb hts hown hK hP hD hS 0 rfl (Nat.le_of_ble_eq_true rfl) rfl rfl dX5_keep_64 (fun H locs hP₀ hD₀ hS₀ => ?_)
      replace hP : va_P D classes [((Pa 0), .inr (5, [.ref (Pa 1), .int x_16, .int (Pv 1)])), ((Pa 1), .inl (tc 5, 20, .inr (.inr (.inr (.inr (Pq 1)))))), ((Ea 0), .inr (9, [.int (Av 0), .int (Av 1), .int (Av 2), .int (Av 3), .int (Av 4), .int (Av 5), .ref (Ea 1), .ref (Ea 2), .ref (Ea 3), .ref (Ea 4), .ref (Ea 5), .ref (Ea 6), .ref (Ea 7), .ref (Ea 8)])), ((Ea 1), .inl (tc 0, 10, .inl sv_7)), ((Ea 2), .inl (tc 0, 10, .inl sv_8)), ((Ea 3), .inl (tc 0, 6, .inl sv_9)), ((Ea 4), .inl (tc 0, 6, .inl sv_10)), ((Ea 5), .inl (tc 0, 6, .inl sv_11)), ((Ea 6), .inl (tc 0, 6, .inl sv_12)), ((Ea 7), .inl (tc 0, 6, .inl sv_13)), ((Ea 8), .inl (tc 0, 6, .inl sv_14)), ((Aa 0), .inr (9, [.int (Av 0), .int (Av 1), .int (Av 2), .int (Av 3), .int (Av 4), .int (Av 5), .ref (Aa 1), .ref (Aa 2), .ref (Aa 3), .ref (Aa 4), .ref (Aa 5), .ref (Aa 6), .ref (Aa 7), .ref (Aa 8)])), ((Aa 1), .inl (tc 0, 10, .inl (Af 1))), ((Aa 2), .inl (tc 0, 10, .inl (Af 2))), ((Aa 3), .inl (tc 0, 6, .inl (Af 3))), ((Aa 4), .inl (tc 0, 6, .inl (Af 4))), ((Aa 5), .inl (tc 0, 6, .inl (Af 5))), ((Aa 6), .inl (tc 0, 6, .inl (Af 6))), ((Aa 7), .inl (tc 0, 6, .inl (Af 7))), ((Aa 8), .inl (tc 0, 6, .inl (Af 8)))] H := hP₀
      replace hD : va_D A [((Pa 0), .inr (5, [.ref (Pa 1), .int x_16, .int (Pv 1)])), ((Pa 1), .inl (tc 5, 20, .inr (.inr (.inr (.inr (Pq 1)))))), ((Ea 0), .inr (9, [.int (Av 0), .int (Av 1), .int (Av 2), .int (Av 3), .int (Av 4), .int (Av 5), .ref (Ea 1), .ref (Ea 2), .ref (Ea 3), .ref (Ea 4), .ref (Ea 5), .ref (Ea 6), .ref (Ea 7), .ref (Ea 8)])), ((Ea 1), .inl (tc 0, 10, .inl sv_7)), ((Ea 2), .inl (tc 0, 10, .inl sv_8)), ((Ea 3), .inl (tc 0, 6, .inl sv_9)), ((Ea 4), .inl (tc 0, 6, .inl sv_10)), ((Ea 5), .inl (tc 0, 6, .inl sv_11)), ((Ea 6), .inl (tc 0, 6, .inl sv_12)), ((Ea 7), .inl (tc 0, 6, .inl sv_13)), ((Ea 8), .inl (tc 0, 6, .inl sv_14)), ((Aa 0), .inr (9, [.int (Av 0), .int (Av 1), .int (Av 2), .int (Av 3), .int (Av 4), .int (Av 5), .ref (Aa 1), .ref (Aa 2), .ref (Aa 3), .ref (Aa 4), .ref (Aa 5), .ref (Aa 6), .ref (Aa 7), .ref (Aa 8)])), ((Aa 1), .inl (tc 0, 10, .inl (Af 1))), ((Aa 2), .inl (tc 0, 10, .inl (Af 2))), ((Aa 3), .inl (tc 0, 6, .inl (Af 3))), ((Aa 4), .inl (tc 0, 6, .inl (Af 4))), ((Aa 5), .inl (tc 0, 6, .inl (Af 5))), ((Aa 6), .inl (tc 0, 6, .inl (Af 6))), ((Aa 7), .inl (tc 0, 6, .inl (Af 7))), ((Aa 8), .inl (tc 0, 6, .inl (Af 8)))] := hD₀
      replace hS := hS₀
      clear hP₀ hD₀ hS₀
      refine lv_aload_n hx hb dX5_keep_67 rfl (lv_at hl 1 rfl) ?_
      refine lv_bipush (v := 20) hx hb dX5_keep_68 (by decide) ?_
      refine lv_aload_n hx hb dX5_keep_70 rfl (lv_at hl 1 rfl) ?_
      refine gf_X5_21 hx hb hts hown hK hP 0 rfl rfl dX5_keep_71 ?_
      refine lv_iconst (v := 1) hx hb dX5_keep_74 (by decide) ?_
      refine lv_iadd hx hb dX5_keep_75 ?_
      refine lv_topi (fun x_17 ex_17 => ?_)
      refine va_mmin hx hb (hml.trans hl.1.symm) hown (hts _ k_731) (hts _ k_680) (hts _ k_114) (hts _ k_681) (Nat.le_of_ble_eq_true rfl) (Nat.le_of_ble_eq_true rfl) (Nat.le_of_ble_eq_true rfl) (Nat.le_of_ble_eq_true rfl) dX5_keep_76 ?_
      refine lv_topi (fun x_18 ex_18 => ?_)
      have mx_18 := imin_f ex_18
      rw [show (20 : Int32).toInt = 20 by decide] at mx_18
      refine pf_X5_21 hx hb hts hown hK hP hD hS 0 rfl (Nat.le_of_ble_eq_true rfl) rfl rfl dX5_keep_79 (fun H locs hP₀ hD₀ hS₀ => ?_)
      replace hP : va_P D classes [((Pa 0), .inr (5, [.ref (Pa 1), .int x_16, .int x_18])), ((Pa 1), .inl (tc 5, 20, .inr (.inr (.inr (.inr (Pq 1)))))), ((Ea 0), .inr (9, [.int (Av 0), .int (Av 1), .int (Av 2), .int (Av 3), .int (Av 4), .int (Av 5), .ref (Ea 1), .ref (Ea 2), .ref (Ea 3), .ref (Ea 4), .ref (Ea 5), .ref (Ea 6), .ref (Ea 7), .ref (Ea 8)])), ((Ea 1), .inl (tc 0, 10, .inl sv_7)), ((Ea 2), .inl (tc 0, 10, .inl sv_8)), ((Ea 3), .inl (tc 0, 6, .inl sv_9)), ((Ea 4), .inl (tc 0, 6, .inl sv_10)), ((Ea 5), .inl (tc 0, 6, .inl sv_11)), ((Ea 6), .inl (tc 0, 6, .inl sv_12)), ((Ea 7), .inl (tc 0, 6, .inl sv_13)), ((Ea 8), .inl (tc 0, 6, .inl sv_14)), ((Aa 0), .inr (9, [.int (Av 0), .int (Av 1), .int (Av 2), .int (Av 3), .int (Av 4), .int (Av 5), .ref (Aa 1), .ref (Aa 2), .ref (Aa 3), .ref (Aa 4), .ref (Aa 5), .ref (Aa 6), .ref (Aa 7), .ref (Aa 8)])), ((Aa 1), .inl (tc 0, 10, .inl (Af 1))), ((Aa 2), .inl (tc 0, 10, .inl (Af 2))), ((Aa 3), .inl (tc 0, 6, .inl (Af 3))), ((Aa 4), .inl (tc 0, 6, .inl (Af 4))), ((Aa 5), .inl (tc 0, 6, .inl (Af 5))), ((Aa 6), .inl (tc 0, 6, .inl (Af 6))), ((Aa 7), .inl (tc 0, 6, .inl (Af 7))), ((Aa 8), .inl (tc 0, 6, .inl (Af 8)))] H := hP₀
      replace hD : va_D A [((Pa 0), .inr (5, [.ref (Pa 1), .int x_16, .int x_18])), ((Pa 1), .inl (tc 5, 20, .inr (.inr (.inr (.inr (Pq 1)))))), ((Ea 0), .inr (9, [.int (Av 0), .int (Av 1), .int (Av 2), .int (Av 3), .int (Av 4), .int (Av 5), .ref (Ea 1), .ref (Ea 2), .ref (Ea 3), .ref (Ea 4), .ref (Ea 5), .ref (Ea 6), .ref (Ea 7), .ref (Ea 8)])), ((Ea 1), .inl (tc 0, 10, .inl sv_7)), ((Ea 2), .inl (tc 0, 10, .inl sv_8)), ((Ea 3), .inl (tc 0, 6, .inl sv_9)), ((Ea 4), .inl (tc 0, 6, .inl sv_10)), ((Ea 5), .inl (tc 0, 6, .inl sv_11)), ((Ea 6), .inl (tc 0, 6, .inl sv_12)), ((Ea 7), .inl (tc 0, 6, .inl sv_13)), ((Ea 8), .inl (tc 0, 6, .inl sv_14)), ((Aa 0), .inr (9, [.int (Av 0), .int (Av 1), .int (Av 2), .int (Av 3), .int (Av 4), .int (Av 5), .ref (Aa 1), .ref (Aa 2), .ref (Aa 3), .ref (Aa 4), .ref (Aa 5), .ref (Aa 6), .ref (Aa 7), .ref (Aa 8)])), ((Aa 1), .inl (tc 0, 10, .inl (Af 1))), ((Aa 2), .inl (tc 0, 10, .inl (Af 2))), ((Aa 3), .inl (tc 0, 6, .inl (Af 3))), ((Aa 4), .inl (tc 0, 6, .inl (Af 4))), ((Aa 5), .inl (tc 0, 6, .inl (Af 5))), ((Aa 6), .inl (tc 0, 6, .inl (Af 6))), ((Aa 7), .inl (tc 0, 6, .inl (Af 7))), ((Aa 8), .inl (tc 0, 6, .inl (Af 8)))] := hD₀
      replace hS := hS₀
      clear hP₀ hD₀ hS₀
      have ha_19 : 0 ≤ (x_16 : Int32).toInt ∧ (x_16 : Int32).toInt < 20 := by
        have z_1 := Int32.le_iff_toInt_le.mp (Int32.not_lt.mp c_1)
        have z_2 := Int32.lt_iff_toInt_lt.mp c_2
        have y_0 : (0 : Int32).toInt = 0 := by decide
        have y_20 : (20 : Int32).toInt = 20 := by decide
        have y_1 : (1 : Int32).toInt = 1 := by decide
        have t_x_15 : x_15.toInt = ((Pv 0) : Int32).toInt + (1 : Int32).toInt := by rw [ex_15]; exact add_toInt (by omega) (by omega)
        have t_x_16 := rem_bounds (x := x_15) (y := 20) (by omega)
        rw [← ex_16] at t_x_16
        omega
      exact retV hx hb hr hlk hP hD hS (x_16, x_18, (Av 0), (Av 1), (Av 2), (Av 3), (Av 4), (Av 5), sv_7, sv_8, sv_9, sv_10, sv_11, sv_12, sv_13, sv_14) ⟨rfl, ha_19, h_bA⟩ [0, 1, 11, 12, 13, 14, 15, 16, 17, 18, 19, 2, 3, 4, 5, 6, 7, 8, 9, 10] rfl rfl dX5_keep_82 (Nat.le_of_ble_eq_true rfl) (Nat.le_of_ble_eq_true rfl) rfl
    · skip
      exact retV hx hb hr hlk hP hD hS ((Pv 0), (Pv 1), (Ev 0), (Ev 1), (Ev 2), (Ev 3), (Ev 4), (Ev 5), (Ef 1), (Ef 2), (Ef 3), (Ef 4), (Ef 5), (Ef 6), (Ef 7), (Ef 8)) ⟨rfl, h_nx, h_bE⟩ [0, 1, 2, 3, 4, 5, 6, 7, 8, 9, 10, 11, 12, 13, 14, 15, 16, 17, 18, 19] rfl rfl dX5_keep_16 (Nat.le_of_ble_eq_true rfl) (Nat.le_of_ble_eq_true rfl) rfl
set_option maxRecDepth 100000 in
theorem cu_X5_keep_s_b (l : Launch) (D : va_G) (tc : Nat → ClassId) (sk : (Nat → Nat) × (Nat → Nat)) (Pa_0 : Nat) (Pa_1 : Nat) (Pv_0 : Int32) (Pv_1 : Int32) (Pq_1 : Nat → Option Nat) (Aa_0 : Nat) (Aa_1 : Nat) (Aa_2 : Nat) (Aa_3 : Nat) (Aa_4 : Nat) (Aa_5 : Nat) (Aa_6 : Nat) (Aa_7 : Nat) (Aa_8 : Nat) (Av_0 : Int32) (Av_1 : Int32) (Av_2 : Int32) (Av_3 : Int32) (Av_4 : Int32) (Av_5 : Int32) (Af_1 : Nat → Int32) (Af_2 : Nat → Int32) (Af_3 : Nat → Int32) (Af_4 : Nat → Int32) (Af_5 : Nat → Int32) (Af_6 : Nat → Int32) (Af_7 : Nat → Int32) (Af_8 : Nat → Int32) (Ea_0 : Nat) (Ea_1 : Nat) (Ea_2 : Nat) (Ea_3 : Nat) (Ea_4 : Nat) (Ea_5 : Nat) (Ea_6 : Nat) (Ea_7 : Nat) (Ea_8 : Nat) (Ev_0 : Int32) (Ev_1 : Int32) (Ev_2 : Int32) (Ev_3 : Int32) (Ev_4 : Int32) (Ev_5 : Int32) (Ef_1 : Nat → Int32) (Ef_2 : Nat → Int32) (Ef_3 : Nat → Int32) (Ef_4 : Nat → Int32) (Ef_5 : Nat → Int32) (Ef_6 : Nat → Int32) (Ef_7 : Nat → Int32) (Ef_8 : Nat → Int32) (h_nx : 0 ≤ (Pv_0 : Int32).toInt ∧ (Pv_0 : Int32).toInt < 20) (h_q : Pq_1 Pv_0.toNatClampNeg = some Ea_0) (h_bA : 0 ≤ (Av_3 : Int32).toInt ∧ (Av_3 : Int32).toInt ≤ 6) (h_bE : 0 ≤ (Ev_3 : Int32).toInt ∧ (Ev_3 : Int32).toInt ≤ 6) : Ct l yX5_keep cX5_keep 3 none { frames := 2, cells := 0, slots := 0, locals := 61 } D tc sk [.ref Pa_0, .ref Aa_0] [(Pa_0, .inr (5, [.ref Pa_1, .int Pv_0, .int Pv_1])), (Pa_1, .inl (tc 5, 20, .inr (.inr (.inr (.inr Pq_1))))), (Aa_0, .inr (9, [.int Av_0, .int Av_1, .int Av_2, .int Av_3, .int Av_4, .int Av_5, .ref Aa_1, .ref Aa_2, .ref Aa_3, .ref Aa_4, .ref Aa_5, .ref Aa_6, .ref Aa_7, .ref Aa_8])), (Aa_1, .inl (tc 0, 10, .inl Af_1)), (Aa_2, .inl (tc 0, 10, .inl Af_2)), (Aa_3, .inl (tc 0, 6, .inl Af_3)), (Aa_4, .inl (tc 0, 6, .inl Af_4)), (Aa_5, .inl (tc 0, 6, .inl Af_5)), (Aa_6, .inl (tc 0, 6, .inl Af_6)), (Aa_7, .inl (tc 0, 6, .inl Af_7)), (Aa_8, .inl (tc 0, 6, .inl Af_8)), (Ea_0, .inr (9, [.int Ev_0, .int Ev_1, .int Ev_2, .int Ev_3, .int Ev_4, .int Ev_5, .ref Ea_1, .ref Ea_2, .ref Ea_3, .ref Ea_4, .ref Ea_5, .ref Ea_6, .ref Ea_7, .ref Ea_8])), (Ea_1, .inl (tc 0, 10, .inl Ef_1)), (Ea_2, .inl (tc 0, 10, .inl Ef_2)), (Ea_3, .inl (tc 0, 6, .inl Ef_3)), (Ea_4, .inl (tc 0, 6, .inl Ef_4)), (Ea_5, .inl (tc 0, 6, .inl Ef_5)), (Ea_6, .inl (tc 0, 6, .inl Ef_6)), (Ea_7, .inl (tc 0, 6, .inl Ef_7)), (Ea_8, .inl (tc 0, 6, .inl Ef_8))] (fun (v : Option Value) (u : (Int32) × (Int32) × (Int32) × (Int32) × (Int32) × (Int32) × (Int32) × (Int32) × (Nat → Int32) × (Nat → Int32) × (Nat → Int32) × (Nat → Int32) × (Nat → Int32) × (Nat → Int32) × (Nat → Int32) × (Nat → Int32)) => match u with | (oo0x1, oo0x2, oo0x3, oo0x4, oo0x5, oo0x6, oo0x7, oo0x8, oo0x9, oo0x10, oo0x11, oo0x12, oo0x13, oo0x14, oo0x15, oo0x16) => v = none ∧ (0 ≤ (oo0x1 : Int32).toInt ∧ (oo0x1 : Int32).toInt < 20) ∧ (0 ≤ (oo0x6 : Int32).toInt ∧ (oo0x6 : Int32).toInt ≤ 6)) (fun (u : (Int32) × (Int32) × (Int32) × (Int32) × (Int32) × (Int32) × (Int32) × (Int32) × (Nat → Int32) × (Nat → Int32) × (Nat → Int32) × (Nat → Int32) × (Nat → Int32) × (Nat → Int32) × (Nat → Int32) × (Nat → Int32)) => match u with | (oo0x1, oo0x2, oo0x3, oo0x4, oo0x5, oo0x6, oo0x7, oo0x8, oo0x9, oo0x10, oo0x11, oo0x12, oo0x13, oo0x14, oo0x15, oo0x16) => [(Pa_0, .inr (5, [.ref Pa_1, .int oo0x1, .int oo0x2])), (Pa_1, .inl (tc 5, 20, .inr (.inr (.inr (.inr Pq_1))))), (Aa_0, .inr (9, [.int Av_0, .int Av_1, .int Av_2, .int Av_3, .int Av_4, .int Av_5, .ref Aa_1, .ref Aa_2, .ref Aa_3, .ref Aa_4, .ref Aa_5, .ref Aa_6, .ref Aa_7, .ref Aa_8])), (Aa_1, .inl (tc 0, 10, .inl Af_1)), (Aa_2, .inl (tc 0, 10, .inl Af_2)), (Aa_3, .inl (tc 0, 6, .inl Af_3)), (Aa_4, .inl (tc 0, 6, .inl Af_4)), (Aa_5, .inl (tc 0, 6, .inl Af_5)), (Aa_6, .inl (tc 0, 6, .inl Af_6)), (Aa_7, .inl (tc 0, 6, .inl Af_7)), (Aa_8, .inl (tc 0, 6, .inl Af_8)), (Ea_0, .inr (9, [.int oo0x3, .int oo0x4, .int oo0x5, .int oo0x6, .int oo0x7, .int oo0x8, .ref Ea_1, .ref Ea_2, .ref Ea_3, .ref Ea_4, .ref Ea_5, .ref Ea_6, .ref Ea_7, .ref Ea_8])), (Ea_1, .inl (tc 0, 10, .inl oo0x9)), (Ea_2, .inl (tc 0, 10, .inl oo0x10)), (Ea_3, .inl (tc 0, 6, .inl oo0x11)), (Ea_4, .inl (tc 0, 6, .inl oo0x12)), (Ea_5, .inl (tc 0, 6, .inl oo0x13)), (Ea_6, .inl (tc 0, 6, .inl oo0x14)), (Ea_7, .inl (tc 0, 6, .inl oo0x15)), (Ea_8, .inl (tc 0, 6, .inl oo0x16))]) 0 0 :=
  ct_X5_keep_s_b l D tc sk (fun k => ([Pa_0, Pa_1] : List (Nat)).getD k 0) (fun k => ([Pv_0, Pv_1] : List (Int32)).getD k 0) (fun k => ([(fun _ => none), Pq_1] : List (Nat → Option Nat)).getD k (fun _ => none)) (fun k => ([Aa_0, Aa_1, Aa_2, Aa_3, Aa_4, Aa_5, Aa_6, Aa_7, Aa_8] : List (Nat)).getD k 0) (fun k => ([Av_0, Av_1, Av_2, Av_3, Av_4, Av_5] : List (Int32)).getD k 0) (fun k => ([(fun _ => 0), Af_1, Af_2, Af_3, Af_4, Af_5, Af_6, Af_7, Af_8] : List (Nat → Int32)).getD k (fun _ => 0)) (fun k => ([Ea_0, Ea_1, Ea_2, Ea_3, Ea_4, Ea_5, Ea_6, Ea_7, Ea_8] : List (Nat)).getD k 0) (fun k => ([Ev_0, Ev_1, Ev_2, Ev_3, Ev_4, Ev_5] : List (Int32)).getD k 0) (fun k => ([(fun _ => 0), Ef_1, Ef_2, Ef_3, Ef_4, Ef_5, Ef_6, Ef_7, Ef_8] : List (Nat → Int32)).getD k (fun _ => 0)) h_nx h_q h_bA h_bE
set_option maxHeartbeats 4000000 in
set_option maxRecDepth 100000 in
theorem ct_X5_giveBack_n_b (l : Launch) (D : va_G) (tc : Nat → ClassId) (sk : (Nat → Nat) × (Nat → Nat)) (Pa : Nat → Nat) (Pv : Nat → Int32) (Pq : Nat → Nat → Option Nat) (Aa : Nat → Nat) (Av : Nat → Int32) (Af : Nat → Nat → Int32) (h_nx : 0 ≤ ((Pv 0) : Int32).toInt ∧ ((Pv 0) : Int32).toInt < 20) (h_q : ∀ j : Int32, j.toInt = ((Pv 0).toInt + 19) % 20 → (Pq 1) j.toNatClampNeg = none) (h_bA : 0 ≤ ((Av 3) : Int32).toInt ∧ ((Av 3) : Int32).toInt ≤ 6) : Ct l yX5_giveBack cX5_giveBack 4 (some .int) { frames := 0, cells := 0, slots := 0, locals := 0 } D tc sk [.ref (Pa 0), .ref (Aa 0)] [((Pa 0), .inr (5, [.ref (Pa 1), .int (Pv 0), .int (Pv 1)])), ((Pa 1), .inl (tc 5, 20, .inr (.inr (.inr (.inr (Pq 1)))))), ((Aa 0), .inr (9, [.int (Av 0), .int (Av 1), .int (Av 2), .int (Av 3), .int (Av 4), .int (Av 5), .ref (Aa 1), .ref (Aa 2), .ref (Aa 3), .ref (Aa 4), .ref (Aa 5), .ref (Aa 6), .ref (Aa 7), .ref (Aa 8)])), ((Aa 1), .inl (tc 0, 10, .inl (Af 1))), ((Aa 2), .inl (tc 0, 10, .inl (Af 2))), ((Aa 3), .inl (tc 0, 6, .inl (Af 3))), ((Aa 4), .inl (tc 0, 6, .inl (Af 4))), ((Aa 5), .inl (tc 0, 6, .inl (Af 5))), ((Aa 6), .inl (tc 0, 6, .inl (Af 6))), ((Aa 7), .inl (tc 0, 6, .inl (Af 7))), ((Aa 8), .inl (tc 0, 6, .inl (Af 8)))] (fun (v : Option Value) (_ : Unit) => ∃ r : Int32, v = some (.int r) ∧ (True) ∧ (0 ≤ ((Pv 0) : Int32).toInt ∧ ((Pv 0) : Int32).toInt < 20) ∧ (0 ≤ ((Av 3) : Int32).toInt ∧ ((Av 3) : Int32).toInt ≤ 6)) (fun (_ : Unit) => [((Pa 0), .inr (5, [.ref (Pa 1), .int (Pv 0), .int (Pv 1)])), ((Pa 1), .inl (tc 5, 20, .inr (.inr (.inr (.inr (Pq 1)))))), ((Aa 0), .inr (9, [.int (Av 0), .int (Av 1), .int (Av 2), .int (Av 3), .int (Av 4), .int (Av 5), .ref (Aa 1), .ref (Aa 2), .ref (Aa 3), .ref (Aa 4), .ref (Aa 5), .ref (Aa 6), .ref (Aa 7), .ref (Aa 8)])), ((Aa 1), .inl (tc 0, 10, .inl (Af 1))), ((Aa 2), .inl (tc 0, 10, .inl (Af 2))), ((Aa 3), .inl (tc 0, 6, .inl (Af 3))), ((Aa 4), .inl (tc 0, 6, .inl (Af 4))), ((Aa 5), .inl (tc 0, 6, .inl (Af 5))), ((Aa 6), .inl (tc 0, 6, .inl (Af 6))), ((Aa 7), .inl (tc 0, 6, .inl (Af 7))), ((Aa 8), .inl (tc 0, 6, .inl (Af 8)))]) 0 0 := by
  refine Ct.start (by decide) (Nat.le_of_ble_eq_true rfl) (fun p e s m below meth c A ls hx hb hr hlk hin hml hown hts hK hX hP hD hA hl hS => ?_)
  have hl : lv_has ls 4 [(0, .ref (Pa 0)), (1, .ref (Aa 0))] := hl
  refine lv_aload_n hx hb dX5_giveBack_0 rfl (lv_at hl 0 rfl) ?_
  refine gf_X5_17 hx hb hts hown hK hP 0 rfl rfl dX5_giveBack_1 ?_
  refine lv_bipush (v := 20) hx hb dX5_giveBack_4 (by decide) ?_
  refine lv_iadd hx hb dX5_giveBack_6 ?_
  refine lv_topi (fun x_1 ex_1 => ?_)
  refine lv_iconst (v := 1) hx hb dX5_giveBack_7 (by decide) ?_
  refine lv_isub hx hb dX5_giveBack_8 ?_
  refine lv_topi (fun x_2 ex_2 => ?_)
  refine lv_bipush (v := 20) hx hb dX5_giveBack_9 (by decide) ?_
  refine lv_irem hx hb dX5_giveBack_11 (by decide) ?_
  refine lv_topi (fun x_3 ex_3 => ?_)
  refine lv_istore_n (lv' := [(2, .int x_3), (0, .ref (Pa 0)), (1, .ref (Aa 0))]) hx hb dX5_giveBack_12 rfl hl (by decide) rfl (fun ls hl₀ => ?_)
  replace hl := hl₀
  clear hl₀
  refine lv_aload_n hx hb dX5_giveBack_13 rfl (lv_at hl 1 rfl) ?_
  refine gf_X5_21 hx hb hts hown hK hP 0 rfl rfl dX5_giveBack_14 ?_
  refine lv_if_le (tgt := 24) hx hb dX5_giveBack_17 (by decide) (fun c_4 => ?_) (fun c_4 => ?_)
  · skip
    refine lv_iconst (v := (-1)) hx hb dX5_giveBack_24 (by decide) ?_
    exact retI (v := (-1)) hx hb hr hlk (rfl) hP hD hS () ⟨_, rfl, trivial, h_nx, h_bA⟩ [0, 1, 2, 3, 4, 5, 6, 7, 8, 9, 10] rfl rfl dX5_giveBack_25 (Nat.le_of_ble_eq_true rfl) (Nat.le_of_ble_eq_true rfl) rfl
  · skip
    refine lv_iload_n hx hb dX5_giveBack_20 rfl (lv_at hl 0 rfl) ?_
    refine lv_if_ge (tgt := 26) hx hb dX5_giveBack_21 (by decide) (fun c_5 => ?_) (fun c_5 => ?_)
    · skip
      refine lv_aload_n hx hb dX5_giveBack_26 rfl (lv_at hl 1 rfl) ?_
      refine gf_X5_13 hx hb hts hown hK hP 0 rfl rfl dX5_giveBack_27 ?_
      refine lv_iload_n hx hb dX5_giveBack_30 rfl (lv_at hl 0 rfl) ?_
      have hi_6 : vp_in x_3 20 := by
        have z_1 := Int32.lt_iff_toInt_lt.mp (Int32.not_le.mp c_4)
        have z_2 := Int32.le_iff_toInt_le.mp c_5
        have y_0 : (0 : Int32).toInt = 0 := by decide
        have y_1 : (1 : Int32).toInt = 1 := by decide
        have y_20 : (20 : Int32).toInt = 20 := by decide
        have t_x_1 : x_1.toInt = ((Pv 0) : Int32).toInt + (20 : Int32).toInt := by rw [ex_1]; exact add_toInt (by omega) (by omega)
        have t_x_2 : x_2.toInt = (x_1 : Int32).toInt - (1 : Int32).toInt := by rw [ex_2]; exact sub_toInt (by omega) (by omega)
        have t_x_3 := rem_bounds (x := x_2) (y := 20) (by omega)
        rw [← ex_3] at t_x_3
        refine vp_in_iff.mpr ⟨?_, ?_⟩ <;> omega
      refine va_aldq hx hb hK hP 1 5 rfl rfl hi_6 dX5_giveBack_31 ?_
      have hi_7 : (x_3 : Int32).toInt = ((Pv 0).toInt + 19) % 20 := by
        have z_1 := Int32.lt_iff_toInt_lt.mp (Int32.not_le.mp c_4)
        have z_2 := Int32.le_iff_toInt_le.mp c_5
        have y_0 : (0 : Int32).toInt = 0 := by decide
        have y_1 : (1 : Int32).toInt = 1 := by decide
        have y_20 : (20 : Int32).toInt = 20 := by decide
        have t_x_1 : x_1.toInt = ((Pv 0) : Int32).toInt + (20 : Int32).toInt := by rw [ex_1]; exact add_toInt (by omega) (by omega)
        have t_x_2 : x_2.toInt = (x_1 : Int32).toInt - (1 : Int32).toInt := by rw [ex_2]; exact sub_toInt (by omega) (by omega)
        have t_x_3 := rem_bounds (x := x_2) (y := 20) (by omega)
        rw [← ex_3] at t_x_3
        have tz := rem_emod (x := x_2) (y := 20) (by omega)
        rw [← ex_3, show (20 : Int32).toInt = 20 by decide] at tz
        omega
      refine lv_val (v := .null) (by rw [h_q x_3 hi_7]; rfl) ?_
      refine lv_astore_nN (lv' := [(3, .null), (2, .int x_3), (0, .ref (Pa 0)), (1, .ref (Aa 0))]) hx hb dX5_giveBack_32 rfl hl (by decide) rfl (fun ls hl₀ => ?_)
      replace hl := hl₀
      clear hl₀
      refine lv_aload_nN hx hb dX5_giveBack_33 rfl (lv_at hl 0 rfl) ?_
      refine lv_ifnonnullN hx hb dX5_giveBack_34 ?_
      refine lv_iconst (v := (-1)) hx hb dX5_giveBack_37 (by decide) ?_
      exact retI (v := (-1)) hx hb hr hlk (rfl) hP hD hS () ⟨_, rfl, trivial, h_nx, h_bA⟩ [0, 1, 2, 3, 4, 5, 6, 7, 8, 9, 10] rfl rfl dX5_giveBack_38 (Nat.le_of_ble_eq_true rfl) (Nat.le_of_ble_eq_true rfl) rfl
    · skip
      refine lv_iconst (v := (-1)) hx hb dX5_giveBack_24 (by decide) ?_
      exact retI (v := (-1)) hx hb hr hlk (rfl) hP hD hS () ⟨_, rfl, trivial, h_nx, h_bA⟩ [0, 1, 2, 3, 4, 5, 6, 7, 8, 9, 10] rfl rfl dX5_giveBack_25 (Nat.le_of_ble_eq_true rfl) (Nat.le_of_ble_eq_true rfl) rfl
set_option maxRecDepth 100000 in
theorem cu_X5_giveBack_n_b (l : Launch) (D : va_G) (tc : Nat → ClassId) (sk : (Nat → Nat) × (Nat → Nat)) (Pa_0 : Nat) (Pa_1 : Nat) (Pv_0 : Int32) (Pv_1 : Int32) (Pq_1 : Nat → Option Nat) (Aa_0 : Nat) (Aa_1 : Nat) (Aa_2 : Nat) (Aa_3 : Nat) (Aa_4 : Nat) (Aa_5 : Nat) (Aa_6 : Nat) (Aa_7 : Nat) (Aa_8 : Nat) (Av_0 : Int32) (Av_1 : Int32) (Av_2 : Int32) (Av_3 : Int32) (Av_4 : Int32) (Av_5 : Int32) (Af_1 : Nat → Int32) (Af_2 : Nat → Int32) (Af_3 : Nat → Int32) (Af_4 : Nat → Int32) (Af_5 : Nat → Int32) (Af_6 : Nat → Int32) (Af_7 : Nat → Int32) (Af_8 : Nat → Int32) (h_nx : 0 ≤ (Pv_0 : Int32).toInt ∧ (Pv_0 : Int32).toInt < 20) (h_q : ∀ j : Int32, j.toInt = (Pv_0.toInt + 19) % 20 → Pq_1 j.toNatClampNeg = none) (h_bA : 0 ≤ (Av_3 : Int32).toInt ∧ (Av_3 : Int32).toInt ≤ 6) : Ct l yX5_giveBack cX5_giveBack 4 (some .int) { frames := 0, cells := 0, slots := 0, locals := 0 } D tc sk [.ref Pa_0, .ref Aa_0] [(Pa_0, .inr (5, [.ref Pa_1, .int Pv_0, .int Pv_1])), (Pa_1, .inl (tc 5, 20, .inr (.inr (.inr (.inr Pq_1))))), (Aa_0, .inr (9, [.int Av_0, .int Av_1, .int Av_2, .int Av_3, .int Av_4, .int Av_5, .ref Aa_1, .ref Aa_2, .ref Aa_3, .ref Aa_4, .ref Aa_5, .ref Aa_6, .ref Aa_7, .ref Aa_8])), (Aa_1, .inl (tc 0, 10, .inl Af_1)), (Aa_2, .inl (tc 0, 10, .inl Af_2)), (Aa_3, .inl (tc 0, 6, .inl Af_3)), (Aa_4, .inl (tc 0, 6, .inl Af_4)), (Aa_5, .inl (tc 0, 6, .inl Af_5)), (Aa_6, .inl (tc 0, 6, .inl Af_6)), (Aa_7, .inl (tc 0, 6, .inl Af_7)), (Aa_8, .inl (tc 0, 6, .inl Af_8))] (fun (v : Option Value) (_ : Unit) => ∃ r : Int32, v = some (.int r) ∧ (True) ∧ (0 ≤ (Pv_0 : Int32).toInt ∧ (Pv_0 : Int32).toInt < 20) ∧ (0 ≤ (Av_3 : Int32).toInt ∧ (Av_3 : Int32).toInt ≤ 6)) (fun (_ : Unit) => [(Pa_0, .inr (5, [.ref Pa_1, .int Pv_0, .int Pv_1])), (Pa_1, .inl (tc 5, 20, .inr (.inr (.inr (.inr Pq_1))))), (Aa_0, .inr (9, [.int Av_0, .int Av_1, .int Av_2, .int Av_3, .int Av_4, .int Av_5, .ref Aa_1, .ref Aa_2, .ref Aa_3, .ref Aa_4, .ref Aa_5, .ref Aa_6, .ref Aa_7, .ref Aa_8])), (Aa_1, .inl (tc 0, 10, .inl Af_1)), (Aa_2, .inl (tc 0, 10, .inl Af_2)), (Aa_3, .inl (tc 0, 6, .inl Af_3)), (Aa_4, .inl (tc 0, 6, .inl Af_4)), (Aa_5, .inl (tc 0, 6, .inl Af_5)), (Aa_6, .inl (tc 0, 6, .inl Af_6)), (Aa_7, .inl (tc 0, 6, .inl Af_7)), (Aa_8, .inl (tc 0, 6, .inl Af_8))]) 0 0 :=
  ct_X5_giveBack_n_b l D tc sk (fun k => ([Pa_0, Pa_1] : List (Nat)).getD k 0) (fun k => ([Pv_0, Pv_1] : List (Int32)).getD k 0) (fun k => ([(fun _ => none), Pq_1] : List (Nat → Option Nat)).getD k (fun _ => none)) (fun k => ([Aa_0, Aa_1, Aa_2, Aa_3, Aa_4, Aa_5, Aa_6, Aa_7, Aa_8] : List (Nat)).getD k 0) (fun k => ([Av_0, Av_1, Av_2, Av_3, Av_4, Av_5] : List (Int32)).getD k 0) (fun k => ([(fun _ => 0), Af_1, Af_2, Af_3, Af_4, Af_5, Af_6, Af_7, Af_8] : List (Nat → Int32)).getD k (fun _ => 0)) h_nx h_q h_bA
set_option maxHeartbeats 4000000 in
set_option maxRecDepth 100000 in
theorem ct_X5_giveBack_s_b (l : Launch) (D : va_G) (tc : Nat → ClassId) (sk : (Nat → Nat) × (Nat → Nat)) (Pa : Nat → Nat) (Pv : Nat → Int32) (Pq : Nat → Nat → Option Nat) (Aa : Nat → Nat) (Av : Nat → Int32) (Af : Nat → Nat → Int32) (Ea : Nat → Nat) (Ev : Nat → Int32) (Ef : Nat → Nat → Int32) (h_nx : 0 ≤ ((Pv 0) : Int32).toInt ∧ ((Pv 0) : Int32).toInt < 20) (h_q : ∀ j : Int32, j.toInt = ((Pv 0).toInt + 19) % 20 → (Pq 1) j.toNatClampNeg = some (Ea 0)) (h_bA : 0 ≤ ((Av 3) : Int32).toInt ∧ ((Av 3) : Int32).toInt ≤ 6) (h_bE : 0 ≤ ((Ev 3) : Int32).toInt ∧ ((Ev 3) : Int32).toInt ≤ 6) : Ct l yX5_giveBack cX5_giveBack 4 (some .int) { frames := 2, cells := 0, slots := 0, locals := 61 } D tc sk [.ref (Pa 0), .ref (Aa 0)] [((Pa 0), .inr (5, [.ref (Pa 1), .int (Pv 0), .int (Pv 1)])), ((Pa 1), .inl (tc 5, 20, .inr (.inr (.inr (.inr (Pq 1)))))), ((Aa 0), .inr (9, [.int (Av 0), .int (Av 1), .int (Av 2), .int (Av 3), .int (Av 4), .int (Av 5), .ref (Aa 1), .ref (Aa 2), .ref (Aa 3), .ref (Aa 4), .ref (Aa 5), .ref (Aa 6), .ref (Aa 7), .ref (Aa 8)])), ((Aa 1), .inl (tc 0, 10, .inl (Af 1))), ((Aa 2), .inl (tc 0, 10, .inl (Af 2))), ((Aa 3), .inl (tc 0, 6, .inl (Af 3))), ((Aa 4), .inl (tc 0, 6, .inl (Af 4))), ((Aa 5), .inl (tc 0, 6, .inl (Af 5))), ((Aa 6), .inl (tc 0, 6, .inl (Af 6))), ((Aa 7), .inl (tc 0, 6, .inl (Af 7))), ((Aa 8), .inl (tc 0, 6, .inl (Af 8))), ((Ea 0), .inr (9, [.int (Ev 0), .int (Ev 1), .int (Ev 2), .int (Ev 3), .int (Ev 4), .int (Ev 5), .ref (Ea 1), .ref (Ea 2), .ref (Ea 3), .ref (Ea 4), .ref (Ea 5), .ref (Ea 6), .ref (Ea 7), .ref (Ea 8)])), ((Ea 1), .inl (tc 0, 10, .inl (Ef 1))), ((Ea 2), .inl (tc 0, 10, .inl (Ef 2))), ((Ea 3), .inl (tc 0, 6, .inl (Ef 3))), ((Ea 4), .inl (tc 0, 6, .inl (Ef 4))), ((Ea 5), .inl (tc 0, 6, .inl (Ef 5))), ((Ea 6), .inl (tc 0, 6, .inl (Ef 6))), ((Ea 7), .inl (tc 0, 6, .inl (Ef 7))), ((Ea 8), .inl (tc 0, 6, .inl (Ef 8)))] (fun (v : Option Value) (u : (Int32) × (Int32) × (Int32) × (Int32) × (Int32) × (Int32) × (Int32) × (Int32) × (Nat → Int32) × (Nat → Int32) × (Nat → Int32) × (Nat → Int32) × (Nat → Int32) × (Nat → Int32) × (Nat → Int32) × (Nat → Int32)) => match u with | (oo0x1, oo0x2, oo0x3, oo0x4, oo0x5, oo0x6, oo0x7, oo0x8, oo0x9, oo0x10, oo0x11, oo0x12, oo0x13, oo0x14, oo0x15, oo0x16) => ∃ r : Int32, v = some (.int r) ∧ (True) ∧ (0 ≤ (oo0x1 : Int32).toInt ∧ (oo0x1 : Int32).toInt < 20) ∧ (0 ≤ (oo0x6 : Int32).toInt ∧ (oo0x6 : Int32).toInt ≤ 6) ∧ (0 ≤ ((Ev 3) : Int32).toInt ∧ ((Ev 3) : Int32).toInt ≤ 6)) (fun (u : (Int32) × (Int32) × (Int32) × (Int32) × (Int32) × (Int32) × (Int32) × (Int32) × (Nat → Int32) × (Nat → Int32) × (Nat → Int32) × (Nat → Int32) × (Nat → Int32) × (Nat → Int32) × (Nat → Int32) × (Nat → Int32)) => match u with | (oo0x1, oo0x2, oo0x3, oo0x4, oo0x5, oo0x6, oo0x7, oo0x8, oo0x9, oo0x10, oo0x11, oo0x12, oo0x13, oo0x14, oo0x15, oo0x16) => [((Pa 0), .inr (5, [.ref (Pa 1), .int oo0x1, .int oo0x2])), ((Pa 1), .inl (tc 5, 20, .inr (.inr (.inr (.inr (Pq 1)))))), ((Aa 0), .inr (9, [.int oo0x3, .int oo0x4, .int oo0x5, .int oo0x6, .int oo0x7, .int oo0x8, .ref (Aa 1), .ref (Aa 2), .ref (Aa 3), .ref (Aa 4), .ref (Aa 5), .ref (Aa 6), .ref (Aa 7), .ref (Aa 8)])), ((Aa 1), .inl (tc 0, 10, .inl oo0x9)), ((Aa 2), .inl (tc 0, 10, .inl oo0x10)), ((Aa 3), .inl (tc 0, 6, .inl oo0x11)), ((Aa 4), .inl (tc 0, 6, .inl oo0x12)), ((Aa 5), .inl (tc 0, 6, .inl oo0x13)), ((Aa 6), .inl (tc 0, 6, .inl oo0x14)), ((Aa 7), .inl (tc 0, 6, .inl oo0x15)), ((Aa 8), .inl (tc 0, 6, .inl oo0x16)), ((Ea 0), .inr (9, [.int (Ev 0), .int (Ev 1), .int (Ev 2), .int (Ev 3), .int (Ev 4), .int (Ev 5), .ref (Ea 1), .ref (Ea 2), .ref (Ea 3), .ref (Ea 4), .ref (Ea 5), .ref (Ea 6), .ref (Ea 7), .ref (Ea 8)])), ((Ea 1), .inl (tc 0, 10, .inl (Ef 1))), ((Ea 2), .inl (tc 0, 10, .inl (Ef 2))), ((Ea 3), .inl (tc 0, 6, .inl (Ef 3))), ((Ea 4), .inl (tc 0, 6, .inl (Ef 4))), ((Ea 5), .inl (tc 0, 6, .inl (Ef 5))), ((Ea 6), .inl (tc 0, 6, .inl (Ef 6))), ((Ea 7), .inl (tc 0, 6, .inl (Ef 7))), ((Ea 8), .inl (tc 0, 6, .inl (Ef 8)))]) 0 0 := by
  refine Ct.start (by decide) (Nat.le_of_ble_eq_true rfl) (fun p e s m below meth c A ls hx hb hr hlk hin hml hown hts hK hX hP hD hA hl hS => ?_)
  have hl : lv_has ls 4 [(0, .ref (Pa 0)), (1, .ref (Aa 0))] := hl
  refine lv_aload_n hx hb dX5_giveBack_0 rfl (lv_at hl 0 rfl) ?_
  refine gf_X5_17 hx hb hts hown hK hP 0 rfl rfl dX5_giveBack_1 ?_
  refine lv_bipush (v := 20) hx hb dX5_giveBack_4 (by decide) ?_
  refine lv_iadd hx hb dX5_giveBack_6 ?_
  refine lv_topi (fun x_1 ex_1 => ?_)
  refine lv_iconst (v := 1) hx hb dX5_giveBack_7 (by decide) ?_
  refine lv_isub hx hb dX5_giveBack_8 ?_
  refine lv_topi (fun x_2 ex_2 => ?_)
  refine lv_bipush (v := 20) hx hb dX5_giveBack_9 (by decide) ?_
  refine lv_irem hx hb dX5_giveBack_11 (by decide) ?_
  refine lv_topi (fun x_3 ex_3 => ?_)
  refine lv_istore_n (lv' := [(2, .int x_3), (0, .ref (Pa 0)), (1, .ref (Aa 0))]) hx hb dX5_giveBack_12 rfl hl (by decide) rfl (fun ls hl₀ => ?_)
  replace hl := hl₀
  clear hl₀
  refine lv_aload_n hx hb dX5_giveBack_13 rfl (lv_at hl 1 rfl) ?_
  refine gf_X5_21 hx hb hts hown hK hP 0 rfl rfl dX5_giveBack_14 ?_
  refine lv_if_le (tgt := 24) hx hb dX5_giveBack_17 (by decide) (fun c_4 => ?_) (fun c_4 => ?_)
  · skip
    refine lv_iconst (v := (-1)) hx hb dX5_giveBack_24 (by decide) ?_
    exact retI (v := (-1)) hx hb hr hlk (rfl) hP hD hS ((Pv 0), (Pv 1), (Av 0), (Av 1), (Av 2), (Av 3), (Av 4), (Av 5), (Af 1), (Af 2), (Af 3), (Af 4), (Af 5), (Af 6), (Af 7), (Af 8)) ⟨_, rfl, trivial, h_nx, h_bA, h_bE⟩ [0, 1, 2, 3, 4, 5, 6, 7, 8, 9, 10, 11, 12, 13, 14, 15, 16, 17, 18, 19] rfl rfl dX5_giveBack_25 (Nat.le_of_ble_eq_true rfl) (Nat.le_of_ble_eq_true rfl) rfl
  · skip
    refine lv_iload_n hx hb dX5_giveBack_20 rfl (lv_at hl 0 rfl) ?_
    refine lv_if_ge (tgt := 26) hx hb dX5_giveBack_21 (by decide) (fun c_5 => ?_) (fun c_5 => ?_)
    · skip
      refine lv_aload_n hx hb dX5_giveBack_26 rfl (lv_at hl 1 rfl) ?_
      refine gf_X5_13 hx hb hts hown hK hP 0 rfl rfl dX5_giveBack_27 ?_
      refine lv_iload_n hx hb dX5_giveBack_30 rfl (lv_at hl 0 rfl) ?_
      have hi_6 : vp_in x_3 20 := by
        have z_1 := Int32.lt_iff_toInt_lt.mp (Int32.not_le.mp c_4)
        have z_2 := Int32.le_iff_toInt_le.mp c_5
        have y_0 : (0 : Int32).toInt = 0 := by decide
        have y_1 : (1 : Int32).toInt = 1 := by decide
        have y_20 : (20 : Int32).toInt = 20 := by decide
        have t_x_1 : x_1.toInt = ((Pv 0) : Int32).toInt + (20 : Int32).toInt := by rw [ex_1]; exact add_toInt (by omega) (by omega)
        have t_x_2 : x_2.toInt = (x_1 : Int32).toInt - (1 : Int32).toInt := by rw [ex_2]; exact sub_toInt (by omega) (by omega)
        have t_x_3 := rem_bounds (x := x_2) (y := 20) (by omega)
        rw [← ex_3] at t_x_3
        refine vp_in_iff.mpr ⟨?_, ?_⟩ <;> omega
      refine va_aldq hx hb hK hP 1 5 rfl rfl hi_6 dX5_giveBack_31 ?_
      have hi_7 : (x_3 : Int32).toInt = ((Pv 0).toInt + 19) % 20 := by
        have z_1 := Int32.lt_iff_toInt_lt.mp (Int32.not_le.mp c_4)
        have z_2 := Int32.le_iff_toInt_le.mp c_5
        have y_0 : (0 : Int32).toInt = 0 := by decide
        have y_1 : (1 : Int32).toInt = 1 := by decide
        have y_20 : (20 : Int32).toInt = 20 := by decide
        have t_x_1 : x_1.toInt = ((Pv 0) : Int32).toInt + (20 : Int32).toInt := by rw [ex_1]; exact add_toInt (by omega) (by omega)
        have t_x_2 : x_2.toInt = (x_1 : Int32).toInt - (1 : Int32).toInt := by rw [ex_2]; exact sub_toInt (by omega) (by omega)
        have t_x_3 := rem_bounds (x := x_2) (y := 20) (by omega)
        rw [← ex_3] at t_x_3
        have tz := rem_emod (x := x_2) (y := 20) (by omega)
        rw [← ex_3, show (20 : Int32).toInt = 20 by decide] at tz
        omega
      refine lv_val (v := .ref (Ea 0)) (by rw [h_q x_3 hi_7]; rfl) ?_
      refine lv_astore_n (lv' := [(3, .ref (Ea 0)), (2, .int x_3), (0, .ref (Pa 0)), (1, .ref (Aa 0))]) hx hb dX5_giveBack_32 rfl hl (by decide) rfl (fun ls hl₀ => ?_)
      replace hl := hl₀
      clear hl₀
      refine lv_aload_n hx hb dX5_giveBack_33 rfl (lv_at hl 0 rfl) ?_
      refine lv_ifnonnull (tgt := 39) hx hb dX5_giveBack_34 (by decide) ?_
      refine lv_aload_n hx hb dX5_giveBack_39 rfl (lv_at hl 3 rfl) ?_
      refine lv_aload_n hx hb dX5_giveBack_40 rfl (lv_at hl 0 rfl) ?_
      refine cV (a := (Aa 0)) (As := [.ref (Ea 0)]) (rest := []) (wr := [((Pa 0), .inr (5, [.ref (Pa 1), .int (Pv 0), .int (Pv 1)])), ((Pa 1), .inl (tc 5, 20, .inr (.inr (.inr (.inr (Pq 1))))))]) ⟨hx, hb, hml, hown, hts⟩ hK hX hA (cu_X9_copyFrom l D tc sk (Aa 0) (Aa 1) (Aa 2) (Aa 3) (Aa 4) (Aa 5) (Aa 6) (Aa 7) (Aa 8) (Av 0) (Av 1) (Av 2) (Av 3) (Av 4) (Av 5) (Af 1) (Af 2) (Af 3) (Af 4) (Af 5) (Af 6) (Af 7) (Af 8) (Ea 0) (Ea 1) (Ea 2) (Ea 3) (Ea 4) (Ea 5) (Ea 6) (Ea 7) (Ea 8) (Ev 0) (Ev 1) (Ev 2) (Ev 3) (Ev 4) (Ev 5) (Ef 1) (Ef 2) (Ef 3) (Ef 4) (Ef 5) (Ef 6) (Ef 7) (Ef 8)) k_599 k_730 k_597 k_598 k_98 pl_X9_copyFrom ⟨Nat.le_of_ble_eq_true rfl, Nat.le_of_ble_eq_true rfl⟩ rfl rfl (va_recv hK hP (ci := 9) (q0 := 2) rfl rfl) hP hD hS [2, 3, 4, 5, 6, 7, 8, 9, 10, 11, 12, 13, 14, 15, 16, 17, 18, 19] [0, 1] rfl rfl rfl rfl rfl (by decide) rfl hl.1 rfl (Nat.le_of_ble_eq_true rfl) dX5_giveBack_41 ⟨Nat.le_of_ble_eq_true rfl, Nat.le_of_ble_eq_true rfl⟩ (fun v_8 u_9 H locs hv_10 hP₀ hD₀ hS₀ => ?_)
      obtain ⟨sv_11, sv_12, sv_13, sv_14, sv_15, sv_16, sv_17, sv_18⟩ := u_9
      obtain rfl : v_8 = none := hv_10
      refine W.eq (g2 := F0 m 44 ls []) rfl ?_
      replace hP : va_P D classes [((Pa 0), .inr (5, [.ref (Pa 1), .int (Pv 0), .int (Pv 1)])), ((Pa 1), .inl (tc 5, 20, .inr (.inr (.inr (.inr (Pq 1)))))), ((Aa 0), .inr (9, [.int (Ev 0), .int (Ev 1), .int (Ev 2), .int (Ev 3), .int (Ev 4), .int (Ev 5), .ref (Aa 1), .ref (Aa 2), .ref (Aa 3), .ref (Aa 4), .ref (Aa 5), .ref (Aa 6), .ref (Aa 7), .ref (Aa 8)])), ((Aa 1), .inl (tc 0, 10, .inl sv_11)), ((Aa 2), .inl (tc 0, 10, .inl sv_12)), ((Aa 3), .inl (tc 0, 6, .inl sv_13)), ((Aa 4), .inl (tc 0, 6, .inl sv_14)), ((Aa 5), .inl (tc 0, 6, .inl sv_15)), ((Aa 6), .inl (tc 0, 6, .inl sv_16)), ((Aa 7), .inl (tc 0, 6, .inl sv_17)), ((Aa 8), .inl (tc 0, 6, .inl sv_18)), ((Ea 0), .inr (9, [.int (Ev 0), .int (Ev 1), .int (Ev 2), .int (Ev 3), .int (Ev 4), .int (Ev 5), .ref (Ea 1), .ref (Ea 2), .ref (Ea 3), .ref (Ea 4), .ref (Ea 5), .ref (Ea 6), .ref (Ea 7), .ref (Ea 8)])), ((Ea 1), .inl (tc 0, 10, .inl (Ef 1))), ((Ea 2), .inl (tc 0, 10, .inl (Ef 2))), ((Ea 3), .inl (tc 0, 6, .inl (Ef 3))), ((Ea 4), .inl (tc 0, 6, .inl (Ef 4))), ((Ea 5), .inl (tc 0, 6, .inl (Ef 5))), ((Ea 6), .inl (tc 0, 6, .inl (Ef 6))), ((Ea 7), .inl (tc 0, 6, .inl (Ef 7))), ((Ea 8), .inl (tc 0, 6, .inl (Ef 8)))] H := hP₀
      replace hD : va_D A [((Pa 0), .inr (5, [.ref (Pa 1), .int (Pv 0), .int (Pv 1)])), ((Pa 1), .inl (tc 5, 20, .inr (.inr (.inr (.inr (Pq 1)))))), ((Aa 0), .inr (9, [.int (Ev 0), .int (Ev 1), .int (Ev 2), .int (Ev 3), .int (Ev 4), .int (Ev 5), .ref (Aa 1), .ref (Aa 2), .ref (Aa 3), .ref (Aa 4), .ref (Aa 5), .ref (Aa 6), .ref (Aa 7), .ref (Aa 8)])), ((Aa 1), .inl (tc 0, 10, .inl sv_11)), ((Aa 2), .inl (tc 0, 10, .inl sv_12)), ((Aa 3), .inl (tc 0, 6, .inl sv_13)), ((Aa 4), .inl (tc 0, 6, .inl sv_14)), ((Aa 5), .inl (tc 0, 6, .inl sv_15)), ((Aa 6), .inl (tc 0, 6, .inl sv_16)), ((Aa 7), .inl (tc 0, 6, .inl sv_17)), ((Aa 8), .inl (tc 0, 6, .inl sv_18)), ((Ea 0), .inr (9, [.int (Ev 0), .int (Ev 1), .int (Ev 2), .int (Ev 3), .int (Ev 4), .int (Ev 5), .ref (Ea 1), .ref (Ea 2), .ref (Ea 3), .ref (Ea 4), .ref (Ea 5), .ref (Ea 6), .ref (Ea 7), .ref (Ea 8)])), ((Ea 1), .inl (tc 0, 10, .inl (Ef 1))), ((Ea 2), .inl (tc 0, 10, .inl (Ef 2))), ((Ea 3), .inl (tc 0, 6, .inl (Ef 3))), ((Ea 4), .inl (tc 0, 6, .inl (Ef 4))), ((Ea 5), .inl (tc 0, 6, .inl (Ef 5))), ((Ea 6), .inl (tc 0, 6, .inl (Ef 6))), ((Ea 7), .inl (tc 0, 6, .inl (Ef 7))), ((Ea 8), .inl (tc 0, 6, .inl (Ef 8)))] := hD₀
      replace hS := hS₀
      clear hP₀ hD₀ hS₀
      refine lv_aload_n hx hb dX5_giveBack_44 rfl (lv_at hl 2 rfl) ?_
      refine lv_iload_n hx hb dX5_giveBack_45 rfl (lv_at hl 1 rfl) ?_
      refine pf_X5_17 hx hb hts hown hK hP hD hS 0 rfl (Nat.le_of_ble_eq_true rfl) rfl rfl dX5_giveBack_46 (fun H locs hP₀ hD₀ hS₀ => ?_)
      replace hP : va_P D classes [((Pa 0), .inr (5, [.ref (Pa 1), .int x_3, .int (Pv 1)])), ((Pa 1), .inl (tc 5, 20, .inr (.inr (.inr (.inr (Pq 1)))))), ((Aa 0), .inr (9, [.int (Ev 0), .int (Ev 1), .int (Ev 2), .int (Ev 3), .int (Ev 4), .int (Ev 5), .ref (Aa 1), .ref (Aa 2), .ref (Aa 3), .ref (Aa 4), .ref (Aa 5), .ref (Aa 6), .ref (Aa 7), .ref (Aa 8)])), ((Aa 1), .inl (tc 0, 10, .inl sv_11)), ((Aa 2), .inl (tc 0, 10, .inl sv_12)), ((Aa 3), .inl (tc 0, 6, .inl sv_13)), ((Aa 4), .inl (tc 0, 6, .inl sv_14)), ((Aa 5), .inl (tc 0, 6, .inl sv_15)), ((Aa 6), .inl (tc 0, 6, .inl sv_16)), ((Aa 7), .inl (tc 0, 6, .inl sv_17)), ((Aa 8), .inl (tc 0, 6, .inl sv_18)), ((Ea 0), .inr (9, [.int (Ev 0), .int (Ev 1), .int (Ev 2), .int (Ev 3), .int (Ev 4), .int (Ev 5), .ref (Ea 1), .ref (Ea 2), .ref (Ea 3), .ref (Ea 4), .ref (Ea 5), .ref (Ea 6), .ref (Ea 7), .ref (Ea 8)])), ((Ea 1), .inl (tc 0, 10, .inl (Ef 1))), ((Ea 2), .inl (tc 0, 10, .inl (Ef 2))), ((Ea 3), .inl (tc 0, 6, .inl (Ef 3))), ((Ea 4), .inl (tc 0, 6, .inl (Ef 4))), ((Ea 5), .inl (tc 0, 6, .inl (Ef 5))), ((Ea 6), .inl (tc 0, 6, .inl (Ef 6))), ((Ea 7), .inl (tc 0, 6, .inl (Ef 7))), ((Ea 8), .inl (tc 0, 6, .inl (Ef 8)))] H := hP₀
      replace hD : va_D A [((Pa 0), .inr (5, [.ref (Pa 1), .int x_3, .int (Pv 1)])), ((Pa 1), .inl (tc 5, 20, .inr (.inr (.inr (.inr (Pq 1)))))), ((Aa 0), .inr (9, [.int (Ev 0), .int (Ev 1), .int (Ev 2), .int (Ev 3), .int (Ev 4), .int (Ev 5), .ref (Aa 1), .ref (Aa 2), .ref (Aa 3), .ref (Aa 4), .ref (Aa 5), .ref (Aa 6), .ref (Aa 7), .ref (Aa 8)])), ((Aa 1), .inl (tc 0, 10, .inl sv_11)), ((Aa 2), .inl (tc 0, 10, .inl sv_12)), ((Aa 3), .inl (tc 0, 6, .inl sv_13)), ((Aa 4), .inl (tc 0, 6, .inl sv_14)), ((Aa 5), .inl (tc 0, 6, .inl sv_15)), ((Aa 6), .inl (tc 0, 6, .inl sv_16)), ((Aa 7), .inl (tc 0, 6, .inl sv_17)), ((Aa 8), .inl (tc 0, 6, .inl sv_18)), ((Ea 0), .inr (9, [.int (Ev 0), .int (Ev 1), .int (Ev 2), .int (Ev 3), .int (Ev 4), .int (Ev 5), .ref (Ea 1), .ref (Ea 2), .ref (Ea 3), .ref (Ea 4), .ref (Ea 5), .ref (Ea 6), .ref (Ea 7), .ref (Ea 8)])), ((Ea 1), .inl (tc 0, 10, .inl (Ef 1))), ((Ea 2), .inl (tc 0, 10, .inl (Ef 2))), ((Ea 3), .inl (tc 0, 6, .inl (Ef 3))), ((Ea 4), .inl (tc 0, 6, .inl (Ef 4))), ((Ea 5), .inl (tc 0, 6, .inl (Ef 5))), ((Ea 6), .inl (tc 0, 6, .inl (Ef 6))), ((Ea 7), .inl (tc 0, 6, .inl (Ef 7))), ((Ea 8), .inl (tc 0, 6, .inl (Ef 8)))] := hD₀
      replace hS := hS₀
      clear hP₀ hD₀ hS₀
      refine lv_aload_n hx hb dX5_giveBack_49 rfl (lv_at hl 2 rfl) ?_
      refine lv_dup hx hb dX5_giveBack_50 rfl ?_
      refine gf_X5_21 hx hb hts hown hK hP 0 rfl rfl dX5_giveBack_51 ?_
      refine lv_iconst (v := 1) hx hb dX5_giveBack_54 (by decide) ?_
      refine lv_isub hx hb dX5_giveBack_55 ?_
      refine lv_topi (fun x_19 ex_19 => ?_)
      refine pf_X5_21 hx hb hts hown hK hP hD hS 0 rfl (Nat.le_of_ble_eq_true rfl) rfl rfl dX5_giveBack_56 (fun H locs hP₀ hD₀ hS₀ => ?_)
      replace hP : va_P D classes [((Pa 0), .inr (5, [.ref (Pa 1), .int x_3, .int x_19])), ((Pa 1), .inl (tc 5, 20, .inr (.inr (.inr (.inr (Pq 1)))))), ((Aa 0), .inr (9, [.int (Ev 0), .int (Ev 1), .int (Ev 2), .int (Ev 3), .int (Ev 4), .int (Ev 5), .ref (Aa 1), .ref (Aa 2), .ref (Aa 3), .ref (Aa 4), .ref (Aa 5), .ref (Aa 6), .ref (Aa 7), .ref (Aa 8)])), ((Aa 1), .inl (tc 0, 10, .inl sv_11)), ((Aa 2), .inl (tc 0, 10, .inl sv_12)), ((Aa 3), .inl (tc 0, 6, .inl sv_13)), ((Aa 4), .inl (tc 0, 6, .inl sv_14)), ((Aa 5), .inl (tc 0, 6, .inl sv_15)), ((Aa 6), .inl (tc 0, 6, .inl sv_16)), ((Aa 7), .inl (tc 0, 6, .inl sv_17)), ((Aa 8), .inl (tc 0, 6, .inl sv_18)), ((Ea 0), .inr (9, [.int (Ev 0), .int (Ev 1), .int (Ev 2), .int (Ev 3), .int (Ev 4), .int (Ev 5), .ref (Ea 1), .ref (Ea 2), .ref (Ea 3), .ref (Ea 4), .ref (Ea 5), .ref (Ea 6), .ref (Ea 7), .ref (Ea 8)])), ((Ea 1), .inl (tc 0, 10, .inl (Ef 1))), ((Ea 2), .inl (tc 0, 10, .inl (Ef 2))), ((Ea 3), .inl (tc 0, 6, .inl (Ef 3))), ((Ea 4), .inl (tc 0, 6, .inl (Ef 4))), ((Ea 5), .inl (tc 0, 6, .inl (Ef 5))), ((Ea 6), .inl (tc 0, 6, .inl (Ef 6))), ((Ea 7), .inl (tc 0, 6, .inl (Ef 7))), ((Ea 8), .inl (tc 0, 6, .inl (Ef 8)))] H := hP₀
      replace hD : va_D A [((Pa 0), .inr (5, [.ref (Pa 1), .int x_3, .int x_19])), ((Pa 1), .inl (tc 5, 20, .inr (.inr (.inr (.inr (Pq 1)))))), ((Aa 0), .inr (9, [.int (Ev 0), .int (Ev 1), .int (Ev 2), .int (Ev 3), .int (Ev 4), .int (Ev 5), .ref (Aa 1), .ref (Aa 2), .ref (Aa 3), .ref (Aa 4), .ref (Aa 5), .ref (Aa 6), .ref (Aa 7), .ref (Aa 8)])), ((Aa 1), .inl (tc 0, 10, .inl sv_11)), ((Aa 2), .inl (tc 0, 10, .inl sv_12)), ((Aa 3), .inl (tc 0, 6, .inl sv_13)), ((Aa 4), .inl (tc 0, 6, .inl sv_14)), ((Aa 5), .inl (tc 0, 6, .inl sv_15)), ((Aa 6), .inl (tc 0, 6, .inl sv_16)), ((Aa 7), .inl (tc 0, 6, .inl sv_17)), ((Aa 8), .inl (tc 0, 6, .inl sv_18)), ((Ea 0), .inr (9, [.int (Ev 0), .int (Ev 1), .int (Ev 2), .int (Ev 3), .int (Ev 4), .int (Ev 5), .ref (Ea 1), .ref (Ea 2), .ref (Ea 3), .ref (Ea 4), .ref (Ea 5), .ref (Ea 6), .ref (Ea 7), .ref (Ea 8)])), ((Ea 1), .inl (tc 0, 10, .inl (Ef 1))), ((Ea 2), .inl (tc 0, 10, .inl (Ef 2))), ((Ea 3), .inl (tc 0, 6, .inl (Ef 3))), ((Ea 4), .inl (tc 0, 6, .inl (Ef 4))), ((Ea 5), .inl (tc 0, 6, .inl (Ef 5))), ((Ea 6), .inl (tc 0, 6, .inl (Ef 6))), ((Ea 7), .inl (tc 0, 6, .inl (Ef 7))), ((Ea 8), .inl (tc 0, 6, .inl (Ef 8)))] := hD₀
      replace hS := hS₀
      clear hP₀ hD₀ hS₀
      refine lv_aload_n hx hb dX5_giveBack_59 rfl (lv_at hl 2 rfl) ?_
      refine gf_X5_21 hx hb hts hown hK hP 0 rfl rfl dX5_giveBack_60 ?_
      have ha_20 : 0 ≤ (x_3 : Int32).toInt ∧ (x_3 : Int32).toInt < 20 := by
        have z_1 := Int32.lt_iff_toInt_lt.mp (Int32.not_le.mp c_4)
        have z_2 := Int32.le_iff_toInt_le.mp c_5
        have y_0 : (0 : Int32).toInt = 0 := by decide
        have y_1 : (1 : Int32).toInt = 1 := by decide
        have y_20 : (20 : Int32).toInt = 20 := by decide
        have t_x_1 : x_1.toInt = ((Pv 0) : Int32).toInt + (20 : Int32).toInt := by rw [ex_1]; exact add_toInt (by omega) (by omega)
        have t_x_2 : x_2.toInt = (x_1 : Int32).toInt - (1 : Int32).toInt := by rw [ex_2]; exact sub_toInt (by omega) (by omega)
        have t_x_3 := rem_bounds (x := x_2) (y := 20) (by omega)
        rw [← ex_3] at t_x_3
        omega
      exact retI (v := x_19) hx hb hr hlk (rfl) hP hD hS (x_3, x_19, (Ev 0), (Ev 1), (Ev 2), (Ev 3), (Ev 4), (Ev 5), sv_11, sv_12, sv_13, sv_14, sv_15, sv_16, sv_17, sv_18) ⟨_, rfl, trivial, ha_20, h_bE, h_bE⟩ [0, 1, 2, 3, 4, 5, 6, 7, 8, 9, 10, 11, 12, 13, 14, 15, 16, 17, 18, 19] rfl rfl dX5_giveBack_63 (Nat.le_of_ble_eq_true rfl) (Nat.le_of_ble_eq_true rfl) rfl
    · skip
      refine lv_iconst (v := (-1)) hx hb dX5_giveBack_24 (by decide) ?_
      exact retI (v := (-1)) hx hb hr hlk (rfl) hP hD hS ((Pv 0), (Pv 1), (Av 0), (Av 1), (Av 2), (Av 3), (Av 4), (Av 5), (Af 1), (Af 2), (Af 3), (Af 4), (Af 5), (Af 6), (Af 7), (Af 8)) ⟨_, rfl, trivial, h_nx, h_bA, h_bE⟩ [0, 1, 2, 3, 4, 5, 6, 7, 8, 9, 10, 11, 12, 13, 14, 15, 16, 17, 18, 19] rfl rfl dX5_giveBack_25 (Nat.le_of_ble_eq_true rfl) (Nat.le_of_ble_eq_true rfl) rfl
set_option maxRecDepth 100000 in
theorem cu_X5_giveBack_s_b (l : Launch) (D : va_G) (tc : Nat → ClassId) (sk : (Nat → Nat) × (Nat → Nat)) (Pa_0 : Nat) (Pa_1 : Nat) (Pv_0 : Int32) (Pv_1 : Int32) (Pq_1 : Nat → Option Nat) (Aa_0 : Nat) (Aa_1 : Nat) (Aa_2 : Nat) (Aa_3 : Nat) (Aa_4 : Nat) (Aa_5 : Nat) (Aa_6 : Nat) (Aa_7 : Nat) (Aa_8 : Nat) (Av_0 : Int32) (Av_1 : Int32) (Av_2 : Int32) (Av_3 : Int32) (Av_4 : Int32) (Av_5 : Int32) (Af_1 : Nat → Int32) (Af_2 : Nat → Int32) (Af_3 : Nat → Int32) (Af_4 : Nat → Int32) (Af_5 : Nat → Int32) (Af_6 : Nat → Int32) (Af_7 : Nat → Int32) (Af_8 : Nat → Int32) (Ea_0 : Nat) (Ea_1 : Nat) (Ea_2 : Nat) (Ea_3 : Nat) (Ea_4 : Nat) (Ea_5 : Nat) (Ea_6 : Nat) (Ea_7 : Nat) (Ea_8 : Nat) (Ev_0 : Int32) (Ev_1 : Int32) (Ev_2 : Int32) (Ev_3 : Int32) (Ev_4 : Int32) (Ev_5 : Int32) (Ef_1 : Nat → Int32) (Ef_2 : Nat → Int32) (Ef_3 : Nat → Int32) (Ef_4 : Nat → Int32) (Ef_5 : Nat → Int32) (Ef_6 : Nat → Int32) (Ef_7 : Nat → Int32) (Ef_8 : Nat → Int32) (h_nx : 0 ≤ (Pv_0 : Int32).toInt ∧ (Pv_0 : Int32).toInt < 20) (h_q : ∀ j : Int32, j.toInt = (Pv_0.toInt + 19) % 20 → Pq_1 j.toNatClampNeg = some Ea_0) (h_bA : 0 ≤ (Av_3 : Int32).toInt ∧ (Av_3 : Int32).toInt ≤ 6) (h_bE : 0 ≤ (Ev_3 : Int32).toInt ∧ (Ev_3 : Int32).toInt ≤ 6) : Ct l yX5_giveBack cX5_giveBack 4 (some .int) { frames := 2, cells := 0, slots := 0, locals := 61 } D tc sk [.ref Pa_0, .ref Aa_0] [(Pa_0, .inr (5, [.ref Pa_1, .int Pv_0, .int Pv_1])), (Pa_1, .inl (tc 5, 20, .inr (.inr (.inr (.inr Pq_1))))), (Aa_0, .inr (9, [.int Av_0, .int Av_1, .int Av_2, .int Av_3, .int Av_4, .int Av_5, .ref Aa_1, .ref Aa_2, .ref Aa_3, .ref Aa_4, .ref Aa_5, .ref Aa_6, .ref Aa_7, .ref Aa_8])), (Aa_1, .inl (tc 0, 10, .inl Af_1)), (Aa_2, .inl (tc 0, 10, .inl Af_2)), (Aa_3, .inl (tc 0, 6, .inl Af_3)), (Aa_4, .inl (tc 0, 6, .inl Af_4)), (Aa_5, .inl (tc 0, 6, .inl Af_5)), (Aa_6, .inl (tc 0, 6, .inl Af_6)), (Aa_7, .inl (tc 0, 6, .inl Af_7)), (Aa_8, .inl (tc 0, 6, .inl Af_8)), (Ea_0, .inr (9, [.int Ev_0, .int Ev_1, .int Ev_2, .int Ev_3, .int Ev_4, .int Ev_5, .ref Ea_1, .ref Ea_2, .ref Ea_3, .ref Ea_4, .ref Ea_5, .ref Ea_6, .ref Ea_7, .ref Ea_8])), (Ea_1, .inl (tc 0, 10, .inl Ef_1)), (Ea_2, .inl (tc 0, 10, .inl Ef_2)), (Ea_3, .inl (tc 0, 6, .inl Ef_3)), (Ea_4, .inl (tc 0, 6, .inl Ef_4)), (Ea_5, .inl (tc 0, 6, .inl Ef_5)), (Ea_6, .inl (tc 0, 6, .inl Ef_6)), (Ea_7, .inl (tc 0, 6, .inl Ef_7)), (Ea_8, .inl (tc 0, 6, .inl Ef_8))] (fun (v : Option Value) (u : (Int32) × (Int32) × (Int32) × (Int32) × (Int32) × (Int32) × (Int32) × (Int32) × (Nat → Int32) × (Nat → Int32) × (Nat → Int32) × (Nat → Int32) × (Nat → Int32) × (Nat → Int32) × (Nat → Int32) × (Nat → Int32)) => match u with | (oo0x1, oo0x2, oo0x3, oo0x4, oo0x5, oo0x6, oo0x7, oo0x8, oo0x9, oo0x10, oo0x11, oo0x12, oo0x13, oo0x14, oo0x15, oo0x16) => ∃ r : Int32, v = some (.int r) ∧ (True) ∧ (0 ≤ (oo0x1 : Int32).toInt ∧ (oo0x1 : Int32).toInt < 20) ∧ (0 ≤ (oo0x6 : Int32).toInt ∧ (oo0x6 : Int32).toInt ≤ 6) ∧ (0 ≤ (Ev_3 : Int32).toInt ∧ (Ev_3 : Int32).toInt ≤ 6)) (fun (u : (Int32) × (Int32) × (Int32) × (Int32) × (Int32) × (Int32) × (Int32) × (Int32) × (Nat → Int32) × (Nat → Int32) × (Nat → Int32) × (Nat → Int32) × (Nat → Int32) × (Nat → Int32) × (Nat → Int32) × (Nat → Int32)) => match u with | (oo0x1, oo0x2, oo0x3, oo0x4, oo0x5, oo0x6, oo0x7, oo0x8, oo0x9, oo0x10, oo0x11, oo0x12, oo0x13, oo0x14, oo0x15, oo0x16) => [(Pa_0, .inr (5, [.ref Pa_1, .int oo0x1, .int oo0x2])), (Pa_1, .inl (tc 5, 20, .inr (.inr (.inr (.inr Pq_1))))), (Aa_0, .inr (9, [.int oo0x3, .int oo0x4, .int oo0x5, .int oo0x6, .int oo0x7, .int oo0x8, .ref Aa_1, .ref Aa_2, .ref Aa_3, .ref Aa_4, .ref Aa_5, .ref Aa_6, .ref Aa_7, .ref Aa_8])), (Aa_1, .inl (tc 0, 10, .inl oo0x9)), (Aa_2, .inl (tc 0, 10, .inl oo0x10)), (Aa_3, .inl (tc 0, 6, .inl oo0x11)), (Aa_4, .inl (tc 0, 6, .inl oo0x12)), (Aa_5, .inl (tc 0, 6, .inl oo0x13)), (Aa_6, .inl (tc 0, 6, .inl oo0x14)), (Aa_7, .inl (tc 0, 6, .inl oo0x15)), (Aa_8, .inl (tc 0, 6, .inl oo0x16)), (Ea_0, .inr (9, [.int Ev_0, .int Ev_1, .int Ev_2, .int Ev_3, .int Ev_4, .int Ev_5, .ref Ea_1, .ref Ea_2, .ref Ea_3, .ref Ea_4, .ref Ea_5, .ref Ea_6, .ref Ea_7, .ref Ea_8])), (Ea_1, .inl (tc 0, 10, .inl Ef_1)), (Ea_2, .inl (tc 0, 10, .inl Ef_2)), (Ea_3, .inl (tc 0, 6, .inl Ef_3)), (Ea_4, .inl (tc 0, 6, .inl Ef_4)), (Ea_5, .inl (tc 0, 6, .inl Ef_5)), (Ea_6, .inl (tc 0, 6, .inl Ef_6)), (Ea_7, .inl (tc 0, 6, .inl Ef_7)), (Ea_8, .inl (tc 0, 6, .inl Ef_8))]) 0 0 :=
  ct_X5_giveBack_s_b l D tc sk (fun k => ([Pa_0, Pa_1] : List (Nat)).getD k 0) (fun k => ([Pv_0, Pv_1] : List (Int32)).getD k 0) (fun k => ([(fun _ => none), Pq_1] : List (Nat → Option Nat)).getD k (fun _ => none)) (fun k => ([Aa_0, Aa_1, Aa_2, Aa_3, Aa_4, Aa_5, Aa_6, Aa_7, Aa_8] : List (Nat)).getD k 0) (fun k => ([Av_0, Av_1, Av_2, Av_3, Av_4, Av_5] : List (Int32)).getD k 0) (fun k => ([(fun _ => 0), Af_1, Af_2, Af_3, Af_4, Af_5, Af_6, Af_7, Af_8] : List (Nat → Int32)).getD k (fun _ => 0)) (fun k => ([Ea_0, Ea_1, Ea_2, Ea_3, Ea_4, Ea_5, Ea_6, Ea_7, Ea_8] : List (Nat)).getD k 0) (fun k => ([Ev_0, Ev_1, Ev_2, Ev_3, Ev_4, Ev_5] : List (Int32)).getD k 0) (fun k => ([(fun _ => 0), Ef_1, Ef_2, Ef_3, Ef_4, Ef_5, Ef_6, Ef_7, Ef_8] : List (Nat → Int32)).getD k (fun _ => 0)) h_nx h_q h_bA h_bE
