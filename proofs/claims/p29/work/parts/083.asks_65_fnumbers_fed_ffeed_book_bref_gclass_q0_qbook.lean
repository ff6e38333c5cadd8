set_option maxRecDepth 16384
theorem dX11_page_0 : decode cX11_page 0 = .ok (.aload_n 0, 1) := by decide +kernel
theorem dX11_page_1 : decode cX11_page 1 = .ok (.getfield 51, 3) := by decide +kernel
theorem dX11_page_4 : decode cX11_page 4 = .ok (.invokevirtual 176, 3) := by decide +kernel
theorem dX11_page_7 : decode cX11_page 7 = .ok (.ifCond .eq 22, 3) := by decide +kernel
theorem dX11_page_10 : decode cX11_page 10 = .ok (.iload_n 1, 1) := by decide +kernel
theorem dX11_page_11 : decode cX11_page 11 = .ok (.iconst 0, 1) := by decide +kernel
theorem dX11_page_12 : decode cX11_page 12 = .ok (.bipush 60, 2) := by decide +kernel
theorem dX11_page_14 : decode cX11_page 14 = .ok (.invokestatic 166, 3) := by decide +kernel
theorem dX11_page_17 : decode cX11_page 17 = .ok (.ifCond .eq 12, 3) := by decide +kernel
theorem dX11_page_20 : decode cX11_page 20 = .ok (.iload_n 2, 1) := by decide +kernel
theorem dX11_page_21 : decode cX11_page 21 = .ok (.iconst 0, 1) := by decide +kernel
theorem dX11_page_22 : decode cX11_page 22 = .ok (.iconst 2, 1) := by decide +kernel
theorem dX11_page_23 : decode cX11_page 23 = .ok (.invokestatic 166, 3) := by decide +kernel
theorem dX11_page_26 : decode cX11_page 26 = .ok (.ifCond .ne 5, 3) := by decide +kernel
theorem dX11_page_29 : decode cX11_page 29 = .ok (.iconst (-1), 1) := by decide +kernel
theorem dX11_page_30 : decode cX11_page 30 = .ok (.ireturn, 1) := by decide +kernel
theorem dX11_page_31 : decode cX11_page 31 = .ok (.aload_n 0, 1) := by decide +kernel
theorem dX11_page_32 : decode cX11_page 32 = .ok (.getfield 75, 3) := by decide +kernel
theorem dX11_page_35 : decode cX11_page 35 = .ok (.aload_n 0, 1) := by decide +kernel
theorem dX11_page_36 : decode cX11_page 36 = .ok (.getfield 51, 3) := by decide +kernel
theorem dX11_page_39 : decode cX11_page 39 = .ok (.iload_n 1, 1) := by decide +kernel
theorem dX11_page_40 : decode cX11_page 40 = .ok (.iload_n 2, 1) := by decide +kernel
theorem dX11_page_41 : decode cX11_page 41 = .ok (.invokevirtual 236, 3) := by decide +kernel
theorem dX11_page_44 : decode cX11_page 44 = .ok (.ireturn, 1) := by decide +kernel
set_option maxHeartbeats 4000000 in
set_option maxRecDepth 100000 in
theorem ct_X11_page (l : Launch) (D : va_G) (tc : Nat → ClassId) (sk : (Nat → Nat) × (Nat → Nat)) (Ga : Nat → Nat) (Gv : Nat → Int32) (Aa : Nat → Nat) (Av : Nat → Int32) (Af : Nat → Nat → Int32) (Ca : Nat → Nat) (Cf : Nat → Nat → Int32) (Ha : Nat → Nat) (Hv : Nat → Int32) (Hf : Nat → Nat → Int32) (x1 : Int32) (x2 : Int32) (h_bA : 0 ≤ ((Av 3) : Int32).toInt ∧ ((Av 3) : Int32).toInt ≤ 6) : Ct l yX11_page cX11_page 3 (some .int) { frames := 2, cells := 0, slots := 0, locals := 50 } D tc sk [.ref (Ga 0), .int x1, .int x2] [((Ga 0), .inr (11, [.ref (Ga 1), .ref (Ga 2), .ref (Ga 3), .ref (Ga 4), .int (Gv 0), .ref (Ga 5), .ref (Aa 0), .ref (Ga 7), .ref (Ga 8), .ref (Ga 9), .ref (Ca 0), .ref (Ga 11)])), ((Aa 0), .inr (9, [.int (Av 0), .int (Av 1), .int (Av 2), .int (Av 3), .int (Av 4), .int (Av 5), .ref (Aa 1), .ref (Aa 2), .ref (Aa 3), .ref (Aa 4), .ref (Aa 5), .ref (Aa 6), .ref (Aa 7), .ref (Aa 8)])), ((Aa 1), .inl (tc 0, 10, .inl (Af 1))), ((Aa 2), .inl (tc 0, 10, .inl (Af 2))), ((Aa 3), .inl (tc 0, 6, .inl (Af 3))), ((Aa 4), .inl (tc 0, 6, .inl (Af 4))), ((Aa 5), .inl (tc 0, 6, .inl (Af 5))), ((Aa 6), .inl (tc 0, 6, .inl (Af 6))), ((Aa 7), .inl (tc 0, 6, .inl (Af 7))), ((Aa 8), .inl (tc 0, 6, .inl (Af 8))), ((Ca 0), .inr (1, [.ref (Ha 0), .ref (Ca 2), .ref (Ca 3)])), ((Ca 2), .inl (tc 0, 25, .inl (Cf 2))), ((Ca 3), .inl (tc 0, 25, .inl (Cf 3))), ((Ha 0), .inr (9, [.int (Hv 0), .int (Hv 1), .int (Hv 2), .int (Hv 3), .int (Hv 4), .int (Hv 5), .ref (Ha 1), .ref (Ha 2), .ref (Ha 3), .ref (Ha 4), .ref (Ha 5), .ref (Ha 6), .ref (Ha 7), .ref (Ha 8)])), ((Ha 1), .inl (tc 0, 10, .inl (Hf 1))), ((Ha 2), .inl (tc 0, 10, .inl (Hf 2))), ((Ha 3), .inl (tc 0, 6, .inl (Hf 3))), ((Ha 4), .inl (tc 0, 6, .inl (Hf 4))), ((Ha 5), .inl (tc 0, 6, .inl (Hf 5))), ((Ha 6), .inl (tc 0, 6, .inl (Hf 6))), ((Ha 7), .inl (tc 0, 6, .inl (Hf 7))), ((Ha 8), .inl (tc 0, 6, .inl (Hf 8)))] (fun (v : Option Value) (_ : Unit) => ∃ r : Int32, v = some (.int r) ∧ (True)) (fun (_ : Unit) => [((Ga 0), .inr (11, [.ref (Ga 1), .ref (Ga 2), .ref (Ga 3), .ref (Ga 4), .int (Gv 0), .ref (Ga 5), .ref (Aa 0), .ref (Ga 7), .ref (Ga 8), .ref (Ga 9), .ref (Ca 0), .ref (Ga 11)])), ((Aa 0), .inr (9, [.int (Av 0), .int (Av 1), .int (Av 2), .int (Av 3), .int (Av 4), .int (Av 5), .ref (Aa 1), .ref (Aa 2), .ref (Aa 3), .ref (Aa 4), .ref (Aa 5), .ref (Aa 6), .ref (Aa 7), .ref (Aa 8)])), ((Aa 1), .inl (tc 0, 10, .inl (Af 1))), ((Aa 2), .inl (tc 0, 10, .inl (Af 2))), ((Aa 3), .inl (tc 0, 6, .inl (Af 3))), ((Aa 4), .inl (tc 0, 6, .inl (Af 4))), ((Aa 5), .inl (tc 0, 6, .inl (Af 5))), ((Aa 6), .inl (tc 0, 6, .inl (Af 6))), ((Aa 7), .inl (tc 0, 6, .inl (Af 7))), ((Aa 8), .inl (tc 0, 6, .inl (Af 8))), ((Ca 0), .inr (1, [.ref (Ha 0), .ref (Ca 2), .ref (Ca 3)])), ((Ca 2), .inl (tc 0, 25, .inl (Cf 2))), ((Ca 3), .inl (tc 0, 25, .inl (Cf 3))), ((Ha 0), .inr (9, [.int (Hv 0), .int (Hv 1), .int (Hv 2), .int (Hv 3), .int (Hv 4), .int (Hv 5), .ref (Ha 1), .ref (Ha 2), .ref (Ha 3), .ref (Ha 4), .ref (Ha 5), .ref (Ha 6), .ref (Ha 7), .ref (Ha 8)])), ((Ha 1), .inl (tc 0, 10, .inl (Hf 1))), ((Ha 2), .inl (tc 0, 10, .inl (Hf 2))), ((Ha 3), .inl (tc 0, 6, .inl (Hf 3))), ((Ha 4), .inl (tc 0, 6, .inl (Hf 4))), ((Ha 5), .inl (tc 0, 6, .inl (Hf 5))), ((Ha 6), .inl (tc 0, 6, .inl (Hf 6))), ((Ha 7), .inl (tc 0, 6, .inl (Hf 7))), ((Ha 8), .inl (tc 0, 6, .inl (Hf 8)))]) 0 0 := by
  refine Ct.start (by decide) (Nat.le_of_ble_eq_true rfl) (fun p e s m below meth c A ls hx hb hr hlk hin hml hown hts hK hX hP hD hA hl hS => ?_)
  have hl : lv_has ls 3 [(0, .ref (Ga 0)), (1, .int x1), (2, .int x2)] := hl
  refine lv_aload_n hx hb dX11_page_0 rfl (lv_at hl 0 rfl) ?_
  refine gf_X11_51 hx hb hts hown hK hP 0 rfl rfl dX11_page_1 ?_
  refine cV (a := (Aa 0)) (As := []) (rest := []) (wr := [((Ga 0), .inr (11, [.ref (Ga 1), .ref (Ga 2), .ref (Ga 3), .ref (Ga 4), .int (Gv 0), .ref (Ga 5), .ref (Aa 0), .ref (Ga 7), .ref (Ga 8), .ref (Ga 9), .ref (Ca 0), .ref (Ga 11)])), ((Ca 0), .inr (1, [.ref (Ha 0), .ref (Ca 2), .ref (Ca 3)])), ((Ca 2), .inl (tc 0, 25, .inl (Cf 2))), ((Ca 3), .inl (tc 0, 25, .inl (Cf 3))), ((Ha 0), .inr (9, [.int (Hv 0), .int (Hv 1), .int (Hv 2), .int (Hv 3), .int (Hv 4), .int (Hv 5), .ref (Ha 1), .ref (Ha 2), .ref (Ha 3), .ref (Ha 4), .ref (Ha 5), .ref (Ha 6), .ref (Ha 7), .ref (Ha 8)])), ((Ha 1), .inl (tc 0, 10, .inl (Hf 1))), ((Ha 2), .inl (tc 0, 10, .inl (Hf 2))), ((Ha 3), .inl (tc 0, 6, .inl (Hf 3))), ((Ha 4), .inl (tc 0, 6, .inl (Hf 4))), ((Ha 5), .inl (tc 0, 6, .inl (Hf 5))), ((Ha 6), .inl (tc 0, 6, .inl (Hf 6))), ((Ha 7), .inl (tc 0, 6, .inl (Hf 7))), ((Ha 8), .inl (tc 0, 6, .inl (Hf 8)))]) ⟨hx, hb, hml, hown, hts⟩ hK hX hA (cu_X9_isTold l D tc sk (Aa 0) (Aa 1) (Aa 2) (Aa 3) (Aa 4) (Aa 5) (Aa 6) (Aa 7) (Aa 8) (Av 0) (Av 1) (Av 2) (Av 3) (Av 4) (Av 5) (Af 1) (Af 2) (Af 3) (Af 4) (Af 5) (Af 6) (Af 7) (Af 8)) k_724 k_721 k_722 k_723 k_98 pl_X9_isTold ⟨Nat.le_of_ble_eq_true rfl, Nat.le_of_ble_eq_true rfl⟩ rfl rfl (va_recv hK hP (ci := 9) (q0 := 1) rfl rfl) hP hD hS [1, 2, 3, 4, 5, 6, 7, 8, 9] [0, 10, 11, 12, 13, 14, 15, 16, 17, 18, 19, 20, 21] rfl rfl rfl rfl rfl (by decide) rfl hl.1 rfl (Nat.le_of_ble_eq_true rfl) dX11_page_4 ⟨Nat.le_of_ble_eq_true rfl, Nat.le_of_ble_eq_true rfl⟩ (fun v_1 u_2 H locs hv_3 hP₀ hD₀ hS₀ => ?_)
  obtain ⟨r_4, rfl, he_5⟩ := hv_3
  have he_5 : ((r_4.toInt = 0 ∨ r_4.toInt = 1)) := he_5
  refine W.eq (g2 := F0 m 7 ls [.int r_4]) rfl ?_
  replace hP : va_P D classes [((Ga 0), .inr (11, [.ref (Ga 1), .ref (Ga 2), .ref (Ga 3), .ref (Ga 4), .int (Gv 0), .ref (Ga 5), .ref (Aa 0), .ref (Ga 7), .ref (Ga 8), .ref (Ga 9), .ref (Ca 0), .ref (Ga 11)])), ((Ca 0), .inr (1, [.ref (Ha 0), .ref (Ca 2), .ref (Ca 3)])), ((Ca 2), .inl (tc 0, 25, .inl (Cf 2))), ((Ca 3), .inl (tc 0, 25, .inl (Cf 3))), ((Ha 0), .inr (9, [.int (Hv 0), .int (Hv 1), .int (Hv 2), .int (Hv 3), .int (Hv 4), .int (Hv 5), .ref (Ha 1), .ref (Ha 2), .ref (Ha 3), .ref (Ha 4), .ref (Ha 5), .ref (Ha 6), .ref (Ha 7), .ref (Ha 8)])), ((Ha 1), .inl (tc 0, 10, .inl (Hf 1))), ((Ha 2), .inl (tc 0, 10, .inl (Hf 2))), ((Ha 3), .inl (tc 0, 6, .inl (Hf 3))), ((Ha 4), .inl (tc 0, 6, .inl (Hf 4))), ((Ha 5), .inl (tc 0, 6, .inl (Hf 5))), ((Ha 6), .inl (tc 0, 6, .inl (Hf 6))), ((Ha 7), .inl (tc 0, 6, .inl (Hf 7))), ((Ha 8), .inl (tc 0, 6, .inl (Hf 8))), ((Aa 0), .inr (9, [.int (Av 0), .int (Av 1), .int (Av 2), .int (Av 3), .int (Av 4), .int (Av 5), .ref (Aa 1), .ref (Aa 2), .ref (Aa 3), .ref (Aa 4), .ref (Aa 5), .ref (Aa 6), .ref (Aa 7), .ref (Aa 8)])), ((Aa 1), .inl (tc 0, 10, .inl (Af 1))), ((Aa 2), .inl (tc 0, 10, .inl (Af 2))), ((Aa 3), .inl (tc 0, 6, .inl (Af 3))), ((Aa 4), .inl (tc 0, 6, .inl (Af 4))), ((Aa 5), .inl (tc 0, 6, .inl (Af 5))), ((Aa 6), .inl (tc 0, 6, .inl (Af 6))), ((Aa 7), .inl (tc 0, 6, .inl (Af 7))), ((Aa 8), .inl (tc 0, 6, .inl (Af 8)))] H := hP₀
  replace hD : va_D A [((Ga 0), .inr (11, [.ref (Ga 1), .ref (Ga 2), .ref (Ga 3), .ref (Ga 4), .int (Gv 0), .ref (Ga 5), .ref (Aa 0), .ref (Ga 7), .ref (Ga 8), .ref (Ga 9), .ref (Ca 0), .ref (Ga 11)])), ((Ca 0), .inr (1, [.ref (Ha 0), .ref (Ca 2), .ref (Ca 3)])), ((Ca 2), .inl (tc 0, 25, .inl (Cf 2))), ((Ca 3), .inl (tc 0, 25, .inl (Cf 3))), ((Ha 0), .inr (9, [.int (Hv 0), .int (Hv 1), .int (Hv 2), .int (Hv 3), .int (Hv 4), .int (Hv 5), .ref (Ha 1), .ref (Ha 2), .ref (Ha 3), .ref (Ha 4), .ref (Ha 5), .ref (Ha 6), .ref (Ha 7), .ref (Ha 8)])), ((Ha 1), .inl (tc 0, 10, .inl (Hf 1))), ((Ha 2), .inl (tc 0, 10, .inl (Hf 2))), ((Ha 3), .inl (tc 0, 6, .inl (Hf 3))), ((Ha 4), .inl (tc 0, 6, .inl (Hf 4))), ((Ha 5), .inl (tc 0, 6, .inl (Hf 5))), ((Ha 6), .inl (tc 0, 6, .inl (Hf 6))), ((Ha 7), .inl (tc 0, 6, .inl (Hf 7))), ((Ha 8), .inl (tc 0, 6, .inl (Hf 8))), ((Aa 0), .inr (9, [.int (Av 0), .int (Av 1), .int (Av 2), .int (Av 3), .int (Av 4), .int (Av 5), .ref (Aa 1), .ref (Aa 2), .ref (Aa 3), .ref (Aa 4), .ref (Aa 5), .ref (Aa 6), .ref (Aa 7), .ref (Aa 8)])), ((Aa 1), .inl (tc 0, 10, .inl (Af 1))), ((Aa 2), .inl (tc 0, 10, .inl (Af 2))), ((Aa 3), .inl (tc 0, 6, .inl (Af 3))), ((Aa 4), .inl (tc 0, 6, .inl (Af 4))), ((Aa 5), .inl (tc 0, 6, .inl (Af 5))), ((Aa 6), .inl (tc 0, 6, .inl (Af 6))), ((Aa 7), .inl (tc 0, 6, .inl (Af 7))), ((Aa 8), .inl (tc 0, 6, .inl (Af 8)))] := hD₀
  replace hS := hS₀
  clear hP₀ hD₀ hS₀
  refine lv_if_eq (tgt := 29) hx hb dX11_page_7 (by decide) (fun c_6 => ?_) (fun c_6 => ?_)
  · skip
    refine lv_iconst (v := (-1)) hx hb dX11_page_29 (by decide) ?_
    exact retI (v := (-1)) hx hb hr hlk (rfl) hP hD hS () ⟨_, rfl, trivial⟩ [0, 13, 14, 15, 16, 17, 18, 19, 20, 21, 1, 2, 3, 4, 5, 6, 7, 8, 9, 10, 11, 12] rfl rfl dX11_page_30 (Nat.le_of_ble_eq_true rfl) (Nat.le_of_ble_eq_true rfl) rfl
  · skip
    refine lv_iload_n hx hb dX11_page_10 rfl (lv_at hl 1 rfl) ?_
    refine lv_iconst (v := 0) hx hb dX11_page_11 (by decide) ?_
    refine lv_bipush (v := 60) hx hb dX11_page_12 (by decide) ?_
    refine cS (As := [.int x1, .int 0, .int 60]) (rest := []) (wr := [((Ga 0), .inr (11, [.ref (Ga 1), .ref (Ga 2), .ref (Ga 3), .ref (Ga 4), .int (Gv 0), .ref (Ga 5), .ref (Aa 0), .ref (Ga 7), .ref (Ga 8), .ref (Ga 9), .ref (Ca 0), .ref (Ga 11)])), ((Ca 0), .inr (1, [.ref (Ha 0), .ref (Ca 2), .ref (Ca 3)])), ((Ca 2), .inl (tc 0, 25, .inl (Cf 2))), ((Ca 3), .inl (tc 0, 25, .inl (Cf 3))), ((Ha 0), .inr (9, [.int (Hv 0), .int (Hv 1), .int (Hv 2), .int (Hv 3), .int (Hv 4), .int (Hv 5), .ref (Ha 1), .ref (Ha 2), .ref (Ha 3), .ref (Ha 4), .ref (Ha 5), .ref (Ha 6), .ref (Ha 7), .ref (Ha 8)])), ((Ha 1), .inl (tc 0, 10, .inl (Hf 1))), ((Ha 2), .inl (tc 0, 10, .inl (Hf 2))), ((Ha 3), .inl (tc 0, 6, .inl (Hf 3))), ((Ha 4), .inl (tc 0, 6, .inl (Hf 4))), ((Ha 5), .inl (tc 0, 6, .inl (Hf 5))), ((Ha 6), .inl (tc 0, 6, .inl (Hf 6))), ((Ha 7), .inl (tc 0, 6, .inl (Hf 7))), ((Ha 8), .inl (tc 0, 6, .inl (Hf 8))), ((Aa 0), .inr (9, [.int (Av 0), .int (Av 1), .int (Av 2), .int (Av 3), .int (Av 4), .int (Av 5), .ref (Aa 1), .ref (Aa 2), .ref (Aa 3), .ref (Aa 4), .ref (Aa 5), .ref (Aa 6), .ref (Aa 7), .ref (Aa 8)])), ((Aa 1), .inl (tc 0, 10, .inl (Af 1))), ((Aa 2), .inl (tc 0, 10, .inl (Af 2))), ((Aa 3), .inl (tc 0, 6, .inl (Af 3))), ((Aa 4), .inl (tc 0, 6, .inl (Af 4))), ((Aa 5), .inl (tc 0, 6, .inl (Af 5))), ((Aa 6), .inl (tc 0, 6, .inl (Af 6))), ((Aa 7), .inl (tc 0, 6, .inl (Af 7))), ((Aa 8), .inl (tc 0, 6, .inl (Af 8)))]) ⟨hx, hb, hml, hown, hts⟩ hK hX hA (ct_X11_isWithin l D tc sk x1 0 60) k_716 k_714 k_715 k_95 pl_X11_isWithin ⟨Nat.le_of_ble_eq_true rfl, Nat.le_of_ble_eq_true rfl⟩ rfl rfl  hP hD hS [] [0, 1, 2, 3, 4, 5, 6, 7, 8, 9, 10, 11, 12, 13, 14, 15, 16, 17, 18, 19, 20, 21] rfl rfl rfl rfl rfl (by decide) rfl hl.1 rfl (Nat.le_of_ble_eq_true rfl) dX11_page_14 ⟨Nat.le_of_ble_eq_true rfl, Nat.le_of_ble_eq_true rfl⟩ (fun v_7 u_8 H locs hv_9 hP₀ hD₀ hS₀ => ?_)
    obtain ⟨r_10, rfl, he_11⟩ := hv_9
    have he_11 : (r_10.toInt = 0 ∨ (r_10.toInt = 1 ∧ (0 : Int32).toInt ≤ x1.toInt ∧ x1.toInt ≤ (60 : Int32).toInt)) := he_11
    refine W.eq (g2 := F0 m 17 ls [.int r_10]) rfl ?_
    replace hP : va_P D classes [((Ga 0), .inr (11, [.ref (Ga 1), .ref (Ga 2), .ref (Ga 3), .ref (Ga 4), .int (Gv 0), .ref (Ga 5), .ref (Aa 0), .ref (Ga 7), .ref (Ga 8), .ref (Ga 9), .ref (Ca 0), .ref (Ga 11)])), ((Ca 0), .inr (1, [.ref (Ha 0), .ref (Ca 2), .ref (Ca 3)])), ((Ca 2), .inl (tc 0, 25, .inl (Cf 2))), ((Ca 3), .inl (tc 0, 25, .inl (Cf 3))), ((Ha 0), .inr (9, [.int (Hv 0), .int (Hv 1), .int (Hv 2), .int (Hv 3), .int (Hv 4), .int (Hv 5), .ref (Ha 1), .ref (Ha 2), .ref (Ha 3), .ref (Ha 4), .ref (Ha 5), .ref (Ha 6), .ref (Ha 7), .ref (Ha 8)])), ((Ha 1), .inl (tc 0, 10, .inl (Hf 1))), ((Ha 2), .inl (tc 0, 10, .inl (Hf 2))), ((Ha 3), .inl (tc 0, 6, .inl (Hf 3))), ((Ha 4), .inl (tc 0, 6, .inl (Hf 4))), ((Ha 5), .inl (tc 0, 6, .inl (Hf 5))), ((Ha 6), .inl (tc 0, 6, .inl (Hf 6))), ((Ha 7), .inl (tc 0, 6, .inl (Hf 7))), ((Ha 8), .inl (tc 0, 6, .inl (Hf 8))), ((Aa 0), .inr (9, [.int (Av 0), .int (Av 1), .int (Av 2), .int (Av 3), .int (Av 4), .int (Av 5), .ref (Aa 1), .ref (Aa 2), .ref (Aa 3), .ref (Aa 4), .ref (Aa 5), .ref (Aa 6), .ref (Aa 7), .ref (Aa 8)])), ((Aa 1), .inl (tc 0, 10, .inl (Af 1))), ((Aa 2), .inl (tc 0, 10, .inl (Af 2))), ((Aa 3), .inl (tc 0, 6, .inl (Af 3))), ((Aa 4), .inl (tc 0, 6, .inl (Af 4))), ((Aa 5), .inl (tc 0, 6, .inl (Af 5))), ((Aa 6), .inl (tc 0, 6, .inl (Af 6))), ((Aa 7), .inl (tc 0, 6, .inl (Af 7))), ((Aa 8), .inl (tc 0, 6, .inl (Af 8)))] H := hP₀
    replace hD : va_D A [((Ga 0), .inr (11, [.ref (Ga 1), .ref (Ga 2), .ref (Ga 3), .ref (Ga 4), .int (Gv 0), .ref (Ga 5), .ref (Aa 0), .ref (Ga 7), .ref (Ga 8), .ref (Ga 9), .ref (Ca 0), .ref (Ga 11)])), ((Ca 0), .inr (1, [.ref (Ha 0), .ref (Ca 2), .ref (Ca 3)])), ((Ca 2), .inl (tc 0, 25, .inl (Cf 2))), ((Ca 3), .inl (tc 0, 25, .inl (Cf 3))), ((Ha 0), .inr (9, [.int (Hv 0), .int (Hv 1), .int (Hv 2), .int (Hv 3), .int (Hv 4), .int (Hv 5), .ref (Ha 1), .ref (Ha 2), .ref (Ha 3), .ref (Ha 4), .ref (Ha 5), .ref (Ha 6), .ref (Ha 7), .ref (Ha 8)])), ((Ha 1), .inl (tc 0, 10, .inl (Hf 1))), ((Ha 2), .inl (tc 0, 10, .inl (Hf 2))), ((Ha 3), .inl (tc 0, 6, .inl (Hf 3))), ((Ha 4), .inl (tc 0, 6, .inl (Hf 4))), ((Ha 5), .inl (tc 0, 6, .inl (Hf 5))), ((Ha 6), .inl (tc 0, 6, .inl (Hf 6))), ((Ha 7), .inl (tc 0, 6, .inl (Hf 7))), ((Ha 8), .inl (tc 0, 6, .inl (Hf 8))), ((Aa 0), .inr (9, [.int (Av 0), .int (Av 1), .int (Av 2), .int (Av 3), .int (Av 4), .int (Av 5), .ref (Aa 1), .ref (Aa 2), .ref (Aa 3), .ref (Aa 4), .ref (Aa 5), .ref (Aa 6), .ref (Aa 7), .ref (Aa 8)])), ((Aa 1), .inl (tc 0, 10, .inl (Af 1))), ((Aa 2), .inl (tc 0, 10, .inl (Af 2))), ((Aa 3), .inl (tc 0, 6, .inl (Af 3))), ((Aa 4), .inl (tc 0, 6, .inl (Af 4))), ((Aa 5), .inl (tc 0, 6, .inl (Af 5))), ((Aa 6), .inl (tc 0, 6, .inl (Af 6))), ((Aa 7), .inl (tc 0, 6, .inl (Af 7))), ((Aa 8), .inl (tc 0, 6, .inl (Af 8)))] := hD₀
    replace hS := hS₀
    clear hP₀ hD₀ hS₀
    refine lv_if_eq (tgt := 29) hx hb dX11_page_17 (by decide) (fun c_13 => ?_) (fun c_13 => ?_)
    · skip
      refine lv_iconst (v := (-1)) hx hb dX11_page_29 (by decide) ?_
      exact retI (v := (-1)) hx hb hr hlk (rfl) hP hD hS () ⟨_, rfl, trivial⟩ [0, 13, 14, 15, 16, 17, 18, 19, 20, 21, 1, 2, 3, 4, 5, 6, 7, 8, 9, 10, 11, 12] rfl rfl dX11_page_30 (Nat.le_of_ble_eq_true rfl) (Nat.le_of_ble_eq_true rfl) rfl
    · skip
      refine lv_iload_n hx hb dX11_page_20 rfl (lv_at hl 2 rfl) ?_
      refine lv_iconst (v := 0) hx hb dX11_page_21 (by decide) ?_
      refine lv_iconst (v := 2) hx hb dX11_page_22 (by decide) ?_
      refine cS (As := [.int x2, .int 0, .int 2]) (rest := []) (wr := [((Ga 0), .inr (11, [.ref (Ga 1), .ref (Ga 2), .ref (Ga 3), .ref (Ga 4), .int (Gv 0), .ref (Ga 5), .ref (Aa 0), .ref (Ga 7), .ref (Ga 8), .ref (Ga 9), .ref (Ca 0), .ref (Ga 11)])), ((Ca 0), .inr (1, [.ref (Ha 0), .ref (Ca 2), .ref (Ca 3)])), ((Ca 2), .inl (tc 0, 25, .inl (Cf 2))), ((Ca 3), .inl (tc 0, 25, .inl (Cf 3))), ((Ha 0), .inr (9, [.int (Hv 0), .int (Hv 1), .int (Hv 2), .int (Hv 3), .int (Hv 4), .int (Hv 5), .ref (Ha 1), .ref (Ha 2), .ref (Ha 3), .ref (Ha 4), .ref (Ha 5), .ref (Ha 6), .ref (Ha 7), .ref (Ha 8)])), ((Ha 1), .inl (tc 0, 10, .inl (Hf 1))), ((Ha 2), .inl (tc 0, 10, .inl (Hf 2))), ((Ha 3), .inl (tc 0, 6, .inl (Hf 3))), ((Ha 4), .inl (tc 0, 6, .inl (Hf 4))), ((Ha 5), .inl (tc 0, 6, .inl (Hf 5))), ((Ha 6), .inl (tc 0, 6, .inl (Hf 6))), ((Ha 7), .inl (tc 0, 6, .inl (Hf 7))), ((Ha 8), .inl (tc 0, 6, .inl (Hf 8))), ((Aa 0), .inr (9, [.int (Av 0), .int (Av 1), .int (Av 2), .int (Av 3), .int (Av 4), .int (Av 5), .ref (Aa 1), .ref (Aa 2), .ref (Aa 3), .ref (Aa 4), .ref (Aa 5), .ref (Aa 6), .ref (Aa 7), .ref (Aa 8)])), ((Aa 1), .inl (tc 0, 10, .inl (Af 1))), ((Aa 2), .inl (tc 0, 10, .inl (Af 2))), ((Aa 3), .inl (tc 0, 6, .inl (Af 3))), ((Aa 4), .inl (tc 0, 6, .inl (Af 4))), ((Aa 5), .inl (tc 0, 6, .inl (Af 5))), ((Aa 6), .inl (tc 0, 6, .inl (Af 6))), ((Aa 7), .inl (tc 0, 6, .inl (Af 7))), ((Aa 8), .inl (tc 0, 6, .inl (Af 8)))]) ⟨hx, hb, hml, hown, hts⟩ hK hX hA (ct_X11_isWithin l D tc sk x2 0 2) k_716 k_714 k_715 k_95 pl_X11_isWithin ⟨Nat.le_of_ble_eq_true rfl, Nat.le_of_ble_eq_true rfl⟩ rfl rfl  hP hD hS [] [0, 1, 2, 3, 4, 5, 6, 7, 8, 9, 10, 11, 12, 13, 14, 15, 16, 17, 18, 19, 20, 21] rfl rfl rfl rfl rfl (by decide) rfl hl.1 rfl (Nat.le_of_ble_eq_true rfl) dX11_page_23 ⟨Nat.le_of_ble_eq_true rfl, Nat.le_of_ble_eq_true rfl⟩ (fun v_14 u_15 H locs hv_16 hP₀ hD₀ hS₀ => ?_)
      obtain ⟨r_17, rfl, he_18⟩ := hv_16
      have he_18 : (r_17.toInt = 0 ∨ (r_17.toInt = 1 ∧ (0 : Int32).toInt ≤ x2.toInt ∧ x2.toInt ≤ (2 : Int32).toInt)) := he_18
      refine W.eq (g2 := F0 m 26 ls [.int r_17]) rfl ?_
      replace hP : va_P D classes [((Ga 0), .inr (11, [.ref (Ga 1), .ref (Ga 2), .ref (Ga 3), .ref (Ga 4), .int (Gv 0), .ref (Ga 5), .ref (Aa 0), .ref (Ga 7), .ref (Ga 8), .ref (Ga 9), .ref (Ca 0), .ref (Ga 11)])), ((Ca 0), .inr (1, [.ref (Ha 0), .ref (Ca 2), .ref (Ca 3)])), ((Ca 2), .inl (tc 0, 25, .inl (Cf 2))), ((Ca 3), .inl (tc 0, 25, .inl (Cf 3))), ((Ha 0), .inr (9, [.int (Hv 0), .int (Hv 1), .int (Hv 2), .int (Hv 3), .int (Hv 4), .int (Hv 5), .ref (Ha 1), .ref (Ha 2), .ref (Ha 3), .ref (Ha 4), .ref (Ha 5), .ref (Ha 6), .ref (Ha 7), .ref (Ha 8)])), ((Ha 1), .inl (tc 0, 10, .inl (Hf 1))), ((Ha 2), .inl (tc 0, 10, .inl (Hf 2))), ((Ha 3), .inl (tc 0, 6, .inl (Hf 3))), ((Ha 4), .inl (tc 0, 6, .inl (Hf 4))), ((Ha 5), .inl (tc 0, 6, .inl (Hf 5))), ((Ha 6), .inl (tc 0, 6, .inl (Hf 6))), ((Ha 7), .inl (tc 0, 6, .inl (Hf 7))), ((Ha 8), .inl (tc 0, 6, .inl (Hf 8))), ((Aa 0), .inr (9, [.int (Av 0), .int (Av 1), .int (Av 2), .int (Av 3), .int (Av 4), .int (Av 5), .ref (Aa 1), .ref (Aa 2), .ref (Aa 3), .ref (Aa 4), .ref (Aa 5), .ref (Aa 6), .ref (Aa 7), .ref (Aa 8)])), ((Aa 1), .inl (tc 0, 10, .inl (Af 1))), ((Aa 2), .inl (tc 0, 10, .inl (Af 2))), ((Aa 3), .inl (tc 0, 6, .inl (Af 3))), ((Aa 4), .inl (tc 0, 6, .inl (Af 4))), ((Aa 5), .inl (tc 0, 6, .inl (Af 5))), ((Aa 6), .inl (tc 0, 6, .inl (Af 6))), ((Aa 7), .inl (tc 0, 6, .inl (Af 7))), ((Aa 8), .inl (tc 0, 6, .inl (Af 8)))] H := hP₀
      replace hD : va_D A [((Ga 0), .inr (11, [.ref (Ga 1), .ref (Ga 2), .ref (Ga 3), .ref (Ga 4), .int (Gv 0), .ref (Ga 5), .ref (Aa 0), .ref (Ga 7), .ref (Ga 8), .ref (Ga 9), .ref (Ca 0), .ref (Ga 11)])), ((Ca 0), .inr (1, [.ref (Ha 0), .ref (Ca 2), .ref (Ca 3)])), ((Ca 2), .inl (tc 0, 25, .inl (Cf 2))), ((Ca 3), .inl (tc 0, 25, .inl (Cf 3))), ((Ha 0), .inr (9, [.int (Hv 0), .int (Hv 1), .int (Hv 2), .int (Hv 3), .int (Hv 4), .int (Hv 5), .ref (Ha 1), .ref (Ha 2), .ref (Ha 3), .ref (Ha 4), .ref (Ha 5), .ref (Ha 6), .ref (Ha 7), .ref (Ha 8)])), ((Ha 1), .inl (tc 0, 10, .inl (Hf 1))), ((Ha 2), .inl (tc 0, 10, .inl (Hf 2))), ((Ha 3), .inl (tc 0, 6, .inl (Hf 3))), ((Ha 4), .inl (tc 0, 6, .inl (Hf 4))), ((Ha 5), .inl (tc 0, 6, .inl (Hf 5))), ((Ha 6), .inl (tc 0, 6, .inl (Hf 6))), ((Ha 7), .inl (tc 0, 6, .inl (Hf 7))), ((Ha 8), .inl (tc 0, 6, .inl (Hf 8))), ((Aa 0), .inr (9, [.int (Av 0), .int (Av 1), .int (Av 2), .int (Av 3), .int (Av 4), .int (Av 5), .ref (Aa 1), .ref (Aa 2), .ref (Aa 3), .ref (Aa 4), .ref (Aa 5), .ref (Aa 6), .ref (Aa 7), .ref (Aa 8)])), ((Aa 1), .inl (tc 0, 10, .inl (Af 1))), ((Aa 2), .inl (tc 0, 10, .inl (Af 2))), ((Aa 3), .inl (tc 0, 6, .inl (Af 3))), ((Aa 4), .inl (tc 0, 6, .inl (Af 4))), ((Aa 5), .inl (tc 0, 6, .inl (Af 5))), ((Aa 6), .inl (tc 0, 6, .inl (Af 6))), ((Aa 7), .inl (tc 0, 6, .inl (Af 7))), ((Aa 8), .inl (tc 0, 6, .inl (Af 8)))] := hD₀
      replace hS := hS₀
      clear hP₀ hD₀ hS₀
      refine lv_if_ne (tgt := 31) hx hb dX11_page_26 (by decide) (fun c_20 => ?_) (fun c_20 => ?_)
      · skip
        refine lv_aload_n hx hb dX11_page_31 rfl (lv_at hl 0 rfl) ?_
        refine gf_X11_75 hx hb hts hown hK hP 0 rfl rfl dX11_page_32 ?_
        refine lv_aload_n hx hb dX11_page_35 rfl (lv_at hl 0 rfl) ?_
        refine gf_X11_51 hx hb hts hown hK hP 0 rfl rfl dX11_page_36 ?_
        refine lv_iload_n hx hb dX11_page_39 rfl (lv_at hl 1 rfl) ?_
        refine lv_iload_n hx hb dX11_page_40 rfl (lv_at hl 2 rfl) ?_
        have ha_21 : 0 ≤ (Av 3).toInt ∧ (Av 3).toInt ≤ 6 := by
          have z_1 : ¬ (r_4 : Int32).toInt = (0 : Int32).toInt := fun z => c_6 (Int32.toInt_inj.mp z)
          have z_2 : ¬ (r_10 : Int32).toInt = (0 : Int32).toInt := fun z => c_13 (Int32.toInt_inj.mp z)
          have z_3 : ¬ (r_17 : Int32).toInt = (0 : Int32).toInt := fun z => c_20 (Int32.toInt_inj.mp z)
          have y_0 : (0 : Int32).toInt = 0 := by decide
          omega
        refine cV (a := (Ca 0)) (As := [.ref (Aa 0), .int x1, .int x2]) (rest := []) (wr := [((Ga 0), .inr (11, [.ref (Ga 1), .ref (Ga 2), .ref (Ga 3), .ref (Ga 4), .int (Gv 0), .ref (Ga 5), .ref (Aa 0), .ref (Ga 7), .ref (Ga 8), .ref (Ga 9), .ref (Ca 0), .ref (Ga 11)]))]) ⟨hx, hb, hml, hown, hts⟩ hK hX hA (cu_X1_setsOf l D tc sk (Ca 0) (Ca 2) (Ca 3) (Cf 2) (Cf 3) (Ha 0) (Ha 1) (Ha 2) (Ha 3) (Ha 4) (Ha 5) (Ha 6) (Ha 7) (Ha 8) (Hv 0) (Hv 1) (Hv 2) (Hv 3) (Hv 4) (Hv 5) (Hf 1) (Hf 2) (Hf 3) (Hf 4) (Hf 5) (Hf 6) (Hf 7) (Hf 8) (Aa 0) (Aa 1) (Aa 2) (Aa 3) (Aa 4) (Aa 5) (Aa 6) (Aa 7) (Aa 8) (Av 0) (Av 1) (Av 2) (Av 3) (Av 4) (Av 5) (Af 1) (Af 2) (Af 3) (Af 4) (Af 5) (Af 6) (Af 7) (Af 8) x1 x2 ha_21) k_910 k_907 k_908 k_909 k_104 pl_X1_setsOf ⟨Nat.le_of_ble_eq_true rfl, Nat.le_of_ble_eq_true rfl⟩ rfl rfl (va_recv hK hP (ci := 1) (q0 := 1) rfl rfl) hP hD hS [1, 2, 3, 4, 5, 6, 7, 8, 9, 10, 11, 12, 13, 14, 15, 16, 17, 18, 19, 20, 21] [0] rfl rfl rfl rfl rfl (by decide) rfl hl.1 rfl (Nat.le_of_ble_eq_true rfl) dX11_page_41 ⟨Nat.le_of_ble_eq_true rfl, Nat.le_of_ble_eq_true rfl⟩ (fun v_22 u_23 H locs hv_24 hP₀ hD₀ hS₀ => ?_)
        obtain ⟨r_25, rfl, he_26⟩ := hv_24
        have he_26 : (True) := he_26
        refine W.eq (g2 := F0 m 44 ls [.int r_25]) rfl ?_
        replace hP : va_P D classes [((Ga 0), .inr (11, [.ref (Ga 1), .ref (Ga 2), .ref (Ga 3), .ref (Ga 4), .int (Gv 0), .ref (Ga 5), .ref (Aa 0), .ref (Ga 7), .ref (Ga 8), .ref (Ga 9), .ref (Ca 0), .ref (Ga 11)])), ((Ca 0), .inr (1, [.ref (Ha 0), .ref (Ca 2), .ref (Ca 3)])), ((Ca 2), .inl (tc 0, 25, .inl (Cf 2))), ((Ca 3), .inl (tc 0, 25, .inl (Cf 3))), ((Ha 0), .inr (9, [.int (Hv 0), .int (Hv 1), .int (Hv 2), .int (Hv 3), .int (Hv 4), .int (Hv 5), .ref (Ha 1), .ref (Ha 2), .ref (Ha 3), .ref (Ha 4), .ref (Ha 5), .ref (Ha 6), .ref (Ha 7), .ref (Ha 8)])), ((Ha 1), .inl (tc 0, 10, .inl (Hf 1))), ((Ha 2), .inl (tc 0, 10, .inl (Hf 2))), ((Ha 3), .inl (tc 0, 6, .inl (Hf 3))), ((Ha 4), .inl (tc 0, 6, .inl (Hf 4))), ((Ha 5), .inl (tc 0, 6, .inl (Hf 5))), ((Ha 6), .inl (tc 0, 6, .inl (Hf 6))), ((Ha 7), .inl (tc 0, 6, .inl (Hf 7))), ((Ha 8), .inl (tc 0, 6, .inl (Hf 8))), ((Aa 0), .inr (9, [.int (Av 0), .int (Av 1), .int (Av 2), .int (Av 3), .int (Av 4), .int (Av 5), .ref (Aa 1), .ref (Aa 2), .ref (Aa 3), .ref (Aa 4), .ref (Aa 5), .ref (Aa 6), .ref (Aa 7), .ref (Aa 8)])), ((Aa 1), .inl (tc 0, 10, .inl (Af 1))), ((Aa 2), .inl (tc 0, 10, .inl (Af 2))), ((Aa 3), .inl (tc 0, 6, .inl (Af 3))), ((Aa 4), .inl (tc 0, 6, .inl (Af 4))), ((Aa 5), .inl (tc 0, 6, .inl (Af 5))), ((Aa 6), .inl (tc 0, 6, .inl (Af 6))), ((Aa 7), .inl (tc 0, 6, .inl (Af 7))), ((Aa 8), .inl (tc 0, 6, .inl (Af 8)))] H := hP₀
        replace hD : va_D A [((Ga 0), .inr (11, [.ref (Ga 1), .ref (Ga 2), .ref (Ga 3), .ref (Ga 4), .int (Gv 0), .ref (Ga 5), .ref (Aa 0), .ref (Ga 7), .ref (Ga 8), .ref (Ga 9), .ref (Ca 0), .ref (Ga 11)])), ((Ca 0), .inr (1, [.ref (Ha 0), .ref (Ca 2), .ref (Ca 3)])), ((Ca 2), .inl (tc 0, 25, .inl (Cf 2))), ((Ca 3), .inl (tc 0, 25, .inl (Cf 3))), ((Ha 0), .inr (9, [.int (Hv 0), .int (Hv 1), .int (Hv 2), .int (Hv 3), .int (Hv 4), .int (Hv 5), .ref (Ha 1), .ref (Ha 2), .ref (Ha 3), .ref (Ha 4), .ref (Ha 5), .ref (Ha 6), .ref (Ha 7), .ref (Ha 8)])), ((Ha 1), .inl (tc 0, 10, .inl (Hf 1))), ((Ha 2), .inl (tc 0, 10, .inl (Hf 2))), ((Ha 3), .inl (tc 0, 6, .inl (Hf 3))), ((Ha 4), .inl (tc 0, 6, .inl (Hf 4))), ((Ha 5), .inl (tc 0, 6, .inl (Hf 5))), ((Ha 6), .inl (tc 0, 6, .inl (Hf 6))), ((Ha 7), .inl (tc 0, 6, .inl (Hf 7))), ((Ha 8), .inl (tc 0, 6, .inl (Hf 8))), ((Aa 0), .inr (9, [.int (Av 0), .int (Av 1), .int (Av 2), .int (Av 3), .int (Av 4), .int (Av 5), .ref (Aa 1), .ref (Aa 2), .ref (Aa 3), .ref (Aa 4), .ref (Aa 5), .ref (Aa 6), .ref (Aa 7), .ref (Aa 8)])), ((Aa 1), .inl (tc 0, 10, .inl (Af 1))), ((Aa 2), .inl (tc 0, 10, .inl (Af 2))), ((Aa 3), .inl (tc 0, 6, .inl (Af 3))), ((Aa 4), .inl (tc 0, 6, .inl (Af 4))), ((Aa 5), .inl (tc 0, 6, .inl (Af 5))), ((Aa 6), .inl (tc 0, 6, .inl (Af 6))), ((Aa 7), .inl (tc 0, 6, .inl (Af 7))), ((Aa 8), .inl (tc 0, 6, .inl (Af 8)))] := hD₀
        replace hS := hS₀
        clear hP₀ hD₀ hS₀
        exact retI (v := r_25) hx hb hr hlk (rfl) hP hD hS () ⟨_, rfl, trivial⟩ [0, 13, 14, 15, 16, 17, 18, 19, 20, 21, 1, 2, 3, 4, 5, 6, 7, 8, 9, 10, 11, 12] rfl rfl dX11_page_44 (Nat.le_of_ble_eq_true rfl) (Nat.le_of_ble_eq_true rfl) rfl
      · skip
        refine lv_iconst (v := (-1)) hx hb dX11_page_29 (by decide) ?_
        exact retI (v := (-1)) hx hb hr hlk (rfl) hP hD hS () ⟨_, rfl, trivial⟩ [0, 13, 14, 15, 16, 17, 18, 19, 20, 21, 1, 2, 3, 4, 5, 6, 7, 8, 9, 10, 11, 12] rfl rfl dX11_page_30 (Nat.le_of_ble_eq_true rfl) (Nat.le_of_ble_eq_true rfl) rfl
set_option maxHeartbeats 4000000 in
set_option maxRecDepth 100000 in
theorem ct_fX10_takeNumber (l : Launch) (D : va_G) (tc : Nat → ClassId) (sk : (Nat → Nat) × (Nat → Nat)) (Ta : Nat → Nat) (Tv : Nat → Int32) (Tf : Nat → Nat → Int32) (x1 : Int32) (x2 : Int32) (rr : Except Int (Nat × Nat)) (lo : Int) (hi : Int) (h_tape : 0 ≤ ((Tv 0) : Int32).toInt ∧ ((Tv 0) : Int32).toInt ≤ 400 ∧ 0 ≤ ((Tv 1) : Int32).toInt ∧ ((Tv 1) : Int32).toInt ≤ 400 ∧ 0 ≤ ((Tv 2) : Int32).toInt ∧ ((Tv 2) : Int32).toInt ≤ 400) (h_by : Byt (Tf 1)) (h_r : TpR (Tf 1) (Tv 0) rr (Tv 1) (Tv 2) (Tv 3) (Tv 4)) (h_lo : x1.toInt = lo) (h_hi : x2.toInt = hi) : Ct l yX10_takeNumber cX10_takeNumber 4 (some .int) { frames := 2, cells := 0, slots := 0, locals := 45 } D tc sk [.ref (Ta 0), .int x1, .int x2] [((Ta 0), .inr (10, [.ref (Ta 1), .int (Tv 0), .int (Tv 1), .int (Tv 2), .int (Tv 3), .int (Tv 4)])), ((Ta 1), .inl (tc 0, 400, .inl (Tf 1)))] (fun (v : Option Value) (u : (Int32) × (Int32) × (Int32) × (Int32)) => match u with | (oo0x1, oo0x2, oo0x3, oo0x4) => ∃ r : Int32, v = some (.int r) ∧ (NuV (cB (Tf 1) (Tv 0)) lo hi rr r) ∧ (0 ≤ ((Tv 0) : Int32).toInt ∧ ((Tv 0) : Int32).toInt ≤ 400 ∧ 0 ≤ (oo0x1 : Int32).toInt ∧ (oo0x1 : Int32).toInt ≤ 400 ∧ 0 ≤ (oo0x2 : Int32).toInt ∧ (oo0x2 : Int32).toInt ≤ 400) ∧ (TpR (Tf 1) (Tv 0) (rNX (cB (Tf 1) (Tv 0)) (rNU (cB (Tf 1) (Tv 0)) lo hi rr)) oo0x1 oo0x2 oo0x3 oo0x4)) (fun (u : (Int32) × (Int32) × (Int32) × (Int32)) => match u with | (oo0x1, oo0x2, oo0x3, oo0x4) => [((Ta 0), .inr (10, [.ref (Ta 1), .int (Tv 0), .int oo0x1, .int oo0x2, .int oo0x3, .int oo0x4])), ((Ta 1), .inl (tc 0, 400, .inl (Tf 1)))]) 0 0 := by
  refine Ct.start (by decide) (Nat.le_of_ble_eq_true rfl) (fun p e s m below meth c A ls hx hb hr hlk hin hml hown hts hK hX hP hD hA hl hS => ?_)
  have hl : lv_has ls 4 [(0, .ref (Ta 0)), (1, .int x1), (2, .int x2)] := hl
  have tb_1 : TpB (rTE (cB (Tf 1) (Tv 0)) rr) (Tv 2) (Tv 4) := TpR.tb h_r
  refine lv_aload_n hx hb dX10_takeNumber_0 rfl (lv_at hl 0 rfl) ?_
  refine lv_iload_n hx hb dX10_takeNumber_1 rfl (lv_at hl 1 rfl) ?_
  refine lv_iload_n hx hb dX10_takeNumber_2 rfl (lv_at hl 2 rfl) ?_
  refine cV (a := (Ta 0)) (As := [.int x1, .int x2]) (rest := []) (wr := []) ⟨hx, hb, hml, hown, hts⟩ hK hX hA (cu_fX10_numberHere l D tc sk (Ta 0) (Ta 1) (Tv 0) (Tv 1) (Tv 2) (Tv 3) (Tv 4) (Tf 1) x1 x2 rr lo hi h_tape h_by h_r h_lo h_hi) k_570 k_567 k_568 k_569 k_96 pl_X10_numberHere ⟨Nat.le_of_ble_eq_true rfl, Nat.le_of_ble_eq_true rfl⟩ rfl rfl (va_recv hK hP (ci := 10) (q0 := 0) rfl rfl) hP hD hS [0, 1] [] rfl rfl rfl rfl rfl (by decide) rfl hl.1 rfl (Nat.le_of_ble_eq_true rfl) dX10_takeNumber_3 ⟨Nat.le_of_ble_eq_true rfl, Nat.le_of_ble_eq_true rfl⟩ (fun v_2 u_3 H locs hv_4 hP₀ hD₀ hS₀ => ?_)
  obtain ⟨sv_5, sv_6⟩ := u_3
  obtain ⟨r_9, rfl, he_10, pf_7, pf_8⟩ := hv_4
  have he_10 : NuV (cB (Tf 1) (Tv 0)) lo hi rr r_9 := he_10
  have pf_7 : 0 ≤ ((Tv 0) : Int32).toInt ∧ ((Tv 0) : Int32).toInt ≤ 400 ∧ 0 ≤ ((Tv 1) : Int32).toInt ∧ ((Tv 1) : Int32).toInt ≤ 400 ∧ 0 ≤ ((Tv 2) : Int32).toInt ∧ ((Tv 2) : Int32).toInt ≤ 400 := pf_7
  have pf_8 : TpR (Tf 1) (Tv 0) (rNU (cB (Tf 1) (Tv 0)) lo hi rr) (Tv 1) (Tv 2) sv_5 sv_6 := pf_8
  obtain ⟨ro_12, ero_12⟩ : ∃ z : Except Int (Nat × Nat), z = (rNU (cB (Tf 1) (Tv 0)) lo hi rr) := ⟨_, rfl⟩
  rw [← ero_12] at pf_8
  have tb_13 : TpB (rTE (cB (Tf 1) (Tv 0)) ro_12) (Tv 2) sv_6 := TpR.tb pf_8
  refine W.eq (g2 := F0 m 6 ls [.int r_9]) rfl ?_
  replace hP : va_P D classes [((Ta 0), .inr (10, [.ref (Ta 1), .int (Tv 0), .int (Tv 1), .int (Tv 2), .int sv_5, .int sv_6])), ((Ta 1), .inl (tc 0, 400, .inl (Tf 1)))] H := hP₀
  replace hD : va_D A [((Ta 0), .inr (10, [.ref (Ta 1), .int (Tv 0), .int (Tv 1), .int (Tv 2), .int sv_5, .int sv_6])), ((Ta 1), .inl (tc 0, 400, .inl (Tf 1)))] := hD₀
  replace hS := hS₀
  clear hP₀ hD₀ hS₀
  refine lv_istore_n (lv' := [(3, .int r_9), (0, .ref (Ta 0)), (1, .int x1), (2, .int x2)]) hx hb dX10_takeNumber_6 rfl hl (by decide) rfl (fun ls hl₀ => ?_)
  replace hl := hl₀
  clear hl₀
  refine lv_aload_n hx hb dX10_takeNumber_7 rfl (lv_at hl 1 rfl) ?_
  refine cV (a := (Ta 0)) (As := []) (rest := []) (wr := []) ⟨hx, hb, hml, hown, hts⟩ hK hX hA (cu_fX10_step l D tc sk (Ta 0) (Ta 1) (Tv 0) (Tv 1) (Tv 2) sv_5 sv_6 (Tf 1) (rTE (cB (Tf 1) (Tv 0)) ro_12) pf_7 h_by tb_13) k_478 k_475 k_476 k_477 k_96 pl_X10_step ⟨Nat.le_of_ble_eq_true rfl, Nat.le_of_ble_eq_true rfl⟩ rfl rfl (va_recv hK hP (ci := 10) (q0 := 0) rfl rfl) hP hD hS [0, 1] [] rfl rfl rfl rfl rfl (by decide) rfl hl.1 rfl (Nat.le_of_ble_eq_true rfl) dX10_takeNumber_8 ⟨Nat.le_of_ble_eq_true rfl, Nat.le_of_ble_eq_true rfl⟩ (fun v_14 u_15 H locs hv_16 hP₀ hD₀ hS₀ => ?_)
  obtain ⟨sv_17, sv_18, sv_19⟩ := u_15
  obtain ⟨rfl, pf_20, pf_21⟩ := hv_16
  have pf_20 : 0 ≤ ((Tv 0) : Int32).toInt ∧ ((Tv 0) : Int32).toInt ≤ 400 ∧ 0 ≤ (sv_17 : Int32).toInt ∧ (sv_17 : Int32).toInt ≤ 400 ∧ 0 ≤ (sv_18 : Int32).toInt ∧ (sv_18 : Int32).toInt ≤ 400 := pf_20
  have pf_21 : TpR (Tf 1) (Tv 0) (rSK (cB (Tf 1) (Tv 0)) (rTE (cB (Tf 1) (Tv 0)) ro_12)) sv_17 sv_18 sv_19 sv_6 := pf_21
  rw [rNX_eq] at pf_21
  obtain ⟨ro_22, ero_22⟩ : ∃ z : Except Int (Nat × Nat), z = (rNX (cB (Tf 1) (Tv 0)) ro_12) := ⟨_, rfl⟩
  rw [← ero_22] at pf_21
  have tb_23 : TpB (rTE (cB (Tf 1) (Tv 0)) ro_22) sv_18 sv_6 := TpR.tb pf_21
  refine W.eq (g2 := F0 m 11 ls []) rfl ?_
  replace hP : va_P D classes [((Ta 0), .inr (10, [.ref (Ta 1), .int (Tv 0), .int sv_17, .int sv_18, .int sv_19, .int sv_6])), ((Ta 1), .inl (tc 0, 400, .inl (Tf 1)))] H := hP₀
  replace hD : va_D A [((Ta 0), .inr (10, [.ref (Ta 1), .int (Tv 0), .int sv_17, .int sv_18, .int sv_19, .int sv_6])), ((Ta 1), .inl (tc 0, 400, .inl (Tf 1)))] := hD₀
  replace hS := hS₀
  clear hP₀ hD₀ hS₀
  refine lv_iload_n hx hb dX10_takeNumber_11 rfl (lv_at hl 0 rfl) ?_
  have hf_24 : TpR (Tf 1) (Tv 0) (rNX (cB (Tf 1) (Tv 0)) (rNU (cB (Tf 1) (Tv 0)) lo hi rr)) sv_17 sv_18 sv_19 sv_6 := by
    have hE_25 : (rNX (cB (Tf 1) (Tv 0)) (rNU (cB (Tf 1) (Tv 0)) lo hi rr)) = ro_22 := by
      rw [ero_22, ero_12]
    rw [hE_25]
    exact pf_21
  exact retI (v := r_9) hx hb hr hlk (rfl) hP hD hS (sv_17, sv_18, sv_19, sv_6) ⟨_, rfl, he_10, pf_20, hf_24⟩ [0, 1] rfl rfl dX10_takeNumber_12 (Nat.le_of_ble_eq_true rfl) (Nat.le_of_ble_eq_true rfl) rfl
set_option maxRecDepth 100000 in
theorem cu_fX10_takeNumber (l : Launch) (D : va_G) (tc : Nat → ClassId) (sk : (Nat → Nat) × (Nat → Nat)) (Ta_0 : Nat) (Ta_1 : Nat) (Tv_0 : Int32) (Tv_1 : Int32) (Tv_2 : Int32) (Tv_3 : Int32) (Tv_4 : Int32) (Tf_1 : Nat → Int32) (x1 : Int32) (x2 : Int32) (rr : Except Int (Nat × Nat)) (lo : Int) (hi : Int) (h_tape : 0 ≤ (Tv_0 : Int32).toInt ∧ (Tv_0 : Int32).toInt ≤ 400 ∧ 0 ≤ (Tv_1 : Int32).toInt ∧ (Tv_1 : Int32).toInt ≤ 400 ∧ 0 ≤ (Tv_2 : Int32).toInt ∧ (Tv_2 : Int32).toInt ≤ 400) (h_by : Byt Tf_1) (h_r : TpR Tf_1 Tv_0 rr Tv_1 Tv_2 Tv_3 Tv_4) (h_lo : x1.toInt = lo) (h_hi : x2.toInt = hi) : Ct l yX10_takeNumber cX10_takeNumber 4 (some .int) { frames := 2, cells := 0, slots := 0, locals := 45 } D tc sk [.ref Ta_0, .int x1, .int x2] [(Ta_0, .inr (10, [.ref Ta_1, .int Tv_0, .int Tv_1, .int Tv_2, .int Tv_3, .int Tv_4])), (Ta_1, .inl (tc 0, 400, .inl Tf_1))] (fun (v : Option Value) (u : (Int32) × (Int32) × (Int32) × (Int32)) => match u with | (oo0x1, oo0x2, oo0x3, oo0x4) => ∃ r : Int32, v = some (.int r) ∧ (NuV (cB Tf_1 Tv_0) lo hi rr r) ∧ (0 ≤ (Tv_0 : Int32).toInt ∧ (Tv_0 : Int32).toInt ≤ 400 ∧ 0 ≤ (oo0x1 : Int32).toInt ∧ (oo0x1 : Int32).toInt ≤ 400 ∧ 0 ≤ (oo0x2 : Int32).toInt ∧ (oo0x2 : Int32).toInt ≤ 400) ∧ (TpR Tf_1 Tv_0 (rNX (cB Tf_1 Tv_0) (rNU (cB Tf_1 Tv_0) lo hi rr)) oo0x1 oo0x2 oo0x3 oo0x4)) (fun (u : (Int32) × (Int32) × (Int32) × (Int32)) => match u with | (oo0x1, oo0x2, oo0x3, oo0x4) => [(Ta_0, .inr (10, [.ref Ta_1, .int Tv_0, .int oo0x1, .int oo0x2, .int oo0x3, .int oo0x4])), (Ta_1, .inl (tc 0, 400, .inl Tf_1))]) 0 0 :=
  ct_fX10_takeNumber l D tc sk (fun k => ([Ta_0, Ta_1] : List (Nat)).getD k 0) (fun k => ([Tv_0, Tv_1, Tv_2, Tv_3, Tv_4] : List (Int32)).getD k 0) (fun k => ([(fun _ => 0), Tf_1] : List (Nat → Int32)).getD k (fun _ => 0)) x1 x2 rr lo hi h_tape h_by h_r h_lo h_hi
theorem bz_rg (v : Int32) (n : Nat) : 0 ≤ bz v n ∧ bz v n ≤ 255 := by
  unfold bz; rw [and255]; omega
theorem bz_c {v x y : Int32} {n : Nat} (e1 : x = (v.toUInt32 >>> ((nI n).toUInt32 &&& Int32.toUInt32 31)).toInt32) (e2 : y = x &&& 255) : y.toInt % 256 = bz v n ∧ 0 ≤ y.toInt ∧ y.toInt ≤ 255 := by
  have h := bz_rg v n
  have e : y.toInt = bz v n := by rw [e2, e1]; rfl
  omega
theorem Byt.up {f g : Nat → Int32} {i x : Int32} (h : Byt f) (e : g = upd f i.toNatClampNeg x) (hx : 0 ≤ x.toInt ∧ x.toInt ≤ 255) : Byt g := fun k => by
  by_cases z : k = i.toNatClampNeg
  · rw [e, z, upd_at]; exact hx
  · rw [e, upd_ne z]; exact h k
set_option maxHeartbeats 4000000 in
set_option maxRecDepth 100000 in
theorem ct_fX10_hasRoom (l : Launch) (D : va_G) (tc : Nat → ClassId) (sk : (Nat → Nat) × (Nat → Nat)) (Ta : Nat → Nat) (Tv : Nat → Int32) (Tf : Nat → Nat → Int32) (h_tape : 0 ≤ ((Tv 0) : Int32).toInt ∧ ((Tv 0) : Int32).toInt ≤ 400 ∧ 0 ≤ ((Tv 1) : Int32).toInt ∧ ((Tv 1) : Int32).toInt ≤ 400 ∧ 0 ≤ ((Tv 2) : Int32).toInt ∧ ((Tv 2) : Int32).toInt ≤ 400) : Ct l yX10_hasRoom cX10_hasRoom 1 (some .boolean) { frames := 0, cells := 0, slots := 0, locals := 0 } D tc sk [.ref (Ta 0)] [((Ta 0), .inr (10, [.ref (Ta 1), .int (Tv 0), .int (Tv 1), .int (Tv 2), .int (Tv 3), .int (Tv 4)])), ((Ta 1), .inl (tc 0, 400, .inl (Tf 1)))] (fun (v : Option Value) (_ : Unit) => ∃ r : Int32, v = some (.int r) ∧ (((r.toInt = 0 ∧ 380 < (Tv 0).toInt) ∨ (r.toInt = 1 ∧ (Tv 0).toInt ≤ 380)))) (fun (_ : Unit) => [((Ta 0), .inr (10, [.ref (Ta 1), .int (Tv 0), .int (Tv 1), .int (Tv 2), .int (Tv 3), .int (Tv 4)])), ((Ta 1), .inl (tc 0, 400, .inl (Tf 1)))]) 0 0 := by
  refine Ct.start (by decide) (Nat.le_of_ble_eq_true rfl) (fun p e s m below meth c A ls hx hb hr hlk hin hml hown hts hK hX hP hD hA hl hS => ?_)
  have hl : lv_has ls 1 [(0, .ref (Ta 0))] := hl
  refine lv_aload_n hx hb dX10_hasRoom_0 rfl (lv_at hl 0 rfl) ?_
  refine gf_X10_15 hx hb hts hown hK hP 0 rfl rfl dX10_hasRoom_1 ?_
  refine lv_bipush (v := 20) hx hb dX10_hasRoom_4 (by decide) ?_
  refine lv_iadd hx hb dX10_hasRoom_6 ?_
  refine lv_topi (fun x_1 ex_1 => ?_)
  refine lv_aload_n hx hb dX10_hasRoom_7 rfl (lv_at hl 0 rfl) ?_
  refine gf_X10_9 hx hb hts hown hK hP 0 rfl rfl dX10_hasRoom_8 ?_
  refine va_alen hx hb hK hP 1 0 rfl rfl (v := 400) rfl dX10_hasRoom_11 ?_
  refine lv_icmp_gt (tgt := 19) hx hb dX10_hasRoom_12 (by decide) (fun c_2 => ?_) (fun c_2 => ?_)
  · skip
    refine lv_iconst (v := 0) hx hb dX10_hasRoom_19 (by decide) ?_
    have hp_3 : (((0 : Int32).toInt = 0 ∧ 380 < (Tv 0).toInt) ∨ ((0 : Int32).toInt = 1 ∧ (Tv 0).toInt ≤ 380)) := by
      have z_1 := Int32.lt_iff_toInt_lt.mp c_2
      have y_400 : (400 : Int32).toInt = 400 := by decide
      have y_0 : (0 : Int32).toInt = 0 := by decide
      have y_20 : (20 : Int32).toInt = 20 := by decide
      have t_x_1 : x_1.toInt = ((Tv 0) : Int32).toInt + (20 : Int32).toInt := by rw [ex_1]; exact add_toInt (by omega) (by omega)
      have yr : (0 : Int32).toInt = 0 := by decide
      omega
    exact retI (v := 0) hx hb hr hlk (rfl) hP hD hS () ⟨_, rfl, hp_3⟩ [0, 1] rfl rfl dX10_hasRoom_20 (Nat.le_of_ble_eq_true rfl) (Nat.le_of_ble_eq_true rfl) rfl
  · skip
    refine lv_iconst (v := 1) hx hb dX10_hasRoom_15 (by decide) ?_
    refine lv_goto (tgt := 20) hx hb dX10_hasRoom_16 (by decide) ?_
    have hp_4 : (((1 : Int32).toInt = 0 ∧ 380 < (Tv 0).toInt) ∨ ((1 : Int32).toInt = 1 ∧ (Tv 0).toInt ≤ 380)) := by
      have z_1 := Int32.le_iff_toInt_le.mp (Int32.not_lt.mp c_2)
      have y_400 : (400 : Int32).toInt = 400 := by decide
      have y_1 : (1 : Int32).toInt = 1 := by decide
      have y_20 : (20 : Int32).toInt = 20 := by decide
      have t_x_1 : x_1.toInt = ((Tv 0) : Int32).toInt + (20 : Int32).toInt := by rw [ex_1]; exact add_toInt (by omega) (by omega)
      have yr : (1 : Int32).toInt = 1 := by decide
      omega
    exact retI (v := 1) hx hb hr hlk (rfl) hP hD hS () ⟨_, rfl, hp_4⟩ [0, 1] rfl rfl dX10_hasRoom_20 (Nat.le_of_ble_eq_true rfl) (Nat.le_of_ble_eq_true rfl) rfl
set_option maxRecDepth 100000 in
theorem cu_fX10_hasRoom (l : Launch) (D : va_G) (tc : Nat → ClassId) (sk : (Nat → Nat) × (Nat → Nat)) (Ta_0 : Nat) (Ta_1 : Nat) (Tv_0 : Int32) (Tv_1 : Int32) (Tv_2 : Int32) (Tv_3 : Int32) (Tv_4 : Int32) (Tf_1 : Nat → Int32) (h_tape : 0 ≤ (Tv_0 : Int32).toInt ∧ (Tv_0 : Int32).toInt ≤ 400 ∧ 0 ≤ (Tv_1 : Int32).toInt ∧ (Tv_1 : Int32).toInt ≤ 400 ∧ 0 ≤ (Tv_2 : Int32).toInt ∧ (Tv_2 : Int32).toInt ≤ 400) : Ct l yX10_hasRoom cX10_hasRoom 1 (some .boolean) { frames := 0, cells := 0, slots := 0, locals := 0 } D tc sk [.ref Ta_0] [(Ta_0, .inr (10, [.ref Ta_1, .int Tv_0, .int Tv_1, .int Tv_2, .int Tv_3, .int Tv_4])), (Ta_1, .inl (tc 0, 400, .inl Tf_1))] (fun (v : Option Value) (_ : Unit) => ∃ r : Int32, v = some (.int r) ∧ (((r.toInt = 0 ∧ 380 < Tv_0.toInt) ∨ (r.toInt = 1 ∧ Tv_0.toInt ≤ 380)))) (fun (_ : Unit) => [(Ta_0, .inr (10, [.ref Ta_1, .int Tv_0, .int Tv_1, .int Tv_2, .int Tv_3, .int Tv_4])), (Ta_1, .inl (tc 0, 400, .inl Tf_1))]) 0 0 :=
  ct_fX10_hasRoom l D tc sk (fun k => ([Ta_0, Ta_1] : List (Nat)).getD k 0) (fun k => ([Tv_0, Tv_1, Tv_2, Tv_3, Tv_4] : List (Int32)).getD k 0) (fun k => ([(fun _ => 0), Tf_1] : List (Nat → Int32)).getD k (fun _ => 0)) h_tape
set_option maxHeartbeats 4000000 in
set_option maxRecDepth 100000 in
theorem ct_fX10_add (l : Launch) (D : va_G) (tc : Nat → ClassId) (sk : (Nat → Nat) × (Nat → Nat)) (Ta : Nat → Nat) (Tv : Nat → Int32) (Tf : Nat → Nat → Int32) (x1 : Int32) (h_tape : 0 ≤ ((Tv 0) : Int32).toInt ∧ ((Tv 0) : Int32).toInt ≤ 400 ∧ 0 ≤ ((Tv 1) : Int32).toInt ∧ ((Tv 1) : Int32).toInt ≤ 400 ∧ 0 ≤ ((Tv 2) : Int32).toInt ∧ ((Tv 2) : Int32).toInt ≤ 400) (h_by : Byt (Tf 1)) (hroom : (Tv 0).toInt ≤ 396) : Ct l yX10_add cX10_add 3 none { frames := 0, cells := 0, slots := 0, locals := 0 } D tc sk [.ref (Ta 0), .int x1] [((Ta 0), .inr (10, [.ref (Ta 1), .int (Tv 0), .int (Tv 1), .int (Tv 2), .int (Tv 3), .int (Tv 4)])), ((Ta 1), .inl (tc 0, 400, .inl (Tf 1)))] (fun (v : Option Value) (u : (Int32) × (Nat → Int32)) => match u with | (oo0x1, oo0x2) => v = none ∧ (0 ≤ (oo0x1 : Int32).toInt ∧ (oo0x1 : Int32).toInt ≤ 400 ∧ 0 ≤ ((Tv 1) : Int32).toInt ∧ ((Tv 1) : Int32).toInt ≤ 400 ∧ 0 ≤ ((Tv 2) : Int32).toInt ∧ ((Tv 2) : Int32).toInt ≤ 400) ∧ ((oo0x1 : Int32).toInt = (Tv 0).toInt + 4) ∧ (Byt oo0x2) ∧ (FdB (Tf 1) oo0x2 (Tv 0) oo0x1 x1)) (fun (u : (Int32) × (Nat → Int32)) => match u with | (oo0x1, oo0x2) => [((Ta 0), .inr (10, [.ref (Ta 1), .int oo0x1, .int (Tv 1), .int (Tv 2), .int (Tv 3), .int (Tv 4)])), ((Ta 1), .inl (tc 0, 400, .inl oo0x2))]) 0 0 := by
  refine Ct.start (by decide) (Nat.le_of_ble_eq_true rfl) (fun p e s m below meth c A ls hx hb hr hlk hin hml hown hts hK hX hP hD hA hl hS => ?_)
  have hl : lv_has ls 3 [(0, .ref (Ta 0)), (1, .int x1)] := hl
  refine lv_bipush (v := 24) hx hb dX10_add_0 (by decide) ?_
  refine lv_istore_n (lv' := [(2, .int 24), (0, .ref (Ta 0)), (1, .int x1)]) hx hb dX10_add_2 rfl hl (by decide) rfl (fun ls hl₀ => ?_)
  replace hl := hl₀
  clear hl₀
  refine lv_iload_n hx hb dX10_add_3 rfl (lv_at hl 0 rfl) ?_
  refine lv_if_lt (tgt := 58) hx hb dX10_add_4 (by decide) (fun c_1 => absurd c_1 (by decide)) (fun c_1 => ?_)
  refine lv_aload_n hx hb dX10_add_7 rfl (lv_at hl 1 rfl) ?_
  refine gf_X10_15 hx hb hts hown hK hP 0 rfl rfl dX10_add_8 ?_
  refine lv_if_lt (tgt := 52) hx hb dX10_add_11 (by decide) (fun c_2 => ?_) (fun c_2 => ?_)
  · skip
    exfalso
    have z_1 := Int32.lt_iff_toInt_lt.mp c_2
    have y_0 : (0 : Int32).toInt = 0 := by decide
    omega
  · skip
    refine lv_aload_n hx hb dX10_add_14 rfl (lv_at hl 1 rfl) ?_
    refine gf_X10_15 hx hb hts hown hK hP 0 rfl rfl dX10_add_15 ?_
    refine lv_aload_n hx hb dX10_add_18 rfl (lv_at hl 1 rfl) ?_
    refine gf_X10_9 hx hb hts hown hK hP 0 rfl rfl dX10_add_19 ?_
    refine va_alen hx hb hK hP 1 0 rfl rfl (v := 400) rfl dX10_add_22 ?_
    refine lv_icmp_ge (tgt := 52) hx hb dX10_add_23 (by decide) (fun c_3 => ?_) (fun c_3 => ?_)
    · skip
      exfalso
      have z_1 := Int32.le_iff_toInt_le.mp (Int32.not_lt.mp c_2)
      have z_2 := Int32.le_iff_toInt_le.mp c_3
      have y_0 : (0 : Int32).toInt = 0 := by decide
      have y_400 : (400 : Int32).toInt = 400 := by decide
      omega
    · skip
      refine lv_aload_n hx hb dX10_add_26 rfl (lv_at hl 1 rfl) ?_
      refine gf_X10_9 hx hb hts hown hK hP 0 rfl rfl dX10_add_27 ?_
      refine lv_aload_n hx hb dX10_add_30 rfl (lv_at hl 1 rfl) ?_
      refine gf_X10_15 hx hb hts hown hK hP 0 rfl rfl dX10_add_31 ?_
      refine lv_iload_n hx hb dX10_add_34 rfl (lv_at hl 2 rfl) ?_
      refine lv_iload_n hx hb dX10_add_35 rfl (lv_at hl 0 rfl) ?_
      obtain ⟨x_4, ex_4⟩ : ∃ y : Int32, y = ((x1 : Int32).toUInt32 >>> ((24 : Int32).toUInt32 &&& Int32.toUInt32 31)).toInt32 := ⟨_, rfl⟩
      refine lv_iushr (v := x_4) hx hb dX10_add_36 ex_4.symm ?_
      refine lv_sipush (v := 255) hx hb dX10_add_37 (by decide) ?_
      refine lv_iand hx hb dX10_add_40 ?_
      refine lv_topi (fun x_5 ex_5 => ?_)
      have hi_6 : vp_in (Tv 0) 400 := by
        have z_1 := Int32.le_iff_toInt_le.mp (Int32.not_lt.mp c_2)
        have z_2 := Int32.lt_iff_toInt_lt.mp (Int32.not_le.mp c_3)
        have y_0 : (0 : Int32).toInt = 0 := by decide
        have y_400 : (400 : Int32).toInt = 400 := by decide
        refine vp_in_iff.mpr ⟨?_, ?_⟩ <;> omega
      refine st_int hx hb hK hP hD hS 1 0 rfl rfl hi_6 dX10_add_41 (fun g_7 H locs eg_7 hP₀ hD₀ hS₀ => ?_)
      replace hP : va_P D classes [((Ta 0), .inr (10, [.ref (Ta 1), .int (Tv 0), .int (Tv 1), .int (Tv 2), .int (Tv 3), .int (Tv 4)])), ((Ta 1), .inl (tc 0, 400, .inl g_7))] H := hP₀
      replace hD : va_D A [((Ta 0), .inr (10, [.ref (Ta 1), .int (Tv 0), .int (Tv 1), .int (Tv 2), .int (Tv 3), .int (Tv 4)])), ((Ta 1), .inl (tc 0, 400, .inl g_7))] := hD₀
      replace hS := hS₀
      clear hP₀ hD₀ hS₀
      have hz_8 := bz_c (v := x1) (n := 24) ex_4 ex_5
      have pf_9 : Byt g_7 := Byt.up h_by eg_7 hz_8.2
      refine lv_aload_n hx hb dX10_add_42 rfl (lv_at hl 1 rfl) ?_
      refine lv_dup hx hb dX10_add_43 rfl ?_
      refine gf_X10_15 hx hb hts hown hK hP 0 rfl rfl dX10_add_44 ?_
      refine lv_iconst (v := 1) hx hb dX10_add_47 (by decide) ?_
      refine lv_iadd hx hb dX10_add_48 ?_
      refine lv_topi (fun x_10 ex_10 => ?_)
      refine pf_X10_15 hx hb hts hown hK hP hD hS 0 rfl (Nat.le_of_ble_eq_true rfl) rfl rfl dX10_add_49 (fun H locs hP₀ hD₀ hS₀ => ?_)
      replace hP : va_P D classes [((Ta 0), .inr (10, [.ref (Ta 1), .int x_10, .int (Tv 1), .int (Tv 2), .int (Tv 3), .int (Tv 4)])), ((Ta 1), .inl (tc 0, 400, .inl g_7))] H := hP₀
      replace hD : va_D A [((Ta 0), .inr (10, [.ref (Ta 1), .int x_10, .int (Tv 1), .int (Tv 2), .int (Tv 3), .int (Tv 4)])), ((Ta 1), .inl (tc 0, 400, .inl g_7))] := hD₀
      replace hS := hS₀
      clear hP₀ hD₀ hS₀
      have tp_x_10 : (x_10 : Int32).toInt = ((Tv 0) : Int32).toInt + 1 := by
        have z_1 := Int32.le_iff_toInt_le.mp (Int32.not_lt.mp c_2)
        have z_2 := Int32.lt_iff_toInt_lt.mp (Int32.not_le.mp c_3)
        have y_0 : (0 : Int32).toInt = 0 := by decide
        have y_400 : (400 : Int32).toInt = 400 := by decide
        have y_1 : (1 : Int32).toInt = 1 := by decide
        have t_x_10 : x_10.toInt = ((Tv 0) : Int32).toInt + (1 : Int32).toInt := by rw [ex_10]; exact add_toInt (by omega) (by omega)
        omega
      refine lv_iinc (v := 16) (lv' := [(2, .int 16), (0, .ref (Ta 0)), (1, .int x1)]) hx hb dX10_add_52 hl (k := 0) rfl (by decide) (by decide) rfl (fun ls hl₀ => ?_)
      replace hl := hl₀
      clear hl₀
      refine lv_goto (tgt := 3) hx hb dX10_add_55 (by decide) ?_
      refine lv_iload_n hx hb dX10_add_3 rfl (lv_at hl 0 rfl) ?_
      refine lv_if_lt (tgt := 58) hx hb dX10_add_4 (by decide) (fun c_11 => absurd c_11 (by decide)) (fun c_11 => ?_)
      refine lv_aload_n hx hb dX10_add_7 rfl (lv_at hl 1 rfl) ?_
      refine gf_X10_15 hx hb hts hown hK hP 0 rfl rfl dX10_add_8 ?_
      refine lv_if_lt (tgt := 52) hx hb dX10_add_11 (by decide) (fun c_12 => ?_) (fun c_12 => ?_)
      · skip
        exfalso
        have z_1 := Int32.le_iff_toInt_le.mp (Int32.not_lt.mp c_2)
        have z_2 := Int32.lt_iff_toInt_lt.mp (Int32.not_le.mp c_3)
        have z_3 := Int32.lt_iff_toInt_lt.mp c_12
        have y_0 : (0 : Int32).toInt = 0 := by decide
        have y_400 : (400 : Int32).toInt = 400 := by decide
        have y_1 : (1 : Int32).toInt = 1 := by decide
        have t_x_10 : x_10.toInt = ((Tv 0) : Int32).toInt + (1 : Int32).toInt := by rw [ex_10]; exact add_toInt (by omega) (by omega)
        omega
      · skip
        refine lv_aload_n hx hb dX10_add_14 rfl (lv_at hl 1 rfl) ?_
        refine gf_X10_15 hx hb hts hown hK hP 0 rfl rfl dX10_add_15 ?_
        refine lv_aload_n hx hb dX10_add_18 rfl (lv_at hl 1 rfl) ?_
        refine gf_X10_9 hx hb hts hown hK hP 0 rfl rfl dX10_add_19 ?_
        refine va_alen hx hb hK hP 1 0 rfl rfl (v := 400) rfl dX10_add_22 ?_
        refine lv_icmp_ge (tgt := 52) hx hb dX10_add_23 (by decide) (fun c_13 => ?_) (fun c_13 => ?_)
        · skip
          exfalso
          have z_1 := Int32.le_iff_toInt_le.mp (Int32.not_lt.mp c_2)
          have z_2 := Int32.lt_iff_toInt_lt.mp (Int32.not_le.mp c_3)
          have z_3 := Int32.le_iff_toInt_le.mp (Int32.not_lt.mp c_12)
          have z_4 := Int32.le_iff_toInt_le.mp c_13
          have y_0 : (0 : Int32).toInt = 0 := by decide
          have y_400 : (400 : Int32).toInt = 400 := by decide
          have y_1 : (1 : Int32).toInt = 1 := by decide
          have t_x_10 : x_10.toInt = ((Tv 0) : Int32).toInt + (1 : Int32).toInt := by rw [ex_10]; exact add_toInt (by omega) (by omega)
          omega
        · skip
          refine lv_aload_n hx hb dX10_add_26 rfl (lv_at hl 1 rfl) ?_
          refine gf_X10_9 hx hb hts hown hK hP 0 rfl rfl dX10_add_27 ?_
          refine lv_aload_n hx hb dX10_add_30 rfl (lv_at hl 1 rfl) ?_
          refine gf_X10_15 hx hb hts hown hK hP 0 rfl rfl dX10_add_31 ?_
          refine lv_iload_n hx hb dX10_add_34 rfl (lv_at hl 2 rfl) ?_
          refine lv_iload_n hx hb dX10_add_35 rfl (lv_at hl 0 rfl) ?_
          obtain ⟨x_14, ex_14⟩ : ∃ y : Int32, y = ((x1 : Int32).toUInt32 >>> ((16 : Int32).toUInt32 &&& Int32.toUInt32 31)).toInt32 := ⟨_, rfl⟩
          refine lv_iushr (v := x_14) hx hb dX10_add_36 ex_14.symm ?_
          refine lv_sipush (v := 255) hx hb dX10_add_37 (by decide) ?_
          refine lv_iand hx hb dX10_add_40 ?_
          refine lv_topi (fun x_15 ex_15 => ?_)
          have hi_16 : vp_in x_10 400 := by
            have z_1 := Int32.le_iff_toInt_le.mp (Int32.not_lt.mp c_2)
            have z_2 := Int32.lt_iff_toInt_lt.mp (Int32.not_le.mp c_3)
            have z_3 := Int32.le_iff_toInt_le.mp (Int32.not_lt.mp c_12)
            have z_4 := Int32.lt_iff_toInt_lt.mp (Int32.not_le.mp c_13)
            have y_0 : (0 : Int32).toInt = 0 := by decide
            have y_400 : (400 : Int32).toInt = 400 := by decide
            have y_1 : (1 : Int32).toInt = 1 := by decide
            have t_x_10 : x_10.toInt = ((Tv 0) : Int32).toInt + (1 : Int32).toInt := by rw [ex_10]; exact add_toInt (by omega) (by omega)
            refine vp_in_iff.mpr ⟨?_, ?_⟩ <;> omega
          refine st_int hx hb hK hP hD hS 1 0 rfl rfl hi_16 dX10_add_41 (fun g_17 H locs eg_17 hP₀ hD₀ hS₀ => ?_)
          replace hP : va_P D classes [((Ta 0), .inr (10, [.ref (Ta 1), .int x_10, .int (Tv 1), .int (Tv 2), .int (Tv 3), .int (Tv 4)])), ((Ta 1), .inl (tc 0, 400, .inl g_17))] H := hP₀
          replace hD : va_D A [((Ta 0), .inr (10, [.ref (Ta 1), .int x_10, .int (Tv 1), .int (Tv 2), .int (Tv 3), .int (Tv 4)])), ((Ta 1), .inl (tc 0, 400, .inl g_17))] := hD₀
          replace hS := hS₀
          clear hP₀ hD₀ hS₀
          have hz_18 := bz_c (v := x1) (n := 16) ex_14 ex_15
          have pf_19 : Byt g_17 := Byt.up pf_9 eg_17 hz_18.2
          refine lv_aload_n hx hb dX10_add_42 rfl (lv_at hl 1 rfl) ?_
          refine lv_dup hx hb dX10_add_43 rfl ?_
          refine gf_X10_15 hx hb hts hown hK hP 0 rfl rfl dX10_add_44 ?_
          refine lv_iconst (v := 1) hx hb dX10_add_47 (by decide) ?_
          refine lv_iadd hx hb dX10_add_48 ?_
          refine lv_topi (fun x_20 ex_20 => ?_)
          refine pf_X10_15 hx hb hts hown hK hP hD hS 0 rfl (Nat.le_of_ble_eq_true rfl) rfl rfl dX10_add_49 (fun H locs hP₀ hD₀ hS₀ => ?_)
          replace hP : va_P D classes [((Ta 0), .inr (10, [.ref (Ta 1), .int x_20, .int (Tv 1), .int (Tv 2), .int (Tv 3), .int (Tv 4)])), ((Ta 1), .inl (tc 0, 400, .inl g_17))] H := hP₀
          replace hD : va_D A [((Ta 0), .inr (10, [.ref (Ta 1), .int x_20, .int (Tv 1), .int (Tv 2), .int (Tv 3), .int (Tv 4)])), ((Ta 1), .inl (tc 0, 400, .inl g_17))] := hD₀
          replace hS := hS₀
          clear hP₀ hD₀ hS₀
          have tp_x_20 : (x_20 : Int32).toInt = (x_10 : Int32).toInt + 1 := by
            have z_1 := Int32.le_iff_toInt_le.mp (Int32.not_lt.mp c_2)
            have z_2 := Int32.lt_iff_toInt_lt.mp (Int32.not_le.mp c_3)
            have z_3 := Int32.le_iff_toInt_le.mp (Int32.not_lt.mp c_12)
            have z_4 := Int32.lt_iff_toInt_lt.mp (Int32.not_le.mp c_13)
            have y_0 : (0 : Int32).toInt = 0 := by decide
            have y_400 : (400 : Int32).toInt = 400 := by decide
            have y_1 : (1 : Int32).toInt = 1 := by decide
            have t_x_10 : x_10.toInt = ((Tv 0) : Int32).toInt + (1 : Int32).toInt := by rw [ex_10]; exact add_toInt (by omega) (by omega)
            have t_x_20 : x_20.toInt = (x_10 : Int32).toInt + (1 : Int32).toInt := by rw [ex_20]; exact add_toInt (by omega) (by omega)
            omega
          refine lv_iinc (v := 8) (lv' := [(2, .int 8), (0, .ref (Ta 0)), (1, .int x1)]) hx hb dX10_add_52 hl (k := 0) rfl (by decide) (by decide) rfl (fun ls hl₀ => ?_)
          replace hl := hl₀
          clear hl₀
          refine lv_goto (tgt := 3) hx hb dX10_add_55 (by decide) ?_
          refine lv_iload_n hx hb dX10_add_3 rfl (lv_at hl 0 rfl) ?_
          refine lv_if_lt (tgt := 58) hx hb dX10_add_4 (by decide) (fun c_21 => absurd c_21 (by decide)) (fun c_21 => ?_)
          refine lv_aload_n hx hb dX10_add_7 rfl (lv_at hl 1 rfl) ?_
          refine gf_X10_15 hx hb hts hown hK hP 0 rfl rfl dX10_add_8 ?_
          refine lv_if_lt (tgt := 52) hx hb dX10_add_11 (by decide) (fun c_22 => ?_) (fun c_22 => ?_)
          · skip
            exfalso
            have z_1 := Int32.le_iff_toInt_le.mp (Int32.not_lt.mp c_2)
            have z_2 := Int32.lt_iff_toInt_lt.mp (Int32.not_le.mp c_3)
            have z_3 := Int32.le_iff_toInt_le.mp (Int32.not_lt.mp c_12)
            have z_4 := Int32.lt_iff_toInt_lt.mp (Int32.not_le.mp c_13)
            have z_5 := Int32.lt_iff_toInt_lt.mp c_22
            have y_0 : (0 : Int32).toInt = 0 := by decide
            have y_400 : (400 : Int32).toInt = 400 := by decide
            have y_1 : (1 : Int32).toInt = 1 := by decide
            have t_x_10 : x_10.toInt = ((Tv 0) : Int32).toInt + (1 : Int32).toInt := by rw [ex_10]; exact add_toInt (by omega) (by omega)
            have t_x_20 : x_20.toInt = (x_10 : Int32).toInt + (1 : Int32).toInt := by rw [ex_20]; exact add_toInt (by omega) (by omega)
            omega
          · skip
            refine lv_aload_n hx hb dX10_add_14 rfl (lv_at hl 1 rfl) ?_
            refine gf_X10_15 hx hb hts hown hK hP 0 rfl rfl dX10_add_15 ?_
            refine lv_aload_n hx hb dX10_add_18 rfl (lv_at hl 1 rfl) ?_
            refine gf_X10_9 hx hb hts hown hK hP 0 rfl rfl dX10_add_19 ?_
            refine va_alen hx hb hK hP 1 0 rfl rfl (v := 400) rfl dX10_add_22 ?_
            refine lv_icmp_ge (tgt := 52) hx hb dX10_add_23 (by decide) (fun c_23 => ?_) (fun c_23 => ?_)
            · skip
              exfalso
              have z_1 := Int32.le_iff_toInt_le.mp (Int32.not_lt.mp c_2)
              have z_2 := Int32.lt_iff_toInt_lt.mp (Int32.not_le.mp c_3)
              have z_3 := Int32.le_iff_toInt_le.mp (Int32.not_lt.mp c_12)
              have z_4 := Int32.lt_iff_toInt_lt.mp (Int32.not_le.mp c_13)
              have z_5 := Int32.le_iff_toInt_le.mp (Int32.not_lt.mp c_22)
              have z_6 := Int32.le_iff_toInt_le.mp c_23
              have y_0 : (0 : Int32).toInt = 0 := by decide
              have y_400 : (400 : Int32).toInt = 400 := by decide
              have y_1 : (1 : Int32).toInt = 1 := by decide
              have t_x_10 : x_10.toInt = ((Tv 0) : Int32).toInt + (1 : Int32).toInt := by rw [ex_10]; exact add_toInt (by omega) (by omega)
              have t_x_20 : x_20.toInt = (x_10 : Int32).toInt + (1 : Int32).toInt := by rw [ex_20]; exact add_toInt (by omega) (by omega)
              omega
            · skip
              refine lv_aload_n hx hb dX10_add_26 rfl (lv_at hl 1 rfl) ?_
              refine gf_X10_9 hx hb hts hown hK hP 0 rfl rfl dX10_add_27 ?_
              refine lv_aload_n hx hb dX10_add_30 rfl (lv_at hl 1 rfl) ?_
              refine gf_X10_15 hx hb hts hown hK hP 0 rfl rfl dX10_add_31 ?_
              refine lv_iload_n hx hb dX10_add_34 rfl (lv_at hl 2 rfl) ?_
              refine lv_iload_n hx hb dX10_add_35 rfl (lv_at hl 0 rfl) ?_
              obtain ⟨x_24, ex_24⟩ : ∃ y : Int32, y = ((x1 : Int32).toUInt32 >>> ((8 : Int32).toUInt32 &&& Int32.toUInt32 31)).toInt32 := ⟨_, rfl⟩
              refine lv_iushr (v := x_24) hx hb dX10_add_36 ex_24.symm ?_
              refine lv_sipush (v := 255) hx hb dX10_add_37 (by decide) ?_
              refine lv_iand hx hb dX10_add_40 ?_
              refine lv_topi (fun x_25 ex_25 => ?_)
              have hi_26 : vp_in x_20 400 := by
                have z_1 := Int32.le_iff_toInt_le.mp (Int32.not_lt.mp c_2)
                have z_2 := Int32.lt_iff_toInt_lt.mp (Int32.not_le.mp c_3)
                have z_3 := Int32.le_iff_toInt_le.mp (Int32.not_lt.mp c_12)
                have z_4 := Int32.lt_iff_toInt_lt.mp (Int32.not_le.mp c_13)
                have z_5 := Int32.le_iff_toInt_le.mp (Int32.not_lt.mp c_22)
                have z_6 := Int32.lt_iff_toInt_lt.mp (Int32.not_le.mp c_23)
                have y_0 : (0 : Int32).toInt = 0 := by decide
                have y_400 : (400 : Int32).toInt = 400 := by decide
                have y_1 : (1 : Int32).toInt = 1 := by decide
                have t_x_10 : x_10.toInt = ((Tv 0) : Int32).toInt + (1 : Int32).toInt := by rw [ex_10]; exact add_toInt (by omega) (by omega)
                have t_x_20 : x_20.toInt = (x_10 : Int32).toInt + (1 : Int32).toInt := by rw [ex_20]; exact add_toInt (by omega) (by omega)
                refine vp_in_iff.mpr ⟨?_, ?_⟩ <;> omega
              refine st_int hx hb hK hP hD hS 1 0 rfl rfl hi_26 dX10_add_41 (fun g_27 H locs eg_27 hP₀ hD₀ hS₀ => ?_)
              replace hP : va_P D classes [((Ta 0), .inr (10, [.ref (Ta 1), .int x_20, .int (Tv 1), .int (Tv 2), .int (Tv 3), .int (Tv 4)])), ((Ta 1), .inl (tc 0, 400, .inl g_27))] H := hP₀
              replace hD : va_D A [((Ta 0), .inr (10, [.ref (Ta 1), .int x_20, .int (Tv 1), .int (Tv 2), .int (Tv 3), .int (Tv 4)])), ((Ta 1), .inl (tc 0, 400, .inl g_27))] := hD₀
              replace hS := hS₀
              clear hP₀ hD₀ hS₀
              have hz_28 := bz_c (v := x1) (n := 8) ex_24 ex_25
              have pf_29 : Byt g_27 := Byt.up pf_19 eg_27 hz_28.2
              refine lv_aload_n hx hb dX10_add_42 rfl (lv_at hl 1 rfl) ?_
              refine lv_dup hx hb dX10_add_43 rfl ?_
              refine gf_X10_15 hx hb hts hown hK hP 0 rfl rfl dX10_add_44 ?_
              refine lv_iconst (v := 1) hx hb dX10_add_47 (by decide) ?_
              refine lv_iadd hx hb dX10_add_48 ?_
              refine lv_topi (fun x_30 ex_30 => ?_)
              refine pf_X10_15 hx hb hts hown hK hP hD hS 0 rfl (Nat.le_of_ble_eq_true rfl) rfl rfl dX10_add_49 (fun H locs hP₀ hD₀ hS₀ => ?_)
              replace hP : va_P D classes [((Ta 0), .inr (10, [.ref (Ta 1), .int x_30, .int (Tv 1), .int (Tv 2), .int (Tv 3), .int (Tv 4)])), ((Ta 1), .inl (tc 0, 400, .inl g_27))] H := hP₀
              replace hD : va_D A [((Ta 0), .inr (10, [.ref (Ta 1), .int x_30, .int (Tv 1), .int (Tv 2), .int (Tv 3), .int (Tv 4)])), ((Ta 1), .inl (tc 0, 400, .inl g_27))] := hD₀
              replace hS := hS₀
              clear hP₀ hD₀ hS₀
              have tp_x_30 : (x_30 : Int32).toInt = (x_20 : Int32).toInt + 1 := by
                have z_1 := Int32.le_iff_toInt_le.mp (Int32.not_lt.mp c_2)
                have z_2 := Int32.lt_iff_toInt_lt.mp (Int32.not_le.mp c_3)
                have z_3 := Int32.le_iff_toInt_le.mp (Int32.not_lt.mp c_12)
                have z_4 := Int32.lt_iff_toInt_lt.mp (Int32.not_le.mp c_13)
                have z_5 := Int32.le_iff_toInt_le.mp (Int32.not_lt.mp c_22)
                have z_6 := Int32.lt_iff_toInt_lt.mp (Int32.not_le.mp c_23)
                have y_0 : (0 : Int32).toInt = 0 := by decide
                have y_400 : (400 : Int32).toInt = 400 := by decide
                have y_1 : (1 : Int32).toInt = 1 := by decide
                have t_x_10 : x_10.toInt = ((Tv 0) : Int32).toInt + (1 : Int32).toInt := by rw [ex_10]; exact add_toInt (by omega) (by omega)
                have t_x_20 : x_20.toInt = (x_10 : Int32).toInt + (1 : Int32).toInt := by rw [ex_20]; exact add_toInt (by omega) (by omega)
                have t_x_30 : x_30.toInt = (x_20 : Int32).toInt + (1 : Int32).toInt := by rw [ex_30]; exact add_toInt (by omega) (by omega)
                omega
              refine lv_iinc (v := 0) (lv' := [(2, .int 0), (0, .ref (Ta 0)), (1, .int x1)]) hx hb dX10_add_52 hl (k := 0) rfl (by decide) (by decide) rfl (fun ls hl₀ => ?_)
              replace hl := hl₀
              clear hl₀
              refine lv_goto (tgt := 3) hx hb dX10_add_55 (by decide) ?_
              refine lv_iload_n hx hb dX10_add_3 rfl (lv_at hl 0 rfl) ?_
              refine lv_if_lt (tgt := 58) hx hb dX10_add_4 (by decide) (fun c_31 => absurd c_31 (by decide)) (fun c_31 => ?_)
              refine lv_aload_n hx hb dX10_add_7 rfl (lv_at hl 1 rfl) ?_
              refine gf_X10_15 hx hb hts hown hK hP 0 rfl rfl dX10_add_8 ?_
              refine lv_if_lt (tgt := 52) hx hb dX10_add_11 (by decide) (fun c_32 => ?_) (fun c_32 => ?_)
              · skip
                exfalso
                have z_1 := Int32.le_iff_toInt_le.mp (Int32.not_lt.mp c_2)
                have z_2 := Int32.lt_iff_toInt_lt.mp (Int32.not_le.mp c_3)
                have z_3 := Int32.le_iff_toInt_le.mp (Int32.not_lt.mp c_12)
                have z_4 := Int32.lt_iff_toInt_lt.mp (Int32.not_le.mp c_13)
                have z_5 := Int32.le_iff_toInt_le.mp (Int32.not_lt.mp c_22)
                have z_6 := Int32.lt_iff_toInt_lt.mp (Int32.not_le.mp c_23)
                have z_7 := Int32.lt_iff_toInt_lt.mp c_32
                have y_0 : (0 : Int32).toInt = 0 := by decide
                have y_400 : (400 : Int32).toInt = 400 := by decide
                have y_1 : (1 : Int32).toInt = 1 := by decide
                have t_x_10 : x_10.toInt = ((Tv 0) : Int32).toInt + (1 : Int32).toInt := by rw [ex_10]; exact add_toInt (by omega) (by omega)
                have t_x_20 : x_20.toInt = (x_10 : Int32).toInt + (1 : Int32).toInt := by rw [ex_20]; exact add_toInt (by omega) (by omega)
                have t_x_30 : x_30.toInt = (x_20 : Int32).toInt + (1 : Int32).toInt := by rw [ex_30]; exact add_toInt (by omega) (by omega)
                omega
              · skip
                refine lv_aload_n hx hb dX10_add_14 rfl (lv_at hl 1 rfl) ?_
                refine gf_X10_15 hx hb hts hown hK hP 0 rfl rfl dX10_add_15 ?_
                refine lv_aload_n hx hb dX10_add_18 rfl (lv_at hl 1 rfl) ?_
                refine gf_X10_9 hx hb hts hown hK hP 0 rfl rfl dX10_add_19 ?_
                refine va_alen hx hb hK hP 1 0 rfl rfl (v := 400) rfl dX10_add_22 ?_
                refine lv_icmp_ge (tgt := 52) hx hb dX10_add_23 (by decide) (fun c_33 => ?_) (fun c_33 => ?_)
                · skip
                  exfalso
                  have z_1 := Int32.le_iff_toInt_le.mp (Int32.not_lt.mp c_2)
                  have z_2 := Int32.lt_iff_toInt_lt.mp (Int32.not_le.mp c_3)
                  have z_3 := Int32.le_iff_toInt_le.mp (Int32.not_lt.mp c_12)
                  have z_4 := Int32.lt_iff_toInt_lt.mp (Int32.not_le.mp c_13)
                  have z_5 := Int32.le_iff_toInt_le.mp (Int32.not_lt.mp c_22)
                  have z_6 := Int32.lt_iff_toInt_lt.mp (Int32.not_le.mp c_23)
                  have z_7 := Int32.le_iff_toInt_le.mp (Int32.not_lt.mp c_32)
                  have z_8 := Int32.le_iff_toInt_le.mp c_33
                  have y_0 : (0 : Int32).toInt = 0 := by decide
                  have y_400 : (400 : Int32).toInt = 400 := by decide
                  have y_1 : (1 : Int32).toInt = 1 := by decide
                  have t_x_10 : x_10.toInt = ((Tv 0) : Int32).toInt + (1 : Int32).toInt := by rw [ex_10]; exact add_toInt (by omega) (by omega)
                  have t_x_20 : x_20.toInt = (x_10 : Int32).toInt + (1 : Int32).toInt := by rw [ex_20]; exact add_toInt (by omega) (by omega)
                  have t_x_30 : x_30.toInt = (x_20 : Int32).toInt + (1 : Int32).toInt := by rw [ex_30]; exact add_toInt (by omega) (by omega)
                  omega
                · skip
                  refine lv_aload_n hx hb dX10_add_26 rfl (lv_at hl 1 rfl) ?_
                  refine gf_X10_9 hx hb hts hown hK hP 0 rfl rfl dX10_add_27 ?_
                  refine lv_aload_n hx hb dX10_add_30 rfl (lv_at hl 1 rfl) ?_
                  refine gf_X10_15 hx hb hts hown hK hP 0 rfl rfl dX10_add_31 ?_
                  refine lv_iload_n hx hb dX10_add_34 rfl (lv_at hl 2 rfl) ?_
                  refine lv_iload_n hx hb dX10_add_35 rfl (lv_at hl 0 rfl) ?_
                  obtain ⟨x_34, ex_34⟩ : ∃ y : Int32, y = ((x1 : Int32).toUInt32 >>> ((0 : Int32).toUInt32 &&& Int32.toUInt32 31)).toInt32 := ⟨_, rfl⟩
                  refine lv_iushr (v := x_34) hx hb dX10_add_36 ex_34.symm ?_
                  refine lv_sipush (v := 255) hx hb dX10_add_37 (by decide) ?_
                  refine lv_iand hx hb dX10_add_40 ?_
                  refine lv_topi (fun x_35 ex_35 => ?_)
                  have hi_36 : vp_in x_30 400 := by
                    have z_1 := Int32.le_iff_toInt_le.mp (Int32.not_lt.mp c_2)
                    have z_2 := Int32.lt_iff_toInt_lt.mp (Int32.not_le.mp c_3)
                    have z_3 := Int32.le_iff_toInt_le.mp (Int32.not_lt.mp c_12)
                    have z_4 := Int32.lt_iff_toInt_lt.mp (Int32.not_le.mp c_13)
                    have z_5 := Int32.le_iff_toInt_le.mp (Int32.not_lt.mp c_22)
                    have z_6 := Int32.lt_iff_toInt_lt.mp (Int32.not_le.mp c_23)
                    have z_7 := Int32.le_iff_toInt_le.mp (Int32.not_lt.mp c_32)
                    have z_8 := Int32.lt_iff_toInt_lt.mp (Int32.not_le.mp c_33)
                    have y_0 : (0 : Int32).toInt = 0 := by decide
                    have y_400 : (400 : Int32).toInt = 400 := by decide
                    have y_1 : (1 : Int32).toInt = 1 := by decide
                    have t_x_10 : x_10.toInt = ((Tv 0) : Int32).toInt + (1 : Int32).toInt := by rw [ex_10]; exact add_toInt (by omega) (by omega)
                    have t_x_20 : x_20.toInt = (x_10 : Int32).toInt + (1 : Int32).toInt := by rw [ex_20]; exact add_toInt (by omega) (by omega)
                    have t_x_30 : x_30.toInt = (x_20 : Int32).toInt + (1 : Int32).toInt := by rw [ex_30]; exact add_toInt (by omega) (by omega)
                    refine vp_in_iff.mpr ⟨?_, ?_⟩ <;> omega
                  refine st_int hx hb hK hP hD hS 1 0 rfl rfl hi_36 dX10_add_41 (fun g_37 H locs eg_37 hP₀ hD₀ hS₀ => ?_)
                  replace hP : va_P D classes [((Ta 0), .inr (10, [.ref (Ta 1), .int x_30, .int (Tv 1), .int (Tv 2), .int (Tv 3), .int (Tv 4)])), ((Ta 1), .inl (tc 0, 400, .inl g_37))] H := hP₀
                  replace hD : va_D A [((Ta 0), .inr (10, [.ref (Ta 1), .int x_30, .int (Tv 1), .int (Tv 2), .int (Tv 3), .int (Tv 4)])), ((Ta 1), .inl (tc 0, 400, .inl g_37))] := hD₀
                  replace hS := hS₀
                  clear hP₀ hD₀ hS₀
                  have hz_38 := bz_c (v := x1) (n := 0) ex_34 ex_35
                  have pf_39 : Byt g_37 := Byt.up pf_29 eg_37 hz_38.2
                  refine lv_aload_n hx hb dX10_add_42 rfl (lv_at hl 1 rfl) ?_
                  refine lv_dup hx hb dX10_add_43 rfl ?_
                  refine gf_X10_15 hx hb hts hown hK hP 0 rfl rfl dX10_add_44 ?_
                  refine lv_iconst (v := 1) hx hb dX10_add_47 (by decide) ?_
                  refine lv_iadd hx hb dX10_add_48 ?_
                  refine lv_topi (fun x_40 ex_40 => ?_)
                  refine pf_X10_15 hx hb hts hown hK hP hD hS 0 rfl (Nat.le_of_ble_eq_true rfl) rfl rfl dX10_add_49 (fun H locs hP₀ hD₀ hS₀ => ?_)
                  replace hP : va_P D classes [((Ta 0), .inr (10, [.ref (Ta 1), .int x_40, .int (Tv 1), .int (Tv 2), .int (Tv 3), .int (Tv 4)])), ((Ta 1), .inl (tc 0, 400, .inl g_37))] H := hP₀
                  replace hD : va_D A [((Ta 0), .inr (10, [.ref (Ta 1), .int x_40, .int (Tv 1), .int (Tv 2), .int (Tv 3), .int (Tv 4)])), ((Ta 1), .inl (tc 0, 400, .inl g_37))] := hD₀
                  replace hS := hS₀
                  clear hP₀ hD₀ hS₀
                  have tp_x_40 : (x_40 : Int32).toInt = (x_30 : Int32).toInt + 1 := by
                    have z_1 := Int32.le_iff_toInt_le.mp (Int32.not_lt.mp c_2)
                    have z_2 := Int32.lt_iff_toInt_lt.mp (Int32.not_le.mp c_3)
                    have z_3 := Int32.le_iff_toInt_le.mp (Int32.not_lt.mp c_12)
                    have z_4 := Int32.lt_iff_toInt_lt.mp (Int32.not_le.mp c_13)
                    have z_5 := Int32.le_iff_toInt_le.mp (Int32.not_lt.mp c_22)
                    have z_6 := Int32.lt_iff_toInt_lt.mp (Int32.not_le.mp c_23)
                    have z_7 := Int32.le_iff_toInt_le.mp (Int32.not_lt.mp c_32)
                    have z_8 := Int32.lt_iff_toInt_lt.mp (Int32.not_le.mp c_33)
                    have y_0 : (0 : Int32).toInt = 0 := by decide
                    have y_400 : (400 : Int32).toInt = 400 := by decide
                    have y_1 : (1 : Int32).toInt = 1 := by decide
                    have t_x_10 : x_10.toInt = ((Tv 0) : Int32).toInt + (1 : Int32).toInt := by rw [ex_10]; exact add_toInt (by omega) (by omega)
                    have t_x_20 : x_20.toInt = (x_10 : Int32).toInt + (1 : Int32).toInt := by rw [ex_20]; exact add_toInt (by omega) (by omega)
                    have t_x_30 : x_30.toInt = (x_20 : Int32).toInt + (1 : Int32).toInt := by rw [ex_30]; exact add_toInt (by omega) (by omega)
                    have t_x_40 : x_40.toInt = (x_30 : Int32).toInt + (1 : Int32).toInt := by rw [ex_40]; exact add_toInt (by omega) (by omega)
                    omega
                  refine lv_iinc (v := (-8)) (lv' := [(2, .int (-8)), (0, .ref (Ta 0)), (1, .int x1)]) hx hb dX10_add_52 hl (k := 0) rfl (by decide) (by decide) rfl (fun ls hl₀ => ?_)
                  replace hl := hl₀
                  clear hl₀
                  refine lv_goto (tgt := 3) hx hb dX10_add_55 (by decide) ?_
                  refine lv_iload_n hx hb dX10_add_3 rfl (lv_at hl 0 rfl) ?_
                  refine lv_if_lt (tgt := 58) hx hb dX10_add_4 (by decide) (fun c_41 => ?_) (fun c_41 => absurd c_41 (by decide))
                  have ha_42 : 0 ≤ (x_40 : Int32).toInt ∧ (x_40 : Int32).toInt ≤ 400 ∧ 0 ≤ ((Tv 1) : Int32).toInt ∧ ((Tv 1) : Int32).toInt ≤ 400 ∧ 0 ≤ ((Tv 2) : Int32).toInt ∧ ((Tv 2) : Int32).toInt ≤ 400 := by
                    have z_1 := Int32.le_iff_toInt_le.mp (Int32.not_lt.mp c_2)
                    have z_2 := Int32.lt_iff_toInt_lt.mp (Int32.not_le.mp c_3)
                    have z_3 := Int32.le_iff_toInt_le.mp (Int32.not_lt.mp c_12)
                    have z_4 := Int32.lt_iff_toInt_lt.mp (Int32.not_le.mp c_13)
                    have z_5 := Int32.le_iff_toInt_le.mp (Int32.not_lt.mp c_22)
                    have z_6 := Int32.lt_iff_toInt_lt.mp (Int32.not_le.mp c_23)
                    have z_7 := Int32.le_iff_toInt_le.mp (Int32.not_lt.mp c_32)
                    have z_8 := Int32.lt_iff_toInt_lt.mp (Int32.not_le.mp c_33)
                    have y_0 : (0 : Int32).toInt = 0 := by decide
                    have y_400 : (400 : Int32).toInt = 400 := by decide
                    have y_1 : (1 : Int32).toInt = 1 := by decide
                    have t_x_10 : x_10.toInt = ((Tv 0) : Int32).toInt + (1 : Int32).toInt := by rw [ex_10]; exact add_toInt (by omega) (by omega)
                    have t_x_20 : x_20.toInt = (x_10 : Int32).toInt + (1 : Int32).toInt := by rw [ex_20]; exact add_toInt (by omega) (by omega)
                    have t_x_30 : x_30.toInt = (x_20 : Int32).toInt + (1 : Int32).toInt := by rw [ex_30]; exact add_toInt (by omega) (by omega)
                    have t_x_40 : x_40.toInt = (x_30 : Int32).toInt + (1 : Int32).toInt := by rw [ex_40]; exact add_toInt (by omega) (by omega)
                    omega
                  have ha_43 : (x_40 : Int32).toInt = (Tv 0).toInt + 4 := by
                    have z_1 := Int32.le_iff_toInt_le.mp (Int32.not_lt.mp c_2)
                    have z_2 := Int32.lt_iff_toInt_lt.mp (Int32.not_le.mp c_3)
                    have z_3 := Int32.le_iff_toInt_le.mp (Int32.not_lt.mp c_12)
                    have z_4 := Int32.lt_iff_toInt_lt.mp (Int32.not_le.mp c_13)
                    have z_5 := Int32.le_iff_toInt_le.mp (Int32.not_lt.mp c_22)
                    have z_6 := Int32.lt_iff_toInt_lt.mp (Int32.not_le.mp c_23)
                    have z_7 := Int32.le_iff_toInt_le.mp (Int32.not_lt.mp c_32)
                    have z_8 := Int32.lt_iff_toInt_lt.mp (Int32.not_le.mp c_33)
                    have y_0 : (0 : Int32).toInt = 0 := by decide
                    have y_400 : (400 : Int32).toInt = 400 := by decide
                    have y_1 : (1 : Int32).toInt = 1 := by decide
                    have t_x_10 : x_10.toInt = ((Tv 0) : Int32).toInt + (1 : Int32).toInt := by rw [ex_10]; exact add_toInt (by omega) (by omega)
                    have t_x_20 : x_20.toInt = (x_10 : Int32).toInt + (1 : Int32).toInt := by rw [ex_20]; exact add_toInt (by omega) (by omega)
                    have t_x_30 : x_30.toInt = (x_20 : Int32).toInt + (1 : Int32).toInt := by rw [ex_30]; exact add_toInt (by omega) (by omega)
                    have t_x_40 : x_40.toInt = (x_30 : Int32).toInt + (1 : Int32).toInt := by rw [ex_40]; exact add_toInt (by omega) (by omega)
                    omega
                  have hr_44 : ((Tv 0) : Int32).toInt = ((Tv 0) : Int32).toInt ∧ (x_10 : Int32).toInt = ((Tv 0) : Int32).toInt + 1 ∧ (x_20 : Int32).toInt = ((Tv 0) : Int32).toInt + 2 ∧ (x_30 : Int32).toInt = ((Tv 0) : Int32).toInt + 3 ∧ (x_40 : Int32).toInt = ((Tv 0) : Int32).toInt + 4 := by
                    have z_1 := Int32.le_iff_toInt_le.mp (Int32.not_lt.mp c_2)
                    have z_2 := Int32.lt_iff_toInt_lt.mp (Int32.not_le.mp c_3)
                    have z_3 := Int32.le_iff_toInt_le.mp (Int32.not_lt.mp c_12)
                    have z_4 := Int32.lt_iff_toInt_lt.mp (Int32.not_le.mp c_13)
                    have z_5 := Int32.le_iff_toInt_le.mp (Int32.not_lt.mp c_22)
                    have z_6 := Int32.lt_iff_toInt_lt.mp (Int32.not_le.mp c_23)
                    have z_7 := Int32.le_iff_toInt_le.mp (Int32.not_lt.mp c_32)
                    have z_8 := Int32.lt_iff_toInt_lt.mp (Int32.not_le.mp c_33)
                    have y_0 : (0 : Int32).toInt = 0 := by decide
                    have y_400 : (400 : Int32).toInt = 400 := by decide
                    have y_1 : (1 : Int32).toInt = 1 := by decide
                    have t_x_10 : x_10.toInt = ((Tv 0) : Int32).toInt + (1 : Int32).toInt := by rw [ex_10]; exact add_toInt (by omega) (by omega)
                    have t_x_20 : x_20.toInt = (x_10 : Int32).toInt + (1 : Int32).toInt := by rw [ex_20]; exact add_toInt (by omega) (by omega)
                    have t_x_30 : x_30.toInt = (x_20 : Int32).toInt + (1 : Int32).toInt := by rw [ex_30]; exact add_toInt (by omega) (by omega)
                    have t_x_40 : x_40.toInt = (x_30 : Int32).toInt + (1 : Int32).toInt := by rw [ex_40]; exact add_toInt (by omega) (by omega)
                    omega
                  have hr_45 : 0 ≤ ((Tv 0) : Int32).toInt := by
                    have z_1 := Int32.le_iff_toInt_le.mp (Int32.not_lt.mp c_2)
                    have z_2 := Int32.lt_iff_toInt_lt.mp (Int32.not_le.mp c_3)
                    have z_3 := Int32.le_iff_toInt_le.mp (Int32.not_lt.mp c_12)
                    have z_4 := Int32.lt_iff_toInt_lt.mp (Int32.not_le.mp c_13)
                    have z_5 := Int32.le_iff_toInt_le.mp (Int32.not_lt.mp c_22)
                    have z_6 := Int32.lt_iff_toInt_lt.mp (Int32.not_le.mp c_23)
                    have z_7 := Int32.le_iff_toInt_le.mp (Int32.not_lt.mp c_32)
                    have z_8 := Int32.lt_iff_toInt_lt.mp (Int32.not_le.mp c_33)
                    have y_0 : (0 : Int32).toInt = 0 := by decide
                    have y_400 : (400 : Int32).toInt = 400 := by decide
                    have y_1 : (1 : Int32).toInt = 1 := by decide
                    have t_x_10 : x_10.toInt = ((Tv 0) : Int32).toInt + (1 : Int32).toInt := by rw [ex_10]; exact add_toInt (by omega) (by omega)
                    have t_x_20 : x_20.toInt = (x_10 : Int32).toInt + (1 : Int32).toInt := by rw [ex_20]; exact add_toInt (by omega) (by omega)
                    have t_x_30 : x_30.toInt = (x_20 : Int32).toInt + (1 : Int32).toInt := by rw [ex_30]; exact add_toInt (by omega) (by omega)
                    omega
                  exact retV hx hb hr hlk hP hD hS (x_40, g_37) ⟨rfl, ha_42, ha_43, pf_39, (FdB.of hr_45 eg_7 eg_17 eg_27 eg_37 hr_44 hz_8.1 hz_18.1 hz_28.1 hz_38.1)⟩ [0, 1] rfl rfl dX10_add_58 (Nat.le_of_ble_eq_true rfl) (Nat.le_of_ble_eq_true rfl) rfl
set_option maxRecDepth 100000 in
theorem cu_fX10_add (l : Launch) (D : va_G) (tc : Nat → ClassId) (sk : (Nat → Nat) × (Nat → Nat)) (Ta_0 : Nat) (Ta_1 : Nat) (Tv_0 : Int32) (Tv_1 : Int32) (Tv_2 : Int32) (Tv_3 : Int32) (Tv_4 : Int32) (Tf_1 : Nat → Int32) (x1 : Int32) (h_tape : 0 ≤ (Tv_0 : Int32).toInt ∧ (Tv_0 : Int32).toInt ≤ 400 ∧ 0 ≤ (Tv_1 : Int32).toInt ∧ (Tv_1 : Int32).toInt ≤ 400 ∧ 0 ≤ (Tv_2 : Int32).toInt ∧ (Tv_2 : Int32).toInt ≤ 400) (h_by : Byt Tf_1) (hroom : Tv_0.toInt ≤ 396) : Ct l yX10_add cX10_add 3 none { frames := 0, cells := 0, slots := 0, locals := 0 } D tc sk [.ref Ta_0, .int x1] [(Ta_0, .inr (10, [.ref Ta_1, .int Tv_0, .int Tv_1, .int Tv_2, .int Tv_3, .int Tv_4])), (Ta_1, .inl (tc 0, 400, .inl Tf_1))] (fun (v : Option Value) (u : (Int32) × (Nat → Int32)) => match u with | (oo0x1, oo0x2) => v = none ∧ (0 ≤ (oo0x1 : Int32).toInt ∧ (oo0x1 : Int32).toInt ≤ 400 ∧ 0 ≤ (Tv_1 : Int32).toInt ∧ (Tv_1 : Int32).toInt ≤ 400 ∧ 0 ≤ (Tv_2 : Int32).toInt ∧ (Tv_2 : Int32).toInt ≤ 400) ∧ ((oo0x1 : Int32).toInt = Tv_0.toInt + 4) ∧ (Byt oo0x2) ∧ (FdB Tf_1 oo0x2 Tv_0 oo0x1 x1)) (fun (u : (Int32) × (Nat → Int32)) => match u with | (oo0x1, oo0x2) => [(Ta_0, .inr (10, [.ref Ta_1, .int oo0x1, .int Tv_1, .int Tv_2, .int Tv_3, .int Tv_4])), (Ta_1, .inl (tc 0, 400, .inl oo0x2))]) 0 0 :=
  ct_fX10_add l D tc sk (fun k => ([Ta_0, Ta_1] : List (Nat)).getD k 0) (fun k => ([Tv_0, Tv_1, Tv_2, Tv_3, Tv_4] : List (Int32)).getD k 0) (fun k => ([(fun _ => 0), Tf_1] : List (Nat → Int32)).getD k (fun _ => 0)) x1 h_tape h_by hroom
set_option maxHeartbeats 4000000 in
set_option maxRecDepth 100000 in
theorem ct_fX11_feed (l : Launch) (D : va_G) (tc : Nat → ClassId) (sk : (Nat → Nat) × (Nat → Nat)) (Ga : Nat → Nat) (Gv : Nat → Int32) (Ta : Nat → Nat) (Tv : Nat → Int32) (Tf : Nat → Nat → Int32) (x1 : Int32) (x2 : Int32) (x3 : Int32) (x4 : Int32) (x5 : Int32) (h_tape : 0 ≤ ((Tv 0) : Int32).toInt ∧ ((Tv 0) : Int32).toInt ≤ 400 ∧ 0 ≤ ((Tv 1) : Int32).toInt ∧ ((Tv 1) : Int32).toInt ≤ 400 ∧ 0 ≤ ((Tv 2) : Int32).toInt ∧ ((Tv 2) : Int32).toInt ≤ 400) (h_by : Byt (Tf 1)) : Ct l yX11_feed cX11_feed 6 (some .int) { frames := 1, cells := 0, slots := 0, locals := 22 } D tc sk [.ref (Ga 0), .int x1, .int x2, .int x3, .int x4, .int x5] [((Ga 0), .inr (11, [.ref (Ta 0), .ref (Ga 2), .ref (Ga 3), .ref (Ga 4), .int (Gv 0), .ref (Ga 5), .ref (Ga 6), .ref (Ga 7), .ref (Ga 8), .ref (Ga 9), .ref (Ga 10), .ref (Ga 11)])), ((Ta 0), .inr (10, [.ref (Ta 1), .int (Tv 0), .int (Tv 1), .int (Tv 2), .int (Tv 3), .int (Tv 4)])), ((Ta 1), .inl (tc 0, 400, .inl (Tf 1)))] (fun (v : Option Value) (u : (Int32) × (Nat → Int32)) => match u with | (oo0x1, oo0x2) => ∃ r : Int32, v = some (.int r) ∧ (FeP (Tf 1) oo0x2 (Tv 0) oo0x1 x1 x2 x3 x4 x5 r) ∧ (0 ≤ (oo0x1 : Int32).toInt ∧ (oo0x1 : Int32).toInt ≤ 400 ∧ 0 ≤ ((Tv 1) : Int32).toInt ∧ ((Tv 1) : Int32).toInt ≤ 400 ∧ 0 ≤ ((Tv 2) : Int32).toInt ∧ ((Tv 2) : Int32).toInt ≤ 400) ∧ (Byt oo0x2)) (fun (u : (Int32) × (Nat → Int32)) => match u with | (oo0x1, oo0x2) => [((Ga 0), .inr (11, [.ref (Ta 0), .ref (Ga 2), .ref (Ga 3), .ref (Ga 4), .int (Gv 0), .ref (Ga 5), .ref (Ga 6), .ref (Ga 7), .ref (Ga 8), .ref (Ga 9), .ref (Ga 10), .ref (Ga 11)])), ((Ta 0), .inr (10, [.ref (Ta 1), .int oo0x1, .int (Tv 1), .int (Tv 2), .int (Tv 3), .int (Tv 4)])), ((Ta 1), .inl (tc 0, 400, .inl oo0x2))]) 0 0 := by
  refine Ct.start (by decide) (Nat.le_of_ble_eq_true rfl) (fun p e s m below meth c A ls hx hb hr hlk hin hml hown hts hK hX hP hD hA hl hS => ?_)
  have hl : lv_has ls 6 [(0, .ref (Ga 0)), (1, .int x1), (2, .int x2), (3, .int x3), (4, .int x4), (5, .int x5)] := hl
  refine lv_aload_n hx hb dX11_feed_0 rfl (lv_at hl 0 rfl) ?_
  refine gf_X11_10 hx hb hts hown hK hP 0 rfl rfl dX11_feed_1 ?_
  refine cV (a := (Ta 0)) (As := []) (rest := []) (wr := [((Ga 0), .inr (11, [.ref (Ta 0), .ref (Ga 2), .ref (Ga 3), .ref (Ga 4), .int (Gv 0), .ref (Ga 5), .ref (Ga 6), .ref (Ga 7), .ref (Ga 8), .ref (Ga 9), .ref (Ga 10), .ref (Ga 11)]))]) ⟨hx, hb, hml, hown, hts⟩ hK hX hA (cu_fX10_hasRoom l D tc sk (Ta 0) (Ta 1) (Tv 0) (Tv 1) (Tv 2) (Tv 3) (Tv 4) (Tf 1) h_tape) k_450 k_447 k_448 k_449 k_96 pl_X10_hasRoom ⟨Nat.le_of_ble_eq_true rfl, Nat.le_of_ble_eq_true rfl⟩ rfl rfl (va_recv hK hP (ci := 10) (q0 := 1) rfl rfl) hP hD hS [1, 2] [0] rfl rfl rfl rfl rfl (by decide) rfl hl.1 rfl (Nat.le_of_ble_eq_true rfl) dX11_feed_4 ⟨Nat.le_of_ble_eq_true rfl, Nat.le_of_ble_eq_true rfl⟩ (fun v_1 u_2 H locs hv_3 hP₀ hD₀ hS₀ => ?_)
  obtain ⟨r_4, rfl, he_5⟩ := hv_3
  have he_5 : ((r_4.toInt = 0 ∧ 380 < (Tv 0).toInt) ∨ (r_4.toInt = 1 ∧ (Tv 0).toInt ≤ 380)) := he_5
  refine W.eq (g2 := F0 m 7 ls [.int r_4]) rfl ?_
  replace hP : va_P D classes [((Ga 0), .inr (11, [.ref (Ta 0), .ref (Ga 2), .ref (Ga 3), .ref (Ga 4), .int (Gv 0), .ref (Ga 5), .ref (Ga 6), .ref (Ga 7), .ref (Ga 8), .ref (Ga 9), .ref (Ga 10), .ref (Ga 11)])), ((Ta 0), .inr (10, [.ref (Ta 1), .int (Tv 0), .int (Tv 1), .int (Tv 2), .int (Tv 3), .int (Tv 4)])), ((Ta 1), .inl (tc 0, 400, .inl (Tf 1)))] H := hP₀
  replace hD : va_D A [((Ga 0), .inr (11, [.ref (Ta 0), .ref (Ga 2), .ref (Ga 3), .ref (Ga 4), .int (Gv 0), .ref (Ga 5), .ref (Ga 6), .ref (Ga 7), .ref (Ga 8), .ref (Ga 9), .ref (Ga 10), .ref (Ga 11)])), ((Ta 0), .inr (10, [.ref (Ta 1), .int (Tv 0), .int (Tv 1), .int (Tv 2), .int (Tv 3), .int (Tv 4)])), ((Ta 1), .inl (tc 0, 400, .inl (Tf 1)))] := hD₀
  replace hS := hS₀
  clear hP₀ hD₀ hS₀
  refine lv_if_ne (tgt := 12) hx hb dX11_feed_7 (by decide) (fun c_7 => ?_) (fun c_7 => ?_)
  · skip
    refine lv_aload_n hx hb dX11_feed_12 rfl (lv_at hl 0 rfl) ?_
    refine gf_X11_10 hx hb hts hown hK hP 0 rfl rfl dX11_feed_13 ?_
    refine lv_iload_n hx hb dX11_feed_16 rfl (lv_at hl 1 rfl) ?_
    have ha_8 : (Tv 0).toInt ≤ 396 := by
      have z_1 : ¬ (r_4 : Int32).toInt = (0 : Int32).toInt := fun z => c_7 (Int32.toInt_inj.mp z)
      have y_0 : (0 : Int32).toInt = 0 := by decide
      omega
    refine cV (a := (Ta 0)) (As := [.int x1]) (rest := []) (wr := [((Ga 0), .inr (11, [.ref (Ta 0), .ref (Ga 2), .ref (Ga 3), .ref (Ga 4), .int (Gv 0), .ref (Ga 5), .ref (Ga 6), .ref (Ga 7), .ref (Ga 8), .ref (Ga 9), .ref (Ga 10), .ref (Ga 11)]))]) ⟨hx, hb, hml, hown, hts⟩ hK hX hA (cu_fX10_add l D tc sk (Ta 0) (Ta 1) (Tv 0) (Tv 1) (Tv 2) (Tv 3) (Tv 4) (Tf 1) x1 h_tape h_by ha_8) k_454 k_451 k_452 k_453 k_96 pl_X10_add ⟨Nat.le_of_ble_eq_true rfl, Nat.le_of_ble_eq_true rfl⟩ rfl rfl (va_recv hK hP (ci := 10) (q0 := 1) rfl rfl) hP hD hS [1, 2] [0] rfl rfl rfl rfl rfl (by decide) rfl hl.1 rfl (Nat.le_of_ble_eq_true rfl) dX11_feed_17 ⟨Nat.le_of_ble_eq_true rfl, Nat.le_of_ble_eq_true rfl⟩ (fun v_9 u_10 H locs hv_11 hP₀ hD₀ hS₀ => ?_)
    obtain ⟨sv_12, sv_13⟩ := u_10
    obtain ⟨rfl, pf_14, pf_15, pf_16, pf_17⟩ := hv_11
    have pf_14 : 0 ≤ (sv_12 : Int32).toInt ∧ (sv_12 : Int32).toInt ≤ 400 ∧ 0 ≤ ((Tv 1) : Int32).toInt ∧ ((Tv 1) : Int32).toInt ≤ 400 ∧ 0 ≤ ((Tv 2) : Int32).toInt ∧ ((Tv 2) : Int32).toInt ≤ 400 := pf_14
    have pf_15 : (sv_12 : Int32).toInt = (Tv 0).toInt + 4 := pf_15
    have pf_16 : Byt sv_13 := pf_16
    have pf_17 : FdB (Tf 1) sv_13 (Tv 0) sv_12 x1 := pf_17
    have ar_pf_17 := pf_17.1
    refine W.eq (g2 := F0 m 20 ls []) rfl ?_
    replace hP : va_P D classes [((Ga 0), .inr (11, [.ref (Ta 0), .ref (Ga 2), .ref (Ga 3), .ref (Ga 4), .int (Gv 0), .ref (Ga 5), .ref (Ga 6), .ref (Ga 7), .ref (Ga 8), .ref (Ga 9), .ref (Ga 10), .ref (Ga 11)])), ((Ta 0), .inr (10, [.ref (Ta 1), .int sv_12, .int (Tv 1), .int (Tv 2), .int (Tv 3), .int (Tv 4)])), ((Ta 1), .inl (tc 0, 400, .inl sv_13))] H := hP₀
    replace hD : va_D A [((Ga 0), .inr (11, [.ref (Ta 0), .ref (Ga 2), .ref (Ga 3), .ref (Ga 4), .int (Gv 0), .ref (Ga 5), .ref (Ga 6), .ref (Ga 7), .ref (Ga 8), .ref (Ga 9), .ref (Ga 10), .ref (Ga 11)])), ((Ta 0), .inr (10, [.ref (Ta 1), .int sv_12, .int (Tv 1), .int (Tv 2), .int (Tv 3), .int (Tv 4)])), ((Ta 1), .inl (tc 0, 400, .inl sv_13))] := hD₀
    replace hS := hS₀
    clear hP₀ hD₀ hS₀
    refine lv_aload_n hx hb dX11_feed_20 rfl (lv_at hl 0 rfl) ?_
    refine gf_X11_10 hx hb hts hown hK hP 0 rfl rfl dX11_feed_21 ?_
    refine lv_iload_n hx hb dX11_feed_24 rfl (lv_at hl 2 rfl) ?_
    have ha_18 : sv_12.toInt ≤ 396 := by
      have z_1 : ¬ (r_4 : Int32).toInt = (0 : Int32).toInt := fun z => c_7 (Int32.toInt_inj.mp z)
      have y_0 : (0 : Int32).toInt = 0 := by decide
      omega
    refine cV (a := (Ta 0)) (As := [.int x2]) (rest := []) (wr := [((Ga 0), .inr (11, [.ref (Ta 0), .ref (Ga 2), .ref (Ga 3), .ref (Ga 4), .int (Gv 0), .ref (Ga 5), .ref (Ga 6), .ref (Ga 7), .ref (Ga 8), .ref (Ga 9), .ref (Ga 10), .ref (Ga 11)]))]) ⟨hx, hb, hml, hown, hts⟩ hK hX hA (cu_fX10_add l D tc sk (Ta 0) (Ta 1) sv_12 (Tv 1) (Tv 2) (Tv 3) (Tv 4) sv_13 x2 pf_14 pf_16 ha_18) k_454 k_451 k_452 k_453 k_96 pl_X10_add ⟨Nat.le_of_ble_eq_true rfl, Nat.le_of_ble_eq_true rfl⟩ rfl rfl (va_recv hK hP (ci := 10) (q0 := 1) rfl rfl) hP hD hS [1, 2] [0] rfl rfl rfl rfl rfl (by decide) rfl hl.1 rfl (Nat.le_of_ble_eq_true rfl) dX11_feed_25 ⟨Nat.le_of_ble_eq_true rfl, Nat.le_of_ble_eq_true rfl⟩ (fun v_19 u_20 H locs hv_21 hP₀ hD₀ hS₀ => ?_)
    obtain ⟨sv_22, sv_23⟩ := u_20
    obtain ⟨rfl, pf_24, pf_25, pf_26, pf_27⟩ := hv_21
    have pf_24 : 0 ≤ (sv_22 : Int32).toInt ∧ (sv_22 : Int32).toInt ≤ 400 ∧ 0 ≤ ((Tv 1) : Int32).toInt ∧ ((Tv 1) : Int32).toInt ≤ 400 ∧ 0 ≤ ((Tv 2) : Int32).toInt ∧ ((Tv 2) : Int32).toInt ≤ 400 := pf_24
    have pf_25 : (sv_22 : Int32).toInt = sv_12.toInt + 4 := pf_25
    have pf_26 : Byt sv_23 := pf_26
    have pf_27 : FdB sv_13 sv_23 sv_12 sv_22 x2 := pf_27
    have ar_pf_27 := pf_27.1
    refine W.eq (g2 := F0 m 28 ls []) rfl ?_
    replace hP : va_P D classes [((Ga 0), .inr (11, [.ref (Ta 0), .ref (Ga 2), .ref (Ga 3), .ref (Ga 4), .int (Gv 0), .ref (Ga 5), .ref (Ga 6), .ref (Ga 7), .ref (Ga 8), .ref (Ga 9), .ref (Ga 10), .ref (Ga 11)])), ((Ta 0), .inr (10, [.ref (Ta 1), .int sv_22, .int (Tv 1), .int (Tv 2), .int (Tv 3), .int (Tv 4)])), ((Ta 1), .inl (tc 0, 400, .inl sv_23))] H := hP₀
    replace hD : va_D A [((Ga 0), .inr (11, [.ref (Ta 0), .ref (Ga 2), .ref (Ga 3), .ref (Ga 4), .int (Gv 0), .ref (Ga 5), .ref (Ga 6), .ref (Ga 7), .ref (Ga 8), .ref (Ga 9), .ref (Ga 10), .ref (Ga 11)])), ((Ta 0), .inr (10, [.ref (Ta 1), .int sv_22, .int (Tv 1), .int (Tv 2), .int (Tv 3), .int (Tv 4)])), ((Ta 1), .inl (tc 0, 400, .inl sv_23))] := hD₀
    replace hS := hS₀
    clear hP₀ hD₀ hS₀
    refine lv_aload_n hx hb dX11_feed_28 rfl (lv_at hl 0 rfl) ?_
    refine gf_X11_10 hx hb hts hown hK hP 0 rfl rfl dX11_feed_29 ?_
    refine lv_iload_n hx hb dX11_feed_32 rfl (lv_at hl 3 rfl) ?_
    have ha_28 : sv_22.toInt ≤ 396 := by
      have z_1 : ¬ (r_4 : Int32).toInt = (0 : Int32).toInt := fun z => c_7 (Int32.toInt_inj.mp z)
      have y_0 : (0 : Int32).toInt = 0 := by decide
      omega
    refine cV (a := (Ta 0)) (As := [.int x3]) (rest := []) (wr := [((Ga 0), .inr (11, [.ref (Ta 0), .ref (Ga 2), .ref (Ga 3), .ref (Ga 4), .int (Gv 0), .ref (Ga 5), .ref (Ga 6), .ref (Ga 7), .ref (Ga 8), .ref (Ga 9), .ref (Ga 10), .ref (Ga 11)]))]) ⟨hx, hb, hml, hown, hts⟩ hK hX hA (cu_fX10_add l D tc sk (Ta 0) (Ta 1) sv_22 (Tv 1) (Tv 2) (Tv 3) (Tv 4) sv_23 x3 pf_24 pf_26 ha_28) k_454 k_451 k_452 k_453 k_96 pl_X10_add ⟨Nat.le_of_ble_eq_true rfl, Nat.le_of_ble_eq_true rfl⟩ rfl rfl (va_recv hK hP (ci := 10) (q0 := 1) rfl rfl) hP hD hS [1, 2] [0] rfl rfl rfl rfl rfl (by decide) rfl hl.1 rfl (Nat.le_of_ble_eq_true rfl) dX11_feed_33 ⟨Nat.le_of_ble_eq_true rfl, Nat.le_of_ble_eq_true rfl⟩ (fun v_29 u_30 H locs hv_31 hP₀ hD₀ hS₀ => ?_)
    obtain ⟨sv_32, sv_33⟩ := u_30
    obtain ⟨rfl, pf_34, pf_35, pf_36, pf_37⟩ := hv_31
    have pf_34 : 0 ≤ (sv_32 : Int32).toInt ∧ (sv_32 : Int32).toInt ≤ 400 ∧ 0 ≤ ((Tv 1) : Int32).toInt ∧ ((Tv 1) : Int32).toInt ≤ 400 ∧ 0 ≤ ((Tv 2) : Int32).toInt ∧ ((Tv 2) : Int32).toInt ≤ 400 := pf_34
    have pf_35 : (sv_32 : Int32).toInt = sv_22.toInt + 4 := pf_35
    have pf_36 : Byt sv_33 := pf_36
    have pf_37 : FdB sv_23 sv_33 sv_22 sv_32 x3 := pf_37
    have ar_pf_37 := pf_37.1
    refine W.eq (g2 := F0 m 36 ls []) rfl ?_
    replace hP : va_P D classes [((Ga 0), .inr (11, [.ref (Ta 0), .ref (Ga 2), .ref (Ga 3), .ref (Ga 4), .int (Gv 0), .ref (Ga 5), .ref (Ga 6), .ref (Ga 7), .ref (Ga 8), .ref (Ga 9), .ref (Ga 10), .ref (Ga 11)])), ((Ta 0), .inr (10, [.ref (Ta 1), .int sv_32, .int (Tv 1), .int (Tv 2), .int (Tv 3), .int (Tv 4)])), ((Ta 1), .inl (tc 0, 400, .inl sv_33))] H := hP₀
    replace hD : va_D A [((Ga 0), .inr (11, [.ref (Ta 0), .ref (Ga 2), .ref (Ga 3), .ref (Ga 4), .int (Gv 0), .ref (Ga 5), .ref (Ga 6), .ref (Ga 7), .ref (Ga 8), .ref (Ga 9), .ref (Ga 10), .ref (Ga 11)])), ((Ta 0), .inr (10, [.ref (Ta 1), .int sv_32, .int (Tv 1), .int (Tv 2), .int (Tv 3), .int (Tv 4)])), ((Ta 1), .inl (tc 0, 400, .inl sv_33))] := hD₀
    replace hS := hS₀
    clear hP₀ hD₀ hS₀
    refine lv_aload_n hx hb dX11_feed_36 rfl (lv_at hl 0 rfl) ?_
    refine gf_X11_10 hx hb hts hown hK hP 0 rfl rfl dX11_feed_37 ?_
    refine lv_iload hx hb dX11_feed_40 (lv_at hl 4 rfl) ?_
    have ha_38 : sv_32.toInt ≤ 396 := by
      have z_1 : ¬ (r_4 : Int32).toInt = (0 : Int32).toInt := fun z => c_7 (Int32.toInt_inj.mp z)
      have y_0 : (0 : Int32).toInt = 0 := by decide
      omega
    refine cV (a := (Ta 0)) (As := [.int x4]) (rest := []) (wr := [((Ga 0), .inr (11, [.ref (Ta 0), .ref (Ga 2), .ref (Ga 3), .ref (Ga 4), .int (Gv 0), .ref (Ga 5), .ref (Ga 6), .ref (Ga 7), .ref (Ga 8), .ref (Ga 9), .ref (Ga 10), .ref (Ga 11)]))]) ⟨hx, hb, hml, hown, hts⟩ hK hX hA (cu_fX10_add l D tc sk (Ta 0) (Ta 1) sv_32 (Tv 1) (Tv 2) (Tv 3) (Tv 4) sv_33 x4 pf_34 pf_36 ha_38) k_454 k_451 k_452 k_453 k_96 pl_X10_add ⟨Nat.le_of_ble_eq_true rfl, Nat.le_of_ble_eq_true rfl⟩ rfl rfl (va_recv hK hP (ci := 10) (q0 := 1) rfl rfl) hP hD hS [1, 2] [0] rfl rfl rfl rfl rfl (by decide) rfl hl.1 rfl (Nat.le_of_ble_eq_true rfl) dX11_feed_42 ⟨Nat.le_of_ble_eq_true rfl, Nat.le_of_ble_eq_true rfl⟩ (fun v_39 u_40 H locs hv_41 hP₀ hD₀ hS₀ => ?_)
    obtain ⟨sv_42, sv_43⟩ := u_40
    obtain ⟨rfl, pf_44, pf_45, pf_46, pf_47⟩ := hv_41
    have pf_44 : 0 ≤ (sv_42 : Int32).toInt ∧ (sv_42 : Int32).toInt ≤ 400 ∧ 0 ≤ ((Tv 1) : Int32).toInt ∧ ((Tv 1) : Int32).toInt ≤ 400 ∧ 0 ≤ ((Tv 2) : Int32).toInt ∧ ((Tv 2) : Int32).toInt ≤ 400 := pf_44
    have pf_45 : (sv_42 : Int32).toInt = sv_32.toInt + 4 := pf_45
    have pf_46 : Byt sv_43 := pf_46
    have pf_47 : FdB sv_33 sv_43 sv_32 sv_42 x4 := pf_47
    have ar_pf_47 := pf_47.1
    refine W.eq (g2 := F0 m 45 ls []) rfl ?_
    replace hP : va_P D classes [((Ga 0), .inr (11, [.ref (Ta 0), .ref (Ga 2), .ref (Ga 3), .ref (Ga 4), .int (Gv 0), .ref (Ga 5), .ref (Ga 6), .ref (Ga 7), .ref (Ga 8), .ref (Ga 9), .ref (Ga 10), .ref (Ga 11)])), ((Ta 0), .inr (10, [.ref (Ta 1), .int sv_42, .int (Tv 1), .int (Tv 2), .int (Tv 3), .int (Tv 4)])), ((Ta 1), .inl (tc 0, 400, .inl sv_43))] H := hP₀
    replace hD : va_D A [((Ga 0), .inr (11, [.ref (Ta 0), .ref (Ga 2), .ref (Ga 3), .ref (Ga 4), .int (Gv 0), .ref (Ga 5), .ref (Ga 6), .ref (Ga 7), .ref (Ga 8), .ref (Ga 9), .ref (Ga 10), .ref (Ga 11)])), ((Ta 0), .inr (10, [.ref (Ta 1), .int sv_42, .int (Tv 1), .int (Tv 2), .int (Tv 3), .int (Tv 4)])), ((Ta 1), .inl (tc 0, 400, .inl sv_43))] := hD₀
    replace hS := hS₀
    clear hP₀ hD₀ hS₀
    refine lv_aload_n hx hb dX11_feed_45 rfl (lv_at hl 0 rfl) ?_
    refine gf_X11_10 hx hb hts hown hK hP 0 rfl rfl dX11_feed_46 ?_
    refine lv_iload hx hb dX11_feed_49 (lv_at hl 5 rfl) ?_
    have ha_48 : sv_42.toInt ≤ 396 := by
      have z_1 : ¬ (r_4 : Int32).toInt = (0 : Int32).toInt := fun z => c_7 (Int32.toInt_inj.mp z)
      have y_0 : (0 : Int32).toInt = 0 := by decide
      omega
    refine cV (a := (Ta 0)) (As := [.int x5]) (rest := []) (wr := [((Ga 0), .inr (11, [.ref (Ta 0), .ref (Ga 2), .ref (Ga 3), .ref (Ga 4), .int (Gv 0), .ref (Ga 5), .ref (Ga 6), .ref (Ga 7), .ref (Ga 8), .ref (Ga 9), .ref (Ga 10), .ref (Ga 11)]))]) ⟨hx, hb, hml, hown, hts⟩ hK hX hA (cu_fX10_add l D tc sk (Ta 0) (Ta 1) sv_42 (Tv 1) (Tv 2) (Tv 3) (Tv 4) sv_43 x5 pf_44 pf_46 ha_48) k_454 k_451 k_452 k_453 k_96 pl_X10_add ⟨Nat.le_of_ble_eq_true rfl, Nat.le_of_ble_eq_true rfl⟩ rfl rfl (va_recv hK hP (ci := 10) (q0 := 1) rfl rfl) hP hD hS [1, 2] [0] rfl rfl rfl rfl rfl (by decide) rfl hl.1 rfl (Nat.le_of_ble_eq_true rfl) dX11_feed_51 ⟨Nat.le_of_ble_eq_true rfl, Nat.le_of_ble_eq_true rfl⟩ (fun v_49 u_50 H locs hv_51 hP₀ hD₀ hS₀ => ?_)
    obtain ⟨sv_52, sv_53⟩ := u_50
    obtain ⟨rfl, pf_54, pf_55, pf_56, pf_57⟩ := hv_51
    have pf_54 : 0 ≤ (sv_52 : Int32).toInt ∧ (sv_52 : Int32).toInt ≤ 400 ∧ 0 ≤ ((Tv 1) : Int32).toInt ∧ ((Tv 1) : Int32).toInt ≤ 400 ∧ 0 ≤ ((Tv 2) : Int32).toInt ∧ ((Tv 2) : Int32).toInt ≤ 400 := pf_54
    have pf_55 : (sv_52 : Int32).toInt = sv_42.toInt + 4 := pf_55
    have pf_56 : Byt sv_53 := pf_56
    have pf_57 : FdB sv_43 sv_53 sv_42 sv_52 x5 := pf_57
    have ar_pf_57 := pf_57.1
    refine W.eq (g2 := F0 m 54 ls []) rfl ?_
    replace hP : va_P D classes [((Ga 0), .inr (11, [.ref (Ta 0), .ref (Ga 2), .ref (Ga 3), .ref (Ga 4), .int (Gv 0), .ref (Ga 5), .ref (Ga 6), .ref (Ga 7), .ref (Ga 8), .ref (Ga 9), .ref (Ga 10), .ref (Ga 11)])), ((Ta 0), .inr (10, [.ref (Ta 1), .int sv_52, .int (Tv 1), .int (Tv 2), .int (Tv 3), .int (Tv 4)])), ((Ta 1), .inl (tc 0, 400, .inl sv_53))] H := hP₀
    replace hD : va_D A [((Ga 0), .inr (11, [.ref (Ta 0), .ref (Ga 2), .ref (Ga 3), .ref (Ga 4), .int (Gv 0), .ref (Ga 5), .ref (Ga 6), .ref (Ga 7), .ref (Ga 8), .ref (Ga 9), .ref (Ga 10), .ref (Ga 11)])), ((Ta 0), .inr (10, [.ref (Ta 1), .int sv_52, .int (Tv 1), .int (Tv 2), .int (Tv 3), .int (Tv 4)])), ((Ta 1), .inl (tc 0, 400, .inl sv_53))] := hD₀
    replace hS := hS₀
    clear hP₀ hD₀ hS₀
    refine lv_aload_n hx hb dX11_feed_54 rfl (lv_at hl 0 rfl) ?_
    refine gf_X11_10 hx hb hts hown hK hP 0 rfl rfl dX11_feed_55 ?_
    refine gf_X11_94 hx hb hts hown hK hP 1 rfl rfl dX11_feed_58 ?_
    have hr_58 : (Tv 0).toInt ≤ 380 := by
      have z_1 : ¬ (r_4 : Int32).toInt = (0 : Int32).toInt := fun z => c_7 (Int32.toInt_inj.mp z)
      have y_0 : (0 : Int32).toInt = 0 := by decide
      omega
    exact retI (v := sv_52) hx hb hr hlk (rfl) hP hD hS (sv_52, sv_53) ⟨_, rfl, (Or.inr ⟨hr_58, rfl, _, _, _, _, _, _, _, _, pf_17, pf_27, pf_37, pf_47, pf_57⟩), pf_54, pf_56⟩ [0, 1, 2] rfl rfl dX11_feed_61 (Nat.le_of_ble_eq_true rfl) (Nat.le_of_ble_eq_true rfl) rfl
  · skip
    refine lv_iconst (v := (-1)) hx hb dX11_feed_10 (by decide) ?_
    have hr_59 : 380 < (Tv 0).toInt := by
      have z_1 := congrArg Int32.toInt c_7
      have y_0 : (0 : Int32).toInt = 0 := by decide
      omega
    have hr_60 : ((-1) : Int32).toInt = -1 := by
      have z_1 := congrArg Int32.toInt c_7
      have y_0 : (0 : Int32).toInt = 0 := by decide
      have y_m1 : (-1 : Int32).toInt = -1 := by decide
      omega
    exact retI (v := (-1)) hx hb hr hlk (rfl) hP hD hS ((Tv 0), (Tf 1)) ⟨_, rfl, (Or.inl ⟨hr_59, hr_60, rfl, rfl⟩), h_tape, h_by⟩ [0, 1, 2] rfl rfl dX11_feed_11 (Nat.le_of_ble_eq_true rfl) (Nat.le_of_ble_eq_true rfl) rfl
set_option maxHeartbeats 4000000 in
set_option maxRecDepth 100000 in
theorem ct_fX11_end (l : Launch) (D : va_G) (tc : Nat → ClassId) (sk : (Nat → Nat) × (Nat → Nat)) (Ga : Nat → Nat) (Gv : Nat → Int32) (Ta : Nat → Nat) (Tv : Nat → Int32) (Tf : Nat → Nat → Int32) (x1 : Int32) (h_tape : 0 ≤ ((Tv 0) : Int32).toInt ∧ ((Tv 0) : Int32).toInt ≤ 400 ∧ 0 ≤ ((Tv 1) : Int32).toInt ∧ ((Tv 1) : Int32).toInt ≤ 400 ∧ 0 ≤ ((Tv 2) : Int32).toInt ∧ ((Tv 2) : Int32).toInt ≤ 400) : Ct l yX11_end cX11_end 2 (some .int) { frames := 0, cells := 0, slots := 0, locals := 0 } D tc sk [.ref (Ga 0), .int x1] [((Ga 0), .inr (11, [.ref (Ta 0), .ref (Ga 2), .ref (Ga 3), .ref (Ga 4), .int (Gv 0), .ref (Ga 5), .ref (Ga 6), .ref (Ga 7), .ref (Ga 8), .ref (Ga 9), .ref (Ga 10), .ref (Ga 11)])), ((Ta 0), .inr (10, [.ref (Ta 1), .int (Tv 0), .int (Tv 1), .int (Tv 2), .int (Tv 3), .int (Tv 4)])), ((Ta 1), .inl (tc 0, 400, .inl (Tf 1)))] (fun (v : Option Value) (oo0x1 : Int32) => ∃ r : Int32, v = some (.int r) ∧ (EnP (Tv 0) oo0x1 x1 r) ∧ (0 ≤ (oo0x1 : Int32).toInt ∧ (oo0x1 : Int32).toInt ≤ 400 ∧ 0 ≤ ((Tv 1) : Int32).toInt ∧ ((Tv 1) : Int32).toInt ≤ 400 ∧ 0 ≤ ((Tv 2) : Int32).toInt ∧ ((Tv 2) : Int32).toInt ≤ 400)) (fun (oo0x1 : Int32) => [((Ga 0), .inr (11, [.ref (Ta 0), .ref (Ga 2), .ref (Ga 3), .ref (Ga 4), .int (Gv 0), .ref (Ga 5), .ref (Ga 6), .ref (Ga 7), .ref (Ga 8), .ref (Ga 9), .ref (Ga 10), .ref (Ga 11)])), ((Ta 0), .inr (10, [.ref (Ta 1), .int oo0x1, .int (Tv 1), .int (Tv 2), .int (Tv 3), .int (Tv 4)])), ((Ta 1), .inl (tc 0, 400, .inl (Tf 1)))]) 0 0 := by
  refine Ct.start (by decide) (Nat.le_of_ble_eq_true rfl) (fun p e s m below meth c A ls hx hb hr hlk hin hml hown hts hK hX hP hD hA hl hS => ?_)
  have hl : lv_has ls 2 [(0, .ref (Ga 0)), (1, .int x1)] := hl
  refine lv_iload_n hx hb dX11_end_0 rfl (lv_at hl 1 rfl) ?_
  refine lv_if_lt (tgt := 15) hx hb dX11_end_1 (by decide) (fun c_1 => ?_) (fun c_1 => ?_)
  · skip
    refine lv_iconst (v := (-1)) hx hb dX11_end_15 (by decide) ?_
    have hr_2 : x1.toInt < 0 ∨ (Tv 0).toInt < x1.toInt := by
      have z_1 := Int32.lt_iff_toInt_lt.mp c_1
      have y_0 : (0 : Int32).toInt = 0 := by decide
      omega
    have hr_3 : ((-1) : Int32).toInt = -1 := by
      have z_1 := Int32.lt_iff_toInt_lt.mp c_1
      have y_0 : (0 : Int32).toInt = 0 := by decide
      have y_m1 : (-1 : Int32).toInt = -1 := by decide
      omega
    exact retI (v := (-1)) hx hb hr hlk (rfl) hP hD hS (Tv 0) ⟨_, rfl, (Or.inl ⟨hr_2, hr_3, rfl⟩), h_tape⟩ [0, 1, 2] rfl rfl dX11_end_16 (Nat.le_of_ble_eq_true rfl) (Nat.le_of_ble_eq_true rfl) rfl
  · skip
    refine lv_iload_n hx hb dX11_end_4 rfl (lv_at hl 1 rfl) ?_
    refine lv_aload_n hx hb dX11_end_5 rfl (lv_at hl 0 rfl) ?_
    refine gf_X11_10 hx hb hts hown hK hP 0 rfl rfl dX11_end_6 ?_
    refine gf_X11_94 hx hb hts hown hK hP 1 rfl rfl dX11_end_9 ?_
    refine lv_icmp_le (tgt := 17) hx hb dX11_end_12 (by decide) (fun c_4 => ?_) (fun c_4 => ?_)
    · skip
      refine lv_aload_n hx hb dX11_end_17 rfl (lv_at hl 0 rfl) ?_
      refine gf_X11_10 hx hb hts hown hK hP 0 rfl rfl dX11_end_18 ?_
      refine lv_iload_n hx hb dX11_end_21 rfl (lv_at hl 1 rfl) ?_
      refine pf_X11_94 hx hb hts hown hK hP hD hS 1 rfl (Nat.le_of_ble_eq_true rfl) rfl rfl dX11_end_22 (fun H locs hP₀ hD₀ hS₀ => ?_)
      replace hP : va_P D classes [((Ga 0), .inr (11, [.ref (Ta 0), .ref (Ga 2), .ref (Ga 3), .ref (Ga 4), .int (Gv 0), .ref (Ga 5), .ref (Ga 6), .ref (Ga 7), .ref (Ga 8), .ref (Ga 9), .ref (Ga 10), .ref (Ga 11)])), ((Ta 0), .inr (10, [.ref (Ta 1), .int x1, .int (Tv 1), .int (Tv 2), .int (Tv 3), .int (Tv 4)])), ((Ta 1), .inl (tc 0, 400, .inl (Tf 1)))] H := hP₀
      replace hD : va_D A [((Ga 0), .inr (11, [.ref (Ta 0), .ref (Ga 2), .ref (Ga 3), .ref (Ga 4), .int (Gv 0), .ref (Ga 5), .ref (Ga 6), .ref (Ga 7), .ref (Ga 8), .ref (Ga 9), .ref (Ga 10), .ref (Ga 11)])), ((Ta 0), .inr (10, [.ref (Ta 1), .int x1, .int (Tv 1), .int (Tv 2), .int (Tv 3), .int (Tv 4)])), ((Ta 1), .inl (tc 0, 400, .inl (Tf 1)))] := hD₀
      replace hS := hS₀
      clear hP₀ hD₀ hS₀
      refine lv_iload_n hx hb dX11_end_25 rfl (lv_at hl 1 rfl) ?_
      have ha_5 : 0 ≤ (x1 : Int32).toInt ∧ (x1 : Int32).toInt ≤ 400 ∧ 0 ≤ ((Tv 1) : Int32).toInt ∧ ((Tv 1) : Int32).toInt ≤ 400 ∧ 0 ≤ ((Tv 2) : Int32).toInt ∧ ((Tv 2) : Int32).toInt ≤ 400 := by
        have z_1 := Int32.le_iff_toInt_le.mp (Int32.not_lt.mp c_1)
        have z_2 := Int32.le_iff_toInt_le.mp c_4
        have y_0 : (0 : Int32).toInt = 0 := by decide
        omega
      have hr_6 : 0 ≤ x1.toInt ∧ x1.toInt ≤ (Tv 0).toInt := by
        have z_1 := Int32.le_iff_toInt_le.mp (Int32.not_lt.mp c_1)
        have z_2 := Int32.le_iff_toInt_le.mp c_4
        have y_0 : (0 : Int32).toInt = 0 := by decide
        omega
      exact retI (v := x1) hx hb hr hlk (rfl) hP hD hS x1 ⟨_, rfl, (Or.inr ⟨hr_6, rfl, rfl⟩), ha_5⟩ [0, 1, 2] rfl rfl dX11_end_26 (Nat.le_of_ble_eq_true rfl) (Nat.le_of_ble_eq_true rfl) rfl
    · skip
      refine lv_iconst (v := (-1)) hx hb dX11_end_15 (by decide) ?_
      have hr_7 : x1.toInt < 0 ∨ (Tv 0).toInt < x1.toInt := by
        have z_1 := Int32.le_iff_toInt_le.mp (Int32.not_lt.mp c_1)
        have z_2 := Int32.lt_iff_toInt_lt.mp (Int32.not_le.mp c_4)
        have y_0 : (0 : Int32).toInt = 0 := by decide
        omega
      have hr_8 : ((-1) : Int32).toInt = -1 := by
        have z_1 := Int32.le_iff_toInt_le.mp (Int32.not_lt.mp c_1)
        have z_2 := Int32.lt_iff_toInt_lt.mp (Int32.not_le.mp c_4)
        have y_0 : (0 : Int32).toInt = 0 := by decide
        have y_m1 : (-1 : Int32).toInt = -1 := by decide
        omega
      exact retI (v := (-1)) hx hb hr hlk (rfl) hP hD hS (Tv 0) ⟨_, rfl, (Or.inl ⟨hr_7, hr_8, rfl⟩), h_tape⟩ [0, 1, 2] rfl rfl dX11_end_16 (Nat.le_of_ble_eq_true rfl) (Nat.le_of_ble_eq_true rfl) rfl
theorem fstQ_en {B : Nat → Int} {q : Except Int BkU} : fstQ (bEN B q) = rEN B (fstQ q) := by
  cases q with
  | error e => rfl
  | ok u =>
    show fstQ (pz_b (pz_end B u.1.1) _) = pz_b (pz_end B u.1.1) _
    cases pz_end B u.1.1 <;> rfl
theorem BkR.of {f : Nat → Int32} {n : Int32} {q : Except Int BkU} {a b c d rd bn : Int32} (hr : pz_bookR (cB f n) = bEN (cB f n) q) (h : TpR f n (rEN (cB f n) (fstQ q)) a b c d) (hq : BkQ q rd bn) : BkR (cB f n) d bn := by
  rw [← fstQ_en, ← hr] at h
  cases e : pz_bookR (cB f n) with
  | error z =>
    rw [e] at h
    have h1 := h.1
    have h2 := h.2.1
    exact Or.inr ⟨by rw [h1]; exact h2, by rw [e, h1]⟩
  | ok u =>
    rw [e] at h
    refine Or.inl ⟨h.1, u, e, ?_⟩
    rw [e] at hr
    cases q with
    | error z => cases hr
    | ok v =>
      have hr : Except.ok u = pz_b (pz_end (cB f n) v.1.1) (fun _ => .ok v) := hr
      cases e2 : pz_end (cB f n) v.1.1 with
      | error z => rw [e2] at hr; cases hr
      | ok z => rw [e2] at hr; cases hr; exact (hq u rfl).2.1
theorem pz_wa_ge {B : Nat → Int} {p : Nat} : ∀ (ws : List (List Int)) (k : Int), 0 ≤ k → -1 ≤ pz_wa B p ws k
  | [], k, _ => by show (-1 : Int) ≤ -1; omega
  | w :: t, k, h => by
    show -1 ≤ (if pz_wd B p w = true then k else pz_wa B p t (k + 1))
    by_cases z : pz_wd B p w = true
    · rw [if_pos z]; omega
    · rw [if_neg z]; exact pz_wa_ge t (k + 1) (by omega)
theorem waR_ge {B : Nat → Int} {ws : List (List Int)} {r : Except Int (Nat × Nat)} : -1 ≤ waR B ws 0 r := by
  cases r with
  | error e => exact Int.le_refl _
  | ok s => exact pz_wa_ge ws 0 (Int.le_refl _)
def RgE (r : Except Int (Nat × Nat)) (wr : Int32) : Prop := r = .error wr.toInt
theorem BfO.of {r : Except Int (Nat × Nat)} {B : Nat → Int} {wr nx rd bn : Int32} {v : Int × Int} (h : RgO r B wr nx) (hv : v = (rd.toInt, bn.toInt)) : BfO (pz_b r (fun s => .ok (s, v))) B wr nx rd bn := by
  subst hv
  refine ⟨?_, h.2⟩
  rw [h.1]; rfl
theorem BfE.of {r : Except Int (Nat × Nat)} {wr : Int32} {v : Int × Int} (h : RgE r wr) : BfE (pz_b r (fun s => .ok (s, v))) wr := by
  unfold RgE at h; unfold BfE; rw [h]; rfl
def Sd3 (f g : Nat → Int32) : Prop := g 3 = f 3
theorem Sd3.rf {f : Nat → Int32} : Sd3 f f := rfl
set_option maxHeartbeats 4000000 in
set_option maxRecDepth 100000 in
theorem ct_gX11_isWithin (l : Launch) (D : va_G) (tc : Nat → ClassId) (sk : (Nat → Nat) × (Nat → Nat)) (x1 : Int32) (x2 : Int32) (x3 : Int32)  : Ct l yX11_isWithin cX11_isWithin 3 (some .boolean) { frames := 0, cells := 0, slots := 0, locals := 0 } D tc sk [.int x1, .int x2, .int x3] [] (fun (v : Option Value) (_ : Unit) => ∃ r : Int32, v = some (.int r) ∧ (((r.toInt = 0 ∧ (x1.toInt < x2.toInt ∨ x3.toInt < x1.toInt)) ∨ (r.toInt = 1 ∧ x2.toInt ≤ x1.toInt ∧ x1.toInt ≤ x3.toInt)))) (fun (_ : Unit) => []) 0 0 := by
  refine Ct.start (by decide) (Nat.le_of_ble_eq_true rfl) (fun p e s m below meth c A ls hx hb hr hlk hin hml hown hts hK hX hP hD hA hl hS => ?_)
  have hl : lv_has ls 3 [(0, .int x1), (1, .int x2), (2, .int x3)] := hl
  refine lv_iload_n hx hb dX11_isWithin_0 rfl (lv_at hl 0 rfl) ?_
  refine lv_iload_n hx hb dX11_isWithin_1 rfl (lv_at hl 1 rfl) ?_
  refine lv_icmp_lt (tgt := 14) hx hb dX11_isWithin_2 (by decide) (fun c_1 => ?_) (fun c_1 => ?_)
  · skip
    refine lv_iconst (v := 0) hx hb dX11_isWithin_14 (by decide) ?_
    have hp_2 : (((0 : Int32).toInt = 0 ∧ (x1.toInt < x2.toInt ∨ x3.toInt < x1.toInt)) ∨ ((0 : Int32).toInt = 1 ∧ x2.toInt ≤ x1.toInt ∧ x1.toInt ≤ x3.toInt)) := by
      have z_1 := Int32.lt_iff_toInt_lt.mp c_1
      have y_0 : (0 : Int32).toInt = 0 := by decide
      have yr : (0 : Int32).toInt = 0 := by decide
      omega
    exact retI (v := 0) hx hb hr hlk (rfl) hP hD hS () ⟨_, rfl, hp_2⟩ [] rfl rfl dX11_isWithin_15 (Nat.le_of_ble_eq_true rfl) (Nat.le_of_ble_eq_true rfl) rfl
  · skip
    refine lv_iload_n hx hb dX11_isWithin_5 rfl (lv_at hl 0 rfl) ?_
    refine lv_iload_n hx hb dX11_isWithin_6 rfl (lv_at hl 2 rfl) ?_
    refine lv_icmp_gt (tgt := 14) hx hb dX11_isWithin_7 (by decide) (fun c_3 => ?_) (fun c_3 => ?_)
    · skip
      refine lv_iconst (v := 0) hx hb dX11_isWithin_14 (by decide) ?_
      have hp_4 : (((0 : Int32).toInt = 0 ∧ (x1.toInt < x2.toInt ∨ x3.toInt < x1.toInt)) ∨ ((0 : Int32).toInt = 1 ∧ x2.toInt ≤ x1.toInt ∧ x1.toInt ≤ x3.toInt)) := by
        have z_1 := Int32.le_iff_toInt_le.mp (Int32.not_lt.mp c_1)
        have z_2 := Int32.lt_iff_toInt_lt.mp c_3
        have y_0 : (0 : Int32).toInt = 0 := by decide
        have yr : (0 : Int32).toInt = 0 := by decide
        omega
      exact retI (v := 0) hx hb hr hlk (rfl) hP hD hS () ⟨_, rfl, hp_4⟩ [] rfl rfl dX11_isWithin_15 (Nat.le_of_ble_eq_true rfl) (Nat.le_of_ble_eq_true rfl) rfl
    · skip
      refine lv_iconst (v := 1) hx hb dX11_isWithin_10 (by decide) ?_
      refine lv_goto (tgt := 15) hx hb dX11_isWithin_11 (by decide) ?_
      have hp_5 : (((1 : Int32).toInt = 0 ∧ (x1.toInt < x2.toInt ∨ x3.toInt < x1.toInt)) ∨ ((1 : Int32).toInt = 1 ∧ x2.toInt ≤ x1.toInt ∧ x1.toInt ≤ x3.toInt)) := by
        have z_1 := Int32.le_iff_toInt_le.mp (Int32.not_lt.mp c_1)
        have z_2 := Int32.le_iff_toInt_le.mp (Int32.not_lt.mp c_3)
        have y_1 : (1 : Int32).toInt = 1 := by decide
        have yr : (1 : Int32).toInt = 1 := by decide
        omega
      exact retI (v := 1) hx hb hr hlk (rfl) hP hD hS () ⟨_, rfl, hp_5⟩ [] rfl rfl dX11_isWithin_15 (Nat.le_of_ble_eq_true rfl) (Nat.le_of_ble_eq_true rfl) rfl
set_option maxHeartbeats 4000000 in
set_option maxRecDepth 100000 in
theorem ct_gX9_hasBuyer (l : Launch) (D : va_G) (tc : Nat → ClassId) (sk : (Nat → Nat) × (Nat → Nat)) (Aa : Nat → Nat) (Av : Nat → Int32) (Af : Nat → Nat → Int32) (x1 : Int32)  : Ct l yX9_hasBuyer cX9_hasBuyer 2 (some .boolean) { frames := 0, cells := 0, slots := 0, locals := 0 } D tc sk [.ref (Aa 0), .int x1] [((Aa 0), .inr (9, [.int (Av 0), .int (Av 1), .int (Av 2), .int (Av 3), .int (Av 4), .int (Av 5), .ref (Aa 1), .ref (Aa 2), .ref (Aa 3), .ref (Aa 4), .ref (Aa 5), .ref (Aa 6), .ref (Aa 7), .ref (Aa 8)])), ((Aa 1), .inl (tc 0, 10, .inl (Af 1))), ((Aa 2), .inl (tc 0, 10, .inl (Af 2))), ((Aa 3), .inl (tc 0, 6, .inl (Af 3))), ((Aa 4), .inl (tc 0, 6, .inl (Af 4))), ((Aa 5), .inl (tc 0, 6, .inl (Af 5))), ((Aa 6), .inl (tc 0, 6, .inl (Af 6))), ((Aa 7), .inl (tc 0, 6, .inl (Af 7))), ((Aa 8), .inl (tc 0, 6, .inl (Af 8)))] (fun (v : Option Value) (_ : Unit) => ∃ r : Int32, v = some (.int r) ∧ (((r.toInt = 0 ∧ (x1.toInt < 0 ∨ (Av 3).toInt ≤ x1.toInt ∨ 6 ≤ x1.toInt)) ∨ (r.toInt = 1 ∧ 0 ≤ x1.toInt ∧ x1.toInt < (Av 3).toInt ∧ x1.toInt < 6)))) (fun (_ : Unit) => [((Aa 0), .inr (9, [.int (Av 0), .int (Av 1), .int (Av 2), .int (Av 3), .int (Av 4), .int (Av 5), .ref (Aa 1), .ref (Aa 2), .ref (Aa 3), .ref (Aa 4), .ref (Aa 5), .ref (Aa 6), .ref (Aa 7), .ref (Aa 8)])), ((Aa 1), .inl (tc 0, 10, .inl (Af 1))), ((Aa 2), .inl (tc 0, 10, .inl (Af 2))), ((Aa 3), .inl (tc 0, 6, .inl (Af 3))), ((Aa 4), .inl (tc 0, 6, .inl (Af 4))), ((Aa 5), .inl (tc 0, 6, .inl (Af 5))), ((Aa 6), .inl (tc 0, 6, .inl (Af 6))), ((Aa 7), .inl (tc 0, 6, .inl (Af 7))), ((Aa 8), .inl (tc 0, 6, .inl (Af 8)))]) 0 0 := by
  refine Ct.start (by decide) (Nat.le_of_ble_eq_true rfl) (fun p e s m below meth c A ls hx hb hr hlk hin hml hown hts hK hX hP hD hA hl hS => ?_)
  have hl : lv_has ls 2 [(0, .ref (Aa 0)), (1, .int x1)] := hl
  refine lv_iload_n hx hb dX9_hasBuyer_0 rfl (lv_at hl 1 rfl) ?_
  refine lv_if_lt (tgt := 22) hx hb dX9_hasBuyer_1 (by decide) (fun c_1 => ?_) (fun c_1 => ?_)
  · skip
    refine lv_iconst (v := 0) hx hb dX9_hasBuyer_22 (by decide) ?_
    have hp_2 : (((0 : Int32).toInt = 0 ∧ (x1.toInt < 0 ∨ (Av 3).toInt ≤ x1.toInt ∨ 6 ≤ x1.toInt)) ∨ ((0 : Int32).toInt = 1 ∧ 0 ≤ x1.toInt ∧ x1.toInt < (Av 3).toInt ∧ x1.toInt < 6)) := by
      have z_1 := Int32.lt_iff_toInt_lt.mp c_1
      have y_0 : (0 : Int32).toInt = 0 := by decide
      omega
    exact retI (v := 0) hx hb hr hlk (rfl) hP hD hS () ⟨_, rfl, hp_2⟩ [0, 1, 2, 3, 4, 5, 6, 7, 8] rfl rfl dX9_hasBuyer_23 (Nat.le_of_ble_eq_true rfl) (Nat.le_of_ble_eq_true rfl) rfl
  · skip
    refine lv_iload_n hx hb dX9_hasBuyer_4 rfl (lv_at hl 1 rfl) ?_
    refine lv_aload_n hx hb dX9_hasBuyer_5 rfl (lv_at hl 0 rfl) ?_
    refine gf_X9_21 hx hb hts hown hK hP 0 rfl rfl dX9_hasBuyer_6 ?_
    refine lv_icmp_ge (tgt := 22) hx hb dX9_hasBuyer_9 (by decide) (fun c_3 => ?_) (fun c_3 => ?_)
    · skip
      refine lv_iconst (v := 0) hx hb dX9_hasBuyer_22 (by decide) ?_
      have hp_4 : (((0 : Int32).toInt = 0 ∧ (x1.toInt < 0 ∨ (Av 3).toInt ≤ x1.toInt ∨ 6 ≤ x1.toInt)) ∨ ((0 : Int32).toInt = 1 ∧ 0 ≤ x1.toInt ∧ x1.toInt < (Av 3).toInt ∧ x1.toInt < 6)) := by
        have z_1 := Int32.le_iff_toInt_le.mp (Int32.not_lt.mp c_1)
        have z_2 := Int32.le_iff_toInt_le.mp c_3
        have y_0 : (0 : Int32).toInt = 0 := by decide
        omega
      exact retI (v := 0) hx hb hr hlk (rfl) hP hD hS () ⟨_, rfl, hp_4⟩ [0, 1, 2, 3, 4, 5, 6, 7, 8] rfl rfl dX9_hasBuyer_23 (Nat.le_of_ble_eq_true rfl) (Nat.le_of_ble_eq_true rfl) rfl
    · skip
      refine lv_iload_n hx hb dX9_hasBuyer_12 rfl (lv_at hl 1 rfl) ?_
      refine lv_bipush (v := 6) hx hb dX9_hasBuyer_13 (by decide) ?_
      refine lv_icmp_ge (tgt := 22) hx hb dX9_hasBuyer_15 (by decide) (fun c_5 => ?_) (fun c_5 => ?_)
      · skip
        refine lv_iconst (v := 0) hx hb dX9_hasBuyer_22 (by decide) ?_
        have hp_6 : (((0 : Int32).toInt = 0 ∧ (x1.toInt < 0 ∨ (Av 3).toInt ≤ x1.toInt ∨ 6 ≤ x1.toInt)) ∨ ((0 : Int32).toInt = 1 ∧ 0 ≤ x1.toInt ∧ x1.toInt < (Av 3).toInt ∧ x1.toInt < 6)) := by
          have z_1 := Int32.le_iff_toInt_le.mp (Int32.not_lt.mp c_1)
          have z_2 := Int32.lt_iff_toInt_lt.mp (Int32.not_le.mp c_3)
          have z_3 := Int32.le_iff_toInt_le.mp c_5
          have y_0 : (0 : Int32).toInt = 0 := by decide
          have y_6 : (6 : Int32).toInt = 6 := by decide
          omega
        exact retI (v := 0) hx hb hr hlk (rfl) hP hD hS () ⟨_, rfl, hp_6⟩ [0, 1, 2, 3, 4, 5, 6, 7, 8] rfl rfl dX9_hasBuyer_23 (Nat.le_of_ble_eq_true rfl) (Nat.le_of_ble_eq_true rfl) rfl
      · skip
        refine lv_iconst (v := 1) hx hb dX9_hasBuyer_18 (by decide) ?_
        refine lv_goto (tgt := 23) hx hb dX9_hasBuyer_19 (by decide) ?_
        have hp_7 : (((1 : Int32).toInt = 0 ∧ (x1.toInt < 0 ∨ (Av 3).toInt ≤ x1.toInt ∨ 6 ≤ x1.toInt)) ∨ ((1 : Int32).toInt = 1 ∧ 0 ≤ x1.toInt ∧ x1.toInt < (Av 3).toInt ∧ x1.toInt < 6)) := by
          have z_1 := Int32.le_iff_toInt_le.mp (Int32.not_lt.mp c_1)
          have z_2 := Int32.lt_iff_toInt_lt.mp (Int32.not_le.mp c_3)
          have z_3 := Int32.lt_iff_toInt_lt.mp (Int32.not_le.mp c_5)
          have y_0 : (0 : Int32).toInt = 0 := by decide
          have y_6 : (6 : Int32).toInt = 6 := by decide
          have y_1 : (1 : Int32).toInt = 1 := by decide
          have yr : (1 : Int32).toInt = 1 := by decide
          omega
        exact retI (v := 1) hx hb hr hlk (rfl) hP hD hS () ⟨_, rfl, hp_7⟩ [0, 1, 2, 3, 4, 5, 6, 7, 8] rfl rfl dX9_hasBuyer_23 (Nat.le_of_ble_eq_true rfl) (Nat.le_of_ble_eq_true rfl) rfl
set_option maxRecDepth 100000 in
theorem cu_gX9_hasBuyer (l : Launch) (D : va_G) (tc : Nat → ClassId) (sk : (Nat → Nat) × (Nat → Nat)) (Aa_0 : Nat) (Aa_1 : Nat) (Aa_2 : Nat) (Aa_3 : Nat) (Aa_4 : Nat) (Aa_5 : Nat) (Aa_6 : Nat) (Aa_7 : Nat) (Aa_8 : Nat) (Av_0 : Int32) (Av_1 : Int32) (Av_2 : Int32) (Av_3 : Int32) (Av_4 : Int32) (Av_5 : Int32) (Af_1 : Nat → Int32) (Af_2 : Nat → Int32) (Af_3 : Nat → Int32) (Af_4 : Nat → Int32) (Af_5 : Nat → Int32) (Af_6 : Nat → Int32) (Af_7 : Nat → Int32) (Af_8 : Nat → Int32) (x1 : Int32)  : Ct l yX9_hasBuyer cX9_hasBuyer 2 (some .boolean) { frames := 0, cells := 0, slots := 0, locals := 0 } D tc sk [.ref Aa_0, .int x1] [(Aa_0, .inr (9, [.int Av_0, .int Av_1, .int Av_2, .int Av_3, .int Av_4, .int Av_5, .ref Aa_1, .ref Aa_2, .ref Aa_3, .ref Aa_4, .ref Aa_5, .ref Aa_6, .ref Aa_7, .ref Aa_8])), (Aa_1, .inl (tc 0, 10, .inl Af_1)), (Aa_2, .inl (tc 0, 10, .inl Af_2)), (Aa_3, .inl (tc 0, 6, .inl Af_3)), (Aa_4, .inl (tc 0, 6, .inl Af_4)), (Aa_5, .inl (tc 0, 6, .inl Af_5)), (Aa_6, .inl (tc 0, 6, .inl Af_6)), (Aa_7, .inl (tc 0, 6, .inl Af_7)), (Aa_8, .inl (tc 0, 6, .inl Af_8))] (fun (v : Option Value) (_ : Unit) => ∃ r : Int32, v = some (.int r) ∧ (((r.toInt = 0 ∧ (x1.toInt < 0 ∨ Av_3.toInt ≤ x1.toInt ∨ 6 ≤ x1.toInt)) ∨ (r.toInt = 1 ∧ 0 ≤ x1.toInt ∧ x1.toInt < Av_3.toInt ∧ x1.toInt < 6)))) (fun (_ : Unit) => [(Aa_0, .inr (9, [.int Av_0, .int Av_1, .int Av_2, .int Av_3, .int Av_4, .int Av_5, .ref Aa_1, .ref Aa_2, .ref Aa_3, .ref Aa_4, .ref Aa_5, .ref Aa_6, .ref Aa_7, .ref Aa_8])), (Aa_1, .inl (tc 0, 10, .inl Af_1)), (Aa_2, .inl (tc 0, 10, .inl Af_2)), (Aa_3, .inl (tc 0, 6, .inl Af_3)), (Aa_4, .inl (tc 0, 6, .inl Af_4)), (Aa_5, .inl (tc 0, 6, .inl Af_5)), (Aa_6, .inl (tc 0, 6, .inl Af_6)), (Aa_7, .inl (tc 0, 6, .inl Af_7)), (Aa_8, .inl (tc 0, 6, .inl Af_8))]) 0 0 :=
  ct_gX9_hasBuyer l D tc sk (fun k => ([Aa_0, Aa_1, Aa_2, Aa_3, Aa_4, Aa_5, Aa_6, Aa_7, Aa_8] : List (Nat)).getD k 0) (fun k => ([Av_0, Av_1, Av_2, Av_3, Av_4, Av_5] : List (Int32)).getD k 0) (fun k => ([(fun _ => 0), Af_1, Af_2, Af_3, Af_4, Af_5, Af_6, Af_7, Af_8] : List (Nat → Int32)).getD k (fun _ => 0)) x1 
set_option maxHeartbeats 4000000 in
set_option maxRecDepth 100000 in
theorem ct_zX9_hasClock (l : Launch) (D : va_G) (tc : Nat → ClassId) (sk : (Nat → Nat) × (Nat → Nat)) (Aa : Nat → Nat) (Av : Nat → Int32) (Af : Nat → Nat → Int32) (x1 : Int32)  : Ct l yX9_hasClock cX9_hasClock 2 (some .boolean) { frames := 0, cells := 0, slots := 0, locals := 0 } D tc sk [.ref (Aa 0), .int x1] [((Aa 0), .inr (9, [.int (Av 0), .int (Av 1), .int (Av 2), .int (Av 3), .int (Av 4), .int (Av 5), .ref (Aa 1), .ref (Aa 2), .ref (Aa 3), .ref (Aa 4), .ref (Aa 5), .ref (Aa 6), .ref (Aa 7), .ref (Aa 8)])), ((Aa 1), .inl (tc 0, 10, .inl (Af 1))), ((Aa 2), .inl (tc 0, 10, .inl (Af 2))), ((Aa 3), .inl (tc 0, 6, .inl (Af 3))), ((Aa 4), .inl (tc 0, 6, .inl (Af 4))), ((Aa 5), .inl (tc 0, 6, .inl (Af 5))), ((Aa 6), .inl (tc 0, 6, .inl (Af 6))), ((Aa 7), .inl (tc 0, 6, .inl (Af 7))), ((Aa 8), .inl (tc 0, 6, .inl (Af 8)))] (fun (v : Option Value) (_ : Unit) => ∃ r : Int32, v = some (.int r) ∧ (((r.toInt = 0 ∧ ¬ (0 ≤ x1.toInt ∧ x1.toInt < (Av 2).toInt ∧ x1.toInt < 10)) ∨ (r.toInt = 1 ∧ (0 ≤ x1.toInt ∧ x1.toInt < (Av 2).toInt ∧ x1.toInt < 10))))) (fun (_ : Unit) => [((Aa 0), .inr (9, [.int (Av 0), .int (Av 1), .int (Av 2), .int (Av 3), .int (Av 4), .int (Av 5), .ref (Aa 1), .ref (Aa 2), .ref (Aa 3), .ref (Aa 4), .ref (Aa 5), .ref (Aa 6), .ref (Aa 7), .ref (Aa 8)])), ((Aa 1), .inl (tc 0, 10, .inl (Af 1))), ((Aa 2), .inl (tc 0, 10, .inl (Af 2))), ((Aa 3), .inl (tc 0, 6, .inl (Af 3))), ((Aa 4), .inl (tc 0, 6, .inl (Af 4))), ((Aa 5), .inl (tc 0, 6, .inl (Af 5))), ((Aa 6), .inl (tc 0, 6, .inl (Af 6))), ((Aa 7), .inl (tc 0, 6, .inl (Af 7))), ((Aa 8), .inl (tc 0, 6, .inl (Af 8)))]) 0 0 := by
  refine Ct.start (by decide) (Nat.le_of_ble_eq_true rfl) (fun p e s m below meth c A ls hx hb hr hlk hin hml hown hts hK hX hP hD hA hl hS => ?_)
  have hl : lv_has ls 2 [(0, .ref (Aa 0)), (1, .int x1)] := hl
  refine lv_iload_n hx hb dX9_hasClock_0 rfl (lv_at hl 1 rfl) ?_
  refine lv_if_lt (tgt := 22) hx hb dX9_hasClock_1 (by decide) (fun c_1 => ?_) (fun c_1 => ?_)
  · skip
    refine lv_iconst (v := 0) hx hb dX9_hasClock_22 (by decide) ?_
    have hp_2 : (((0 : Int32).toInt = 0 ∧ ¬ (0 ≤ x1.toInt ∧ x1.toInt < (Av 2).toInt ∧ x1.toInt < 10)) ∨ ((0 : Int32).toInt = 1 ∧ (0 ≤ x1.toInt ∧ x1.toInt < (Av 2).toInt ∧ x1.toInt < 10))) := by
      have z_1 := Int32.lt_iff_toInt_lt.mp c_1
      have y_0 : (0 : Int32).toInt = 0 := by decide
      omega
    exact retI (v := 0) hx hb hr hlk (rfl) hP hD hS () ⟨_, rfl, hp_2⟩ [0, 1, 2, 3, 4, 5, 6, 7, 8] rfl rfl dX9_hasClock_23 (Nat.le_of_ble_eq_true rfl) (Nat.le_of_ble_eq_true rfl) rfl
  · skip
    refine lv_iload_n hx hb dX9_hasClock_4 rfl (lv_at hl 1 rfl) ?_
    refine lv_aload_n hx hb dX9_hasClock_5 rfl (lv_at hl 0 rfl) ?_
    refine gf_X9_18 hx hb hts hown hK hP 0 rfl rfl dX9_hasClock_6 ?_
    refine lv_icmp_ge (tgt := 22) hx hb dX9_hasClock_9 (by decide) (fun c_3 => ?_) (fun c_3 => ?_)
    · skip
      refine lv_iconst (v := 0) hx hb dX9_hasClock_22 (by decide) ?_
      have hp_4 : (((0 : Int32).toInt = 0 ∧ ¬ (0 ≤ x1.toInt ∧ x1.toInt < (Av 2).toInt ∧ x1.toInt < 10)) ∨ ((0 : Int32).toInt = 1 ∧ (0 ≤ x1.toInt ∧ x1.toInt < (Av 2).toInt ∧ x1.toInt < 10))) := by
        have z_1 := Int32.le_iff_toInt_le.mp (Int32.not_lt.mp c_1)
        have z_2 := Int32.le_iff_toInt_le.mp c_3
        have y_0 : (0 : Int32).toInt = 0 := by decide
        omega
      exact retI (v := 0) hx hb hr hlk (rfl) hP hD hS () ⟨_, rfl, hp_4⟩ [0, 1, 2, 3, 4, 5, 6, 7, 8] rfl rfl dX9_hasClock_23 (Nat.le_of_ble_eq_true rfl) (Nat.le_of_ble_eq_true rfl) rfl
    · skip
      refine lv_iload_n hx hb dX9_hasClock_12 rfl (lv_at hl 1 rfl) ?_
      refine lv_bipush (v := 10) hx hb dX9_hasClock_13 (by decide) ?_
      refine lv_icmp_ge (tgt := 22) hx hb dX9_hasClock_15 (by decide) (fun c_5 => ?_) (fun c_5 => ?_)
      · skip
        refine lv_iconst (v := 0) hx hb dX9_hasClock_22 (by decide) ?_
        have hp_6 : (((0 : Int32).toInt = 0 ∧ ¬ (0 ≤ x1.toInt ∧ x1.toInt < (Av 2).toInt ∧ x1.toInt < 10)) ∨ ((0 : Int32).toInt = 1 ∧ (0 ≤ x1.toInt ∧ x1.toInt < (Av 2).toInt ∧ x1.toInt < 10))) := by
          have z_1 := Int32.le_iff_toInt_le.mp (Int32.not_lt.mp c_1)
          have z_2 := Int32.lt_iff_toInt_lt.mp (Int32.not_le.mp c_3)
          have z_3 := Int32.le_iff_toInt_le.mp c_5
          have y_0 : (0 : Int32).toInt = 0 := by decide
          have y_10 : (10 : Int32).toInt = 10 := by decide
          omega
        exact retI (v := 0) hx hb hr hlk (rfl) hP hD hS () ⟨_, rfl, hp_6⟩ [0, 1, 2, 3, 4, 5, 6, 7, 8] rfl rfl dX9_hasClock_23 (Nat.le_of_ble_eq_true rfl) (Nat.le_of_ble_eq_true rfl) rfl
      · skip
        refine lv_iconst (v := 1) hx hb dX9_hasClock_18 (by decide) ?_
        refine lv_goto (tgt := 23) hx hb dX9_hasClock_19 (by decide) ?_
        have hp_7 : (((1 : Int32).toInt = 0 ∧ ¬ (0 ≤ x1.toInt ∧ x1.toInt < (Av 2).toInt ∧ x1.toInt < 10)) ∨ ((1 : Int32).toInt = 1 ∧ (0 ≤ x1.toInt ∧ x1.toInt < (Av 2).toInt ∧ x1.toInt < 10))) := by
          have z_1 := Int32.le_iff_toInt_le.mp (Int32.not_lt.mp c_1)
          have z_2 := Int32.lt_iff_toInt_lt.mp (Int32.not_le.mp c_3)
          have z_3 := Int32.lt_iff_toInt_lt.mp (Int32.not_le.mp c_5)
          have y_0 : (0 : Int32).toInt = 0 := by decide
          have y_10 : (10 : Int32).toInt = 10 := by decide
          have y_1 : (1 : Int32).toInt = 1 := by decide
          have yr : (1 : Int32).toInt = 1 := by decide
          omega
        exact retI (v := 1) hx hb hr hlk (rfl) hP hD hS () ⟨_, rfl, hp_7⟩ [0, 1, 2, 3, 4, 5, 6, 7, 8] rfl rfl dX9_hasClock_23 (Nat.le_of_ble_eq_true rfl) (Nat.le_of_ble_eq_true rfl) rfl
set_option maxRecDepth 100000 in
theorem cu_zX9_hasClock (l : Launch) (D : va_G) (tc : Nat → ClassId) (sk : (Nat → Nat) × (Nat → Nat)) (Aa_0 : Nat) (Aa_1 : Nat) (Aa_2 : Nat) (Aa_3 : Nat) (Aa_4 : Nat) (Aa_5 : Nat) (Aa_6 : Nat) (Aa_7 : Nat) (Aa_8 : Nat) (Av_0 : Int32) (Av_1 : Int32) (Av_2 : Int32) (Av_3 : Int32) (Av_4 : Int32) (Av_5 : Int32) (Af_1 : Nat → Int32) (Af_2 : Nat → Int32) (Af_3 : Nat → Int32) (Af_4 : Nat → Int32) (Af_5 : Nat → Int32) (Af_6 : Nat → Int32) (Af_7 : Nat → Int32) (Af_8 : Nat → Int32) (x1 : Int32)  : Ct l yX9_hasClock cX9_hasClock 2 (some .boolean) { frames := 0, cells := 0, slots := 0, locals := 0 } D tc sk [.ref Aa_0, .int x1] [(Aa_0, .inr (9, [.int Av_0, .int Av_1, .int Av_2, .int Av_3, .int Av_4, .int Av_5, .ref Aa_1, .ref Aa_2, .ref Aa_3, .ref Aa_4, .ref Aa_5, .ref Aa_6, .ref Aa_7, .ref Aa_8])), (Aa_1, .inl (tc 0, 10, .inl Af_1)), (Aa_2, .inl (tc 0, 10, .inl Af_2)), (Aa_3, .inl (tc 0, 6, .inl Af_3)), (Aa_4, .inl (tc 0, 6, .inl Af_4)), (Aa_5, .inl (tc 0, 6, .inl Af_5)), (Aa_6, .inl (tc 0, 6, .inl Af_6)), (Aa_7, .inl (tc 0, 6, .inl Af_7)), (Aa_8, .inl (tc 0, 6, .inl Af_8))] (fun (v : Option Value) (_ : Unit) => ∃ r : Int32, v = some (.int r) ∧ (((r.toInt = 0 ∧ ¬ (0 ≤ x1.toInt ∧ x1.toInt < Av_2.toInt ∧ x1.toInt < 10)) ∨ (r.toInt = 1 ∧ (0 ≤ x1.toInt ∧ x1.toInt < Av_2.toInt ∧ x1.toInt < 10))))) (fun (_ : Unit) => [(Aa_0, .inr (9, [.int Av_0, .int Av_1, .int Av_2, .int Av_3, .int Av_4, .int Av_5, .ref Aa_1, .ref Aa_2, .ref Aa_3, .ref Aa_4, .ref Aa_5, .ref Aa_6, .ref Aa_7, .ref Aa_8])), (Aa_1, .inl (tc 0, 10, .inl Af_1)), (Aa_2, .inl (tc 0, 10, .inl Af_2)), (Aa_3, .inl (tc 0, 6, .inl Af_3)), (Aa_4, .inl (tc 0, 6, .inl Af_4)), (Aa_5, .inl (tc 0, 6, .inl Af_5)), (Aa_6, .inl (tc 0, 6, .inl Af_6)), (Aa_7, .inl (tc 0, 6, .inl Af_7)), (Aa_8, .inl (tc 0, 6, .inl Af_8))]) 0 0 :=
  ct_zX9_hasClock l D tc sk (fun k => ([Aa_0, Aa_1, Aa_2, Aa_3, Aa_4, Aa_5, Aa_6, Aa_7, Aa_8] : List (Nat)).getD k 0) (fun k => ([Av_0, Av_1, Av_2, Av_3, Av_4, Av_5] : List (Int32)).getD k 0) (fun k => ([(fun _ => 0), Af_1, Af_2, Af_3, Af_4, Af_5, Af_6, Af_7, Af_8] : List (Nat → Int32)).getD k (fun _ => 0)) x1 
set_option maxHeartbeats 4000000 in
set_option maxRecDepth 100000 in
theorem ct_zX9_hasBuyer (l : Launch) (D : va_G) (tc : Nat → ClassId) (sk : (Nat → Nat) × (Nat → Nat)) (Aa : Nat → Nat) (Av : Nat → Int32) (Af : Nat → Nat → Int32) (x1 : Int32)  : Ct l yX9_hasBuyer cX9_hasBuyer 2 (some .boolean) { frames := 0, cells := 0, slots := 0, locals := 0 } D tc sk [.ref (Aa 0), .int x1] [((Aa 0), .inr (9, [.int (Av 0), .int (Av 1), .int (Av 2), .int (Av 3), .int (Av 4), .int (Av 5), .ref (Aa 1), .ref (Aa 2), .ref (Aa 3), .ref (Aa 4), .ref (Aa 5), .ref (Aa 6), .ref (Aa 7), .ref (Aa 8)])), ((Aa 1), .inl (tc 0, 10, .inl (Af 1))), ((Aa 2), .inl (tc 0, 10, .inl (Af 2))), ((Aa 3), .inl (tc 0, 6, .inl (Af 3))), ((Aa 4), .inl (tc 0, 6, .inl (Af 4))), ((Aa 5), .inl (tc 0, 6, .inl (Af 5))), ((Aa 6), .inl (tc 0, 6, .inl (Af 6))), ((Aa 7), .inl (tc 0, 6, .inl (Af 7))), ((Aa 8), .inl (tc 0, 6, .inl (Af 8)))] (fun (v : Option Value) (_ : Unit) => ∃ r : Int32, v = some (.int r) ∧ (((r.toInt = 0 ∧ ¬ (0 ≤ x1.toInt ∧ x1.toInt < (Av 3).toInt ∧ x1.toInt < 6)) ∨ (r.toInt = 1 ∧ (0 ≤ x1.toInt ∧ x1.toInt < (Av 3).toInt ∧ x1.toInt < 6))))) (fun (_ : Unit) => [((Aa 0), .inr (9, [.int (Av 0), .int (Av 1), .int (Av 2), .int (Av 3), .int (Av 4), .int (Av 5), .ref (Aa 1), .ref (Aa 2), .ref (Aa 3), .ref (Aa 4), .ref (Aa 5), .ref (Aa 6), .ref (Aa 7), .ref (Aa 8)])), ((Aa 1), .inl (tc 0, 10, .inl (Af 1))), ((Aa 2), .inl (tc 0, 10, .inl (Af 2))), ((Aa 3), .inl (tc 0, 6, .inl (Af 3))), ((Aa 4), .inl (tc 0, 6, .inl (Af 4))), ((Aa 5), .inl (tc 0, 6, .inl (Af 5))), ((Aa 6), .inl (tc 0, 6, .inl (Af 6))), ((Aa 7), .inl (tc 0, 6, .inl (Af 7))), ((Aa 8), .inl (tc 0, 6, .inl (Af 8)))]) 0 0 := by
  refine Ct.start (by decide) (Nat.le_of_ble_eq_true rfl) (fun p e s m below meth c A ls hx hb hr hlk hin hml hown hts hK hX hP hD hA hl hS => ?_)
  have hl : lv_has ls 2 [(0, .ref (Aa 0)), (1, .int x1)] := hl
  refine lv_iload_n hx hb dX9_hasBuyer_0 rfl (lv_at hl 1 rfl) ?_
  refine lv_if_lt (tgt := 22) hx hb dX9_hasBuyer_1 (by decide) (fun c_1 => ?_) (fun c_1 => ?_)
  · skip
    refine lv_iconst (v := 0) hx hb dX9_hasBuyer_22 (by decide) ?_
    have hp_2 : (((0 : Int32).toInt = 0 ∧ ¬ (0 ≤ x1.toInt ∧ x1.toInt < (Av 3).toInt ∧ x1.toInt < 6)) ∨ ((0 : Int32).toInt = 1 ∧ (0 ≤ x1.toInt ∧ x1.toInt < (Av 3).toInt ∧ x1.toInt < 6))) := by
      have z_1 := Int32.lt_iff_toInt_lt.mp c_1
      have y_0 : (0 : Int32).toInt = 0 := by decide
      omega
    exact retI (v := 0) hx hb hr hlk (rfl) hP hD hS () ⟨_, rfl, hp_2⟩ [0, 1, 2, 3, 4, 5, 6, 7, 8] rfl rfl dX9_hasBuyer_23 (Nat.le_of_ble_eq_true rfl) (Nat.le_of_ble_eq_true rfl) rfl
  · skip
    refine lv_iload_n hx hb dX9_hasBuyer_4 rfl (lv_at hl 1 rfl) ?_
    refine lv_aload_n hx hb dX9_hasBuyer_5 rfl (lv_at hl 0 rfl) ?_
    refine gf_X9_21 hx hb hts hown hK hP 0 rfl rfl dX9_hasBuyer_6 ?_
    refine lv_icmp_ge (tgt := 22) hx hb dX9_hasBuyer_9 (by decide) (fun c_3 => ?_) (fun c_3 => ?_)
    · skip
      refine lv_iconst (v := 0) hx hb dX9_hasBuyer_22 (by decide) ?_
      have hp_4 : (((0 : Int32).toInt = 0 ∧ ¬ (0 ≤ x1.toInt ∧ x1.toInt < (Av 3).toInt ∧ x1.toInt < 6)) ∨ ((0 : Int32).toInt = 1 ∧ (0 ≤ x1.toInt ∧ x1.toInt < (Av 3).toInt ∧ x1.toInt < 6))) := by
        have z_1 := Int32.le_iff_toInt_le.mp (Int32.not_lt.mp c_1)
        have z_2 := Int32.le_iff_toInt_le.mp c_3
        have y_0 : (0 : Int32).toInt = 0 := by decide
        omega
      exact retI (v := 0) hx hb hr hlk (rfl) hP hD hS () ⟨_, rfl, hp_4⟩ [0, 1, 2, 3, 4, 5, 6, 7, 8] rfl rfl dX9_hasBuyer_23 (Nat.le_of_ble_eq_true rfl) (Nat.le_of_ble_eq_true rfl) rfl
    · skip
      refine lv_iload_n hx hb dX9_hasBuyer_12 rfl (lv_at hl 1 rfl) ?_
      refine lv_bipush (v := 6) hx hb dX9_hasBuyer_13 (by decide) ?_
      refine lv_icmp_ge (tgt := 22) hx hb dX9_hasBuyer_15 (by decide) (fun c_5 => ?_) (fun c_5 => ?_)
      · skip
        refine lv_iconst (v := 0) hx hb dX9_hasBuyer_22 (by decide) ?_
        have hp_6 : (((0 : Int32).toInt = 0 ∧ ¬ (0 ≤ x1.toInt ∧ x1.toInt < (Av 3).toInt ∧ x1.toInt < 6)) ∨ ((0 : Int32).toInt = 1 ∧ (0 ≤ x1.toInt ∧ x1.toInt < (Av 3).toInt ∧ x1.toInt < 6))) := by
          have z_1 := Int32.le_iff_toInt_le.mp (Int32.not_lt.mp c_1)
          have z_2 := Int32.lt_iff_toInt_lt.mp (Int32.not_le.mp c_3)
          have z_3 := Int32.le_iff_toInt_le.mp c_5
          have y_0 : (0 : Int32).toInt = 0 := by decide
          have y_6 : (6 : Int32).toInt = 6 := by decide
          omega
        exact retI (v := 0) hx hb hr hlk (rfl) hP hD hS () ⟨_, rfl, hp_6⟩ [0, 1, 2, 3, 4, 5, 6, 7, 8] rfl rfl dX9_hasBuyer_23 (Nat.le_of_ble_eq_true rfl) (Nat.le_of_ble_eq_true rfl) rfl
      · skip
        refine lv_iconst (v := 1) hx hb dX9_hasBuyer_18 (by decide) ?_
        refine lv_goto (tgt := 23) hx hb dX9_hasBuyer_19 (by decide) ?_
        have hp_7 : (((1 : Int32).toInt = 0 ∧ ¬ (0 ≤ x1.toInt ∧ x1.toInt < (Av 3).toInt ∧ x1.toInt < 6)) ∨ ((1 : Int32).toInt = 1 ∧ (0 ≤ x1.toInt ∧ x1.toInt < (Av 3).toInt ∧ x1.toInt < 6))) := by
          have z_1 := Int32.le_iff_toInt_le.mp (Int32.not_lt.mp c_1)
          have z_2 := Int32.lt_iff_toInt_lt.mp (Int32.not_le.mp c_3)
          have z_3 := Int32.lt_iff_toInt_lt.mp (Int32.not_le.mp c_5)
          have y_0 : (0 : Int32).toInt = 0 := by decide
          have y_6 : (6 : Int32).toInt = 6 := by decide
          have y_1 : (1 : Int32).toInt = 1 := by decide
          have yr : (1 : Int32).toInt = 1 := by decide
          omega
        exact retI (v := 1) hx hb hr hlk (rfl) hP hD hS () ⟨_, rfl, hp_7⟩ [0, 1, 2, 3, 4, 5, 6, 7, 8] rfl rfl dX9_hasBuyer_23 (Nat.le_of_ble_eq_true rfl) (Nat.le_of_ble_eq_true rfl) rfl
set_option maxRecDepth 100000 in
theorem cu_zX9_hasBuyer (l : Launch) (D : va_G) (tc : Nat → ClassId) (sk : (Nat → Nat) × (Nat → Nat)) (Aa_0 : Nat) (Aa_1 : Nat) (Aa_2 : Nat) (Aa_3 : Nat) (Aa_4 : Nat) (Aa_5 : Nat) (Aa_6 : Nat) (Aa_7 : Nat) (Aa_8 : Nat) (Av_0 : Int32) (Av_1 : Int32) (Av_2 : Int32) (Av_3 : Int32) (Av_4 : Int32) (Av_5 : Int32) (Af_1 : Nat → Int32) (Af_2 : Nat → Int32) (Af_3 : Nat → Int32) (Af_4 : Nat → Int32) (Af_5 : Nat → Int32) (Af_6 : Nat → Int32) (Af_7 : Nat → Int32) (Af_8 : Nat → Int32) (x1 : Int32)  : Ct l yX9_hasBuyer cX9_hasBuyer 2 (some .boolean) { frames := 0, cells := 0, slots := 0, locals := 0 } D tc sk [.ref Aa_0, .int x1] [(Aa_0, .inr (9, [.int Av_0, .int Av_1, .int Av_2, .int Av_3, .int Av_4, .int Av_5, .ref Aa_1, .ref Aa_2, .ref Aa_3, .ref Aa_4, .ref Aa_5, .ref Aa_6, .ref Aa_7, .ref Aa_8])), (Aa_1, .inl (tc 0, 10, .inl Af_1)), (Aa_2, .inl (tc 0, 10, .inl Af_2)), (Aa_3, .inl (tc 0, 6, .inl Af_3)), (Aa_4, .inl (tc 0, 6, .inl Af_4)), (Aa_5, .inl (tc 0, 6, .inl Af_5)), (Aa_6, .inl (tc 0, 6, .inl Af_6)), (Aa_7, .inl (tc 0, 6, .inl Af_7)), (Aa_8, .inl (tc 0, 6, .inl Af_8))] (fun (v : Option Value) (_ : Unit) => ∃ r : Int32, v = some (.int r) ∧ (((r.toInt = 0 ∧ ¬ (0 ≤ x1.toInt ∧ x1.toInt < Av_3.toInt ∧ x1.toInt < 6)) ∨ (r.toInt = 1 ∧ (0 ≤ x1.toInt ∧ x1.toInt < Av_3.toInt ∧ x1.toInt < 6))))) (fun (_ : Unit) => [(Aa_0, .inr (9, [.int Av_0, .int Av_1, .int Av_2, .int Av_3, .int Av_4, .int Av_5, .ref Aa_1, .ref Aa_2, .ref Aa_3, .ref Aa_4, .ref Aa_5, .ref Aa_6, .ref Aa_7, .ref Aa_8])), (Aa_1, .inl (tc 0, 10, .inl Af_1)), (Aa_2, .inl (tc 0, 10, .inl Af_2)), (Aa_3, .inl (tc 0, 6, .inl Af_3)), (Aa_4, .inl (tc 0, 6, .inl Af_4)), (Aa_5, .inl (tc 0, 6, .inl Af_5)), (Aa_6, .inl (tc 0, 6, .inl Af_6)), (Aa_7, .inl (tc 0, 6, .inl Af_7)), (Aa_8, .inl (tc 0, 6, .inl Af_8))]) 0 0 :=
  ct_zX9_hasBuyer l D tc sk (fun k => ([Aa_0, Aa_1, Aa_2, Aa_3, Aa_4, Aa_5, Aa_6, Aa_7, Aa_8] : List (Nat)).getD k 0) (fun k => ([Av_0, Av_1, Av_2, Av_3, Av_4, Av_5] : List (Int32)).getD k 0) (fun k => ([(fun _ => 0), Af_1, Af_2, Af_3, Af_4, Af_5, Af_6, Af_7, Af_8] : List (Nat → Int32)).getD k (fun _ => 0)) x1 
set_option maxHeartbeats 4000000 in
set_option maxRecDepth 100000 in
theorem ct_zX9_clear (l : Launch) (D : va_G) (tc : Nat → ClassId) (sk : (Nat → Nat) × (Nat → Nat)) (Aa : Nat → Nat) (Av : Nat → Int32) (Af : Nat → Nat → Int32)  : Ct l yX9_clear cX9_clear 2 none { frames := 0, cells := 0, slots := 0, locals := 0 } D tc sk [.ref (Aa 0)] [((Aa 0), .inr (9, [.int (Av 0), .int (Av 1), .int (Av 2), .int (Av 3), .int (Av 4), .int (Av 5), .ref (Aa 1), .ref (Aa 2), .ref (Aa 3), .ref (Aa 4), .ref (Aa 5), .ref (Aa 6), .ref (Aa 7), .ref (Aa 8)])), ((Aa 1), .inl (tc 0, 10, .inl (Af 1))), ((Aa 2), .inl (tc 0, 10, .inl (Af 2))), ((Aa 3), .inl (tc 0, 6, .inl (Af 3))), ((Aa 4), .inl (tc 0, 6, .inl (Af 4))), ((Aa 5), .inl (tc 0, 6, .inl (Af 5))), ((Aa 6), .inl (tc 0, 6, .inl (Af 6))), ((Aa 7), .inl (tc 0, 6, .inl (Af 7))), ((Aa 8), .inl (tc 0, 6, .inl (Af 8)))] (fun (v : Option Value) (u : (Nat → Int32) × (Nat → Int32) × (Nat → Int32) × (Nat → Int32) × (Nat → Int32) × (Nat → Int32) × (Nat → Int32) × (Nat → Int32)) => match u with | (oo0x1, oo0x2, oo0x3, oo0x4, oo0x5, oo0x6, oo0x7, oo0x8) => v = none ∧ (ShC 0 0 0 0 0 0 oo0x1 oo0x2 oo0x3 oo0x4 oo0x5 oo0x6 oo0x7 oo0x8 qz_0)) (fun (u : (Nat → Int32) × (Nat → Int32) × (Nat → Int32) × (Nat → Int32) × (Nat → Int32) × (Nat → Int32) × (Nat → Int32) × (Nat → Int32)) => match u with | (oo0x1, oo0x2, oo0x3, oo0x4, oo0x5, oo0x6, oo0x7, oo0x8) => [((Aa 0), .inr (9, [.int 0, .int 0, .int 0, .int 0, .int 0, .int 0, .ref (Aa 1), .ref (Aa 2), .ref (Aa 3), .ref (Aa 4), .ref (Aa 5), .ref (Aa 6), .ref (Aa 7), .ref (Aa 8)])), ((Aa 1), .inl (tc 0, 10, .inl oo0x1)), ((Aa 2), .inl (tc 0, 10, .inl oo0x2)), ((Aa 3), .inl (tc 0, 6, .inl oo0x3)), ((Aa 4), .inl (tc 0, 6, .inl oo0x4)), ((Aa 5), .inl (tc 0, 6, .inl oo0x5)), ((Aa 6), .inl (tc 0, 6, .inl oo0x6)), ((Aa 7), .inl (tc 0, 6, .inl oo0x7)), ((Aa 8), .inl (tc 0, 6, .inl oo0x8))]) 0 0 := by
  refine Ct.start (by decide) (Nat.le_of_ble_eq_true rfl) (fun p e s m below meth c A ls hx hb hr hlk hin hml hown hts hK hX hP hD hA hl hS => ?_)
  have hl : lv_has ls 2 [(0, .ref (Aa 0))] := hl
  refine lv_aload_n hx hb dX9_clear_0 rfl (lv_at hl 0 rfl) ?_
  refine lv_iconst (v := 0) hx hb dX9_clear_1 (by decide) ?_
  refine pf_X9_9 hx hb hts hown hK hP hD hS 0 rfl (Nat.le_of_ble_eq_true rfl) rfl rfl dX9_clear_2 (fun H locs hP₀ hD₀ hS₀ => ?_)
  replace hP : va_P D classes [((Aa 0), .inr (9, [.int 0, .int (Av 1), .int (Av 2), .int (Av 3), .int (Av 4), .int (Av 5), .ref (Aa 1), .ref (Aa 2), .ref (Aa 3), .ref (Aa 4), .ref (Aa 5), .ref (Aa 6), .ref (Aa 7), .ref (Aa 8)])), ((Aa 1), .inl (tc 0, 10, .inl (Af 1))), ((Aa 2), .inl (tc 0, 10, .inl (Af 2))), ((Aa 3), .inl (tc 0, 6, .inl (Af 3))), ((Aa 4), .inl (tc 0, 6, .inl (Af 4))), ((Aa 5), .inl (tc 0, 6, .inl (Af 5))), ((Aa 6), .inl (tc 0, 6, .inl (Af 6))), ((Aa 7), .inl (tc 0, 6, .inl (Af 7))), ((Aa 8), .inl (tc 0, 6, .inl (Af 8)))] H := hP₀
  replace hD : va_D A [((Aa 0), .inr (9, [.int 0, .int (Av 1), .int (Av 2), .int (Av 3), .int (Av 4), .int (Av 5), .ref (Aa 1), .ref (Aa 2), .ref (Aa 3), .ref (Aa 4), .ref (Aa 5), .ref (Aa 6), .ref (Aa 7), .ref (Aa 8)])), ((Aa 1), .inl (tc 0, 10, .inl (Af 1))), ((Aa 2), .inl (tc 0, 10, .inl (Af 2))), ((Aa 3), .inl (tc 0, 6, .inl (Af 3))), ((Aa 4), .inl (tc 0, 6, .inl (Af 4))), ((Aa 5), .inl (tc 0, 6, .inl (Af 5))), ((Aa 6), .inl (tc 0, 6, .inl (Af 6))), ((Aa 7), .inl (tc 0, 6, .inl (Af 7))), ((Aa 8), .inl (tc 0, 6, .inl (Af 8)))] := hD₀
  replace hS := hS₀
  clear hP₀ hD₀ hS₀
  refine lv_aload_n hx hb dX9_clear_5 rfl (lv_at hl 0 rfl) ?_
  refine lv_iconst (v := 0) hx hb dX9_clear_6 (by decide) ?_
  refine pf_X9_15 hx hb hts hown hK hP hD hS 0 rfl (Nat.le_of_ble_eq_true rfl) rfl rfl dX9_clear_7 (fun H locs hP₀ hD₀ hS₀ => ?_)
  replace hP : va_P D classes [((Aa 0), .inr (9, [.int 0, .int 0, .int (Av 2), .int (Av 3), .int (Av 4), .int (Av 5), .ref (Aa 1), .ref (Aa 2), .ref (Aa 3), .ref (Aa 4), .ref (Aa 5), .ref (Aa 6), .ref (Aa 7), .ref (Aa 8)])), ((Aa 1), .inl (tc 0, 10, .inl (Af 1))), ((Aa 2), .inl (tc 0, 10, .inl (Af 2))), ((Aa 3), .inl (tc 0, 6, .inl (Af 3))), ((Aa 4), .inl (tc 0, 6, .inl (Af 4))), ((Aa 5), .inl (tc 0, 6, .inl (Af 5))), ((Aa 6), .inl (tc 0, 6, .inl (Af 6))), ((Aa 7), .inl (tc 0, 6, .inl (Af 7))), ((Aa 8), .inl (tc 0, 6, .inl (Af 8)))] H := hP₀
  replace hD : va_D A [((Aa 0), .inr (9, [.int 0, .int 0, .int (Av 2), .int (Av 3), .int (Av 4), .int (Av 5), .ref (Aa 1), .ref (Aa 2), .ref (Aa 3), .ref (Aa 4), .ref (Aa 5), .ref (Aa 6), .ref (Aa 7), .ref (Aa 8)])), ((Aa 1), .inl (tc 0, 10, .inl (Af 1))), ((Aa 2), .inl (tc 0, 10, .inl (Af 2))), ((Aa 3), .inl (tc 0, 6, .inl (Af 3))), ((Aa 4), .inl (tc 0, 6, .inl (Af 4))), ((Aa 5), .inl (tc 0, 6, .inl (Af 5))), ((Aa 6), .inl (tc 0, 6, .inl (Af 6))), ((Aa 7), .inl (tc 0, 6, .inl (Af 7))), ((Aa 8), .inl (tc 0, 6, .inl (Af 8)))] := hD₀
  replace hS := hS₀
  clear hP₀ hD₀ hS₀
  refine lv_aload_n hx hb dX9_clear_10 rfl (lv_at hl 0 rfl) ?_
  refine lv_iconst (v := 0) hx hb dX9_clear_11 (by decide) ?_
  refine pf_X9_18 hx hb hts hown hK hP hD hS 0 rfl (Nat.le_of_ble_eq_true rfl) rfl rfl dX9_clear_12 (fun H locs hP₀ hD₀ hS₀ => ?_)
  replace hP : va_P D classes [((Aa 0), .inr (9, [.int 0, .int 0, .int 0, .int (Av 3), .int (Av 4), .int (Av 5), .ref (Aa 1), .ref (Aa 2), .ref (Aa 3), .ref (Aa 4), .ref (Aa 5), .ref (Aa 6), .ref (Aa 7), .ref (Aa 8)])), ((Aa 1), .inl (tc 0, 10, .inl (Af 1))), ((Aa 2), .inl (tc 0, 10, .inl (Af 2))), ((Aa 3), .inl (tc 0, 6, .inl (Af 3))), ((Aa 4), .inl (tc 0, 6, .inl (Af 4))), ((Aa 5), .inl (tc 0, 6, .inl (Af 5))), ((Aa 6), .inl (tc 0, 6, .inl (Af 6))), ((Aa 7), .inl (tc 0, 6, .inl (Af 7))), ((Aa 8), .inl (tc 0, 6, .inl (Af 8)))] H := hP₀
  replace hD : va_D A [((Aa 0), .inr (9, [.int 0, .int 0, .int 0, .int (Av 3), .int (Av 4), .int (Av 5), .ref (Aa 1), .ref (Aa 2), .ref (Aa 3), .ref (Aa 4), .ref (Aa 5), .ref (Aa 6), .ref (Aa 7), .ref (Aa 8)])), ((Aa 1), .inl (tc 0, 10, .inl (Af 1))), ((Aa 2), .inl (tc 0, 10, .inl (Af 2))), ((Aa 3), .inl (tc 0, 6, .inl (Af 3))), ((Aa 4), .inl (tc 0, 6, .inl (Af 4))), ((Aa 5), .inl (tc 0, 6, .inl (Af 5))), ((Aa 6), .inl (tc 0, 6, .inl (Af 6))), ((Aa 7), .inl (tc 0, 6, .inl (Af 7))), ((Aa 8), .inl (tc 0, 6, .inl (Af 8)))] := hD₀
  replace hS := hS₀
  clear hP₀ hD₀ hS₀
  refine lv_aload_n hx hb dX9_clear_15 rfl (lv_at hl 0 rfl) ?_
  refine lv_iconst (v := 0) hx hb dX9_clear_16 (by decide) ?_
  refine pf_X9_21 hx hb hts hown hK hP hD hS 0 rfl (Nat.le_of_ble_eq_true rfl) rfl rfl dX9_clear_17 (fun H locs hP₀ hD₀ hS₀ => ?_)
  replace hP : va_P D classes [((Aa 0), .inr (9, [.int 0, .int 0, .int 0, .int 0, .int (Av 4), .int (Av 5), .ref (Aa 1), .ref (Aa 2), .ref (Aa 3), .ref (Aa 4), .ref (Aa 5), .ref (Aa 6), .ref (Aa 7), .ref (Aa 8)])), ((Aa 1), .inl (tc 0, 10, .inl (Af 1))), ((Aa 2), .inl (tc 0, 10, .inl (Af 2))), ((Aa 3), .inl (tc 0, 6, .inl (Af 3))), ((Aa 4), .inl (tc 0, 6, .inl (Af 4))), ((Aa 5), .inl (tc 0, 6, .inl (Af 5))), ((Aa 6), .inl (tc 0, 6, .inl (Af 6))), ((Aa 7), .inl (tc 0, 6, .inl (Af 7))), ((Aa 8), .inl (tc 0, 6, .inl (Af 8)))] H := hP₀
  replace hD : va_D A [((Aa 0), .inr (9, [.int 0, .int 0, .int 0, .int 0, .int (Av 4), .int (Av 5), .ref (Aa 1), .ref (Aa 2), .ref (Aa 3), .ref (Aa 4), .ref (Aa 5), .ref (Aa 6), .ref (Aa 7), .ref (Aa 8)])), ((Aa 1), .inl (tc 0, 10, .inl (Af 1))), ((Aa 2), .inl (tc 0, 10, .inl (Af 2))), ((Aa 3), .inl (tc 0, 6, .inl (Af 3))), ((Aa 4), .inl (tc 0, 6, .inl (Af 4))), ((Aa 5), .inl (tc 0, 6, .inl (Af 5))), ((Aa 6), .inl (tc 0, 6, .inl (Af 6))), ((Aa 7), .inl (tc 0, 6, .inl (Af 7))), ((Aa 8), .inl (tc 0, 6, .inl (Af 8)))] := hD₀
  replace hS := hS₀
  clear hP₀ hD₀ hS₀
  refine lv_aload_n hx hb dX9_clear_20 rfl (lv_at hl 0 rfl) ?_
  refine lv_iconst (v := 0) hx hb dX9_clear_21 (by decide) ?_
  refine pf_X9_24 hx hb hts hown hK hP hD hS 0 rfl (Nat.le_of_ble_eq_true rfl) rfl rfl dX9_clear_22 (fun H locs hP₀ hD₀ hS₀ => ?_)
  replace hP : va_P D classes [((Aa 0), .inr (9, [.int 0, .int 0, .int 0, .int 0, .int 0, .int (Av 5), .ref (Aa 1), .ref (Aa 2), .ref (Aa 3), .ref (Aa 4), .ref (Aa 5), .ref (Aa 6), .ref (Aa 7), .ref (Aa 8)])), ((Aa 1), .inl (tc 0, 10, .inl (Af 1))), ((Aa 2), .inl (tc 0, 10, .inl (Af 2))), ((Aa 3), .inl (tc 0, 6, .inl (Af 3))), ((Aa 4), .inl (tc 0, 6, .inl (Af 4))), ((Aa 5), .inl (tc 0, 6, .inl (Af 5))), ((Aa 6), .inl (tc 0, 6, .inl (Af 6))), ((Aa 7), .inl (tc 0, 6, .inl (Af 7))), ((Aa 8), .inl (tc 0, 6, .inl (Af 8)))] H := hP₀
  replace hD : va_D A [((Aa 0), .inr (9, [.int 0, .int 0, .int 0, .int 0, .int 0, .int (Av 5), .ref (Aa 1), .ref (Aa 2), .ref (Aa 3), .ref (Aa 4), .ref (Aa 5), .ref (Aa 6), .ref (Aa 7), .ref (Aa 8)])), ((Aa 1), .inl (tc 0, 10, .inl (Af 1))), ((Aa 2), .inl (tc 0, 10, .inl (Af 2))), ((Aa 3), .inl (tc 0, 6, .inl (Af 3))), ((Aa 4), .inl (tc 0, 6, .inl (Af 4))), ((Aa 5), .inl (tc 0, 6, .inl (Af 5))), ((Aa 6), .inl (tc 0, 6, .inl (Af 6))), ((Aa 7), .inl (tc 0, 6, .inl (Af 7))), ((Aa 8), .inl (tc 0, 6, .inl (Af 8)))] := hD₀
  replace hS := hS₀
  clear hP₀ hD₀ hS₀
  refine lv_aload_n hx hb dX9_clear_25 rfl (lv_at hl 0 rfl) ?_
  refine lv_iconst (v := 0) hx hb dX9_clear_26 (by decide) ?_
  refine pf_X9_27 hx hb hts hown hK hP hD hS 0 rfl (Nat.le_of_ble_eq_true rfl) rfl rfl dX9_clear_27 (fun H locs hP₀ hD₀ hS₀ => ?_)
  replace hP : va_P D classes [((Aa 0), .inr (9, [.int 0, .int 0, .int 0, .int 0, .int 0, .int 0, .ref (Aa 1), .ref (Aa 2), .ref (Aa 3), .ref (Aa 4), .ref (Aa 5), .ref (Aa 6), .ref (Aa 7), .ref (Aa 8)])), ((Aa 1), .inl (tc 0, 10, .inl (Af 1))), ((Aa 2), .inl (tc 0, 10, .inl (Af 2))), ((Aa 3), .inl (tc 0, 6, .inl (Af 3))), ((Aa 4), .inl (tc 0, 6, .inl (Af 4))), ((Aa 5), .inl (tc 0, 6, .inl (Af 5))), ((Aa 6), .inl (tc 0, 6, .inl (Af 6))), ((Aa 7), .inl (tc 0, 6, .inl (Af 7))), ((Aa 8), .inl (tc 0, 6, .inl (Af 8)))] H := hP₀
  replace hD : va_D A [((Aa 0), .inr (9, [.int 0, .int 0, .int 0, .int 0, .int 0, .int 0, .ref (Aa 1), .ref (Aa 2), .ref (Aa 3), .ref (Aa 4), .ref (Aa 5), .ref (Aa 6), .ref (Aa 7), .ref (Aa 8)])), ((Aa 1), .inl (tc 0, 10, .inl (Af 1))), ((Aa 2), .inl (tc 0, 10, .inl (Af 2))), ((Aa 3), .inl (tc 0, 6, .inl (Af 3))), ((Aa 4), .inl (tc 0, 6, .inl (Af 4))), ((Aa 5), .inl (tc 0, 6, .inl (Af 5))), ((Aa 6), .inl (tc 0, 6, .inl (Af 6))), ((Aa 7), .inl (tc 0, 6, .inl (Af 7))), ((Aa 8), .inl (tc 0, 6, .inl (Af 8)))] := hD₀
  replace hS := hS₀
  clear hP₀ hD₀ hS₀
  refine lv_iconst (v := 0) hx hb dX9_clear_30 (by decide) ?_
  refine lv_istore_n (lv' := [(1, .int 0), (0, .ref (Aa 0))]) hx hb dX9_clear_31 rfl hl (by decide) rfl (fun ls hl₀ => ?_)
  replace hl := hl₀
  clear hl₀
  have loop_9 : ∀ (n_7 : Nat) (vy_4 : Int32) (vy_5 : Nat → Int32) (vy_6 : Nat → Int32) (H : Heap) (locs : List Loc) (ls : Array Slot), (10 - (vy_4 : Int32).toInt).toNat < n_7 → (0 ≤ (vy_4 : Int32).toInt) → (Clr1 vy_5 vy_6 vy_4) → va_P D classes [((Aa 0), .inr (9, [.int 0, .int 0, .int 0, .int 0, .int 0, .int 0, .ref (Aa 1), .ref (Aa 2), .ref (Aa 3), .ref (Aa 4), .ref (Aa 5), .ref (Aa 6), .ref (Aa 7), .ref (Aa 8)])), ((Aa 1), .inl (tc 0, 10, .inl vy_5)), ((Aa 2), .inl (tc 0, 10, .inl vy_6)), ((Aa 3), .inl (tc 0, 6, .inl (Af 3))), ((Aa 4), .inl (tc 0, 6, .inl (Af 4))), ((Aa 5), .inl (tc 0, 6, .inl (Af 5))), ((Aa 6), .inl (tc 0, 6, .inl (Af 6))), ((Aa 7), .inl (tc 0, 6, .inl (Af 7))), ((Aa 8), .inl (tc 0, 6, .inl (Af 8)))] H → va_D A [((Aa 0), .inr (9, [.int 0, .int 0, .int 0, .int 0, .int 0, .int 0, .ref (Aa 1), .ref (Aa 2), .ref (Aa 3), .ref (Aa 4), .ref (Aa 5), .ref (Aa 6), .ref (Aa 7), .ref (Aa 8)])), ((Aa 1), .inl (tc 0, 10, .inl vy_5)), ((Aa 2), .inl (tc 0, 10, .inl vy_6)), ((Aa 3), .inl (tc 0, 6, .inl (Af 3))), ((Aa 4), .inl (tc 0, 6, .inl (Af 4))), ((Aa 5), .inl (tc 0, 6, .inl (Af 5))), ((Aa 6), .inl (tc 0, 6, .inl (Af 6))), ((Aa 7), .inl (tc 0, 6, .inl (Af 7))), ((Aa 8), .inl (tc 0, 6, .inl (Af 8)))] → va_S A s.heap H locs → lv_has ls 2 [(1, .int vy_4), (0, .ref (Aa 0))] → W p l e ({ frames := 0, cells := 0, slots := 0, locals := 0 }) s m ([.ref (Aa 0)].toArray) below meth c H locs 0 0 (MQ below (QW (fun (v : Option Value) (u : (Nat → Int32) × (Nat → Int32) × (Nat → Int32) × (Nat → Int32) × (Nat → Int32) × (Nat → Int32) × (Nat → Int32) × (Nat → Int32)) => match u with | (oo0x1, oo0x2, oo0x3, oo0x4, oo0x5, oo0x6, oo0x7, oo0x8) => v = none ∧ (ShC 0 0 0 0 0 0 oo0x1 oo0x2 oo0x3 oo0x4 oo0x5 oo0x6 oo0x7 oo0x8 qz_0)) (BW D (fun (u : (Nat → Int32) × (Nat → Int32) × (Nat → Int32) × (Nat → Int32) × (Nat → Int32) × (Nat → Int32) × (Nat → Int32) × (Nat → Int32)) => match u with | (oo0x1, oo0x2, oo0x3, oo0x4, oo0x5, oo0x6, oo0x7, oo0x8) => [((Aa 0), .inr (9, [.int 0, .int 0, .int 0, .int 0, .int 0, .int 0, .ref (Aa 1), .ref (Aa 2), .ref (Aa 3), .ref (Aa 4), .ref (Aa 5), .ref (Aa 6), .ref (Aa 7), .ref (Aa 8)])), ((Aa 1), .inl (tc 0, 10, .inl oo0x1)), ((Aa 2), .inl (tc 0, 10, .inl oo0x2)), ((Aa 3), .inl (tc 0, 6, .inl oo0x3)), ((Aa 4), .inl (tc 0, 6, .inl oo0x4)), ((Aa 5), .inl (tc 0, 6, .inl oo0x5)), ((Aa 6), .inl (tc 0, 6, .inl oo0x6)), ((Aa 7), .inl (tc 0, 6, .inl oo0x7)), ((Aa 8), .inl (tc 0, 6, .inl oo0x8))]) A) A) ([.ref (Aa 0)].toArray) s 0 0 A) (F0 m 32 ls []) := by
    clear hP hD hS hl
    intro n_7
    induction n_7 with
    | zero =>
      intro vy_4 vy_5 vy_6 H locs ls h1
      exact absurd h1 (Nat.not_lt_zero _)
    | succ n_7 ih_8 =>
      intro vy_4 vy_5 vy_6 H locs ls hn_12 pf_10 pf_11 hP hD hS hl
      refine lv_iload_n hx hb dX9_clear_32 rfl (lv_at hl 0 rfl) ?_
      refine lv_bipush (v := 10) hx hb dX9_clear_33 (by decide) ?_
      refine lv_icmp_ge (tgt := 58) hx hb dX9_clear_35 (by decide) (fun c_13 => ?_) (fun c_13 => ?_)
      · skip
        refine lv_iconst (v := 0) hx hb dX9_clear_58 (by decide) ?_
        refine lv_istore_n (lv' := [(1, .int 0), (0, .ref (Aa 0))]) hx hb dX9_clear_59 rfl hl (by decide) rfl (fun ls hl₀ => ?_)
        replace hl := hl₀
        clear hl₀
        have loop_30 : ∀ (n_28 : Nat) (vy_21 : Int32) (vy_22 : Nat → Int32) (vy_23 : Nat → Int32) (vy_24 : Nat → Int32) (vy_25 : Nat → Int32) (vy_26 : Nat → Int32) (vy_27 : Nat → Int32) (H : Heap) (locs : List Loc) (ls : Array Slot), (6 - (vy_21 : Int32).toInt).toNat < n_28 → (0 ≤ (vy_21 : Int32).toInt) → (Clr2 vy_22 vy_23 vy_24 vy_25 vy_26 vy_27 vy_21) → va_P D classes [((Aa 0), .inr (9, [.int 0, .int 0, .int 0, .int 0, .int 0, .int 0, .ref (Aa 1), .ref (Aa 2), .ref (Aa 3), .ref (Aa 4), .ref (Aa 5), .ref (Aa 6), .ref (Aa 7), .ref (Aa 8)])), ((Aa 1), .inl (tc 0, 10, .inl vy_5)), ((Aa 2), .inl (tc 0, 10, .inl vy_6)), ((Aa 3), .inl (tc 0, 6, .inl vy_22)), ((Aa 4), .inl (tc 0, 6, .inl vy_23)), ((Aa 5), .inl (tc 0, 6, .inl vy_24)), ((Aa 6), .inl (tc 0, 6, .inl vy_25)), ((Aa 7), .inl (tc 0, 6, .inl vy_26)), ((Aa 8), .inl (tc 0, 6, .inl vy_27))] H → va_D A [((Aa 0), .inr (9, [.int 0, .int 0, .int 0, .int 0, .int 0, .int 0, .ref (Aa 1), .ref (Aa 2), .ref (Aa 3), .ref (Aa 4), .ref (Aa 5), .ref (Aa 6), .ref (Aa 7), .ref (Aa 8)])), ((Aa 1), .inl (tc 0, 10, .inl vy_5)), ((Aa 2), .inl (tc 0, 10, .inl vy_6)), ((Aa 3), .inl (tc 0, 6, .inl vy_22)), ((Aa 4), .inl (tc 0, 6, .inl vy_23)), ((Aa 5), .inl (tc 0, 6, .inl vy_24)), ((Aa 6), .inl (tc 0, 6, .inl vy_25)), ((Aa 7), .inl (tc 0, 6, .inl vy_26)), ((Aa 8), .inl (tc 0, 6, .inl vy_27))] → va_S A s.heap H locs → lv_has ls 2 [(1, .int vy_21), (0, .ref (Aa 0))] → W p l e ({ frames := 0, cells := 0, slots := 0, locals := 0 }) s m ([.ref (Aa 0)].toArray) below meth c H locs 0 0 (MQ below (QW (fun (v : Option Value) (u : (Nat → Int32) × (Nat → Int32) × (Nat → Int32) × (Nat → Int32) × (Nat → Int32) × (Nat → Int32) × (Nat → Int32) × (Nat → Int32)) => match u with | (oo0x1, oo0x2, oo0x3, oo0x4, oo0x5, oo0x6, oo0x7, oo0x8) => v = none ∧ (ShC 0 0 0 0 0 0 oo0x1 oo0x2 oo0x3 oo0x4 oo0x5 oo0x6 oo0x7 oo0x8 qz_0)) (BW D (fun (u : (Nat → Int32) × (Nat → Int32) × (Nat → Int32) × (Nat → Int32) × (Nat → Int32) × (Nat → Int32) × (Nat → Int32) × (Nat → Int32)) => match u with | (oo0x1, oo0x2, oo0x3, oo0x4, oo0x5, oo0x6, oo0x7, oo0x8) => [((Aa 0), .inr (9, [.int 0, .int 0, .int 0, .int 0, .int 0, .int 0, .ref (Aa 1), .ref (Aa 2), .ref (Aa 3), .ref (Aa 4), .ref (Aa 5), .ref (Aa 6), .ref (Aa 7), .ref (Aa 8)])), ((Aa 1), .inl (tc 0, 10, .inl oo0x1)), ((Aa 2), .inl (tc 0, 10, .inl oo0x2)), ((Aa 3), .inl (tc 0, 6, .inl oo0x3)), ((Aa 4), .inl (tc 0, 6, .inl oo0x4)), ((Aa 5), .inl (tc 0, 6, .inl oo0x5)), ((Aa 6), .inl (tc 0, 6, .inl oo0x6)), ((Aa 7), .inl (tc 0, 6, .inl oo0x7)), ((Aa 8), .inl (tc 0, 6, .inl oo0x8))]) A) A) ([.ref (Aa 0)].toArray) s 0 0 A) (F0 m 60 ls []) := by
          clear hP hD hS hl
          intro n_28
          induction n_28 with
          | zero =>
            intro vy_21 vy_22 vy_23 vy_24 vy_25 vy_26 vy_27 H locs ls h1
            exact absurd h1 (Nat.not_lt_zero _)
          | succ n_28 ih_29 =>
            intro vy_21 vy_22 vy_23 vy_24 vy_25 vy_26 vy_27 H locs ls hn_33 pf_31 pf_32 hP hD hS hl
            refine lv_iload_n hx hb dX9_clear_60 rfl (lv_at hl 0 rfl) ?_
            refine lv_bipush (v := 6) hx hb dX9_clear_61 (by decide) ?_
            refine lv_icmp_ge (tgt := 114) hx hb dX9_clear_63 (by decide) (fun c_34 => ?_) (fun c_34 => ?_)
            · skip
              have hr_35 : 10 ≤ (vy_4 : Int32).toInt := by
                have z_1 := Int32.le_iff_toInt_le.mp c_13
                have z_2 := Int32.le_iff_toInt_le.mp c_34
                have y_6 : (6 : Int32).toInt = 6 := by decide
                have y_10 : (10 : Int32).toInt = 10 := by decide
                omega
              have hr_36 : 6 ≤ (vy_21 : Int32).toInt := by
                have z_1 := Int32.le_iff_toInt_le.mp c_13
                have z_2 := Int32.le_iff_toInt_le.mp c_34
                have y_6 : (6 : Int32).toInt = 6 := by decide
                have y_10 : (10 : Int32).toInt = 10 := by decide
                omega
              exact retV hx hb hr hlk hP hD hS (vy_5, vy_6, vy_22, vy_23, vy_24, vy_25, vy_26, vy_27) ⟨rfl, (ShC.clear pf_11 pf_32 hr_35 hr_36)⟩ [0, 1, 2, 3, 4, 5, 6, 7, 8] rfl rfl dX9_clear_114 (Nat.le_of_ble_eq_true rfl) (Nat.le_of_ble_eq_true rfl) rfl
            · skip
              refine lv_aload_n hx hb dX9_clear_66 rfl (lv_at hl 1 rfl) ?_
              refine gf_X9_37 hx hb hts hown hK hP 0 rfl rfl dX9_clear_67 ?_
              refine lv_iload_n hx hb dX9_clear_70 rfl (lv_at hl 0 rfl) ?_
              refine lv_iconst (v := 0) hx hb dX9_clear_71 (by decide) ?_
              have hi_37 : vp_in vy_21 6 := by
                have z_1 := Int32.le_iff_toInt_le.mp c_13
                have z_2 := Int32.lt_iff_toInt_lt.mp (Int32.not_le.mp c_34)
                have y_6 : (6 : Int32).toInt = 6 := by decide
                have y_10 : (10 : Int32).toInt = 10 := by decide
                refine vp_in_iff.mpr ⟨?_, ?_⟩ <;> omega
              refine st_int hx hb hK hP hD hS 3 0 rfl rfl hi_37 dX9_clear_72 (fun g_38 H locs eg_38 hP₀ hD₀ hS₀ => ?_)
              replace hP : va_P D classes [((Aa 0), .inr (9, [.int 0, .int 0, .int 0, .int 0, .int 0, .int 0, .ref (Aa 1), .ref (Aa 2), .ref (Aa 3), .ref (Aa 4), .ref (Aa 5), .ref (Aa 6), .ref (Aa 7), .ref (Aa 8)])), ((Aa 1), .inl (tc 0, 10, .inl vy_5)), ((Aa 2), .inl (tc 0, 10, .inl vy_6)), ((Aa 3), .inl (tc 0, 6, .inl g_38)), ((Aa 4), .inl (tc 0, 6, .inl vy_23)), ((Aa 5), .inl (tc 0, 6, .inl vy_24)), ((Aa 6), .inl (tc 0, 6, .inl vy_25)), ((Aa 7), .inl (tc 0, 6, .inl vy_26)), ((Aa 8), .inl (tc 0, 6, .inl vy_27))] H := hP₀
              replace hD : va_D A [((Aa 0), .inr (9, [.int 0, .int 0, .int 0, .int 0, .int 0, .int 0, .ref (Aa 1), .ref (Aa 2), .ref (Aa 3), .ref (Aa 4), .ref (Aa 5), .ref (Aa 6), .ref (Aa 7), .ref (Aa 8)])), ((Aa 1), .inl (tc 0, 10, .inl vy_5)), ((Aa 2), .inl (tc 0, 10, .inl vy_6)), ((Aa 3), .inl (tc 0, 6, .inl g_38)), ((Aa 4), .inl (tc 0, 6, .inl vy_23)), ((Aa 5), .inl (tc 0, 6, .inl vy_24)), ((Aa 6), .inl (tc 0, 6, .inl vy_25)), ((Aa 7), .inl (tc 0, 6, .inl vy_26)), ((Aa 8), .inl (tc 0, 6, .inl vy_27))] := hD₀
              replace hS := hS₀
              clear hP₀ hD₀ hS₀
              refine lv_aload_n hx hb dX9_clear_73 rfl (lv_at hl 1 rfl) ?_
              refine gf_X9_40 hx hb hts hown hK hP 0 rfl rfl dX9_clear_74 ?_
              refine lv_iload_n hx hb dX9_clear_77 rfl (lv_at hl 0 rfl) ?_
              refine lv_iconst (v := 0) hx hb dX9_clear_78 (by decide) ?_
              have hi_39 : vp_in vy_21 6 := by
                have z_1 := Int32.le_iff_toInt_le.mp c_13
                have z_2 := Int32.lt_iff_toInt_lt.mp (Int32.not_le.mp c_34)
                have y_6 : (6 : Int32).toInt = 6 := by decide
                have y_10 : (10 : Int32).toInt = 10 := by decide
                refine vp_in_iff.mpr ⟨?_, ?_⟩ <;> omega
              refine st_int hx hb hK hP hD hS 4 0 rfl rfl hi_39 dX9_clear_79 (fun g_40 H locs eg_40 hP₀ hD₀ hS₀ => ?_)
              replace hP : va_P D classes [((Aa 0), .inr (9, [.int 0, .int 0, .int 0, .int 0, .int 0, .int 0, .ref (Aa 1), .ref (Aa 2), .ref (Aa 3), .ref (Aa 4), .ref (Aa 5), .ref (Aa 6), .ref (Aa 7), .ref (Aa 8)])), ((Aa 1), .inl (tc 0, 10, .inl vy_5)), ((Aa 2), .inl (tc 0, 10, .inl vy_6)), ((Aa 3), .inl (tc 0, 6, .inl g_38)), ((Aa 4), .inl (tc 0, 6, .inl g_40)), ((Aa 5), .inl (tc 0, 6, .inl vy_24)), ((Aa 6), .inl (tc 0, 6, .inl vy_25)), ((Aa 7), .inl (tc 0, 6, .inl vy_26)), ((Aa 8), .inl (tc 0, 6, .inl vy_27))] H := hP₀
              replace hD : va_D A [((Aa 0), .inr (9, [.int 0, .int 0, .int 0, .int 0, .int 0, .int 0, .ref (Aa 1), .ref (Aa 2), .ref (Aa 3), .ref (Aa 4), .ref (Aa 5), .ref (Aa 6), .ref (Aa 7), .ref (Aa 8)])), ((Aa 1), .inl (tc 0, 10, .inl vy_5)), ((Aa 2), .inl (tc 0, 10, .inl vy_6)), ((Aa 3), .inl (tc 0, 6, .inl g_38)), ((Aa 4), .inl (tc 0, 6, .inl g_40)), ((Aa 5), .inl (tc 0, 6, .inl vy_24)), ((Aa 6), .inl (tc 0, 6, .inl vy_25)), ((Aa 7), .inl (tc 0, 6, .inl vy_26)), ((Aa 8), .inl (tc 0, 6, .inl vy_27))] := hD₀
              replace hS := hS₀
              clear hP₀ hD₀ hS₀
              refine lv_aload_n hx hb dX9_clear_80 rfl (lv_at hl 1 rfl) ?_
              refine gf_X9_43 hx hb hts hown hK hP 0 rfl rfl dX9_clear_81 ?_
              refine lv_iload_n hx hb dX9_clear_84 rfl (lv_at hl 0 rfl) ?_
              refine lv_iconst (v := 0) hx hb dX9_clear_85 (by decide) ?_
              have hi_41 : vp_in vy_21 6 := by
                have z_1 := Int32.le_iff_toInt_le.mp c_13
                have z_2 := Int32.lt_iff_toInt_lt.mp (Int32.not_le.mp c_34)
                have y_6 : (6 : Int32).toInt = 6 := by decide
                have y_10 : (10 : Int32).toInt = 10 := by decide
                refine vp_in_iff.mpr ⟨?_, ?_⟩ <;> omega
              refine st_int hx hb hK hP hD hS 5 0 rfl rfl hi_41 dX9_clear_86 (fun g_42 H locs eg_42 hP₀ hD₀ hS₀ => ?_)
              replace hP : va_P D classes [((Aa 0), .inr (9, [.int 0, .int 0, .int 0, .int 0, .int 0, .int 0, .ref (Aa 1), .ref (Aa 2), .ref (Aa 3), .ref (Aa 4), .ref (Aa 5), .ref (Aa 6), .ref (Aa 7), .ref (Aa 8)])), ((Aa 1), .inl (tc 0, 10, .inl vy_5)), ((Aa 2), .inl (tc 0, 10, .inl vy_6)), ((Aa 3), .inl (tc 0, 6, .inl g_38)), ((Aa 4), .inl (tc 0, 6, .inl g_40)), ((Aa 5), .inl (tc 0, 6, .inl g_42)), ((Aa 6), .inl (tc 0, 6, .inl vy_25)), ((Aa 7), .inl (tc 0, 6, .inl vy_26)), ((Aa 8), .inl (tc 0, 6, .inl vy_27))] H := hP₀
              replace hD : va_D A [((Aa 0), .inr (9, [.int 0, .int 0, .int 0, .int 0, .int 0, .int 0, .ref (Aa 1), .ref (Aa 2), .ref (Aa 3), .ref (Aa 4), .ref (Aa 5), .ref (Aa 6), .ref (Aa 7), .ref (Aa 8)])), ((Aa 1), .inl (tc 0, 10, .inl vy_5)), ((Aa 2), .inl (tc 0, 10, .inl vy_6)), ((Aa 3), .inl (tc 0, 6, .inl g_38)), ((Aa 4), .inl (tc 0, 6, .inl g_40)), ((Aa 5), .inl (tc 0, 6, .inl g_42)), ((Aa 6), .inl (tc 0, 6, .inl vy_25)), ((Aa 7), .inl (tc 0, 6, .inl vy_26)), ((Aa 8), .inl (tc 0, 6, .inl vy_27))] := hD₀
              replace hS := hS₀
              clear hP₀ hD₀ hS₀
              refine lv_aload_n hx hb dX9_clear_87 rfl (lv_at hl 1 rfl) ?_
              refine gf_X9_46 hx hb hts hown hK hP 0 rfl rfl dX9_clear_88 ?_
              refine lv_iload_n hx hb dX9_clear_91 rfl (lv_at hl 0 rfl) ?_
              refine lv_iconst (v := 0) hx hb dX9_clear_92 (by decide) ?_
              have hi_43 : vp_in vy_21 6 := by
                have z_1 := Int32.le_iff_toInt_le.mp c_13
                have z_2 := Int32.lt_iff_toInt_lt.mp (Int32.not_le.mp c_34)
                have y_6 : (6 : Int32).toInt = 6 := by decide
                have y_10 : (10 : Int32).toInt = 10 := by decide
                refine vp_in_iff.mpr ⟨?_, ?_⟩ <;> omega
              refine st_int hx hb hK hP hD hS 6 0 rfl rfl hi_43 dX9_clear_93 (fun g_44 H locs eg_44 hP₀ hD₀ hS₀ => ?_)
              replace hP : va_P D classes [((Aa 0), .inr (9, [.int 0, .int 0, .int 0, .int 0, .int 0, .int 0, .ref (Aa 1), .ref (Aa 2), .ref (Aa 3), .ref (Aa 4), .ref (Aa 5), .ref (Aa 6), .ref (Aa 7), .ref (Aa 8)])), ((Aa 1), .inl (tc 0, 10, .inl vy_5)), ((Aa 2), .inl (tc 0, 10, .inl vy_6)), ((Aa 3), .inl (tc 0, 6, .inl g_38)), ((Aa 4), .inl (tc 0, 6, .inl g_40)), ((Aa 5), .inl (tc 0, 6, .inl g_42)), ((Aa 6), .inl (tc 0, 6, .inl g_44)), ((Aa 7), .inl (tc 0, 6, .inl vy_26)), ((Aa 8), .inl (tc 0, 6, .inl vy_27))] H := hP₀
              replace hD : va_D A [((Aa 0), .inr (9, [.int 0, .int 0, .int 0, .int 0, .int 0, .int 0, .ref (Aa 1), .ref (Aa 2), .ref (Aa 3), .ref (Aa 4), .ref (Aa 5), .ref (Aa 6), .ref (Aa 7), .ref (Aa 8)])), ((Aa 1), .inl (tc 0, 10, .inl vy_5)), ((Aa 2), .inl (tc 0, 10, .inl vy_6)), ((Aa 3), .inl (tc 0, 6, .inl g_38)), ((Aa 4), .inl (tc 0, 6, .inl g_40)), ((Aa 5), .inl (tc 0, 6, .inl g_42)), ((Aa 6), .inl (tc 0, 6, .inl g_44)), ((Aa 7), .inl (tc 0, 6, .inl vy_26)), ((Aa 8), .inl (tc 0, 6, .inl vy_27))] := hD₀
              replace hS := hS₀
              clear hP₀ hD₀ hS₀
              refine lv_aload_n hx hb dX9_clear_94 rfl (lv_at hl 1 rfl) ?_
              refine gf_X9_49 hx hb hts hown hK hP 0 rfl rfl dX9_clear_95 ?_
              refine lv_iload_n hx hb dX9_clear_98 rfl (lv_at hl 0 rfl) ?_
              refine lv_iconst (v := 0) hx hb dX9_clear_99 (by decide) ?_
              have hi_45 : vp_in vy_21 6 := by
                have z_1 := Int32.le_iff_toInt_le.mp c_13
                have z_2 := Int32.lt_iff_toInt_lt.mp (Int32.not_le.mp c_34)
                have y_6 : (6 : Int32).toInt = 6 := by decide
                have y_10 : (10 : Int32).toInt = 10 := by decide
                refine vp_in_iff.mpr ⟨?_, ?_⟩ <;> omega
              refine st_int hx hb hK hP hD hS 7 0 rfl rfl hi_45 dX9_clear_100 (fun g_46 H locs eg_46 hP₀ hD₀ hS₀ => ?_)
              replace hP : va_P D classes [((Aa 0), .inr (9, [.int 0, .int 0, .int 0, .int 0, .int 0, .int 0, .ref (Aa 1), .ref (Aa 2), .ref (Aa 3), .ref (Aa 4), .ref (Aa 5), .ref (Aa 6), .ref (Aa 7), .ref (Aa 8)])), ((Aa 1), .inl (tc 0, 10, .inl vy_5)), ((Aa 2), .inl (tc 0, 10, .inl vy_6)), ((Aa 3), .inl (tc 0, 6, .inl g_38)), ((Aa 4), .inl (tc 0, 6, .inl g_40)), ((Aa 5), .inl (tc 0, 6, .inl g_42)), ((Aa 6), .inl (tc 0, 6, .inl g_44)), ((Aa 7), .inl (tc 0, 6, .inl g_46)), ((Aa 8), .inl (tc 0, 6, .inl vy_27))] H := hP₀
              replace hD : va_D A [((Aa 0), .inr (9, [.int 0, .int 0, .int 0, .int 0, .int 0, .int 0, .ref (Aa 1), .ref (Aa 2), .ref (Aa 3), .ref (Aa 4), .ref (Aa 5), .ref (Aa 6), .ref (Aa 7), .ref (Aa 8)])), ((Aa 1), .inl (tc 0, 10, .inl vy_5)), ((Aa 2), .inl (tc 0, 10, .inl vy_6)), ((Aa 3), .inl (tc 0, 6, .inl g_38)), ((Aa 4), .inl (tc 0, 6, .inl g_40)), ((Aa 5), .inl (tc 0, 6, .inl g_42)), ((Aa 6), .inl (tc 0, 6, .inl g_44)), ((Aa 7), .inl (tc 0, 6, .inl g_46)), ((Aa 8), .inl (tc 0, 6, .inl vy_27))] := hD₀
              replace hS := hS₀
              clear hP₀ hD₀ hS₀
              refine lv_aload_n hx hb dX9_clear_101 rfl (lv_at hl 1 rfl) ?_
              refine gf_X9_52 hx hb hts hown hK hP 0 rfl rfl dX9_clear_102 ?_
              refine lv_iload_n hx hb dX9_clear_105 rfl (lv_at hl 0 rfl) ?_
              refine lv_iconst (v := (-1)) hx hb dX9_clear_106 (by decide) ?_
              have hi_47 : vp_in vy_21 6 := by
                have z_1 := Int32.le_iff_toInt_le.mp c_13
                have z_2 := Int32.lt_iff_toInt_lt.mp (Int32.not_le.mp c_34)
                have y_6 : (6 : Int32).toInt = 6 := by decide
                have y_10 : (10 : Int32).toInt = 10 := by decide
                refine vp_in_iff.mpr ⟨?_, ?_⟩ <;> omega
              refine st_int hx hb hK hP hD hS 8 0 rfl rfl hi_47 dX9_clear_107 (fun g_48 H locs eg_48 hP₀ hD₀ hS₀ => ?_)
              replace hP : va_P D classes [((Aa 0), .inr (9, [.int 0, .int 0, .int 0, .int 0, .int 0, .int 0, .ref (Aa 1), .ref (Aa 2), .ref (Aa 3), .ref (Aa 4), .ref (Aa 5), .ref (Aa 6), .ref (Aa 7), .ref (Aa 8)])), ((Aa 1), .inl (tc 0, 10, .inl vy_5)), ((Aa 2), .inl (tc 0, 10, .inl vy_6)), ((Aa 3), .inl (tc 0, 6, .inl g_38)), ((Aa 4), .inl (tc 0, 6, .inl g_40)), ((Aa 5), .inl (tc 0, 6, .inl g_42)), ((Aa 6), .inl (tc 0, 6, .inl g_44)), ((Aa 7), .inl (tc 0, 6, .inl g_46)), ((Aa 8), .inl (tc 0, 6, .inl g_48))] H := hP₀
              replace hD : va_D A [((Aa 0), .inr (9, [.int 0, .int 0, .int 0, .int 0, .int 0, .int 0, .ref (Aa 1), .ref (Aa 2), .ref (Aa 3), .ref (Aa 4), .ref (Aa 5), .ref (Aa 6), .ref (Aa 7), .ref (Aa 8)])), ((Aa 1), .inl (tc 0, 10, .inl vy_5)), ((Aa 2), .inl (tc 0, 10, .inl vy_6)), ((Aa 3), .inl (tc 0, 6, .inl g_38)), ((Aa 4), .inl (tc 0, 6, .inl g_40)), ((Aa 5), .inl (tc 0, 6, .inl g_42)), ((Aa 6), .inl (tc 0, 6, .inl g_44)), ((Aa 7), .inl (tc 0, 6, .inl g_46)), ((Aa 8), .inl (tc 0, 6, .inl g_48))] := hD₀
              replace hS := hS₀
              clear hP₀ hD₀ hS₀
              obtain ⟨x_49, ex_49⟩ : ∃ y : Int32, y = vy_21 + 1 := ⟨_, rfl⟩
              refine lv_iinc (v := x_49) (lv' := [(1, .int x_49), (0, .ref (Aa 0))]) hx hb dX9_clear_108 hl (k := 0) rfl (by rw [ex_49]; rfl) (by decide) rfl (fun ls hl₀ => ?_)
              replace hl := hl₀
              clear hl₀
              refine lv_goto (tgt := 60) hx hb dX9_clear_111 (by decide) ?_
              have hb_50 : 6 - (x_49 : Int32).toInt < 6 - (vy_21 : Int32).toInt ∧ 1 ≤ 6 - (vy_21 : Int32).toInt := by
                have z_1 := Int32.le_iff_toInt_le.mp c_13
                have z_2 := Int32.lt_iff_toInt_lt.mp (Int32.not_le.mp c_34)
                have y_6 : (6 : Int32).toInt = 6 := by decide
                have y_10 : (10 : Int32).toInt = 10 := by decide
                have y_1 : (1 : Int32).toInt = 1 := by decide
                have t_x_49 : x_49.toInt = (vy_21 : Int32).toInt + (1 : Int32).toInt := by rw [ex_49]; exact add_toInt (by omega) (by omega)
                omega
              have ha_51 : 0 ≤ (x_49 : Int32).toInt := by
                have z_1 := Int32.le_iff_toInt_le.mp c_13
                have z_2 := Int32.lt_iff_toInt_lt.mp (Int32.not_le.mp c_34)
                have y_6 : (6 : Int32).toInt = 6 := by decide
                have y_10 : (10 : Int32).toInt = 10 := by decide
                have y_1 : (1 : Int32).toInt = 1 := by decide
                have t_x_49 : x_49.toInt = (vy_21 : Int32).toInt + (1 : Int32).toInt := by rw [ex_49]; exact add_toInt (by omega) (by omega)
                omega
              have hr_52 : 0 ≤ (vy_21 : Int32).toInt := by
                have z_1 := Int32.le_iff_toInt_le.mp c_13
                have z_2 := Int32.lt_iff_toInt_lt.mp (Int32.not_le.mp c_34)
                have y_6 : (6 : Int32).toInt = 6 := by decide
                have y_10 : (10 : Int32).toInt = 10 := by decide
                omega
              have hi_53 : (x_49 : Int32).toInt = (vy_21 : Int32).toInt + 1 := by
                have z_1 := Int32.le_iff_toInt_le.mp c_13
                have z_2 := Int32.lt_iff_toInt_lt.mp (Int32.not_le.mp c_34)
                have y_6 : (6 : Int32).toInt = 6 := by decide
                have y_10 : (10 : Int32).toInt = 10 := by decide
                have y_1 : (1 : Int32).toInt = 1 := by decide
                have t_x_49 : x_49.toInt = (vy_21 : Int32).toInt + (1 : Int32).toInt := by rw [ex_49]; exact add_toInt (by omega) (by omega)
                omega
              exact ih_29 x_49 g_38 g_40 g_42 g_44 g_46 g_48 _ _ _ (by omega) ha_51 (Clr2.step pf_32 hr_52 eg_38 eg_40 eg_42 eg_44 eg_46 eg_48 hi_53) (hP.sub [0, 1, 2, 3, 4, 5, 6, 7, 8] rfl) (hD.sub [0, 1, 2, 3, 4, 5, 6, 7, 8] rfl rfl) hS (lv_sub hl [0, 1] rfl)
        have ha_54 : 0 ≤ (0 : Int32).toInt := by
          have z_1 := Int32.le_iff_toInt_le.mp c_13
          have y_10 : (10 : Int32).toInt = 10 := by decide
          have y_0 : (0 : Int32).toInt = 0 := by decide
          omega
        have hr_55 : (0 : Int32).toInt = 0 := by
          have z_1 := Int32.le_iff_toInt_le.mp c_13
          have y_10 : (10 : Int32).toInt = 10 := by decide
          have y_0 : (0 : Int32).toInt = 0 := by decide
          omega
        exact loop_30 _ 0 (Af 3) (Af 4) (Af 5) (Af 6) (Af 7) (Af 8) _ _ _ (Nat.lt_succ_self _) ha_54 (Clr2.nil hr_55) hP hD hS hl
      · skip
        refine lv_aload_n hx hb dX9_clear_38 rfl (lv_at hl 1 rfl) ?_
        refine gf_X9_30 hx hb hts hown hK hP 0 rfl rfl dX9_clear_39 ?_
        refine lv_iload_n hx hb dX9_clear_42 rfl (lv_at hl 0 rfl) ?_
        refine lv_iconst (v := 0) hx hb dX9_clear_43 (by decide) ?_
        have hi_56 : vp_in vy_4 10 := by
          have z_1 := Int32.lt_iff_toInt_lt.mp (Int32.not_le.mp c_13)
          have y_10 : (10 : Int32).toInt = 10 := by decide
          refine vp_in_iff.mpr ⟨?_, ?_⟩ <;> omega
        refine st_int hx hb hK hP hD hS 1 0 rfl rfl hi_56 dX9_clear_44 (fun g_57 H locs eg_57 hP₀ hD₀ hS₀ => ?_)
        replace hP : va_P D classes [((Aa 0), .inr (9, [.int 0, .int 0, .int 0, .int 0, .int 0, .int 0, .ref (Aa 1), .ref (Aa 2), .ref (Aa 3), .ref (Aa 4), .ref (Aa 5), .ref (Aa 6), .ref (Aa 7), .ref (Aa 8)])), ((Aa 1), .inl (tc 0, 10, .inl g_57)), ((Aa 2), .inl (tc 0, 10, .inl vy_6)), ((Aa 3), .inl (tc 0, 6, .inl (Af 3))), ((Aa 4), .inl (tc 0, 6, .inl (Af 4))), ((Aa 5), .inl (tc 0, 6, .inl (Af 5))), ((Aa 6), .inl (tc 0, 6, .inl (Af 6))), ((Aa 7), .inl (tc 0, 6, .inl (Af 7))), ((Aa 8), .inl (tc 0, 6, .inl (Af 8)))] H := hP₀
        replace hD : va_D A [((Aa 0), .inr (9, [.int 0, .int 0, .int 0, .int 0, .int 0, .int 0, .ref (Aa 1), .ref (Aa 2), .ref (Aa 3), .ref (Aa 4), .ref (Aa 5), .ref (Aa 6), .ref (Aa 7), .ref (Aa 8)])), ((Aa 1), .inl (tc 0, 10, .inl g_57)), ((Aa 2), .inl (tc 0, 10, .inl vy_6)), ((Aa 3), .inl (tc 0, 6, .inl (Af 3))), ((Aa 4), .inl (tc 0, 6, .inl (Af 4))), ((Aa 5), .inl (tc 0, 6, .inl (Af 5))), ((Aa 6), .inl (tc 0, 6, .inl (Af 6))), ((Aa 7), .inl (tc 0, 6, .inl (Af 7))), ((Aa 8), .inl (tc 0, 6, .inl (Af 8)))] := hD₀
        replace hS := hS₀
        clear hP₀ hD₀ hS₀
        refine lv_aload_n hx hb dX9_clear_45 rfl (lv_at hl 1 rfl) ?_
        refine gf_X9_34 hx hb hts hown hK hP 0 rfl rfl dX9_clear_46 ?_
        refine lv_iload_n hx hb dX9_clear_49 rfl (lv_at hl 0 rfl) ?_
        refine lv_iconst (v := 0) hx hb dX9_clear_50 (by decide) ?_
        have hi_58 : vp_in vy_4 10 := by
          have z_1 := Int32.lt_iff_toInt_lt.mp (Int32.not_le.mp c_13)
          have y_10 : (10 : Int32).toInt = 10 := by decide
          refine vp_in_iff.mpr ⟨?_, ?_⟩ <;> omega
        refine st_int hx hb hK hP hD hS 2 0 rfl rfl hi_58 dX9_clear_51 (fun g_59 H locs eg_59 hP₀ hD₀ hS₀ => ?_)
        replace hP : va_P D classes [((Aa 0), .inr (9, [.int 0, .int 0, .int 0, .int 0, .int 0, .int 0, .ref (Aa 1), .ref (Aa 2), .ref (Aa 3), .ref (Aa 4), .ref (Aa 5), .ref (Aa 6), .ref (Aa 7), .ref (Aa 8)])), ((Aa 1), .inl (tc 0, 10, .inl g_57)), ((Aa 2), .inl (tc 0, 10, .inl g_59)), ((Aa 3), .inl (tc 0, 6, .inl (Af 3))), ((Aa 4), .inl (tc 0, 6, .inl (Af 4))), ((Aa 5), .inl (tc 0, 6, .inl (Af 5))), ((Aa 6), .inl (tc 0, 6, .inl (Af 6))), ((Aa 7), .inl (tc 0, 6, .inl (Af 7))), ((Aa 8), .inl (tc 0, 6, .inl (Af 8)))] H := hP₀
        replace hD : va_D A [((Aa 0), .inr (9, [.int 0, .int 0, .int 0, .int 0, .int 0, .int 0, .ref (Aa 1), .ref (Aa 2), .ref (Aa 3), .ref (Aa 4), .ref (Aa 5), .ref (Aa 6), .ref (Aa 7), .ref (Aa 8)])), ((Aa 1), .inl (tc 0, 10, .inl g_57)), ((Aa 2), .inl (tc 0, 10, .inl g_59)), ((Aa 3), .inl (tc 0, 6, .inl (Af 3))), ((Aa 4), .inl (tc 0, 6, .inl (Af 4))), ((Aa 5), .inl (tc 0, 6, .inl (Af 5))), ((Aa 6), .inl (tc 0, 6, .inl (Af 6))), ((Aa 7), .inl (tc 0, 6, .inl (Af 7))), ((Aa 8), .inl (tc 0, 6, .inl (Af 8)))] := hD₀
        replace hS := hS₀
        clear hP₀ hD₀ hS₀
        obtain ⟨x_60, ex_60⟩ : ∃ y : Int32, y = vy_4 + 1 := ⟨_, rfl⟩
        refine lv_iinc (v := x_60) (lv' := [(1, .int x_60), (0, .ref (Aa 0))]) hx hb dX9_clear_52 hl (k := 0) rfl (by rw [ex_60]; rfl) (by decide) rfl (fun ls hl₀ => ?_)
        replace hl := hl₀
        clear hl₀
        refine lv_goto (tgt := 32) hx hb dX9_clear_55 (by decide) ?_
        have hb_61 : 10 - (x_60 : Int32).toInt < 10 - (vy_4 : Int32).toInt ∧ 1 ≤ 10 - (vy_4 : Int32).toInt := by
          have z_1 := Int32.lt_iff_toInt_lt.mp (Int32.not_le.mp c_13)
          have y_10 : (10 : Int32).toInt = 10 := by decide
          have y_1 : (1 : Int32).toInt = 1 := by decide
          have t_x_60 : x_60.toInt = (vy_4 : Int32).toInt + (1 : Int32).toInt := by rw [ex_60]; exact add_toInt (by omega) (by omega)
          omega
        have ha_62 : 0 ≤ (x_60 : Int32).toInt := by
          have z_1 := Int32.lt_iff_toInt_lt.mp (Int32.not_le.mp c_13)
          have y_10 : (10 : Int32).toInt = 10 := by decide
          have y_1 : (1 : Int32).toInt = 1 := by decide
          have t_x_60 : x_60.toInt = (vy_4 : Int32).toInt + (1 : Int32).toInt := by rw [ex_60]; exact add_toInt (by omega) (by omega)
          omega
        have hr_63 : 0 ≤ (vy_4 : Int32).toInt := by
          have z_1 := Int32.lt_iff_toInt_lt.mp (Int32.not_le.mp c_13)
          have y_10 : (10 : Int32).toInt = 10 := by decide
          omega
        have hi_64 : (x_60 : Int32).toInt = (vy_4 : Int32).toInt + 1 := by
          have z_1 := Int32.lt_iff_toInt_lt.mp (Int32.not_le.mp c_13)
          have y_10 : (10 : Int32).toInt = 10 := by decide
          have y_1 : (1 : Int32).toInt = 1 := by decide
          have t_x_60 : x_60.toInt = (vy_4 : Int32).toInt + (1 : Int32).toInt := by rw [ex_60]; exact add_toInt (by omega) (by omega)
          omega
        exact ih_8 x_60 g_57 g_59 _ _ _ (by omega) ha_62 (Clr1.step pf_11 hr_63 eg_57 eg_59 hi_64) (hP.sub [0, 1, 2, 3, 4, 5, 6, 7, 8] rfl) (hD.sub [0, 1, 2, 3, 4, 5, 6, 7, 8] rfl rfl) hS (lv_sub hl [0, 1] rfl)
  have ha_65 : 0 ≤ (0 : Int32).toInt := by
    have y_0 : (0 : Int32).toInt = 0 := by decide
    omega
  have hr_66 : (0 : Int32).toInt = 0 := by
    have y_0 : (0 : Int32).toInt = 0 := by decide
    omega
  exact loop_9 _ 0 (Af 1) (Af 2) _ _ _ (Nat.lt_succ_self _) ha_65 (Clr1.nil hr_66) hP hD hS hl
set_option maxRecDepth 100000 in
theorem cu_zX9_clear (l : Launch) (D : va_G) (tc : Nat → ClassId) (sk : (Nat → Nat) × (Nat → Nat)) (Aa_0 : Nat) (Aa_1 : Nat) (Aa_2 : Nat) (Aa_3 : Nat) (Aa_4 : Nat) (Aa_5 : Nat) (Aa_6 : Nat) (Aa_7 : Nat) (Aa_8 : Nat) (Av_0 : Int32) (Av_1 : Int32) (Av_2 : Int32) (Av_3 : Int32) (Av_4 : Int32) (Av_5 : Int32) (Af_1 : Nat → Int32) (Af_2 : Nat → Int32) (Af_3 : Nat → Int32) (Af_4 : Nat → Int32) (Af_5 : Nat → Int32) (Af_6 : Nat → Int32) (Af_7 : Nat → Int32) (Af_8 : Nat → Int32)  : Ct l yX9_clear cX9_clear 2 none { frames := 0, cells := 0, slots := 0, locals := 0 } D tc sk [.ref Aa_0] [(Aa_0, .inr (9, [.int Av_0, .int Av_1, .int Av_2, .int Av_3, .int Av_4, .int Av_5, .ref Aa_1, .ref Aa_2, .ref Aa_3, .ref Aa_4, .ref Aa_5, .ref Aa_6, .ref Aa_7, .ref Aa_8])), (Aa_1, .inl (tc 0, 10, .inl Af_1)), (Aa_2, .inl (tc 0, 10, .inl Af_2)), (Aa_3, .inl (tc 0, 6, .inl Af_3)), (Aa_4, .inl (tc 0, 6, .inl Af_4)), (Aa_5, .inl (tc 0, 6, .inl Af_5)), (Aa_6, .inl (tc 0, 6, .inl Af_6)), (Aa_7, .inl (tc 0, 6, .inl Af_7)), (Aa_8, .inl (tc 0, 6, .inl Af_8))] (fun (v : Option Value) (u : (Nat → Int32) × (Nat → Int32) × (Nat → Int32) × (Nat → Int32) × (Nat → Int32) × (Nat → Int32) × (Nat → Int32) × (Nat → Int32)) => match u with | (oo0x1, oo0x2, oo0x3, oo0x4, oo0x5, oo0x6, oo0x7, oo0x8) => v = none ∧ (ShC 0 0 0 0 0 0 oo0x1 oo0x2 oo0x3 oo0x4 oo0x5 oo0x6 oo0x7 oo0x8 qz_0)) (fun (u : (Nat → Int32) × (Nat → Int32) × (Nat → Int32) × (Nat → Int32) × (Nat → Int32) × (Nat → Int32) × (Nat → Int32) × (Nat → Int32)) => match u with | (oo0x1, oo0x2, oo0x3, oo0x4, oo0x5, oo0x6, oo0x7, oo0x8) => [(Aa_0, .inr (9, [.int 0, .int 0, .int 0, .int 0, .int 0, .int 0, .ref Aa_1, .ref Aa_2, .ref Aa_3, .ref Aa_4, .ref Aa_5, .ref Aa_6, .ref Aa_7, .ref Aa_8])), (Aa_1, .inl (tc 0, 10, .inl oo0x1)), (Aa_2, .inl (tc 0, 10, .inl oo0x2)), (Aa_3, .inl (tc 0, 6, .inl oo0x3)), (Aa_4, .inl (tc 0, 6, .inl oo0x4)), (Aa_5, .inl (tc 0, 6, .inl oo0x5)), (Aa_6, .inl (tc 0, 6, .inl oo0x6)), (Aa_7, .inl (tc 0, 6, .inl oo0x7)), (Aa_8, .inl (tc 0, 6, .inl oo0x8))]) 0 0 :=
  ct_zX9_clear l D tc sk (fun k => ([Aa_0, Aa_1, Aa_2, Aa_3, Aa_4, Aa_5, Aa_6, Aa_7, Aa_8] : List (Nat)).getD k 0) (fun k => ([Av_0, Av_1, Av_2, Av_3, Av_4, Av_5] : List (Int32)).getD k 0) (fun k => ([(fun _ => 0), Af_1, Af_2, Af_3, Af_4, Af_5, Af_6, Af_7, Af_8] : List (Nat → Int32)).getD k (fun _ => 0)) 
set_option maxHeartbeats 4000000 in
set_option maxRecDepth 100000 in
theorem ct_zX0_readBook (l : Launch) (D : va_G) (tc : Nat → ClassId) (sk : (Nat → Nat) × (Nat → Nat)) (Wa : Nat → Nat) (Aa : Nat → Nat) (Av : Nat → Int32) (Af : Nat → Nat → Int32) (Ta : Nat → Nat) (Tv : Nat → Int32) (Tf : Nat → Nat → Int32) (rr : Except Int (Nat × Nat)) (C : Nat → Int) (h_tape : 0 ≤ ((Tv 0) : Int32).toInt ∧ ((Tv 0) : Int32).toInt ≤ 400 ∧ 0 ≤ ((Tv 1) : Int32).toInt ∧ ((Tv 1) : Int32).toInt ≤ 400 ∧ 0 ≤ ((Tv 2) : Int32).toInt ∧ ((Tv 2) : Int32).toInt ≤ 400) (h_by : Byt (Tf 1)) (h_r : TpR (Tf 1) (Tv 0) rr (Tv 1) (Tv 2) (Tv 3) (Tv 4)) (h_bu : 0 ≤ ((Av 3) : Int32).toInt ∧ ((Av 3) : Int32).toInt ≤ 6) (h_c : QcI rr (Av 0) (Av 1) (Av 2) (Av 3) (Av 4) (Av 5) (Af 1) (Af 2) (Af 3) (Af 4) (Af 5) (Af 6) (Af 7) (Af 8) C) : Ct l yX0_readBook cX0_readBook 2 none { frames := 3, cells := 0, slots := 0, locals := 68 } D tc sk [.ref (Wa 0), .ref (Ta 0)] [((Wa 0), .inr (0, [.ref (Aa 0)])), ((Aa 0), .inr (9, [.int (Av 0), .int (Av 1), .int (Av 2), .int (Av 3), .int (Av 4), .int (Av 5), .ref (Aa 1), .ref (Aa 2), .ref (Aa 3), .ref (Aa 4), .ref (Aa 5), .ref (Aa 6), .ref (Aa 7), .ref (Aa 8)])), ((Aa 1), .inl (tc 0, 10, .inl (Af 1))), ((Aa 2), .inl (tc 0, 10, .inl (Af 2))), ((Aa 3), .inl (tc 0, 6, .inl (Af 3))), ((Aa 4), .inl (tc 0, 6, .inl (Af 4))), ((Aa 5), .inl (tc 0, 6, .inl (Af 5))), ((Aa 6), .inl (tc 0, 6, .inl (Af 6))), ((Aa 7), .inl (tc 0, 6, .inl (Af 7))), ((Aa 8), .inl (tc 0, 6, .inl (Af 8))), ((Ta 0), .inr (10, [.ref (Ta 1), .int (Tv 0), .int (Tv 1), .int (Tv 2), .int (Tv 3), .int (Tv 4)])), ((Ta 1), .inl (tc 0, 400, .inl (Tf 1)))] (fun (v : Option Value) (u : (Int32) × (Int32) × (Int32) × (Int32) × (Int32) × (Int32) × (Int32)) => match u with | (oo0x1, oo0x2, oo0x3, oo0x4, oo0x5, oo0x6, oo0x7) => v = none ∧ (0 ≤ ((Tv 0) : Int32).toInt ∧ ((Tv 0) : Int32).toInt ≤ 400 ∧ 0 ≤ (oo0x4 : Int32).toInt ∧ (oo0x4 : Int32).toInt ≤ 400 ∧ 0 ≤ (oo0x5 : Int32).toInt ∧ (oo0x5 : Int32).toInt ≤ 400) ∧ (0 ≤ ((Av 3) : Int32).toInt ∧ ((Av 3) : Int32).toInt ≤ 6) ∧ (TpR (Tf 1) (Tv 0) (rN1 (cB (Tf 1) (Tv 0)) 1 10 (rN1 (cB (Tf 1) (Tv 0)) 0 9 (rN1 (cB (Tf 1) (Tv 0)) 0 99 rr))) oo0x4 oo0x5 oo0x6 oo0x7) ∧ (QsQ (qz_k0 (cB (Tf 1) (Tv 0)) C rr) oo0x1 oo0x2 oo0x3 (Av 3) (Av 4) (Av 5) (Af 1) (Af 2) (Af 3) (Af 4) (Af 5) (Af 6) (Af 7) (Af 8))) (fun (u : (Int32) × (Int32) × (Int32) × (Int32) × (Int32) × (Int32) × (Int32)) => match u with | (oo0x1, oo0x2, oo0x3, oo0x4, oo0x5, oo0x6, oo0x7) => [((Wa 0), .inr (0, [.ref (Aa 0)])), ((Aa 0), .inr (9, [.int oo0x1, .int oo0x2, .int oo0x3, .int (Av 3), .int (Av 4), .int (Av 5), .ref (Aa 1), .ref (Aa 2), .ref (Aa 3), .ref (Aa 4), .ref (Aa 5), .ref (Aa 6), .ref (Aa 7), .ref (Aa 8)])), ((Aa 1), .inl (tc 0, 10, .inl (Af 1))), ((Aa 2), .inl (tc 0, 10, .inl (Af 2))), ((Aa 3), .inl (tc 0, 6, .inl (Af 3))), ((Aa 4), .inl (tc 0, 6, .inl (Af 4))), ((Aa 5), .inl (tc 0, 6, .inl (Af 5))), ((Aa 6), .inl (tc 0, 6, .inl (Af 6))), ((Aa 7), .inl (tc 0, 6, .inl (Af 7))), ((Aa 8), .inl (tc 0, 6, .inl (Af 8))), ((Ta 0), .inr (10, [.ref (Ta 1), .int (Tv 0), .int oo0x4, .int oo0x5, .int oo0x6, .int oo0x7])), ((Ta 1), .inl (tc 0, 400, .inl (Tf 1)))]) 0 0 := by
  refine Ct.start (by decide) (Nat.le_of_ble_eq_true rfl) (fun p e s m below meth c A ls hx hb hr hlk hin hml hown hts hK hX hP hD hA hl hS => ?_)
  have hl : lv_has ls 2 [(0, .ref (Wa 0)), (1, .ref (Ta 0))] := hl
  have tb_1 : TpB (rTE (cB (Tf 1) (Tv 0)) rr) (Tv 2) (Tv 4) := TpR.tb h_r
  refine lv_aload_n hx hb dX0_readBook_0 rfl (lv_at hl 0 rfl) ?_
  refine gf_X0_12 hx hb hts hown hK hP 0 rfl rfl dX0_readBook_1 ?_
  refine lv_aload_n hx hb dX0_readBook_4 rfl (lv_at hl 1 rfl) ?_
  refine lv_iconst (v := 0) hx hb dX0_readBook_5 (by decide) ?_
  refine lv_bipush (v := 99) hx hb dX0_readBook_6 (by decide) ?_
  have ha_2 : (0 : Int32).toInt = (0 : Int) := by
    have y_0 : (0 : Int32).toInt = 0 := by decide
    omega
  have ha_3 : (99 : Int32).toInt = (99 : Int) := by
    have y_99 : (99 : Int32).toInt = 99 := by decide
    omega
  refine cV (a := (Ta 0)) (As := [.int 0, .int 99]) (rest := [.ref (Aa 0)]) (wr := [((Wa 0), .inr (0, [.ref (Aa 0)])), ((Aa 0), .inr (9, [.int (Av 0), .int (Av 1), .int (Av 2), .int (Av 3), .int (Av 4), .int (Av 5), .ref (Aa 1), .ref (Aa 2), .ref (Aa 3), .ref (Aa 4), .ref (Aa 5), .ref (Aa 6), .ref (Aa 7), .ref (Aa 8)])), ((Aa 1), .inl (tc 0, 10, .inl (Af 1))), ((Aa 2), .inl (tc 0, 10, .inl (Af 2))), ((Aa 3), .inl (tc 0, 6, .inl (Af 3))), ((Aa 4), .inl (tc 0, 6, .inl (Af 4))), ((Aa 5), .inl (tc 0, 6, .inl (Af 5))), ((Aa 6), .inl (tc 0, 6, .inl (Af 6))), ((Aa 7), .inl (tc 0, 6, .inl (Af 7))), ((Aa 8), .inl (tc 0, 6, .inl (Af 8)))]) ⟨hx, hb, hml, hown, hts⟩ hK hX hA (cu_fX10_takeNumber l D tc sk (Ta 0) (Ta 1) (Tv 0) (Tv 1) (Tv 2) (Tv 3) (Tv 4) (Tf 1) 0 99 rr 0 99 h_tape h_by h_r ha_2 ha_3) k_566 k_563 k_564 k_565 k_96 pl_X10_takeNumber ⟨Nat.le_of_ble_eq_true rfl, Nat.le_of_ble_eq_true rfl⟩ rfl rfl (va_recv hK hP (ci := 10) (q0 := 10) rfl rfl) hP hD hS [10, 11] [0, 1, 2, 3, 4, 5, 6, 7, 8, 9] rfl rfl rfl rfl rfl (by decide) rfl hl.1 rfl (Nat.le_of_ble_eq_true rfl) dX0_readBook_8 ⟨Nat.le_of_ble_eq_true rfl, Nat.le_of_ble_eq_true rfl⟩ (fun v_4 u_5 H locs hv_6 hP₀ hD₀ hS₀ => ?_)
  obtain ⟨sv_7, sv_8, sv_9, sv_10⟩ := u_5
  obtain ⟨r_13, rfl, he_14, pf_11, pf_12⟩ := hv_6
  have he_14 : NuV (cB (Tf 1) (Tv 0)) (0 : Int) (99 : Int) rr r_13 := he_14
  have pf_11 : 0 ≤ ((Tv 0) : Int32).toInt ∧ ((Tv 0) : Int32).toInt ≤ 400 ∧ 0 ≤ (sv_7 : Int32).toInt ∧ (sv_7 : Int32).toInt ≤ 400 ∧ 0 ≤ (sv_8 : Int32).toInt ∧ (sv_8 : Int32).toInt ≤ 400 := pf_11
  have pf_12 : TpR (Tf 1) (Tv 0) (rNX (cB (Tf 1) (Tv 0)) (rNU (cB (Tf 1) (Tv 0)) (0 : Int) (99 : Int) rr)) sv_7 sv_8 sv_9 sv_10 := pf_12
  obtain ⟨ro_16, ero_16⟩ : ∃ z : Except Int (Nat × Nat), z = (rNX (cB (Tf 1) (Tv 0)) (rNU (cB (Tf 1) (Tv 0)) 0 99 rr)) := ⟨_, rfl⟩
  rw [← ero_16] at pf_12
  have tb_17 : TpB (rTE (cB (Tf 1) (Tv 0)) ro_16) sv_8 sv_10 := TpR.tb pf_12
  refine W.eq (g2 := F0 m 11 ls [.int r_13, .ref (Aa 0)]) rfl ?_
  replace hP : va_P D classes [((Wa 0), .inr (0, [.ref (Aa 0)])), ((Aa 0), .inr (9, [.int (Av 0), .int (Av 1), .int (Av 2), .int (Av 3), .int (Av 4), .int (Av 5), .ref (Aa 1), .ref (Aa 2), .ref (Aa 3), .ref (Aa 4), .ref (Aa 5), .ref (Aa 6), .ref (Aa 7), .ref (Aa 8)])), ((Aa 1), .inl (tc 0, 10, .inl (Af 1))), ((Aa 2), .inl (tc 0, 10, .inl (Af 2))), ((Aa 3), .inl (tc 0, 6, .inl (Af 3))), ((Aa 4), .inl (tc 0, 6, .inl (Af 4))), ((Aa 5), .inl (tc 0, 6, .inl (Af 5))), ((Aa 6), .inl (tc 0, 6, .inl (Af 6))), ((Aa 7), .inl (tc 0, 6, .inl (Af 7))), ((Aa 8), .inl (tc 0, 6, .inl (Af 8))), ((Ta 0), .inr (10, [.ref (Ta 1), .int (Tv 0), .int sv_7, .int sv_8, .int sv_9, .int sv_10])), ((Ta 1), .inl (tc 0, 400, .inl (Tf 1)))] H := hP₀
  replace hD : va_D A [((Wa 0), .inr (0, [.ref (Aa 0)])), ((Aa 0), .inr (9, [.int (Av 0), .int (Av 1), .int (Av 2), .int (Av 3), .int (Av 4), .int (Av 5), .ref (Aa 1), .ref (Aa 2), .ref (Aa 3), .ref (Aa 4), .ref (Aa 5), .ref (Aa 6), .ref (Aa 7), .ref (Aa 8)])), ((Aa 1), .inl (tc 0, 10, .inl (Af 1))), ((Aa 2), .inl (tc 0, 10, .inl (Af 2))), ((Aa 3), .inl (tc 0, 6, .inl (Af 3))), ((Aa 4), .inl (tc 0, 6, .inl (Af 4))), ((Aa 5), .inl (tc 0, 6, .inl (Af 5))), ((Aa 6), .inl (tc 0, 6, .inl (Af 6))), ((Aa 7), .inl (tc 0, 6, .inl (Af 7))), ((Aa 8), .inl (tc 0, 6, .inl (Af 8))), ((Ta 0), .inr (10, [.ref (Ta 1), .int (Tv 0), .int sv_7, .int sv_8, .int sv_9, .int sv_10])), ((Ta 1), .inl (tc 0, 400, .inl (Tf 1)))] := hD₀
  replace hS := hS₀
  clear hP₀ hD₀ hS₀
  refine pf_X0_74 hx hb hts hown hK hP hD hS 1 rfl (Nat.le_of_ble_eq_true rfl) rfl rfl dX0_readBook_11 (fun H locs hP₀ hD₀ hS₀ => ?_)
  replace hP : va_P D classes [((Wa 0), .inr (0, [.ref (Aa 0)])), ((Aa 0), .inr (9, [.int r_13, .int (Av 1), .int (Av 2), .int (Av 3), .int (Av 4), .int (Av 5), .ref (Aa 1), .ref (Aa 2), .ref (Aa 3), .ref (Aa 4), .ref (Aa 5), .ref (Aa 6), .ref (Aa 7), .ref (Aa 8)])), ((Aa 1), .inl (tc 0, 10, .inl (Af 1))), ((Aa 2), .inl (tc 0, 10, .inl (Af 2))), ((Aa 3), .inl (tc 0, 6, .inl (Af 3))), ((Aa 4), .inl (tc 0, 6, .inl (Af 4))), ((Aa 5), .inl (tc 0, 6, .inl (Af 5))), ((Aa 6), .inl (tc 0, 6, .inl (Af 6))), ((Aa 7), .inl (tc 0, 6, .inl (Af 7))), ((Aa 8), .inl (tc 0, 6, .inl (Af 8))), ((Ta 0), .inr (10, [.ref (Ta 1), .int (Tv 0), .int sv_7, .int sv_8, .int sv_9, .int sv_10])), ((Ta 1), .inl (tc 0, 400, .inl (Tf 1)))] H := hP₀
  replace hD : va_D A [((Wa 0), .inr (0, [.ref (Aa 0)])), ((Aa 0), .inr (9, [.int r_13, .int (Av 1), .int (Av 2), .int (Av 3), .int (Av 4), .int (Av 5), .ref (Aa 1), .ref (Aa 2), .ref (Aa 3), .ref (Aa 4), .ref (Aa 5), .ref (Aa 6), .ref (Aa 7), .ref (Aa 8)])), ((Aa 1), .inl (tc 0, 10, .inl (Af 1))), ((Aa 2), .inl (tc 0, 10, .inl (Af 2))), ((Aa 3), .inl (tc 0, 6, .inl (Af 3))), ((Aa 4), .inl (tc 0, 6, .inl (Af 4))), ((Aa 5), .inl (tc 0, 6, .inl (Af 5))), ((Aa 6), .inl (tc 0, 6, .inl (Af 6))), ((Aa 7), .inl (tc 0, 6, .inl (Af 7))), ((Aa 8), .inl (tc 0, 6, .inl (Af 8))), ((Ta 0), .inr (10, [.ref (Ta 1), .int (Tv 0), .int sv_7, .int sv_8, .int sv_9, .int sv_10])), ((Ta 1), .inl (tc 0, 400, .inl (Tf 1)))] := hD₀
  replace hS := hS₀
  clear hP₀ hD₀ hS₀
  refine lv_aload_n hx hb dX0_readBook_14 rfl (lv_at hl 0 rfl) ?_
  refine gf_X0_12 hx hb hts hown hK hP 0 rfl rfl dX0_readBook_15 ?_
  refine lv_aload_n hx hb dX0_readBook_18 rfl (lv_at hl 1 rfl) ?_
  refine lv_iconst (v := 0) hx hb dX0_readBook_19 (by decide) ?_
  refine lv_bipush (v := 9) hx hb dX0_readBook_20 (by decide) ?_
  have ha_18 : (0 : Int32).toInt = (0 : Int) := by
    have y_0 : (0 : Int32).toInt = 0 := by decide
    omega
  have ha_19 : (9 : Int32).toInt = (9 : Int) := by
    have y_9 : (9 : Int32).toInt = 9 := by decide
    omega
  refine cV (a := (Ta 0)) (As := [.int 0, .int 9]) (rest := [.ref (Aa 0)]) (wr := [((Wa 0), .inr (0, [.ref (Aa 0)])), ((Aa 0), .inr (9, [.int r_13, .int (Av 1), .int (Av 2), .int (Av 3), .int (Av 4), .int (Av 5), .ref (Aa 1), .ref (Aa 2), .ref (Aa 3), .ref (Aa 4), .ref (Aa 5), .ref (Aa 6), .ref (Aa 7), .ref (Aa 8)])), ((Aa 1), .inl (tc 0, 10, .inl (Af 1))), ((Aa 2), .inl (tc 0, 10, .inl (Af 2))), ((Aa 3), .inl (tc 0, 6, .inl (Af 3))), ((Aa 4), .inl (tc 0, 6, .inl (Af 4))), ((Aa 5), .inl (tc 0, 6, .inl (Af 5))), ((Aa 6), .inl (tc 0, 6, .inl (Af 6))), ((Aa 7), .inl (tc 0, 6, .inl (Af 7))), ((Aa 8), .inl (tc 0, 6, .inl (Af 8)))]) ⟨hx, hb, hml, hown, hts⟩ hK hX hA (cu_fX10_takeNumber l D tc sk (Ta 0) (Ta 1) (Tv 0) sv_7 sv_8 sv_9 sv_10 (Tf 1) 0 9 ro_16 0 9 pf_11 h_by pf_12 ha_18 ha_19) k_566 k_563 k_564 k_565 k_96 pl_X10_takeNumber ⟨Nat.le_of_ble_eq_true rfl, Nat.le_of_ble_eq_true rfl⟩ rfl rfl (va_recv hK hP (ci := 10) (q0 := 10) rfl rfl) hP hD hS [10, 11] [0, 1, 2, 3, 4, 5, 6, 7, 8, 9] rfl rfl rfl rfl rfl (by decide) rfl hl.1 rfl (Nat.le_of_ble_eq_true rfl) dX0_readBook_22 ⟨Nat.le_of_ble_eq_true rfl, Nat.le_of_ble_eq_true rfl⟩ (fun v_20 u_21 H locs hv_22 hP₀ hD₀ hS₀ => ?_)
  obtain ⟨sv_23, sv_24, sv_25, sv_26⟩ := u_21
  obtain ⟨r_29, rfl, he_30, pf_27, pf_28⟩ := hv_22
  have he_30 : NuV (cB (Tf 1) (Tv 0)) (0 : Int) (9 : Int) ro_16 r_29 := he_30
  have pf_27 : 0 ≤ ((Tv 0) : Int32).toInt ∧ ((Tv 0) : Int32).toInt ≤ 400 ∧ 0 ≤ (sv_23 : Int32).toInt ∧ (sv_23 : Int32).toInt ≤ 400 ∧ 0 ≤ (sv_24 : Int32).toInt ∧ (sv_24 : Int32).toInt ≤ 400 := pf_27
  have pf_28 : TpR (Tf 1) (Tv 0) (rNX (cB (Tf 1) (Tv 0)) (rNU (cB (Tf 1) (Tv 0)) (0 : Int) (9 : Int) ro_16)) sv_23 sv_24 sv_25 sv_26 := pf_28
  obtain ⟨ro_32, ero_32⟩ : ∃ z : Except Int (Nat × Nat), z = (rNX (cB (Tf 1) (Tv 0)) (rNU (cB (Tf 1) (Tv 0)) 0 9 ro_16)) := ⟨_, rfl⟩
  rw [← ero_32] at pf_28
  have tb_33 : TpB (rTE (cB (Tf 1) (Tv 0)) ro_32) sv_24 sv_26 := TpR.tb pf_28
  refine W.eq (g2 := F0 m 25 ls [.int r_29, .ref (Aa 0)]) rfl ?_
  replace hP : va_P D classes [((Wa 0), .inr (0, [.ref (Aa 0)])), ((Aa 0), .inr (9, [.int r_13, .int (Av 1), .int (Av 2), .int (Av 3), .int (Av 4), .int (Av 5), .ref (Aa 1), .ref (Aa 2), .ref (Aa 3), .ref (Aa 4), .ref (Aa 5), .ref (Aa 6), .ref (Aa 7), .ref (Aa 8)])), ((Aa 1), .inl (tc 0, 10, .inl (Af 1))), ((Aa 2), .inl (tc 0, 10, .inl (Af 2))), ((Aa 3), .inl (tc 0, 6, .inl (Af 3))), ((Aa 4), .inl (tc 0, 6, .inl (Af 4))), ((Aa 5), .inl (tc 0, 6, .inl (Af 5))), ((Aa 6), .inl (tc 0, 6, .inl (Af 6))), ((Aa 7), .inl (tc 0, 6, .inl (Af 7))), ((Aa 8), .inl (tc 0, 6, .inl (Af 8))), ((Ta 0), .inr (10, [.ref (Ta 1), .int (Tv 0), .int sv_23, .int sv_24, .int sv_25, .int sv_26])), ((Ta 1), .inl (tc 0, 400, .inl (Tf 1)))] H := hP₀
  replace hD : va_D A [((Wa 0), .inr (0, [.ref (Aa 0)])), ((Aa 0), .inr (9, [.int r_13, .int (Av 1), .int (Av 2), .int (Av 3), .int (Av 4), .int (Av 5), .ref (Aa 1), .ref (Aa 2), .ref (Aa 3), .ref (Aa 4), .ref (Aa 5), .ref (Aa 6), .ref (Aa 7), .ref (Aa 8)])), ((Aa 1), .inl (tc 0, 10, .inl (Af 1))), ((Aa 2), .inl (tc 0, 10, .inl (Af 2))), ((Aa 3), .inl (tc 0, 6, .inl (Af 3))), ((Aa 4), .inl (tc 0, 6, .inl (Af 4))), ((Aa 5), .inl (tc 0, 6, .inl (Af 5))), ((Aa 6), .inl (tc 0, 6, .inl (Af 6))), ((Aa 7), .inl (tc 0, 6, .inl (Af 7))), ((Aa 8), .inl (tc 0, 6, .inl (Af 8))), ((Ta 0), .inr (10, [.ref (Ta 1), .int (Tv 0), .int sv_23, .int sv_24, .int sv_25, .int sv_26])), ((Ta 1), .inl (tc 0, 400, .inl (Tf 1)))] := hD₀
  replace hS := hS₀
  clear hP₀ hD₀ hS₀
  refine pf_X0_77 hx hb hts hown hK hP hD hS 1 rfl (Nat.le_of_ble_eq_true rfl) rfl rfl dX0_readBook_25 (fun H locs hP₀ hD₀ hS₀ => ?_)
  replace hP : va_P D classes [((Wa 0), .inr (0, [.ref (Aa 0)])), ((Aa 0), .inr (9, [.int r_13, .int r_29, .int (Av 2), .int (Av 3), .int (Av 4), .int (Av 5), .ref (Aa 1), .ref (Aa 2), .ref (Aa 3), .ref (Aa 4), .ref (Aa 5), .ref (Aa 6), .ref (Aa 7), .ref (Aa 8)])), ((Aa 1), .inl (tc 0, 10, .inl (Af 1))), ((Aa 2), .inl (tc 0, 10, .inl (Af 2))), ((Aa 3), .inl (tc 0, 6, .inl (Af 3))), ((Aa 4), .inl (tc 0, 6, .inl (Af 4))), ((Aa 5), .inl (tc 0, 6, .inl (Af 5))), ((Aa 6), .inl (tc 0, 6, .inl (Af 6))), ((Aa 7), .inl (tc 0, 6, .inl (Af 7))), ((Aa 8), .inl (tc 0, 6, .inl (Af 8))), ((Ta 0), .inr (10, [.ref (Ta 1), .int (Tv 0), .int sv_23, .int sv_24, .int sv_25, .int sv_26])), ((Ta 1), .inl (tc 0, 400, .inl (Tf 1)))] H := hP₀
  replace hD : va_D A [((Wa 0), .inr (0, [.ref (Aa 0)])), ((Aa 0), .inr (9, [.int r_13, .int r_29, .int (Av 2), .int (Av 3), .int (Av 4), .int (Av 5), .ref (Aa 1), .ref (Aa 2), .ref (Aa 3), .ref (Aa 4), .ref (Aa 5), .ref (Aa 6), .ref (Aa 7), .ref (Aa 8)])), ((Aa 1), .inl (tc 0, 10, .inl (Af 1))), ((Aa 2), .inl (tc 0, 10, .inl (Af 2))), ((Aa 3), .inl (tc 0, 6, .inl (Af 3))), ((Aa 4), .inl (tc 0, 6, .inl (Af 4))), ((Aa 5), .inl (tc 0, 6, .inl (Af 5))), ((Aa 6), .inl (tc 0, 6, .inl (Af 6))), ((Aa 7), .inl (tc 0, 6, .inl (Af 7))), ((Aa 8), .inl (tc 0, 6, .inl (Af 8))), ((Ta 0), .inr (10, [.ref (Ta 1), .int (Tv 0), .int sv_23, .int sv_24, .int sv_25, .int sv_26])), ((Ta 1), .inl (tc 0, 400, .inl (Tf 1)))] := hD₀
  replace hS := hS₀
  clear hP₀ hD₀ hS₀
  refine lv_aload_n hx hb dX0_readBook_28 rfl (lv_at hl 0 rfl) ?_
  refine gf_X0_12 hx hb hts hown hK hP 0 rfl rfl dX0_readBook_29 ?_
  refine lv_aload_n hx hb dX0_readBook_32 rfl (lv_at hl 1 rfl) ?_
  refine lv_iconst (v := 1) hx hb dX0_readBook_33 (by decide) ?_
  refine lv_bipush (v := 10) hx hb dX0_readBook_34 (by decide) ?_
  have ha_34 : (1 : Int32).toInt = (1 : Int) := by
    have y_1 : (1 : Int32).toInt = 1 := by decide
    omega
  have ha_35 : (10 : Int32).toInt = (10 : Int) := by
    have y_10 : (10 : Int32).toInt = 10 := by decide
    omega
  refine cV (a := (Ta 0)) (As := [.int 1, .int 10]) (rest := [.ref (Aa 0)]) (wr := [((Wa 0), .inr (0, [.ref (Aa 0)])), ((Aa 0), .inr (9, [.int r_13, .int r_29, .int (Av 2), .int (Av 3), .int (Av 4), .int (Av 5), .ref (Aa 1), .ref (Aa 2), .ref (Aa 3), .ref (Aa 4), .ref (Aa 5), .ref (Aa 6), .ref (Aa 7), .ref (Aa 8)])), ((Aa 1), .inl (tc 0, 10, .inl (Af 1))), ((Aa 2), .inl (tc 0, 10, .inl (Af 2))), ((Aa 3), .inl (tc 0, 6, .inl (Af 3))), ((Aa 4), .inl (tc 0, 6, .inl (Af 4))), ((Aa 5), .inl (tc 0, 6, .inl (Af 5))), ((Aa 6), .inl (tc 0, 6, .inl (Af 6))), ((Aa 7), .inl (tc 0, 6, .inl (Af 7))), ((Aa 8), .inl (tc 0, 6, .inl (Af 8)))]) ⟨hx, hb, hml, hown, hts⟩ hK hX hA (cu_fX10_takeNumber l D tc sk (Ta 0) (Ta 1) (Tv 0) sv_23 sv_24 sv_25 sv_26 (Tf 1) 1 10 ro_32 1 10 pf_27 h_by pf_28 ha_34 ha_35) k_566 k_563 k_564 k_565 k_96 pl_X10_takeNumber ⟨Nat.le_of_ble_eq_true rfl, Nat.le_of_ble_eq_true rfl⟩ rfl rfl (va_recv hK hP (ci := 10) (q0 := 10) rfl rfl) hP hD hS [10, 11] [0, 1, 2, 3, 4, 5, 6, 7, 8, 9] rfl rfl rfl rfl rfl (by decide) rfl hl.1 rfl (Nat.le_of_ble_eq_true rfl) dX0_readBook_36 ⟨Nat.le_of_ble_eq_true rfl, Nat.le_of_ble_eq_true rfl⟩ (fun v_36 u_37 H locs hv_38 hP₀ hD₀ hS₀ => ?_)
  obtain ⟨sv_39, sv_40, sv_41, sv_42⟩ := u_37
  obtain ⟨r_45, rfl, he_46, pf_43, pf_44⟩ := hv_38
  have he_46 : NuV (cB (Tf 1) (Tv 0)) (1 : Int) (10 : Int) ro_32 r_45 := he_46
  have pf_43 : 0 ≤ ((Tv 0) : Int32).toInt ∧ ((Tv 0) : Int32).toInt ≤ 400 ∧ 0 ≤ (sv_39 : Int32).toInt ∧ (sv_39 : Int32).toInt ≤ 400 ∧ 0 ≤ (sv_40 : Int32).toInt ∧ (sv_40 : Int32).toInt ≤ 400 := pf_43
  have pf_44 : TpR (Tf 1) (Tv 0) (rNX (cB (Tf 1) (Tv 0)) (rNU (cB (Tf 1) (Tv 0)) (1 : Int) (10 : Int) ro_32)) sv_39 sv_40 sv_41 sv_42 := pf_44
  obtain ⟨ro_48, ero_48⟩ : ∃ z : Except Int (Nat × Nat), z = (rNX (cB (Tf 1) (Tv 0)) (rNU (cB (Tf 1) (Tv 0)) 1 10 ro_32)) := ⟨_, rfl⟩
  rw [← ero_48] at pf_44
  have tb_49 : TpB (rTE (cB (Tf 1) (Tv 0)) ro_48) sv_40 sv_42 := TpR.tb pf_44
  refine W.eq (g2 := F0 m 39 ls [.int r_45, .ref (Aa 0)]) rfl ?_
  replace hP : va_P D classes [((Wa 0), .inr (0, [.ref (Aa 0)])), ((Aa 0), .inr (9, [.int r_13, .int r_29, .int (Av 2), .int (Av 3), .int (Av 4), .int (Av 5), .ref (Aa 1), .ref (Aa 2), .ref (Aa 3), .ref (Aa 4), .ref (Aa 5), .ref (Aa 6), .ref (Aa 7), .ref (Aa 8)])), ((Aa 1), .inl (tc 0, 10, .inl (Af 1))), ((Aa 2), .inl (tc 0, 10, .inl (Af 2))), ((Aa 3), .inl (tc 0, 6, .inl (Af 3))), ((Aa 4), .inl (tc 0, 6, .inl (Af 4))), ((Aa 5), .inl (tc 0, 6, .inl (Af 5))), ((Aa 6), .inl (tc 0, 6, .inl (Af 6))), ((Aa 7), .inl (tc 0, 6, .inl (Af 7))), ((Aa 8), .inl (tc 0, 6, .inl (Af 8))), ((Ta 0), .inr (10, [.ref (Ta 1), .int (Tv 0), .int sv_39, .int sv_40, .int sv_41, .int sv_42])), ((Ta 1), .inl (tc 0, 400, .inl (Tf 1)))] H := hP₀
  replace hD : va_D A [((Wa 0), .inr (0, [.ref (Aa 0)])), ((Aa 0), .inr (9, [.int r_13, .int r_29, .int (Av 2), .int (Av 3), .int (Av 4), .int (Av 5), .ref (Aa 1), .ref (Aa 2), .ref (Aa 3), .ref (Aa 4), .ref (Aa 5), .ref (Aa 6), .ref (Aa 7), .ref (Aa 8)])), ((Aa 1), .inl (tc 0, 10, .inl (Af 1))), ((Aa 2), .inl (tc 0, 10, .inl (Af 2))), ((Aa 3), .inl (tc 0, 6, .inl (Af 3))), ((Aa 4), .inl (tc 0, 6, .inl (Af 4))), ((Aa 5), .inl (tc 0, 6, .inl (Af 5))), ((Aa 6), .inl (tc 0, 6, .inl (Af 6))), ((Aa 7), .inl (tc 0, 6, .inl (Af 7))), ((Aa 8), .inl (tc 0, 6, .inl (Af 8))), ((Ta 0), .inr (10, [.ref (Ta 1), .int (Tv 0), .int sv_39, .int sv_40, .int sv_41, .int sv_42])), ((Ta 1), .inl (tc 0, 400, .inl (Tf 1)))] := hD₀
  replace hS := hS₀
  clear hP₀ hD₀ hS₀
  refine pf_X0_80 hx hb hts hown hK hP hD hS 1 rfl (Nat.le_of_ble_eq_true rfl) rfl rfl dX0_readBook_39 (fun H locs hP₀ hD₀ hS₀ => ?_)
  replace hP : va_P D classes [((Wa 0), .inr (0, [.ref (Aa 0)])), ((Aa 0), .inr (9, [.int r_13, .int r_29, .int r_45, .int (Av 3), .int (Av 4), .int (Av 5), .ref (Aa 1), .ref (Aa 2), .ref (Aa 3), .ref (Aa 4), .ref (Aa 5), .ref (Aa 6), .ref (Aa 7), .ref (Aa 8)])), ((Aa 1), .inl (tc 0, 10, .inl (Af 1))), ((Aa 2), .inl (tc 0, 10, .inl (Af 2))), ((Aa 3), .inl (tc 0, 6, .inl (Af 3))), ((Aa 4), .inl (tc 0, 6, .inl (Af 4))), ((Aa 5), .inl (tc 0, 6, .inl (Af 5))), ((Aa 6), .inl (tc 0, 6, .inl (Af 6))), ((Aa 7), .inl (tc 0, 6, .inl (Af 7))), ((Aa 8), .inl (tc 0, 6, .inl (Af 8))), ((Ta 0), .inr (10, [.ref (Ta 1), .int (Tv 0), .int sv_39, .int sv_40, .int sv_41, .int sv_42])), ((Ta 1), .inl (tc 0, 400, .inl (Tf 1)))] H := hP₀
  replace hD : va_D A [((Wa 0), .inr (0, [.ref (Aa 0)])), ((Aa 0), .inr (9, [.int r_13, .int r_29, .int r_45, .int (Av 3), .int (Av 4), .int (Av 5), .ref (Aa 1), .ref (Aa 2), .ref (Aa 3), .ref (Aa 4), .ref (Aa 5), .ref (Aa 6), .ref (Aa 7), .ref (Aa 8)])), ((Aa 1), .inl (tc 0, 10, .inl (Af 1))), ((Aa 2), .inl (tc 0, 10, .inl (Af 2))), ((Aa 3), .inl (tc 0, 6, .inl (Af 3))), ((Aa 4), .inl (tc 0, 6, .inl (Af 4))), ((Aa 5), .inl (tc 0, 6, .inl (Af 5))), ((Aa 6), .inl (tc 0, 6, .inl (Af 6))), ((Aa 7), .inl (tc 0, 6, .inl (Af 7))), ((Aa 8), .inl (tc 0, 6, .inl (Af 8))), ((Ta 0), .inr (10, [.ref (Ta 1), .int (Tv 0), .int sv_39, .int sv_40, .int sv_41, .int sv_42])), ((Ta 1), .inl (tc 0, 400, .inl (Tf 1)))] := hD₀
  replace hS := hS₀
  clear hP₀ hD₀ hS₀
  have hu_50 : TpR (Tf 1) (Tv 0) (rNX (cB (Tf 1) (Tv 0)) (rNU (cB (Tf 1) (Tv 0)) 1 10 (rNX (cB (Tf 1) (Tv 0)) (rNU (cB (Tf 1) (Tv 0)) 0 9 (rNX (cB (Tf 1) (Tv 0)) (rNU (cB (Tf 1) (Tv 0)) 0 99 rr)))))) sv_39 sv_40 sv_41 sv_42 := by
    rw [← ero_16, ← ero_32, ← ero_48]
    exact pf_44
  have hf_51 : TpR (Tf 1) (Tv 0) (rN1 (cB (Tf 1) (Tv 0)) 1 10 (rN1 (cB (Tf 1) (Tv 0)) 0 9 (rN1 (cB (Tf 1) (Tv 0)) 0 99 rr))) sv_39 sv_40 sv_41 sv_42 := hu_50
  have hv_52 : NuV (cB (Tf 1) (Tv 0)) 0 99 rr r_13 := by
    have hq := he_14
    exact hq
  have hv_53 : NuV (cB (Tf 1) (Tv 0)) 0 9 (rN1 (cB (Tf 1) (Tv 0)) 0 99 rr) r_29 := by
    have hq := he_30
    rw [ero_16] at hq
    exact hq
  have hv_54 : NuV (cB (Tf 1) (Tv 0)) 1 10 (rN1 (cB (Tf 1) (Tv 0)) 0 9 (rN1 (cB (Tf 1) (Tv 0)) 0 99 rr)) r_45 := by
    have hq := he_46
    rw [ero_32, ero_16] at hq
    exact hq
  have hs_55 : QsQ (qz_k0 (cB (Tf 1) (Tv 0)) C rr) r_13 r_29 r_45 (Av 3) (Av 4) (Av 5) (Af 1) (Af 2) (Af 3) (Af 4) (Af 5) (Af 6) (Af 7) (Af 8) := QsQ.b0 h_c hv_52 hv_53 hv_54
  exact retV hx hb hr hlk hP hD hS (r_13, r_29, r_45, sv_39, sv_40, sv_41, sv_42) ⟨rfl, pf_43, h_bu, hf_51, hs_55⟩ [0, 1, 2, 3, 4, 5, 6, 7, 8, 9, 10, 11] rfl rfl dX0_readBook_42 (Nat.le_of_ble_eq_true rfl) (Nat.le_of_ble_eq_true rfl) rfl
set_option maxRecDepth 100000 in
theorem cu_zX0_readBook (l : Launch) (D : va_G) (tc : Nat → ClassId) (sk : (Nat → Nat) × (Nat → Nat)) (Wa_0 : Nat) (Aa_0 : Nat) (Aa_1 : Nat) (Aa_2 : Nat) (Aa_3 : Nat) (Aa_4 : Nat) (Aa_5 : Nat) (Aa_6 : Nat) (Aa_7 : Nat) (Aa_8 : Nat) (Av_0 : Int32) (Av_1 : Int32) (Av_2 : Int32) (Av_3 : Int32) (Av_4 : Int32) (Av_5 : Int32) (Af_1 : Nat → Int32) (Af_2 : Nat → Int32) (Af_3 : Nat → Int32) (Af_4 : Nat → Int32) (Af_5 : Nat → Int32) (Af_6 : Nat → Int32) (Af_7 : Nat → Int32) (Af_8 : Nat → Int32) (Ta_0 : Nat) (Ta_1 : Nat) (Tv_0 : Int32) (Tv_1 : Int32) (Tv_2 : Int32) (Tv_3 : Int32) (Tv_4 : Int32) (Tf_1 : Nat → Int32) (rr : Except Int (Nat × Nat)) (C : Nat → Int) (h_tape : 0 ≤ (Tv_0 : Int32).toInt ∧ (Tv_0 : Int32).toInt ≤ 400 ∧ 0 ≤ (Tv_1 : Int32).toInt ∧ (Tv_1 : Int32).toInt ≤ 400 ∧ 0 ≤ (Tv_2 : Int32).toInt ∧ (Tv_2 : Int32).toInt ≤ 400) (h_by : Byt Tf_1) (h_r : TpR Tf_1 Tv_0 rr Tv_1 Tv_2 Tv_3 Tv_4) (h_bu : 0 ≤ (Av_3 : Int32).toInt ∧ (Av_3 : Int32).toInt ≤ 6) (h_c : QcI rr Av_0 Av_1 Av_2 Av_3 Av_4 Av_5 Af_1 Af_2 Af_3 Af_4 Af_5 Af_6 Af_7 Af_8 C) : Ct l yX0_readBook cX0_readBook 2 none { frames := 3, cells := 0, slots := 0, locals := 68 } D tc sk [.ref Wa_0, .ref Ta_0] [(Wa_0, .inr (0, [.ref Aa_0])), (Aa_0, .inr (9, [.int Av_0, .int Av_1, .int Av_2, .int Av_3, .int Av_4, .int Av_5, .ref Aa_1, .ref Aa_2, .ref Aa_3, .ref Aa_4, .ref Aa_5, .ref Aa_6, .ref Aa_7, .ref Aa_8])), (Aa_1, .inl (tc 0, 10, .inl Af_1)), (Aa_2, .inl (tc 0, 10, .inl Af_2)), (Aa_3, .inl (tc 0, 6, .inl Af_3)), (Aa_4, .inl (tc 0, 6, .inl Af_4)), (Aa_5, .inl (tc 0, 6, .inl Af_5)), (Aa_6, .inl (tc 0, 6, .inl Af_6)), (Aa_7, .inl (tc 0, 6, .inl Af_7)), (Aa_8, .inl (tc 0, 6, .inl Af_8)), (Ta_0, .inr (10, [.ref Ta_1, .int Tv_0, .int Tv_1, .int Tv_2, .int Tv_3, .int Tv_4])), (Ta_1, .inl (tc 0, 400, .inl Tf_1))] (fun (v : Option Value) (u : (Int32) × (Int32) × (Int32) × (Int32) × (Int32) × (Int32) × (Int32)) => match u with | (oo0x1, oo0x2, oo0x3, oo0x4, oo0x5, oo0x6, oo0x7) => v = none ∧ (0 ≤ (Tv_0 : Int32).toInt ∧ (Tv_0 : Int32).toInt ≤ 400 ∧ 0 ≤ (oo0x4 : Int32).toInt ∧ (oo0x4 : Int32).toInt ≤ 400 ∧ 0 ≤ (oo0x5 : Int32).toInt ∧ (oo0x5 : Int32).toInt ≤ 400) ∧ (0 ≤ (Av_3 : Int32).toInt ∧ (Av_3 : Int32).toInt ≤ 6) ∧ (TpR Tf_1 Tv_0 (rN1 (cB Tf_1 Tv_0) 1 10 (rN1 (cB Tf_1 Tv_0) 0 9 (rN1 (cB Tf_1 Tv_0) 0 99 rr))) oo0x4 oo0x5 oo0x6 oo0x7) ∧ (QsQ (qz_k0 (cB Tf_1 Tv_0) C rr) oo0x1 oo0x2 oo0x3 Av_3 Av_4 Av_5 Af_1 Af_2 Af_3 Af_4 Af_5 Af_6 Af_7 Af_8)) (fun (u : (Int32) × (Int32) × (Int32) × (Int32) × (Int32) × (Int32) × (Int32)) => match u with | (oo0x1, oo0x2, oo0x3, oo0x4, oo0x5, oo0x6, oo0x7) => [(Wa_0, .inr (0, [.ref Aa_0])), (Aa_0, .inr (9, [.int oo0x1, .int oo0x2, .int oo0x3, .int Av_3, .int Av_4, .int Av_5, .ref Aa_1, .ref Aa_2, .ref Aa_3, .ref Aa_4, .ref Aa_5, .ref Aa_6, .ref Aa_7, .ref Aa_8])), (Aa_1, .inl (tc 0, 10, .inl Af_1)), (Aa_2, .inl (tc 0, 10, .inl Af_2)), (Aa_3, .inl (tc 0, 6, .inl Af_3)), (Aa_4, .inl (tc 0, 6, .inl Af_4)), (Aa_5, .inl (tc 0, 6, .inl Af_5)), (Aa_6, .inl (tc 0, 6, .inl Af_6)), (Aa_7, .inl (tc 0, 6, .inl Af_7)), (Aa_8, .inl (tc 0, 6, .inl Af_8)), (Ta_0, .inr (10, [.ref Ta_1, .int Tv_0, .int oo0x4, .int oo0x5, .int oo0x6, .int oo0x7])), (Ta_1, .inl (tc 0, 400, .inl Tf_1))]) 0 0 :=
  ct_zX0_readBook l D tc sk (fun k => ([Wa_0] : List (Nat)).getD k 0) (fun k => ([Aa_0, Aa_1, Aa_2, Aa_3, Aa_4, Aa_5, Aa_6, Aa_7, Aa_8] : List (Nat)).getD k 0) (fun k => ([Av_0, Av_1, Av_2, Av_3, Av_4, Av_5] : List (Int32)).getD k 0) (fun k => ([(fun _ => 0), Af_1, Af_2, Af_3, Af_4, Af_5, Af_6, Af_7, Af_8] : List (Nat → Int32)).getD k (fun _ => 0)) (fun k => ([Ta_0, Ta_1] : List (Nat)).getD k 0) (fun k => ([Tv_0, Tv_1, Tv_2, Tv_3, Tv_4] : List (Int32)).getD k 0) (fun k => ([(fun _ => 0), Tf_1] : List (Nat → Int32)).getD k (fun _ => 0)) rr C h_tape h_by h_r h_bu h_c
set_option maxHeartbeats 4000000 in
set_option maxRecDepth 100000 in
theorem ct_zX0_readSky (l : Launch) (D : va_G) (tc : Nat → ClassId) (sk : (Nat → Nat) × (Nat → Nat)) (Wa : Nat → Nat) (Aa : Nat → Nat) (Av : Nat → Int32) (Af : Nat → Nat → Int32) (Ta : Nat → Nat) (Tv : Nat → Int32) (Tf : Nat → Nat → Int32) (rr : Except Int (Nat × Nat)) (C : Nat → Int) (h_tape : 0 ≤ ((Tv 0) : Int32).toInt ∧ ((Tv 0) : Int32).toInt ≤ 400 ∧ 0 ≤ ((Tv 1) : Int32).toInt ∧ ((Tv 1) : Int32).toInt ≤ 400 ∧ 0 ≤ ((Tv 2) : Int32).toInt ∧ ((Tv 2) : Int32).toInt ≤ 400) (h_by : Byt (Tf 1)) (h_r : TpR (Tf 1) (Tv 0) rr (Tv 1) (Tv 2) (Tv 3) (Tv 4)) (h_bu : 0 ≤ ((Av 3) : Int32).toInt ∧ ((Av 3) : Int32).toInt ≤ 6) (h_c : QcI rr (Av 0) (Av 1) (Av 2) (Av 3) (Av 4) (Av 5) (Af 1) (Af 2) (Af 3) (Af 4) (Af 5) (Af 6) (Af 7) (Af 8) C) : Ct l yX0_readSky cX0_readSky 4 none { frames := 3, cells := 0, slots := 0, locals := 68 } D tc sk [.ref (Wa 0), .ref (Ta 0)] [((Wa 0), .inr (0, [.ref (Aa 0)])), ((Aa 0), .inr (9, [.int (Av 0), .int (Av 1), .int (Av 2), .int (Av 3), .int (Av 4), .int (Av 5), .ref (Aa 1), .ref (Aa 2), .ref (Aa 3), .ref (Aa 4), .ref (Aa 5), .ref (Aa 6), .ref (Aa 7), .ref (Aa 8)])), ((Aa 1), .inl (tc 0, 10, .inl (Af 1))), ((Aa 2), .inl (tc 0, 10, .inl (Af 2))), ((Aa 3), .inl (tc 0, 6, .inl (Af 3))), ((Aa 4), .inl (tc 0, 6, .inl (Af 4))), ((Aa 5), .inl (tc 0, 6, .inl (Af 5))), ((Aa 6), .inl (tc 0, 6, .inl (Af 6))), ((Aa 7), .inl (tc 0, 6, .inl (Af 7))), ((Aa 8), .inl (tc 0, 6, .inl (Af 8))), ((Ta 0), .inr (10, [.ref (Ta 1), .int (Tv 0), .int (Tv 1), .int (Tv 2), .int (Tv 3), .int (Tv 4)])), ((Ta 1), .inl (tc 0, 400, .inl (Tf 1)))] (fun (v : Option Value) (u : (Nat → Int32) × (Int32) × (Int32) × (Int32) × (Int32)) => match u with | (oo0x1, oo0x2, oo0x3, oo0x4, oo0x5) => v = none ∧ (0 ≤ ((Tv 0) : Int32).toInt ∧ ((Tv 0) : Int32).toInt ≤ 400 ∧ 0 ≤ (oo0x2 : Int32).toInt ∧ (oo0x2 : Int32).toInt ≤ 400 ∧ 0 ≤ (oo0x3 : Int32).toInt ∧ (oo0x3 : Int32).toInt ≤ 400) ∧ (0 ≤ ((Av 3) : Int32).toInt ∧ ((Av 3) : Int32).toInt ≤ 6) ∧ (TpR (Tf 1) (Tv 0) (rN1 (cB (Tf 1) (Tv 0)) 0 9 (rN1 (cB (Tf 1) (Tv 0)) 0 ((Av 2) - 1 : Int32).toInt rr)) oo0x2 oo0x3 oo0x4 oo0x5) ∧ (QsQ (qz_k1 (cB (Tf 1) (Tv 0)) C rr) (Av 0) (Av 1) (Av 2) (Av 3) (Av 4) (Av 5) oo0x1 (Af 2) (Af 3) (Af 4) (Af 5) (Af 6) (Af 7) (Af 8))) (fun (u : (Nat → Int32) × (Int32) × (Int32) × (Int32) × (Int32)) => match u with | (oo0x1, oo0x2, oo0x3, oo0x4, oo0x5) => [((Wa 0), .inr (0, [.ref (Aa 0)])), ((Aa 0), .inr (9, [.int (Av 0), .int (Av 1), .int (Av 2), .int (Av 3), .int (Av 4), .int (Av 5), .ref (Aa 1), .ref (Aa 2), .ref (Aa 3), .ref (Aa 4), .ref (Aa 5), .ref (Aa 6), .ref (Aa 7), .ref (Aa 8)])), ((Aa 1), .inl (tc 0, 10, .inl oo0x1)), ((Aa 2), .inl (tc 0, 10, .inl (Af 2))), ((Aa 3), .inl (tc 0, 6, .inl (Af 3))), ((Aa 4), .inl (tc 0, 6, .inl (Af 4))), ((Aa 5), .inl (tc 0, 6, .inl (Af 5))), ((Aa 6), .inl (tc 0, 6, .inl (Af 6))), ((Aa 7), .inl (tc 0, 6, .inl (Af 7))), ((Aa 8), .inl (tc 0, 6, .inl (Af 8))), ((Ta 0), .inr (10, [.ref (Ta 1), .int (Tv 0), .int oo0x2, .int oo0x3, .int oo0x4, .int oo0x5])), ((Ta 1), .inl (tc 0, 400, .inl (Tf 1)))]) 0 0 := by
  refine Ct.start (by decide) (Nat.le_of_ble_eq_true rfl) (fun p e s m below meth c A ls hx hb hr hlk hin hml hown hts hK hX hP hD hA hl hS => ?_)
  have hl : lv_has ls 4 [(0, .ref (Wa 0)), (1, .ref (Ta 0))] := hl
  have tb_1 : TpB (rTE (cB (Tf 1) (Tv 0)) rr) (Tv 2) (Tv 4) := TpR.tb h_r
  refine lv_aload_n hx hb dX0_readSky_0 rfl (lv_at hl 1 rfl) ?_
  refine lv_iconst (v := 0) hx hb dX0_readSky_1 (by decide) ?_
  refine lv_aload_n hx hb dX0_readSky_2 rfl (lv_at hl 0 rfl) ?_
  refine gf_X0_12 hx hb hts hown hK hP 0 rfl rfl dX0_readSky_3 ?_
  refine gf_X0_80 hx hb hts hown hK hP 1 rfl rfl dX0_readSky_6 ?_
  refine lv_iconst (v := 1) hx hb dX0_readSky_9 (by decide) ?_
  refine lv_isub hx hb dX0_readSky_10 ?_
  refine lv_topi (fun x_2 ex_2 => ?_)
  have ha_3 : (0 : Int32).toInt = (0 : Int) := by
    have y_0 : (0 : Int32).toInt = 0 := by decide
    omega
  refine cV (a := (Ta 0)) (As := [.int 0, .int x_2]) (rest := []) (wr := [((Wa 0), .inr (0, [.ref (Aa 0)])), ((Aa 0), .inr (9, [.int (Av 0), .int (Av 1), .int (Av 2), .int (Av 3), .int (Av 4), .int (Av 5), .ref (Aa 1), .ref (Aa 2), .ref (Aa 3), .ref (Aa 4), .ref (Aa 5), .ref (Aa 6), .ref (Aa 7), .ref (Aa 8)])), ((Aa 1), .inl (tc 0, 10, .inl (Af 1))), ((Aa 2), .inl (tc 0, 10, .inl (Af 2))), ((Aa 3), .inl (tc 0, 6, .inl (Af 3))), ((Aa 4), .inl (tc 0, 6, .inl (Af 4))), ((Aa 5), .inl (tc 0, 6, .inl (Af 5))), ((Aa 6), .inl (tc 0, 6, .inl (Af 6))), ((Aa 7), .inl (tc 0, 6, .inl (Af 7))), ((Aa 8), .inl (tc 0, 6, .inl (Af 8)))]) ⟨hx, hb, hml, hown, hts⟩ hK hX hA (cu_fX10_takeNumber l D tc sk (Ta 0) (Ta 1) (Tv 0) (Tv 1) (Tv 2) (Tv 3) (Tv 4) (Tf 1) 0 x_2 rr 0 (((Av 2) - 1 : Int32).toInt) h_tape h_by h_r ha_3 (congrArg Int32.toInt ex_2)) k_566 k_563 k_564 k_565 k_96 pl_X10_takeNumber ⟨Nat.le_of_ble_eq_true rfl, Nat.le_of_ble_eq_true rfl⟩ rfl rfl (va_recv hK hP (ci := 10) (q0 := 10) rfl rfl) hP hD hS [10, 11] [0, 1, 2, 3, 4, 5, 6, 7, 8, 9] rfl rfl rfl rfl rfl (by decide) rfl hl.1 rfl (Nat.le_of_ble_eq_true rfl) dX0_readSky_11 ⟨Nat.le_of_ble_eq_true rfl, Nat.le_of_ble_eq_true rfl⟩ (fun v_4 u_5 H locs hv_6 hP₀ hD₀ hS₀ => ?_)
  obtain ⟨sv_7, sv_8, sv_9, sv_10⟩ := u_5
  obtain ⟨r_13, rfl, he_14, pf_11, pf_12⟩ := hv_6
  have he_14 : NuV (cB (Tf 1) (Tv 0)) (0 : Int) ((Av 2) - 1 : Int32).toInt rr r_13 := he_14
  have pf_11 : 0 ≤ ((Tv 0) : Int32).toInt ∧ ((Tv 0) : Int32).toInt ≤ 400 ∧ 0 ≤ (sv_7 : Int32).toInt ∧ (sv_7 : Int32).toInt ≤ 400 ∧ 0 ≤ (sv_8 : Int32).toInt ∧ (sv_8 : Int32).toInt ≤ 400 := pf_11
  have pf_12 : TpR (Tf 1) (Tv 0) (rNX (cB (Tf 1) (Tv 0)) (rNU (cB (Tf 1) (Tv 0)) (0 : Int) ((Av 2) - 1 : Int32).toInt rr)) sv_7 sv_8 sv_9 sv_10 := pf_12
  obtain ⟨ro_16, ero_16⟩ : ∃ z : Except Int (Nat × Nat), z = (rNX (cB (Tf 1) (Tv 0)) (rNU (cB (Tf 1) (Tv 0)) 0 ((Av 2) - 1 : Int32).toInt rr)) := ⟨_, rfl⟩
  rw [← ero_16] at pf_12
  have tb_17 : TpB (rTE (cB (Tf 1) (Tv 0)) ro_16) sv_8 sv_10 := TpR.tb pf_12
  refine W.eq (g2 := F0 m 14 ls [.int r_13]) rfl ?_
  replace hP : va_P D classes [((Wa 0), .inr (0, [.ref (Aa 0)])), ((Aa 0), .inr (9, [.int (Av 0), .int (Av 1), .int (Av 2), .int (Av 3), .int (Av 4), .int (Av 5), .ref (Aa 1), .ref (Aa 2), .ref (Aa 3), .ref (Aa 4), .ref (Aa 5), .ref (Aa 6), .ref (Aa 7), .ref (Aa 8)])), ((Aa 1), .inl (tc 0, 10, .inl (Af 1))), ((Aa 2), .inl (tc 0, 10, .inl (Af 2))), ((Aa 3), .inl (tc 0, 6, .inl (Af 3))), ((Aa 4), .inl (tc 0, 6, .inl (Af 4))), ((Aa 5), .inl (tc 0, 6, .inl (Af 5))), ((Aa 6), .inl (tc 0, 6, .inl (Af 6))), ((Aa 7), .inl (tc 0, 6, .inl (Af 7))), ((Aa 8), .inl (tc 0, 6, .inl (Af 8))), ((Ta 0), .inr (10, [.ref (Ta 1), .int (Tv 0), .int sv_7, .int sv_8, .int sv_9, .int sv_10])), ((Ta 1), .inl (tc 0, 400, .inl (Tf 1)))] H := hP₀
  replace hD : va_D A [((Wa 0), .inr (0, [.ref (Aa 0)])), ((Aa 0), .inr (9, [.int (Av 0), .int (Av 1), .int (Av 2), .int (Av 3), .int (Av 4), .int (Av 5), .ref (Aa 1), .ref (Aa 2), .ref (Aa 3), .ref (Aa 4), .ref (Aa 5), .ref (Aa 6), .ref (Aa 7), .ref (Aa 8)])), ((Aa 1), .inl (tc 0, 10, .inl (Af 1))), ((Aa 2), .inl (tc 0, 10, .inl (Af 2))), ((Aa 3), .inl (tc 0, 6, .inl (Af 3))), ((Aa 4), .inl (tc 0, 6, .inl (Af 4))), ((Aa 5), .inl (tc 0, 6, .inl (Af 5))), ((Aa 6), .inl (tc 0, 6, .inl (Af 6))), ((Aa 7), .inl (tc 0, 6, .inl (Af 7))), ((Aa 8), .inl (tc 0, 6, .inl (Af 8))), ((Ta 0), .inr (10, [.ref (Ta 1), .int (Tv 0), .int sv_7, .int sv_8, .int sv_9, .int sv_10])), ((Ta 1), .inl (tc 0, 400, .inl (Tf 1)))] := hD₀
  replace hS := hS₀
  clear hP₀ hD₀ hS₀
  refine lv_istore_n (lv' := [(2, .int r_13), (0, .ref (Wa 0)), (1, .ref (Ta 0))]) hx hb dX0_readSky_14 rfl hl (by decide) rfl (fun ls hl₀ => ?_)
  replace hl := hl₀
  clear hl₀
  refine lv_aload_n hx hb dX0_readSky_15 rfl (lv_at hl 2 rfl) ?_
  refine lv_iconst (v := 0) hx hb dX0_readSky_16 (by decide) ?_
  refine lv_bipush (v := 9) hx hb dX0_readSky_17 (by decide) ?_
  have ha_18 : (0 : Int32).toInt = (0 : Int) := by
    have y_0 : (0 : Int32).toInt = 0 := by decide
    omega
  have ha_19 : (9 : Int32).toInt = (9 : Int) := by
    have y_9 : (9 : Int32).toInt = 9 := by decide
    omega
  refine cV (a := (Ta 0)) (As := [.int 0, .int 9]) (rest := []) (wr := [((Wa 0), .inr (0, [.ref (Aa 0)])), ((Aa 0), .inr (9, [.int (Av 0), .int (Av 1), .int (Av 2), .int (Av 3), .int (Av 4), .int (Av 5), .ref (Aa 1), .ref (Aa 2), .ref (Aa 3), .ref (Aa 4), .ref (Aa 5), .ref (Aa 6), .ref (Aa 7), .ref (Aa 8)])), ((Aa 1), .inl (tc 0, 10, .inl (Af 1))), ((Aa 2), .inl (tc 0, 10, .inl (Af 2))), ((Aa 3), .inl (tc 0, 6, .inl (Af 3))), ((Aa 4), .inl (tc 0, 6, .inl (Af 4))), ((Aa 5), .inl (tc 0, 6, .inl (Af 5))), ((Aa 6), .inl (tc 0, 6, .inl (Af 6))), ((Aa 7), .inl (tc 0, 6, .inl (Af 7))), ((Aa 8), .inl (tc 0, 6, .inl (Af 8)))]) ⟨hx, hb, hml, hown, hts⟩ hK hX hA (cu_fX10_takeNumber l D tc sk (Ta 0) (Ta 1) (Tv 0) sv_7 sv_8 sv_9 sv_10 (Tf 1) 0 9 ro_16 0 9 pf_11 h_by pf_12 ha_18 ha_19) k_566 k_563 k_564 k_565 k_96 pl_X10_takeNumber ⟨Nat.le_of_ble_eq_true rfl, Nat.le_of_ble_eq_true rfl⟩ rfl rfl (va_recv hK hP (ci := 10) (q0 := 10) rfl rfl) hP hD hS [10, 11] [0, 1, 2, 3, 4, 5, 6, 7, 8, 9] rfl rfl rfl rfl rfl (by decide) rfl hl.1 rfl (Nat.le_of_ble_eq_true rfl) dX0_readSky_19 ⟨Nat.le_of_ble_eq_true rfl, Nat.le_of_ble_eq_true rfl⟩ (fun v_20 u_21 H locs hv_22 hP₀ hD₀ hS₀ => ?_)
  obtain ⟨sv_23, sv_24, sv_25, sv_26⟩ := u_21
  obtain ⟨r_29, rfl, he_30, pf_27, pf_28⟩ := hv_22
  have he_30 : NuV (cB (Tf 1) (Tv 0)) (0 : Int) (9 : Int) ro_16 r_29 := he_30
  have pf_27 : 0 ≤ ((Tv 0) : Int32).toInt ∧ ((Tv 0) : Int32).toInt ≤ 400 ∧ 0 ≤ (sv_23 : Int32).toInt ∧ (sv_23 : Int32).toInt ≤ 400 ∧ 0 ≤ (sv_24 : Int32).toInt ∧ (sv_24 : Int32).toInt ≤ 400 := pf_27
  have pf_28 : TpR (Tf 1) (Tv 0) (rNX (cB (Tf 1) (Tv 0)) (rNU (cB (Tf 1) (Tv 0)) (0 : Int) (9 : Int) ro_16)) sv_23 sv_24 sv_25 sv_26 := pf_28
  obtain ⟨ro_32, ero_32⟩ : ∃ z : Except Int (Nat × Nat), z = (rNX (cB (Tf 1) (Tv 0)) (rNU (cB (Tf 1) (Tv 0)) 0 9 ro_16)) := ⟨_, rfl⟩
  rw [← ero_32] at pf_28
  have tb_33 : TpB (rTE (cB (Tf 1) (Tv 0)) ro_32) sv_24 sv_26 := TpR.tb pf_28
  refine W.eq (g2 := F0 m 22 ls [.int r_29]) rfl ?_
  replace hP : va_P D classes [((Wa 0), .inr (0, [.ref (Aa 0)])), ((Aa 0), .inr (9, [.int (Av 0), .int (Av 1), .int (Av 2), .int (Av 3), .int (Av 4), .int (Av 5), .ref (Aa 1), .ref (Aa 2), .ref (Aa 3), .ref (Aa 4), .ref (Aa 5), .ref (Aa 6), .ref (Aa 7), .ref (Aa 8)])), ((Aa 1), .inl (tc 0, 10, .inl (Af 1))), ((Aa 2), .inl (tc 0, 10, .inl (Af 2))), ((Aa 3), .inl (tc 0, 6, .inl (Af 3))), ((Aa 4), .inl (tc 0, 6, .inl (Af 4))), ((Aa 5), .inl (tc 0, 6, .inl (Af 5))), ((Aa 6), .inl (tc 0, 6, .inl (Af 6))), ((Aa 7), .inl (tc 0, 6, .inl (Af 7))), ((Aa 8), .inl (tc 0, 6, .inl (Af 8))), ((Ta 0), .inr (10, [.ref (Ta 1), .int (Tv 0), .int sv_23, .int sv_24, .int sv_25, .int sv_26])), ((Ta 1), .inl (tc 0, 400, .inl (Tf 1)))] H := hP₀
  replace hD : va_D A [((Wa 0), .inr (0, [.ref (Aa 0)])), ((Aa 0), .inr (9, [.int (Av 0), .int (Av 1), .int (Av 2), .int (Av 3), .int (Av 4), .int (Av 5), .ref (Aa 1), .ref (Aa 2), .ref (Aa 3), .ref (Aa 4), .ref (Aa 5), .ref (Aa 6), .ref (Aa 7), .ref (Aa 8)])), ((Aa 1), .inl (tc 0, 10, .inl (Af 1))), ((Aa 2), .inl (tc 0, 10, .inl (Af 2))), ((Aa 3), .inl (tc 0, 6, .inl (Af 3))), ((Aa 4), .inl (tc 0, 6, .inl (Af 4))), ((Aa 5), .inl (tc 0, 6, .inl (Af 5))), ((Aa 6), .inl (tc 0, 6, .inl (Af 6))), ((Aa 7), .inl (tc 0, 6, .inl (Af 7))), ((Aa 8), .inl (tc 0, 6, .inl (Af 8))), ((Ta 0), .inr (10, [.ref (Ta 1), .int (Tv 0), .int sv_23, .int sv_24, .int sv_25, .int sv_26])), ((Ta 1), .inl (tc 0, 400, .inl (Tf 1)))] := hD₀
  replace hS := hS₀
  clear hP₀ hD₀ hS₀
  refine lv_istore_n (lv' := [(3, .int r_29), (2, .int r_13), (0, .ref (Wa 0)), (1, .ref (Ta 0))]) hx hb dX0_readSky_22 rfl hl (by decide) rfl (fun ls hl₀ => ?_)
  replace hl := hl₀
  clear hl₀
  refine lv_aload_n hx hb dX0_readSky_23 rfl (lv_at hl 2 rfl) ?_
  refine gf_X0_12 hx hb hts hown hK hP 0 rfl rfl dX0_readSky_24 ?_
  refine lv_iload_n hx hb dX0_readSky_27 rfl (lv_at hl 1 rfl) ?_
  refine cV (a := (Aa 0)) (As := [.int r_13]) (rest := []) (wr := [((Wa 0), .inr (0, [.ref (Aa 0)])), ((Ta 0), .inr (10, [.ref (Ta 1), .int (Tv 0), .int sv_23, .int sv_24, .int sv_25, .int sv_26])), ((Ta 1), .inl (tc 0, 400, .inl (Tf 1)))]) ⟨hx, hb, hml, hown, hts⟩ hK hX hA (cu_zX9_hasClock l D tc sk (Aa 0) (Aa 1) (Aa 2) (Aa 3) (Aa 4) (Aa 5) (Aa 6) (Aa 7) (Aa 8) (Av 0) (Av 1) (Av 2) (Av 3) (Av 4) (Av 5) (Af 1) (Af 2) (Af 3) (Af 4) (Af 5) (Af 6) (Af 7) (Af 8) r_13) k_579 k_576 k_577 k_578 k_98 pl_X9_hasClock ⟨Nat.le_of_ble_eq_true rfl, Nat.le_of_ble_eq_true rfl⟩ rfl rfl (va_recv hK hP (ci := 9) (q0 := 1) rfl rfl) hP hD hS [1, 2, 3, 4, 5, 6, 7, 8, 9] [0, 10, 11] rfl rfl rfl rfl rfl (by decide) rfl hl.1 rfl (Nat.le_of_ble_eq_true rfl) dX0_readSky_28 ⟨Nat.le_of_ble_eq_true rfl, Nat.le_of_ble_eq_true rfl⟩ (fun v_34 u_35 H locs hv_36 hP₀ hD₀ hS₀ => ?_)
  obtain ⟨r_37, rfl, he_38⟩ := hv_36
  have he_38 : ((r_37.toInt = 0 ∧ ¬ (0 ≤ r_13.toInt ∧ r_13.toInt < (Av 2).toInt ∧ r_13.toInt < 10)) ∨ (r_37.toInt = 1 ∧ (0 ≤ r_13.toInt ∧ r_13.toInt < (Av 2).toInt ∧ r_13.toInt < 10))) := he_38
  refine W.eq (g2 := F0 m 31 ls [.int r_37]) rfl ?_
  replace hP : va_P D classes [((Wa 0), .inr (0, [.ref (Aa 0)])), ((Ta 0), .inr (10, [.ref (Ta 1), .int (Tv 0), .int sv_23, .int sv_24, .int sv_25, .int sv_26])), ((Ta 1), .inl (tc 0, 400, .inl (Tf 1))), ((Aa 0), .inr (9, [.int (Av 0), .int (Av 1), .int (Av 2), .int (Av 3), .int (Av 4), .int (Av 5), .ref (Aa 1), .ref (Aa 2), .ref (Aa 3), .ref (Aa 4), .ref (Aa 5), .ref (Aa 6), .ref (Aa 7), .ref (Aa 8)])), ((Aa 1), .inl (tc 0, 10, .inl (Af 1))), ((Aa 2), .inl (tc 0, 10, .inl (Af 2))), ((Aa 3), .inl (tc 0, 6, .inl (Af 3))), ((Aa 4), .inl (tc 0, 6, .inl (Af 4))), ((Aa 5), .inl (tc 0, 6, .inl (Af 5))), ((Aa 6), .inl (tc 0, 6, .inl (Af 6))), ((Aa 7), .inl (tc 0, 6, .inl (Af 7))), ((Aa 8), .inl (tc 0, 6, .inl (Af 8)))] H := hP₀
  replace hD : va_D A [((Wa 0), .inr (0, [.ref (Aa 0)])), ((Ta 0), .inr (10, [.ref (Ta 1), .int (Tv 0), .int sv_23, .int sv_24, .int sv_25, .int sv_26])), ((Ta 1), .inl (tc 0, 400, .inl (Tf 1))), ((Aa 0), .inr (9, [.int (Av 0), .int (Av 1), .int (Av 2), .int (Av 3), .int (Av 4), .int (Av 5), .ref (Aa 1), .ref (Aa 2), .ref (Aa 3), .ref (Aa 4), .ref (Aa 5), .ref (Aa 6), .ref (Aa 7), .ref (Aa 8)])), ((Aa 1), .inl (tc 0, 10, .inl (Af 1))), ((Aa 2), .inl (tc 0, 10, .inl (Af 2))), ((Aa 3), .inl (tc 0, 6, .inl (Af 3))), ((Aa 4), .inl (tc 0, 6, .inl (Af 4))), ((Aa 5), .inl (tc 0, 6, .inl (Af 5))), ((Aa 6), .inl (tc 0, 6, .inl (Af 6))), ((Aa 7), .inl (tc 0, 6, .inl (Af 7))), ((Aa 8), .inl (tc 0, 6, .inl (Af 8)))] := hD₀
  replace hS := hS₀
  clear hP₀ hD₀ hS₀
  refine lv_if_eq (tgt := 44) hx hb dX0_readSky_31 (by decide) (fun c_40 => ?_) (fun c_40 => ?_)
  · skip
    have hu_41 : TpR (Tf 1) (Tv 0) (rNX (cB (Tf 1) (Tv 0)) (rNU (cB (Tf 1) (Tv 0)) 0 9 (rNX (cB (Tf 1) (Tv 0)) (rNU (cB (Tf 1) (Tv 0)) 0 ((Av 2) - 1 : Int32).toInt rr)))) sv_23 sv_24 sv_25 sv_26 := by
      rw [← ero_16, ← ero_32]
      exact pf_28
    have hf_42 : TpR (Tf 1) (Tv 0) (rN1 (cB (Tf 1) (Tv 0)) 0 9 (rN1 (cB (Tf 1) (Tv 0)) 0 ((Av 2) - 1 : Int32).toInt rr)) sv_23 sv_24 sv_25 sv_26 := hu_41
    have hv_43 : NuV (cB (Tf 1) (Tv 0)) 0 ((Av 2) - 1 : Int32).toInt rr r_13 := by
      have hq := he_14
      exact hq
    have hv_44 : NuV (cB (Tf 1) (Tv 0)) 0 9 (rN1 (cB (Tf 1) (Tv 0)) 0 ((Av 2) - 1 : Int32).toInt rr) r_29 := by
      have hq := he_30
      rw [ero_16] at hq
      exact hq
    have hr_46 : ¬ (0 ≤ (r_13 : Int32).toInt ∧ (r_13 : Int32).toInt < (Av 2).toInt ∧ (r_13 : Int32).toInt < 10) := by
      have z_1 := congrArg Int32.toInt c_40
      have y_0 : (0 : Int32).toInt = 0 := by decide
      omega
    have hs_45 : QsQ (qz_k1 (cB (Tf 1) (Tv 0)) C rr) (Av 0) (Av 1) (Av 2) (Av 3) (Av 4) (Av 5) (Af 1) (Af 2) (Af 3) (Af 4) (Af 5) (Af 6) (Af 7) (Af 8) := QsQ.n1 h_c hv_43 hr_46
    exact retV hx hb hr hlk hP hD hS ((Af 1), sv_23, sv_24, sv_25, sv_26) ⟨rfl, pf_27, h_bu, hf_42, hs_45⟩ [0, 3, 4, 5, 6, 7, 8, 9, 10, 11, 1, 2] rfl rfl dX0_readSky_44 (Nat.le_of_ble_eq_true rfl) (Nat.le_of_ble_eq_true rfl) rfl
  · skip
    refine lv_aload_n hx hb dX0_readSky_34 rfl (lv_at hl 2 rfl) ?_
    refine gf_X0_12 hx hb hts hown hK hP 0 rfl rfl dX0_readSky_35 ?_
    refine gf_X0_87 hx hb hts hown hK hP 3 rfl rfl dX0_readSky_38 ?_
    refine lv_iload_n hx hb dX0_readSky_41 rfl (lv_at hl 1 rfl) ?_
    refine lv_iload_n hx hb dX0_readSky_42 rfl (lv_at hl 0 rfl) ?_
    have hi_47 : vp_in r_13 10 := by
      have z_1 : ¬ (r_37 : Int32).toInt = (0 : Int32).toInt := fun z => c_40 (Int32.toInt_inj.mp z)
      have y_0 : (0 : Int32).toInt = 0 := by decide
      refine vp_in_iff.mpr ⟨?_, ?_⟩ <;> omega
    refine st_int hx hb hK hP hD hS 4 0 rfl rfl hi_47 dX0_readSky_43 (fun g_48 H locs eg_48 hP₀ hD₀ hS₀ => ?_)
    replace hP : va_P D classes [((Wa 0), .inr (0, [.ref (Aa 0)])), ((Ta 0), .inr (10, [.ref (Ta 1), .int (Tv 0), .int sv_23, .int sv_24, .int sv_25, .int sv_26])), ((Ta 1), .inl (tc 0, 400, .inl (Tf 1))), ((Aa 0), .inr (9, [.int (Av 0), .int (Av 1), .int (Av 2), .int (Av 3), .int (Av 4), .int (Av 5), .ref (Aa 1), .ref (Aa 2), .ref (Aa 3), .ref (Aa 4), .ref (Aa 5), .ref (Aa 6), .ref (Aa 7), .ref (Aa 8)])), ((Aa 1), .inl (tc 0, 10, .inl g_48)), ((Aa 2), .inl (tc 0, 10, .inl (Af 2))), ((Aa 3), .inl (tc 0, 6, .inl (Af 3))), ((Aa 4), .inl (tc 0, 6, .inl (Af 4))), ((Aa 5), .inl (tc 0, 6, .inl (Af 5))), ((Aa 6), .inl (tc 0, 6, .inl (Af 6))), ((Aa 7), .inl (tc 0, 6, .inl (Af 7))), ((Aa 8), .inl (tc 0, 6, .inl (Af 8)))] H := hP₀
    replace hD : va_D A [((Wa 0), .inr (0, [.ref (Aa 0)])), ((Ta 0), .inr (10, [.ref (Ta 1), .int (Tv 0), .int sv_23, .int sv_24, .int sv_25, .int sv_26])), ((Ta 1), .inl (tc 0, 400, .inl (Tf 1))), ((Aa 0), .inr (9, [.int (Av 0), .int (Av 1), .int (Av 2), .int (Av 3), .int (Av 4), .int (Av 5), .ref (Aa 1), .ref (Aa 2), .ref (Aa 3), .ref (Aa 4), .ref (Aa 5), .ref (Aa 6), .ref (Aa 7), .ref (Aa 8)])), ((Aa 1), .inl (tc 0, 10, .inl g_48)), ((Aa 2), .inl (tc 0, 10, .inl (Af 2))), ((Aa 3), .inl (tc 0, 6, .inl (Af 3))), ((Aa 4), .inl (tc 0, 6, .inl (Af 4))), ((Aa 5), .inl (tc 0, 6, .inl (Af 5))), ((Aa 6), .inl (tc 0, 6, .inl (Af 6))), ((Aa 7), .inl (tc 0, 6, .inl (Af 7))), ((Aa 8), .inl (tc 0, 6, .inl (Af 8)))] := hD₀
    replace hS := hS₀
    clear hP₀ hD₀ hS₀
    have hu_49 : TpR (Tf 1) (Tv 0) (rNX (cB (Tf 1) (Tv 0)) (rNU (cB (Tf 1) (Tv 0)) 0 9 (rNX (cB (Tf 1) (Tv 0)) (rNU (cB (Tf 1) (Tv 0)) 0 ((Av 2) - 1 : Int32).toInt rr)))) sv_23 sv_24 sv_25 sv_26 := by
      rw [← ero_16, ← ero_32]
      exact pf_28
    have hf_50 : TpR (Tf 1) (Tv 0) (rN1 (cB (Tf 1) (Tv 0)) 0 9 (rN1 (cB (Tf 1) (Tv 0)) 0 ((Av 2) - 1 : Int32).toInt rr)) sv_23 sv_24 sv_25 sv_26 := hu_49
    have hv_51 : NuV (cB (Tf 1) (Tv 0)) 0 ((Av 2) - 1 : Int32).toInt rr r_13 := by
      have hq := he_14
      exact hq
    have hv_52 : NuV (cB (Tf 1) (Tv 0)) 0 9 (rN1 (cB (Tf 1) (Tv 0)) 0 ((Av 2) - 1 : Int32).toInt rr) r_29 := by
      have hq := he_30
      rw [ero_16] at hq
      exact hq
    have hs_53 : QsQ (qz_k1 (cB (Tf 1) (Tv 0)) C rr) (Av 0) (Av 1) (Av 2) (Av 3) (Av 4) (Av 5) g_48 (Af 2) (Af 3) (Af 4) (Af 5) (Af 6) (Af 7) (Af 8) := QsQ.b1 h_c hv_51 hv_52 eg_48
    exact retV hx hb hr hlk hP hD hS (g_48, sv_23, sv_24, sv_25, sv_26) ⟨rfl, pf_27, h_bu, hf_50, hs_53⟩ [0, 3, 4, 5, 6, 7, 8, 9, 10, 11, 1, 2] rfl rfl dX0_readSky_44 (Nat.le_of_ble_eq_true rfl) (Nat.le_of_ble_eq_true rfl) rfl
set_option maxRecDepth 100000 in
theorem cu_zX0_readSky (l : Launch) (D : va_G) (tc : Nat → ClassId) (sk : (Nat → Nat) × (Nat → Nat)) (Wa_0 : Nat) (Aa_0 : Nat) (Aa_1 : Nat) (Aa_2 : Nat) (Aa_3 : Nat) (Aa_4 : Nat) (Aa_5 : Nat) (Aa_6 : Nat) (Aa_7 : Nat) (Aa_8 : Nat) (Av_0 : Int32) (Av_1 : Int32) (Av_2 : Int32) (Av_3 : Int32) (Av_4 : Int32) (Av_5 : Int32) (Af_1 : Nat → Int32) (Af_2 : Nat → Int32) (Af_3 : Nat → Int32) (Af_4 : Nat → Int32) (Af_5 : Nat → Int32) (Af_6 : Nat → Int32) (Af_7 : Nat → Int32) (Af_8 : Nat → Int32) (Ta_0 : Nat) (Ta_1 : Nat) (Tv_0 : Int32) (Tv_1 : Int32) (Tv_2 : Int32) (Tv_3 : Int32) (Tv_4 : Int32) (Tf_1 : Nat → Int32) (rr : Except Int (Nat × Nat)) (C : Nat → Int) (h_tape : 0 ≤ (Tv_0 : Int32).toInt ∧ (Tv_0 : Int32).toInt ≤ 400 ∧ 0 ≤ (Tv_1 : Int32).toInt ∧ (Tv_1 : Int32).toInt ≤ 400 ∧ 0 ≤ (Tv_2 : Int32).toInt ∧ (Tv_2 : Int32).toInt ≤ 400) (h_by : Byt Tf_1) (h_r : TpR Tf_1 Tv_0 rr Tv_1 Tv_2 Tv_3 Tv_4) (h_bu : 0 ≤ (Av_3 : Int32).toInt ∧ (Av_3 : Int32).toInt ≤ 6) (h_c : QcI rr Av_0 Av_1 Av_2 Av_3 Av_4 Av_5 Af_1 Af_2 Af_3 Af_4 Af_5 Af_6 Af_7 Af_8 C) : Ct l yX0_readSky cX0_readSky 4 none { frames := 3, cells := 0, slots := 0, locals := 68 } D tc sk [.ref Wa_0, .ref Ta_0] [(Wa_0, .inr (0, [.ref Aa_0])), (Aa_0, .inr (9, [.int Av_0, .int Av_1, .int Av_2, .int Av_3, .int Av_4, .int Av_5, .ref Aa_1, .ref Aa_2, .ref Aa_3, .ref Aa_4, .ref Aa_5, .ref Aa_6, .ref Aa_7, .ref Aa_8])), (Aa_1, .inl (tc 0, 10, .inl Af_1)), (Aa_2, .inl (tc 0, 10, .inl Af_2)), (Aa_3, .inl (tc 0, 6, .inl Af_3)), (Aa_4, .inl (tc 0, 6, .inl Af_4)), (Aa_5, .inl (tc 0, 6, .inl Af_5)), (Aa_6, .inl (tc 0, 6, .inl Af_6)), (Aa_7, .inl (tc 0, 6, .inl Af_7)), (Aa_8, .inl (tc 0, 6, .inl Af_8)), (Ta_0, .inr (10, [.ref Ta_1, .int Tv_0, .int Tv_1, .int Tv_2, .int Tv_3, .int Tv_4])), (Ta_1, .inl (tc 0, 400, .inl Tf_1))] (fun (v : Option Value) (u : (Nat → Int32) × (Int32) × (Int32) × (Int32) × (Int32)) => match u with | (oo0x1, oo0x2, oo0x3, oo0x4, oo0x5) => v = none ∧ (0 ≤ (Tv_0 : Int32).toInt ∧ (Tv_0 : Int32).toInt ≤ 400 ∧ 0 ≤ (oo0x2 : Int32).toInt ∧ (oo0x2 : Int32).toInt ≤ 400 ∧ 0 ≤ (oo0x3 : Int32).toInt ∧ (oo0x3 : Int32).toInt ≤ 400) ∧ (0 ≤ (Av_3 : Int32).toInt ∧ (Av_3 : Int32).toInt ≤ 6) ∧ (TpR Tf_1 Tv_0 (rN1 (cB Tf_1 Tv_0) 0 9 (rN1 (cB Tf_1 Tv_0) 0 (Av_2 - 1 : Int32).toInt rr)) oo0x2 oo0x3 oo0x4 oo0x5) ∧ (QsQ (qz_k1 (cB Tf_1 Tv_0) C rr) Av_0 Av_1 Av_2 Av_3 Av_4 Av_5 oo0x1 Af_2 Af_3 Af_4 Af_5 Af_6 Af_7 Af_8)) (fun (u : (Nat → Int32) × (Int32) × (Int32) × (Int32) × (Int32)) => match u with | (oo0x1, oo0x2, oo0x3, oo0x4, oo0x5) => [(Wa_0, .inr (0, [.ref Aa_0])), (Aa_0, .inr (9, [.int Av_0, .int Av_1, .int Av_2, .int Av_3, .int Av_4, .int Av_5, .ref Aa_1, .ref Aa_2, .ref Aa_3, .ref Aa_4, .ref Aa_5, .ref Aa_6, .ref Aa_7, .ref Aa_8])), (Aa_1, .inl (tc 0, 10, .inl oo0x1)), (Aa_2, .inl (tc 0, 10, .inl Af_2)), (Aa_3, .inl (tc 0, 6, .inl Af_3)), (Aa_4, .inl (tc 0, 6, .inl Af_4)), (Aa_5, .inl (tc 0, 6, .inl Af_5)), (Aa_6, .inl (tc 0, 6, .inl Af_6)), (Aa_7, .inl (tc 0, 6, .inl Af_7)), (Aa_8, .inl (tc 0, 6, .inl Af_8)), (Ta_0, .inr (10, [.ref Ta_1, .int Tv_0, .int oo0x2, .int oo0x3, .int oo0x4, .int oo0x5])), (Ta_1, .inl (tc 0, 400, .inl Tf_1))]) 0 0 :=
  ct_zX0_readSky l D tc sk (fun k => ([Wa_0] : List (Nat)).getD k 0) (fun k => ([Aa_0, Aa_1, Aa_2, Aa_3, Aa_4, Aa_5, Aa_6, Aa_7, Aa_8] : List (Nat)).getD k 0) (fun k => ([Av_0, Av_1, Av_2, Av_3, Av_4, Av_5] : List (Int32)).getD k 0) (fun k => ([(fun _ => 0), Af_1, Af_2, Af_3, Af_4, Af_5, Af_6, Af_7, Af_8] : List (Nat → Int32)).getD k (fun _ => 0)) (fun k => ([Ta_0, Ta_1] : List (Nat)).getD k 0) (fun k => ([Tv_0, Tv_1, Tv_2, Tv_3, Tv_4] : List (Int32)).getD k 0) (fun k => ([(fun _ => 0), Tf_1] : List (Nat → Int32)).getD k (fun _ => 0)) rr C h_tape h_by h_r h_bu h_c
set_option maxHeartbeats 4000000 in
set_option maxRecDepth 100000 in
theorem ct_zX0_readBuyer (l : Launch) (D : va_G) (tc : Nat → ClassId) (sk : (Nat → Nat) × (Nat → Nat)) (Wa : Nat → Nat) (Aa : Nat → Nat) (Av : Nat → Int32) (Af : Nat → Nat → Int32) (Ta : Nat → Nat) (Tv : Nat → Int32) (Tf : Nat → Nat → Int32) (rr : Except Int (Nat × Nat)) (C : Nat → Int) (h_tape : 0 ≤ ((Tv 0) : Int32).toInt ∧ ((Tv 0) : Int32).toInt ≤ 400 ∧ 0 ≤ ((Tv 1) : Int32).toInt ∧ ((Tv 1) : Int32).toInt ≤ 400 ∧ 0 ≤ ((Tv 2) : Int32).toInt ∧ ((Tv 2) : Int32).toInt ≤ 400) (h_by : Byt (Tf 1)) (h_r : TpR (Tf 1) (Tv 0) rr (Tv 1) (Tv 2) (Tv 3) (Tv 4)) (h_b6 : 0 ≤ (Av 3).toInt ∧ (Av 3).toInt < 6) (h_c : QcI rr (Av 0) (Av 1) (Av 2) (Av 3) (Av 4) (Av 5) (Af 1) (Af 2) (Af 3) (Af 4) (Af 5) (Af 6) (Af 7) (Af 8) C) : Ct l yX0_readBuyer cX0_readBuyer 3 none { frames := 3, cells := 0, slots := 0, locals := 68 } D tc sk [.ref (Wa 0), .ref (Ta 0)] [((Wa 0), .inr (0, [.ref (Aa 0)])), ((Aa 0), .inr (9, [.int (Av 0), .int (Av 1), .int (Av 2), .int (Av 3), .int (Av 4), .int (Av 5), .ref (Aa 1), .ref (Aa 2), .ref (Aa 3), .ref (Aa 4), .ref (Aa 5), .ref (Aa 6), .ref (Aa 7), .ref (Aa 8)])), ((Aa 1), .inl (tc 0, 10, .inl (Af 1))), ((Aa 2), .inl (tc 0, 10, .inl (Af 2))), ((Aa 3), .inl (tc 0, 6, .inl (Af 3))), ((Aa 4), .inl (tc 0, 6, .inl (Af 4))), ((Aa 5), .inl (tc 0, 6, .inl (Af 5))), ((Aa 6), .inl (tc 0, 6, .inl (Af 6))), ((Aa 7), .inl (tc 0, 6, .inl (Af 7))), ((Aa 8), .inl (tc 0, 6, .inl (Af 8))), ((Ta 0), .inr (10, [.ref (Ta 1), .int (Tv 0), .int (Tv 1), .int (Tv 2), .int (Tv 3), .int (Tv 4)])), ((Ta 1), .inl (tc 0, 400, .inl (Tf 1)))] (fun (v : Option Value) (u : (Int32) × (Nat → Int32) × (Nat → Int32) × (Nat → Int32) × (Int32) × (Int32) × (Int32) × (Int32)) => match u with | (oo0x1, oo0x2, oo0x3, oo0x4, oo0x5, oo0x6, oo0x7, oo0x8) => v = none ∧ (0 ≤ ((Tv 0) : Int32).toInt ∧ ((Tv 0) : Int32).toInt ≤ 400 ∧ 0 ≤ (oo0x5 : Int32).toInt ∧ (oo0x5 : Int32).toInt ≤ 400 ∧ 0 ≤ (oo0x6 : Int32).toInt ∧ (oo0x6 : Int32).toInt ≤ 400) ∧ (0 ≤ (oo0x1 : Int32).toInt ∧ (oo0x1 : Int32).toInt ≤ 6) ∧ (TpR (Tf 1) (Tv 0) (rN1 (cB (Tf 1) (Tv 0)) 0 9 (rN1 (cB (Tf 1) (Tv 0)) 1 9 (rN1 (cB (Tf 1) (Tv 0)) 0 20 rr))) oo0x5 oo0x6 oo0x7 oo0x8) ∧ (QsQ (qz_k2 (cB (Tf 1) (Tv 0)) C rr) (Av 0) (Av 1) (Av 2) oo0x1 (Av 4) (Av 5) (Af 1) (Af 2) oo0x2 oo0x3 oo0x4 (Af 6) (Af 7) (Af 8))) (fun (u : (Int32) × (Nat → Int32) × (Nat → Int32) × (Nat → Int32) × (Int32) × (Int32) × (Int32) × (Int32)) => match u with | (oo0x1, oo0x2, oo0x3, oo0x4, oo0x5, oo0x6, oo0x7, oo0x8) => [((Wa 0), .inr (0, [.ref (Aa 0)])), ((Aa 0), .inr (9, [.int (Av 0), .int (Av 1), .int (Av 2), .int oo0x1, .int (Av 4), .int (Av 5), .ref (Aa 1), .ref (Aa 2), .ref (Aa 3), .ref (Aa 4), .ref (Aa 5), .ref (Aa 6), .ref (Aa 7), .ref (Aa 8)])), ((Aa 1), .inl (tc 0, 10, .inl (Af 1))), ((Aa 2), .inl (tc 0, 10, .inl (Af 2))), ((Aa 3), .inl (tc 0, 6, .inl oo0x2)), ((Aa 4), .inl (tc 0, 6, .inl oo0x3)), ((Aa 5), .inl (tc 0, 6, .inl oo0x4)), ((Aa 6), .inl (tc 0, 6, .inl (Af 6))), ((Aa 7), .inl (tc 0, 6, .inl (Af 7))), ((Aa 8), .inl (tc 0, 6, .inl (Af 8))), ((Ta 0), .inr (10, [.ref (Ta 1), .int (Tv 0), .int oo0x5, .int oo0x6, .int oo0x7, .int oo0x8])), ((Ta 1), .inl (tc 0, 400, .inl (Tf 1)))]) 0 0 := by
  refine Ct.start (by decide) (Nat.le_of_ble_eq_true rfl) (fun p e s m below meth c A ls hx hb hr hlk hin hml hown hts hK hX hP hD hA hl hS => ?_)
  have hl : lv_has ls 3 [(0, .ref (Wa 0)), (1, .ref (Ta 0))] := hl
  have tb_1 : TpB (rTE (cB (Tf 1) (Tv 0)) rr) (Tv 2) (Tv 4) := TpR.tb h_r
  refine lv_aload_n hx hb dX0_readBuyer_0 rfl (lv_at hl 0 rfl) ?_
  refine gf_X0_12 hx hb hts hown hK hP 0 rfl rfl dX0_readBuyer_1 ?_
  refine gf_X0_51 hx hb hts hown hK hP 1 rfl rfl dX0_readBuyer_4 ?_
  refine lv_istore_n (lv' := [(2, .int (Av 3)), (0, .ref (Wa 0)), (1, .ref (Ta 0))]) hx hb dX0_readBuyer_7 rfl hl (by decide) rfl (fun ls hl₀ => ?_)
  replace hl := hl₀
  clear hl₀
  refine lv_iload_n hx hb dX0_readBuyer_8 rfl (lv_at hl 0 rfl) ?_
  refine lv_if_lt (tgt := 18) hx hb dX0_readBuyer_9 (by decide) (fun c_2 => ?_) (fun c_2 => ?_)
  · skip
    exfalso
    have z_1 := Int32.lt_iff_toInt_lt.mp c_2
    have y_0 : (0 : Int32).toInt = 0 := by decide
    omega
  · skip
    refine lv_iload_n hx hb dX0_readBuyer_12 rfl (lv_at hl 0 rfl) ?_
    refine lv_bipush (v := 6) hx hb dX0_readBuyer_13 (by decide) ?_
    refine lv_icmp_lt (tgt := 19) hx hb dX0_readBuyer_15 (by decide) (fun c_3 => ?_) (fun c_3 => ?_)
    · skip
      refine lv_aload_n hx hb dX0_readBuyer_19 rfl (lv_at hl 1 rfl) ?_
      refine gf_X0_12 hx hb hts hown hK hP 0 rfl rfl dX0_readBuyer_20 ?_
      refine gf_X0_91 hx hb hts hown hK hP 1 rfl rfl dX0_readBuyer_23 ?_
      refine lv_iload_n hx hb dX0_readBuyer_26 rfl (lv_at hl 0 rfl) ?_
      refine lv_aload_n hx hb dX0_readBuyer_27 rfl (lv_at hl 2 rfl) ?_
      refine lv_iconst (v := 0) hx hb dX0_readBuyer_28 (by decide) ?_
      refine lv_bipush (v := 20) hx hb dX0_readBuyer_29 (by decide) ?_
      have ha_4 : (0 : Int32).toInt = (0 : Int) := by
        have z_1 := Int32.le_iff_toInt_le.mp (Int32.not_lt.mp c_2)
        have z_2 := Int32.lt_iff_toInt_lt.mp c_3
        have y_0 : (0 : Int32).toInt = 0 := by decide
        have y_6 : (6 : Int32).toInt = 6 := by decide
        omega
      have ha_5 : (20 : Int32).toInt = (20 : Int) := by
        have z_1 := Int32.le_iff_toInt_le.mp (Int32.not_lt.mp c_2)
        have z_2 := Int32.lt_iff_toInt_lt.mp c_3
        have y_0 : (0 : Int32).toInt = 0 := by decide
        have y_6 : (6 : Int32).toInt = 6 := by decide
        have y_20 : (20 : Int32).toInt = 20 := by decide
        omega
      refine cV (a := (Ta 0)) (As := [.int 0, .int 20]) (rest := [.int (Av 3), .ref (Aa 3)]) (wr := [((Wa 0), .inr (0, [.ref (Aa 0)])), ((Aa 0), .inr (9, [.int (Av 0), .int (Av 1), .int (Av 2), .int (Av 3), .int (Av 4), .int (Av 5), .ref (Aa 1), .ref (Aa 2), .ref (Aa 3), .ref (Aa 4), .ref (Aa 5), .ref (Aa 6), .ref (Aa 7), .ref (Aa 8)])), ((Aa 1), .inl (tc 0, 10, .inl (Af 1))), ((Aa 2), .inl (tc 0, 10, .inl (Af 2))), ((Aa 3), .inl (tc 0, 6, .inl (Af 3))), ((Aa 4), .inl (tc 0, 6, .inl (Af 4))), ((Aa 5), .inl (tc 0, 6, .inl (Af 5))), ((Aa 6), .inl (tc 0, 6, .inl (Af 6))), ((Aa 7), .inl (tc 0, 6, .inl (Af 7))), ((Aa 8), .inl (tc 0, 6, .inl (Af 8)))]) ⟨hx, hb, hml, hown, hts⟩ hK hX hA (cu_fX10_takeNumber l D tc sk (Ta 0) (Ta 1) (Tv 0) (Tv 1) (Tv 2) (Tv 3) (Tv 4) (Tf 1) 0 20 rr 0 20 h_tape h_by h_r ha_4 ha_5) k_566 k_563 k_564 k_565 k_96 pl_X10_takeNumber ⟨Nat.le_of_ble_eq_true rfl, Nat.le_of_ble_eq_true rfl⟩ rfl rfl (va_recv hK hP (ci := 10) (q0 := 10) rfl rfl) hP hD hS [10, 11] [0, 1, 2, 3, 4, 5, 6, 7, 8, 9] rfl rfl rfl rfl rfl (by decide) rfl hl.1 rfl (Nat.le_of_ble_eq_true rfl) dX0_readBuyer_31 ⟨Nat.le_of_ble_eq_true rfl, Nat.le_of_ble_eq_true rfl⟩ (fun v_6 u_7 H locs hv_8 hP₀ hD₀ hS₀ => ?_)
      obtain ⟨sv_9, sv_10, sv_11, sv_12⟩ := u_7
      obtain ⟨r_15, rfl, he_16, pf_13, pf_14⟩ := hv_8
      have he_16 : NuV (cB (Tf 1) (Tv 0)) (0 : Int) (20 : Int) rr r_15 := he_16
      have pf_13 : 0 ≤ ((Tv 0) : Int32).toInt ∧ ((Tv 0) : Int32).toInt ≤ 400 ∧ 0 ≤ (sv_9 : Int32).toInt ∧ (sv_9 : Int32).toInt ≤ 400 ∧ 0 ≤ (sv_10 : Int32).toInt ∧ (sv_10 : Int32).toInt ≤ 400 := pf_13
      have pf_14 : TpR (Tf 1) (Tv 0) (rNX (cB (Tf 1) (Tv 0)) (rNU (cB (Tf 1) (Tv 0)) (0 : Int) (20 : Int) rr)) sv_9 sv_10 sv_11 sv_12 := pf_14
      obtain ⟨ro_18, ero_18⟩ : ∃ z : Except Int (Nat × Nat), z = (rNX (cB (Tf 1) (Tv 0)) (rNU (cB (Tf 1) (Tv 0)) 0 20 rr)) := ⟨_, rfl⟩
      rw [← ero_18] at pf_14
      have tb_19 : TpB (rTE (cB (Tf 1) (Tv 0)) ro_18) sv_10 sv_12 := TpR.tb pf_14
      refine W.eq (g2 := F0 m 34 ls [.int r_15, .int (Av 3), .ref (Aa 3)]) rfl ?_
      replace hP : va_P D classes [((Wa 0), .inr (0, [.ref (Aa 0)])), ((Aa 0), .inr (9, [.int (Av 0), .int (Av 1), .int (Av 2), .int (Av 3), .int (Av 4), .int (Av 5), .ref (Aa 1), .ref (Aa 2), .ref (Aa 3), .ref (Aa 4), .ref (Aa 5), .ref (Aa 6), .ref (Aa 7), .ref (Aa 8)])), ((Aa 1), .inl (tc 0, 10, .inl (Af 1))), ((Aa 2), .inl (tc 0, 10, .inl (Af 2))), ((Aa 3), .inl (tc 0, 6, .inl (Af 3))), ((Aa 4), .inl (tc 0, 6, .inl (Af 4))), ((Aa 5), .inl (tc 0, 6, .inl (Af 5))), ((Aa 6), .inl (tc 0, 6, .inl (Af 6))), ((Aa 7), .inl (tc 0, 6, .inl (Af 7))), ((Aa 8), .inl (tc 0, 6, .inl (Af 8))), ((Ta 0), .inr (10, [.ref (Ta 1), .int (Tv 0), .int sv_9, .int sv_10, .int sv_11, .int sv_12])), ((Ta 1), .inl (tc 0, 400, .inl (Tf 1)))] H := hP₀
      replace hD : va_D A [((Wa 0), .inr (0, [.ref (Aa 0)])), ((Aa 0), .inr (9, [.int (Av 0), .int (Av 1), .int (Av 2), .int (Av 3), .int (Av 4), .int (Av 5), .ref (Aa 1), .ref (Aa 2), .ref (Aa 3), .ref (Aa 4), .ref (Aa 5), .ref (Aa 6), .ref (Aa 7), .ref (Aa 8)])), ((Aa 1), .inl (tc 0, 10, .inl (Af 1))), ((Aa 2), .inl (tc 0, 10, .inl (Af 2))), ((Aa 3), .inl (tc 0, 6, .inl (Af 3))), ((Aa 4), .inl (tc 0, 6, .inl (Af 4))), ((Aa 5), .inl (tc 0, 6, .inl (Af 5))), ((Aa 6), .inl (tc 0, 6, .inl (Af 6))), ((Aa 7), .inl (tc 0, 6, .inl (Af 7))), ((Aa 8), .inl (tc 0, 6, .inl (Af 8))), ((Ta 0), .inr (10, [.ref (Ta 1), .int (Tv 0), .int sv_9, .int sv_10, .int sv_11, .int sv_12])), ((Ta 1), .inl (tc 0, 400, .inl (Tf 1)))] := hD₀
      replace hS := hS₀
      clear hP₀ hD₀ hS₀
      have hi_20 : vp_in (Av 3) 6 := by
        have z_1 := Int32.le_iff_toInt_le.mp (Int32.not_lt.mp c_2)
        have z_2 := Int32.lt_iff_toInt_lt.mp c_3
        have y_0 : (0 : Int32).toInt = 0 := by decide
        have y_6 : (6 : Int32).toInt = 6 := by decide
        refine vp_in_iff.mpr ⟨?_, ?_⟩ <;> omega
      refine st_int hx hb hK hP hD hS 4 0 rfl rfl hi_20 dX0_readBuyer_34 (fun g_21 H locs eg_21 hP₀ hD₀ hS₀ => ?_)
      replace hP : va_P D classes [((Wa 0), .inr (0, [.ref (Aa 0)])), ((Aa 0), .inr (9, [.int (Av 0), .int (Av 1), .int (Av 2), .int (Av 3), .int (Av 4), .int (Av 5), .ref (Aa 1), .ref (Aa 2), .ref (Aa 3), .ref (Aa 4), .ref (Aa 5), .ref (Aa 6), .ref (Aa 7), .ref (Aa 8)])), ((Aa 1), .inl (tc 0, 10, .inl (Af 1))), ((Aa 2), .inl (tc 0, 10, .inl (Af 2))), ((Aa 3), .inl (tc 0, 6, .inl g_21)), ((Aa 4), .inl (tc 0, 6, .inl (Af 4))), ((Aa 5), .inl (tc 0, 6, .inl (Af 5))), ((Aa 6), .inl (tc 0, 6, .inl (Af 6))), ((Aa 7), .inl (tc 0, 6, .inl (Af 7))), ((Aa 8), .inl (tc 0, 6, .inl (Af 8))), ((Ta 0), .inr (10, [.ref (Ta 1), .int (Tv 0), .int sv_9, .int sv_10, .int sv_11, .int sv_12])), ((Ta 1), .inl (tc 0, 400, .inl (Tf 1)))] H := hP₀
      replace hD : va_D A [((Wa 0), .inr (0, [.ref (Aa 0)])), ((Aa 0), .inr (9, [.int (Av 0), .int (Av 1), .int (Av 2), .int (Av 3), .int (Av 4), .int (Av 5), .ref (Aa 1), .ref (Aa 2), .ref (Aa 3), .ref (Aa 4), .ref (Aa 5), .ref (Aa 6), .ref (Aa 7), .ref (Aa 8)])), ((Aa 1), .inl (tc 0, 10, .inl (Af 1))), ((Aa 2), .inl (tc 0, 10, .inl (Af 2))), ((Aa 3), .inl (tc 0, 6, .inl g_21)), ((Aa 4), .inl (tc 0, 6, .inl (Af 4))), ((Aa 5), .inl (tc 0, 6, .inl (Af 5))), ((Aa 6), .inl (tc 0, 6, .inl (Af 6))), ((Aa 7), .inl (tc 0, 6, .inl (Af 7))), ((Aa 8), .inl (tc 0, 6, .inl (Af 8))), ((Ta 0), .inr (10, [.ref (Ta 1), .int (Tv 0), .int sv_9, .int sv_10, .int sv_11, .int sv_12])), ((Ta 1), .inl (tc 0, 400, .inl (Tf 1)))] := hD₀
      replace hS := hS₀
      clear hP₀ hD₀ hS₀
      refine lv_aload_n hx hb dX0_readBuyer_35 rfl (lv_at hl 1 rfl) ?_
      refine gf_X0_12 hx hb hts hown hK hP 0 rfl rfl dX0_readBuyer_36 ?_
      refine gf_X0_94 hx hb hts hown hK hP 1 rfl rfl dX0_readBuyer_39 ?_
      refine lv_iload_n hx hb dX0_readBuyer_42 rfl (lv_at hl 0 rfl) ?_
      refine lv_aload_n hx hb dX0_readBuyer_43 rfl (lv_at hl 2 rfl) ?_
      refine lv_iconst (v := 1) hx hb dX0_readBuyer_44 (by decide) ?_
      refine lv_bipush (v := 9) hx hb dX0_readBuyer_45 (by decide) ?_
      have ha_22 : (1 : Int32).toInt = (1 : Int) := by
        have z_1 := Int32.le_iff_toInt_le.mp (Int32.not_lt.mp c_2)
        have z_2 := Int32.lt_iff_toInt_lt.mp c_3
        have y_0 : (0 : Int32).toInt = 0 := by decide
        have y_6 : (6 : Int32).toInt = 6 := by decide
        have y_1 : (1 : Int32).toInt = 1 := by decide
        omega
      have ha_23 : (9 : Int32).toInt = (9 : Int) := by
        have z_1 := Int32.le_iff_toInt_le.mp (Int32.not_lt.mp c_2)
        have z_2 := Int32.lt_iff_toInt_lt.mp c_3
        have y_0 : (0 : Int32).toInt = 0 := by decide
        have y_6 : (6 : Int32).toInt = 6 := by decide
        have y_9 : (9 : Int32).toInt = 9 := by decide
        omega
      refine cV (a := (Ta 0)) (As := [.int 1, .int 9]) (rest := [.int (Av 3), .ref (Aa 4)]) (wr := [((Wa 0), .inr (0, [.ref (Aa 0)])), ((Aa 0), .inr (9, [.int (Av 0), .int (Av 1), .int (Av 2), .int (Av 3), .int (Av 4), .int (Av 5), .ref (Aa 1), .ref (Aa 2), .ref (Aa 3), .ref (Aa 4), .ref (Aa 5), .ref (Aa 6), .ref (Aa 7), .ref (Aa 8)])), ((Aa 1), .inl (tc 0, 10, .inl (Af 1))), ((Aa 2), .inl (tc 0, 10, .inl (Af 2))), ((Aa 3), .inl (tc 0, 6, .inl g_21)), ((Aa 4), .inl (tc 0, 6, .inl (Af 4))), ((Aa 5), .inl (tc 0, 6, .inl (Af 5))), ((Aa 6), .inl (tc 0, 6, .inl (Af 6))), ((Aa 7), .inl (tc 0, 6, .inl (Af 7))), ((Aa 8), .inl (tc 0, 6, .inl (Af 8)))]) ⟨hx, hb, hml, hown, hts⟩ hK hX hA (cu_fX10_takeNumber l D tc sk (Ta 0) (Ta 1) (Tv 0) sv_9 sv_10 sv_11 sv_12 (Tf 1) 1 9 ro_18 1 9 pf_13 h_by pf_14 ha_22 ha_23) k_566 k_563 k_564 k_565 k_96 pl_X10_takeNumber ⟨Nat.le_of_ble_eq_true rfl, Nat.le_of_ble_eq_true rfl⟩ rfl rfl (va_recv hK hP (ci := 10) (q0 := 10) rfl rfl) hP hD hS [10, 11] [0, 1, 2, 3, 4, 5, 6, 7, 8, 9] rfl rfl rfl rfl rfl (by decide) rfl hl.1 rfl (Nat.le_of_ble_eq_true rfl) dX0_readBuyer_47 ⟨Nat.le_of_ble_eq_true rfl, Nat.le_of_ble_eq_true rfl⟩ (fun v_24 u_25 H locs hv_26 hP₀ hD₀ hS₀ => ?_)
      obtain ⟨sv_27, sv_28, sv_29, sv_30⟩ := u_25
      obtain ⟨r_33, rfl, he_34, pf_31, pf_32⟩ := hv_26
      have he_34 : NuV (cB (Tf 1) (Tv 0)) (1 : Int) (9 : Int) ro_18 r_33 := he_34
      have pf_31 : 0 ≤ ((Tv 0) : Int32).toInt ∧ ((Tv 0) : Int32).toInt ≤ 400 ∧ 0 ≤ (sv_27 : Int32).toInt ∧ (sv_27 : Int32).toInt ≤ 400 ∧ 0 ≤ (sv_28 : Int32).toInt ∧ (sv_28 : Int32).toInt ≤ 400 := pf_31
      have pf_32 : TpR (Tf 1) (Tv 0) (rNX (cB (Tf 1) (Tv 0)) (rNU (cB (Tf 1) (Tv 0)) (1 : Int) (9 : Int) ro_18)) sv_27 sv_28 sv_29 sv_30 := pf_32
      obtain ⟨ro_36, ero_36⟩ : ∃ z : Except Int (Nat × Nat), z = (rNX (cB (Tf 1) (Tv 0)) (rNU (cB (Tf 1) (Tv 0)) 1 9 ro_18)) := ⟨_, rfl⟩
      rw [← ero_36] at pf_32
      have tb_37 : TpB (rTE (cB (Tf 1) (Tv 0)) ro_36) sv_28 sv_30 := TpR.tb pf_32
      refine W.eq (g2 := F0 m 50 ls [.int r_33, .int (Av 3), .ref (Aa 4)]) rfl ?_
      replace hP : va_P D classes [((Wa 0), .inr (0, [.ref (Aa 0)])), ((Aa 0), .inr (9, [.int (Av 0), .int (Av 1), .int (Av 2), .int (Av 3), .int (Av 4), .int (Av 5), .ref (Aa 1), .ref (Aa 2), .ref (Aa 3), .ref (Aa 4), .ref (Aa 5), .ref (Aa 6), .ref (Aa 7), .ref (Aa 8)])), ((Aa 1), .inl (tc 0, 10, .inl (Af 1))), ((Aa 2), .inl (tc 0, 10, .inl (Af 2))), ((Aa 3), .inl (tc 0, 6, .inl g_21)), ((Aa 4), .inl (tc 0, 6, .inl (Af 4))), ((Aa 5), .inl (tc 0, 6, .inl (Af 5))), ((Aa 6), .inl (tc 0, 6, .inl (Af 6))), ((Aa 7), .inl (tc 0, 6, .inl (Af 7))), ((Aa 8), .inl (tc 0, 6, .inl (Af 8))), ((Ta 0), .inr (10, [.ref (Ta 1), .int (Tv 0), .int sv_27, .int sv_28, .int sv_29, .int sv_30])), ((Ta 1), .inl (tc 0, 400, .inl (Tf 1)))] H := hP₀
      replace hD : va_D A [((Wa 0), .inr (0, [.ref (Aa 0)])), ((Aa 0), .inr (9, [.int (Av 0), .int (Av 1), .int (Av 2), .int (Av 3), .int (Av 4), .int (Av 5), .ref (Aa 1), .ref (Aa 2), .ref (Aa 3), .ref (Aa 4), .ref (Aa 5), .ref (Aa 6), .ref (Aa 7), .ref (Aa 8)])), ((Aa 1), .inl (tc 0, 10, .inl (Af 1))), ((Aa 2), .inl (tc 0, 10, .inl (Af 2))), ((Aa 3), .inl (tc 0, 6, .inl g_21)), ((Aa 4), .inl (tc 0, 6, .inl (Af 4))), ((Aa 5), .inl (tc 0, 6, .inl (Af 5))), ((Aa 6), .inl (tc 0, 6, .inl (Af 6))), ((Aa 7), .inl (tc 0, 6, .inl (Af 7))), ((Aa 8), .inl (tc 0, 6, .inl (Af 8))), ((Ta 0), .inr (10, [.ref (Ta 1), .int (Tv 0), .int sv_27, .int sv_28, .int sv_29, .int sv_30])), ((Ta 1), .inl (tc 0, 400, .inl (Tf 1)))] := hD₀
      replace hS := hS₀
      clear hP₀ hD₀ hS₀
      have hi_38 : vp_in (Av 3) 6 := by
        have z_1 := Int32.le_iff_toInt_le.mp (Int32.not_lt.mp c_2)
        have z_2 := Int32.lt_iff_toInt_lt.mp c_3
        have y_0 : (0 : Int32).toInt = 0 := by decide
        have y_6 : (6 : Int32).toInt = 6 := by decide
        refine vp_in_iff.mpr ⟨?_, ?_⟩ <;> omega
      refine st_int hx hb hK hP hD hS 5 0 rfl rfl hi_38 dX0_readBuyer_50 (fun g_39 H locs eg_39 hP₀ hD₀ hS₀ => ?_)
      replace hP : va_P D classes [((Wa 0), .inr (0, [.ref (Aa 0)])), ((Aa 0), .inr (9, [.int (Av 0), .int (Av 1), .int (Av 2), .int (Av 3), .int (Av 4), .int (Av 5), .ref (Aa 1), .ref (Aa 2), .ref (Aa 3), .ref (Aa 4), .ref (Aa 5), .ref (Aa 6), .ref (Aa 7), .ref (Aa 8)])), ((Aa 1), .inl (tc 0, 10, .inl (Af 1))), ((Aa 2), .inl (tc 0, 10, .inl (Af 2))), ((Aa 3), .inl (tc 0, 6, .inl g_21)), ((Aa 4), .inl (tc 0, 6, .inl g_39)), ((Aa 5), .inl (tc 0, 6, .inl (Af 5))), ((Aa 6), .inl (tc 0, 6, .inl (Af 6))), ((Aa 7), .inl (tc 0, 6, .inl (Af 7))), ((Aa 8), .inl (tc 0, 6, .inl (Af 8))), ((Ta 0), .inr (10, [.ref (Ta 1), .int (Tv 0), .int sv_27, .int sv_28, .int sv_29, .int sv_30])), ((Ta 1), .inl (tc 0, 400, .inl (Tf 1)))] H := hP₀
      replace hD : va_D A [((Wa 0), .inr (0, [.ref (Aa 0)])), ((Aa 0), .inr (9, [.int (Av 0), .int (Av 1), .int (Av 2), .int (Av 3), .int (Av 4), .int (Av 5), .ref (Aa 1), .ref (Aa 2), .ref (Aa 3), .ref (Aa 4), .ref (Aa 5), .ref (Aa 6), .ref (Aa 7), .ref (Aa 8)])), ((Aa 1), .inl (tc 0, 10, .inl (Af 1))), ((Aa 2), .inl (tc 0, 10, .inl (Af 2))), ((Aa 3), .inl (tc 0, 6, .inl g_21)), ((Aa 4), .inl (tc 0, 6, .inl g_39)), ((Aa 5), .inl (tc 0, 6, .inl (Af 5))), ((Aa 6), .inl (tc 0, 6, .inl (Af 6))), ((Aa 7), .inl (tc 0, 6, .inl (Af 7))), ((Aa 8), .inl (tc 0, 6, .inl (Af 8))), ((Ta 0), .inr (10, [.ref (Ta 1), .int (Tv 0), .int sv_27, .int sv_28, .int sv_29, .int sv_30])), ((Ta 1), .inl (tc 0, 400, .inl (Tf 1)))] := hD₀
      replace hS := hS₀
      clear hP₀ hD₀ hS₀
      refine lv_aload_n hx hb dX0_readBuyer_51 rfl (lv_at hl 1 rfl) ?_
      refine gf_X0_12 hx hb hts hown hK hP 0 rfl rfl dX0_readBuyer_52 ?_
      refine gf_X0_97 hx hb hts hown hK hP 1 rfl rfl dX0_readBuyer_55 ?_
      refine lv_iload_n hx hb dX0_readBuyer_58 rfl (lv_at hl 0 rfl) ?_
      refine lv_aload_n hx hb dX0_readBuyer_59 rfl (lv_at hl 2 rfl) ?_
      refine lv_iconst (v := 0) hx hb dX0_readBuyer_60 (by decide) ?_
      refine lv_bipush (v := 9) hx hb dX0_readBuyer_61 (by decide) ?_
      have ha_40 : (0 : Int32).toInt = (0 : Int) := by
        have z_1 := Int32.le_iff_toInt_le.mp (Int32.not_lt.mp c_2)
        have z_2 := Int32.lt_iff_toInt_lt.mp c_3
        have y_0 : (0 : Int32).toInt = 0 := by decide
        have y_6 : (6 : Int32).toInt = 6 := by decide
        omega
      have ha_41 : (9 : Int32).toInt = (9 : Int) := by
        have z_1 := Int32.le_iff_toInt_le.mp (Int32.not_lt.mp c_2)
        have z_2 := Int32.lt_iff_toInt_lt.mp c_3
        have y_0 : (0 : Int32).toInt = 0 := by decide
        have y_6 : (6 : Int32).toInt = 6 := by decide
        have y_9 : (9 : Int32).toInt = 9 := by decide
        omega
      refine cV (a := (Ta 0)) (As := [.int 0, .int 9]) (rest := [.int (Av 3), .ref (Aa 5)]) (wr := [((Wa 0), .inr (0, [.ref (Aa 0)])), ((Aa 0), .inr (9, [.int (Av 0), .int (Av 1), .int (Av 2), .int (Av 3), .int (Av 4), .int (Av 5), .ref (Aa 1), .ref (Aa 2), .ref (Aa 3), .ref (Aa 4), .ref (Aa 5), .ref (Aa 6), .ref (Aa 7), .ref (Aa 8)])), ((Aa 1), .inl (tc 0, 10, .inl (Af 1))), ((Aa 2), .inl (tc 0, 10, .inl (Af 2))), ((Aa 3), .inl (tc 0, 6, .inl g_21)), ((Aa 4), .inl (tc 0, 6, .inl g_39)), ((Aa 5), .inl (tc 0, 6, .inl (Af 5))), ((Aa 6), .inl (tc 0, 6, .inl (Af 6))), ((Aa 7), .inl (tc 0, 6, .inl (Af 7))), ((Aa 8), .inl (tc 0, 6, .inl (Af 8)))]) ⟨hx, hb, hml, hown, hts⟩ hK hX hA (cu_fX10_takeNumber l D tc sk (Ta 0) (Ta 1) (Tv 0) sv_27 sv_28 sv_29 sv_30 (Tf 1) 0 9 ro_36 0 9 pf_31 h_by pf_32 ha_40 ha_41) k_566 k_563 k_564 k_565 k_96 pl_X10_takeNumber ⟨Nat.le_of_ble_eq_true rfl, Nat.le_of_ble_eq_true rfl⟩ rfl rfl (va_recv hK hP (ci := 10) (q0 := 10) rfl rfl) hP hD hS [10, 11] [0, 1, 2, 3, 4, 5, 6, 7, 8, 9] rfl rfl rfl rfl rfl (by decide) rfl hl.1 rfl (Nat.le_of_ble_eq_true rfl) dX0_readBuyer_63 ⟨Nat.le_of_ble_eq_true rfl, Nat.le_of_ble_eq_true rfl⟩ (fun v_42 u_43 H locs hv_44 hP₀ hD₀ hS₀ => ?_)
      obtain ⟨sv_45, sv_46, sv_47, sv_48⟩ := u_43
      obtain ⟨r_51, rfl, he_52, pf_49, pf_50⟩ := hv_44
      have he_52 : NuV (cB (Tf 1) (Tv 0)) (0 : Int) (9 : Int) ro_36 r_51 := he_52
      have pf_49 : 0 ≤ ((Tv 0) : Int32).toInt ∧ ((Tv 0) : Int32).toInt ≤ 400 ∧ 0 ≤ (sv_45 : Int32).toInt ∧ (sv_45 : Int32).toInt ≤ 400 ∧ 0 ≤ (sv_46 : Int32).toInt ∧ (sv_46 : Int32).toInt ≤ 400 := pf_49
      have pf_50 : TpR (Tf 1) (Tv 0) (rNX (cB (Tf 1) (Tv 0)) (rNU (cB (Tf 1) (Tv 0)) (0 : Int) (9 : Int) ro_36)) sv_45 sv_46 sv_47 sv_48 := pf_50
      obtain ⟨ro_54, ero_54⟩ : ∃ z : Except Int (Nat × Nat), z = (rNX (cB (Tf 1) (Tv 0)) (rNU (cB (Tf 1) (Tv 0)) 0 9 ro_36)) := ⟨_, rfl⟩
      rw [← ero_54] at pf_50
      have tb_55 : TpB (rTE (cB (Tf 1) (Tv 0)) ro_54) sv_46 sv_48 := TpR.tb pf_50
      refine W.eq (g2 := F0 m 66 ls [.int r_51, .int (Av 3), .ref (Aa 5)]) rfl ?_
      replace hP : va_P D classes [((Wa 0), .inr (0, [.ref (Aa 0)])), ((Aa 0), .inr (9, [.int (Av 0), .int (Av 1), .int (Av 2), .int (Av 3), .int (Av 4), .int (Av 5), .ref (Aa 1), .ref (Aa 2), .ref (Aa 3), .ref (Aa 4), .ref (Aa 5), .ref (Aa 6), .ref (Aa 7), .ref (Aa 8)])), ((Aa 1), .inl (tc 0, 10, .inl (Af 1))), ((Aa 2), .inl (tc 0, 10, .inl (Af 2))), ((Aa 3), .inl (tc 0, 6, .inl g_21)), ((Aa 4), .inl (tc 0, 6, .inl g_39)), ((Aa 5), .inl (tc 0, 6, .inl (Af 5))), ((Aa 6), .inl (tc 0, 6, .inl (Af 6))), ((Aa 7), .inl (tc 0, 6, .inl (Af 7))), ((Aa 8), .inl (tc 0, 6, .inl (Af 8))), ((Ta 0), .inr (10, [.ref (Ta 1), .int (Tv 0), .int sv_45, .int sv_46, .int sv_47, .int sv_48])), ((Ta 1), .inl (tc 0, 400, .inl (Tf 1)))] H := hP₀
      replace hD : va_D A [((Wa 0), .inr (0, [.ref (Aa 0)])), ((Aa 0), .inr (9, [.int (Av 0), .int (Av 1), .int (Av 2), .int (Av 3), .int (Av 4), .int (Av 5), .ref (Aa 1), .ref (Aa 2), .ref (Aa 3), .ref (Aa 4), .ref (Aa 5), .ref (Aa 6), .ref (Aa 7), .ref (Aa 8)])), ((Aa 1), .inl (tc 0, 10, .inl (Af 1))), ((Aa 2), .inl (tc 0, 10, .inl (Af 2))), ((Aa 3), .inl (tc 0, 6, .inl g_21)), ((Aa 4), .inl (tc 0, 6, .inl g_39)), ((Aa 5), .inl (tc 0, 6, .inl (Af 5))), ((Aa 6), .inl (tc 0, 6, .inl (Af 6))), ((Aa 7), .inl (tc 0, 6, .inl (Af 7))), ((Aa 8), .inl (tc 0, 6, .inl (Af 8))), ((Ta 0), .inr (10, [.ref (Ta 1), .int (Tv 0), .int sv_45, .int sv_46, .int sv_47, .int sv_48])), ((Ta 1), .inl (tc 0, 400, .inl (Tf 1)))] := hD₀
      replace hS := hS₀
      clear hP₀ hD₀ hS₀
      have hi_56 : vp_in (Av 3) 6 := by
        have z_1 := Int32.le_iff_toInt_le.mp (Int32.not_lt.mp c_2)
        have z_2 := Int32.lt_iff_toInt_lt.mp c_3
        have y_0 : (0 : Int32).toInt = 0 := by decide
        have y_6 : (6 : Int32).toInt = 6 := by decide
        refine vp_in_iff.mpr ⟨?_, ?_⟩ <;> omega
      refine st_int hx hb hK hP hD hS 6 0 rfl rfl hi_56 dX0_readBuyer_66 (fun g_57 H locs eg_57 hP₀ hD₀ hS₀ => ?_)
      replace hP : va_P D classes [((Wa 0), .inr (0, [.ref (Aa 0)])), ((Aa 0), .inr (9, [.int (Av 0), .int (Av 1), .int (Av 2), .int (Av 3), .int (Av 4), .int (Av 5), .ref (Aa 1), .ref (Aa 2), .ref (Aa 3), .ref (Aa 4), .ref (Aa 5), .ref (Aa 6), .ref (Aa 7), .ref (Aa 8)])), ((Aa 1), .inl (tc 0, 10, .inl (Af 1))), ((Aa 2), .inl (tc 0, 10, .inl (Af 2))), ((Aa 3), .inl (tc 0, 6, .inl g_21)), ((Aa 4), .inl (tc 0, 6, .inl g_39)), ((Aa 5), .inl (tc 0, 6, .inl g_57)), ((Aa 6), .inl (tc 0, 6, .inl (Af 6))), ((Aa 7), .inl (tc 0, 6, .inl (Af 7))), ((Aa 8), .inl (tc 0, 6, .inl (Af 8))), ((Ta 0), .inr (10, [.ref (Ta 1), .int (Tv 0), .int sv_45, .int sv_46, .int sv_47, .int sv_48])), ((Ta 1), .inl (tc 0, 400, .inl (Tf 1)))] H := hP₀
      replace hD : va_D A [((Wa 0), .inr (0, [.ref (Aa 0)])), ((Aa 0), .inr (9, [.int (Av 0), .int (Av 1), .int (Av 2), .int (Av 3), .int (Av 4), .int (Av 5), .ref (Aa 1), .ref (Aa 2), .ref (Aa 3), .ref (Aa 4), .ref (Aa 5), .ref (Aa 6), .ref (Aa 7), .ref (Aa 8)])), ((Aa 1), .inl (tc 0, 10, .inl (Af 1))), ((Aa 2), .inl (tc 0, 10, .inl (Af 2))), ((Aa 3), .inl (tc 0, 6, .inl g_21)), ((Aa 4), .inl (tc 0, 6, .inl g_39)), ((Aa 5), .inl (tc 0, 6, .inl g_57)), ((Aa 6), .inl (tc 0, 6, .inl (Af 6))), ((Aa 7), .inl (tc 0, 6, .inl (Af 7))), ((Aa 8), .inl (tc 0, 6, .inl (Af 8))), ((Ta 0), .inr (10, [.ref (Ta 1), .int (Tv 0), .int sv_45, .int sv_46, .int sv_47, .int sv_48])), ((Ta 1), .inl (tc 0, 400, .inl (Tf 1)))] := hD₀
      replace hS := hS₀
      clear hP₀ hD₀ hS₀
      refine lv_aload_n hx hb dX0_readBuyer_67 rfl (lv_at hl 1 rfl) ?_
      refine gf_X0_12 hx hb hts hown hK hP 0 rfl rfl dX0_readBuyer_68 ?_
      refine lv_dup hx hb dX0_readBuyer_71 rfl ?_
      refine gf_X0_51 hx hb hts hown hK hP 1 rfl rfl dX0_readBuyer_72 ?_
      refine lv_iconst (v := 1) hx hb dX0_readBuyer_75 (by decide) ?_
      refine lv_iadd hx hb dX0_readBuyer_76 ?_
      refine lv_topi (fun x_58 ex_58 => ?_)
      refine pf_X0_51 hx hb hts hown hK hP hD hS 1 rfl (Nat.le_of_ble_eq_true rfl) rfl rfl dX0_readBuyer_77 (fun H locs hP₀ hD₀ hS₀ => ?_)
      replace hP : va_P D classes [((Wa 0), .inr (0, [.ref (Aa 0)])), ((Aa 0), .inr (9, [.int (Av 0), .int (Av 1), .int (Av 2), .int x_58, .int (Av 4), .int (Av 5), .ref (Aa 1), .ref (Aa 2), .ref (Aa 3), .ref (Aa 4), .ref (Aa 5), .ref (Aa 6), .ref (Aa 7), .ref (Aa 8)])), ((Aa 1), .inl (tc 0, 10, .inl (Af 1))), ((Aa 2), .inl (tc 0, 10, .inl (Af 2))), ((Aa 3), .inl (tc 0, 6, .inl g_21)), ((Aa 4), .inl (tc 0, 6, .inl g_39)), ((Aa 5), .inl (tc 0, 6, .inl g_57)), ((Aa 6), .inl (tc 0, 6, .inl (Af 6))), ((Aa 7), .inl (tc 0, 6, .inl (Af 7))), ((Aa 8), .inl (tc 0, 6, .inl (Af 8))), ((Ta 0), .inr (10, [.ref (Ta 1), .int (Tv 0), .int sv_45, .int sv_46, .int sv_47, .int sv_48])), ((Ta 1), .inl (tc 0, 400, .inl (Tf 1)))] H := hP₀
      replace hD : va_D A [((Wa 0), .inr (0, [.ref (Aa 0)])), ((Aa 0), .inr (9, [.int (Av 0), .int (Av 1), .int (Av 2), .int x_58, .int (Av 4), .int (Av 5), .ref (Aa 1), .ref (Aa 2), .ref (Aa 3), .ref (Aa 4), .ref (Aa 5), .ref (Aa 6), .ref (Aa 7), .ref (Aa 8)])), ((Aa 1), .inl (tc 0, 10, .inl (Af 1))), ((Aa 2), .inl (tc 0, 10, .inl (Af 2))), ((Aa 3), .inl (tc 0, 6, .inl g_21)), ((Aa 4), .inl (tc 0, 6, .inl g_39)), ((Aa 5), .inl (tc 0, 6, .inl g_57)), ((Aa 6), .inl (tc 0, 6, .inl (Af 6))), ((Aa 7), .inl (tc 0, 6, .inl (Af 7))), ((Aa 8), .inl (tc 0, 6, .inl (Af 8))), ((Ta 0), .inr (10, [.ref (Ta 1), .int (Tv 0), .int sv_45, .int sv_46, .int sv_47, .int sv_48])), ((Ta 1), .inl (tc 0, 400, .inl (Tf 1)))] := hD₀
      replace hS := hS₀
      clear hP₀ hD₀ hS₀
      have ha_59 : 0 ≤ (x_58 : Int32).toInt ∧ (x_58 : Int32).toInt ≤ 6 := by
        have z_1 := Int32.le_iff_toInt_le.mp (Int32.not_lt.mp c_2)
        have z_2 := Int32.lt_iff_toInt_lt.mp c_3
        have y_0 : (0 : Int32).toInt = 0 := by decide
        have y_6 : (6 : Int32).toInt = 6 := by decide
        have y_1 : (1 : Int32).toInt = 1 := by decide
        have t_x_58 : x_58.toInt = ((Av 3) : Int32).toInt + (1 : Int32).toInt := by rw [ex_58]; exact add_toInt (by omega) (by omega)
        omega
      have hu_60 : TpR (Tf 1) (Tv 0) (rNX (cB (Tf 1) (Tv 0)) (rNU (cB (Tf 1) (Tv 0)) 0 9 (rNX (cB (Tf 1) (Tv 0)) (rNU (cB (Tf 1) (Tv 0)) 1 9 (rNX (cB (Tf 1) (Tv 0)) (rNU (cB (Tf 1) (Tv 0)) 0 20 rr)))))) sv_45 sv_46 sv_47 sv_48 := by
        rw [← ero_18, ← ero_36, ← ero_54]
        exact pf_50
      have hf_61 : TpR (Tf 1) (Tv 0) (rN1 (cB (Tf 1) (Tv 0)) 0 9 (rN1 (cB (Tf 1) (Tv 0)) 1 9 (rN1 (cB (Tf 1) (Tv 0)) 0 20 rr))) sv_45 sv_46 sv_47 sv_48 := hu_60
      have hv_62 : NuV (cB (Tf 1) (Tv 0)) 0 20 rr r_15 := by
        have hq := he_16
        exact hq
      have hv_63 : NuV (cB (Tf 1) (Tv 0)) 1 9 (rN1 (cB (Tf 1) (Tv 0)) 0 20 rr) r_33 := by
        have hq := he_34
        rw [ero_18] at hq
        exact hq
      have hv_64 : NuV (cB (Tf 1) (Tv 0)) 0 9 (rN1 (cB (Tf 1) (Tv 0)) 1 9 (rN1 (cB (Tf 1) (Tv 0)) 0 20 rr)) r_51 := by
        have hq := he_52
        rw [ero_36, ero_18] at hq
        exact hq
      have hi_66 : (x_58 : Int32).toInt = (Av 3).toInt + 1 := by
        have z_1 := Int32.le_iff_toInt_le.mp (Int32.not_lt.mp c_2)
        have z_2 := Int32.lt_iff_toInt_lt.mp c_3
        have y_0 : (0 : Int32).toInt = 0 := by decide
        have y_6 : (6 : Int32).toInt = 6 := by decide
        have y_1 : (1 : Int32).toInt = 1 := by decide
        have t_x_58 : x_58.toInt = ((Av 3) : Int32).toInt + (1 : Int32).toInt := by rw [ex_58]; exact add_toInt (by omega) (by omega)
        omega
      have hs_65 : QsQ (qz_k2 (cB (Tf 1) (Tv 0)) C rr) (Av 0) (Av 1) (Av 2) x_58 (Av 4) (Av 5) (Af 1) (Af 2) g_21 g_39 g_57 (Af 6) (Af 7) (Af 8) := QsQ.b2 h_c h_b6 hv_62 hv_63 hv_64 eg_21 eg_39 eg_57 hi_66
      exact retV hx hb hr hlk hP hD hS (x_58, g_21, g_39, g_57, sv_45, sv_46, sv_47, sv_48) ⟨rfl, pf_49, ha_59, hf_61, hs_65⟩ [0, 1, 2, 3, 4, 5, 6, 7, 8, 9, 10, 11] rfl rfl dX0_readBuyer_80 (Nat.le_of_ble_eq_true rfl) (Nat.le_of_ble_eq_true rfl) rfl
    · skip
      exfalso
      have z_1 := Int32.le_iff_toInt_le.mp (Int32.not_lt.mp c_2)
      have z_2 := Int32.le_iff_toInt_le.mp (Int32.not_lt.mp c_3)
      have y_0 : (0 : Int32).toInt = 0 := by decide
      have y_6 : (6 : Int32).toInt = 6 := by decide
      omega
set_option maxRecDepth 100000 in
theorem cu_zX0_readBuyer (l : Launch) (D : va_G) (tc : Nat → ClassId) (sk : (Nat → Nat) × (Nat → Nat)) (Wa_0 : Nat) (Aa_0 : Nat) (Aa_1 : Nat) (Aa_2 : Nat) (Aa_3 : Nat) (Aa_4 : Nat) (Aa_5 : Nat) (Aa_6 : Nat) (Aa_7 : Nat) (Aa_8 : Nat) (Av_0 : Int32) (Av_1 : Int32) (Av_2 : Int32) (Av_3 : Int32) (Av_4 : Int32) (Av_5 : Int32) (Af_1 : Nat → Int32) (Af_2 : Nat → Int32) (Af_3 : Nat → Int32) (Af_4 : Nat → Int32) (Af_5 : Nat → Int32) (Af_6 : Nat → Int32) (Af_7 : Nat → Int32) (Af_8 : Nat → Int32) (Ta_0 : Nat) (Ta_1 : Nat) (Tv_0 : Int32) (Tv_1 : Int32) (Tv_2 : Int32) (Tv_3 : Int32) (Tv_4 : Int32) (Tf_1 : Nat → Int32) (rr : Except Int (Nat × Nat)) (C : Nat → Int) (h_tape : 0 ≤ (Tv_0 : Int32).toInt ∧ (Tv_0 : Int32).toInt ≤ 400 ∧ 0 ≤ (Tv_1 : Int32).toInt ∧ (Tv_1 : Int32).toInt ≤ 400 ∧ 0 ≤ (Tv_2 : Int32).toInt ∧ (Tv_2 : Int32).toInt ≤ 400) (h_by : Byt Tf_1) (h_r : TpR Tf_1 Tv_0 rr Tv_1 Tv_2 Tv_3 Tv_4) (h_b6 : 0 ≤ Av_3.toInt ∧ Av_3.toInt < 6) (h_c : QcI rr Av_0 Av_1 Av_2 Av_3 Av_4 Av_5 Af_1 Af_2 Af_3 Af_4 Af_5 Af_6 Af_7 Af_8 C) : Ct l yX0_readBuyer cX0_readBuyer 3 none { frames := 3, cells := 0, slots := 0, locals := 68 } D tc sk [.ref Wa_0, .ref Ta_0] [(Wa_0, .inr (0, [.ref Aa_0])), (Aa_0, .inr (9, [.int Av_0, .int Av_1, .int Av_2, .int Av_3, .int Av_4, .int Av_5, .ref Aa_1, .ref Aa_2, .ref Aa_3, .ref Aa_4, .ref Aa_5, .ref Aa_6, .ref Aa_7, .ref Aa_8])), (Aa_1, .inl (tc 0, 10, .inl Af_1)), (Aa_2, .inl (tc 0, 10, .inl Af_2)), (Aa_3, .inl (tc 0, 6, .inl Af_3)), (Aa_4, .inl (tc 0, 6, .inl Af_4)), (Aa_5, .inl (tc 0, 6, .inl Af_5)), (Aa_6, .inl (tc 0, 6, .inl Af_6)), (Aa_7, .inl (tc 0, 6, .inl Af_7)), (Aa_8, .inl (tc 0, 6, .inl Af_8)), (Ta_0, .inr (10, [.ref Ta_1, .int Tv_0, .int Tv_1, .int Tv_2, .int Tv_3, .int Tv_4])), (Ta_1, .inl (tc 0, 400, .inl Tf_1))] (fun (v : Option Value) (u : (Int32) × (Nat → Int32) × (Nat → Int32) × (Nat → Int32) × (Int32) × (Int32) × (Int32) × (Int32)) => match u with | (oo0x1, oo0x2, oo0x3, oo0x4, oo0x5, oo0x6, oo0x7, oo0x8) => v = none ∧ (0 ≤ (Tv_0 : Int32).toInt ∧ (Tv_0 : Int32).toInt ≤ 400 ∧ 0 ≤ (oo0x5 : Int32).toInt ∧ (oo0x5 : Int32).toInt ≤ 400 ∧ 0 ≤ (oo0x6 : Int32).toInt ∧ (oo0x6 : Int32).toInt ≤ 400) ∧ (0 ≤ (oo0x1 : Int32).toInt ∧ (oo0x1 : Int32).toInt ≤ 6) ∧ (TpR Tf_1 Tv_0 (rN1 (cB Tf_1 Tv_0) 0 9 (rN1 (cB Tf_1 Tv_0) 1 9 (rN1 (cB Tf_1 Tv_0) 0 20 rr))) oo0x5 oo0x6 oo0x7 oo0x8) ∧ (QsQ (qz_k2 (cB Tf_1 Tv_0) C rr) Av_0 Av_1 Av_2 oo0x1 Av_4 Av_5 Af_1 Af_2 oo0x2 oo0x3 oo0x4 Af_6 Af_7 Af_8)) (fun (u : (Int32) × (Nat → Int32) × (Nat → Int32) × (Nat → Int32) × (Int32) × (Int32) × (Int32) × (Int32)) => match u with | (oo0x1, oo0x2, oo0x3, oo0x4, oo0x5, oo0x6, oo0x7, oo0x8) => [(Wa_0, .inr (0, [.ref Aa_0])), (Aa_0, .inr (9, [.int Av_0, .int Av_1, .int Av_2, .int oo0x1, .int Av_4, .int Av_5, .ref Aa_1, .ref Aa_2, .ref Aa_3, .ref Aa_4, .ref Aa_5, .ref Aa_6, .ref Aa_7, .ref Aa_8])), (Aa_1, .inl (tc 0, 10, .inl Af_1)), (Aa_2, .inl (tc 0, 10, .inl Af_2)), (Aa_3, .inl (tc 0, 6, .inl oo0x2)), (Aa_4, .inl (tc 0, 6, .inl oo0x3)), (Aa_5, .inl (tc 0, 6, .inl oo0x4)), (Aa_6, .inl (tc 0, 6, .inl Af_6)), (Aa_7, .inl (tc 0, 6, .inl Af_7)), (Aa_8, .inl (tc 0, 6, .inl Af_8)), (Ta_0, .inr (10, [.ref Ta_1, .int Tv_0, .int oo0x5, .int oo0x6, .int oo0x7, .int oo0x8])), (Ta_1, .inl (tc 0, 400, .inl Tf_1))]) 0 0 :=
  ct_zX0_readBuyer l D tc sk (fun k => ([Wa_0] : List (Nat)).getD k 0) (fun k => ([Aa_0, Aa_1, Aa_2, Aa_3, Aa_4, Aa_5, Aa_6, Aa_7, Aa_8] : List (Nat)).getD k 0) (fun k => ([Av_0, Av_1, Av_2, Av_3, Av_4, Av_5] : List (Int32)).getD k 0) (fun k => ([(fun _ => 0), Af_1, Af_2, Af_3, Af_4, Af_5, Af_6, Af_7, Af_8] : List (Nat → Int32)).getD k (fun _ => 0)) (fun k => ([Ta_0, Ta_1] : List (Nat)).getD k 0) (fun k => ([Tv_0, Tv_1, Tv_2, Tv_3, Tv_4] : List (Int32)).getD k 0) (fun k => ([(fun _ => 0), Tf_1] : List (Nat → Int32)).getD k (fun _ => 0)) rr C h_tape h_by h_r h_b6 h_c
set_option maxHeartbeats 4000000 in
set_option maxRecDepth 100000 in
theorem ct_zX0_readWatch (l : Launch) (D : va_G) (tc : Nat → ClassId) (sk : (Nat → Nat) × (Nat → Nat)) (Wa : Nat → Nat) (Aa : Nat → Nat) (Av : Nat → Int32) (Af : Nat → Nat → Int32) (Ta : Nat → Nat) (Tv : Nat → Int32) (Tf : Nat → Nat → Int32) (rr : Except Int (Nat × Nat)) (C : Nat → Int) (h_tape : 0 ≤ ((Tv 0) : Int32).toInt ∧ ((Tv 0) : Int32).toInt ≤ 400 ∧ 0 ≤ ((Tv 1) : Int32).toInt ∧ ((Tv 1) : Int32).toInt ≤ 400 ∧ 0 ≤ ((Tv 2) : Int32).toInt ∧ ((Tv 2) : Int32).toInt ≤ 400) (h_by : Byt (Tf 1)) (h_r : TpR (Tf 1) (Tv 0) rr (Tv 1) (Tv 2) (Tv 3) (Tv 4)) (h_bu : 0 ≤ ((Av 3) : Int32).toInt ∧ ((Av 3) : Int32).toInt ≤ 6) (h_c : QcI rr (Av 0) (Av 1) (Av 2) (Av 3) (Av 4) (Av 5) (Af 1) (Af 2) (Af 3) (Af 4) (Af 5) (Af 6) (Af 7) (Af 8) C) : Ct l yX0_readWatch cX0_readWatch 4 none { frames := 3, cells := 0, slots := 0, locals := 68 } D tc sk [.ref (Wa 0), .ref (Ta 0)] [((Wa 0), .inr (0, [.ref (Aa 0)])), ((Aa 0), .inr (9, [.int (Av 0), .int (Av 1), .int (Av 2), .int (Av 3), .int (Av 4), .int (Av 5), .ref (Aa 1), .ref (Aa 2), .ref (Aa 3), .ref (Aa 4), .ref (Aa 5), .ref (Aa 6), .ref (Aa 7), .ref (Aa 8)])), ((Aa 1), .inl (tc 0, 10, .inl (Af 1))), ((Aa 2), .inl (tc 0, 10, .inl (Af 2))), ((Aa 3), .inl (tc 0, 6, .inl (Af 3))), ((Aa 4), .inl (tc 0, 6, .inl (Af 4))), ((Aa 5), .inl (tc 0, 6, .inl (Af 5))), ((Aa 6), .inl (tc 0, 6, .inl (Af 6))), ((Aa 7), .inl (tc 0, 6, .inl (Af 7))), ((Aa 8), .inl (tc 0, 6, .inl (Af 8))), ((Ta 0), .inr (10, [.ref (Ta 1), .int (Tv 0), .int (Tv 1), .int (Tv 2), .int (Tv 3), .int (Tv 4)])), ((Ta 1), .inl (tc 0, 400, .inl (Tf 1)))] (fun (v : Option Value) (u : (Nat → Int32) × (Int32) × (Int32) × (Int32) × (Int32)) => match u with | (oo0x1, oo0x2, oo0x3, oo0x4, oo0x5) => v = none ∧ (0 ≤ ((Tv 0) : Int32).toInt ∧ ((Tv 0) : Int32).toInt ≤ 400 ∧ 0 ≤ (oo0x2 : Int32).toInt ∧ (oo0x2 : Int32).toInt ≤ 400 ∧ 0 ≤ (oo0x3 : Int32).toInt ∧ (oo0x3 : Int32).toInt ≤ 400) ∧ (0 ≤ ((Av 3) : Int32).toInt ∧ ((Av 3) : Int32).toInt ≤ 6) ∧ (TpR (Tf 1) (Tv 0) (rN1 (cB (Tf 1) (Tv 0)) 0 ((Av 3).toInt - 1) (rN1 (cB (Tf 1) (Tv 0)) 0 ((Av 2) - 1 : Int32).toInt rr)) oo0x2 oo0x3 oo0x4 oo0x5) ∧ (QsQ (qz_k3 (cB (Tf 1) (Tv 0)) C rr) (Av 0) (Av 1) (Av 2) (Av 3) (Av 4) (Av 5) (Af 1) oo0x1 (Af 3) (Af 4) (Af 5) (Af 6) (Af 7) (Af 8))) (fun (u : (Nat → Int32) × (Int32) × (Int32) × (Int32) × (Int32)) => match u with | (oo0x1, oo0x2, oo0x3, oo0x4, oo0x5) => [((Wa 0), .inr (0, [.ref (Aa 0)])), ((Aa 0), .inr (9, [.int (Av 0), .int (Av 1), .int (Av 2), .int (Av 3), .int (Av 4), .int (Av 5), .ref (Aa 1), .ref (Aa 2), .ref (Aa 3), .ref (Aa 4), .ref (Aa 5), .ref (Aa 6), .ref (Aa 7), .ref (Aa 8)])), ((Aa 1), .inl (tc 0, 10, .inl (Af 1))), ((Aa 2), .inl (tc 0, 10, .inl oo0x1)), ((Aa 3), .inl (tc 0, 6, .inl (Af 3))), ((Aa 4), .inl (tc 0, 6, .inl (Af 4))), ((Aa 5), .inl (tc 0, 6, .inl (Af 5))), ((Aa 6), .inl (tc 0, 6, .inl (Af 6))), ((Aa 7), .inl (tc 0, 6, .inl (Af 7))), ((Aa 8), .inl (tc 0, 6, .inl (Af 8))), ((Ta 0), .inr (10, [.ref (Ta 1), .int (Tv 0), .int oo0x2, .int oo0x3, .int oo0x4, .int oo0x5])), ((Ta 1), .inl (tc 0, 400, .inl (Tf 1)))]) 0 0 := by
  refine Ct.start (by decide) (Nat.le_of_ble_eq_true rfl) (fun p e s m below meth c A ls hx hb hr hlk hin hml hown hts hK hX hP hD hA hl hS => ?_)
  have hl : lv_has ls 4 [(0, .ref (Wa 0)), (1, .ref (Ta 0))] := hl
  have tb_1 : TpB (rTE (cB (Tf 1) (Tv 0)) rr) (Tv 2) (Tv 4) := TpR.tb h_r
  refine lv_aload_n hx hb dX0_readWatch_0 rfl (lv_at hl 1 rfl) ?_
  refine lv_iconst (v := 0) hx hb dX0_readWatch_1 (by decide) ?_
  refine lv_aload_n hx hb dX0_readWatch_2 rfl (lv_at hl 0 rfl) ?_
  refine gf_X0_12 hx hb hts hown hK hP 0 rfl rfl dX0_readWatch_3 ?_
  refine gf_X0_80 hx hb hts hown hK hP 1 rfl rfl dX0_readWatch_6 ?_
  refine lv_iconst (v := 1) hx hb dX0_readWatch_9 (by decide) ?_
  refine lv_isub hx hb dX0_readWatch_10 ?_
  refine lv_topi (fun x_2 ex_2 => ?_)
  have ha_3 : (0 : Int32).toInt = (0 : Int) := by
    have y_0 : (0 : Int32).toInt = 0 := by decide
    omega
  refine cV (a := (Ta 0)) (As := [.int 0, .int x_2]) (rest := []) (wr := [((Wa 0), .inr (0, [.ref (Aa 0)])), ((Aa 0), .inr (9, [.int (Av 0), .int (Av 1), .int (Av 2), .int (Av 3), .int (Av 4), .int (Av 5), .ref (Aa 1), .ref (Aa 2), .ref (Aa 3), .ref (Aa 4), .ref (Aa 5), .ref (Aa 6), .ref (Aa 7), .ref (Aa 8)])), ((Aa 1), .inl (tc 0, 10, .inl (Af 1))), ((Aa 2), .inl (tc 0, 10, .inl (Af 2))), ((Aa 3), .inl (tc 0, 6, .inl (Af 3))), ((Aa 4), .inl (tc 0, 6, .inl (Af 4))), ((Aa 5), .inl (tc 0, 6, .inl (Af 5))), ((Aa 6), .inl (tc 0, 6, .inl (Af 6))), ((Aa 7), .inl (tc 0, 6, .inl (Af 7))), ((Aa 8), .inl (tc 0, 6, .inl (Af 8)))]) ⟨hx, hb, hml, hown, hts⟩ hK hX hA (cu_fX10_takeNumber l D tc sk (Ta 0) (Ta 1) (Tv 0) (Tv 1) (Tv 2) (Tv 3) (Tv 4) (Tf 1) 0 x_2 rr 0 (((Av 2) - 1 : Int32).toInt) h_tape h_by h_r ha_3 (congrArg Int32.toInt ex_2)) k_566 k_563 k_564 k_565 k_96 pl_X10_takeNumber ⟨Nat.le_of_ble_eq_true rfl, Nat.le_of_ble_eq_true rfl⟩ rfl rfl (va_recv hK hP (ci := 10) (q0 := 10) rfl rfl) hP hD hS [10, 11] [0, 1, 2, 3, 4, 5, 6, 7, 8, 9] rfl rfl rfl rfl rfl (by decide) rfl hl.1 rfl (Nat.le_of_ble_eq_true rfl) dX0_readWatch_11 ⟨Nat.le_of_ble_eq_true rfl, Nat.le_of_ble_eq_true rfl⟩ (fun v_4 u_5 H locs hv_6 hP₀ hD₀ hS₀ => ?_)
  obtain ⟨sv_7, sv_8, sv_9, sv_10⟩ := u_5
  obtain ⟨r_13, rfl, he_14, pf_11, pf_12⟩ := hv_6
  have he_14 : NuV (cB (Tf 1) (Tv 0)) (0 : Int) ((Av 2) - 1 : Int32).toInt rr r_13 := he_14
  have pf_11 : 0 ≤ ((Tv 0) : Int32).toInt ∧ ((Tv 0) : Int32).toInt ≤ 400 ∧ 0 ≤ (sv_7 : Int32).toInt ∧ (sv_7 : Int32).toInt ≤ 400 ∧ 0 ≤ (sv_8 : Int32).toInt ∧ (sv_8 : Int32).toInt ≤ 400 := pf_11
  have pf_12 : TpR (Tf 1) (Tv 0) (rNX (cB (Tf 1) (Tv 0)) (rNU (cB (Tf 1) (Tv 0)) (0 : Int) ((Av 2) - 1 : Int32).toInt rr)) sv_7 sv_8 sv_9 sv_10 := pf_12
  obtain ⟨ro_16, ero_16⟩ : ∃ z : Except Int (Nat × Nat), z = (rNX (cB (Tf 1) (Tv 0)) (rNU (cB (Tf 1) (Tv 0)) 0 ((Av 2) - 1 : Int32).toInt rr)) := ⟨_, rfl⟩
  rw [← ero_16] at pf_12
  have tb_17 : TpB (rTE (cB (Tf 1) (Tv 0)) ro_16) sv_8 sv_10 := TpR.tb pf_12
  refine W.eq (g2 := F0 m 14 ls [.int r_13]) rfl ?_
  replace hP : va_P D classes [((Wa 0), .inr (0, [.ref (Aa 0)])), ((Aa 0), .inr (9, [.int (Av 0), .int (Av 1), .int (Av 2), .int (Av 3), .int (Av 4), .int (Av 5), .ref (Aa 1), .ref (Aa 2), .ref (Aa 3), .ref (Aa 4), .ref (Aa 5), .ref (Aa 6), .ref (Aa 7), .ref (Aa 8)])), ((Aa 1), .inl (tc 0, 10, .inl (Af 1))), ((Aa 2), .inl (tc 0, 10, .inl (Af 2))), ((Aa 3), .inl (tc 0, 6, .inl (Af 3))), ((Aa 4), .inl (tc 0, 6, .inl (Af 4))), ((Aa 5), .inl (tc 0, 6, .inl (Af 5))), ((Aa 6), .inl (tc 0, 6, .inl (Af 6))), ((Aa 7), .inl (tc 0, 6, .inl (Af 7))), ((Aa 8), .inl (tc 0, 6, .inl (Af 8))), ((Ta 0), .inr (10, [.ref (Ta 1), .int (Tv 0), .int sv_7, .int sv_8, .int sv_9, .int sv_10])), ((Ta 1), .inl (tc 0, 400, .inl (Tf 1)))] H := hP₀
  replace hD : va_D A [((Wa 0), .inr (0, [.ref (Aa 0)])), ((Aa 0), .inr (9, [.int (Av 0), .int (Av 1), .int (Av 2), .int (Av 3), .int (Av 4), .int (Av 5), .ref (Aa 1), .ref (Aa 2), .ref (Aa 3), .ref (Aa 4), .ref (Aa 5), .ref (Aa 6), .ref (Aa 7), .ref (Aa 8)])), ((Aa 1), .inl (tc 0, 10, .inl (Af 1))), ((Aa 2), .inl (tc 0, 10, .inl (Af 2))), ((Aa 3), .inl (tc 0, 6, .inl (Af 3))), ((Aa 4), .inl (tc 0, 6, .inl (Af 4))), ((Aa 5), .inl (tc 0, 6, .inl (Af 5))), ((Aa 6), .inl (tc 0, 6, .inl (Af 6))), ((Aa 7), .inl (tc 0, 6, .inl (Af 7))), ((Aa 8), .inl (tc 0, 6, .inl (Af 8))), ((Ta 0), .inr (10, [.ref (Ta 1), .int (Tv 0), .int sv_7, .int sv_8, .int sv_9, .int sv_10])), ((Ta 1), .inl (tc 0, 400, .inl (Tf 1)))] := hD₀
  replace hS := hS₀
  clear hP₀ hD₀ hS₀
  refine lv_istore_n (lv' := [(2, .int r_13), (0, .ref (Wa 0)), (1, .ref (Ta 0))]) hx hb dX0_readWatch_14 rfl hl (by decide) rfl (fun ls hl₀ => ?_)
  replace hl := hl₀
  clear hl₀
  refine lv_aload_n hx hb dX0_readWatch_15 rfl (lv_at hl 2 rfl) ?_
  refine lv_iconst (v := 0) hx hb dX0_readWatch_16 (by decide) ?_
  refine lv_aload_n hx hb dX0_readWatch_17 rfl (lv_at hl 1 rfl) ?_
  refine gf_X0_12 hx hb hts hown hK hP 0 rfl rfl dX0_readWatch_18 ?_
  refine gf_X0_51 hx hb hts hown hK hP 1 rfl rfl dX0_readWatch_21 ?_
  refine lv_iconst (v := 1) hx hb dX0_readWatch_24 (by decide) ?_
  refine lv_isub hx hb dX0_readWatch_25 ?_
  refine lv_topi (fun x_18 ex_18 => ?_)
  have ha_19 : (0 : Int32).toInt = (0 : Int) := by
    have y_0 : (0 : Int32).toInt = 0 := by decide
    omega
  have ha_20 : x_18.toInt = ((Av 3).toInt - 1) := by
    have y_1 : (1 : Int32).toInt = 1 := by decide
    have t_x_18 : x_18.toInt = ((Av 3) : Int32).toInt - (1 : Int32).toInt := by rw [ex_18]; exact sub_toInt (by omega) (by omega)
    omega
  refine cV (a := (Ta 0)) (As := [.int 0, .int x_18]) (rest := []) (wr := [((Wa 0), .inr (0, [.ref (Aa 0)])), ((Aa 0), .inr (9, [.int (Av 0), .int (Av 1), .int (Av 2), .int (Av 3), .int (Av 4), .int (Av 5), .ref (Aa 1), .ref (Aa 2), .ref (Aa 3), .ref (Aa 4), .ref (Aa 5), .ref (Aa 6), .ref (Aa 7), .ref (Aa 8)])), ((Aa 1), .inl (tc 0, 10, .inl (Af 1))), ((Aa 2), .inl (tc 0, 10, .inl (Af 2))), ((Aa 3), .inl (tc 0, 6, .inl (Af 3))), ((Aa 4), .inl (tc 0, 6, .inl (Af 4))), ((Aa 5), .inl (tc 0, 6, .inl (Af 5))), ((Aa 6), .inl (tc 0, 6, .inl (Af 6))), ((Aa 7), .inl (tc 0, 6, .inl (Af 7))), ((Aa 8), .inl (tc 0, 6, .inl (Af 8)))]) ⟨hx, hb, hml, hown, hts⟩ hK hX hA (cu_fX10_takeNumber l D tc sk (Ta 0) (Ta 1) (Tv 0) sv_7 sv_8 sv_9 sv_10 (Tf 1) 0 x_18 ro_16 0 ((Av 3).toInt - 1) pf_11 h_by pf_12 ha_19 ha_20) k_566 k_563 k_564 k_565 k_96 pl_X10_takeNumber ⟨Nat.le_of_ble_eq_true rfl, Nat.le_of_ble_eq_true rfl⟩ rfl rfl (va_recv hK hP (ci := 10) (q0 := 10) rfl rfl) hP hD hS [10, 11] [0, 1, 2, 3, 4, 5, 6, 7, 8, 9] rfl rfl rfl rfl rfl (by decide) rfl hl.1 rfl (Nat.le_of_ble_eq_true rfl) dX0_readWatch_26 ⟨Nat.le_of_ble_eq_true rfl, Nat.le_of_ble_eq_true rfl⟩ (fun v_21 u_22 H locs hv_23 hP₀ hD₀ hS₀ => ?_)
  obtain ⟨sv_24, sv_25, sv_26, sv_27⟩ := u_22
  obtain ⟨r_30, rfl, he_31, pf_28, pf_29⟩ := hv_23
  have he_31 : NuV (cB (Tf 1) (Tv 0)) (0 : Int) ((Av 3).toInt - 1) ro_16 r_30 := he_31
  have pf_28 : 0 ≤ ((Tv 0) : Int32).toInt ∧ ((Tv 0) : Int32).toInt ≤ 400 ∧ 0 ≤ (sv_24 : Int32).toInt ∧ (sv_24 : Int32).toInt ≤ 400 ∧ 0 ≤ (sv_25 : Int32).toInt ∧ (sv_25 : Int32).toInt ≤ 400 := pf_28
  have pf_29 : TpR (Tf 1) (Tv 0) (rNX (cB (Tf 1) (Tv 0)) (rNU (cB (Tf 1) (Tv 0)) (0 : Int) ((Av 3).toInt - 1) ro_16)) sv_24 sv_25 sv_26 sv_27 := pf_29
  obtain ⟨ro_33, ero_33⟩ : ∃ z : Except Int (Nat × Nat), z = (rNX (cB (Tf 1) (Tv 0)) (rNU (cB (Tf 1) (Tv 0)) 0 ((Av 3).toInt - 1) ro_16)) := ⟨_, rfl⟩
  rw [← ero_33] at pf_29
  have tb_34 : TpB (rTE (cB (Tf 1) (Tv 0)) ro_33) sv_25 sv_27 := TpR.tb pf_29
  refine W.eq (g2 := F0 m 29 ls [.int r_30]) rfl ?_
  replace hP : va_P D classes [((Wa 0), .inr (0, [.ref (Aa 0)])), ((Aa 0), .inr (9, [.int (Av 0), .int (Av 1), .int (Av 2), .int (Av 3), .int (Av 4), .int (Av 5), .ref (Aa 1), .ref (Aa 2), .ref (Aa 3), .ref (Aa 4), .ref (Aa 5), .ref (Aa 6), .ref (Aa 7), .ref (Aa 8)])), ((Aa 1), .inl (tc 0, 10, .inl (Af 1))), ((Aa 2), .inl (tc 0, 10, .inl (Af 2))), ((Aa 3), .inl (tc 0, 6, .inl (Af 3))), ((Aa 4), .inl (tc 0, 6, .inl (Af 4))), ((Aa 5), .inl (tc 0, 6, .inl (Af 5))), ((Aa 6), .inl (tc 0, 6, .inl (Af 6))), ((Aa 7), .inl (tc 0, 6, .inl (Af 7))), ((Aa 8), .inl (tc 0, 6, .inl (Af 8))), ((Ta 0), .inr (10, [.ref (Ta 1), .int (Tv 0), .int sv_24, .int sv_25, .int sv_26, .int sv_27])), ((Ta 1), .inl (tc 0, 400, .inl (Tf 1)))] H := hP₀
  replace hD : va_D A [((Wa 0), .inr (0, [.ref (Aa 0)])), ((Aa 0), .inr (9, [.int (Av 0), .int (Av 1), .int (Av 2), .int (Av 3), .int (Av 4), .int (Av 5), .ref (Aa 1), .ref (Aa 2), .ref (Aa 3), .ref (Aa 4), .ref (Aa 5), .ref (Aa 6), .ref (Aa 7), .ref (Aa 8)])), ((Aa 1), .inl (tc 0, 10, .inl (Af 1))), ((Aa 2), .inl (tc 0, 10, .inl (Af 2))), ((Aa 3), .inl (tc 0, 6, .inl (Af 3))), ((Aa 4), .inl (tc 0, 6, .inl (Af 4))), ((Aa 5), .inl (tc 0, 6, .inl (Af 5))), ((Aa 6), .inl (tc 0, 6, .inl (Af 6))), ((Aa 7), .inl (tc 0, 6, .inl (Af 7))), ((Aa 8), .inl (tc 0, 6, .inl (Af 8))), ((Ta 0), .inr (10, [.ref (Ta 1), .int (Tv 0), .int sv_24, .int sv_25, .int sv_26, .int sv_27])), ((Ta 1), .inl (tc 0, 400, .inl (Tf 1)))] := hD₀
  replace hS := hS₀
  clear hP₀ hD₀ hS₀
  refine lv_istore_n (lv' := [(3, .int r_30), (2, .int r_13), (0, .ref (Wa 0)), (1, .ref (Ta 0))]) hx hb dX0_readWatch_29 rfl hl (by decide) rfl (fun ls hl₀ => ?_)
  replace hl := hl₀
  clear hl₀
  refine lv_aload_n hx hb dX0_readWatch_30 rfl (lv_at hl 2 rfl) ?_
  refine gf_X0_12 hx hb hts hown hK hP 0 rfl rfl dX0_readWatch_31 ?_
  refine lv_iload_n hx hb dX0_readWatch_34 rfl (lv_at hl 1 rfl) ?_
  refine cV (a := (Aa 0)) (As := [.int r_13]) (rest := []) (wr := [((Wa 0), .inr (0, [.ref (Aa 0)])), ((Ta 0), .inr (10, [.ref (Ta 1), .int (Tv 0), .int sv_24, .int sv_25, .int sv_26, .int sv_27])), ((Ta 1), .inl (tc 0, 400, .inl (Tf 1)))]) ⟨hx, hb, hml, hown, hts⟩ hK hX hA (cu_zX9_hasClock l D tc sk (Aa 0) (Aa 1) (Aa 2) (Aa 3) (Aa 4) (Aa 5) (Aa 6) (Aa 7) (Aa 8) (Av 0) (Av 1) (Av 2) (Av 3) (Av 4) (Av 5) (Af 1) (Af 2) (Af 3) (Af 4) (Af 5) (Af 6) (Af 7) (Af 8) r_13) k_579 k_576 k_577 k_578 k_98 pl_X9_hasClock ⟨Nat.le_of_ble_eq_true rfl, Nat.le_of_ble_eq_true rfl⟩ rfl rfl (va_recv hK hP (ci := 9) (q0 := 1) rfl rfl) hP hD hS [1, 2, 3, 4, 5, 6, 7, 8, 9] [0, 10, 11] rfl rfl rfl rfl rfl (by decide) rfl hl.1 rfl (Nat.le_of_ble_eq_true rfl) dX0_readWatch_35 ⟨Nat.le_of_ble_eq_true rfl, Nat.le_of_ble_eq_true rfl⟩ (fun v_35 u_36 H locs hv_37 hP₀ hD₀ hS₀ => ?_)
  obtain ⟨r_38, rfl, he_39⟩ := hv_37
  have he_39 : ((r_38.toInt = 0 ∧ ¬ (0 ≤ r_13.toInt ∧ r_13.toInt < (Av 2).toInt ∧ r_13.toInt < 10)) ∨ (r_38.toInt = 1 ∧ (0 ≤ r_13.toInt ∧ r_13.toInt < (Av 2).toInt ∧ r_13.toInt < 10))) := he_39
  refine W.eq (g2 := F0 m 38 ls [.int r_38]) rfl ?_
  replace hP : va_P D classes [((Wa 0), .inr (0, [.ref (Aa 0)])), ((Ta 0), .inr (10, [.ref (Ta 1), .int (Tv 0), .int sv_24, .int sv_25, .int sv_26, .int sv_27])), ((Ta 1), .inl (tc 0, 400, .inl (Tf 1))), ((Aa 0), .inr (9, [.int (Av 0), .int (Av 1), .int (Av 2), .int (Av 3), .int (Av 4), .int (Av 5), .ref (Aa 1), .ref (Aa 2), .ref (Aa 3), .ref (Aa 4), .ref (Aa 5), .ref (Aa 6), .ref (Aa 7), .ref (Aa 8)])), ((Aa 1), .inl (tc 0, 10, .inl (Af 1))), ((Aa 2), .inl (tc 0, 10, .inl (Af 2))), ((Aa 3), .inl (tc 0, 6, .inl (Af 3))), ((Aa 4), .inl (tc 0, 6, .inl (Af 4))), ((Aa 5), .inl (tc 0, 6, .inl (Af 5))), ((Aa 6), .inl (tc 0, 6, .inl (Af 6))), ((Aa 7), .inl (tc 0, 6, .inl (Af 7))), ((Aa 8), .inl (tc 0, 6, .inl (Af 8)))] H := hP₀
  replace hD : va_D A [((Wa 0), .inr (0, [.ref (Aa 0)])), ((Ta 0), .inr (10, [.ref (Ta 1), .int (Tv 0), .int sv_24, .int sv_25, .int sv_26, .int sv_27])), ((Ta 1), .inl (tc 0, 400, .inl (Tf 1))), ((Aa 0), .inr (9, [.int (Av 0), .int (Av 1), .int (Av 2), .int (Av 3), .int (Av 4), .int (Av 5), .ref (Aa 1), .ref (Aa 2), .ref (Aa 3), .ref (Aa 4), .ref (Aa 5), .ref (Aa 6), .ref (Aa 7), .ref (Aa 8)])), ((Aa 1), .inl (tc 0, 10, .inl (Af 1))), ((Aa 2), .inl (tc 0, 10, .inl (Af 2))), ((Aa 3), .inl (tc 0, 6, .inl (Af 3))), ((Aa 4), .inl (tc 0, 6, .inl (Af 4))), ((Aa 5), .inl (tc 0, 6, .inl (Af 5))), ((Aa 6), .inl (tc 0, 6, .inl (Af 6))), ((Aa 7), .inl (tc 0, 6, .inl (Af 7))), ((Aa 8), .inl (tc 0, 6, .inl (Af 8)))] := hD₀
  replace hS := hS₀
  clear hP₀ hD₀ hS₀
  refine lv_if_eq (tgt := 67) hx hb dX0_readWatch_38 (by decide) (fun c_41 => ?_) (fun c_41 => ?_)
  · skip
    have hu_42 : TpR (Tf 1) (Tv 0) (rNX (cB (Tf 1) (Tv 0)) (rNU (cB (Tf 1) (Tv 0)) 0 ((Av 3).toInt - 1) (rNX (cB (Tf 1) (Tv 0)) (rNU (cB (Tf 1) (Tv 0)) 0 ((Av 2) - 1 : Int32).toInt rr)))) sv_24 sv_25 sv_26 sv_27 := by
      rw [← ero_16, ← ero_33]
      exact pf_29
    have hf_43 : TpR (Tf 1) (Tv 0) (rN1 (cB (Tf 1) (Tv 0)) 0 ((Av 3).toInt - 1) (rN1 (cB (Tf 1) (Tv 0)) 0 ((Av 2) - 1 : Int32).toInt rr)) sv_24 sv_25 sv_26 sv_27 := hu_42
    have hv_44 : NuV (cB (Tf 1) (Tv 0)) 0 ((Av 2) - 1 : Int32).toInt rr r_13 := by
      have hq := he_14
      exact hq
    have hv_45 : NuV (cB (Tf 1) (Tv 0)) 0 ((Av 3).toInt - 1) (rN1 (cB (Tf 1) (Tv 0)) 0 ((Av 2) - 1 : Int32).toInt rr) r_30 := by
      have hq := he_31
      rw [ero_16] at hq
      exact hq
    have hr_47 : ¬ (0 ≤ (r_13 : Int32).toInt ∧ (r_13 : Int32).toInt < (Av 2).toInt ∧ (r_13 : Int32).toInt < 10 ∧ 0 ≤ (r_30 : Int32).toInt ∧ (r_30 : Int32).toInt < (Av 3).toInt ∧ (r_30 : Int32).toInt < 6) := by
      have z_1 := congrArg Int32.toInt c_41
      have y_0 : (0 : Int32).toInt = 0 := by decide
      omega
    have hs_46 : QsQ (qz_k3 (cB (Tf 1) (Tv 0)) C rr) (Av 0) (Av 1) (Av 2) (Av 3) (Av 4) (Av 5) (Af 1) (Af 2) (Af 3) (Af 4) (Af 5) (Af 6) (Af 7) (Af 8) := QsQ.n3 h_c hv_44 hv_45 h_bu hr_47
    exact retV hx hb hr hlk hP hD hS ((Af 2), sv_24, sv_25, sv_26, sv_27) ⟨rfl, pf_28, h_bu, hf_43, hs_46⟩ [0, 3, 4, 5, 6, 7, 8, 9, 10, 11, 1, 2] rfl rfl dX0_readWatch_67 (Nat.le_of_ble_eq_true rfl) (Nat.le_of_ble_eq_true rfl) rfl
  · skip
    refine lv_aload_n hx hb dX0_readWatch_41 rfl (lv_at hl 2 rfl) ?_
    refine gf_X0_12 hx hb hts hown hK hP 0 rfl rfl dX0_readWatch_42 ?_
    refine lv_iload_n hx hb dX0_readWatch_45 rfl (lv_at hl 0 rfl) ?_
    refine cV (a := (Aa 0)) (As := [.int r_30]) (rest := []) (wr := [((Wa 0), .inr (0, [.ref (Aa 0)])), ((Ta 0), .inr (10, [.ref (Ta 1), .int (Tv 0), .int sv_24, .int sv_25, .int sv_26, .int sv_27])), ((Ta 1), .inl (tc 0, 400, .inl (Tf 1)))]) ⟨hx, hb, hml, hown, hts⟩ hK hX hA (cu_zX9_hasBuyer l D tc sk (Aa 0) (Aa 1) (Aa 2) (Aa 3) (Aa 4) (Aa 5) (Aa 6) (Aa 7) (Aa 8) (Av 0) (Av 1) (Av 2) (Av 3) (Av 4) (Av 5) (Af 1) (Af 2) (Af 3) (Af 4) (Af 5) (Af 6) (Af 7) (Af 8) r_30) k_591 k_588 k_589 k_590 k_98 pl_X9_hasBuyer ⟨Nat.le_of_ble_eq_true rfl, Nat.le_of_ble_eq_true rfl⟩ rfl rfl (va_recv hK hP (ci := 9) (q0 := 3) rfl rfl) hP hD hS [3, 4, 5, 6, 7, 8, 9, 10, 11] [0, 1, 2] rfl rfl rfl rfl rfl (by decide) rfl hl.1 rfl (Nat.le_of_ble_eq_true rfl) dX0_readWatch_46 ⟨Nat.le_of_ble_eq_true rfl, Nat.le_of_ble_eq_true rfl⟩ (fun v_48 u_49 H locs hv_50 hP₀ hD₀ hS₀ => ?_)
    obtain ⟨r_51, rfl, he_52⟩ := hv_50
    have he_52 : ((r_51.toInt = 0 ∧ ¬ (0 ≤ r_30.toInt ∧ r_30.toInt < (Av 3).toInt ∧ r_30.toInt < 6)) ∨ (r_51.toInt = 1 ∧ (0 ≤ r_30.toInt ∧ r_30.toInt < (Av 3).toInt ∧ r_30.toInt < 6))) := he_52
    refine W.eq (g2 := F0 m 49 ls [.int r_51]) rfl ?_
    replace hP : va_P D classes [((Wa 0), .inr (0, [.ref (Aa 0)])), ((Ta 0), .inr (10, [.ref (Ta 1), .int (Tv 0), .int sv_24, .int sv_25, .int sv_26, .int sv_27])), ((Ta 1), .inl (tc 0, 400, .inl (Tf 1))), ((Aa 0), .inr (9, [.int (Av 0), .int (Av 1), .int (Av 2), .int (Av 3), .int (Av 4), .int (Av 5), .ref (Aa 1), .ref (Aa 2), .ref (Aa 3), .ref (Aa 4), .ref (Aa 5), .ref (Aa 6), .ref (Aa 7), .ref (Aa 8)])), ((Aa 1), .inl (tc 0, 10, .inl (Af 1))), ((Aa 2), .inl (tc 0, 10, .inl (Af 2))), ((Aa 3), .inl (tc 0, 6, .inl (Af 3))), ((Aa 4), .inl (tc 0, 6, .inl (Af 4))), ((Aa 5), .inl (tc 0, 6, .inl (Af 5))), ((Aa 6), .inl (tc 0, 6, .inl (Af 6))), ((Aa 7), .inl (tc 0, 6, .inl (Af 7))), ((Aa 8), .inl (tc 0, 6, .inl (Af 8)))] H := hP₀
    replace hD : va_D A [((Wa 0), .inr (0, [.ref (Aa 0)])), ((Ta 0), .inr (10, [.ref (Ta 1), .int (Tv 0), .int sv_24, .int sv_25, .int sv_26, .int sv_27])), ((Ta 1), .inl (tc 0, 400, .inl (Tf 1))), ((Aa 0), .inr (9, [.int (Av 0), .int (Av 1), .int (Av 2), .int (Av 3), .int (Av 4), .int (Av 5), .ref (Aa 1), .ref (Aa 2), .ref (Aa 3), .ref (Aa 4), .ref (Aa 5), .ref (Aa 6), .ref (Aa 7), .ref (Aa 8)])), ((Aa 1), .inl (tc 0, 10, .inl (Af 1))), ((Aa 2), .inl (tc 0, 10, .inl (Af 2))), ((Aa 3), .inl (tc 0, 6, .inl (Af 3))), ((Aa 4), .inl (tc 0, 6, .inl (Af 4))), ((Aa 5), .inl (tc 0, 6, .inl (Af 5))), ((Aa 6), .inl (tc 0, 6, .inl (Af 6))), ((Aa 7), .inl (tc 0, 6, .inl (Af 7))), ((Aa 8), .inl (tc 0, 6, .inl (Af 8)))] := hD₀
    replace hS := hS₀
    clear hP₀ hD₀ hS₀
    refine lv_if_eq (tgt := 67) hx hb dX0_readWatch_49 (by decide) (fun c_54 => ?_) (fun c_54 => ?_)
    · skip
      have hu_55 : TpR (Tf 1) (Tv 0) (rNX (cB (Tf 1) (Tv 0)) (rNU (cB (Tf 1) (Tv 0)) 0 ((Av 3).toInt - 1) (rNX (cB (Tf 1) (Tv 0)) (rNU (cB (Tf 1) (Tv 0)) 0 ((Av 2) - 1 : Int32).toInt rr)))) sv_24 sv_25 sv_26 sv_27 := by
        rw [← ero_16, ← ero_33]
        exact pf_29
      have hf_56 : TpR (Tf 1) (Tv 0) (rN1 (cB (Tf 1) (Tv 0)) 0 ((Av 3).toInt - 1) (rN1 (cB (Tf 1) (Tv 0)) 0 ((Av 2) - 1 : Int32).toInt rr)) sv_24 sv_25 sv_26 sv_27 := hu_55
      have hv_57 : NuV (cB (Tf 1) (Tv 0)) 0 ((Av 2) - 1 : Int32).toInt rr r_13 := by
        have hq := he_14
        exact hq
      have hv_58 : NuV (cB (Tf 1) (Tv 0)) 0 ((Av 3).toInt - 1) (rN1 (cB (Tf 1) (Tv 0)) 0 ((Av 2) - 1 : Int32).toInt rr) r_30 := by
        have hq := he_31
        rw [ero_16] at hq
        exact hq
      have hr_60 : ¬ (0 ≤ (r_13 : Int32).toInt ∧ (r_13 : Int32).toInt < (Av 2).toInt ∧ (r_13 : Int32).toInt < 10 ∧ 0 ≤ (r_30 : Int32).toInt ∧ (r_30 : Int32).toInt < (Av 3).toInt ∧ (r_30 : Int32).toInt < 6) := by
        have z_1 : ¬ (r_38 : Int32).toInt = (0 : Int32).toInt := fun z => c_41 (Int32.toInt_inj.mp z)
        have z_2 := congrArg Int32.toInt c_54
        have y_0 : (0 : Int32).toInt = 0 := by decide
        omega
      have hs_59 : QsQ (qz_k3 (cB (Tf 1) (Tv 0)) C rr) (Av 0) (Av 1) (Av 2) (Av 3) (Av 4) (Av 5) (Af 1) (Af 2) (Af 3) (Af 4) (Af 5) (Af 6) (Af 7) (Af 8) := QsQ.n3 h_c hv_57 hv_58 h_bu hr_60
      exact retV hx hb hr hlk hP hD hS ((Af 2), sv_24, sv_25, sv_26, sv_27) ⟨rfl, pf_28, h_bu, hf_56, hs_59⟩ [0, 3, 4, 5, 6, 7, 8, 9, 10, 11, 1, 2] rfl rfl dX0_readWatch_67 (Nat.le_of_ble_eq_true rfl) (Nat.le_of_ble_eq_true rfl) rfl
    · skip
      refine lv_aload_n hx hb dX0_readWatch_52 rfl (lv_at hl 2 rfl) ?_
      refine gf_X0_12 hx hb hts hown hK hP 0 rfl rfl dX0_readWatch_53 ?_
      refine gf_X0_103 hx hb hts hown hK hP 3 rfl rfl dX0_readWatch_56 ?_
      refine lv_iload_n hx hb dX0_readWatch_59 rfl (lv_at hl 1 rfl) ?_
      refine lv_dup2_11 hx hb dX0_readWatch_60 rfl rfl ?_
      have hi_61 : vp_in r_13 10 := by
        have z_1 : ¬ (r_38 : Int32).toInt = (0 : Int32).toInt := fun z => c_41 (Int32.toInt_inj.mp z)
        have z_2 : ¬ (r_51 : Int32).toInt = (0 : Int32).toInt := fun z => c_54 (Int32.toInt_inj.mp z)
        have y_0 : (0 : Int32).toInt = 0 := by decide
        refine vp_in_iff.mpr ⟨?_, ?_⟩ <;> omega
      refine va_iald hx hb hK hP 5 0 rfl rfl hi_61 dX0_readWatch_61 ?_
      refine lv_topi (fun x_62 ex_62 => ?_)
      refine lv_iconst (v := 1) hx hb dX0_readWatch_62 (by decide) ?_
      refine lv_iload_n hx hb dX0_readWatch_63 rfl (lv_at hl 0 rfl) ?_
      refine lv_ishl hx hb dX0_readWatch_64 ?_
      refine lv_topi (fun x_63 ex_63 => ?_)
      refine lv_ior hx hb dX0_readWatch_65 ?_
      refine lv_topi (fun x_64 ex_64 => ?_)
      have hi_65 : vp_in r_13 10 := by
        have z_1 : ¬ (r_38 : Int32).toInt = (0 : Int32).toInt := fun z => c_41 (Int32.toInt_inj.mp z)
        have z_2 : ¬ (r_51 : Int32).toInt = (0 : Int32).toInt := fun z => c_54 (Int32.toInt_inj.mp z)
        have y_0 : (0 : Int32).toInt = 0 := by decide
        refine vp_in_iff.mpr ⟨?_, ?_⟩ <;> omega
      refine st_int hx hb hK hP hD hS 5 0 rfl rfl hi_65 dX0_readWatch_66 (fun g_66 H locs eg_66 hP₀ hD₀ hS₀ => ?_)
      replace hP : va_P D classes [((Wa 0), .inr (0, [.ref (Aa 0)])), ((Ta 0), .inr (10, [.ref (Ta 1), .int (Tv 0), .int sv_24, .int sv_25, .int sv_26, .int sv_27])), ((Ta 1), .inl (tc 0, 400, .inl (Tf 1))), ((Aa 0), .inr (9, [.int (Av 0), .int (Av 1), .int (Av 2), .int (Av 3), .int (Av 4), .int (Av 5), .ref (Aa 1), .ref (Aa 2), .ref (Aa 3), .ref (Aa 4), .ref (Aa 5), .ref (Aa 6), .ref (Aa 7), .ref (Aa 8)])), ((Aa 1), .inl (tc 0, 10, .inl (Af 1))), ((Aa 2), .inl (tc 0, 10, .inl g_66)), ((Aa 3), .inl (tc 0, 6, .inl (Af 3))), ((Aa 4), .inl (tc 0, 6, .inl (Af 4))), ((Aa 5), .inl (tc 0, 6, .inl (Af 5))), ((Aa 6), .inl (tc 0, 6, .inl (Af 6))), ((Aa 7), .inl (tc 0, 6, .inl (Af 7))), ((Aa 8), .inl (tc 0, 6, .inl (Af 8)))] H := hP₀
      replace hD : va_D A [((Wa 0), .inr (0, [.ref (Aa 0)])), ((Ta 0), .inr (10, [.ref (Ta 1), .int (Tv 0), .int sv_24, .int sv_25, .int sv_26, .int sv_27])), ((Ta 1), .inl (tc 0, 400, .inl (Tf 1))), ((Aa 0), .inr (9, [.int (Av 0), .int (Av 1), .int (Av 2), .int (Av 3), .int (Av 4), .int (Av 5), .ref (Aa 1), .ref (Aa 2), .ref (Aa 3), .ref (Aa 4), .ref (Aa 5), .ref (Aa 6), .ref (Aa 7), .ref (Aa 8)])), ((Aa 1), .inl (tc 0, 10, .inl (Af 1))), ((Aa 2), .inl (tc 0, 10, .inl g_66)), ((Aa 3), .inl (tc 0, 6, .inl (Af 3))), ((Aa 4), .inl (tc 0, 6, .inl (Af 4))), ((Aa 5), .inl (tc 0, 6, .inl (Af 5))), ((Aa 6), .inl (tc 0, 6, .inl (Af 6))), ((Aa 7), .inl (tc 0, 6, .inl (Af 7))), ((Aa 8), .inl (tc 0, 6, .inl (Af 8)))] := hD₀
      replace hS := hS₀
      clear hP₀ hD₀ hS₀
      have hu_67 : TpR (Tf 1) (Tv 0) (rNX (cB (Tf 1) (Tv 0)) (rNU (cB (Tf 1) (Tv 0)) 0 ((Av 3).toInt - 1) (rNX (cB (Tf 1) (Tv 0)) (rNU (cB (Tf 1) (Tv 0)) 0 ((Av 2) - 1 : Int32).toInt rr)))) sv_24 sv_25 sv_26 sv_27 := by
        rw [← ero_16, ← ero_33]
        exact pf_29
      have hf_68 : TpR (Tf 1) (Tv 0) (rN1 (cB (Tf 1) (Tv 0)) 0 ((Av 3).toInt - 1) (rN1 (cB (Tf 1) (Tv 0)) 0 ((Av 2) - 1 : Int32).toInt rr)) sv_24 sv_25 sv_26 sv_27 := hu_67
      have hv_69 : NuV (cB (Tf 1) (Tv 0)) 0 ((Av 2) - 1 : Int32).toInt rr r_13 := by
        have hq := he_14
        exact hq
      have hv_70 : NuV (cB (Tf 1) (Tv 0)) 0 ((Av 3).toInt - 1) (rN1 (cB (Tf 1) (Tv 0)) 0 ((Av 2) - 1 : Int32).toInt rr) r_30 := by
        have hq := he_31
        rw [ero_16] at hq
        exact hq
      have he_72 : g_66 = upd (Af 2) (r_13 : Int32).toNatClampNeg ((Af 2) (r_13 : Int32).toNatClampNeg ||| ((1 : Int32) <<< ((r_30 : Int32) &&& 31))) := by rw [eg_66, ex_64, ex_62, ex_63]
      have hs_71 : QsQ (qz_k3 (cB (Tf 1) (Tv 0)) C rr) (Av 0) (Av 1) (Av 2) (Av 3) (Av 4) (Av 5) (Af 1) g_66 (Af 3) (Af 4) (Af 5) (Af 6) (Af 7) (Af 8) := QsQ.b3 h_c hv_69 hv_70 he_72
      exact retV hx hb hr hlk hP hD hS (g_66, sv_24, sv_25, sv_26, sv_27) ⟨rfl, pf_28, h_bu, hf_68, hs_71⟩ [0, 3, 4, 5, 6, 7, 8, 9, 10, 11, 1, 2] rfl rfl dX0_readWatch_67 (Nat.le_of_ble_eq_true rfl) (Nat.le_of_ble_eq_true rfl) rfl
set_option maxRecDepth 100000 in
theorem cu_zX0_readWatch (l : Launch) (D : va_G) (tc : Nat → ClassId) (sk : (Nat → Nat) × (Nat → Nat)) (Wa_0 : Nat) (Aa_0 : Nat) (Aa_1 : Nat) (Aa_2 : Nat) (Aa_3 : Nat) (Aa_4 : Nat) (Aa_5 : Nat) (Aa_6 : Nat) (Aa_7 : Nat) (Aa_8 : Nat) (Av_0 : Int32) (Av_1 : Int32) (Av_2 : Int32) (Av_3 : Int32) (Av_4 : Int32) (Av_5 : Int32) (Af_1 : Nat → Int32) (Af_2 : Nat → Int32) (Af_3 : Nat → Int32) (Af_4 : Nat → Int32) (Af_5 : Nat → Int32) (Af_6 : Nat → Int32) (Af_7 : Nat → Int32) (Af_8 : Nat → Int32) (Ta_0 : Nat) (Ta_1 : Nat) (Tv_0 : Int32) (Tv_1 : Int32) (Tv_2 : Int32) (Tv_3 : Int32) (Tv_4 : Int32) (Tf_1 : Nat → Int32) (rr : Except Int (Nat × Nat)) (C : Nat → Int) (h_tape : 0 ≤ (Tv_0 : Int32).toInt ∧ (Tv_0 : Int32).toInt ≤ 400 ∧ 0 ≤ (Tv_1 : Int32).toInt ∧ (Tv_1 : Int32).toInt ≤ 400 ∧ 0 ≤ (Tv_2 : Int32).toInt ∧ (Tv_2 : Int32).toInt ≤ 400) (h_by : Byt Tf_1) (h_r : TpR Tf_1 Tv_0 rr Tv_1 Tv_2 Tv_3 Tv_4) (h_bu : 0 ≤ (Av_3 : Int32).toInt ∧ (Av_3 : Int32).toInt ≤ 6) (h_c : QcI rr Av_0 Av_1 Av_2 Av_3 Av_4 Av_5 Af_1 Af_2 Af_3 Af_4 Af_5 Af_6 Af_7 Af_8 C) : Ct l yX0_readWatch cX0_readWatch 4 none { frames := 3, cells := 0, slots := 0, locals := 68 } D tc sk [.ref Wa_0, .ref Ta_0] [(Wa_0, .inr (0, [.ref Aa_0])), (Aa_0, .inr (9, [.int Av_0, .int Av_1, .int Av_2, .int Av_3, .int Av_4, .int Av_5, .ref Aa_1, .ref Aa_2, .ref Aa_3, .ref Aa_4, .ref Aa_5, .ref Aa_6, .ref Aa_7, .ref Aa_8])), (Aa_1, .inl (tc 0, 10, .inl Af_1)), (Aa_2, .inl (tc 0, 10, .inl Af_2)), (Aa_3, .inl (tc 0, 6, .inl Af_3)), (Aa_4, .inl (tc 0, 6, .inl Af_4)), (Aa_5, .inl (tc 0, 6, .inl Af_5)), (Aa_6, .inl (tc 0, 6, .inl Af_6)), (Aa_7, .inl (tc 0, 6, .inl Af_7)), (Aa_8, .inl (tc 0, 6, .inl Af_8)), (Ta_0, .inr (10, [.ref Ta_1, .int Tv_0, .int Tv_1, .int Tv_2, .int Tv_3, .int Tv_4])), (Ta_1, .inl (tc 0, 400, .inl Tf_1))] (fun (v : Option Value) (u : (Nat → Int32) × (Int32) × (Int32) × (Int32) × (Int32)) => match u with | (oo0x1, oo0x2, oo0x3, oo0x4, oo0x5) => v = none ∧ (0 ≤ (Tv_0 : Int32).toInt ∧ (Tv_0 : Int32).toInt ≤ 400 ∧ 0 ≤ (oo0x2 : Int32).toInt ∧ (oo0x2 : Int32).toInt ≤ 400 ∧ 0 ≤ (oo0x3 : Int32).toInt ∧ (oo0x3 : Int32).toInt ≤ 400) ∧ (0 ≤ (Av_3 : Int32).toInt ∧ (Av_3 : Int32).toInt ≤ 6) ∧ (TpR Tf_1 Tv_0 (rN1 (cB Tf_1 Tv_0) 0 (Av_3.toInt - 1) (rN1 (cB Tf_1 Tv_0) 0 (Av_2 - 1 : Int32).toInt rr)) oo0x2 oo0x3 oo0x4 oo0x5) ∧ (QsQ (qz_k3 (cB Tf_1 Tv_0) C rr) Av_0 Av_1 Av_2 Av_3 Av_4 Av_5 Af_1 oo0x1 Af_3 Af_4 Af_5 Af_6 Af_7 Af_8)) (fun (u : (Nat → Int32) × (Int32) × (Int32) × (Int32) × (Int32)) => match u with | (oo0x1, oo0x2, oo0x3, oo0x4, oo0x5) => [(Wa_0, .inr (0, [.ref Aa_0])), (Aa_0, .inr (9, [.int Av_0, .int Av_1, .int Av_2, .int Av_3, .int Av_4, .int Av_5, .ref Aa_1, .ref Aa_2, .ref Aa_3, .ref Aa_4, .ref Aa_5, .ref Aa_6, .ref Aa_7, .ref Aa_8])), (Aa_1, .inl (tc 0, 10, .inl Af_1)), (Aa_2, .inl (tc 0, 10, .inl oo0x1)), (Aa_3, .inl (tc 0, 6, .inl Af_3)), (Aa_4, .inl (tc 0, 6, .inl Af_4)), (Aa_5, .inl (tc 0, 6, .inl Af_5)), (Aa_6, .inl (tc 0, 6, .inl Af_6)), (Aa_7, .inl (tc 0, 6, .inl Af_7)), (Aa_8, .inl (tc 0, 6, .inl Af_8)), (Ta_0, .inr (10, [.ref Ta_1, .int Tv_0, .int oo0x2, .int oo0x3, .int oo0x4, .int oo0x5])), (Ta_1, .inl (tc 0, 400, .inl Tf_1))]) 0 0 :=
  ct_zX0_readWatch l D tc sk (fun k => ([Wa_0] : List (Nat)).getD k 0) (fun k => ([Aa_0, Aa_1, Aa_2, Aa_3, Aa_4, Aa_5, Aa_6, Aa_7, Aa_8] : List (Nat)).getD k 0) (fun k => ([Av_0, Av_1, Av_2, Av_3, Av_4, Av_5] : List (Int32)).getD k 0) (fun k => ([(fun _ => 0), Af_1, Af_2, Af_3, Af_4, Af_5, Af_6, Af_7, Af_8] : List (Nat → Int32)).getD k (fun _ => 0)) (fun k => ([Ta_0, Ta_1] : List (Nat)).getD k 0) (fun k => ([Tv_0, Tv_1, Tv_2, Tv_3, Tv_4] : List (Int32)).getD k 0) (fun k => ([(fun _ => 0), Tf_1] : List (Nat → Int32)).getD k (fun _ => 0)) rr C h_tape h_by h_r h_bu h_c
