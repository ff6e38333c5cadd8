set_option maxRecDepth 16384
theorem dX11_look_0 : decode cX11_look 0 = .ok (.aload_n 0, 1) := by decide +kernel
theorem dX11_look_1 : decode cX11_look 1 = .ok (.getfield 51, 3) := by decide +kernel
theorem dX11_look_4 : decode cX11_look 4 = .ok (.invokevirtual 176, 3) := by decide +kernel
theorem dX11_look_7 : decode cX11_look 7 = .ok (.ifCond .eq 12, 3) := by decide +kernel
theorem dX11_look_10 : decode cX11_look 10 = .ok (.iload_n 1, 1) := by decide +kernel
theorem dX11_look_11 : decode cX11_look 11 = .ok (.iconst 0, 1) := by decide +kernel
theorem dX11_look_12 : decode cX11_look 12 = .ok (.iconst 1, 1) := by decide +kernel
theorem dX11_look_13 : decode cX11_look 13 = .ok (.invokestatic 166, 3) := by decide +kernel
theorem dX11_look_16 : decode cX11_look 16 = .ok (.ifCond .ne 5, 3) := by decide +kernel
theorem dX11_look_19 : decode cX11_look 19 = .ok (.iconst (-1), 1) := by decide +kernel
theorem dX11_look_20 : decode cX11_look 20 = .ok (.ireturn, 1) := by decide +kernel
theorem dX11_look_21 : decode cX11_look 21 = .ok (.aload_n 0, 1) := by decide +kernel
theorem dX11_look_22 : decode cX11_look 22 = .ok (.getfield 82, 3) := by decide +kernel
theorem dX11_look_25 : decode cX11_look 25 = .ok (.aload_n 0, 1) := by decide +kernel
theorem dX11_look_26 : decode cX11_look 26 = .ok (.getfield 43, 3) := by decide +kernel
theorem dX11_look_29 : decode cX11_look 29 = .ok (.aload_n 0, 1) := by decide +kernel
theorem dX11_look_30 : decode cX11_look 30 = .ok (.getfield 32, 3) := by decide +kernel
theorem dX11_look_33 : decode cX11_look 33 = .ok (.aload_n 0, 1) := by decide +kernel
theorem dX11_look_34 : decode cX11_look 34 = .ok (.getfield 36, 3) := by decide +kernel
theorem dX11_look_37 : decode cX11_look 37 = .ok (.invokevirtual 258, 3) := by decide +kernel
theorem dX11_look_40 : decode cX11_look 40 = .ok (.aload_n 0, 1) := by decide +kernel
theorem dX11_look_41 : decode cX11_look 41 = .ok (.getfield 82, 3) := by decide +kernel
theorem dX11_look_44 : decode cX11_look 44 = .ok (.iload_n 1, 1) := by decide +kernel
theorem dX11_look_45 : decode cX11_look 45 = .ok (.invokevirtual 269, 3) := by decide +kernel
theorem dX11_look_48 : decode cX11_look 48 = .ok (.ireturn, 1) := by decide +kernel
theorem dX11_page_0 : decode cX11_page 0 = .ok (.aload_n 0, 1) := by decide +kernel
theorem dX11_page_1 : decode cX11_page 1 = .ok (.getfield 51, 3) := by decide +kernel
theorem dX11_page_4 : decode cX11_page 4 = .ok (.invokevirtual 176, 3) := by decide +kernel
theorem dX11_page_7 : decode cX11_page 7 = .ok (.ifCond .eq 22, 3) := by decide +kernel
theorem dX11_page_10 : decode cX11_page 10 = .ok (.iload_n 1, 1) := by decide +kernel
theorem dX11_page_11 : decode cX11_page 11 = .ok (.iconst 0, 1) := by decide +kernel
theorem dX11_page_12 : decode cX11_page 12 = .ok (.bipush 60, 2) := by decide +kernel
theorem dX11_page_14 : decode cX11_page 14 = .ok (.invokestatic 166, 3) := by decide +kernel
theorem dX11_page_17 : decode cX11_page 17 = .ok (.ifCond .eq 12, 3) := by decide +kernel
theorem dX11_page_20 : decode cX11_page 20 = .ok (.iload_n 2, 1) := by decide +kernel
theorem dX11_page_21 : decode cX11_page 21 = .ok (.iconst 0, 1) := by decide +kernel
theorem dX11_page_22 : decode cX11_page 22 = .ok (.iconst 2, 1) := by decide +kernel
theorem dX11_page_23 : decode cX11_page 23 = .ok (.invokestatic 166, 3) := by decide +kernel
theorem dX11_page_26 : decode cX11_page 26 = .ok (.ifCond .ne 5, 3) := by decide +kernel
theorem dX11_page_29 : decode cX11_page 29 = .ok (.iconst (-1), 1) := by decide +kernel
theorem dX11_page_30 : decode cX11_page 30 = .ok (.ireturn, 1) := by decide +kernel
theorem dX11_page_31 : decode cX11_page 31 = .ok (.aload_n 0, 1) := by decide +kernel
theorem dX11_page_32 : decode cX11_page 32 = .ok (.getfield 75, 3) := by decide +kernel
theorem dX11_page_35 : decode cX11_page 35 = .ok (.aload_n 0, 1) := by decide +kernel
theorem dX11_page_36 : decode cX11_page 36 = .ok (.getfield 51, 3) := by decide +kernel
theorem dX11_page_39 : decode cX11_page 39 = .ok (.iload_n 1, 1) := by decide +kernel
theorem dX11_page_40 : decode cX11_page 40 = .ok (.iload_n 2, 1) := by decide +kernel
theorem dX11_page_41 : decode cX11_page 41 = .ok (.invokevirtual 236, 3) := by decide +kernel
theorem dX11_page_44 : decode cX11_page 44 = .ok (.ireturn, 1) := by decide +kernel
theorem dX11_ruled_0 : decode cX11_ruled 0 = .ok (.aload_n 0, 1) := by decide +kernel
theorem dX11_ruled_1 : decode cX11_ruled 1 = .ok (.getfield 51, 3) := by decide +kernel
theorem dX11_ruled_4 : decode cX11_ruled 4 = .ok (.invokevirtual 176, 3) := by decide +kernel
theorem dX11_ruled_7 : decode cX11_ruled 7 = .ok (.ifCond .eq 12, 3) := by decide +kernel
theorem dX11_ruled_10 : decode cX11_ruled 10 = .ok (.iload_n 1, 1) := by decide +kernel
theorem dX11_ruled_11 : decode cX11_ruled 11 = .ok (.iconst 0, 1) := by decide +kernel
theorem dX11_ruled_12 : decode cX11_ruled 12 = .ok (.iconst 1, 1) := by decide +kernel
theorem dX11_ruled_13 : decode cX11_ruled 13 = .ok (.invokestatic 166, 3) := by decide +kernel
theorem dX11_ruled_16 : decode cX11_ruled 16 = .ok (.ifCond .ne 6, 3) := by decide +kernel
theorem dX11_ruled_19 : decode cX11_ruled 19 = .ok (.bipush (-3), 2) := by decide +kernel
theorem dX11_ruled_21 : decode cX11_ruled 21 = .ok (.ireturn, 1) := by decide +kernel
theorem dX11_ruled_22 : decode cX11_ruled 22 = .ok (.aload_n 0, 1) := by decide +kernel
theorem dX11_ruled_23 : decode cX11_ruled 23 = .ok (.getfield 82, 3) := by decide +kernel
theorem dX11_ruled_26 : decode cX11_ruled 26 = .ok (.aload_n 0, 1) := by decide +kernel
theorem dX11_ruled_27 : decode cX11_ruled 27 = .ok (.getfield 43, 3) := by decide +kernel
theorem dX11_ruled_30 : decode cX11_ruled 30 = .ok (.aload_n 0, 1) := by decide +kernel
theorem dX11_ruled_31 : decode cX11_ruled 31 = .ok (.getfield 32, 3) := by decide +kernel
theorem dX11_ruled_34 : decode cX11_ruled 34 = .ok (.aload_n 0, 1) := by decide +kernel
theorem dX11_ruled_35 : decode cX11_ruled 35 = .ok (.getfield 36, 3) := by decide +kernel
theorem dX11_ruled_38 : decode cX11_ruled 38 = .ok (.invokevirtual 258, 3) := by decide +kernel
theorem dX11_ruled_41 : decode cX11_ruled 41 = .ok (.iload_n 1, 1) := by decide +kernel
theorem dX11_ruled_42 : decode cX11_ruled 42 = .ok (.ifCond .ne 13, 3) := by decide +kernel
theorem dX11_ruled_45 : decode cX11_ruled 45 = .ok (.aload_n 0, 1) := by decide +kernel
theorem dX11_ruled_46 : decode cX11_ruled 46 = .ok (.getfield 82, 3) := by decide +kernel
theorem dX11_ruled_49 : decode cX11_ruled 49 = .ok (.getfield 262, 3) := by decide +kernel
theorem dX11_ruled_52 : decode cX11_ruled 52 = .ok (.goto 10, 3) := by decide +kernel
theorem dX11_ruled_55 : decode cX11_ruled 55 = .ok (.aload_n 0, 1) := by decide +kernel
theorem dX11_ruled_56 : decode cX11_ruled 56 = .ok (.getfield 82, 3) := by decide +kernel
theorem dX11_ruled_59 : decode cX11_ruled 59 = .ok (.invokevirtual 265, 3) := by decide +kernel
theorem dX11_ruled_62 : decode cX11_ruled 62 = .ok (.ireturn, 1) := by decide +kernel
set_option maxHeartbeats 4000000 in
set_option maxRecDepth 100000 in
theorem ct_X11_page (l : Launch) (D : va_G) (tc : Nat → ClassId) (sk : (Nat → Nat) × (Nat → Nat)) (Ga : Nat → Nat) (Gv : Nat → Int32) (Aa : Nat → Nat) (Av : Nat → Int32) (Af : Nat → Nat → Int32) (Ca : Nat → Nat) (Cf : Nat → Nat → Int32) (Ha : Nat → Nat) (Hv : Nat → Int32) (Hf : Nat → Nat → Int32) (x1 : Int32) (x2 : Int32) (h_bA : 0 ≤ ((Av 3) : Int32).toInt ∧ ((Av 3) : Int32).toInt ≤ 6) : Ct l yX11_page cX11_page 3 (some .int) { frames := 2, cells := 0, slots := 0, locals := 50 } D tc sk [.ref (Ga 0), .int x1, .int x2] [((Ga 0), .inr (11, [.ref (Ga 1), .ref (Ga 2), .ref (Ga 3), .ref (Ga 4), .int (Gv 0), .ref (Ga 5), .ref (Aa 0), .ref (Ga 7), .ref (Ga 8), .ref (Ga 9), .ref (Ca 0), .ref (Ga 11)])), ((Aa 0), .inr (9, [.int (Av 0), .int (Av 1), .int (Av 2), .int (Av 3), .int (Av 4), .int (Av 5), .ref (Aa 1), .ref (Aa 2), .ref (Aa 3), .ref (Aa 4), .ref (Aa 5), .ref (Aa 6), .ref (Aa 7), .ref (Aa 8)])), ((Aa 1), .inl (tc 0, 10, .inl (Af 1))), ((Aa 2), .inl (tc 0, 10, .inl (Af 2))), ((Aa 3), .inl (tc 0, 6, .inl (Af 3))), ((Aa 4), .inl (tc 0, 6, .inl (Af 4))), ((Aa 5), .inl (tc 0, 6, .inl (Af 5))), ((Aa 6), .inl (tc 0, 6, .inl (Af 6))), ((Aa 7), .inl (tc 0, 6, .inl (Af 7))), ((Aa 8), .inl (tc 0, 6, .inl (Af 8))), ((Ca 0), .inr (1, [.ref (Ha 0), .ref (Ca 2), .ref (Ca 3)])), ((Ca 2), .inl (tc 0, 25, .inl (Cf 2))), ((Ca 3), .inl (tc 0, 25, .inl (Cf 3))), ((Ha 0), .inr (9, [.int (Hv 0), .int (Hv 1), .int (Hv 2), .int (Hv 3), .int (Hv 4), .int (Hv 5), .ref (Ha 1), .ref (Ha 2), .ref (Ha 3), .ref (Ha 4), .ref (Ha 5), .ref (Ha 6), .ref (Ha 7), .ref (Ha 8)])), ((Ha 1), .inl (tc 0, 10, .inl (Hf 1))), ((Ha 2), .inl (tc 0, 10, .inl (Hf 2))), ((Ha 3), .inl (tc 0, 6, .inl (Hf 3))), ((Ha 4), .inl (tc 0, 6, .inl (Hf 4))), ((Ha 5), .inl (tc 0, 6, .inl (Hf 5))), ((Ha 6), .inl (tc 0, 6, .inl (Hf 6))), ((Ha 7), .inl (tc 0, 6, .inl (Hf 7))), ((Ha 8), .inl (tc 0, 6, .inl (Hf 8)))] (fun (v : Option Value) (_ : Unit) => ∃ r : Int32, v = some (.int r) ∧ (True)) (fun (_ : Unit) => [((Ga 0), .inr (11, [.ref (Ga 1), .ref (Ga 2), .ref (Ga 3), .ref (Ga 4), .int (Gv 0), .ref (Ga 5), .ref (Aa 0), .ref (Ga 7), .ref (Ga 8), .ref (Ga 9), .ref (Ca 0), .ref (Ga 11)])), ((Aa 0), .inr (9, [.int (Av 0), .int (Av 1), .int (Av 2), .int (Av 3), .int (Av 4), .int (Av 5), .ref (Aa 1), .ref (Aa 2), .ref (Aa 3), .ref (Aa 4), .ref (Aa 5), .ref (Aa 6), .ref (Aa 7), .ref (Aa 8)])), ((Aa 1), .inl (tc 0, 10, .inl (Af 1))), ((Aa 2), .inl (tc 0, 10, .inl (Af 2))), ((Aa 3), .inl (tc 0, 6, .inl (Af 3))), ((Aa 4), .inl (tc 0, 6, .inl (Af 4))), ((Aa 5), .inl (tc 0, 6, .inl (Af 5))), ((Aa 6), .inl (tc 0, 6, .inl (Af 6))), ((Aa 7), .inl (tc 0, 6, .inl (Af 7))), ((Aa 8), .inl (tc 0, 6, .inl (Af 8))), ((Ca 0), .inr (1, [.ref (Ha 0), .ref (Ca 2), .ref (Ca 3)])), ((Ca 2), .inl (tc 0, 25, .inl (Cf 2))), ((Ca 3), .inl (tc 0, 25, .inl (Cf 3))), ((Ha 0), .inr (9, [.int (Hv 0), .int (Hv 1), .int (Hv 2), .int (Hv 3), .int (Hv 4), .int (Hv 5), .ref (Ha 1), .ref (Ha 2), .ref (Ha 3), .ref (Ha 4), .ref (Ha 5), .ref (Ha 6), .ref (Ha 7), .ref (Ha 8)])), ((Ha 1), .inl (tc 0, 10, .inl (Hf 1))), ((Ha 2), .inl (tc 0, 10, .inl (Hf 2))), ((Ha 3), .inl (tc 0, 6, .inl (Hf 3))), ((Ha 4), .inl (tc 0, 6, .inl (Hf 4))), ((Ha 5), .inl (tc 0, 6, .inl (Hf 5))), ((Ha 6), .inl (tc 0, 6, .inl (Hf 6))), ((Ha 7), .inl (tc 0, 6, .inl (Hf 7))), ((Ha 8), .inl (tc 0, 6, .inl (Hf 8)))]) 0 0 := by
  refine Ct.start (by decide) (Nat.le_of_ble_eq_true rfl) (fun p e s m below meth c A ls hx hb hr hlk hin hml hown hts hK hX hP hD hA hl hS => ?_)
  have hl : lv_has ls 3 [(0, .ref (Ga 0)), (1, .int x1), (2, .int x2)] := hl
  refine lv_aload_n hx hb dX11_page_0 rfl (lv_at hl 0 rfl) ?_
  refine gf_X11_51 hx hb hts hown hK hP 0 rfl rfl dX11_page_1 ?_
  refine cV (a := (Aa 0)) (As := []) (rest := []) (wr := [((Ga 0), .inr (11, [.ref (Ga 1), .ref (Ga 2), .ref (Ga 3), .ref (Ga 4), .int (Gv 0), .ref (Ga 5), .ref (Aa 0), .ref (Ga 7), .ref (Ga 8), .ref (Ga 9), .ref (Ca 0), .ref (Ga 11)])), ((Ca 0), .inr (1, [.ref (Ha 0), .ref (Ca 2), .ref (Ca 3)])), ((Ca 2), .inl (tc 0, 25, .inl (Cf 2))), ((Ca 3), .inl (tc 0, 25, .inl (Cf 3))), ((Ha 0), .inr (9, [.int (Hv 0), .int (Hv 1), .int (Hv 2), .int (Hv 3), .int (Hv 4), .int (Hv 5), .ref (Ha 1), .ref (Ha 2), .ref (Ha 3), .ref (Ha 4), .ref (Ha 5), .ref (Ha 6), .ref (Ha 7), .ref (Ha 8)])), ((Ha 1), .inl (tc 0, 10, .inl (Hf 1))), ((Ha 2), .inl (tc 0, 10, .inl (Hf 2))), ((Ha 3), .inl (tc 0, 6, .inl (Hf 3))), ((Ha 4), .inl (tc 0, 6, .inl (Hf 4))), ((Ha 5), .inl (tc 0, 6, .inl (Hf 5))), ((Ha 6), .inl (tc 0, 6, .inl (Hf 6))), ((Ha 7), .inl (tc 0, 6, .inl (Hf 7))), ((Ha 8), .inl (tc 0, 6, .inl (Hf 8)))]) ⟨hx, hb, hml, hown, hts⟩ hK hX hA (cu_X9_isTold l D tc sk (Aa 0) (Aa 1) (Aa 2) (Aa 3) (Aa 4) (Aa 5) (Aa 6) (Aa 7) (Aa 8) (Av 0) (Av 1) (Av 2) (Av 3) (Av 4) (Av 5) (Af 1) (Af 2) (Af 3) (Af 4) (Af 5) (Af 6) (Af 7) (Af 8)) k_724 k_721 k_722 k_723 k_98 pl_X9_isTold ⟨Nat.le_of_ble_eq_true rfl, Nat.le_of_ble_eq_true rfl⟩ rfl rfl (va_recv hK hP (ci := 9) (q0 := 1) rfl rfl) hP hD hS [1, 2, 3, 4, 5, 6, 7, 8, 9] [0, 10, 11, 12, 13, 14, 15, 16, 17, 18, 19, 20, 21] rfl rfl rfl rfl rfl (by decide) rfl hl.1 rfl (Nat.le_of_ble_eq_true rfl) dX11_page_4 ⟨Nat.le_of_ble_eq_true rfl, Nat.le_of_ble_eq_true rfl⟩ (fun v_1 u_2 H locs hv_3 hP₀ hD₀ hS₀ => ?_)
  obtain ⟨r_4, rfl, he_5⟩ := hv_3
  have he_5 : ((r_4.toInt = 0 ∨ r_4.toInt = 1)) := he_5
  refine W.eq (g2 := F0 m 7 ls [.int r_4]) rfl ?_
  replace hP : va_P D classes [((Ga 0), .inr (11, [.ref (Ga 1), .ref (Ga 2), .ref (Ga 3), .ref (Ga 4), .int (Gv 0), .ref (Ga 5), .ref (Aa 0), .ref (Ga 7), .ref (Ga 8), .ref (Ga 9), .ref (Ca 0), .ref (Ga 11)])), ((Ca 0), .inr (1, [.ref (Ha 0), .ref (Ca 2), .ref (Ca 3)])), ((Ca 2), .inl (tc 0, 25, .inl (Cf 2))), ((Ca 3), .inl (tc 0, 25, .inl (Cf 3))), ((Ha 0), .inr (9, [.int (Hv 0), .int (Hv 1), .int (Hv 2), .int (Hv 3), .int (Hv 4), .int (Hv 5), .ref (Ha 1), .ref (Ha 2), .ref (Ha 3), .ref (Ha 4), .ref (Ha 5), .ref (Ha 6), .ref (Ha 7), .ref (Ha 8)])), ((Ha 1), .inl (tc 0, 10, .inl (Hf 1))), ((Ha 2), .inl (tc 0, 10, .inl (Hf 2))), ((Ha 3), .inl (tc 0, 6, .inl (Hf 3))), ((Ha 4), .inl (tc 0, 6, .inl (Hf 4))), ((Ha 5), .inl (tc 0, 6, .inl (Hf 5))), ((Ha 6), .inl (tc 0, 6, .inl (Hf 6))), ((Ha 7), .inl (tc 0, 6, .inl (Hf 7))), ((Ha 8), .inl (tc 0, 6, .inl (Hf 8))), ((Aa 0), .inr (9, [.int (Av 0), .int (Av 1), .int (Av 2), .int (Av 3), .int (Av 4), .int (Av 5), .ref (Aa 1), .ref (Aa 2), .ref (Aa 3), .ref (Aa 4), .ref (Aa 5), .ref (Aa 6), .ref (Aa 7), .ref (Aa 8)])), ((Aa 1), .inl (tc 0, 10, .inl (Af 1))), ((Aa 2), .inl (tc 0, 10, .inl (Af 2))), ((Aa 3), .inl (tc 0, 6, .inl (Af 3))), ((Aa 4), .inl (tc 0, 6, .inl (Af 4))), ((Aa 5), .inl (tc 0, 6, .inl (Af 5))), ((Aa 6), .inl (tc 0, 6, .inl (Af 6))), ((Aa 7), .inl (tc 0, 6, .inl (Af 7))), ((Aa 8), .inl (tc 0, 6, .inl (Af 8)))] H := hP₀
  replace hD : va_D A [((Ga 0), .inr (11, [.ref (Ga 1), .ref (Ga 2), .ref (Ga 3), .ref (Ga 4), .int (Gv 0), .ref (Ga 5), .ref (Aa 0), .ref (Ga 7), .ref (Ga 8), .ref (Ga 9), .ref (Ca 0), .ref (Ga 11)])), ((Ca 0), .inr (1, [.ref (Ha 0), .ref (Ca 2), .ref (Ca 3)])), ((Ca 2), .inl (tc 0, 25, .inl (Cf 2))), ((Ca 3), .inl (tc 0, 25, .inl (Cf 3))), ((Ha 0), .inr (9, [.int (Hv 0), .int (Hv 1), .int (Hv 2), .int (Hv 3), .int (Hv 4), .int (Hv 5), .ref (Ha 1), .ref (Ha 2), .ref (Ha 3), .ref (Ha 4), .ref (Ha 5), .ref (Ha 6), .ref (Ha 7), .ref (Ha 8)])), ((Ha 1), .inl (tc 0, 10, .inl (Hf 1))), ((Ha 2), .inl (tc 0, 10, .inl (Hf 2))), ((Ha 3), .inl (tc 0, 6, .inl (Hf 3))), ((Ha 4), .inl (tc 0, 6, .inl (Hf 4))), ((Ha 5), .inl (tc 0, 6, .inl (Hf 5))), ((Ha 6), .inl (tc 0, 6, .inl (Hf 6))), ((Ha 7), .inl (tc 0, 6, .inl (Hf 7))), ((Ha 8), .inl (tc 0, 6, .inl (Hf 8))), ((Aa 0), .inr (9, [.int (Av 0), .int (Av 1), .int (Av 2), .int (Av 3), .int (Av 4), .int (Av 5), .ref (Aa 1), .ref (Aa 2), .ref (Aa 3), .ref (Aa 4), .ref (Aa 5), .ref (Aa 6), .ref (Aa 7), .ref (Aa 8)])), ((Aa 1), .inl (tc 0, 10, .inl (Af 1))), ((Aa 2), .inl (tc 0, 10, .inl (Af 2))), ((Aa 3), .inl (tc 0, 6, .inl (Af 3))), ((Aa 4), .inl (tc 0, 6, .inl (Af 4))), ((Aa 5), .inl (tc 0, 6, .inl (Af 5))), ((Aa 6), .inl (tc 0, 6, .inl (Af 6))), ((Aa 7), .inl (tc 0, 6, .inl (Af 7))), ((Aa 8), .inl (tc 0, 6, .inl (Af 8)))] := hD₀
  replace hS := hS₀
  clear hP₀ hD₀ hS₀
  refine lv_if_eq (tgt := 29) hx hb dX11_page_7 (by decide) (fun c_6 => ?_) (fun c_6 => ?_)
  · skip
    refine lv_iconst (v := (-1)) hx hb dX11_page_29 (by decide) ?_
    exact retI (v := (-1)) hx hb hr hlk (rfl) hP hD hS () ⟨_, rfl, trivial⟩ [0, 13, 14, 15, 16, 17, 18, 19, 20, 21, 1, 2, 3, 4, 5, 6, 7, 8, 9, 10, 11, 12] rfl rfl dX11_page_30 (Nat.le_of_ble_eq_true rfl) (Nat.le_of_ble_eq_true rfl) rfl
  · skip
    refine lv_iload_n hx hb dX11_page_10 rfl (lv_at hl 1 rfl) ?_
    refine lv_iconst (v := 0) hx hb dX11_page_11 (by decide) ?_
    refine lv_bipush (v := 60) hx hb dX11_page_12 (by decide) ?_
    refine cS (As := [.int x1, .int 0, .int 60]) (rest := []) (wr := [((Ga 0), .inr (11, [.ref (Ga 1), .ref (Ga 2), .ref (Ga 3), .ref (Ga 4), .int (Gv 0), .ref (Ga 5), .ref (Aa 0), .ref (Ga 7), .ref (Ga 8), .ref (Ga 9), .ref (Ca 0), .ref (Ga 11)])), ((Ca 0), .inr (1, [.ref (Ha 0), .ref (Ca 2), .ref (Ca 3)])), ((Ca 2), .inl (tc 0, 25, .inl (Cf 2))), ((Ca 3), .inl (tc 0, 25, .inl (Cf 3))), ((Ha 0), .inr (9, [.int (Hv 0), .int (Hv 1), .int (Hv 2), .int (Hv 3), .int (Hv 4), .int (Hv 5), .ref (Ha 1), .ref (Ha 2), .ref (Ha 3), .ref (Ha 4), .ref (Ha 5), .ref (Ha 6), .ref (Ha 7), .ref (Ha 8)])), ((Ha 1), .inl (tc 0, 10, .inl (Hf 1))), ((Ha 2), .inl (tc 0, 10, .inl (Hf 2))), ((Ha 3), .inl (tc 0, 6, .inl (Hf 3))), ((Ha 4), .inl (tc 0, 6, .inl (Hf 4))), ((Ha 5), .inl (tc 0, 6, .inl (Hf 5))), ((Ha 6), .inl (tc 0, 6, .inl (Hf 6))), ((Ha 7), .inl (tc 0, 6, .inl (Hf 7))), ((Ha 8), .inl (tc 0, 6, .inl (Hf 8))), ((Aa 0), .inr (9, [.int (Av 0), .int (Av 1), .int (Av 2), .int (Av 3), .int (Av 4), .int (Av 5), .ref (Aa 1), .ref (Aa 2), .ref (Aa 3), .ref (Aa 4), .ref (Aa 5), .ref (Aa 6), .ref (Aa 7), .ref (Aa 8)])), ((Aa 1), .inl (tc 0, 10, .inl (Af 1))), ((Aa 2), .inl (tc 0, 10, .inl (Af 2))), ((Aa 3), .inl (tc 0, 6, .inl (Af 3))), ((Aa 4), .inl (tc 0, 6, .inl (Af 4))), ((Aa 5), .inl (tc 0, 6, .inl (Af 5))), ((Aa 6), .inl (tc 0, 6, .inl (Af 6))), ((Aa 7), .inl (tc 0, 6, .inl (Af 7))), ((Aa 8), .inl (tc 0, 6, .inl (Af 8)))]) ⟨hx, hb, hml, hown, hts⟩ hK hX hA (ct_X11_isWithin l D tc sk x1 0 60) k_716 k_714 k_715 k_95 pl_X11_isWithin ⟨Nat.le_of_ble_eq_true rfl, Nat.le_of_ble_eq_true rfl⟩ rfl rfl  hP hD hS [] [0, 1, 2, 3, 4, 5, 6, 7, 8, 9, 10, 11, 12, 13, 14, 15, 16, 17, 18, 19, 20, 21] rfl rfl rfl rfl rfl (by decide) rfl hl.1 rfl (Nat.le_of_ble_eq_true rfl) dX11_page_14 ⟨Nat.le_of_ble_eq_true rfl, Nat.le_of_ble_eq_true rfl⟩ (fun v_7 u_8 H locs hv_9 hP₀ hD₀ hS₀ => ?_)
    obtain ⟨r_10, rfl, he_11⟩ := hv_9
    have he_11 : (r_10.toInt = 0 ∨ (r_10.toInt = 1 ∧ (0 : Int32).toInt ≤ x1.toInt ∧ x1.toInt ≤ (60 : Int32).toInt)) := he_11
    refine W.eq (g2 := F0 m 17 ls [.int r_10]) rfl ?_
    replace hP : va_P D classes [((Ga 0), .inr (11, [.ref (Ga 1), .ref (Ga 2), .ref (Ga 3), .ref (Ga 4), .int (Gv 0), .ref (Ga 5), .ref (Aa 0), .ref (Ga 7), .ref (Ga 8), .ref (Ga 9), .ref (Ca 0), .ref (Ga 11)])), ((Ca 0), .inr (1, [.ref (Ha 0), .ref (Ca 2), .ref (Ca 3)])), ((Ca 2), .inl (tc 0, 25, .inl (Cf 2))), ((Ca 3), .inl (tc 0, 25, .inl (Cf 3))), ((Ha 0), .inr (9, [.int (Hv 0), .int (Hv 1), .int (Hv 2), .int (Hv 3), .int (Hv 4), .int (Hv 5), .ref (Ha 1), .ref (Ha 2), .ref (Ha 3), .ref (Ha 4), .ref (Ha 5), .ref (Ha 6), .ref (Ha 7), .ref (Ha 8)])), ((Ha 1), .inl (tc 0, 10, .inl (Hf 1))), ((Ha 2), .inl (tc 0, 10, .inl (Hf 2))), ((Ha 3), .inl (tc 0, 6, .inl (Hf 3))), ((Ha 4), .inl (tc 0, 6, .inl (Hf 4))), ((Ha 5), .inl (tc 0, 6, .inl (Hf 5))), ((Ha 6), .inl (tc 0, 6, .inl (Hf 6))), ((Ha 7), .inl (tc 0, 6, .inl (Hf 7))), ((Ha 8), .inl (tc 0, 6, .inl (Hf 8))), ((Aa 0), .inr (9, [.int (Av 0), .int (Av 1), .int (Av 2), .int (Av 3), .int (Av 4), .int (Av 5), .ref (Aa 1), .ref (Aa 2), .ref (Aa 3), .ref (Aa 4), .ref (Aa 5), .ref (Aa 6), .ref (Aa 7), .ref (Aa 8)])), ((Aa 1), .inl (tc 0, 10, .inl (Af 1))), ((Aa 2), .inl (tc 0, 10, .inl (Af 2))), ((Aa 3), .inl (tc 0, 6, .inl (Af 3))), ((Aa 4), .inl (tc 0, 6, .inl (Af 4))), ((Aa 5), .inl (tc 0, 6, .inl (Af 5))), ((Aa 6), .inl (tc 0, 6, .inl (Af 6))), ((Aa 7), .inl (tc 0, 6, .inl (Af 7))), ((Aa 8), .inl (tc 0, 6, .inl (Af 8)))] H := hP₀
    replace hD : va_D A [((Ga 0), .inr (11, [.ref (Ga 1), .ref (Ga 2), .ref (Ga 3), .ref (Ga 4), .int (Gv 0), .ref (Ga 5), .ref (Aa 0), .ref (Ga 7), .ref (Ga 8), .ref (Ga 9), .ref (Ca 0), .ref (Ga 11)])), ((Ca 0), .inr (1, [.ref (Ha 0), .ref (Ca 2), .ref (Ca 3)])), ((Ca 2), .inl (tc 0, 25, .inl (Cf 2))), ((Ca 3), .inl (tc 0, 25, .inl (Cf 3))), ((Ha 0), .inr (9, [.int (Hv 0), .int (Hv 1), .int (Hv 2), .int (Hv 3), .int (Hv 4), .int (Hv 5), .ref (Ha 1), .ref (Ha 2), .ref (Ha 3), .ref (Ha 4), .ref (Ha 5), .ref (Ha 6), .ref (Ha 7), .ref (Ha 8)])), ((Ha 1), .inl (tc 0, 10, .inl (Hf 1))), ((Ha 2), .inl (tc 0, 10, .inl (Hf 2))), ((Ha 3), .inl (tc 0, 6, .inl (Hf 3))), ((Ha 4), .inl (tc 0, 6, .inl (Hf 4))), ((Ha 5), .inl (tc 0, 6, .inl (Hf 5))), ((Ha 6), .inl (tc 0, 6, .inl (Hf 6))), ((Ha 7), .inl (tc 0, 6, .inl (Hf 7))), ((Ha 8), .inl (tc 0, 6, .inl (Hf 8))), ((Aa 0), .inr (9, [.int (Av 0), .int (Av 1), .int (Av 2), .int (Av 3), .int (Av 4), .int (Av 5), .ref (Aa 1), .ref (Aa 2), .ref (Aa 3), .ref (Aa 4), .ref (Aa 5), .ref (Aa 6), .ref (Aa 7), .ref (Aa 8)])), ((Aa 1), .inl (tc 0, 10, .inl (Af 1))), ((Aa 2), .inl (tc 0, 10, .inl (Af 2))), ((Aa 3), .inl (tc 0, 6, .inl (Af 3))), ((Aa 4), .inl (tc 0, 6, .inl (Af 4))), ((Aa 5), .inl (tc 0, 6, .inl (Af 5))), ((Aa 6), .inl (tc 0, 6, .inl (Af 6))), ((Aa 7), .inl (tc 0, 6, .inl (Af 7))), ((Aa 8), .inl (tc 0, 6, .inl (Af 8)))] := hD₀
    replace hS := hS₀
    clear hP₀ hD₀ hS₀
    refine lv_if_eq (tgt := 29) hx hb dX11_page_17 (by decide) (fun c_13 => ?_) (fun c_13 => ?_)
    · skip
      refine lv_iconst (v := (-1)) hx hb dX11_page_29 (by decide) ?_
      exact retI (v := (-1)) hx hb hr hlk (rfl) hP hD hS () ⟨_, rfl, trivial⟩ [0, 13, 14, 15, 16, 17, 18, 19, 20, 21, 1, 2, 3, 4, 5, 6, 7, 8, 9, 10, 11, 12] rfl rfl dX11_page_30 (Nat.le_of_ble_eq_true rfl) (Nat.le_of_ble_eq_true rfl) rfl
    · skip
      refine lv_iload_n hx hb dX11_page_20 rfl (lv_at hl 2 rfl) ?_
      refine lv_iconst (v := 0) hx hb dX11_page_21 (by decide) ?_
      refine lv_iconst (v := 2) hx hb dX11_page_22 (by decide) ?_
      refine cS (As := [.int x2, .int 0, .int 2]) (rest := []) (wr := [((Ga 0), .inr (11, [.ref (Ga 1), .ref (Ga 2), .ref (Ga 3), .ref (Ga 4), .int (Gv 0), .ref (Ga 5), .ref (Aa 0), .ref (Ga 7), .ref (Ga 8), .ref (Ga 9), .ref (Ca 0), .ref (Ga 11)])), ((Ca 0), .inr (1, [.ref (Ha 0), .ref (Ca 2), .ref (Ca 3)])), ((Ca 2), .inl (tc 0, 25, .inl (Cf 2))), ((Ca 3), .inl (tc 0, 25, .inl (Cf 3))), ((Ha 0), .inr (9, [.int (Hv 0), .int (Hv 1), .int (Hv 2), .int (Hv 3), .int (Hv 4), .int (Hv 5), .ref (Ha 1), .ref (Ha 2), .ref (Ha 3), .ref (Ha 4), .ref (Ha 5), .ref (Ha 6), .ref (Ha 7), .ref (Ha 8)])), ((Ha 1), .inl (tc 0, 10, .inl (Hf 1))), ((Ha 2), .inl (tc 0, 10, .inl (Hf 2))), ((Ha 3), .inl (tc 0, 6, .inl (Hf 3))), ((Ha 4), .inl (tc 0, 6, .inl (Hf 4))), ((Ha 5), .inl (tc 0, 6, .inl (Hf 5))), ((Ha 6), .inl (tc 0, 6, .inl (Hf 6))), ((Ha 7), .inl (tc 0, 6, .inl (Hf 7))), ((Ha 8), .inl (tc 0, 6, .inl (Hf 8))), ((Aa 0), .inr (9, [.int (Av 0), .int (Av 1), .int (Av 2), .int (Av 3), .int (Av 4), .int (Av 5), .ref (Aa 1), .ref (Aa 2), .ref (Aa 3), .ref (Aa 4), .ref (Aa 5), .ref (Aa 6), .ref (Aa 7), .ref (Aa 8)])), ((Aa 1), .inl (tc 0, 10, .inl (Af 1))), ((Aa 2), .inl (tc 0, 10, .inl (Af 2))), ((Aa 3), .inl (tc 0, 6, .inl (Af 3))), ((Aa 4), .inl (tc 0, 6, .inl (Af 4))), ((Aa 5), .inl (tc 0, 6, .inl (Af 5))), ((Aa 6), .inl (tc 0, 6, .inl (Af 6))), ((Aa 7), .inl (tc 0, 6, .inl (Af 7))), ((Aa 8), .inl (tc 0, 6, .inl (Af 8)))]) ⟨hx, hb, hml, hown, hts⟩ hK hX hA (ct_X11_isWithin l D tc sk x2 0 2) k_716 k_714 k_715 k_95 pl_X11_isWithin ⟨Nat.le_of_ble_eq_true rfl, Nat.le_of_ble_eq_true rfl⟩ rfl rfl  hP hD hS [] [0, 1, 2, 3, 4, 5, 6, 7, 8, 9, 10, 11, 12, 13, 14, 15, 16, 17, 18, 19, 20, 21] rfl rfl rfl rfl rfl (by decide) rfl hl.1 rfl (Nat.le_of_ble_eq_true rfl) dX11_page_23 ⟨Nat.le_of_ble_eq_true rfl, Nat.le_of_ble_eq_true rfl⟩ (fun v_14 u_15 H locs hv_16 hP₀ hD₀ hS₀ => ?_)
      obtain ⟨r_17, rfl, he_18⟩ := hv_16
      have he_18 : (r_17.toInt = 0 ∨ (r_17.toInt = 1 ∧ (0 : Int32).toInt ≤ x2.toInt ∧ x2.toInt ≤ (2 : Int32).toInt)) := he_18
      refine W.eq (g2 := F0 m 26 ls [.int r_17]) rfl ?_
      replace hP : va_P D classes [((Ga 0), .inr (11, [.ref (Ga 1), .ref (Ga 2), .ref (Ga 3), .ref (Ga 4), .int (Gv 0), .ref (Ga 5), .ref (Aa 0), .ref (Ga 7), .ref (Ga 8), .ref (Ga 9), .ref (Ca 0), .ref (Ga 11)])), ((Ca 0), .inr (1, [.ref (Ha 0), .ref (Ca 2), .ref (Ca 3)])), ((Ca 2), .inl (tc 0, 25, .inl (Cf 2))), ((Ca 3), .inl (tc 0, 25, .inl (Cf 3))), ((Ha 0), .inr (9, [.int (Hv 0), .int (Hv 1), .int (Hv 2), .int (Hv 3), .int (Hv 4), .int (Hv 5), .ref (Ha 1), .ref (Ha 2), .ref (Ha 3), .ref (Ha 4), .ref (Ha 5), .ref (Ha 6), .ref (Ha 7), .ref (Ha 8)])), ((Ha 1), .inl (tc 0, 10, .inl (Hf 1))), ((Ha 2), .inl (tc 0, 10, .inl (Hf 2))), ((Ha 3), .inl (tc 0, 6, .inl (Hf 3))), ((Ha 4), .inl (tc 0, 6, .inl (Hf 4))), ((Ha 5), .inl (tc 0, 6, .inl (Hf 5))), ((Ha 6), .inl (tc 0, 6, .inl (Hf 6))), ((Ha 7), .inl (tc 0, 6, .inl (Hf 7))), ((Ha 8), .inl (tc 0, 6, .inl (Hf 8))), ((Aa 0), .inr (9, [.int (Av 0), .int (Av 1), .int (Av 2), .int (Av 3), .int (Av 4), .int (Av 5), .ref (Aa 1), .ref (Aa 2), .ref (Aa 3), .ref (Aa 4), .ref (Aa 5), .ref (Aa 6), .ref (Aa 7), .ref (Aa 8)])), ((Aa 1), .inl (tc 0, 10, .inl (Af 1))), ((Aa 2), .inl (tc 0, 10, .inl (Af 2))), ((Aa 3), .inl (tc 0, 6, .inl (Af 3))), ((Aa 4), .inl (tc 0, 6, .inl (Af 4))), ((Aa 5), .inl (tc 0, 6, .inl (Af 5))), ((Aa 6), .inl (tc 0, 6, .inl (Af 6))), ((Aa 7), .inl (tc 0, 6, .inl (Af 7))), ((Aa 8), .inl (tc 0, 6, .inl (Af 8)))] H := hP₀
      replace hD : va_D A [((Ga 0), .inr (11, [.ref (Ga 1), .ref (Ga 2), .ref (Ga 3), .ref (Ga 4), .int (Gv 0), .ref (Ga 5), .ref (Aa 0), .ref (Ga 7), .ref (Ga 8), .ref (Ga 9), .ref (Ca 0), .ref (Ga 11)])), ((Ca 0), .inr (1, [.ref (Ha 0), .ref (Ca 2), .ref (Ca 3)])), ((Ca 2), .inl (tc 0, 25, .inl (Cf 2))), ((Ca 3), .inl (tc 0, 25, .inl (Cf 3))), ((Ha 0), .inr (9, [.int (Hv 0), .int (Hv 1), .int (Hv 2), .int (Hv 3), .int (Hv 4), .int (Hv 5), .ref (Ha 1), .ref (Ha 2), .ref (Ha 3), .ref (Ha 4), .ref (Ha 5), .ref (Ha 6), .ref (Ha 7), .ref (Ha 8)])), ((Ha 1), .inl (tc 0, 10, .inl (Hf 1))), ((Ha 2), .inl (tc 0, 10, .inl (Hf 2))), ((Ha 3), .inl (tc 0, 6, .inl (Hf 3))), ((Ha 4), .inl (tc 0, 6, .inl (Hf 4))), ((Ha 5), .inl (tc 0, 6, .inl (Hf 5))), ((Ha 6), .inl (tc 0, 6, .inl (Hf 6))), ((Ha 7), .inl (tc 0, 6, .inl (Hf 7))), ((Ha 8), .inl (tc 0, 6, .inl (Hf 8))), ((Aa 0), .inr (9, [.int (Av 0), .int (Av 1), .int (Av 2), .int (Av 3), .int (Av 4), .int (Av 5), .ref (Aa 1), .ref (Aa 2), .ref (Aa 3), .ref (Aa 4), .ref (Aa 5), .ref (Aa 6), .ref (Aa 7), .ref (Aa 8)])), ((Aa 1), .inl (tc 0, 10, .inl (Af 1))), ((Aa 2), .inl (tc 0, 10, .inl (Af 2))), ((Aa 3), .inl (tc 0, 6, .inl (Af 3))), ((Aa 4), .inl (tc 0, 6, .inl (Af 4))), ((Aa 5), .inl (tc 0, 6, .inl (Af 5))), ((Aa 6), .inl (tc 0, 6, .inl (Af 6))), ((Aa 7), .inl (tc 0, 6, .inl (Af 7))), ((Aa 8), .inl (tc 0, 6, .inl (Af 8)))] := hD₀
      replace hS := hS₀
      clear hP₀ hD₀ hS₀
      refine lv_if_ne (tgt := 31) hx hb dX11_page_26 (by decide) (fun c_20 => ?_) (fun c_20 => ?_)
      · skip
        refine lv_aload_n hx hb dX11_page_31 rfl (lv_at hl 0 rfl) ?_
        refine gf_X11_75 hx hb hts hown hK hP 0 rfl rfl dX11_page_32 ?_
        refine lv_aload_n hx hb dX11_page_35 rfl (lv_at hl 0 rfl) ?_
        refine gf_X11_51 hx hb hts hown hK hP 0 rfl rfl dX11_page_36 ?_
        refine lv_iload_n hx hb dX11_page_39 rfl (lv_at hl 1 rfl) ?_
        refine lv_iload_n hx hb dX11_page_40 rfl (lv_at hl 2 rfl) ?_
        have ha_21 : 0 ≤ (Av 3).toInt ∧ (Av 3).toInt ≤ 6 := by
          have z_1 : ¬ (r_4 : Int32).toInt = (0 : Int32).toInt := fun z => c_6 (Int32.toInt_inj.mp z)
          have z_2 : ¬ (r_10 : Int32).toInt = (0 : Int32).toInt := fun z => c_13 (Int32.toInt_inj.mp z)
          have z_3 : ¬ (r_17 : Int32).toInt = (0 : Int32).toInt := fun z => c_20 (Int32.toInt_inj.mp z)
          have y_0 : (0 : Int32).toInt = 0 := by decide
          omega
        refine cV (a := (Ca 0)) (As := [.ref (Aa 0), .int x1, .int x2]) (rest := []) (wr := [((Ga 0), .inr (11, [.ref (Ga 1), .ref (Ga 2), .ref (Ga 3), .ref (Ga 4), .int (Gv 0), .ref (Ga 5), .ref (Aa 0), .ref (Ga 7), .ref (Ga 8), .ref (Ga 9), .ref (Ca 0), .ref (Ga 11)]))]) ⟨hx, hb, hml, hown, hts⟩ hK hX hA (cu_X1_setsOf l D tc sk (Ca 0) (Ca 2) (Ca 3) (Cf 2) (Cf 3) (Ha 0) (Ha 1) (Ha 2) (Ha 3) (Ha 4) (Ha 5) (Ha 6) (Ha 7) (Ha 8) (Hv 0) (Hv 1) (Hv 2) (Hv 3) (Hv 4) (Hv 5) (Hf 1) (Hf 2) (Hf 3) (Hf 4) (Hf 5) (Hf 6) (Hf 7) (Hf 8) (Aa 0) (Aa 1) (Aa 2) (Aa 3) (Aa 4) (Aa 5) (Aa 6) (Aa 7) (Aa 8) (Av 0) (Av 1) (Av 2) (Av 3) (Av 4) (Av 5) (Af 1) (Af 2) (Af 3) (Af 4) (Af 5) (Af 6) (Af 7) (Af 8) x1 x2 ha_21) k_910 k_907 k_908 k_909 k_104 pl_X1_setsOf ⟨Nat.le_of_ble_eq_true rfl, Nat.le_of_ble_eq_true rfl⟩ rfl rfl (va_recv hK hP (ci := 1) (q0 := 1) rfl rfl) hP hD hS [1, 2, 3, 4, 5, 6, 7, 8, 9, 10, 11, 12, 13, 14, 15, 16, 17, 18, 19, 20, 21] [0] rfl rfl rfl rfl rfl (by decide) rfl hl.1 rfl (Nat.le_of_ble_eq_true rfl) dX11_page_41 ⟨Nat.le_of_ble_eq_true rfl, Nat.le_of_ble_eq_true rfl⟩ (fun v_22 u_23 H locs hv_24 hP₀ hD₀ hS₀ => ?_)
        obtain ⟨r_25, rfl, he_26⟩ := hv_24
        have he_26 : (True) := he_26
        refine W.eq (g2 := F0 m 44 ls [.int r_25]) rfl ?_
        replace hP : va_P D classes [((Ga 0), .inr (11, [.ref (Ga 1), .ref (Ga 2), .ref (Ga 3), .ref (Ga 4), .int (Gv 0), .ref (Ga 5), .ref (Aa 0), .ref (Ga 7), .ref (Ga 8), .ref (Ga 9), .ref (Ca 0), .ref (Ga 11)])), ((Ca 0), .inr (1, [.ref (Ha 0), .ref (Ca 2), .ref (Ca 3)])), ((Ca 2), .inl (tc 0, 25, .inl (Cf 2))), ((Ca 3), .inl (tc 0, 25, .inl (Cf 3))), ((Ha 0), .inr (9, [.int (Hv 0), .int (Hv 1), .int (Hv 2), .int (Hv 3), .int (Hv 4), .int (Hv 5), .ref (Ha 1), .ref (Ha 2), .ref (Ha 3), .ref (Ha 4), .ref (Ha 5), .ref (Ha 6), .ref (Ha 7), .ref (Ha 8)])), ((Ha 1), .inl (tc 0, 10, .inl (Hf 1))), ((Ha 2), .inl (tc 0, 10, .inl (Hf 2))), ((Ha 3), .inl (tc 0, 6, .inl (Hf 3))), ((Ha 4), .inl (tc 0, 6, .inl (Hf 4))), ((Ha 5), .inl (tc 0, 6, .inl (Hf 5))), ((Ha 6), .inl (tc 0, 6, .inl (Hf 6))), ((Ha 7), .inl (tc 0, 6, .inl (Hf 7))), ((Ha 8), .inl (tc 0, 6, .inl (Hf 8))), ((Aa 0), .inr (9, [.int (Av 0), .int (Av 1), .int (Av 2), .int (Av 3), .int (Av 4), .int (Av 5), .ref (Aa 1), .ref (Aa 2), .ref (Aa 3), .ref (Aa 4), .ref (Aa 5), .ref (Aa 6), .ref (Aa 7), .ref (Aa 8)])), ((Aa 1), .inl (tc 0, 10, .inl (Af 1))), ((Aa 2), .inl (tc 0, 10, .inl (Af 2))), ((Aa 3), .inl (tc 0, 6, .inl (Af 3))), ((Aa 4), .inl (tc 0, 6, .inl (Af 4))), ((Aa 5), .inl (tc 0, 6, .inl (Af 5))), ((Aa 6), .inl (tc 0, 6, .inl (Af 6))), ((Aa 7), .inl (tc 0, 6, .inl (Af 7))), ((Aa 8), .inl (tc 0, 6, .inl (Af 8)))] H := hP₀
        replace hD : va_D A [((Ga 0), .inr (11, [.ref (Ga 1), .ref (Ga 2), .ref (Ga 3), .ref (Ga 4), .int (Gv 0), .ref (Ga 5), .ref (Aa 0), .ref (Ga 7), .ref (Ga 8), .ref (Ga 9), .ref (Ca 0), .ref (Ga 11)])), ((Ca 0), .inr (1, [.ref (Ha 0), .ref (Ca 2), .ref (Ca 3)])), ((Ca 2), .inl (tc 0, 25, .inl (Cf 2))), ((Ca 3), .inl (tc 0, 25, .inl (Cf 3))), ((Ha 0), .inr (9, [.int (Hv 0), .int (Hv 1), .int (Hv 2), .int (Hv 3), .int (Hv 4), .int (Hv 5), .ref (Ha 1), .ref (Ha 2), .ref (Ha 3), .ref (Ha 4), .ref (Ha 5), .ref (Ha 6), .ref (Ha 7), .ref (Ha 8)])), ((Ha 1), .inl (tc 0, 10, .inl (Hf 1))), ((Ha 2), .inl (tc 0, 10, .inl (Hf 2))), ((Ha 3), .inl (tc 0, 6, .inl (Hf 3))), ((Ha 4), .inl (tc 0, 6, .inl (Hf 4))), ((Ha 5), .inl (tc 0, 6, .inl (Hf 5))), ((Ha 6), .inl (tc 0, 6, .inl (Hf 6))), ((Ha 7), .inl (tc 0, 6, .inl (Hf 7))), ((Ha 8), .inl (tc 0, 6, .inl (Hf 8))), ((Aa 0), .inr (9, [.int (Av 0), .int (Av 1), .int (Av 2), .int (Av 3), .int (Av 4), .int (Av 5), .ref (Aa 1), .ref (Aa 2), .ref (Aa 3), .ref (Aa 4), .ref (Aa 5), .ref (Aa 6), .ref (Aa 7), .ref (Aa 8)])), ((Aa 1), .inl (tc 0, 10, .inl (Af 1))), ((Aa 2), .inl (tc 0, 10, .inl (Af 2))), ((Aa 3), .inl (tc 0, 6, .inl (Af 3))), ((Aa 4), .inl (tc 0, 6, .inl (Af 4))), ((Aa 5), .inl (tc 0, 6, .inl (Af 5))), ((Aa 6), .inl (tc 0, 6, .inl (Af 6))), ((Aa 7), .inl (tc 0, 6, .inl (Af 7))), ((Aa 8), .inl (tc 0, 6, .inl (Af 8)))] := hD₀
        replace hS := hS₀
        clear hP₀ hD₀ hS₀
        exact retI (v := r_25) hx hb hr hlk (rfl) hP hD hS () ⟨_, rfl, trivial⟩ [0, 13, 14, 15, 16, 17, 18, 19, 20, 21, 1, 2, 3, 4, 5, 6, 7, 8, 9, 10, 11, 12] rfl rfl dX11_page_44 (Nat.le_of_ble_eq_true rfl) (Nat.le_of_ble_eq_true rfl) rfl
      · skip
        refine lv_iconst (v := (-1)) hx hb dX11_page_29 (by decide) ?_
        exact retI (v := (-1)) hx hb hr hlk (rfl) hP hD hS () ⟨_, rfl, trivial⟩ [0, 13, 14, 15, 16, 17, 18, 19, 20, 21, 1, 2, 3, 4, 5, 6, 7, 8, 9, 10, 11, 12] rfl rfl dX11_page_30 (Nat.le_of_ble_eq_true rfl) (Nat.le_of_ble_eq_true rfl) rfl
theorem dX11_back_0 : decode cX11_back 0 = .ok (.iload_n 1, 1) := by decide +kernel
theorem dX11_back_1 : decode cX11_back 1 = .ok (.ifCond .lt 12, 3) := by decide +kernel
theorem dX11_back_4 : decode cX11_back 4 = .ok (.iload_n 1, 1) := by decide +kernel
theorem dX11_back_5 : decode cX11_back 5 = .ok (.aload_n 0, 1) := by decide +kernel
theorem dX11_back_6 : decode cX11_back 6 = .ok (.getfield 61, 3) := by decide +kernel
theorem dX11_back_9 : decode cX11_back 9 = .ok (.arraylength, 1) := by decide +kernel
theorem dX11_back_10 : decode cX11_back 10 = .ok (.if_icmp .lt 5, 3) := by decide +kernel
theorem dX11_back_13 : decode cX11_back 13 = .ok (.iconst (-1), 1) := by decide +kernel
theorem dX11_back_14 : decode cX11_back 14 = .ok (.ireturn, 1) := by decide +kernel
theorem dX11_back_15 : decode cX11_back 15 = .ok (.aload_n 0, 1) := by decide +kernel
theorem dX11_back_16 : decode cX11_back 16 = .ok (.getfield 61, 3) := by decide +kernel
theorem dX11_back_19 : decode cX11_back 19 = .ok (.iload_n 1, 1) := by decide +kernel
theorem dX11_back_20 : decode cX11_back 20 = .ok (.aaload, 1) := by decide +kernel
theorem dX11_back_21 : decode cX11_back 21 = .ok (.astore_n 2, 1) := by decide +kernel
theorem dX11_back_22 : decode cX11_back 22 = .ok (.aload_n 2, 1) := by decide +kernel
theorem dX11_back_23 : decode cX11_back 23 = .ok (.ifnonnull 5, 3) := by decide +kernel
theorem dX11_back_26 : decode cX11_back 26 = .ok (.iconst (-1), 1) := by decide +kernel
theorem dX11_back_27 : decode cX11_back 27 = .ok (.ireturn, 1) := by decide +kernel
theorem dX11_back_28 : decode cX11_back 28 = .ok (.aload_n 0, 1) := by decide +kernel
theorem dX11_back_29 : decode cX11_back 29 = .ok (.getfield 43, 3) := by decide +kernel
theorem dX11_back_32 : decode cX11_back 32 = .ok (.aload_n 2, 1) := by decide +kernel
theorem dX11_back_33 : decode cX11_back 33 = .ok (.invokevirtual 303, 3) := by decide +kernel
theorem dX11_back_36 : decode cX11_back 36 = .ok (.aload_n 0, 1) := by decide +kernel
theorem dX11_back_37 : decode cX11_back 37 = .ok (.getfield 57, 3) := by decide +kernel
theorem dX11_back_40 : decode cX11_back 40 = .ok (.iconst 0, 1) := by decide +kernel
theorem dX11_back_41 : decode cX11_back 41 = .ok (.putfield 120, 3) := by decide +kernel
theorem dX11_back_44 : decode cX11_back 44 = .ok (.aload_n 0, 1) := by decide +kernel
theorem dX11_back_45 : decode cX11_back 45 = .ok (.getfield 51, 3) := by decide +kernel
theorem dX11_back_48 : decode cX11_back 48 = .ok (.getfield 179, 3) := by decide +kernel
theorem dX11_back_51 : decode cX11_back 51 = .ok (.ireturn, 1) := by decide +kernel
theorem dX11_image_0 : decode cX11_image 0 = .ok (.iload_n 1, 1) := by decide +kernel
theorem dX11_image_1 : decode cX11_image 1 = .ok (.ifCond .lt 12, 3) := by decide +kernel
theorem dX11_image_4 : decode cX11_image 4 = .ok (.iload_n 1, 1) := by decide +kernel
theorem dX11_image_5 : decode cX11_image 5 = .ok (.aload_n 0, 1) := by decide +kernel
theorem dX11_image_6 : decode cX11_image 6 = .ok (.getfield 61, 3) := by decide +kernel
theorem dX11_image_9 : decode cX11_image 9 = .ok (.arraylength, 1) := by decide +kernel
theorem dX11_image_10 : decode cX11_image 10 = .ok (.if_icmp .lt 5, 3) := by decide +kernel
theorem dX11_image_13 : decode cX11_image 13 = .ok (.iconst (-1), 1) := by decide +kernel
theorem dX11_image_14 : decode cX11_image 14 = .ok (.ireturn, 1) := by decide +kernel
theorem dX11_image_15 : decode cX11_image 15 = .ok (.aload_n 0, 1) := by decide +kernel
theorem dX11_image_16 : decode cX11_image 16 = .ok (.getfield 61, 3) := by decide +kernel
theorem dX11_image_19 : decode cX11_image 19 = .ok (.iload_n 1, 1) := by decide +kernel
theorem dX11_image_20 : decode cX11_image 20 = .ok (.aaload, 1) := by decide +kernel
theorem dX11_image_21 : decode cX11_image 21 = .ok (.astore_n 2, 1) := by decide +kernel
theorem dX11_image_22 : decode cX11_image 22 = .ok (.aload_n 2, 1) := by decide +kernel
theorem dX11_image_23 : decode cX11_image 23 = .ok (.ifnonnull 18, 3) := by decide +kernel
theorem dX11_image_26 : decode cX11_image 26 = .ok (.new 40, 3) := by decide +kernel
theorem dX11_image_29 : decode cX11_image 29 = .ok (.dup, 1) := by decide +kernel
theorem dX11_image_30 : decode cX11_image 30 = .ok (.invokespecial 42, 3) := by decide +kernel
theorem dX11_image_33 : decode cX11_image 33 = .ok (.astore_n 2, 1) := by decide +kernel
theorem dX11_image_34 : decode cX11_image 34 = .ok (.aload_n 0, 1) := by decide +kernel
theorem dX11_image_35 : decode cX11_image 35 = .ok (.getfield 61, 3) := by decide +kernel
theorem dX11_image_38 : decode cX11_image 38 = .ok (.iload_n 1, 1) := by decide +kernel
theorem dX11_image_39 : decode cX11_image 39 = .ok (.aload_n 2, 1) := by decide +kernel
theorem dX11_image_40 : decode cX11_image 40 = .ok (.aastore, 1) := by decide +kernel
theorem dX11_image_41 : decode cX11_image 41 = .ok (.aload_n 2, 1) := by decide +kernel
theorem dX11_image_42 : decode cX11_image 42 = .ok (.aload_n 0, 1) := by decide +kernel
theorem dX11_image_43 : decode cX11_image 43 = .ok (.getfield 43, 3) := by decide +kernel
theorem dX11_image_46 : decode cX11_image 46 = .ok (.invokevirtual 303, 3) := by decide +kernel
theorem dX11_image_49 : decode cX11_image 49 = .ok (.aload_n 0, 1) := by decide +kernel
theorem dX11_image_50 : decode cX11_image 50 = .ok (.getfield 51, 3) := by decide +kernel
theorem dX11_image_53 : decode cX11_image 53 = .ok (.getfield 179, 3) := by decide +kernel
theorem dX11_image_56 : decode cX11_image 56 = .ok (.ireturn, 1) := by decide +kernel
set_option maxHeartbeats 4000000 in
set_option maxRecDepth 100000 in
theorem ct_X11_image_o (l : Launch) (D : va_G) (tc : Nat → ClassId) (sk : (Nat → Nat) × (Nat → Nat)) (Ga : Nat → Nat) (Gv : Nat → Int32) (Sa : Nat → Nat) (Sv : Nat → Int32) (Aa : Nat → Nat) (Av : Nat → Int32) (Af : Nat → Nat → Int32) (Ba : Nat → Nat) (Bv : Nat → Int32) (Bf : Nat → Nat → Int32) (Na : Nat → Nat) (Nv : Nat → Int32) (Nf : Nat → Nat → Int32) (Ia : Nat → Nat) (Iq : Nat → Nat → Option Nat) (x1 : Int32) (h_k : x1.toInt < 0 ∨ 4 ≤ x1.toInt) : Ct l yX11_image cX11_image 3 (some .int) { frames := 0, cells := 0, slots := 0, locals := 0 } D tc sk [.ref (Ga 0), .int x1] [((Ga 0), .inr (11, [.ref (Ga 1), .ref (Ga 2), .ref (Ga 3), .ref (Ga 4), .int (Gv 0), .ref (Sa 0), .ref (Aa 0), .ref (Ga 7), .ref (Ia 0), .ref (Ga 9), .ref (Ga 10), .ref (Ga 11)])), ((Sa 0), .inr (8, [.ref (Aa 0), .ref (Ba 0), .ref (Na 0), .int (Sv 0), .int (Sv 1)])), ((Aa 0), .inr (9, [.int (Av 0), .int (Av 1), .int (Av 2), .int (Av 3), .int (Av 4), .int (Av 5), .ref (Aa 1), .ref (Aa 2), .ref (Aa 3), .ref (Aa 4), .ref (Aa 5), .ref (Aa 6), .ref (Aa 7), .ref (Aa 8)])), ((Aa 1), .inl (tc 0, 10, .inl (Af 1))), ((Aa 2), .inl (tc 0, 10, .inl (Af 2))), ((Aa 3), .inl (tc 0, 6, .inl (Af 3))), ((Aa 4), .inl (tc 0, 6, .inl (Af 4))), ((Aa 5), .inl (tc 0, 6, .inl (Af 5))), ((Aa 6), .inl (tc 0, 6, .inl (Af 6))), ((Aa 7), .inl (tc 0, 6, .inl (Af 7))), ((Aa 8), .inl (tc 0, 6, .inl (Af 8))), ((Ba 0), .inr (9, [.int (Bv 0), .int (Bv 1), .int (Bv 2), .int (Bv 3), .int (Bv 4), .int (Bv 5), .ref (Ba 1), .ref (Ba 2), .ref (Ba 3), .ref (Ba 4), .ref (Ba 5), .ref (Ba 6), .ref (Ba 7), .ref (Ba 8)])), ((Ba 1), .inl (tc 0, 10, .inl (Bf 1))), ((Ba 2), .inl (tc 0, 10, .inl (Bf 2))), ((Ba 3), .inl (tc 0, 6, .inl (Bf 3))), ((Ba 4), .inl (tc 0, 6, .inl (Bf 4))), ((Ba 5), .inl (tc 0, 6, .inl (Bf 5))), ((Ba 6), .inl (tc 0, 6, .inl (Bf 6))), ((Ba 7), .inl (tc 0, 6, .inl (Bf 7))), ((Ba 8), .inl (tc 0, 6, .inl (Bf 8))), ((Na 0), .inr (3, [.ref (Na 1), .ref (Na 2), .ref (Na 3), .int (Nv 0)])), ((Na 1), .inl (tc 0, 10, .inl (Nf 1))), ((Na 2), .inl (tc 0, 10, .inl (Nf 2))), ((Na 3), .inl (tc 0, 10, .inl (Nf 3))), ((Ia 0), .inl (tc 6, 4, .inr (.inr (.inr (.inr (Iq 0))))))] (fun (v : Option Value) (_ : Unit) => ∃ r : Int32, v = some (.int r) ∧ (True)) (fun (_ : Unit) => [((Ga 0), .inr (11, [.ref (Ga 1), .ref (Ga 2), .ref (Ga 3), .ref (Ga 4), .int (Gv 0), .ref (Sa 0), .ref (Aa 0), .ref (Ga 7), .ref (Ia 0), .ref (Ga 9), .ref (Ga 10), .ref (Ga 11)])), ((Sa 0), .inr (8, [.ref (Aa 0), .ref (Ba 0), .ref (Na 0), .int (Sv 0), .int (Sv 1)])), ((Aa 0), .inr (9, [.int (Av 0), .int (Av 1), .int (Av 2), .int (Av 3), .int (Av 4), .int (Av 5), .ref (Aa 1), .ref (Aa 2), .ref (Aa 3), .ref (Aa 4), .ref (Aa 5), .ref (Aa 6), .ref (Aa 7), .ref (Aa 8)])), ((Aa 1), .inl (tc 0, 10, .inl (Af 1))), ((Aa 2), .inl (tc 0, 10, .inl (Af 2))), ((Aa 3), .inl (tc 0, 6, .inl (Af 3))), ((Aa 4), .inl (tc 0, 6, .inl (Af 4))), ((Aa 5), .inl (tc 0, 6, .inl (Af 5))), ((Aa 6), .inl (tc 0, 6, .inl (Af 6))), ((Aa 7), .inl (tc 0, 6, .inl (Af 7))), ((Aa 8), .inl (tc 0, 6, .inl (Af 8))), ((Ba 0), .inr (9, [.int (Bv 0), .int (Bv 1), .int (Bv 2), .int (Bv 3), .int (Bv 4), .int (Bv 5), .ref (Ba 1), .ref (Ba 2), .ref (Ba 3), .ref (Ba 4), .ref (Ba 5), .ref (Ba 6), .ref (Ba 7), .ref (Ba 8)])), ((Ba 1), .inl (tc 0, 10, .inl (Bf 1))), ((Ba 2), .inl (tc 0, 10, .inl (Bf 2))), ((Ba 3), .inl (tc 0, 6, .inl (Bf 3))), ((Ba 4), .inl (tc 0, 6, .inl (Bf 4))), ((Ba 5), .inl (tc 0, 6, .inl (Bf 5))), ((Ba 6), .inl (tc 0, 6, .inl (Bf 6))), ((Ba 7), .inl (tc 0, 6, .inl (Bf 7))), ((Ba 8), .inl (tc 0, 6, .inl (Bf 8))), ((Na 0), .inr (3, [.ref (Na 1), .ref (Na 2), .ref (Na 3), .int (Nv 0)])), ((Na 1), .inl (tc 0, 10, .inl (Nf 1))), ((Na 2), .inl (tc 0, 10, .inl (Nf 2))), ((Na 3), .inl (tc 0, 10, .inl (Nf 3))), ((Ia 0), .inl (tc 6, 4, .inr (.inr (.inr (.inr (Iq 0))))))]) 0 0 := by
  refine Ct.start (by decide) (Nat.le_of_ble_eq_true rfl) (fun p e s m below meth c A ls hx hb hr hlk hin hml hown hts hK hX hP hD hA hl hS => ?_)
  have hl : lv_has ls 3 [(0, .ref (Ga 0)), (1, .int x1)] := hl
  refine lv_iload_n hx hb dX11_image_0 rfl (lv_at hl 1 rfl) ?_
  refine lv_if_lt (tgt := 13) hx hb dX11_image_1 (by decide) (fun c_1 => ?_) (fun c_1 => ?_)
  · skip
    refine lv_iconst (v := (-1)) hx hb dX11_image_13 (by decide) ?_
    exact retI (v := (-1)) hx hb hr hlk (rfl) hP hD hS () ⟨_, rfl, trivial⟩ [0, 1, 2, 3, 4, 5, 6, 7, 8, 9, 10, 11, 12, 13, 14, 15, 16, 17, 18, 19, 20, 21, 22, 23, 24] rfl rfl dX11_image_14 (Nat.le_of_ble_eq_true rfl) (Nat.le_of_ble_eq_true rfl) rfl
  · skip
    refine lv_iload_n hx hb dX11_image_4 rfl (lv_at hl 1 rfl) ?_
    refine lv_aload_n hx hb dX11_image_5 rfl (lv_at hl 0 rfl) ?_
    refine gf_X11_61 hx hb hts hown hK hP 0 rfl rfl dX11_image_6 ?_
    refine va_alen hx hb hK hP 24 6 rfl rfl (v := 4) rfl dX11_image_9 ?_
    refine lv_icmp_lt (tgt := 15) hx hb dX11_image_10 (by decide) (fun c_2 => ?_) (fun c_2 => ?_)
    · skip
      exfalso
      have z_1 := Int32.le_iff_toInt_le.mp (Int32.not_lt.mp c_1)
      have z_2 := Int32.lt_iff_toInt_lt.mp c_2
      have y_0 : (0 : Int32).toInt = 0 := by decide
      have y_4 : (4 : Int32).toInt = 4 := by decide
      omega
    · skip
      refine lv_iconst (v := (-1)) hx hb dX11_image_13 (by decide) ?_
      exact retI (v := (-1)) hx hb hr hlk (rfl) hP hD hS () ⟨_, rfl, trivial⟩ [0, 1, 2, 3, 4, 5, 6, 7, 8, 9, 10, 11, 12, 13, 14, 15, 16, 17, 18, 19, 20, 21, 22, 23, 24] rfl rfl dX11_image_14 (Nat.le_of_ble_eq_true rfl) (Nat.le_of_ble_eq_true rfl) rfl
set_option maxHeartbeats 4000000 in
set_option maxRecDepth 100000 in
theorem ct_X11_back_o (l : Launch) (D : va_G) (tc : Nat → ClassId) (sk : (Nat → Nat) × (Nat → Nat)) (Ga : Nat → Nat) (Gv : Nat → Int32) (Sa : Nat → Nat) (Sv : Nat → Int32) (Aa : Nat → Nat) (Av : Nat → Int32) (Af : Nat → Nat → Int32) (Ba : Nat → Nat) (Bv : Nat → Int32) (Bf : Nat → Nat → Int32) (Na : Nat → Nat) (Nv : Nat → Int32) (Nf : Nat → Nat → Int32) (Ia : Nat → Nat) (Iq : Nat → Nat → Option Nat) (Pa : Nat → Nat) (Pv : Nat → Int32) (Pq : Nat → Nat → Option Nat) (x1 : Int32) (h_k : x1.toInt < 0 ∨ 4 ≤ x1.toInt) : Ct l yX11_back cX11_back 3 (some .int) { frames := 0, cells := 0, slots := 0, locals := 0 } D tc sk [.ref (Ga 0), .int x1] [((Ga 0), .inr (11, [.ref (Ga 1), .ref (Ga 2), .ref (Ga 3), .ref (Ga 4), .int (Gv 0), .ref (Sa 0), .ref (Aa 0), .ref (Pa 0), .ref (Ia 0), .ref (Ga 9), .ref (Ga 10), .ref (Ga 11)])), ((Sa 0), .inr (8, [.ref (Aa 0), .ref (Ba 0), .ref (Na 0), .int (Sv 0), .int (Sv 1)])), ((Aa 0), .inr (9, [.int (Av 0), .int (Av 1), .int (Av 2), .int (Av 3), .int (Av 4), .int (Av 5), .ref (Aa 1), .ref (Aa 2), .ref (Aa 3), .ref (Aa 4), .ref (Aa 5), .ref (Aa 6), .ref (Aa 7), .ref (Aa 8)])), ((Aa 1), .inl (tc 0, 10, .inl (Af 1))), ((Aa 2), .inl (tc 0, 10, .inl (Af 2))), ((Aa 3), .inl (tc 0, 6, .inl (Af 3))), ((Aa 4), .inl (tc 0, 6, .inl (Af 4))), ((Aa 5), .inl (tc 0, 6, .inl (Af 5))), ((Aa 6), .inl (tc 0, 6, .inl (Af 6))), ((Aa 7), .inl (tc 0, 6, .inl (Af 7))), ((Aa 8), .inl (tc 0, 6, .inl (Af 8))), ((Ba 0), .inr (9, [.int (Bv 0), .int (Bv 1), .int (Bv 2), .int (Bv 3), .int (Bv 4), .int (Bv 5), .ref (Ba 1), .ref (Ba 2), .ref (Ba 3), .ref (Ba 4), .ref (Ba 5), .ref (Ba 6), .ref (Ba 7), .ref (Ba 8)])), ((Ba 1), .inl (tc 0, 10, .inl (Bf 1))), ((Ba 2), .inl (tc 0, 10, .inl (Bf 2))), ((Ba 3), .inl (tc 0, 6, .inl (Bf 3))), ((Ba 4), .inl (tc 0, 6, .inl (Bf 4))), ((Ba 5), .inl (tc 0, 6, .inl (Bf 5))), ((Ba 6), .inl (tc 0, 6, .inl (Bf 6))), ((Ba 7), .inl (tc 0, 6, .inl (Bf 7))), ((Ba 8), .inl (tc 0, 6, .inl (Bf 8))), ((Na 0), .inr (3, [.ref (Na 1), .ref (Na 2), .ref (Na 3), .int (Nv 0)])), ((Na 1), .inl (tc 0, 10, .inl (Nf 1))), ((Na 2), .inl (tc 0, 10, .inl (Nf 2))), ((Na 3), .inl (tc 0, 10, .inl (Nf 3))), ((Ia 0), .inl (tc 6, 4, .inr (.inr (.inr (.inr (Iq 0)))))), ((Pa 0), .inr (5, [.ref (Pa 1), .int (Pv 0), .int (Pv 1)])), ((Pa 1), .inl (tc 5, 20, .inr (.inr (.inr (.inr (Pq 1))))))] (fun (v : Option Value) (_ : Unit) => ∃ r : Int32, v = some (.int r) ∧ (True)) (fun (_ : Unit) => [((Ga 0), .inr (11, [.ref (Ga 1), .ref (Ga 2), .ref (Ga 3), .ref (Ga 4), .int (Gv 0), .ref (Sa 0), .ref (Aa 0), .ref (Pa 0), .ref (Ia 0), .ref (Ga 9), .ref (Ga 10), .ref (Ga 11)])), ((Sa 0), .inr (8, [.ref (Aa 0), .ref (Ba 0), .ref (Na 0), .int (Sv 0), .int (Sv 1)])), ((Aa 0), .inr (9, [.int (Av 0), .int (Av 1), .int (Av 2), .int (Av 3), .int (Av 4), .int (Av 5), .ref (Aa 1), .ref (Aa 2), .ref (Aa 3), .ref (Aa 4), .ref (Aa 5), .ref (Aa 6), .ref (Aa 7), .ref (Aa 8)])), ((Aa 1), .inl (tc 0, 10, .inl (Af 1))), ((Aa 2), .inl (tc 0, 10, .inl (Af 2))), ((Aa 3), .inl (tc 0, 6, .inl (Af 3))), ((Aa 4), .inl (tc 0, 6, .inl (Af 4))), ((Aa 5), .inl (tc 0, 6, .inl (Af 5))), ((Aa 6), .inl (tc 0, 6, .inl (Af 6))), ((Aa 7), .inl (tc 0, 6, .inl (Af 7))), ((Aa 8), .inl (tc 0, 6, .inl (Af 8))), ((Ba 0), .inr (9, [.int (Bv 0), .int (Bv 1), .int (Bv 2), .int (Bv 3), .int (Bv 4), .int (Bv 5), .ref (Ba 1), .ref (Ba 2), .ref (Ba 3), .ref (Ba 4), .ref (Ba 5), .ref (Ba 6), .ref (Ba 7), .ref (Ba 8)])), ((Ba 1), .inl (tc 0, 10, .inl (Bf 1))), ((Ba 2), .inl (tc 0, 10, .inl (Bf 2))), ((Ba 3), .inl (tc 0, 6, .inl (Bf 3))), ((Ba 4), .inl (tc 0, 6, .inl (Bf 4))), ((Ba 5), .inl (tc 0, 6, .inl (Bf 5))), ((Ba 6), .inl (tc 0, 6, .inl (Bf 6))), ((Ba 7), .inl (tc 0, 6, .inl (Bf 7))), ((Ba 8), .inl (tc 0, 6, .inl (Bf 8))), ((Na 0), .inr (3, [.ref (Na 1), .ref (Na 2), .ref (Na 3), .int (Nv 0)])), ((Na 1), .inl (tc 0, 10, .inl (Nf 1))), ((Na 2), .inl (tc 0, 10, .inl (Nf 2))), ((Na 3), .inl (tc 0, 10, .inl (Nf 3))), ((Ia 0), .inl (tc 6, 4, .inr (.inr (.inr (.inr (Iq 0)))))), ((Pa 0), .inr (5, [.ref (Pa 1), .int (Pv 0), .int (Pv 1)])), ((Pa 1), .inl (tc 5, 20, .inr (.inr (.inr (.inr (Pq 1))))))]) 0 0 := by
  refine Ct.start (by decide) (Nat.le_of_ble_eq_true rfl) (fun p e s m below meth c A ls hx hb hr hlk hin hml hown hts hK hX hP hD hA hl hS => ?_)
  have hl : lv_has ls 3 [(0, .ref (Ga 0)), (1, .int x1)] := hl
  refine lv_iload_n hx hb dX11_back_0 rfl (lv_at hl 1 rfl) ?_
  refine lv_if_lt (tgt := 13) hx hb dX11_back_1 (by decide) (fun c_1 => ?_) (fun c_1 => ?_)
  · skip
    refine lv_iconst (v := (-1)) hx hb dX11_back_13 (by decide) ?_
    exact retI (v := (-1)) hx hb hr hlk (rfl) hP hD hS () ⟨_, rfl, trivial⟩ [0, 1, 2, 3, 4, 5, 6, 7, 8, 9, 10, 11, 12, 13, 14, 15, 16, 17, 18, 19, 20, 21, 22, 23, 24, 25, 26] rfl rfl dX11_back_14 (Nat.le_of_ble_eq_true rfl) (Nat.le_of_ble_eq_true rfl) rfl
  · skip
    refine lv_iload_n hx hb dX11_back_4 rfl (lv_at hl 1 rfl) ?_
    refine lv_aload_n hx hb dX11_back_5 rfl (lv_at hl 0 rfl) ?_
    refine gf_X11_61 hx hb hts hown hK hP 0 rfl rfl dX11_back_6 ?_
    refine va_alen hx hb hK hP 24 6 rfl rfl (v := 4) rfl dX11_back_9 ?_
    refine lv_icmp_lt (tgt := 15) hx hb dX11_back_10 (by decide) (fun c_2 => ?_) (fun c_2 => ?_)
    · skip
      exfalso
      have z_1 := Int32.le_iff_toInt_le.mp (Int32.not_lt.mp c_1)
      have z_2 := Int32.lt_iff_toInt_lt.mp c_2
      have y_0 : (0 : Int32).toInt = 0 := by decide
      have y_4 : (4 : Int32).toInt = 4 := by decide
      omega
    · skip
      refine lv_iconst (v := (-1)) hx hb dX11_back_13 (by decide) ?_
      exact retI (v := (-1)) hx hb hr hlk (rfl) hP hD hS () ⟨_, rfl, trivial⟩ [0, 1, 2, 3, 4, 5, 6, 7, 8, 9, 10, 11, 12, 13, 14, 15, 16, 17, 18, 19, 20, 21, 22, 23, 24, 25, 26] rfl rfl dX11_back_14 (Nat.le_of_ble_eq_true rfl) (Nat.le_of_ble_eq_true rfl) rfl
set_option maxHeartbeats 4000000 in
set_option maxRecDepth 100000 in
theorem ct_X11_back_n (l : Launch) (D : va_G) (tc : Nat → ClassId) (sk : (Nat → Nat) × (Nat → Nat)) (Ga : Nat → Nat) (Gv : Nat → Int32) (Sa : Nat → Nat) (Sv : Nat → Int32) (Aa : Nat → Nat) (Av : Nat → Int32) (Af : Nat → Nat → Int32) (Ba : Nat → Nat) (Bv : Nat → Int32) (Bf : Nat → Nat → Int32) (Na : Nat → Nat) (Nv : Nat → Int32) (Nf : Nat → Nat → Int32) (Ia : Nat → Nat) (Iq : Nat → Nat → Option Nat) (Pa : Nat → Nat) (Pv : Nat → Int32) (Pq : Nat → Nat → Option Nat) (x1 : Int32) (h_k : 0 ≤ x1.toInt ∧ x1.toInt < 4) (h_q : (Iq 0) x1.toNatClampNeg = none) (h_bA : 0 ≤ ((Av 3) : Int32).toInt ∧ ((Av 3) : Int32).toInt ≤ 6) (h_bB : 0 ≤ ((Bv 3) : Int32).toInt ∧ ((Bv 3) : Int32).toInt ≤ 6) : Ct l yX11_back cX11_back 3 (some .int) { frames := 0, cells := 0, slots := 0, locals := 0 } D tc sk [.ref (Ga 0), .int x1] [((Ga 0), .inr (11, [.ref (Ga 1), .ref (Ga 2), .ref (Ga 3), .ref (Ga 4), .int (Gv 0), .ref (Sa 0), .ref (Aa 0), .ref (Pa 0), .ref (Ia 0), .ref (Ga 9), .ref (Ga 10), .ref (Ga 11)])), ((Sa 0), .inr (8, [.ref (Aa 0), .ref (Ba 0), .ref (Na 0), .int (Sv 0), .int (Sv 1)])), ((Aa 0), .inr (9, [.int (Av 0), .int (Av 1), .int (Av 2), .int (Av 3), .int (Av 4), .int (Av 5), .ref (Aa 1), .ref (Aa 2), .ref (Aa 3), .ref (Aa 4), .ref (Aa 5), .ref (Aa 6), .ref (Aa 7), .ref (Aa 8)])), ((Aa 1), .inl (tc 0, 10, .inl (Af 1))), ((Aa 2), .inl (tc 0, 10, .inl (Af 2))), ((Aa 3), .inl (tc 0, 6, .inl (Af 3))), ((Aa 4), .inl (tc 0, 6, .inl (Af 4))), ((Aa 5), .inl (tc 0, 6, .inl (Af 5))), ((Aa 6), .inl (tc 0, 6, .inl (Af 6))), ((Aa 7), .inl (tc 0, 6, .inl (Af 7))), ((Aa 8), .inl (tc 0, 6, .inl (Af 8))), ((Ba 0), .inr (9, [.int (Bv 0), .int (Bv 1), .int (Bv 2), .int (Bv 3), .int (Bv 4), .int (Bv 5), .ref (Ba 1), .ref (Ba 2), .ref (Ba 3), .ref (Ba 4), .ref (Ba 5), .ref (Ba 6), .ref (Ba 7), .ref (Ba 8)])), ((Ba 1), .inl (tc 0, 10, .inl (Bf 1))), ((Ba 2), .inl (tc 0, 10, .inl (Bf 2))), ((Ba 3), .inl (tc 0, 6, .inl (Bf 3))), ((Ba 4), .inl (tc 0, 6, .inl (Bf 4))), ((Ba 5), .inl (tc 0, 6, .inl (Bf 5))), ((Ba 6), .inl (tc 0, 6, .inl (Bf 6))), ((Ba 7), .inl (tc 0, 6, .inl (Bf 7))), ((Ba 8), .inl (tc 0, 6, .inl (Bf 8))), ((Na 0), .inr (3, [.ref (Na 1), .ref (Na 2), .ref (Na 3), .int (Nv 0)])), ((Na 1), .inl (tc 0, 10, .inl (Nf 1))), ((Na 2), .inl (tc 0, 10, .inl (Nf 2))), ((Na 3), .inl (tc 0, 10, .inl (Nf 3))), ((Ia 0), .inl (tc 6, 4, .inr (.inr (.inr (.inr (Iq 0)))))), ((Pa 0), .inr (5, [.ref (Pa 1), .int (Pv 0), .int (Pv 1)])), ((Pa 1), .inl (tc 5, 20, .inr (.inr (.inr (.inr (Pq 1))))))] (fun (v : Option Value) (_ : Unit) => ∃ r : Int32, v = some (.int r) ∧ (True) ∧ (0 ≤ ((Av 3) : Int32).toInt ∧ ((Av 3) : Int32).toInt ≤ 6) ∧ (0 ≤ ((Bv 3) : Int32).toInt ∧ ((Bv 3) : Int32).toInt ≤ 6)) (fun (_ : Unit) => [((Ga 0), .inr (11, [.ref (Ga 1), .ref (Ga 2), .ref (Ga 3), .ref (Ga 4), .int (Gv 0), .ref (Sa 0), .ref (Aa 0), .ref (Pa 0), .ref (Ia 0), .ref (Ga 9), .ref (Ga 10), .ref (Ga 11)])), ((Sa 0), .inr (8, [.ref (Aa 0), .ref (Ba 0), .ref (Na 0), .int (Sv 0), .int (Sv 1)])), ((Aa 0), .inr (9, [.int (Av 0), .int (Av 1), .int (Av 2), .int (Av 3), .int (Av 4), .int (Av 5), .ref (Aa 1), .ref (Aa 2), .ref (Aa 3), .ref (Aa 4), .ref (Aa 5), .ref (Aa 6), .ref (Aa 7), .ref (Aa 8)])), ((Aa 1), .inl (tc 0, 10, .inl (Af 1))), ((Aa 2), .inl (tc 0, 10, .inl (Af 2))), ((Aa 3), .inl (tc 0, 6, .inl (Af 3))), ((Aa 4), .inl (tc 0, 6, .inl (Af 4))), ((Aa 5), .inl (tc 0, 6, .inl (Af 5))), ((Aa 6), .inl (tc 0, 6, .inl (Af 6))), ((Aa 7), .inl (tc 0, 6, .inl (Af 7))), ((Aa 8), .inl (tc 0, 6, .inl (Af 8))), ((Ba 0), .inr (9, [.int (Bv 0), .int (Bv 1), .int (Bv 2), .int (Bv 3), .int (Bv 4), .int (Bv 5), .ref (Ba 1), .ref (Ba 2), .ref (Ba 3), .ref (Ba 4), .ref (Ba 5), .ref (Ba 6), .ref (Ba 7), .ref (Ba 8)])), ((Ba 1), .inl (tc 0, 10, .inl (Bf 1))), ((Ba 2), .inl (tc 0, 10, .inl (Bf 2))), ((Ba 3), .inl (tc 0, 6, .inl (Bf 3))), ((Ba 4), .inl (tc 0, 6, .inl (Bf 4))), ((Ba 5), .inl (tc 0, 6, .inl (Bf 5))), ((Ba 6), .inl (tc 0, 6, .inl (Bf 6))), ((Ba 7), .inl (tc 0, 6, .inl (Bf 7))), ((Ba 8), .inl (tc 0, 6, .inl (Bf 8))), ((Na 0), .inr (3, [.ref (Na 1), .ref (Na 2), .ref (Na 3), .int (Nv 0)])), ((Na 1), .inl (tc 0, 10, .inl (Nf 1))), ((Na 2), .inl (tc 0, 10, .inl (Nf 2))), ((Na 3), .inl (tc 0, 10, .inl (Nf 3))), ((Ia 0), .inl (tc 6, 4, .inr (.inr (.inr (.inr (Iq 0)))))), ((Pa 0), .inr (5, [.ref (Pa 1), .int (Pv 0), .int (Pv 1)])), ((Pa 1), .inl (tc 5, 20, .inr (.inr (.inr (.inr (Pq 1))))))]) 0 0 := by
  refine Ct.start (by decide) (Nat.le_of_ble_eq_true rfl) (fun p e s m below meth c A ls hx hb hr hlk hin hml hown hts hK hX hP hD hA hl hS => ?_)
  have hl : lv_has ls 3 [(0, .ref (Ga 0)), (1, .int x1)] := hl
  refine lv_iload_n hx hb dX11_back_0 rfl (lv_at hl 1 rfl) ?_
  refine lv_if_lt (tgt := 13) hx hb dX11_back_1 (by decide) (fun c_1 => ?_) (fun c_1 => ?_)
  · skip
    exfalso
    have z_1 := Int32.lt_iff_toInt_lt.mp c_1
    have y_0 : (0 : Int32).toInt = 0 := by decide
    omega
  · skip
    refine lv_iload_n hx hb dX11_back_4 rfl (lv_at hl 1 rfl) ?_
    refine lv_aload_n hx hb dX11_back_5 rfl (lv_at hl 0 rfl) ?_
    refine gf_X11_61 hx hb hts hown hK hP 0 rfl rfl dX11_back_6 ?_
    refine va_alen hx hb hK hP 24 6 rfl rfl (v := 4) rfl dX11_back_9 ?_
    refine lv_icmp_lt (tgt := 15) hx hb dX11_back_10 (by decide) (fun c_2 => ?_) (fun c_2 => ?_)
    · skip
      refine lv_aload_n hx hb dX11_back_15 rfl (lv_at hl 0 rfl) ?_
      refine gf_X11_61 hx hb hts hown hK hP 0 rfl rfl dX11_back_16 ?_
      refine lv_iload_n hx hb dX11_back_19 rfl (lv_at hl 1 rfl) ?_
      have hi_3 : vp_in x1 4 := by
        have z_1 := Int32.le_iff_toInt_le.mp (Int32.not_lt.mp c_1)
        have z_2 := Int32.lt_iff_toInt_lt.mp c_2
        have y_0 : (0 : Int32).toInt = 0 := by decide
        have y_4 : (4 : Int32).toInt = 4 := by decide
        refine vp_in_iff.mpr ⟨?_, ?_⟩ <;> omega
      refine va_aldq hx hb hK hP 24 6 rfl rfl hi_3 dX11_back_20 ?_
      refine lv_val (v := .null) (by rw [h_q]; rfl) ?_
      refine lv_astore_nN (lv' := [(2, .null), (0, .ref (Ga 0)), (1, .int x1)]) hx hb dX11_back_21 rfl hl (by decide) rfl (fun ls hl₀ => ?_)
      replace hl := hl₀
      clear hl₀
      refine lv_aload_nN hx hb dX11_back_22 rfl (lv_at hl 0 rfl) ?_
      refine lv_ifnonnullN hx hb dX11_back_23 ?_
      refine lv_iconst (v := (-1)) hx hb dX11_back_26 (by decide) ?_
      exact retI (v := (-1)) hx hb hr hlk (rfl) hP hD hS () ⟨_, rfl, trivial, h_bA, h_bB⟩ [0, 1, 2, 3, 4, 5, 6, 7, 8, 9, 10, 11, 12, 13, 14, 15, 16, 17, 18, 19, 20, 21, 22, 23, 24, 25, 26] rfl rfl dX11_back_27 (Nat.le_of_ble_eq_true rfl) (Nat.le_of_ble_eq_true rfl) rfl
    · skip
      exfalso
      have z_1 := Int32.le_iff_toInt_le.mp (Int32.not_lt.mp c_1)
      have z_2 := Int32.le_iff_toInt_le.mp (Int32.not_lt.mp c_2)
      have y_0 : (0 : Int32).toInt = 0 := by decide
      have y_4 : (4 : Int32).toInt = 4 := by decide
      omega
theorem upd_ne {f : Nat → Int32} {i j : Nat} {x : Int32} (h : j ≠ i) : upd f i x j = f j := by unfold upd; rw [if_neg h]
theorem upd_at {f : Nat → Int32} {i : Nat} {x : Int32} : upd f i x i = x := by unfold upd; rw [if_pos rfl]
theorem clN {i : Int32} {n : Nat} (h : i.toInt = (n : Int)) : i.toNatClampNeg = n := by
  show i.toInt.toNat = n
  omega
def SaiB (f : Nat → Int32) : Prop := ((((f 0).toInt = 1 ∧ 1 ≤ (f 2).toInt ∧ (f 2).toInt ≤ 10) ∨ ((f 0).toInt = 0 ∧ (f 3).toInt = 0)) ∧ 0 ≤ (f 3).toInt ∧ (f 3).toInt ≤ 6 ∧ 0 ≤ (f 125).toInt ∧ (f 125).toInt ≤ 10) ∧ ∀ k : Nat, k < 10 → 0 ≤ (f (95 + 3 * k)).toInt ∧ (f (95 + 3 * k)).toInt ≤ 60
def SaiO (f : Nat → Int32) (d : Int) : Prop := SaiB f ∧ 0 ≤ (f 10).toInt ∧ (f 10).toInt ≤ d
theorem SaiB.ar {f : Nat → Int32} (h : SaiB f) : (((f 0).toInt = 1 ∧ 1 ≤ (f 2).toInt ∧ (f 2).toInt ≤ 10) ∨ ((f 0).toInt = 0 ∧ (f 3).toInt = 0)) ∧ 0 ≤ (f 3).toInt ∧ (f 3).toInt ≤ 6 ∧ 0 ≤ (f 125).toInt ∧ (f 125).toInt ≤ 10 := h.1
theorem SaiO.ar {f : Nat → Int32} {d : Int} (h : SaiO f d) : ((((f 0).toInt = 1 ∧ 1 ≤ (f 2).toInt ∧ (f 2).toInt ≤ 10) ∨ ((f 0).toInt = 0 ∧ (f 3).toInt = 0)) ∧ 0 ≤ (f 3).toInt ∧ (f 3).toInt ≤ 6 ∧ 0 ≤ (f 125).toInt ∧ (f 125).toInt ≤ 10) ∧ 0 ≤ (f 10).toInt ∧ (f 10).toInt ≤ d := ⟨h.1.1, h.2⟩
theorem SaiB.congr {f g : Nat → Int32} (h : SaiB f) (e : ∀ m, m < 126 → g m = f m) : SaiB g := by
  unfold SaiB at *
  rw [e 0 (by decide), e 2 (by decide), e 3 (by decide), e 125 (by decide)]
  exact ⟨h.1, fun k hk => by rw [e (95 + 3 * k) (by omega)]; exact h.2 k hk⟩
theorem SaiO.congr {f g : Nat → Int32} {d : Int} (h : SaiO f d) (e : ∀ m, m < 126 → g m = f m) : SaiO g d := by
  unfold SaiO at *
  rw [e 10 (by decide)]
  exact ⟨h.1.congr e, h.2⟩
theorem SaiB.keep {f g : Nat → Int32} (h : SaiB f) {i : Nat} {x : Int32} (eg : g = upd f i x) (hi : i = 1 ∨ (4 ≤ i ∧ i < 95)) : SaiB g := by
  subst eg
  unfold SaiB at *
  rw [upd_ne (j := 0) (by omega), upd_ne (j := 2) (by omega), upd_ne (j := 3) (by omega), upd_ne (j := 125) (by omega)]
  exact ⟨h.1, fun k hk => by rw [upd_ne (j := 95 + 3 * k) (by omega)]; exact h.2 k hk⟩
theorem SaiO.keep {f g : Nat → Int32} {d : Int} (h : SaiO f d) {i : Nat} {x : Int32} (eg : g = upd f i x) (hi : i = 1 ∨ (4 ≤ i ∧ i < 10) ∨ (11 ≤ i ∧ i < 95)) : SaiO g d := by
  refine ⟨h.1.keep eg (by omega), ?_⟩
  subst eg
  rw [upd_ne (j := 10) (by omega)]
  exact h.2
theorem SaiB.note {f : Nat → Int32} (h : SaiB f) {i x : Int32} (ex : x = f i.toNatClampNeg) (hi : 95 ≤ i.toInt ∧ i.toInt < 125 ∧ i.toInt % 3 = 2) : 0 ≤ x.toInt ∧ x.toInt ≤ 60 := by
  have e : i.toNatClampNeg = 95 + 3 * ((i.toInt.toNat - 95) / 3) := by
    show i.toInt.toNat = _
    omega
  rw [ex, e]
  exact h.2 _ (by omega)
theorem SaiO.note1 {f g : Nat → Int32} {d : Int} (h : SaiO f d) {i x : Int32} (eg : g = upd f i.toNatClampNeg x) (hi : 95 ≤ i.toInt ∧ i.toInt < 125) (hx : 0 ≤ x.toInt ∧ x.toInt ≤ 60) : SaiO g d := by
  obtain ⟨n, hn⟩ : ∃ n : Nat, i.toNatClampNeg = n := ⟨_, rfl⟩
  have hr : 95 ≤ n ∧ n < 125 := by
    have : i.toNatClampNeg = i.toInt.toNat := rfl
    omega
  rw [hn] at eg
  subst eg
  obtain ⟨⟨h1, h2⟩, h3⟩ := h
  refine ⟨⟨?_, fun k hk => ?_⟩, ?_⟩
  · rw [upd_ne (j := 0) (by omega), upd_ne (j := 2) (by omega), upd_ne (j := 3) (by omega), upd_ne (j := 125) (by omega)]; exact h1
  · by_cases z : 95 + 3 * k = n
    · rw [z, upd_at]; exact hx
    · rw [upd_ne z]; exact h2 k hk
  · rw [upd_ne (j := 10) (by omega)]; exact h3
theorem SaiO.note2 {f g : Nat → Int32} {d : Int} (h : SaiO f d) {i x : Int32} (eg : g = upd f i.toNatClampNeg x) (hi : 95 ≤ i.toInt ∧ i.toInt < 125 ∧ i.toInt % 3 ≠ 2) : SaiO g d := by
  obtain ⟨n, hn⟩ : ∃ n : Nat, i.toNatClampNeg = n := ⟨_, rfl⟩
  have hr : 95 ≤ n ∧ n < 125 ∧ n % 3 ≠ 2 := by
    have : i.toNatClampNeg = i.toInt.toNat := rfl
    omega
  rw [hn] at eg
  subst eg
  obtain ⟨⟨h1, h2⟩, h3⟩ := h
  refine ⟨⟨?_, fun k hk => ?_⟩, ?_⟩
  · rw [upd_ne (j := 0) (by omega), upd_ne (j := 2) (by omega), upd_ne (j := 3) (by omega), upd_ne (j := 125) (by omega)]; exact h1
  · rw [upd_ne (j := 95 + 3 * k) (by omega)]; exact h2 k hk
  · rw [upd_ne (j := 10) (by omega)]; exact h3
theorem SaiO.many {f g : Nat → Int32} {d : Int} (h : SaiO f d) {i : Nat} {x : Int32} (eg : g = upd f i x) (hi : i = 125) (hx : 0 ≤ x.toInt ∧ x.toInt ≤ 10) : SaiO g d := by
  subst hi
  subst eg
  obtain ⟨⟨h1, h2⟩, h3⟩ := h
  refine ⟨⟨?_, fun k hk => ?_⟩, ?_⟩
  · rw [upd_ne (j := 0) (by omega), upd_ne (j := 2) (by omega), upd_ne (j := 3) (by omega), upd_at]; omega
  · rw [upd_ne (j := 95 + 3 * k) (by omega)]; exact h2 k hk
  · rw [upd_ne (j := 10) (by omega)]; exact h3
def SaidB (T : Nat → Option Int32) (f : Nat → Int32) : Prop := SaiB f ∧ ∀ (k : Nat) (v : Int32), (k < 10 ∨ 56 ≤ k) → T k = some v → f k = v
def SaidD (T : Nat → Option Int32) (f : Nat → Int32) (d : Int) : Prop := SaidB T f ∧ 0 ≤ (f 10).toInt ∧ (f 10).toInt ≤ d
theorem SaidB.ar {T : Nat → Option Int32} {f : Nat → Int32} (h : SaidB T f) : (((f 0).toInt = 1 ∧ 1 ≤ (f 2).toInt ∧ (f 2).toInt ≤ 10) ∨ ((f 0).toInt = 0 ∧ (f 3).toInt = 0)) ∧ 0 ≤ (f 3).toInt ∧ (f 3).toInt ≤ 6 ∧ 0 ≤ (f 125).toInt ∧ (f 125).toInt ≤ 10 := h.1.1
theorem SaidD.ar {T : Nat → Option Int32} {f : Nat → Int32} {d : Int} (h : SaidD T f d) : ((((f 0).toInt = 1 ∧ 1 ≤ (f 2).toInt ∧ (f 2).toInt ≤ 10) ∨ ((f 0).toInt = 0 ∧ (f 3).toInt = 0)) ∧ 0 ≤ (f 3).toInt ∧ (f 3).toInt ≤ 6 ∧ 0 ≤ (f 125).toInt ∧ (f 125).toInt ≤ 10) ∧ 0 ≤ (f 10).toInt ∧ (f 10).toInt ≤ d := ⟨h.1.1.1, h.2⟩
theorem SaidB.keep {T : Nat → Option Int32} {f g : Nat → Int32} (h : SaidB T f) {i : Nat} {x : Int32} (eg : g = upd f i x) (hi : 10 ≤ i ∧ i < 56) : SaidB T g :=
  ⟨h.1.keep eg (by omega), fun k v hk hv => by rw [eg, upd_ne (by omega)]; exact h.2 k v hk hv⟩
theorem SaidD.keep {T : Nat → Option Int32} {f g : Nat → Int32} {d : Int} (h : SaidD T f d) {i : Nat} {x : Int32} (eg : g = upd f i x) (hi : 11 ≤ i ∧ i < 56) : SaidD T g d := by
  refine ⟨h.1.keep eg (by omega), ?_⟩
  rw [eg, upd_ne (j := 10) (by omega)]
  exact h.2
theorem SaidD.day {T : Nat → Option Int32} {f g : Nat → Int32} {d : Int} (h : SaidB T f) {i : Nat} {x : Int32} (eg : g = upd f i x) (hi : i = 10) (hx : 0 ≤ x.toInt ∧ x.toInt ≤ d) : SaidD T g d := by
  subst hi
  refine ⟨h.keep eg (by omega), ?_⟩
  rw [eg, upd_at]
  exact hx
def wkT (T : Nat → Option Int32) (i j : Nat) : Nat → Option Int32 := fun k => if k = i ∨ k = j then none else T k
theorem wkT_ne {T : Nat → Option Int32} {i j k : Nat} (h : ¬ (k = i ∨ k = j)) : wkT T i j k = T k := if_neg h
theorem wkT_1 {T : Nat → Option Int32} {i j k : Nat} (h : k = i) : wkT T i j k = none := if_pos (Or.inl h)
theorem wkT_2 {T : Nat → Option Int32} {i j k : Nat} (h : k = j) : wkT T i j k = none := if_pos (Or.inr h)
theorem SaidD.wk {T : Nat → Option Int32} {f : Nat → Int32} {d : Int} {i j : Nat} (h : SaidD T f d) : SaidD (wkT T i j) f d := ⟨⟨h.1.1, fun k v hk hv => by
  by_cases z : k = i ∨ k = j
  · rw [show wkT T i j k = none from if_pos z] at hv; cases hv
  · rw [wkT_ne z] at hv; exact h.1.2 k v hk hv⟩, h.2⟩
theorem SaidD.keepN {T : Nat → Option Int32} {f g : Nat → Int32} {d : Int} (h : SaidD T f d) {i : Nat} {x : Int32} (eg : g = upd f i x) (hi : 56 ≤ i ∧ i < 95) (hn : T i = none) : SaidD T g d := by
  refine ⟨⟨h.1.1.keep eg (by omega), fun k v hk hv => ?_⟩, ?_⟩
  · by_cases z : k = i
    · rw [z, hn] at hv; cases hv
    · rw [eg, upd_ne z]; exact h.1.2 k v hk hv
  · rw [eg, upd_ne (j := 10) (by omega)]
    exact h.2
theorem SaidD.restore {T : Nat → Option Int32} {f0 f g1 g2 : Nat → Int32} {d0 d : Int} {i j a b c e : Nat} {x y : Int32} (h0 : SaidD T f0 d0) (h : SaidD (wkT T i j) f d) (e1 : g1 = upd f a x) (e2 : g2 = upd g1 b y) (ha : a = i) (hb : b = j) (hx : x = f0 c) (hy : y = f0 e) (hc : c = i) (he : e = j) (hi : 56 ≤ i ∧ i < 95) (hj : 56 ≤ j ∧ j < 95) : SaidD T g2 d := by
  refine ⟨⟨SaiB.keep (SaiB.keep h.1.1 e1 (by omega)) e2 (by omega), fun k v hk hv => ?_⟩, ?_⟩
  · have h3 := h0.1.2 k v hk hv
    rw [e2, e1]
    by_cases z : k = b
    · rw [z, upd_at, hy, he, ← hb, ← z]; exact h3
    · rw [upd_ne z]
      by_cases z2 : k = a
      · rw [z2, upd_at, hx, hc, ← ha, ← z2]; exact h3
      · rw [upd_ne z2]
        exact h.1.2 k v hk (by rw [wkT_ne (by omega)]; exact hv)
  · rw [e2, upd_ne (j := 10) (by omega), e1, upd_ne (j := 10) (by omega)]
    exact h.2
theorem SaidD.mono {T : Nat → Option Int32} {f : Nat → Int32} {d d' : Int} (h : SaidD T f d) (hd : d ≤ d') : SaidD T f d' := ⟨h.1, h.2.1, Int.le_trans h.2.2 hd⟩
theorem SaidB.note {T : Nat → Option Int32} {f : Nat → Int32} (h : SaidB T f) {i x : Int32} (ex : x = f i.toNatClampNeg) (hi : 95 ≤ i.toInt ∧ i.toInt < 125 ∧ i.toInt % 3 = 2) : 0 ≤ x.toInt ∧ x.toInt ≤ 60 := h.1.note ex hi
theorem SaidD.o {T : Nat → Option Int32} {f : Nat → Int32} {d : Int} (h : SaidD T f d) : SaiO f d := ⟨h.1.1, h.2⟩
theorem SaiB.tt {f : Nat → Int32} (h : SaiB f) : SaidB (fun k => some (f k)) f := ⟨h, fun _ _ _ e => Option.some.inj e⟩
theorem SaiO.tt {f : Nat → Int32} {d : Int} (h : SaiO f d) : SaidD (fun k => some (f k)) f d := ⟨⟨h.1, fun _ _ _ e => Option.some.inj e⟩, h.2⟩
theorem SaidD.at {T : Nat → Option Int32} {f : Nat → Int32} {d : Int} (h : SaidD T f d) {k : Nat} {v : Int32} (hk : k < 10 ∨ 56 ≤ k) (hv : T k = some v) : f k = v := h.1.2 k v hk hv
def KeptD (k : Nat → Int32) : Prop := 0 ≤ (k 0).toInt ∧ (k 0).toInt ≤ 999
def KeptK (g : Nat → Int32) (k : Int32) : Prop := 1 ≤ k.toInt → KeptD g
theorem KeptK.step {T : Nat → Option Int32} {g g' f : Nat → Int32} {k k' i x : Int32} (h : KeptK g k) (hf : SaidD T f 999) (eg : g' = upd g k.toNatClampNeg x) (ex : x = f i.toNatClampNeg) (hi : i.toInt = 10 + k.toInt) (hk : 0 ≤ k.toInt) : KeptK g' k' := by
  intro _
  subst eg
  unfold KeptD
  by_cases z : k.toInt = 0
  · rw [clN (n := 0) z, upd_at, ex, clN (i := i) (n := 10) (by omega)]
    exact hf.2
  · have e : k.toNatClampNeg = k.toInt.toNat := rfl
    rw [upd_ne (j := 0) (by omega)]
    exact h (by omega)
def LayK (T : Nat → Option Int32) (g : Nat → Int32) (k : Int32) : Prop := SaidB T g ∧ (1 ≤ k.toInt → 0 ≤ (g 10).toInt ∧ (g 10).toInt ≤ 999)
theorem LayK.step {T : Nat → Option Int32} {g g' f : Nat → Int32} {k k' i x : Int32} (h : LayK T g k) (hx : k.toInt = 0 → 0 ≤ x.toInt ∧ x.toInt ≤ 999) (eg : g' = upd g i.toNatClampNeg x) (hi : i.toInt = 10 + k.toInt) (hk : 0 ≤ k.toInt ∧ k.toInt < 46) : LayK T g' k' := by
  have e : i.toNatClampNeg = i.toInt.toNat := rfl
  refine ⟨h.1.keep eg (by omega), fun _ => ?_⟩
  subst eg
  by_cases z : k.toInt = 0
  · rw [clN (i := i) (n := 10) (by omega), upd_at]
    exact hx z
  · rw [upd_ne (j := 10) (by omega)]
    exact h.2 (by omega)
theorem LayK.done {T : Nat → Option Int32} {g : Nat → Int32} {k : Int32} (h : LayK T g k) (hk : 1 ≤ k.toInt) : SaidD T g 999 := ⟨h.1, h.2 hk⟩
theorem KeptD.x {f : Nat → Int32} {k x : Int32} (h : KeptD f) (ex : x = f k.toNatClampNeg) : k.toInt = 0 → 0 ≤ x.toInt ∧ x.toInt ≤ 999 := fun z => by
  rw [ex, clN (n := 0) z]
  exact h
def WasD (w : Nat → Int32) : Prop := ∀ j : Nat, j < 20 → 0 ≤ (w (46 * j)).toInt ∧ (w (46 * j)).toInt ≤ 999
theorem WasD.x {w : Nat → Int32} {j k u x : Int32} (h : WasD w) (ex : x = w j.toNatClampNeg) (hj : j.toInt = 46 * u.toInt + k.toInt) (hu : 0 ≤ u.toInt ∧ u.toInt < 20) : k.toInt = 0 → 0 ≤ x.toInt ∧ x.toInt ≤ 999 := fun z => by
  have e : j.toNatClampNeg = 46 * u.toInt.toNat := by
    show j.toInt.toNat = _
    omega
  rw [ex, e]
  exact h _ (by omega)
theorem WasD.shift {w g : Nat → Int32} {i k x : Int32} (h : WasD w) (eg : g = upd w i.toNatClampNeg x) (ex : x = w k.toNatClampNeg) (hi : i.toInt = k.toInt - 46) (hk : 46 ≤ k.toInt ∧ k.toInt < 920) : WasD g := by
  intro j hj
  subst eg
  have e : i.toNatClampNeg = i.toInt.toNat := rfl
  by_cases z : 46 * j = i.toNatClampNeg
  · rw [z, upd_at, ex]
    have e2 : k.toNatClampNeg = 46 * (j + 1) := by
      show k.toInt.toNat = _
      omega
    rw [e2]
    exact h _ (by omega)
  · rw [upd_ne z]
    exact h j hj
theorem WasD.put {T : Nat → Option Int32} {w g f : Nat → Int32} {i k u j x : Int32} (h : WasD w) (hf : SaidD T f 999) (eg : g = upd w i.toNatClampNeg x) (ex : x = f j.toNatClampNeg) (hi : i.toInt = 46 * u.toInt + k.toInt) (hj : j.toInt = 10 + k.toInt) (hk : 0 ≤ k.toInt ∧ k.toInt < 46) (hu : 0 ≤ u.toInt ∧ u.toInt < 20) : WasD g := by
  intro q hq
  subst eg
  have e : i.toNatClampNeg = i.toInt.toNat := rfl
  by_cases z : 46 * q = i.toNatClampNeg
  · rw [z, upd_at, ex, clN (i := j) (n := 10) (by omega)]
    exact hf.2
  · rw [upd_ne z]
    exact h q hq
def ImgD (g : Nat → Int32) : Prop := ∀ j : Nat, j < 4 → SaiO (fun m => g (126 * j + m)) 999
def ImK (g f : Nat → Int32) (k i : Int32) : Prop := (∀ j : Nat, j < 4 → (j : Int) ≠ k.toInt → SaiO (fun m => g (126 * j + m)) 999) ∧ ∀ m : Nat, (m : Int) < i.toInt → g (126 * k.toInt.toNat + m) = f m
theorem ImK.step {g g' f : Nat → Int32} {k i i' j x : Int32} (h : ImK g f k i) (eg : g' = upd g j.toNatClampNeg x) (ex : x = f i.toNatClampNeg) (hj : j.toInt = 126 * k.toInt + i.toInt) (hi : 0 ≤ i.toInt ∧ i.toInt < 126) (hi' : i'.toInt = i.toInt + 1) (hk : 0 ≤ k.toInt ∧ k.toInt < 4) : ImK g' f k i' := by
  subst eg
  have e : j.toNatClampNeg = j.toInt.toNat := rfl
  refine ⟨fun q hq hne => (h.1 q hq hne).congr (fun m hm => ?_), fun m hm => ?_⟩
  · show upd g j.toNatClampNeg x (126 * q + m) = g (126 * q + m)
    rw [upd_ne (by omega)]
  · by_cases z : (m : Int) = i.toInt
    · have e3 : 126 * k.toInt.toNat + m = j.toNatClampNeg := by omega
      rw [e3, upd_at, ex, clN (n := m) z.symm]
    · rw [upd_ne (by omega)]
      exact h.2 m (by omega)
def BkK (g f : Nat → Int32) (k i : Int32) : Prop := ∀ m : Nat, (m : Int) < i.toInt → g m = f (126 * k.toInt.toNat + m)
theorem BkK.start {g f : Nat → Int32} {k i : Int32} (hi : i.toInt = 0) : BkK g f k i := fun m hm => by omega
theorem BkK.step {g g' f : Nat → Int32} {k i i' j x : Int32} (h : BkK g f k i) (eg : g' = upd g i.toNatClampNeg x) (ex : x = f j.toNatClampNeg) (hj : j.toInt = 126 * k.toInt + i.toInt) (hi : 0 ≤ i.toInt ∧ i.toInt < 126) (hi' : i'.toInt = i.toInt + 1) (hk : 0 ≤ k.toInt ∧ k.toInt < 4) : BkK g' f k i' := by
  subst eg
  intro m hm
  have e : i.toNatClampNeg = i.toInt.toNat := rfl
  by_cases z : (m : Int) = i.toInt
  · have e2 : m = i.toNatClampNeg := by omega
    have e3 : j.toNatClampNeg = 126 * k.toInt.toNat + m := by
      show j.toInt.toNat = _
      omega
    rw [← e3, e2, upd_at, ex]
  · rw [upd_ne (by omega)]
    exact h m (by omega)
theorem BkK.done {g f : Nat → Int32} {k i : Int32} (h : BkK g f k i) (hf : ImgD f) (hi : 126 ≤ i.toInt) (hk : 0 ≤ k.toInt ∧ k.toInt < 4) : SaiO g 999 :=
  (hf k.toInt.toNat (by omega)).congr (fun m hm => h m (by omega))
def FrcD (fr md : Nat → Int32) (n : Int32) : Prop := ∀ k : Nat, k < 4 → (md k).toInt ≠ 0 → -1 ≤ (fr k).toInt ∧ (fr k).toInt < n.toInt
theorem FrcD.put {fr md fr' md' : Nat → Int32} {n k x y : Int32} (h : FrcD fr md n) (e1 : md' = upd md k.toNatClampNeg y) (e2 : fr' = upd fr k.toNatClampNeg x) (hx : -1 ≤ x.toInt ∧ x.toInt < n.toInt) : FrcD fr' md' n := by
  subst e1 e2
  intro j hj hm
  by_cases z : j = k.toNatClampNeg
  · rw [z, upd_at]; exact hx
  · rw [upd_ne z] at hm ⊢
    exact h j hj hm
theorem FrcD.x {fr md : Nat → Int32} {n k x y : Int32} (h : FrcD fr md n) (ey : y = md k.toNatClampNeg) (hy : ¬ y.toInt = 0) (ex : x = fr k.toNatClampNeg) (hk : 0 ≤ k.toInt ∧ k.toInt < 4) : -1 ≤ x.toInt ∧ x.toInt < n.toInt := by
  have e : k.toNatClampNeg = k.toInt.toNat := rfl
  rw [ex]
  exact h _ (by omega) (by rw [← ey]; exact hy)
def stp (e : Int32) (d : Nat) : Option Nat :=
  if (e &&& 15).toInt = 0 then (if d < 60 then some (d + 1) else none)
  else if (e &&& 15).toInt = 1 then (if d < 60 ∧ 0 ≤ (e >>> (4 &&& 31)).toInt ∧ (e >>> (4 &&& 31)).toInt ≤ 12 then some (d + 1) else none)
  else if (e &&& 15).toInt = 11 then (if 1 ≤ d then some d else none)
  else (if 2 ≤ d then some (d - 1) else none)
def dep (f : Nat → Int32) : Nat → Nat → Nat → Option Nat
  | 0, _, d => some d
  | n + 1, a, d => (stp (f a) d).bind (fun e => dep f n (a + 1) e)
theorem stp_le {e : Int32} {d d' : Nat} (h : stp e d = some d') (hd : d ≤ 60) : d' ≤ 60 := by
  unfold stp at h
  split at h
  · split at h
    · cases h; omega
    · cases h
  · split at h
    · split at h
      · cases h; omega
      · cases h
    · split at h
      · split at h
        · cases h; omega
        · cases h
      · split at h
        · cases h; omega
        · cases h
def WFc (f : Nat → Int32) (t b e : Int32) : Prop := (0 ≤ b.toInt ∧ b.toInt ≤ e.toInt ∧ e.toInt ≤ 400) ∧ dep f (e.toInt.toNat - b.toInt.toNat) (400 * t.toInt.toNat + b.toInt.toNat) 0 = some 1
def RK (f : Nat → Int32) (t i e top : Int32) : Prop := (0 ≤ i.toInt ∧ i.toInt ≤ e.toInt ∧ e.toInt ≤ 400 ∧ 0 ≤ top.toInt ∧ top.toInt ≤ 60) ∧ dep f (e.toInt.toNat - i.toInt.toNat) (400 * t.toInt.toNat + i.toInt.toNat) top.toInt.toNat = some 1
theorem RK.ar {f : Nat → Int32} {t i e top : Int32} (h : RK f t i e top) : 0 ≤ i.toInt ∧ i.toInt ≤ e.toInt ∧ e.toInt ≤ 400 ∧ 0 ≤ top.toInt ∧ top.toInt ≤ 60 ∧ (i.toInt = e.toInt → top.toInt = 1) := by
  obtain ⟨h1, h2⟩ := h
  refine ⟨h1.1, h1.2.1, h1.2.2.1, h1.2.2.2.1, h1.2.2.2.2, fun z => ?_⟩
  have e0 : e.toInt.toNat - i.toInt.toNat = 0 := by omega
  rw [e0] at h2
  have := Option.some.inj h2
  omega
theorem RK.start {f : Nat → Int32} {t b e top : Int32} (h : WFc f t b e) (ht : top.toInt = 0) : RK f t b e top := by
  refine ⟨⟨h.1.1, h.1.2.1, h.1.2.2, by omega, by omega⟩, ?_⟩
  rw [ht]
  exact h.2
theorem RK.step {f : Nat → Int32} {t i e top : Int32} (h : RK f t i e top) (hlt : i.toInt < e.toInt) (ht : 0 ≤ t.toInt) {j x : Int32} (hj : j.toInt = 400 * t.toInt + i.toInt) (ex : x = f j.toNatClampNeg) : ∃ d' : Nat, stp x top.toInt.toNat = some d' ∧ dep f (e.toInt.toNat - (i.toInt.toNat + 1)) (400 * t.toInt.toNat + (i.toInt.toNat + 1)) d' = some 1 := by
  obtain ⟨h1, h2⟩ := h
  have e0 : e.toInt.toNat - i.toInt.toNat = (e.toInt.toNat - (i.toInt.toNat + 1)) + 1 := by omega
  rw [e0] at h2
  have e1 : j.toNatClampNeg = 400 * t.toInt.toNat + i.toInt.toNat := by
    show j.toInt.toNat = _
    omega
  rw [e1] at ex
  unfold dep at h2
  rw [← ex] at h2
  cases hs : stp x top.toInt.toNat with
  | none => rw [hs] at h2; cases h2
  | some d' => rw [hs] at h2; exact ⟨d', rfl, h2⟩
theorem RK.cases {f : Nat → Int32} {t i e top : Int32} (h : RK f t i e top) (hlt : i.toInt < e.toInt) (ht : 0 ≤ t.toInt) {j x : Int32} (hj : j.toInt = 400 * t.toInt + i.toInt) (ex : x = f j.toNatClampNeg) : ((x &&& 15).toInt = 0 ∧ top.toInt < 60) ∨ ((x &&& 15).toInt = 1 ∧ top.toInt < 60 ∧ 0 ≤ (x >>> (4 &&& 31)).toInt ∧ (x >>> (4 &&& 31)).toInt ≤ 12) ∨ ((x &&& 15).toInt = 11 ∧ 1 ≤ top.toInt) ∨ ((x &&& 15).toInt ≠ 0 ∧ (x &&& 15).toInt ≠ 1 ∧ (x &&& 15).toInt ≠ 11 ∧ 2 ≤ top.toInt) := by
  obtain ⟨d', hs, -⟩ := h.step hlt ht hj ex
  have h0 := h.1
  unfold stp at hs
  split at hs
  · split at hs
    · left; omega
    · cases hs
  · split at hs
    · split at hs
      · right; left; omega
      · cases hs
    · split at hs
      · split at hs
        · right; right; left; omega
        · cases hs
      · split at hs
        · right; right; right; omega
        · cases hs
theorem RK.next {f : Nat → Int32} {t i e top i' top' : Int32} (h : RK f t i e top) (hlt : i.toInt < e.toInt) (ht : 0 ≤ t.toInt) {j x : Int32} (hj : j.toInt = 400 * t.toInt + i.toInt) (ex : x = f j.toNatClampNeg) (hi : i'.toInt = i.toInt + 1)
    (hc : (((x &&& 15).toInt = 0 ∨ (x &&& 15).toInt = 1) ∧ top'.toInt = top.toInt + 1) ∨ ((x &&& 15).toInt = 11 ∧ top'.toInt = top.toInt) ∨ ((x &&& 15).toInt ≠ 0 ∧ (x &&& 15).toInt ≠ 1 ∧ (x &&& 15).toInt ≠ 11 ∧ top'.toInt = top.toInt - 1)) : RK f t i' e top' := by
  obtain ⟨d', hs, hd⟩ := h.step hlt ht hj ex
  have h0 := h.1
  have hle : d' ≤ 60 := stp_le hs (by omega)
  have ed : top'.toInt = (d' : Int) := by
    unfold stp at hs
    split at hs
    · split at hs
      · cases hs; omega
      · cases hs
    · split at hs
      · split at hs
        · cases hs; omega
        · cases hs
      · split at hs
        · split at hs
          · cases hs; omega
          · cases hs
        · split at hs
          · cases hs; omega
          · cases hs
  refine ⟨by omega, ?_⟩
  have e1 : i'.toInt.toNat = i.toInt.toNat + 1 := by omega
  have e2 : top'.toInt.toNat = d' := by omega
  rw [e1, e2]
  exact hd
def RulD (sg cl cs : Nat → Int32) (n : Int32) : Prop := ∀ t : Nat, (t : Int) < n.toInt → (cs t).toInt ≤ 12 ∧ ∀ c : Nat, (c : Int) < (cs t).toInt → ∀ T : Int32, T.toInt = (t : Int) → WFc sg T (cl (48 * t + 4 * c)) (cl (48 * t + 4 * c + 1)) ∧ (0 ≤ (cl (48 * t + 4 * c + 2)).toInt → WFc sg T (cl (48 * t + 4 * c + 2)) (cl (48 * t + 4 * c + 3)))
theorem RulD.le {sg cl cs : Nat → Int32} {n t x : Int32} (h : RulD sg cl cs n) (ht : 0 ≤ t.toInt ∧ t.toInt < n.toInt) (ex : x = cs t.toNatClampNeg) : x.toInt ≤ 12 := by
  have e : t.toNatClampNeg = t.toInt.toNat := rfl
  rw [ex]
  exact (h _ (by omega)).1
theorem RulD.w {sg cl cs : Nat → Int32} {n t c x : Int32} (h : RulD sg cl cs n) (ht : 0 ≤ t.toInt ∧ t.toInt < n.toInt) (ex : x = cs t.toNatClampNeg) (hc : 0 ≤ c.toInt ∧ c.toInt < x.toInt) {i j p q : Int32} (hi : i.toInt = 48 * t.toInt + 4 * c.toInt) (hj : j.toInt = 48 * t.toInt + 4 * c.toInt + 1) (ep : p = cl i.toNatClampNeg) (eq : q = cl j.toNatClampNeg) : WFc sg t p q := by
  have e : t.toNatClampNeg = t.toInt.toNat := rfl
  have e1 : i.toNatClampNeg = 48 * t.toInt.toNat + 4 * c.toInt.toNat := by
    show i.toInt.toNat = _
    omega
  have e2 : j.toNatClampNeg = 48 * t.toInt.toNat + 4 * c.toInt.toNat + 1 := by
    show j.toInt.toNat = _
    omega
  rw [ep, eq, e1, e2]
  exact ((h _ (by omega)).2 _ (by rw [e] at ex; rw [← ex]; omega) t (by omega)).1
theorem RulD.w2 {sg cl cs : Nat → Int32} {n t c x : Int32} (h : RulD sg cl cs n) (ht : 0 ≤ t.toInt ∧ t.toInt < n.toInt) (ex : x = cs t.toNatClampNeg) (hc : 0 ≤ c.toInt ∧ c.toInt < x.toInt) {i j p q : Int32} (hi : i.toInt = 48 * t.toInt + 4 * c.toInt + 2) (hj : j.toInt = 48 * t.toInt + 4 * c.toInt + 3) (ep : p = cl i.toNatClampNeg) (eq : q = cl j.toNatClampNeg) (hp : 0 ≤ p.toInt) : WFc sg t p q := by
  have e : t.toNatClampNeg = t.toInt.toNat := rfl
  have e1 : i.toNatClampNeg = 48 * t.toInt.toNat + 4 * c.toInt.toNat + 2 := by
    show i.toInt.toNat = _
    omega
  have e2 : j.toNatClampNeg = 48 * t.toInt.toNat + 4 * c.toInt.toNat + 3 := by
    show j.toInt.toNat = _
    omega
  have hq := ((h t.toInt.toNat (by omega)).2 c.toInt.toNat (by rw [e] at ex; rw [← ex]; omega) t (by omega)).2
  rw [ep, e1] at hp
  rw [ep, eq, e1, e2]
  exact hq hp
theorem WFc.ar {f : Nat → Int32} {t b e : Int32} (h : WFc f t b e) : 0 ≤ b.toInt ∧ b.toInt ≤ e.toInt ∧ e.toInt ≤ 400 := h.1
theorem and_dec {x y : Int32} (hy : y = x - 1) (hx : ¬ x = 0) : (x &&& y).toUInt32.toNat < x.toUInt32.toNat := by
  subst hy
  have hb : x.toUInt32 ≠ 0 := fun z => hx (by
    have : x.toUInt32.toInt32 = (0 : UInt32).toInt32 := by rw [z]
    simpa using this)
  have h1 : (x &&& (x - 1)).toUInt32.toNat = x.toUInt32.toNat &&& (x - 1).toUInt32.toNat := rfl
  have h2 : (x - 1).toUInt32.toNat = x.toUInt32.toNat - 1 := by
    have e : (x - 1).toUInt32 = x.toUInt32 - 1 := rfl
    rw [e, UInt32.toNat_sub_of_le]
    · rfl
    · exact UInt32.le_iff_toNat_le.mpr (by
        have : x.toUInt32.toNat ≠ 0 := fun z => hb (UInt32.toNat_inj.mp z)
        show 1 ≤ x.toUInt32.toNat
        omega)
  have h3 : x.toUInt32.toNat ≠ 0 := fun z => hb (UInt32.toNat_inj.mp z)
  rw [h1, h2]
  have := Nat.and_le_right (n := x.toUInt32.toNat) (m := x.toUInt32.toNat - 1)
  omega
theorem SaidD.lt {T : Nat → Option Int32} {f : Nat → Int32} (h : SaidD T f 999) (hx : ¬ (f 10).toInt = 999) : SaidD T f 998 := ⟨h.1, h.2.1, by have := h.2.2; omega⟩
theorem rem_abs {x y : Int32} (h : ¬ y.toInt = 0) : (x - x / y * y).toInt.natAbs < y.toInt.natAbs := by
  rw [rem_toInt, Int.natAbs_tmod]
  exact Nat.mod_lt _ (by omega)
theorem dX12_begins_0 : decode cX12_begins 0 = .ok (.aload_n 0, 1) := by decide +kernel
theorem dX12_begins_1 : decode cX12_begins 1 = .ok (.getfield 39, 3) := by decide +kernel
theorem dX12_begins_4 : decode cX12_begins 4 = .ok (.bipush 10, 2) := by decide +kernel
theorem dX12_begins_6 : decode cX12_begins 6 = .ok (.iconst 0, 1) := by decide +kernel
theorem dX12_begins_7 : decode cX12_begins 7 = .ok (.iastore, 1) := by decide +kernel
theorem dX12_begins_8 : decode cX12_begins 8 = .ok (.aload_n 0, 1) := by decide +kernel
theorem dX12_begins_9 : decode cX12_begins 9 = .ok (.getfield 39, 3) := by decide +kernel
theorem dX12_begins_12 : decode cX12_begins 12 = .ok (.bipush 11, 2) := by decide +kernel
theorem dX12_begins_14 : decode cX12_begins 14 = .ok (.aload_n 0, 1) := by decide +kernel
theorem dX12_begins_15 : decode cX12_begins 15 = .ok (.getfield 39, 3) := by decide +kernel
theorem dX12_begins_18 : decode cX12_begins 18 = .ok (.bipush 94, 2) := by decide +kernel
theorem dX12_begins_20 : decode cX12_begins 20 = .ok (.iaload, 1) := by decide +kernel
theorem dX12_begins_21 : decode cX12_begins 21 = .ok (.iastore, 1) := by decide +kernel
theorem dX12_begins_22 : decode cX12_begins 22 = .ok (.iconst 0, 1) := by decide +kernel
theorem dX12_begins_23 : decode cX12_begins 23 = .ok (.istore_n 1, 1) := by decide +kernel
theorem dX12_begins_24 : decode cX12_begins 24 = .ok (.iload_n 1, 1) := by decide +kernel
theorem dX12_begins_25 : decode cX12_begins 25 = .ok (.bipush 6, 2) := by decide +kernel
theorem dX12_begins_27 : decode cX12_begins 27 = .ok (.if_icmp .ge 58, 3) := by decide +kernel
theorem dX12_begins_30 : decode cX12_begins 30 = .ok (.bipush 12, 2) := by decide +kernel
theorem dX12_begins_32 : decode cX12_begins 32 = .ok (.iconst 4, 1) := by decide +kernel
theorem dX12_begins_33 : decode cX12_begins 33 = .ok (.iload_n 1, 1) := by decide +kernel
theorem dX12_begins_34 : decode cX12_begins 34 = .ok (.imul, 1) := by decide +kernel
theorem dX12_begins_35 : decode cX12_begins 35 = .ok (.iadd, 1) := by decide +kernel
theorem dX12_begins_36 : decode cX12_begins 36 = .ok (.istore_n 2, 1) := by decide +kernel
theorem dX12_begins_37 : decode cX12_begins 37 = .ok (.aload_n 0, 1) := by decide +kernel
theorem dX12_begins_38 : decode cX12_begins 38 = .ok (.getfield 39, 3) := by decide +kernel
theorem dX12_begins_41 : decode cX12_begins 41 = .ok (.iload_n 2, 1) := by decide +kernel
theorem dX12_begins_42 : decode cX12_begins 42 = .ok (.aload_n 0, 1) := by decide +kernel
theorem dX12_begins_43 : decode cX12_begins 43 = .ok (.getfield 39, 3) := by decide +kernel
theorem dX12_begins_46 : decode cX12_begins 46 = .ok (.bipush 68, 2) := by decide +kernel
theorem dX12_begins_48 : decode cX12_begins 48 = .ok (.iload_n 1, 1) := by decide +kernel
theorem dX12_begins_49 : decode cX12_begins 49 = .ok (.iadd, 1) := by decide +kernel
theorem dX12_begins_50 : decode cX12_begins 50 = .ok (.iaload, 1) := by decide +kernel
theorem dX12_begins_51 : decode cX12_begins 51 = .ok (.iastore, 1) := by decide +kernel
theorem dX12_begins_52 : decode cX12_begins 52 = .ok (.aload_n 0, 1) := by decide +kernel
theorem dX12_begins_53 : decode cX12_begins 53 = .ok (.getfield 39, 3) := by decide +kernel
theorem dX12_begins_56 : decode cX12_begins 56 = .ok (.iload_n 2, 1) := by decide +kernel
theorem dX12_begins_57 : decode cX12_begins 57 = .ok (.iconst 1, 1) := by decide +kernel
theorem dX12_begins_58 : decode cX12_begins 58 = .ok (.iadd, 1) := by decide +kernel
theorem dX12_begins_59 : decode cX12_begins 59 = .ok (.iconst 0, 1) := by decide +kernel
theorem dX12_begins_60 : decode cX12_begins 60 = .ok (.iastore, 1) := by decide +kernel
theorem dX12_begins_61 : decode cX12_begins 61 = .ok (.aload_n 0, 1) := by decide +kernel
theorem dX12_begins_62 : decode cX12_begins 62 = .ok (.getfield 39, 3) := by decide +kernel
theorem dX12_begins_65 : decode cX12_begins 65 = .ok (.iload_n 2, 1) := by decide +kernel
theorem dX12_begins_66 : decode cX12_begins 66 = .ok (.iconst 2, 1) := by decide +kernel
theorem dX12_begins_67 : decode cX12_begins 67 = .ok (.iadd, 1) := by decide +kernel
theorem dX12_begins_68 : decode cX12_begins 68 = .ok (.iconst 0, 1) := by decide +kernel
theorem dX12_begins_69 : decode cX12_begins 69 = .ok (.iastore, 1) := by decide +kernel
theorem dX12_begins_70 : decode cX12_begins 70 = .ok (.aload_n 0, 1) := by decide +kernel
theorem dX12_begins_71 : decode cX12_begins 71 = .ok (.getfield 39, 3) := by decide +kernel
theorem dX12_begins_74 : decode cX12_begins 74 = .ok (.iload_n 2, 1) := by decide +kernel
theorem dX12_begins_75 : decode cX12_begins 75 = .ok (.iconst 3, 1) := by decide +kernel
theorem dX12_begins_76 : decode cX12_begins 76 = .ok (.iadd, 1) := by decide +kernel
theorem dX12_begins_77 : decode cX12_begins 77 = .ok (.iconst (-1), 1) := by decide +kernel
theorem dX12_begins_78 : decode cX12_begins 78 = .ok (.iastore, 1) := by decide +kernel
theorem dX12_begins_79 : decode cX12_begins 79 = .ok (.iinc 1 1, 3) := by decide +kernel
theorem dX12_begins_82 : decode cX12_begins 82 = .ok (.goto (-58), 3) := by decide +kernel
theorem dX12_begins_85 : decode cX12_begins 85 = .ok (.iconst 0, 1) := by decide +kernel
theorem dX12_begins_86 : decode cX12_begins 86 = .ok (.istore_n 1, 1) := by decide +kernel
theorem dX12_begins_87 : decode cX12_begins 87 = .ok (.iload_n 1, 1) := by decide +kernel
theorem dX12_begins_88 : decode cX12_begins 88 = .ok (.bipush 10, 2) := by decide +kernel
theorem dX12_begins_90 : decode cX12_begins 90 = .ok (.if_icmp .ge 45, 3) := by decide +kernel
theorem dX12_begins_93 : decode cX12_begins 93 = .ok (.aload_n 0, 1) := by decide +kernel
theorem dX12_begins_94 : decode cX12_begins 94 = .ok (.getfield 39, 3) := by decide +kernel
theorem dX12_begins_97 : decode cX12_begins 97 = .ok (.bipush 36, 2) := by decide +kernel
theorem dX12_begins_99 : decode cX12_begins 99 = .ok (.iload_n 1, 1) := by decide +kernel
theorem dX12_begins_100 : decode cX12_begins 100 = .ok (.iadd, 1) := by decide +kernel
theorem dX12_begins_101 : decode cX12_begins 101 = .ok (.aload_n 0, 1) := by decide +kernel
theorem dX12_begins_102 : decode cX12_begins 102 = .ok (.getfield 39, 3) := by decide +kernel
theorem dX12_begins_105 : decode cX12_begins 105 = .ok (.bipush 74, 2) := by decide +kernel
theorem dX12_begins_107 : decode cX12_begins 107 = .ok (.iload_n 1, 1) := by decide +kernel
theorem dX12_begins_108 : decode cX12_begins 108 = .ok (.iadd, 1) := by decide +kernel
theorem dX12_begins_109 : decode cX12_begins 109 = .ok (.iaload, 1) := by decide +kernel
theorem dX12_begins_110 : decode cX12_begins 110 = .ok (.iastore, 1) := by decide +kernel
theorem dX12_begins_111 : decode cX12_begins 111 = .ok (.aload_n 0, 1) := by decide +kernel
theorem dX12_begins_112 : decode cX12_begins 112 = .ok (.getfield 39, 3) := by decide +kernel
theorem dX12_begins_115 : decode cX12_begins 115 = .ok (.bipush 46, 2) := by decide +kernel
theorem dX12_begins_117 : decode cX12_begins 117 = .ok (.iload_n 1, 1) := by decide +kernel
theorem dX12_begins_118 : decode cX12_begins 118 = .ok (.iadd, 1) := by decide +kernel
theorem dX12_begins_119 : decode cX12_begins 119 = .ok (.aload_n 0, 1) := by decide +kernel
theorem dX12_begins_120 : decode cX12_begins 120 = .ok (.getfield 39, 3) := by decide +kernel
theorem dX12_begins_123 : decode cX12_begins 123 = .ok (.bipush 84, 2) := by decide +kernel
theorem dX12_begins_125 : decode cX12_begins 125 = .ok (.iload_n 1, 1) := by decide +kernel
theorem dX12_begins_126 : decode cX12_begins 126 = .ok (.iadd, 1) := by decide +kernel
theorem dX12_begins_127 : decode cX12_begins 127 = .ok (.iaload, 1) := by decide +kernel
theorem dX12_begins_128 : decode cX12_begins 128 = .ok (.iastore, 1) := by decide +kernel
theorem dX12_begins_129 : decode cX12_begins 129 = .ok (.iinc 1 1, 3) := by decide +kernel
theorem dX12_begins_132 : decode cX12_begins 132 = .ok (.goto (-45), 3) := by decide +kernel
theorem dX12_begins_135 : decode cX12_begins 135 = .ok (.return_, 1) := by decide +kernel
theorem dX12_bits_0 : decode cX12_bits 0 = .ok (.iconst 0, 1) := by decide +kernel
theorem dX12_bits_1 : decode cX12_bits 1 = .ok (.istore_n 1, 1) := by decide +kernel
theorem dX12_bits_2 : decode cX12_bits 2 = .ok (.iload_n 0, 1) := by decide +kernel
theorem dX12_bits_3 : decode cX12_bits 3 = .ok (.istore_n 2, 1) := by decide +kernel
theorem dX12_bits_4 : decode cX12_bits 4 = .ok (.iload_n 2, 1) := by decide +kernel
theorem dX12_bits_5 : decode cX12_bits 5 = .ok (.ifCond .eq 15, 3) := by decide +kernel
theorem dX12_bits_8 : decode cX12_bits 8 = .ok (.iinc 1 1, 3) := by decide +kernel
theorem dX12_bits_11 : decode cX12_bits 11 = .ok (.iload_n 2, 1) := by decide +kernel
theorem dX12_bits_12 : decode cX12_bits 12 = .ok (.iload_n 2, 1) := by decide +kernel
theorem dX12_bits_13 : decode cX12_bits 13 = .ok (.iconst 1, 1) := by decide +kernel
theorem dX12_bits_14 : decode cX12_bits 14 = .ok (.isub, 1) := by decide +kernel
theorem dX12_bits_15 : decode cX12_bits 15 = .ok (.iand, 1) := by decide +kernel
theorem dX12_bits_16 : decode cX12_bits 16 = .ok (.istore_n 2, 1) := by decide +kernel
theorem dX12_bits_17 : decode cX12_bits 17 = .ok (.goto (-13), 3) := by decide +kernel
theorem dX12_bits_20 : decode cX12_bits 20 = .ok (.iload_n 1, 1) := by decide +kernel
theorem dX12_bits_21 : decode cX12_bits 21 = .ok (.ireturn, 1) := by decide +kernel
theorem dX12_boughtBy_0 : decode cX12_boughtBy 0 = .ok (.aload_n 0, 1) := by decide +kernel
theorem dX12_boughtBy_1 : decode cX12_boughtBy 1 = .ok (.getfield 39, 3) := by decide +kernel
theorem dX12_boughtBy_4 : decode cX12_boughtBy 4 = .ok (.bipush 12, 2) := by decide +kernel
theorem dX12_boughtBy_6 : decode cX12_boughtBy 6 = .ok (.iconst 4, 1) := by decide +kernel
theorem dX12_boughtBy_7 : decode cX12_boughtBy 7 = .ok (.iload_n 1, 1) := by decide +kernel
theorem dX12_boughtBy_8 : decode cX12_boughtBy 8 = .ok (.imul, 1) := by decide +kernel
theorem dX12_boughtBy_9 : decode cX12_boughtBy 9 = .ok (.iadd, 1) := by decide +kernel
theorem dX12_boughtBy_10 : decode cX12_boughtBy 10 = .ok (.iconst 1, 1) := by decide +kernel
theorem dX12_boughtBy_11 : decode cX12_boughtBy 11 = .ok (.iadd, 1) := by decide +kernel
theorem dX12_boughtBy_12 : decode cX12_boughtBy 12 = .ok (.iaload, 1) := by decide +kernel
theorem dX12_boughtBy_13 : decode cX12_boughtBy 13 = .ok (.ireturn, 1) := by decide +kernel
theorem dX12_canBuy_0 : decode cX12_canBuy 0 = .ok (.aload_n 0, 1) := by decide +kernel
theorem dX12_canBuy_1 : decode cX12_canBuy 1 = .ok (.getfield 39, 3) := by decide +kernel
theorem dX12_canBuy_4 : decode cX12_canBuy 4 = .ok (.bipush 11, 2) := by decide +kernel
theorem dX12_canBuy_6 : decode cX12_canBuy 6 = .ok (.iaload, 1) := by decide +kernel
theorem dX12_canBuy_7 : decode cX12_canBuy 7 = .ok (.aload_n 0, 1) := by decide +kernel
theorem dX12_canBuy_8 : decode cX12_canBuy 8 = .ok (.getfield 39, 3) := by decide +kernel
theorem dX12_canBuy_11 : decode cX12_canBuy 11 = .ok (.bipush 56, 2) := by decide +kernel
theorem dX12_canBuy_13 : decode cX12_canBuy 13 = .ok (.iload_n 1, 1) := by decide +kernel
theorem dX12_canBuy_14 : decode cX12_canBuy 14 = .ok (.iadd, 1) := by decide +kernel
theorem dX12_canBuy_15 : decode cX12_canBuy 15 = .ok (.iaload, 1) := by decide +kernel
theorem dX12_canBuy_16 : decode cX12_canBuy 16 = .ok (.if_icmp .lt 40, 3) := by decide +kernel
theorem dX12_canBuy_19 : decode cX12_canBuy 19 = .ok (.aload_n 0, 1) := by decide +kernel
theorem dX12_canBuy_20 : decode cX12_canBuy 20 = .ok (.iload_n 1, 1) := by decide +kernel
theorem dX12_canBuy_21 : decode cX12_canBuy 21 = .ok (.invokevirtual 286, 3) := by decide +kernel
theorem dX12_canBuy_24 : decode cX12_canBuy 24 = .ok (.ifCond .lt 28, 3) := by decide +kernel
theorem dX12_canBuy_27 : decode cX12_canBuy 27 = .ok (.aload_n 0, 1) := by decide +kernel
theorem dX12_canBuy_28 : decode cX12_canBuy 28 = .ok (.getfield 39, 3) := by decide +kernel
theorem dX12_canBuy_31 : decode cX12_canBuy 31 = .ok (.bipush 10, 2) := by decide +kernel
theorem dX12_canBuy_33 : decode cX12_canBuy 33 = .ok (.iaload, 1) := by decide +kernel
theorem dX12_canBuy_34 : decode cX12_canBuy 34 = .ok (.aload_n 0, 1) := by decide +kernel
theorem dX12_canBuy_35 : decode cX12_canBuy 35 = .ok (.iload_n 1, 1) := by decide +kernel
theorem dX12_canBuy_36 : decode cX12_canBuy 36 = .ok (.invokevirtual 286, 3) := by decide +kernel
theorem dX12_canBuy_39 : decode cX12_canBuy 39 = .ok (.isub, 1) := by decide +kernel
theorem dX12_canBuy_40 : decode cX12_canBuy 40 = .ok (.aload_n 0, 1) := by decide +kernel
theorem dX12_canBuy_41 : decode cX12_canBuy 41 = .ok (.getfield 39, 3) := by decide +kernel
theorem dX12_canBuy_44 : decode cX12_canBuy 44 = .ok (.bipush 62, 2) := by decide +kernel
theorem dX12_canBuy_46 : decode cX12_canBuy 46 = .ok (.iload_n 1, 1) := by decide +kernel
theorem dX12_canBuy_47 : decode cX12_canBuy 47 = .ok (.iadd, 1) := by decide +kernel
theorem dX12_canBuy_48 : decode cX12_canBuy 48 = .ok (.iaload, 1) := by decide +kernel
theorem dX12_canBuy_49 : decode cX12_canBuy 49 = .ok (.if_icmp .le 7, 3) := by decide +kernel
theorem dX12_canBuy_52 : decode cX12_canBuy 52 = .ok (.iconst 1, 1) := by decide +kernel
theorem dX12_canBuy_53 : decode cX12_canBuy 53 = .ok (.goto 4, 3) := by decide +kernel
theorem dX12_canBuy_56 : decode cX12_canBuy 56 = .ok (.iconst 0, 1) := by decide +kernel
theorem dX12_canBuy_57 : decode cX12_canBuy 57 = .ok (.ireturn, 1) := by decide +kernel
theorem dX12_clock_0 : decode cX12_clock 0 = .ok (.aload_n 0, 1) := by decide +kernel
theorem dX12_clock_1 : decode cX12_clock 1 = .ok (.invokevirtual 283, 3) := by decide +kernel
theorem dX12_clock_4 : decode cX12_clock 4 = .ok (.ifCond .eq 20, 3) := by decide +kernel
theorem dX12_clock_7 : decode cX12_clock 7 = .ok (.aload_n 0, 1) := by decide +kernel
theorem dX12_clock_8 : decode cX12_clock 8 = .ok (.getfield 39, 3) := by decide +kernel
theorem dX12_clock_11 : decode cX12_clock 11 = .ok (.bipush 10, 2) := by decide +kernel
theorem dX12_clock_13 : decode cX12_clock 13 = .ok (.iaload, 1) := by decide +kernel
theorem dX12_clock_14 : decode cX12_clock 14 = .ok (.aload_n 0, 1) := by decide +kernel
theorem dX12_clock_15 : decode cX12_clock 15 = .ok (.getfield 39, 3) := by decide +kernel
theorem dX12_clock_18 : decode cX12_clock 18 = .ok (.iconst 2, 1) := by decide +kernel
theorem dX12_clock_19 : decode cX12_clock 19 = .ok (.iaload, 1) := by decide +kernel
theorem dX12_clock_20 : decode cX12_clock 20 = .ok (.irem, 1) := by decide +kernel
theorem dX12_clock_21 : decode cX12_clock 21 = .ok (.goto 4, 3) := by decide +kernel
theorem dX12_clock_24 : decode cX12_clock 24 = .ok (.iconst 0, 1) := by decide +kernel
theorem dX12_clock_25 : decode cX12_clock 25 = .ok (.ireturn, 1) := by decide +kernel
theorem dX12_comes_0 : decode cX12_comes 0 = .ok (.aload_n 0, 1) := by decide +kernel
theorem dX12_comes_1 : decode cX12_comes 1 = .ok (.iload_n 1, 1) := by decide +kernel
theorem dX12_comes_2 : decode cX12_comes 2 = .ok (.invokevirtual 330, 3) := by decide +kernel
theorem dX12_comes_5 : decode cX12_comes 5 = .ok (.ifCond .eq 42, 3) := by decide +kernel
theorem dX12_comes_8 : decode cX12_comes 8 = .ok (.aload_n 0, 1) := by decide +kernel
theorem dX12_comes_9 : decode cX12_comes 9 = .ok (.getfield 39, 3) := by decide +kernel
theorem dX12_comes_12 : decode cX12_comes 12 = .ok (.bipush 12, 2) := by decide +kernel
theorem dX12_comes_14 : decode cX12_comes 14 = .ok (.iconst 4, 1) := by decide +kernel
theorem dX12_comes_15 : decode cX12_comes 15 = .ok (.iload_n 1, 1) := by decide +kernel
theorem dX12_comes_16 : decode cX12_comes 16 = .ok (.imul, 1) := by decide +kernel
theorem dX12_comes_17 : decode cX12_comes 17 = .ok (.iadd, 1) := by decide +kernel
theorem dX12_comes_18 : decode cX12_comes 18 = .ok (.iconst 2, 1) := by decide +kernel
theorem dX12_comes_19 : decode cX12_comes 19 = .ok (.iadd, 1) := by decide +kernel
theorem dX12_comes_20 : decode cX12_comes 20 = .ok (.dup2, 1) := by decide +kernel
theorem dX12_comes_21 : decode cX12_comes 21 = .ok (.iaload, 1) := by decide +kernel
theorem dX12_comes_22 : decode cX12_comes 22 = .ok (.iconst 1, 1) := by decide +kernel
theorem dX12_comes_23 : decode cX12_comes 23 = .ok (.iadd, 1) := by decide +kernel
theorem dX12_comes_24 : decode cX12_comes 24 = .ok (.iastore, 1) := by decide +kernel
theorem dX12_comes_25 : decode cX12_comes 25 = .ok (.aload_n 0, 1) := by decide +kernel
theorem dX12_comes_26 : decode cX12_comes 26 = .ok (.getfield 39, 3) := by decide +kernel
theorem dX12_comes_29 : decode cX12_comes 29 = .ok (.bipush 12, 2) := by decide +kernel
theorem dX12_comes_31 : decode cX12_comes 31 = .ok (.iconst 4, 1) := by decide +kernel
theorem dX12_comes_32 : decode cX12_comes 32 = .ok (.iload_n 1, 1) := by decide +kernel
theorem dX12_comes_33 : decode cX12_comes 33 = .ok (.imul, 1) := by decide +kernel
theorem dX12_comes_34 : decode cX12_comes 34 = .ok (.iadd, 1) := by decide +kernel
theorem dX12_comes_35 : decode cX12_comes 35 = .ok (.iconst 3, 1) := by decide +kernel
theorem dX12_comes_36 : decode cX12_comes 36 = .ok (.iadd, 1) := by decide +kernel
theorem dX12_comes_37 : decode cX12_comes 37 = .ok (.aload_n 0, 1) := by decide +kernel
theorem dX12_comes_38 : decode cX12_comes 38 = .ok (.getfield 39, 3) := by decide +kernel
theorem dX12_comes_41 : decode cX12_comes 41 = .ok (.bipush 10, 2) := by decide +kernel
theorem dX12_comes_43 : decode cX12_comes 43 = .ok (.iaload, 1) := by decide +kernel
theorem dX12_comes_44 : decode cX12_comes 44 = .ok (.iastore, 1) := by decide +kernel
theorem dX12_comes_45 : decode cX12_comes 45 = .ok (.iconst 0, 1) := by decide +kernel
theorem dX12_comes_46 : decode cX12_comes 46 = .ok (.ireturn, 1) := by decide +kernel
theorem dX12_comes_47 : decode cX12_comes 47 = .ok (.aload_n 0, 1) := by decide +kernel
theorem dX12_comes_48 : decode cX12_comes 48 = .ok (.iload_n 1, 1) := by decide +kernel
theorem dX12_comes_49 : decode cX12_comes 49 = .ok (.invokevirtual 333, 3) := by decide +kernel
theorem dX12_comes_52 : decode cX12_comes 52 = .ok (.iconst 1, 1) := by decide +kernel
theorem dX12_comes_53 : decode cX12_comes 53 = .ok (.ireturn, 1) := by decide +kernel
theorem dX12_end_0 : decode cX12_end 0 = .ok (.iload_n 1, 1) := by decide +kernel
theorem dX12_end_1 : decode cX12_end 1 = .ok (.ifCond .lt 11, 3) := by decide +kernel
theorem dX12_end_4 : decode cX12_end 4 = .ok (.iload_n 1, 1) := by decide +kernel
theorem dX12_end_5 : decode cX12_end 5 = .ok (.aload_n 0, 1) := by decide +kernel
theorem dX12_end_6 : decode cX12_end 6 = .ok (.getfield 77, 3) := by decide +kernel
theorem dX12_end_9 : decode cX12_end 9 = .ok (.if_icmp .le 5, 3) := by decide +kernel
theorem dX12_end_12 : decode cX12_end 12 = .ok (.iconst (-1), 1) := by decide +kernel
theorem dX12_end_13 : decode cX12_end 13 = .ok (.ireturn, 1) := by decide +kernel
theorem dX12_end_14 : decode cX12_end 14 = .ok (.aload_n 0, 1) := by decide +kernel
theorem dX12_end_15 : decode cX12_end 15 = .ok (.iload_n 1, 1) := by decide +kernel
theorem dX12_end_16 : decode cX12_end 16 = .ok (.putfield 77, 3) := by decide +kernel
theorem dX12_end_19 : decode cX12_end 19 = .ok (.iload_n 1, 1) := by decide +kernel
theorem dX12_end_20 : decode cX12_end 20 = .ok (.ireturn, 1) := by decide +kernel
theorem dX12_feed_0 : decode cX12_feed 0 = .ok (.aload_n 0, 1) := by decide +kernel
theorem dX12_feed_1 : decode cX12_feed 1 = .ok (.getfield 77, 3) := by decide +kernel
theorem dX12_feed_4 : decode cX12_feed 4 = .ok (.bipush 20, 2) := by decide +kernel
theorem dX12_feed_6 : decode cX12_feed 6 = .ok (.iadd, 1) := by decide +kernel
theorem dX12_feed_7 : decode cX12_feed 7 = .ok (.sipush 400, 3) := by decide +kernel
theorem dX12_feed_10 : decode cX12_feed 10 = .ok (.if_icmp .le 5, 3) := by decide +kernel
theorem dX12_feed_13 : decode cX12_feed 13 = .ok (.iconst (-1), 1) := by decide +kernel
theorem dX12_feed_14 : decode cX12_feed 14 = .ok (.ireturn, 1) := by decide +kernel
theorem dX12_feed_15 : decode cX12_feed 15 = .ok (.aload_n 0, 1) := by decide +kernel
theorem dX12_feed_16 : decode cX12_feed 16 = .ok (.iload_n 1, 1) := by decide +kernel
theorem dX12_feed_17 : decode cX12_feed 17 = .ok (.invokevirtual 80, 3) := by decide +kernel
theorem dX12_feed_20 : decode cX12_feed 20 = .ok (.aload_n 0, 1) := by decide +kernel
theorem dX12_feed_21 : decode cX12_feed 21 = .ok (.iload_n 2, 1) := by decide +kernel
theorem dX12_feed_22 : decode cX12_feed 22 = .ok (.invokevirtual 80, 3) := by decide +kernel
theorem dX12_feed_25 : decode cX12_feed 25 = .ok (.aload_n 0, 1) := by decide +kernel
theorem dX12_feed_26 : decode cX12_feed 26 = .ok (.iload_n 3, 1) := by decide +kernel
theorem dX12_feed_27 : decode cX12_feed 27 = .ok (.invokevirtual 80, 3) := by decide +kernel
theorem dX12_feed_30 : decode cX12_feed 30 = .ok (.aload_n 0, 1) := by decide +kernel
theorem dX12_feed_31 : decode cX12_feed 31 = .ok (.iload 4, 2) := by decide +kernel
theorem dX12_feed_33 : decode cX12_feed 33 = .ok (.invokevirtual 80, 3) := by decide +kernel
theorem dX12_feed_36 : decode cX12_feed 36 = .ok (.aload_n 0, 1) := by decide +kernel
theorem dX12_feed_37 : decode cX12_feed 37 = .ok (.iload 5, 2) := by decide +kernel
theorem dX12_feed_39 : decode cX12_feed 39 = .ok (.invokevirtual 80, 3) := by decide +kernel
theorem dX12_feed_42 : decode cX12_feed 42 = .ok (.aload_n 0, 1) := by decide +kernel
theorem dX12_feed_43 : decode cX12_feed 43 = .ok (.getfield 77, 3) := by decide +kernel
theorem dX12_feed_46 : decode cX12_feed 46 = .ok (.ireturn, 1) := by decide +kernel
theorem dX12_four_0 : decode cX12_four 0 = .ok (.bipush 24, 2) := by decide +kernel
theorem dX12_four_2 : decode cX12_four 2 = .ok (.istore_n 2, 1) := by decide +kernel
theorem dX12_four_3 : decode cX12_four 3 = .ok (.iload_n 2, 1) := by decide +kernel
theorem dX12_four_4 : decode cX12_four 4 = .ok (.ifCond .lt 32, 3) := by decide +kernel
theorem dX12_four_7 : decode cX12_four 7 = .ok (.aload_n 0, 1) := by decide +kernel
theorem dX12_four_8 : decode cX12_four 8 = .ok (.getfield 7, 3) := by decide +kernel
theorem dX12_four_11 : decode cX12_four 11 = .ok (.aload_n 0, 1) := by decide +kernel
theorem dX12_four_12 : decode cX12_four 12 = .ok (.getfield 77, 3) := by decide +kernel
theorem dX12_four_15 : decode cX12_four 15 = .ok (.iload_n 1, 1) := by decide +kernel
theorem dX12_four_16 : decode cX12_four 16 = .ok (.iload_n 2, 1) := by decide +kernel
theorem dX12_four_17 : decode cX12_four 17 = .ok (.ishr, 1) := by decide +kernel
theorem dX12_four_18 : decode cX12_four 18 = .ok (.i2b, 1) := by decide +kernel
theorem dX12_four_19 : decode cX12_four 19 = .ok (.bastore, 1) := by decide +kernel
theorem dX12_four_20 : decode cX12_four 20 = .ok (.aload_n 0, 1) := by decide +kernel
theorem dX12_four_21 : decode cX12_four 21 = .ok (.dup, 1) := by decide +kernel
theorem dX12_four_22 : decode cX12_four 22 = .ok (.getfield 77, 3) := by decide +kernel
theorem dX12_four_25 : decode cX12_four 25 = .ok (.iconst 1, 1) := by decide +kernel
theorem dX12_four_26 : decode cX12_four 26 = .ok (.iadd, 1) := by decide +kernel
theorem dX12_four_27 : decode cX12_four 27 = .ok (.putfield 77, 3) := by decide +kernel
theorem dX12_four_30 : decode cX12_four 30 = .ok (.iinc 2 (-8), 3) := by decide +kernel
theorem dX12_four_33 : decode cX12_four 33 = .ok (.goto (-30), 3) := by decide +kernel
theorem dX12_four_36 : decode cX12_four 36 = .ok (.return_, 1) := by decide +kernel
theorem dX12_in_0 : decode cX12_in 0 = .ok (.lload_n 0, 1) := by decide +kernel
theorem dX12_in_1 : decode cX12_in 1 = .ok (.lload_n 2, 1) := by decide +kernel
theorem dX12_in_2 : decode cX12_in 2 = .ok (.lcmp, 1) := by decide +kernel
theorem dX12_in_3 : decode cX12_in 3 = .ok (.ifCond .lt 14, 3) := by decide +kernel
theorem dX12_in_6 : decode cX12_in 6 = .ok (.lload_n 0, 1) := by decide +kernel
theorem dX12_in_7 : decode cX12_in 7 = .ok (.lload 4, 2) := by decide +kernel
theorem dX12_in_9 : decode cX12_in 9 = .ok (.lcmp, 1) := by decide +kernel
theorem dX12_in_10 : decode cX12_in 10 = .ok (.ifCond .gt 7, 3) := by decide +kernel
theorem dX12_in_13 : decode cX12_in 13 = .ok (.iconst 1, 1) := by decide +kernel
theorem dX12_in_14 : decode cX12_in 14 = .ok (.goto 4, 3) := by decide +kernel
theorem dX12_in_17 : decode cX12_in 17 = .ok (.iconst 0, 1) := by decide +kernel
theorem dX12_in_18 : decode cX12_in 18 = .ok (.ireturn, 1) := by decide +kernel
theorem dX12_isBook_0 : decode cX12_isBook 0 = .ok (.aload_n 0, 1) := by decide +kernel
theorem dX12_isBook_1 : decode cX12_isBook 1 = .ok (.getfield 39, 3) := by decide +kernel
theorem dX12_isBook_4 : decode cX12_isBook 4 = .ok (.iconst 0, 1) := by decide +kernel
theorem dX12_isBook_5 : decode cX12_isBook 5 = .ok (.iaload, 1) := by decide +kernel
theorem dX12_isBook_6 : decode cX12_isBook 6 = .ok (.iconst 1, 1) := by decide +kernel
theorem dX12_isBook_7 : decode cX12_isBook 7 = .ok (.if_icmp .ne 7, 3) := by decide +kernel
theorem dX12_isBook_10 : decode cX12_isBook 10 = .ok (.iconst 1, 1) := by decide +kernel
theorem dX12_isBook_11 : decode cX12_isBook 11 = .ok (.goto 4, 3) := by decide +kernel
theorem dX12_isBook_14 : decode cX12_isBook 14 = .ok (.iconst 0, 1) := by decide +kernel
theorem dX12_isBook_15 : decode cX12_isBook 15 = .ok (.ireturn, 1) := by decide +kernel
theorem dX12_isBuyer_0 : decode cX12_isBuyer 0 = .ok (.iload_n 1, 1) := by decide +kernel
theorem dX12_isBuyer_1 : decode cX12_isBuyer 1 = .ok (.ifCond .lt 17, 3) := by decide +kernel
theorem dX12_isBuyer_4 : decode cX12_isBuyer 4 = .ok (.iload_n 1, 1) := by decide +kernel
theorem dX12_isBuyer_5 : decode cX12_isBuyer 5 = .ok (.aload_n 0, 1) := by decide +kernel
theorem dX12_isBuyer_6 : decode cX12_isBuyer 6 = .ok (.getfield 39, 3) := by decide +kernel
theorem dX12_isBuyer_9 : decode cX12_isBuyer 9 = .ok (.iconst 3, 1) := by decide +kernel
theorem dX12_isBuyer_10 : decode cX12_isBuyer 10 = .ok (.iaload, 1) := by decide +kernel
theorem dX12_isBuyer_11 : decode cX12_isBuyer 11 = .ok (.if_icmp .ge 7, 3) := by decide +kernel
theorem dX12_isBuyer_14 : decode cX12_isBuyer 14 = .ok (.iconst 1, 1) := by decide +kernel
theorem dX12_isBuyer_15 : decode cX12_isBuyer 15 = .ok (.goto 4, 3) := by decide +kernel
theorem dX12_isBuyer_18 : decode cX12_isBuyer 18 = .ok (.iconst 0, 1) := by decide +kernel
theorem dX12_isBuyer_19 : decode cX12_isBuyer 19 = .ok (.ireturn, 1) := by decide +kernel
theorem dX12_isClock_0 : decode cX12_isClock 0 = .ok (.aload_n 0, 1) := by decide +kernel
theorem dX12_isClock_1 : decode cX12_isClock 1 = .ok (.invokevirtual 283, 3) := by decide +kernel
theorem dX12_isClock_4 : decode cX12_isClock 4 = .ok (.ifCond .eq 21, 3) := by decide +kernel
theorem dX12_isClock_7 : decode cX12_isClock 7 = .ok (.iload_n 1, 1) := by decide +kernel
theorem dX12_isClock_8 : decode cX12_isClock 8 = .ok (.ifCond .lt 17, 3) := by decide +kernel
theorem dX12_isClock_11 : decode cX12_isClock 11 = .ok (.iload_n 1, 1) := by decide +kernel
theorem dX12_isClock_12 : decode cX12_isClock 12 = .ok (.aload_n 0, 1) := by decide +kernel
theorem dX12_isClock_13 : decode cX12_isClock 13 = .ok (.getfield 39, 3) := by decide +kernel
theorem dX12_isClock_16 : decode cX12_isClock 16 = .ok (.iconst 2, 1) := by decide +kernel
theorem dX12_isClock_17 : decode cX12_isClock 17 = .ok (.iaload, 1) := by decide +kernel
theorem dX12_isClock_18 : decode cX12_isClock 18 = .ok (.if_icmp .ge 7, 3) := by decide +kernel
theorem dX12_isClock_21 : decode cX12_isClock 21 = .ok (.iconst 1, 1) := by decide +kernel
theorem dX12_isClock_22 : decode cX12_isClock 22 = .ok (.goto 4, 3) := by decide +kernel
theorem dX12_isClock_25 : decode cX12_isClock 25 = .ok (.iconst 0, 1) := by decide +kernel
theorem dX12_isClock_26 : decode cX12_isClock 26 = .ok (.ireturn, 1) := by decide +kernel
theorem dX12_isMet_0 : decode cX12_isMet 0 = .ok (.aload_n 0, 1) := by decide +kernel
theorem dX12_isMet_1 : decode cX12_isMet 1 = .ok (.getfield 324, 3) := by decide +kernel
theorem dX12_isMet_4 : decode cX12_isMet 4 = .ok (.aload_n 0, 1) := by decide +kernel
theorem dX12_isMet_5 : decode cX12_isMet 5 = .ok (.invokevirtual 314, 3) := by decide +kernel
theorem dX12_isMet_8 : decode cX12_isMet 8 = .ok (.invokestatic 327, 3) := by decide +kernel
theorem dX12_isMet_11 : decode cX12_isMet 11 = .ok (.ifCond .ne 22, 3) := by decide +kernel
theorem dX12_isMet_14 : decode cX12_isMet 14 = .ok (.aload_n 0, 1) := by decide +kernel
theorem dX12_isMet_15 : decode cX12_isMet 15 = .ok (.getfield 39, 3) := by decide +kernel
theorem dX12_isMet_18 : decode cX12_isMet 18 = .ok (.bipush 46, 2) := by decide +kernel
theorem dX12_isMet_20 : decode cX12_isMet 20 = .ok (.aload_n 0, 1) := by decide +kernel
theorem dX12_isMet_21 : decode cX12_isMet 21 = .ok (.invokevirtual 314, 3) := by decide +kernel
theorem dX12_isMet_24 : decode cX12_isMet 24 = .ok (.iadd, 1) := by decide +kernel
theorem dX12_isMet_25 : decode cX12_isMet 25 = .ok (.iaload, 1) := by decide +kernel
theorem dX12_isMet_26 : decode cX12_isMet 26 = .ok (.iload_n 1, 1) := by decide +kernel
theorem dX12_isMet_27 : decode cX12_isMet 27 = .ok (.invokestatic 327, 3) := by decide +kernel
theorem dX12_isMet_30 : decode cX12_isMet 30 = .ok (.ifCond .eq 7, 3) := by decide +kernel
theorem dX12_isMet_33 : decode cX12_isMet 33 = .ok (.iconst 1, 1) := by decide +kernel
theorem dX12_isMet_34 : decode cX12_isMet 34 = .ok (.goto 4, 3) := by decide +kernel
theorem dX12_isMet_37 : decode cX12_isMet 37 = .ok (.iconst 0, 1) := by decide +kernel
theorem dX12_isMet_38 : decode cX12_isMet 38 = .ok (.ireturn, 1) := by decide +kernel
theorem dX12_isOf_0 : decode cX12_isOf 0 = .ok (.iload_n 0, 1) := by decide +kernel
theorem dX12_isOf_1 : decode cX12_isOf 1 = .ok (.iload_n 1, 1) := by decide +kernel
theorem dX12_isOf_2 : decode cX12_isOf 2 = .ok (.ishr, 1) := by decide +kernel
theorem dX12_isOf_3 : decode cX12_isOf 3 = .ok (.iconst 1, 1) := by decide +kernel
theorem dX12_isOf_4 : decode cX12_isOf 4 = .ok (.iand, 1) := by decide +kernel
theorem dX12_isOf_5 : decode cX12_isOf 5 = .ok (.iconst 1, 1) := by decide +kernel
theorem dX12_isOf_6 : decode cX12_isOf 6 = .ok (.if_icmp .ne 7, 3) := by decide +kernel
theorem dX12_isOf_9 : decode cX12_isOf 9 = .ok (.iconst 1, 1) := by decide +kernel
theorem dX12_isOf_10 : decode cX12_isOf 10 = .ok (.goto 4, 3) := by decide +kernel
theorem dX12_isOf_13 : decode cX12_isOf 13 = .ok (.iconst 0, 1) := by decide +kernel
theorem dX12_isOf_14 : decode cX12_isOf 14 = .ok (.ireturn, 1) := by decide +kernel
theorem dX12_isRule_0 : decode cX12_isRule 0 = .ok (.iload_n 1, 1) := by decide +kernel
theorem dX12_isRule_1 : decode cX12_isRule 1 = .ok (.ifCond .lt 15, 3) := by decide +kernel
theorem dX12_isRule_4 : decode cX12_isRule 4 = .ok (.iload_n 1, 1) := by decide +kernel
theorem dX12_isRule_5 : decode cX12_isRule 5 = .ok (.aload_n 0, 1) := by decide +kernel
theorem dX12_isRule_6 : decode cX12_isRule 6 = .ok (.getfield 256, 3) := by decide +kernel
theorem dX12_isRule_9 : decode cX12_isRule 9 = .ok (.if_icmp .ge 7, 3) := by decide +kernel
theorem dX12_isRule_12 : decode cX12_isRule 12 = .ok (.iconst 1, 1) := by decide +kernel
theorem dX12_isRule_13 : decode cX12_isRule 13 = .ok (.goto 4, 3) := by decide +kernel
theorem dX12_isRule_16 : decode cX12_isRule 16 = .ok (.iconst 0, 1) := by decide +kernel
theorem dX12_isRule_17 : decode cX12_isRule 17 = .ok (.ireturn, 1) := by decide +kernel
theorem dX12_isWilling_0 : decode cX12_isWilling 0 = .ok (.aload_n 0, 1) := by decide +kernel
theorem dX12_isWilling_1 : decode cX12_isWilling 1 = .ok (.getfield 39, 3) := by decide +kernel
theorem dX12_isWilling_4 : decode cX12_isWilling 4 = .ok (.bipush 36, 2) := by decide +kernel
theorem dX12_isWilling_6 : decode cX12_isWilling 6 = .ok (.aload_n 0, 1) := by decide +kernel
theorem dX12_isWilling_7 : decode cX12_isWilling 7 = .ok (.invokevirtual 314, 3) := by decide +kernel
theorem dX12_isWilling_10 : decode cX12_isWilling 10 = .ok (.iadd, 1) := by decide +kernel
theorem dX12_isWilling_11 : decode cX12_isWilling 11 = .ok (.iaload, 1) := by decide +kernel
theorem dX12_isWilling_12 : decode cX12_isWilling 12 = .ok (.istore_n 2, 1) := by decide +kernel
theorem dX12_isWilling_13 : decode cX12_isWilling 13 = .ok (.aload_n 0, 1) := by decide +kernel
theorem dX12_isWilling_14 : decode cX12_isWilling 14 = .ok (.getfield 42, 3) := by decide +kernel
theorem dX12_isWilling_17 : decode cX12_isWilling 17 = .ok (.ifCond .ge 21, 3) := by decide +kernel
theorem dX12_isWilling_20 : decode cX12_isWilling 20 = .ok (.aload_n 0, 1) := by decide +kernel
theorem dX12_isWilling_21 : decode cX12_isWilling 21 = .ok (.iload_n 1, 1) := by decide +kernel
theorem dX12_isWilling_22 : decode cX12_isWilling 22 = .ok (.invokevirtual 301, 3) := by decide +kernel
theorem dX12_isWilling_25 : decode cX12_isWilling 25 = .ok (.iload_n 2, 1) := by decide +kernel
theorem dX12_isWilling_26 : decode cX12_isWilling 26 = .ok (.iadd, 1) := by decide +kernel
theorem dX12_isWilling_27 : decode cX12_isWilling 27 = .ok (.bipush 12, 2) := by decide +kernel
theorem dX12_isWilling_29 : decode cX12_isWilling 29 = .ok (.if_icmp .lt 7, 3) := by decide +kernel
theorem dX12_isWilling_32 : decode cX12_isWilling 32 = .ok (.iconst 1, 1) := by decide +kernel
theorem dX12_isWilling_33 : decode cX12_isWilling 33 = .ok (.goto 4, 3) := by decide +kernel
theorem dX12_isWilling_36 : decode cX12_isWilling 36 = .ok (.iconst 0, 1) := by decide +kernel
theorem dX12_isWilling_37 : decode cX12_isWilling 37 = .ok (.ireturn, 1) := by decide +kernel
theorem dX12_isWilling_38 : decode cX12_isWilling 38 = .ok (.aload_n 0, 1) := by decide +kernel
theorem dX12_isWilling_39 : decode cX12_isWilling 39 = .ok (.getfield 36, 3) := by decide +kernel
theorem dX12_isWilling_42 : decode cX12_isWilling 42 = .ok (.iconst 0, 1) := by decide +kernel
theorem dX12_isWilling_43 : decode cX12_isWilling 43 = .ok (.iload_n 1, 1) := by decide +kernel
theorem dX12_isWilling_44 : decode cX12_isWilling 44 = .ok (.i2l, 1) := by decide +kernel
theorem dX12_isWilling_45 : decode cX12_isWilling 45 = .ok (.lastore, 1) := by decide +kernel
theorem dX12_isWilling_46 : decode cX12_isWilling 46 = .ok (.aload_n 0, 1) := by decide +kernel
theorem dX12_isWilling_47 : decode cX12_isWilling 47 = .ok (.getfield 36, 3) := by decide +kernel
theorem dX12_isWilling_50 : decode cX12_isWilling 50 = .ok (.iconst 1, 1) := by decide +kernel
theorem dX12_isWilling_51 : decode cX12_isWilling 51 = .ok (.aload_n 0, 1) := by decide +kernel
theorem dX12_isWilling_52 : decode cX12_isWilling 52 = .ok (.iload_n 1, 1) := by decide +kernel
theorem dX12_isWilling_53 : decode cX12_isWilling 53 = .ok (.invokevirtual 301, 3) := by decide +kernel
theorem dX12_isWilling_56 : decode cX12_isWilling 56 = .ok (.i2l, 1) := by decide +kernel
theorem dX12_isWilling_57 : decode cX12_isWilling 57 = .ok (.lastore, 1) := by decide +kernel
theorem dX12_isWilling_58 : decode cX12_isWilling 58 = .ok (.aload_n 0, 1) := by decide +kernel
theorem dX12_isWilling_59 : decode cX12_isWilling 59 = .ok (.getfield 36, 3) := by decide +kernel
theorem dX12_isWilling_62 : decode cX12_isWilling 62 = .ok (.iconst 2, 1) := by decide +kernel
theorem dX12_isWilling_63 : decode cX12_isWilling 63 = .ok (.aload_n 0, 1) := by decide +kernel
theorem dX12_isWilling_64 : decode cX12_isWilling 64 = .ok (.getfield 39, 3) := by decide +kernel
theorem dX12_isWilling_67 : decode cX12_isWilling 67 = .ok (.bipush 56, 2) := by decide +kernel
theorem dX12_isWilling_69 : decode cX12_isWilling 69 = .ok (.iload_n 1, 1) := by decide +kernel
theorem dX12_isWilling_70 : decode cX12_isWilling 70 = .ok (.iadd, 1) := by decide +kernel
theorem dX12_isWilling_71 : decode cX12_isWilling 71 = .ok (.iaload, 1) := by decide +kernel
theorem dX12_isWilling_72 : decode cX12_isWilling 72 = .ok (.i2l, 1) := by decide +kernel
theorem dX12_isWilling_73 : decode cX12_isWilling 73 = .ok (.lastore, 1) := by decide +kernel
theorem dX12_isWilling_74 : decode cX12_isWilling 74 = .ok (.aload_n 0, 1) := by decide +kernel
theorem dX12_isWilling_75 : decode cX12_isWilling 75 = .ok (.getfield 36, 3) := by decide +kernel
theorem dX12_isWilling_78 : decode cX12_isWilling 78 = .ok (.iconst 3, 1) := by decide +kernel
theorem dX12_isWilling_79 : decode cX12_isWilling 79 = .ok (.aload_n 0, 1) := by decide +kernel
theorem dX12_isWilling_80 : decode cX12_isWilling 80 = .ok (.getfield 39, 3) := by decide +kernel
theorem dX12_isWilling_83 : decode cX12_isWilling 83 = .ok (.bipush 62, 2) := by decide +kernel
theorem dX12_isWilling_85 : decode cX12_isWilling 85 = .ok (.iload_n 1, 1) := by decide +kernel
theorem dX12_isWilling_86 : decode cX12_isWilling 86 = .ok (.iadd, 1) := by decide +kernel
theorem dX12_isWilling_87 : decode cX12_isWilling 87 = .ok (.iaload, 1) := by decide +kernel
theorem dX12_isWilling_88 : decode cX12_isWilling 88 = .ok (.i2l, 1) := by decide +kernel
theorem dX12_isWilling_89 : decode cX12_isWilling 89 = .ok (.lastore, 1) := by decide +kernel
theorem dX12_isWilling_90 : decode cX12_isWilling 90 = .ok (.aload_n 0, 1) := by decide +kernel
theorem dX12_isWilling_91 : decode cX12_isWilling 91 = .ok (.getfield 36, 3) := by decide +kernel
theorem dX12_isWilling_94 : decode cX12_isWilling 94 = .ok (.iconst 4, 1) := by decide +kernel
theorem dX12_isWilling_95 : decode cX12_isWilling 95 = .ok (.iload_n 2, 1) := by decide +kernel
theorem dX12_isWilling_96 : decode cX12_isWilling 96 = .ok (.i2l, 1) := by decide +kernel
theorem dX12_isWilling_97 : decode cX12_isWilling 97 = .ok (.lastore, 1) := by decide +kernel
theorem dX12_isWilling_98 : decode cX12_isWilling 98 = .ok (.aload_n 0, 1) := by decide +kernel
theorem dX12_isWilling_99 : decode cX12_isWilling 99 = .ok (.getfield 36, 3) := by decide +kernel
theorem dX12_isWilling_102 : decode cX12_isWilling 102 = .ok (.iconst 5, 1) := by decide +kernel
theorem dX12_isWilling_103 : decode cX12_isWilling 103 = .ok (.aload_n 0, 1) := by decide +kernel
theorem dX12_isWilling_104 : decode cX12_isWilling 104 = .ok (.getfield 39, 3) := by decide +kernel
theorem dX12_isWilling_107 : decode cX12_isWilling 107 = .ok (.bipush 36, 2) := by decide +kernel
theorem dX12_isWilling_109 : decode cX12_isWilling 109 = .ok (.aload_n 0, 1) := by decide +kernel
theorem dX12_isWilling_110 : decode cX12_isWilling 110 = .ok (.getfield 39, 3) := by decide +kernel
theorem dX12_isWilling_113 : decode cX12_isWilling 113 = .ok (.bipush 10, 2) := by decide +kernel
theorem dX12_isWilling_115 : decode cX12_isWilling 115 = .ok (.iaload, 1) := by decide +kernel
theorem dX12_isWilling_116 : decode cX12_isWilling 116 = .ok (.iconst 1, 1) := by decide +kernel
theorem dX12_isWilling_117 : decode cX12_isWilling 117 = .ok (.iadd, 1) := by decide +kernel
theorem dX12_isWilling_118 : decode cX12_isWilling 118 = .ok (.aload_n 0, 1) := by decide +kernel
theorem dX12_isWilling_119 : decode cX12_isWilling 119 = .ok (.getfield 39, 3) := by decide +kernel
theorem dX12_isWilling_122 : decode cX12_isWilling 122 = .ok (.iconst 2, 1) := by decide +kernel
theorem dX12_isWilling_123 : decode cX12_isWilling 123 = .ok (.iaload, 1) := by decide +kernel
theorem dX12_isWilling_124 : decode cX12_isWilling 124 = .ok (.irem, 1) := by decide +kernel
theorem dX12_isWilling_125 : decode cX12_isWilling 125 = .ok (.iadd, 1) := by decide +kernel
theorem dX12_isWilling_126 : decode cX12_isWilling 126 = .ok (.iaload, 1) := by decide +kernel
theorem dX12_isWilling_127 : decode cX12_isWilling 127 = .ok (.i2l, 1) := by decide +kernel
theorem dX12_isWilling_128 : decode cX12_isWilling 128 = .ok (.lastore, 1) := by decide +kernel
theorem dX12_isWilling_129 : decode cX12_isWilling 129 = .ok (.aload_n 0, 1) := by decide +kernel
theorem dX12_isWilling_130 : decode cX12_isWilling 130 = .ok (.getfield 36, 3) := by decide +kernel
theorem dX12_isWilling_133 : decode cX12_isWilling 133 = .ok (.bipush 6, 2) := by decide +kernel
theorem dX12_isWilling_135 : decode cX12_isWilling 135 = .ok (.aload_n 0, 1) := by decide +kernel
theorem dX12_isWilling_136 : decode cX12_isWilling 136 = .ok (.getfield 39, 3) := by decide +kernel
theorem dX12_isWilling_139 : decode cX12_isWilling 139 = .ok (.bipush 11, 2) := by decide +kernel
theorem dX12_isWilling_141 : decode cX12_isWilling 141 = .ok (.iaload, 1) := by decide +kernel
theorem dX12_isWilling_142 : decode cX12_isWilling 142 = .ok (.i2l, 1) := by decide +kernel
theorem dX12_isWilling_143 : decode cX12_isWilling 143 = .ok (.lastore, 1) := by decide +kernel
theorem dX12_isWilling_144 : decode cX12_isWilling 144 = .ok (.aload_n 0, 1) := by decide +kernel
theorem dX12_isWilling_145 : decode cX12_isWilling 145 = .ok (.getfield 36, 3) := by decide +kernel
theorem dX12_isWilling_148 : decode cX12_isWilling 148 = .ok (.bipush 7, 2) := by decide +kernel
theorem dX12_isWilling_150 : decode cX12_isWilling 150 = .ok (.aload_n 0, 1) := by decide +kernel
theorem dX12_isWilling_151 : decode cX12_isWilling 151 = .ok (.iload_n 1, 1) := by decide +kernel
theorem dX12_isWilling_152 : decode cX12_isWilling 152 = .ok (.invokevirtual 289, 3) := by decide +kernel
theorem dX12_isWilling_155 : decode cX12_isWilling 155 = .ok (.i2l, 1) := by decide +kernel
theorem dX12_isWilling_156 : decode cX12_isWilling 156 = .ok (.lastore, 1) := by decide +kernel
theorem dX12_isWilling_157 : decode cX12_isWilling 157 = .ok (.aload_n 0, 1) := by decide +kernel
theorem dX12_isWilling_158 : decode cX12_isWilling 158 = .ok (.getfield 36, 3) := by decide +kernel
theorem dX12_isWilling_161 : decode cX12_isWilling 161 = .ok (.bipush 8, 2) := by decide +kernel
theorem dX12_isWilling_163 : decode cX12_isWilling 163 = .ok (.aload_n 0, 1) := by decide +kernel
theorem dX12_isWilling_164 : decode cX12_isWilling 164 = .ok (.iload_n 1, 1) := by decide +kernel
theorem dX12_isWilling_165 : decode cX12_isWilling 165 = .ok (.invokevirtual 292, 3) := by decide +kernel
theorem dX12_isWilling_168 : decode cX12_isWilling 168 = .ok (.i2l, 1) := by decide +kernel
theorem dX12_isWilling_169 : decode cX12_isWilling 169 = .ok (.lastore, 1) := by decide +kernel
theorem dX12_isWilling_170 : decode cX12_isWilling 170 = .ok (.aload_n 0, 1) := by decide +kernel
theorem dX12_isWilling_171 : decode cX12_isWilling 171 = .ok (.getfield 36, 3) := by decide +kernel
theorem dX12_isWilling_174 : decode cX12_isWilling 174 = .ok (.bipush 9, 2) := by decide +kernel
theorem dX12_isWilling_176 : decode cX12_isWilling 176 = .ok (.aload_n 0, 1) := by decide +kernel
theorem dX12_isWilling_177 : decode cX12_isWilling 177 = .ok (.iload_n 1, 1) := by decide +kernel
theorem dX12_isWilling_178 : decode cX12_isWilling 178 = .ok (.invokevirtual 304, 3) := by decide +kernel
theorem dX12_isWilling_181 : decode cX12_isWilling 181 = .ok (.i2l, 1) := by decide +kernel
theorem dX12_isWilling_182 : decode cX12_isWilling 182 = .ok (.lastore, 1) := by decide +kernel
theorem dX12_isWilling_183 : decode cX12_isWilling 183 = .ok (.aload_n 0, 1) := by decide +kernel
theorem dX12_isWilling_184 : decode cX12_isWilling 184 = .ok (.getfield 36, 3) := by decide +kernel
theorem dX12_isWilling_187 : decode cX12_isWilling 187 = .ok (.bipush 10, 2) := by decide +kernel
theorem dX12_isWilling_189 : decode cX12_isWilling 189 = .ok (.aload_n 0, 1) := by decide +kernel
theorem dX12_isWilling_190 : decode cX12_isWilling 190 = .ok (.invokevirtual 317, 3) := by decide +kernel
theorem dX12_isWilling_193 : decode cX12_isWilling 193 = .ok (.i2l, 1) := by decide +kernel
theorem dX12_isWilling_194 : decode cX12_isWilling 194 = .ok (.lastore, 1) := by decide +kernel
theorem dX12_isWilling_195 : decode cX12_isWilling 195 = .ok (.aload_n 0, 1) := by decide +kernel
theorem dX12_isWilling_196 : decode cX12_isWilling 196 = .ok (.getfield 36, 3) := by decide +kernel
theorem dX12_isWilling_199 : decode cX12_isWilling 199 = .ok (.bipush 11, 2) := by decide +kernel
theorem dX12_isWilling_201 : decode cX12_isWilling 201 = .ok (.aload_n 0, 1) := by decide +kernel
theorem dX12_isWilling_202 : decode cX12_isWilling 202 = .ok (.invokevirtual 314, 3) := by decide +kernel
theorem dX12_isWilling_205 : decode cX12_isWilling 205 = .ok (.i2l, 1) := by decide +kernel
theorem dX12_isWilling_206 : decode cX12_isWilling 206 = .ok (.lastore, 1) := by decide +kernel
theorem dX12_isWilling_207 : decode cX12_isWilling 207 = .ok (.aload_n 0, 1) := by decide +kernel
theorem dX12_isWilling_208 : decode cX12_isWilling 208 = .ok (.getfield 36, 3) := by decide +kernel
theorem dX12_isWilling_211 : decode cX12_isWilling 211 = .ok (.bipush 12, 2) := by decide +kernel
theorem dX12_isWilling_213 : decode cX12_isWilling 213 = .ok (.aload_n 0, 1) := by decide +kernel
theorem dX12_isWilling_214 : decode cX12_isWilling 214 = .ok (.getfield 39, 3) := by decide +kernel
theorem dX12_isWilling_217 : decode cX12_isWilling 217 = .ok (.bipush 10, 2) := by decide +kernel
theorem dX12_isWilling_219 : decode cX12_isWilling 219 = .ok (.iaload, 1) := by decide +kernel
theorem dX12_isWilling_220 : decode cX12_isWilling 220 = .ok (.i2l, 1) := by decide +kernel
theorem dX12_isWilling_221 : decode cX12_isWilling 221 = .ok (.lastore, 1) := by decide +kernel
theorem dX12_isWilling_222 : decode cX12_isWilling 222 = .ok (.aload_n 0, 1) := by decide +kernel
theorem dX12_isWilling_223 : decode cX12_isWilling 223 = .ok (.aload_n 0, 1) := by decide +kernel
theorem dX12_isWilling_224 : decode cX12_isWilling 224 = .ok (.getfield 42, 3) := by decide +kernel
theorem dX12_isWilling_227 : decode cX12_isWilling 227 = .ok (.invokevirtual 320, 3) := by decide +kernel
theorem dX12_isWilling_230 : decode cX12_isWilling 230 = .ok (.lconst 0, 1) := by decide +kernel
theorem dX12_isWilling_231 : decode cX12_isWilling 231 = .ok (.lcmp, 1) := by decide +kernel
theorem dX12_isWilling_232 : decode cX12_isWilling 232 = .ok (.ifCond .le 7, 3) := by decide +kernel
theorem dX12_isWilling_235 : decode cX12_isWilling 235 = .ok (.iconst 1, 1) := by decide +kernel
theorem dX12_isWilling_236 : decode cX12_isWilling 236 = .ok (.goto 4, 3) := by decide +kernel
theorem dX12_isWilling_239 : decode cX12_isWilling 239 = .ok (.iconst 0, 1) := by decide +kernel
theorem dX12_isWilling_240 : decode cX12_isWilling 240 = .ok (.ireturn, 1) := by decide +kernel
theorem dX12_lastOf_0 : decode cX12_lastOf 0 = .ok (.aload_n 0, 1) := by decide +kernel
theorem dX12_lastOf_1 : decode cX12_lastOf 1 = .ok (.getfield 39, 3) := by decide +kernel
theorem dX12_lastOf_4 : decode cX12_lastOf 4 = .ok (.bipush 12, 2) := by decide +kernel
theorem dX12_lastOf_6 : decode cX12_lastOf 6 = .ok (.iconst 4, 1) := by decide +kernel
theorem dX12_lastOf_7 : decode cX12_lastOf 7 = .ok (.iload_n 1, 1) := by decide +kernel
theorem dX12_lastOf_8 : decode cX12_lastOf 8 = .ok (.imul, 1) := by decide +kernel
theorem dX12_lastOf_9 : decode cX12_lastOf 9 = .ok (.iadd, 1) := by decide +kernel
theorem dX12_lastOf_10 : decode cX12_lastOf 10 = .ok (.iconst 3, 1) := by decide +kernel
theorem dX12_lastOf_11 : decode cX12_lastOf 11 = .ok (.iadd, 1) := by decide +kernel
theorem dX12_lastOf_12 : decode cX12_lastOf 12 = .ok (.iaload, 1) := by decide +kernel
theorem dX12_lastOf_13 : decode cX12_lastOf 13 = .ok (.ireturn, 1) := by decide +kernel
theorem dX12_metAll_0 : decode cX12_metAll 0 = .ok (.iconst 0, 1) := by decide +kernel
theorem dX12_metAll_1 : decode cX12_metAll 1 = .ok (.istore_n 1, 1) := by decide +kernel
theorem dX12_metAll_2 : decode cX12_metAll 2 = .ok (.iconst 0, 1) := by decide +kernel
theorem dX12_metAll_3 : decode cX12_metAll 3 = .ok (.istore_n 2, 1) := by decide +kernel
theorem dX12_metAll_4 : decode cX12_metAll 4 = .ok (.iload_n 2, 1) := by decide +kernel
theorem dX12_metAll_5 : decode cX12_metAll 5 = .ok (.aload_n 0, 1) := by decide +kernel
theorem dX12_metAll_6 : decode cX12_metAll 6 = .ok (.getfield 39, 3) := by decide +kernel
theorem dX12_metAll_9 : decode cX12_metAll 9 = .ok (.iconst 3, 1) := by decide +kernel
theorem dX12_metAll_10 : decode cX12_metAll 10 = .ok (.iaload, 1) := by decide +kernel
theorem dX12_metAll_11 : decode cX12_metAll 11 = .ok (.if_icmp .ge 17, 3) := by decide +kernel
theorem dX12_metAll_14 : decode cX12_metAll 14 = .ok (.iload_n 1, 1) := by decide +kernel
theorem dX12_metAll_15 : decode cX12_metAll 15 = .ok (.aload_n 0, 1) := by decide +kernel
theorem dX12_metAll_16 : decode cX12_metAll 16 = .ok (.iload_n 2, 1) := by decide +kernel
theorem dX12_metAll_17 : decode cX12_metAll 17 = .ok (.invokevirtual 292, 3) := by decide +kernel
theorem dX12_metAll_20 : decode cX12_metAll 20 = .ok (.iadd, 1) := by decide +kernel
theorem dX12_metAll_21 : decode cX12_metAll 21 = .ok (.istore_n 1, 1) := by decide +kernel
theorem dX12_metAll_22 : decode cX12_metAll 22 = .ok (.iinc 2 1, 3) := by decide +kernel
theorem dX12_metAll_25 : decode cX12_metAll 25 = .ok (.goto (-21), 3) := by decide +kernel
theorem dX12_metAll_28 : decode cX12_metAll 28 = .ok (.iload_n 1, 1) := by decide +kernel
theorem dX12_metAll_29 : decode cX12_metAll 29 = .ok (.ireturn, 1) := by decide +kernel
theorem dX12_metOf_0 : decode cX12_metOf 0 = .ok (.aload_n 0, 1) := by decide +kernel
theorem dX12_metOf_1 : decode cX12_metOf 1 = .ok (.getfield 39, 3) := by decide +kernel
theorem dX12_metOf_4 : decode cX12_metOf 4 = .ok (.bipush 12, 2) := by decide +kernel
theorem dX12_metOf_6 : decode cX12_metOf 6 = .ok (.iconst 4, 1) := by decide +kernel
theorem dX12_metOf_7 : decode cX12_metOf 7 = .ok (.iload_n 1, 1) := by decide +kernel
theorem dX12_metOf_8 : decode cX12_metOf 8 = .ok (.imul, 1) := by decide +kernel
theorem dX12_metOf_9 : decode cX12_metOf 9 = .ok (.iadd, 1) := by decide +kernel
theorem dX12_metOf_10 : decode cX12_metOf 10 = .ok (.iconst 2, 1) := by decide +kernel
theorem dX12_metOf_11 : decode cX12_metOf 11 = .ok (.iadd, 1) := by decide +kernel
theorem dX12_metOf_12 : decode cX12_metOf 12 = .ok (.iaload, 1) := by decide +kernel
theorem dX12_metOf_13 : decode cX12_metOf 13 = .ok (.ireturn, 1) := by decide +kernel
theorem dX12_one_0 : decode cX12_one 0 = .ok (.iload_n 0, 1) := by decide +kernel
theorem dX12_one_1 : decode cX12_one 1 = .ok (.tableswitch 171 2 14 #[67, 71, 75, 79, 107, 119, 131, 143, 155, 171, 167, 171, 93], 67) := by decide +kernel
theorem dX12_one_68 : decode cX12_one 68 = .ok (.lload_n 1, 1) := by decide +kernel
theorem dX12_one_69 : decode cX12_one 69 = .ok (.lload_n 3, 1) := by decide +kernel
theorem dX12_one_70 : decode cX12_one 70 = .ok (.ladd, 1) := by decide +kernel
theorem dX12_one_71 : decode cX12_one 71 = .ok (.lreturn, 1) := by decide +kernel
theorem dX12_one_72 : decode cX12_one 72 = .ok (.lload_n 1, 1) := by decide +kernel
theorem dX12_one_73 : decode cX12_one 73 = .ok (.lload_n 3, 1) := by decide +kernel
theorem dX12_one_74 : decode cX12_one 74 = .ok (.lsub, 1) := by decide +kernel
theorem dX12_one_75 : decode cX12_one 75 = .ok (.lreturn, 1) := by decide +kernel
theorem dX12_one_76 : decode cX12_one 76 = .ok (.lload_n 1, 1) := by decide +kernel
theorem dX12_one_77 : decode cX12_one 77 = .ok (.lload_n 3, 1) := by decide +kernel
theorem dX12_one_78 : decode cX12_one 78 = .ok (.lmul, 1) := by decide +kernel
theorem dX12_one_79 : decode cX12_one 79 = .ok (.lreturn, 1) := by decide +kernel
theorem dX12_one_80 : decode cX12_one 80 = .ok (.lload_n 3, 1) := by decide +kernel
theorem dX12_one_81 : decode cX12_one 81 = .ok (.lconst 0, 1) := by decide +kernel
theorem dX12_one_82 : decode cX12_one 82 = .ok (.lcmp, 1) := by decide +kernel
theorem dX12_one_83 : decode cX12_one 83 = .ok (.ifCond .ne 7, 3) := by decide +kernel
theorem dX12_one_86 : decode cX12_one 86 = .ok (.lconst 0, 1) := by decide +kernel
theorem dX12_one_87 : decode cX12_one 87 = .ok (.goto 6, 3) := by decide +kernel
theorem dX12_one_90 : decode cX12_one 90 = .ok (.lload_n 1, 1) := by decide +kernel
theorem dX12_one_91 : decode cX12_one 91 = .ok (.lload_n 3, 1) := by decide +kernel
theorem dX12_one_92 : decode cX12_one 92 = .ok (.ldiv, 1) := by decide +kernel
theorem dX12_one_93 : decode cX12_one 93 = .ok (.lreturn, 1) := by decide +kernel
theorem dX12_one_94 : decode cX12_one 94 = .ok (.lload_n 3, 1) := by decide +kernel
theorem dX12_one_95 : decode cX12_one 95 = .ok (.lconst 0, 1) := by decide +kernel
theorem dX12_one_96 : decode cX12_one 96 = .ok (.lcmp, 1) := by decide +kernel
theorem dX12_one_97 : decode cX12_one 97 = .ok (.ifCond .ne 7, 3) := by decide +kernel
theorem dX12_one_100 : decode cX12_one 100 = .ok (.lconst 0, 1) := by decide +kernel
theorem dX12_one_101 : decode cX12_one 101 = .ok (.goto 6, 3) := by decide +kernel
theorem dX12_one_104 : decode cX12_one 104 = .ok (.lload_n 1, 1) := by decide +kernel
theorem dX12_one_105 : decode cX12_one 105 = .ok (.lload_n 3, 1) := by decide +kernel
theorem dX12_one_106 : decode cX12_one 106 = .ok (.lrem, 1) := by decide +kernel
theorem dX12_one_107 : decode cX12_one 107 = .ok (.lreturn, 1) := by decide +kernel
theorem dX12_one_108 : decode cX12_one 108 = .ok (.lload_n 1, 1) := by decide +kernel
theorem dX12_one_109 : decode cX12_one 109 = .ok (.lload_n 3, 1) := by decide +kernel
theorem dX12_one_110 : decode cX12_one 110 = .ok (.lcmp, 1) := by decide +kernel
theorem dX12_one_111 : decode cX12_one 111 = .ok (.ifCond .ge 7, 3) := by decide +kernel
theorem dX12_one_114 : decode cX12_one 114 = .ok (.lconst 1, 1) := by decide +kernel
theorem dX12_one_115 : decode cX12_one 115 = .ok (.goto 4, 3) := by decide +kernel
theorem dX12_one_118 : decode cX12_one 118 = .ok (.lconst 0, 1) := by decide +kernel
theorem dX12_one_119 : decode cX12_one 119 = .ok (.lreturn, 1) := by decide +kernel
theorem dX12_one_120 : decode cX12_one 120 = .ok (.lload_n 1, 1) := by decide +kernel
theorem dX12_one_121 : decode cX12_one 121 = .ok (.lload_n 3, 1) := by decide +kernel
theorem dX12_one_122 : decode cX12_one 122 = .ok (.lcmp, 1) := by decide +kernel
theorem dX12_one_123 : decode cX12_one 123 = .ok (.ifCond .gt 7, 3) := by decide +kernel
theorem dX12_one_126 : decode cX12_one 126 = .ok (.lconst 1, 1) := by decide +kernel
theorem dX12_one_127 : decode cX12_one 127 = .ok (.goto 4, 3) := by decide +kernel
theorem dX12_one_130 : decode cX12_one 130 = .ok (.lconst 0, 1) := by decide +kernel
theorem dX12_one_131 : decode cX12_one 131 = .ok (.lreturn, 1) := by decide +kernel
theorem dX12_one_132 : decode cX12_one 132 = .ok (.lload_n 1, 1) := by decide +kernel
theorem dX12_one_133 : decode cX12_one 133 = .ok (.lload_n 3, 1) := by decide +kernel
theorem dX12_one_134 : decode cX12_one 134 = .ok (.lcmp, 1) := by decide +kernel
theorem dX12_one_135 : decode cX12_one 135 = .ok (.ifCond .ne 7, 3) := by decide +kernel
theorem dX12_one_138 : decode cX12_one 138 = .ok (.lconst 1, 1) := by decide +kernel
theorem dX12_one_139 : decode cX12_one 139 = .ok (.goto 4, 3) := by decide +kernel
theorem dX12_one_142 : decode cX12_one 142 = .ok (.lconst 0, 1) := by decide +kernel
theorem dX12_one_143 : decode cX12_one 143 = .ok (.lreturn, 1) := by decide +kernel
theorem dX12_one_144 : decode cX12_one 144 = .ok (.lload_n 1, 1) := by decide +kernel
theorem dX12_one_145 : decode cX12_one 145 = .ok (.lload_n 3, 1) := by decide +kernel
theorem dX12_one_146 : decode cX12_one 146 = .ok (.lcmp, 1) := by decide +kernel
theorem dX12_one_147 : decode cX12_one 147 = .ok (.ifCond .lt 7, 3) := by decide +kernel
theorem dX12_one_150 : decode cX12_one 150 = .ok (.lconst 1, 1) := by decide +kernel
theorem dX12_one_151 : decode cX12_one 151 = .ok (.goto 4, 3) := by decide +kernel
theorem dX12_one_154 : decode cX12_one 154 = .ok (.lconst 0, 1) := by decide +kernel
theorem dX12_one_155 : decode cX12_one 155 = .ok (.lreturn, 1) := by decide +kernel
theorem dX12_one_156 : decode cX12_one 156 = .ok (.lload_n 1, 1) := by decide +kernel
theorem dX12_one_157 : decode cX12_one 157 = .ok (.lload_n 3, 1) := by decide +kernel
theorem dX12_one_158 : decode cX12_one 158 = .ok (.lcmp, 1) := by decide +kernel
theorem dX12_one_159 : decode cX12_one 159 = .ok (.ifCond .le 7, 3) := by decide +kernel
theorem dX12_one_162 : decode cX12_one 162 = .ok (.lconst 1, 1) := by decide +kernel
theorem dX12_one_163 : decode cX12_one 163 = .ok (.goto 4, 3) := by decide +kernel
theorem dX12_one_166 : decode cX12_one 166 = .ok (.lconst 0, 1) := by decide +kernel
theorem dX12_one_167 : decode cX12_one 167 = .ok (.lreturn, 1) := by decide +kernel
theorem dX12_one_168 : decode cX12_one 168 = .ok (.lload_n 1, 1) := by decide +kernel
theorem dX12_one_169 : decode cX12_one 169 = .ok (.lload_n 3, 1) := by decide +kernel
theorem dX12_one_170 : decode cX12_one 170 = .ok (.land, 1) := by decide +kernel
theorem dX12_one_171 : decode cX12_one 171 = .ok (.lreturn, 1) := by decide +kernel
theorem dX12_one_172 : decode cX12_one 172 = .ok (.lload_n 1, 1) := by decide +kernel
theorem dX12_one_173 : decode cX12_one 173 = .ok (.lload_n 3, 1) := by decide +kernel
theorem dX12_one_174 : decode cX12_one 174 = .ok (.lor, 1) := by decide +kernel
theorem dX12_one_175 : decode cX12_one 175 = .ok (.lreturn, 1) := by decide +kernel
theorem dX12_passes_0 : decode cX12_passes 0 = .ok (.iconst 0, 1) := by decide +kernel
theorem dX12_passes_1 : decode cX12_passes 1 = .ok (.istore_n 1, 1) := by decide +kernel
theorem dX12_passes_2 : decode cX12_passes 2 = .ok (.iconst 0, 1) := by decide +kernel
theorem dX12_passes_3 : decode cX12_passes 3 = .ok (.istore_n 2, 1) := by decide +kernel
theorem dX12_passes_4 : decode cX12_passes 4 = .ok (.iload_n 2, 1) := by decide +kernel
theorem dX12_passes_5 : decode cX12_passes 5 = .ok (.aload_n 0, 1) := by decide +kernel
theorem dX12_passes_6 : decode cX12_passes 6 = .ok (.getfield 39, 3) := by decide +kernel
theorem dX12_passes_9 : decode cX12_passes 9 = .ok (.iconst 3, 1) := by decide +kernel
theorem dX12_passes_10 : decode cX12_passes 10 = .ok (.iaload, 1) := by decide +kernel
theorem dX12_passes_11 : decode cX12_passes 11 = .ok (.if_icmp .ge 39, 3) := by decide +kernel
theorem dX12_passes_14 : decode cX12_passes 14 = .ok (.aload_n 0, 1) := by decide +kernel
theorem dX12_passes_15 : decode cX12_passes 15 = .ok (.iload_n 2, 1) := by decide +kernel
theorem dX12_passes_16 : decode cX12_passes 16 = .ok (.invokevirtual 336, 3) := by decide +kernel
theorem dX12_passes_19 : decode cX12_passes 19 = .ok (.ifCond .eq 25, 3) := by decide +kernel
theorem dX12_passes_22 : decode cX12_passes 22 = .ok (.aload_n 0, 1) := by decide +kernel
theorem dX12_passes_23 : decode cX12_passes 23 = .ok (.iload_n 2, 1) := by decide +kernel
theorem dX12_passes_24 : decode cX12_passes 24 = .ok (.invokevirtual 339, 3) := by decide +kernel
theorem dX12_passes_27 : decode cX12_passes 27 = .ok (.ifCond .eq 17, 3) := by decide +kernel
theorem dX12_passes_30 : decode cX12_passes 30 = .ok (.aload_n 0, 1) := by decide +kernel
theorem dX12_passes_31 : decode cX12_passes 31 = .ok (.iload_n 2, 1) := by decide +kernel
theorem dX12_passes_32 : decode cX12_passes 32 = .ok (.invokevirtual 342, 3) := by decide +kernel
theorem dX12_passes_35 : decode cX12_passes 35 = .ok (.ifCond .eq 9, 3) := by decide +kernel
theorem dX12_passes_38 : decode cX12_passes 38 = .ok (.iload_n 1, 1) := by decide +kernel
theorem dX12_passes_39 : decode cX12_passes 39 = .ok (.iconst 1, 1) := by decide +kernel
theorem dX12_passes_40 : decode cX12_passes 40 = .ok (.iload_n 2, 1) := by decide +kernel
theorem dX12_passes_41 : decode cX12_passes 41 = .ok (.ishl, 1) := by decide +kernel
theorem dX12_passes_42 : decode cX12_passes 42 = .ok (.ior, 1) := by decide +kernel
theorem dX12_passes_43 : decode cX12_passes 43 = .ok (.istore_n 1, 1) := by decide +kernel
theorem dX12_passes_44 : decode cX12_passes 44 = .ok (.iinc 2 1, 3) := by decide +kernel
theorem dX12_passes_47 : decode cX12_passes 47 = .ok (.goto (-43), 3) := by decide +kernel
theorem dX12_passes_50 : decode cX12_passes 50 = .ok (.aload_n 0, 1) := by decide +kernel
theorem dX12_passes_51 : decode cX12_passes 51 = .ok (.invokevirtual 345, 3) := by decide +kernel
theorem dX12_passes_54 : decode cX12_passes 54 = .ok (.aload_n 0, 1) := by decide +kernel
theorem dX12_passes_55 : decode cX12_passes 55 = .ok (.getfield 39, 3) := by decide +kernel
theorem dX12_passes_58 : decode cX12_passes 58 = .ok (.bipush 10, 2) := by decide +kernel
theorem dX12_passes_60 : decode cX12_passes 60 = .ok (.iaload, 1) := by decide +kernel
theorem dX12_passes_61 : decode cX12_passes 61 = .ok (.bipush 7, 2) := by decide +kernel
theorem dX12_passes_63 : decode cX12_passes 63 = .ok (.irem, 1) := by decide +kernel
theorem dX12_passes_64 : decode cX12_passes 64 = .ok (.bipush 6, 2) := by decide +kernel
theorem dX12_passes_66 : decode cX12_passes 66 = .ok (.if_icmp .ne 40, 3) := by decide +kernel
theorem dX12_passes_69 : decode cX12_passes 69 = .ok (.aload_n 0, 1) := by decide +kernel
theorem dX12_passes_70 : decode cX12_passes 70 = .ok (.getfield 39, 3) := by decide +kernel
theorem dX12_passes_73 : decode cX12_passes 73 = .ok (.bipush 11, 2) := by decide +kernel
theorem dX12_passes_75 : decode cX12_passes 75 = .ok (.dup2, 1) := by decide +kernel
theorem dX12_passes_76 : decode cX12_passes 76 = .ok (.iaload, 1) := by decide +kernel
theorem dX12_passes_77 : decode cX12_passes 77 = .ok (.aload_n 0, 1) := by decide +kernel
theorem dX12_passes_78 : decode cX12_passes 78 = .ok (.getfield 39, 3) := by decide +kernel
theorem dX12_passes_81 : decode cX12_passes 81 = .ok (.iconst 1, 1) := by decide +kernel
theorem dX12_passes_82 : decode cX12_passes 82 = .ok (.iaload, 1) := by decide +kernel
theorem dX12_passes_83 : decode cX12_passes 83 = .ok (.iadd, 1) := by decide +kernel
theorem dX12_passes_84 : decode cX12_passes 84 = .ok (.iastore, 1) := by decide +kernel
theorem dX12_passes_85 : decode cX12_passes 85 = .ok (.aload_n 0, 1) := by decide +kernel
theorem dX12_passes_86 : decode cX12_passes 86 = .ok (.getfield 39, 3) := by decide +kernel
theorem dX12_passes_89 : decode cX12_passes 89 = .ok (.bipush 11, 2) := by decide +kernel
theorem dX12_passes_91 : decode cX12_passes 91 = .ok (.iaload, 1) := by decide +kernel
theorem dX12_passes_92 : decode cX12_passes 92 = .ok (.bipush 99, 2) := by decide +kernel
theorem dX12_passes_94 : decode cX12_passes 94 = .ok (.if_icmp .le 12, 3) := by decide +kernel
theorem dX12_passes_97 : decode cX12_passes 97 = .ok (.aload_n 0, 1) := by decide +kernel
theorem dX12_passes_98 : decode cX12_passes 98 = .ok (.getfield 39, 3) := by decide +kernel
theorem dX12_passes_101 : decode cX12_passes 101 = .ok (.bipush 11, 2) := by decide +kernel
theorem dX12_passes_103 : decode cX12_passes 103 = .ok (.bipush 99, 2) := by decide +kernel
theorem dX12_passes_105 : decode cX12_passes 105 = .ok (.iastore, 1) := by decide +kernel
theorem dX12_passes_106 : decode cX12_passes 106 = .ok (.aload_n 0, 1) := by decide +kernel
theorem dX12_passes_107 : decode cX12_passes 107 = .ok (.getfield 39, 3) := by decide +kernel
theorem dX12_passes_110 : decode cX12_passes 110 = .ok (.bipush 10, 2) := by decide +kernel
theorem dX12_passes_112 : decode cX12_passes 112 = .ok (.dup2, 1) := by decide +kernel
theorem dX12_passes_113 : decode cX12_passes 113 = .ok (.iaload, 1) := by decide +kernel
theorem dX12_passes_114 : decode cX12_passes 114 = .ok (.iconst 1, 1) := by decide +kernel
theorem dX12_passes_115 : decode cX12_passes 115 = .ok (.iadd, 1) := by decide +kernel
theorem dX12_passes_116 : decode cX12_passes 116 = .ok (.iastore, 1) := by decide +kernel
theorem dX12_passes_117 : decode cX12_passes 117 = .ok (.iload_n 1, 1) := by decide +kernel
theorem dX12_passes_118 : decode cX12_passes 118 = .ok (.ireturn, 1) := by decide +kernel
theorem dX12_passesAll_0 : decode cX12_passesAll 0 = .ok (.iconst 0, 1) := by decide +kernel
theorem dX12_passesAll_1 : decode cX12_passesAll 1 = .ok (.istore_n 2, 1) := by decide +kernel
theorem dX12_passesAll_2 : decode cX12_passesAll 2 = .ok (.iload_n 2, 1) := by decide +kernel
theorem dX12_passesAll_3 : decode cX12_passesAll 3 = .ok (.iload_n 1, 1) := by decide +kernel
theorem dX12_passesAll_4 : decode cX12_passesAll 4 = .ok (.if_icmp .ge 14, 3) := by decide +kernel
theorem dX12_passesAll_7 : decode cX12_passesAll 7 = .ok (.aload_n 0, 1) := by decide +kernel
theorem dX12_passesAll_8 : decode cX12_passesAll 8 = .ok (.invokevirtual 348, 3) := by decide +kernel
theorem dX12_passesAll_11 : decode cX12_passesAll 11 = .ok (.pop, 1) := by decide +kernel
theorem dX12_passesAll_12 : decode cX12_passesAll 12 = .ok (.iinc 2 1, 3) := by decide +kernel
theorem dX12_passesAll_15 : decode cX12_passesAll 15 = .ok (.goto (-13), 3) := by decide +kernel
theorem dX12_passesAll_18 : decode cX12_passesAll 18 = .ok (.return_, 1) := by decide +kernel
theorem dX12_pop_0 : decode cX12_pop 0 = .ok (.aload_n 0, 1) := by decide +kernel
theorem dX12_pop_1 : decode cX12_pop 1 = .ok (.dup, 1) := by decide +kernel
theorem dX12_pop_2 : decode cX12_pop 2 = .ok (.getfield 268, 3) := by decide +kernel
theorem dX12_pop_5 : decode cX12_pop 5 = .ok (.iconst 1, 1) := by decide +kernel
theorem dX12_pop_6 : decode cX12_pop 6 = .ok (.isub, 1) := by decide +kernel
theorem dX12_pop_7 : decode cX12_pop 7 = .ok (.putfield 268, 3) := by decide +kernel
theorem dX12_pop_10 : decode cX12_pop 10 = .ok (.aload_n 0, 1) := by decide +kernel
theorem dX12_pop_11 : decode cX12_pop 11 = .ok (.getfield 32, 3) := by decide +kernel
theorem dX12_pop_14 : decode cX12_pop 14 = .ok (.aload_n 0, 1) := by decide +kernel
theorem dX12_pop_15 : decode cX12_pop 15 = .ok (.getfield 268, 3) := by decide +kernel
theorem dX12_pop_18 : decode cX12_pop 18 = .ok (.laload, 1) := by decide +kernel
theorem dX12_pop_19 : decode cX12_pop 19 = .ok (.lreturn, 1) := by decide +kernel
theorem dX12_push_0 : decode cX12_push 0 = .ok (.aload_n 0, 1) := by decide +kernel
theorem dX12_push_1 : decode cX12_push 1 = .ok (.getfield 32, 3) := by decide +kernel
theorem dX12_push_4 : decode cX12_push 4 = .ok (.aload_n 0, 1) := by decide +kernel
theorem dX12_push_5 : decode cX12_push 5 = .ok (.getfield 268, 3) := by decide +kernel
theorem dX12_push_8 : decode cX12_push 8 = .ok (.lload_n 1, 1) := by decide +kernel
theorem dX12_push_9 : decode cX12_push 9 = .ok (.lastore, 1) := by decide +kernel
theorem dX12_push_10 : decode cX12_push 10 = .ok (.aload_n 0, 1) := by decide +kernel
theorem dX12_push_11 : decode cX12_push 11 = .ok (.dup, 1) := by decide +kernel
theorem dX12_push_12 : decode cX12_push 12 = .ok (.getfield 268, 3) := by decide +kernel
theorem dX12_push_15 : decode cX12_push 15 = .ok (.iconst 1, 1) := by decide +kernel
theorem dX12_push_16 : decode cX12_push 16 = .ok (.iadd, 1) := by decide +kernel
theorem dX12_push_17 : decode cX12_push 17 = .ok (.putfield 268, 3) := by decide +kernel
theorem dX12_push_20 : decode cX12_push 20 = .ok (.return_, 1) := by decide +kernel
theorem dX12_reckons_0 : decode cX12_reckons 0 = .ok (.aload_n 0, 1) := by decide +kernel
theorem dX12_reckons_1 : decode cX12_reckons 1 = .ok (.iconst 0, 1) := by decide +kernel
theorem dX12_reckons_2 : decode cX12_reckons 2 = .ok (.putfield 268, 3) := by decide +kernel
theorem dX12_reckons_5 : decode cX12_reckons 5 = .ok (.iload_n 2, 1) := by decide +kernel
theorem dX12_reckons_6 : decode cX12_reckons 6 = .ok (.istore 4, 2) := by decide +kernel
theorem dX12_reckons_8 : decode cX12_reckons 8 = .ok (.iload 4, 2) := by decide +kernel
theorem dX12_reckons_10 : decode cX12_reckons 10 = .ok (.iload_n 3, 1) := by decide +kernel
theorem dX12_reckons_11 : decode cX12_reckons 11 = .ok (.if_icmp .ge 124, 3) := by decide +kernel
theorem dX12_reckons_14 : decode cX12_reckons 14 = .ok (.aload_n 0, 1) := by decide +kernel
theorem dX12_reckons_15 : decode cX12_reckons 15 = .ok (.getfield 13, 3) := by decide +kernel
theorem dX12_reckons_18 : decode cX12_reckons 18 = .ok (.sipush 400, 3) := by decide +kernel
theorem dX12_reckons_21 : decode cX12_reckons 21 = .ok (.iload_n 1, 1) := by decide +kernel
theorem dX12_reckons_22 : decode cX12_reckons 22 = .ok (.imul, 1) := by decide +kernel
theorem dX12_reckons_23 : decode cX12_reckons 23 = .ok (.iload 4, 2) := by decide +kernel
theorem dX12_reckons_25 : decode cX12_reckons 25 = .ok (.iadd, 1) := by decide +kernel
theorem dX12_reckons_26 : decode cX12_reckons 26 = .ok (.iaload, 1) := by decide +kernel
theorem dX12_reckons_27 : decode cX12_reckons 27 = .ok (.bipush 15, 2) := by decide +kernel
theorem dX12_reckons_29 : decode cX12_reckons 29 = .ok (.iand, 1) := by decide +kernel
theorem dX12_reckons_30 : decode cX12_reckons 30 = .ok (.istore 5, 2) := by decide +kernel
theorem dX12_reckons_32 : decode cX12_reckons 32 = .ok (.aload_n 0, 1) := by decide +kernel
theorem dX12_reckons_33 : decode cX12_reckons 33 = .ok (.getfield 13, 3) := by decide +kernel
theorem dX12_reckons_36 : decode cX12_reckons 36 = .ok (.sipush 400, 3) := by decide +kernel
theorem dX12_reckons_39 : decode cX12_reckons 39 = .ok (.iload_n 1, 1) := by decide +kernel
theorem dX12_reckons_40 : decode cX12_reckons 40 = .ok (.imul, 1) := by decide +kernel
theorem dX12_reckons_41 : decode cX12_reckons 41 = .ok (.iload 4, 2) := by decide +kernel
theorem dX12_reckons_43 : decode cX12_reckons 43 = .ok (.iadd, 1) := by decide +kernel
theorem dX12_reckons_44 : decode cX12_reckons 44 = .ok (.iaload, 1) := by decide +kernel
theorem dX12_reckons_45 : decode cX12_reckons 45 = .ok (.iconst 4, 1) := by decide +kernel
theorem dX12_reckons_46 : decode cX12_reckons 46 = .ok (.ishr, 1) := by decide +kernel
theorem dX12_reckons_47 : decode cX12_reckons 47 = .ok (.istore 6, 2) := by decide +kernel
theorem dX12_reckons_49 : decode cX12_reckons 49 = .ok (.iload 5, 2) := by decide +kernel
theorem dX12_reckons_51 : decode cX12_reckons 51 = .ok (.ifCond .ne 13, 3) := by decide +kernel
theorem dX12_reckons_54 : decode cX12_reckons 54 = .ok (.aload_n 0, 1) := by decide +kernel
theorem dX12_reckons_55 : decode cX12_reckons 55 = .ok (.iload 6, 2) := by decide +kernel
theorem dX12_reckons_57 : decode cX12_reckons 57 = .ok (.i2l, 1) := by decide +kernel
theorem dX12_reckons_58 : decode cX12_reckons 58 = .ok (.invokevirtual 271, 3) := by decide +kernel
theorem dX12_reckons_61 : decode cX12_reckons 61 = .ok (.goto 68, 3) := by decide +kernel
theorem dX12_reckons_64 : decode cX12_reckons 64 = .ok (.iload 5, 2) := by decide +kernel
theorem dX12_reckons_66 : decode cX12_reckons 66 = .ok (.iconst 1, 1) := by decide +kernel
theorem dX12_reckons_67 : decode cX12_reckons 67 = .ok (.if_icmp .ne 17, 3) := by decide +kernel
theorem dX12_reckons_70 : decode cX12_reckons 70 = .ok (.aload_n 0, 1) := by decide +kernel
theorem dX12_reckons_71 : decode cX12_reckons 71 = .ok (.aload_n 0, 1) := by decide +kernel
theorem dX12_reckons_72 : decode cX12_reckons 72 = .ok (.getfield 36, 3) := by decide +kernel
theorem dX12_reckons_75 : decode cX12_reckons 75 = .ok (.iload 6, 2) := by decide +kernel
theorem dX12_reckons_77 : decode cX12_reckons 77 = .ok (.laload, 1) := by decide +kernel
theorem dX12_reckons_78 : decode cX12_reckons 78 = .ok (.invokevirtual 271, 3) := by decide +kernel
theorem dX12_reckons_81 : decode cX12_reckons 81 = .ok (.goto 48, 3) := by decide +kernel
theorem dX12_reckons_84 : decode cX12_reckons 84 = .ok (.iload 5, 2) := by decide +kernel
theorem dX12_reckons_86 : decode cX12_reckons 86 = .ok (.bipush 11, 2) := by decide +kernel
theorem dX12_reckons_88 : decode cX12_reckons 88 = .ok (.if_icmp .ne 16, 3) := by decide +kernel
theorem dX12_reckons_91 : decode cX12_reckons 91 = .ok (.aload_n 0, 1) := by decide +kernel
theorem dX12_reckons_92 : decode cX12_reckons 92 = .ok (.lconst 1, 1) := by decide +kernel
theorem dX12_reckons_93 : decode cX12_reckons 93 = .ok (.aload_n 0, 1) := by decide +kernel
theorem dX12_reckons_94 : decode cX12_reckons 94 = .ok (.invokevirtual 275, 3) := by decide +kernel
theorem dX12_reckons_97 : decode cX12_reckons 97 = .ok (.lsub, 1) := by decide +kernel
theorem dX12_reckons_98 : decode cX12_reckons 98 = .ok (.invokevirtual 271, 3) := by decide +kernel
theorem dX12_reckons_101 : decode cX12_reckons 101 = .ok (.goto 28, 3) := by decide +kernel
theorem dX12_reckons_104 : decode cX12_reckons 104 = .ok (.aload_n 0, 1) := by decide +kernel
theorem dX12_reckons_105 : decode cX12_reckons 105 = .ok (.invokevirtual 275, 3) := by decide +kernel
theorem dX12_reckons_108 : decode cX12_reckons 108 = .ok (.lstore 7, 2) := by decide +kernel
theorem dX12_reckons_110 : decode cX12_reckons 110 = .ok (.aload_n 0, 1) := by decide +kernel
theorem dX12_reckons_111 : decode cX12_reckons 111 = .ok (.invokevirtual 275, 3) := by decide +kernel
theorem dX12_reckons_114 : decode cX12_reckons 114 = .ok (.lstore 9, 2) := by decide +kernel
theorem dX12_reckons_116 : decode cX12_reckons 116 = .ok (.aload_n 0, 1) := by decide +kernel
theorem dX12_reckons_117 : decode cX12_reckons 117 = .ok (.iload 5, 2) := by decide +kernel
theorem dX12_reckons_119 : decode cX12_reckons 119 = .ok (.lload 9, 2) := by decide +kernel
theorem dX12_reckons_121 : decode cX12_reckons 121 = .ok (.lload 7, 2) := by decide +kernel
theorem dX12_reckons_123 : decode cX12_reckons 123 = .ok (.invokestatic 279, 3) := by decide +kernel
theorem dX12_reckons_126 : decode cX12_reckons 126 = .ok (.invokevirtual 271, 3) := by decide +kernel
theorem dX12_reckons_129 : decode cX12_reckons 129 = .ok (.iinc 4 1, 3) := by decide +kernel
theorem dX12_reckons_132 : decode cX12_reckons 132 = .ok (.goto (-124), 3) := by decide +kernel
theorem dX12_reckons_135 : decode cX12_reckons 135 = .ok (.aload_n 0, 1) := by decide +kernel
theorem dX12_reckons_136 : decode cX12_reckons 136 = .ok (.invokevirtual 275, 3) := by decide +kernel
theorem dX12_reckons_139 : decode cX12_reckons 139 = .ok (.lreturn, 1) := by decide +kernel
theorem dX12_sinceOf_0 : decode cX12_sinceOf 0 = .ok (.aload_n 0, 1) := by decide +kernel
theorem dX12_sinceOf_1 : decode cX12_sinceOf 1 = .ok (.getfield 39, 3) := by decide +kernel
theorem dX12_sinceOf_4 : decode cX12_sinceOf 4 = .ok (.bipush 10, 2) := by decide +kernel
theorem dX12_sinceOf_6 : decode cX12_sinceOf 6 = .ok (.iaload, 1) := by decide +kernel
theorem dX12_sinceOf_7 : decode cX12_sinceOf 7 = .ok (.aload_n 0, 1) := by decide +kernel
theorem dX12_sinceOf_8 : decode cX12_sinceOf 8 = .ok (.iload_n 1, 1) := by decide +kernel
theorem dX12_sinceOf_9 : decode cX12_sinceOf 9 = .ok (.invokevirtual 286, 3) := by decide +kernel
theorem dX12_sinceOf_12 : decode cX12_sinceOf 12 = .ok (.isub, 1) := by decide +kernel
theorem dX12_sinceOf_13 : decode cX12_sinceOf 13 = .ok (.istore_n 2, 1) := by decide +kernel
theorem dX12_sinceOf_14 : decode cX12_sinceOf 14 = .ok (.aload_n 0, 1) := by decide +kernel
theorem dX12_sinceOf_15 : decode cX12_sinceOf 15 = .ok (.iload_n 1, 1) := by decide +kernel
theorem dX12_sinceOf_16 : decode cX12_sinceOf 16 = .ok (.invokevirtual 286, 3) := by decide +kernel
theorem dX12_sinceOf_19 : decode cX12_sinceOf 19 = .ok (.ifCond .lt 9, 3) := by decide +kernel
theorem dX12_sinceOf_22 : decode cX12_sinceOf 22 = .ok (.iload_n 2, 1) := by decide +kernel
theorem dX12_sinceOf_23 : decode cX12_sinceOf 23 = .ok (.bipush 99, 2) := by decide +kernel
theorem dX12_sinceOf_25 : decode cX12_sinceOf 25 = .ok (.if_icmp .le 8, 3) := by decide +kernel
theorem dX12_sinceOf_28 : decode cX12_sinceOf 28 = .ok (.bipush 99, 2) := by decide +kernel
theorem dX12_sinceOf_30 : decode cX12_sinceOf 30 = .ok (.goto 4, 3) := by decide +kernel
theorem dX12_sinceOf_33 : decode cX12_sinceOf 33 = .ok (.iload_n 2, 1) := by decide +kernel
theorem dX12_sinceOf_34 : decode cX12_sinceOf 34 = .ok (.ireturn, 1) := by decide +kernel
theorem dX12_soldAll_0 : decode cX12_soldAll 0 = .ok (.iconst 0, 1) := by decide +kernel
theorem dX12_soldAll_1 : decode cX12_soldAll 1 = .ok (.istore_n 1, 1) := by decide +kernel
theorem dX12_soldAll_2 : decode cX12_soldAll 2 = .ok (.iconst 0, 1) := by decide +kernel
theorem dX12_soldAll_3 : decode cX12_soldAll 3 = .ok (.istore_n 2, 1) := by decide +kernel
theorem dX12_soldAll_4 : decode cX12_soldAll 4 = .ok (.iload_n 2, 1) := by decide +kernel
theorem dX12_soldAll_5 : decode cX12_soldAll 5 = .ok (.aload_n 0, 1) := by decide +kernel
theorem dX12_soldAll_6 : decode cX12_soldAll 6 = .ok (.getfield 39, 3) := by decide +kernel
theorem dX12_soldAll_9 : decode cX12_soldAll 9 = .ok (.iconst 3, 1) := by decide +kernel
theorem dX12_soldAll_10 : decode cX12_soldAll 10 = .ok (.iaload, 1) := by decide +kernel
theorem dX12_soldAll_11 : decode cX12_soldAll 11 = .ok (.if_icmp .ge 17, 3) := by decide +kernel
theorem dX12_soldAll_14 : decode cX12_soldAll 14 = .ok (.iload_n 1, 1) := by decide +kernel
theorem dX12_soldAll_15 : decode cX12_soldAll 15 = .ok (.aload_n 0, 1) := by decide +kernel
theorem dX12_soldAll_16 : decode cX12_soldAll 16 = .ok (.iload_n 2, 1) := by decide +kernel
theorem dX12_soldAll_17 : decode cX12_soldAll 17 = .ok (.invokevirtual 289, 3) := by decide +kernel
theorem dX12_soldAll_20 : decode cX12_soldAll 20 = .ok (.iadd, 1) := by decide +kernel
theorem dX12_soldAll_21 : decode cX12_soldAll 21 = .ok (.istore_n 1, 1) := by decide +kernel
theorem dX12_soldAll_22 : decode cX12_soldAll 22 = .ok (.iinc 2 1, 3) := by decide +kernel
theorem dX12_soldAll_25 : decode cX12_soldAll 25 = .ok (.goto (-21), 3) := by decide +kernel
theorem dX12_soldAll_28 : decode cX12_soldAll 28 = .ok (.iload_n 1, 1) := by decide +kernel
theorem dX12_soldAll_29 : decode cX12_soldAll 29 = .ok (.ireturn, 1) := by decide +kernel
theorem dX12_summedBy_0 : decode cX12_summedBy 0 = .ok (.iconst 0, 1) := by decide +kernel
theorem dX12_summedBy_1 : decode cX12_summedBy 1 = .ok (.istore_n 2, 1) := by decide +kernel
theorem dX12_summedBy_2 : decode cX12_summedBy 2 = .ok (.iload_n 2, 1) := by decide +kernel
theorem dX12_summedBy_3 : decode cX12_summedBy 3 = .ok (.aload_n 0, 1) := by decide +kernel
theorem dX12_summedBy_4 : decode cX12_summedBy 4 = .ok (.getfield 23, 3) := by decide +kernel
theorem dX12_summedBy_7 : decode cX12_summedBy 7 = .ok (.iload_n 1, 1) := by decide +kernel
theorem dX12_summedBy_8 : decode cX12_summedBy 8 = .ok (.iaload, 1) := by decide +kernel
theorem dX12_summedBy_9 : decode cX12_summedBy 9 = .ok (.if_icmp .ge 75, 3) := by decide +kernel
theorem dX12_summedBy_12 : decode cX12_summedBy 12 = .ok (.bipush 48, 2) := by decide +kernel
theorem dX12_summedBy_14 : decode cX12_summedBy 14 = .ok (.iload_n 1, 1) := by decide +kernel
theorem dX12_summedBy_15 : decode cX12_summedBy 15 = .ok (.imul, 1) := by decide +kernel
theorem dX12_summedBy_16 : decode cX12_summedBy 16 = .ok (.iconst 4, 1) := by decide +kernel
theorem dX12_summedBy_17 : decode cX12_summedBy 17 = .ok (.iload_n 2, 1) := by decide +kernel
theorem dX12_summedBy_18 : decode cX12_summedBy 18 = .ok (.imul, 1) := by decide +kernel
theorem dX12_summedBy_19 : decode cX12_summedBy 19 = .ok (.iadd, 1) := by decide +kernel
theorem dX12_summedBy_20 : decode cX12_summedBy 20 = .ok (.istore_n 3, 1) := by decide +kernel
theorem dX12_summedBy_21 : decode cX12_summedBy 21 = .ok (.aload_n 0, 1) := by decide +kernel
theorem dX12_summedBy_22 : decode cX12_summedBy 22 = .ok (.getfield 20, 3) := by decide +kernel
theorem dX12_summedBy_25 : decode cX12_summedBy 25 = .ok (.iload_n 3, 1) := by decide +kernel
theorem dX12_summedBy_26 : decode cX12_summedBy 26 = .ok (.iconst 2, 1) := by decide +kernel
theorem dX12_summedBy_27 : decode cX12_summedBy 27 = .ok (.iadd, 1) := by decide +kernel
theorem dX12_summedBy_28 : decode cX12_summedBy 28 = .ok (.iaload, 1) := by decide +kernel
theorem dX12_summedBy_29 : decode cX12_summedBy 29 = .ok (.ifCond .lt 29, 3) := by decide +kernel
theorem dX12_summedBy_32 : decode cX12_summedBy 32 = .ok (.aload_n 0, 1) := by decide +kernel
theorem dX12_summedBy_33 : decode cX12_summedBy 33 = .ok (.iload_n 1, 1) := by decide +kernel
theorem dX12_summedBy_34 : decode cX12_summedBy 34 = .ok (.aload_n 0, 1) := by decide +kernel
theorem dX12_summedBy_35 : decode cX12_summedBy 35 = .ok (.getfield 20, 3) := by decide +kernel
theorem dX12_summedBy_38 : decode cX12_summedBy 38 = .ok (.iload_n 3, 1) := by decide +kernel
theorem dX12_summedBy_39 : decode cX12_summedBy 39 = .ok (.iconst 2, 1) := by decide +kernel
theorem dX12_summedBy_40 : decode cX12_summedBy 40 = .ok (.iadd, 1) := by decide +kernel
theorem dX12_summedBy_41 : decode cX12_summedBy 41 = .ok (.iaload, 1) := by decide +kernel
theorem dX12_summedBy_42 : decode cX12_summedBy 42 = .ok (.aload_n 0, 1) := by decide +kernel
theorem dX12_summedBy_43 : decode cX12_summedBy 43 = .ok (.getfield 20, 3) := by decide +kernel
theorem dX12_summedBy_46 : decode cX12_summedBy 46 = .ok (.iload_n 3, 1) := by decide +kernel
theorem dX12_summedBy_47 : decode cX12_summedBy 47 = .ok (.iconst 3, 1) := by decide +kernel
theorem dX12_summedBy_48 : decode cX12_summedBy 48 = .ok (.iadd, 1) := by decide +kernel
theorem dX12_summedBy_49 : decode cX12_summedBy 49 = .ok (.iaload, 1) := by decide +kernel
theorem dX12_summedBy_50 : decode cX12_summedBy 50 = .ok (.invokevirtual 310, 3) := by decide +kernel
theorem dX12_summedBy_53 : decode cX12_summedBy 53 = .ok (.lconst 1, 1) := by decide +kernel
theorem dX12_summedBy_54 : decode cX12_summedBy 54 = .ok (.lcmp, 1) := by decide +kernel
theorem dX12_summedBy_55 : decode cX12_summedBy 55 = .ok (.ifCond .ne 23, 3) := by decide +kernel
theorem dX12_summedBy_58 : decode cX12_summedBy 58 = .ok (.aload_n 0, 1) := by decide +kernel
theorem dX12_summedBy_59 : decode cX12_summedBy 59 = .ok (.iload_n 1, 1) := by decide +kernel
theorem dX12_summedBy_60 : decode cX12_summedBy 60 = .ok (.aload_n 0, 1) := by decide +kernel
theorem dX12_summedBy_61 : decode cX12_summedBy 61 = .ok (.getfield 20, 3) := by decide +kernel
theorem dX12_summedBy_64 : decode cX12_summedBy 64 = .ok (.iload_n 3, 1) := by decide +kernel
theorem dX12_summedBy_65 : decode cX12_summedBy 65 = .ok (.iaload, 1) := by decide +kernel
theorem dX12_summedBy_66 : decode cX12_summedBy 66 = .ok (.aload_n 0, 1) := by decide +kernel
theorem dX12_summedBy_67 : decode cX12_summedBy 67 = .ok (.getfield 20, 3) := by decide +kernel
theorem dX12_summedBy_70 : decode cX12_summedBy 70 = .ok (.iload_n 3, 1) := by decide +kernel
theorem dX12_summedBy_71 : decode cX12_summedBy 71 = .ok (.iconst 1, 1) := by decide +kernel
theorem dX12_summedBy_72 : decode cX12_summedBy 72 = .ok (.iadd, 1) := by decide +kernel
theorem dX12_summedBy_73 : decode cX12_summedBy 73 = .ok (.iaload, 1) := by decide +kernel
theorem dX12_summedBy_74 : decode cX12_summedBy 74 = .ok (.invokevirtual 310, 3) := by decide +kernel
theorem dX12_summedBy_77 : decode cX12_summedBy 77 = .ok (.lreturn, 1) := by decide +kernel
theorem dX12_summedBy_78 : decode cX12_summedBy 78 = .ok (.iinc 2 1, 3) := by decide +kernel
theorem dX12_summedBy_81 : decode cX12_summedBy 81 = .ok (.goto (-79), 3) := by decide +kernel
theorem dX12_summedBy_84 : decode cX12_summedBy 84 = .ok (.lconst 0, 1) := by decide +kernel
theorem dX12_summedBy_85 : decode cX12_summedBy 85 = .ok (.lreturn, 1) := by decide +kernel
theorem dX12_takes_0 : decode cX12_takes 0 = .ok (.bipush 12, 2) := by decide +kernel
theorem dX12_takes_2 : decode cX12_takes 2 = .ok (.iconst 4, 1) := by decide +kernel
theorem dX12_takes_3 : decode cX12_takes 3 = .ok (.iload_n 1, 1) := by decide +kernel
theorem dX12_takes_4 : decode cX12_takes 4 = .ok (.imul, 1) := by decide +kernel
theorem dX12_takes_5 : decode cX12_takes 5 = .ok (.iadd, 1) := by decide +kernel
theorem dX12_takes_6 : decode cX12_takes 6 = .ok (.istore_n 2, 1) := by decide +kernel
theorem dX12_takes_7 : decode cX12_takes 7 = .ok (.aload_n 0, 1) := by decide +kernel
theorem dX12_takes_8 : decode cX12_takes 8 = .ok (.getfield 39, 3) := by decide +kernel
theorem dX12_takes_11 : decode cX12_takes 11 = .ok (.bipush 11, 2) := by decide +kernel
theorem dX12_takes_13 : decode cX12_takes 13 = .ok (.dup2, 1) := by decide +kernel
theorem dX12_takes_14 : decode cX12_takes 14 = .ok (.iaload, 1) := by decide +kernel
theorem dX12_takes_15 : decode cX12_takes 15 = .ok (.aload_n 0, 1) := by decide +kernel
theorem dX12_takes_16 : decode cX12_takes 16 = .ok (.getfield 39, 3) := by decide +kernel
theorem dX12_takes_19 : decode cX12_takes 19 = .ok (.bipush 56, 2) := by decide +kernel
theorem dX12_takes_21 : decode cX12_takes 21 = .ok (.iload_n 1, 1) := by decide +kernel
theorem dX12_takes_22 : decode cX12_takes 22 = .ok (.iadd, 1) := by decide +kernel
theorem dX12_takes_23 : decode cX12_takes 23 = .ok (.iaload, 1) := by decide +kernel
theorem dX12_takes_24 : decode cX12_takes 24 = .ok (.isub, 1) := by decide +kernel
theorem dX12_takes_25 : decode cX12_takes 25 = .ok (.iastore, 1) := by decide +kernel
theorem dX12_takes_26 : decode cX12_takes 26 = .ok (.aload_n 0, 1) := by decide +kernel
theorem dX12_takes_27 : decode cX12_takes 27 = .ok (.getfield 39, 3) := by decide +kernel
theorem dX12_takes_30 : decode cX12_takes 30 = .ok (.iload_n 2, 1) := by decide +kernel
theorem dX12_takes_31 : decode cX12_takes 31 = .ok (.aload_n 0, 1) := by decide +kernel
theorem dX12_takes_32 : decode cX12_takes 32 = .ok (.getfield 39, 3) := by decide +kernel
theorem dX12_takes_35 : decode cX12_takes 35 = .ok (.iload_n 2, 1) := by decide +kernel
theorem dX12_takes_36 : decode cX12_takes 36 = .ok (.iaload, 1) := by decide +kernel
theorem dX12_takes_37 : decode cX12_takes 37 = .ok (.bipush 6, 2) := by decide +kernel
theorem dX12_takes_39 : decode cX12_takes 39 = .ok (.if_icmp .le 15, 3) := by decide +kernel
theorem dX12_takes_42 : decode cX12_takes 42 = .ok (.aload_n 0, 1) := by decide +kernel
theorem dX12_takes_43 : decode cX12_takes 43 = .ok (.getfield 39, 3) := by decide +kernel
theorem dX12_takes_46 : decode cX12_takes 46 = .ok (.iload_n 2, 1) := by decide +kernel
theorem dX12_takes_47 : decode cX12_takes 47 = .ok (.iaload, 1) := by decide +kernel
theorem dX12_takes_48 : decode cX12_takes 48 = .ok (.bipush 6, 2) := by decide +kernel
theorem dX12_takes_50 : decode cX12_takes 50 = .ok (.isub, 1) := by decide +kernel
theorem dX12_takes_51 : decode cX12_takes 51 = .ok (.goto 4, 3) := by decide +kernel
theorem dX12_takes_54 : decode cX12_takes 54 = .ok (.iconst 0, 1) := by decide +kernel
theorem dX12_takes_55 : decode cX12_takes 55 = .ok (.iastore, 1) := by decide +kernel
theorem dX12_takes_56 : decode cX12_takes 56 = .ok (.aload_n 0, 1) := by decide +kernel
theorem dX12_takes_57 : decode cX12_takes 57 = .ok (.getfield 39, 3) := by decide +kernel
theorem dX12_takes_60 : decode cX12_takes 60 = .ok (.iload_n 2, 1) := by decide +kernel
theorem dX12_takes_61 : decode cX12_takes 61 = .ok (.iconst 1, 1) := by decide +kernel
theorem dX12_takes_62 : decode cX12_takes 62 = .ok (.iadd, 1) := by decide +kernel
theorem dX12_takes_63 : decode cX12_takes 63 = .ok (.dup2, 1) := by decide +kernel
theorem dX12_takes_64 : decode cX12_takes 64 = .ok (.iaload, 1) := by decide +kernel
theorem dX12_takes_65 : decode cX12_takes 65 = .ok (.aload_n 0, 1) := by decide +kernel
theorem dX12_takes_66 : decode cX12_takes 66 = .ok (.getfield 39, 3) := by decide +kernel
theorem dX12_takes_69 : decode cX12_takes 69 = .ok (.bipush 56, 2) := by decide +kernel
theorem dX12_takes_71 : decode cX12_takes 71 = .ok (.iload_n 1, 1) := by decide +kernel
theorem dX12_takes_72 : decode cX12_takes 72 = .ok (.iadd, 1) := by decide +kernel
theorem dX12_takes_73 : decode cX12_takes 73 = .ok (.iaload, 1) := by decide +kernel
theorem dX12_takes_74 : decode cX12_takes 74 = .ok (.iadd, 1) := by decide +kernel
theorem dX12_takes_75 : decode cX12_takes 75 = .ok (.iastore, 1) := by decide +kernel
theorem dX12_takes_76 : decode cX12_takes 76 = .ok (.aload_n 0, 1) := by decide +kernel
theorem dX12_takes_77 : decode cX12_takes 77 = .ok (.getfield 39, 3) := by decide +kernel
theorem dX12_takes_80 : decode cX12_takes 80 = .ok (.iload_n 2, 1) := by decide +kernel
theorem dX12_takes_81 : decode cX12_takes 81 = .ok (.iconst 3, 1) := by decide +kernel
theorem dX12_takes_82 : decode cX12_takes 82 = .ok (.iadd, 1) := by decide +kernel
theorem dX12_takes_83 : decode cX12_takes 83 = .ok (.aload_n 0, 1) := by decide +kernel
theorem dX12_takes_84 : decode cX12_takes 84 = .ok (.getfield 39, 3) := by decide +kernel
theorem dX12_takes_87 : decode cX12_takes 87 = .ok (.bipush 10, 2) := by decide +kernel
theorem dX12_takes_89 : decode cX12_takes 89 = .ok (.iaload, 1) := by decide +kernel
theorem dX12_takes_90 : decode cX12_takes 90 = .ok (.iastore, 1) := by decide +kernel
theorem dX12_takes_91 : decode cX12_takes 91 = .ok (.return_, 1) := by decide +kernel
theorem dX12_temperOf_0 : decode cX12_temperOf 0 = .ok (.aload_n 0, 1) := by decide +kernel
theorem dX12_temperOf_1 : decode cX12_temperOf 1 = .ok (.getfield 39, 3) := by decide +kernel
theorem dX12_temperOf_4 : decode cX12_temperOf 4 = .ok (.bipush 12, 2) := by decide +kernel
theorem dX12_temperOf_6 : decode cX12_temperOf 6 = .ok (.iconst 4, 1) := by decide +kernel
theorem dX12_temperOf_7 : decode cX12_temperOf 7 = .ok (.iload_n 1, 1) := by decide +kernel
theorem dX12_temperOf_8 : decode cX12_temperOf 8 = .ok (.imul, 1) := by decide +kernel
theorem dX12_temperOf_9 : decode cX12_temperOf 9 = .ok (.iadd, 1) := by decide +kernel
theorem dX12_temperOf_10 : decode cX12_temperOf 10 = .ok (.iaload, 1) := by decide +kernel
theorem dX12_temperOf_11 : decode cX12_temperOf 11 = .ok (.ireturn, 1) := by decide +kernel
theorem dX12_weathers_0 : decode cX12_weathers 0 = .ok (.aload_n 0, 1) := by decide +kernel
theorem dX12_weathers_1 : decode cX12_weathers 1 = .ok (.getfield 39, 3) := by decide +kernel
theorem dX12_weathers_4 : decode cX12_weathers 4 = .ok (.bipush 36, 2) := by decide +kernel
theorem dX12_weathers_6 : decode cX12_weathers 6 = .ok (.aload_n 0, 1) := by decide +kernel
theorem dX12_weathers_7 : decode cX12_weathers 7 = .ok (.invokevirtual 314, 3) := by decide +kernel
theorem dX12_weathers_10 : decode cX12_weathers 10 = .ok (.iadd, 1) := by decide +kernel
theorem dX12_weathers_11 : decode cX12_weathers 11 = .ok (.iaload, 1) := by decide +kernel
theorem dX12_weathers_12 : decode cX12_weathers 12 = .ok (.istore_n 1, 1) := by decide +kernel
theorem dX12_weathers_13 : decode cX12_weathers 13 = .ok (.iconst 0, 1) := by decide +kernel
theorem dX12_weathers_14 : decode cX12_weathers 14 = .ok (.istore_n 2, 1) := by decide +kernel
theorem dX12_weathers_15 : decode cX12_weathers 15 = .ok (.iload_n 2, 1) := by decide +kernel
theorem dX12_weathers_16 : decode cX12_weathers 16 = .ok (.aload_n 0, 1) := by decide +kernel
theorem dX12_weathers_17 : decode cX12_weathers 17 = .ok (.getfield 39, 3) := by decide +kernel
theorem dX12_weathers_20 : decode cX12_weathers 20 = .ok (.iconst 3, 1) := by decide +kernel
theorem dX12_weathers_21 : decode cX12_weathers 21 = .ok (.iaload, 1) := by decide +kernel
theorem dX12_weathers_22 : decode cX12_weathers 22 = .ok (.if_icmp .ge 77, 3) := by decide +kernel
theorem dX12_weathers_25 : decode cX12_weathers 25 = .ok (.bipush 12, 2) := by decide +kernel
theorem dX12_weathers_27 : decode cX12_weathers 27 = .ok (.iconst 4, 1) := by decide +kernel
theorem dX12_weathers_28 : decode cX12_weathers 28 = .ok (.iload_n 2, 1) := by decide +kernel
theorem dX12_weathers_29 : decode cX12_weathers 29 = .ok (.imul, 1) := by decide +kernel
theorem dX12_weathers_30 : decode cX12_weathers 30 = .ok (.iadd, 1) := by decide +kernel
theorem dX12_weathers_31 : decode cX12_weathers 31 = .ok (.istore_n 3, 1) := by decide +kernel
theorem dX12_weathers_32 : decode cX12_weathers 32 = .ok (.iload_n 1, 1) := by decide +kernel
theorem dX12_weathers_33 : decode cX12_weathers 33 = .ok (.iconst 5, 1) := by decide +kernel
theorem dX12_weathers_34 : decode cX12_weathers 34 = .ok (.if_icmp .lt 31, 3) := by decide +kernel
theorem dX12_weathers_37 : decode cX12_weathers 37 = .ok (.aload_n 0, 1) := by decide +kernel
theorem dX12_weathers_38 : decode cX12_weathers 38 = .ok (.getfield 39, 3) := by decide +kernel
theorem dX12_weathers_41 : decode cX12_weathers 41 = .ok (.iload_n 3, 1) := by decide +kernel
theorem dX12_weathers_42 : decode cX12_weathers 42 = .ok (.dup2, 1) := by decide +kernel
theorem dX12_weathers_43 : decode cX12_weathers 43 = .ok (.iaload, 1) := by decide +kernel
theorem dX12_weathers_44 : decode cX12_weathers 44 = .ok (.aload_n 0, 1) := by decide +kernel
theorem dX12_weathers_45 : decode cX12_weathers 45 = .ok (.getfield 39, 3) := by decide +kernel
theorem dX12_weathers_48 : decode cX12_weathers 48 = .ok (.iload_n 3, 1) := by decide +kernel
theorem dX12_weathers_49 : decode cX12_weathers 49 = .ok (.iaload, 1) := by decide +kernel
theorem dX12_weathers_50 : decode cX12_weathers 50 = .ok (.bipush 20, 2) := by decide +kernel
theorem dX12_weathers_52 : decode cX12_weathers 52 = .ok (.if_icmp .ge 7, 3) := by decide +kernel
theorem dX12_weathers_55 : decode cX12_weathers 55 = .ok (.iconst 1, 1) := by decide +kernel
theorem dX12_weathers_56 : decode cX12_weathers 56 = .ok (.goto 4, 3) := by decide +kernel
theorem dX12_weathers_59 : decode cX12_weathers 59 = .ok (.iconst 0, 1) := by decide +kernel
theorem dX12_weathers_60 : decode cX12_weathers 60 = .ok (.iadd, 1) := by decide +kernel
theorem dX12_weathers_61 : decode cX12_weathers 61 = .ok (.iastore, 1) := by decide +kernel
theorem dX12_weathers_62 : decode cX12_weathers 62 = .ok (.goto 31, 3) := by decide +kernel
theorem dX12_weathers_65 : decode cX12_weathers 65 = .ok (.iload_n 1, 1) := by decide +kernel
theorem dX12_weathers_66 : decode cX12_weathers 66 = .ok (.iconst 2, 1) := by decide +kernel
theorem dX12_weathers_67 : decode cX12_weathers 67 = .ok (.if_icmp .gt 26, 3) := by decide +kernel
theorem dX12_weathers_70 : decode cX12_weathers 70 = .ok (.aload_n 0, 1) := by decide +kernel
theorem dX12_weathers_71 : decode cX12_weathers 71 = .ok (.getfield 39, 3) := by decide +kernel
theorem dX12_weathers_74 : decode cX12_weathers 74 = .ok (.iload_n 3, 1) := by decide +kernel
theorem dX12_weathers_75 : decode cX12_weathers 75 = .ok (.dup2, 1) := by decide +kernel
theorem dX12_weathers_76 : decode cX12_weathers 76 = .ok (.iaload, 1) := by decide +kernel
theorem dX12_weathers_77 : decode cX12_weathers 77 = .ok (.aload_n 0, 1) := by decide +kernel
theorem dX12_weathers_78 : decode cX12_weathers 78 = .ok (.getfield 39, 3) := by decide +kernel
theorem dX12_weathers_81 : decode cX12_weathers 81 = .ok (.iload_n 3, 1) := by decide +kernel
theorem dX12_weathers_82 : decode cX12_weathers 82 = .ok (.iaload, 1) := by decide +kernel
theorem dX12_weathers_83 : decode cX12_weathers 83 = .ok (.ifCond .le 7, 3) := by decide +kernel
theorem dX12_weathers_86 : decode cX12_weathers 86 = .ok (.iconst 1, 1) := by decide +kernel
theorem dX12_weathers_87 : decode cX12_weathers 87 = .ok (.goto 4, 3) := by decide +kernel
theorem dX12_weathers_90 : decode cX12_weathers 90 = .ok (.iconst 0, 1) := by decide +kernel
theorem dX12_weathers_91 : decode cX12_weathers 91 = .ok (.isub, 1) := by decide +kernel
theorem dX12_weathers_92 : decode cX12_weathers 92 = .ok (.iastore, 1) := by decide +kernel
theorem dX12_weathers_93 : decode cX12_weathers 93 = .ok (.iinc 2 1, 3) := by decide +kernel
theorem dX12_weathers_96 : decode cX12_weathers 96 = .ok (.goto (-81), 3) := by decide +kernel
theorem dX12_weathers_99 : decode cX12_weathers 99 = .ok (.return_, 1) := by decide +kernel
set_option maxHeartbeats 4000000 in
set_option maxRecDepth 100000 in
theorem ct_X12_in (l : Launch) (D : va_G) (tc : Nat → ClassId) (sk : (Nat → Nat) × (Nat → Nat)) (w1 : Int64) (w2 : Int64) (w3 : Int64)  : Ct l yX12_in cX12_in 6 (some .boolean) { frames := 0, cells := 0, slots := 0, locals := 0 } D tc sk [.long w1, .long w2, .long w3] [] (fun (v : Option Value) (_ : Unit) => ∃ r : Int32, v = some (.int r) ∧ ((r.toInt = 0 ∨ (r.toInt = 1 ∧ w2.toInt ≤ w1.toInt ∧ w1.toInt ≤ w3.toInt)))) (fun (_ : Unit) => []) 0 0 := by
  refine Ct.start (by decide) (Nat.le_of_ble_eq_true rfl) (fun p e s m below meth c A ls hx hb hr hlk hin hml hown hts hK hX hP hD hA hl hS => ?_)
  have hl : lv_has ls 6 [(0, .long w1), (2, .long w2), (4, .long w3)] := hl
  refine lv_lload_n hx hb dX12_in_0 rfl (lv_at hl 0 rfl) ?_
  refine lv_lload_n hx hb dX12_in_1 rfl (lv_at hl 1 rfl) ?_
  refine W.lcmp hx hb dX12_in_2 ?_
  refine lv_topi (fun x_1 ex_1 => ?_)
  refine lv_if_lt (tgt := 17) hx hb dX12_in_3 (by decide) (fun c_2 => ?_) (fun c_2 => ?_)
  · skip
    have lz_3 : (w1 : Int64).toInt < (w2 : Int64).toInt := by have hc := c_2; rw [ex_1] at hc; exact Int64.lt_iff_toInt_lt.mp ((lg_cmp_lt _ _).mp hc)
    refine lv_iconst (v := 0) hx hb dX12_in_17 (by decide) ?_
    have hp_4 : ((0 : Int32).toInt = 0 ∨ ((0 : Int32).toInt = 1 ∧ w2.toInt ≤ w1.toInt ∧ w1.toInt ≤ w3.toInt)) := by
      have z_1 := Int32.lt_iff_toInt_lt.mp c_2
      have y_0 : (0 : Int32).toInt = 0 := by decide
      omega
    exact retI (v := 0) hx hb hr hlk (rfl) hP hD hS () ⟨_, rfl, hp_4⟩ [] rfl rfl dX12_in_18 (Nat.le_of_ble_eq_true rfl) (Nat.le_of_ble_eq_true rfl) rfl
  · skip
    have lz_5 : (w2 : Int64).toInt ≤ (w1 : Int64).toInt := by have hc := c_2; rw [ex_1] at hc; exact Int64.le_iff_toInt_le.mp (Int64.not_lt.mp (fun z => hc ((lg_cmp_lt _ _).mpr z)))
    refine lv_lload_n hx hb dX12_in_6 rfl (lv_at hl 0 rfl) ?_
    refine lv_lload hx hb dX12_in_7 (lv_at hl 2 rfl) ?_
    refine W.lcmp hx hb dX12_in_9 ?_
    refine lv_topi (fun x_6 ex_6 => ?_)
    refine lv_if_gt (tgt := 17) hx hb dX12_in_10 (by decide) (fun c_7 => ?_) (fun c_7 => ?_)
    · skip
      have lz_8 : (w3 : Int64).toInt < (w1 : Int64).toInt := by have hc := c_7; rw [ex_6] at hc; exact Int64.lt_iff_toInt_lt.mp ((lg_cmp_gt _ _).mp hc)
      refine lv_iconst (v := 0) hx hb dX12_in_17 (by decide) ?_
      have hp_9 : ((0 : Int32).toInt = 0 ∨ ((0 : Int32).toInt = 1 ∧ w2.toInt ≤ w1.toInt ∧ w1.toInt ≤ w3.toInt)) := by
        have z_1 := Int32.le_iff_toInt_le.mp (Int32.not_lt.mp c_2)
        have z_2 := Int32.lt_iff_toInt_lt.mp c_7
        have y_0 : (0 : Int32).toInt = 0 := by decide
        omega
      exact retI (v := 0) hx hb hr hlk (rfl) hP hD hS () ⟨_, rfl, hp_9⟩ [] rfl rfl dX12_in_18 (Nat.le_of_ble_eq_true rfl) (Nat.le_of_ble_eq_true rfl) rfl
    · skip
      have lz_10 : (w1 : Int64).toInt ≤ (w3 : Int64).toInt := by have hc := c_7; rw [ex_6] at hc; exact Int64.le_iff_toInt_le.mp (Int64.not_lt.mp (fun z => hc ((lg_cmp_gt _ _).mpr z)))
      refine lv_iconst (v := 1) hx hb dX12_in_13 (by decide) ?_
      refine lv_goto (tgt := 18) hx hb dX12_in_14 (by decide) ?_
      have hp_11 : ((1 : Int32).toInt = 0 ∨ ((1 : Int32).toInt = 1 ∧ w2.toInt ≤ w1.toInt ∧ w1.toInt ≤ w3.toInt)) := by
        have z_1 := Int32.le_iff_toInt_le.mp (Int32.not_lt.mp c_2)
        have z_2 := Int32.le_iff_toInt_le.mp (Int32.not_lt.mp c_7)
        have y_0 : (0 : Int32).toInt = 0 := by decide
        have y_1 : (1 : Int32).toInt = 1 := by decide
        have yr : (1 : Int32).toInt = 1 := by decide
        omega
      exact retI (v := 1) hx hb hr hlk (rfl) hP hD hS () ⟨_, rfl, hp_11⟩ [] rfl rfl dX12_in_18 (Nat.le_of_ble_eq_true rfl) (Nat.le_of_ble_eq_true rfl) rfl
set_option maxHeartbeats 4000000 in
set_option maxRecDepth 100000 in
theorem ct_X12_isOf (l : Launch) (D : va_G) (tc : Nat → ClassId) (sk : (Nat → Nat) × (Nat → Nat)) (x1 : Int32) (x2 : Int32)  : Ct l yX12_isOf cX12_isOf 2 (some .boolean) { frames := 0, cells := 0, slots := 0, locals := 0 } D tc sk [.int x1, .int x2] [] (fun (v : Option Value) (_ : Unit) => ∃ r : Int32, v = some (.int r) ∧ ((r.toInt = 0 ∨ r.toInt = 1))) (fun (_ : Unit) => []) 0 0 := by
  refine Ct.start (by decide) (Nat.le_of_ble_eq_true rfl) (fun p e s m below meth c A ls hx hb hr hlk hin hml hown hts hK hX hP hD hA hl hS => ?_)
  have hl : lv_has ls 2 [(0, .int x1), (1, .int x2)] := hl
  refine lv_iload_n hx hb dX12_isOf_0 rfl (lv_at hl 0 rfl) ?_
  refine lv_iload_n hx hb dX12_isOf_1 rfl (lv_at hl 1 rfl) ?_
  refine lv_ishr hx hb dX12_isOf_2 ?_
  refine lv_topi (fun x_1 ex_1 => ?_)
  refine lv_iconst (v := 1) hx hb dX12_isOf_3 (by decide) ?_
  refine lv_iand hx hb dX12_isOf_4 ?_
  refine lv_topi (fun x_2 ex_2 => ?_)
  refine lv_iconst (v := 1) hx hb dX12_isOf_5 (by decide) ?_
  refine lv_icmp_ne (tgt := 13) hx hb dX12_isOf_6 (by decide) (fun c_3 => ?_) (fun c_3 => ?_)
  · skip
    refine lv_iconst (v := 0) hx hb dX12_isOf_13 (by decide) ?_
    have hp_4 : ((0 : Int32).toInt = 0 ∨ (0 : Int32).toInt = 1) := by
      have z_1 : ¬ (x_2 : Int32).toInt = (1 : Int32).toInt := fun z => c_3 (Int32.toInt_inj.mp z)
      have y_1 : (1 : Int32).toInt = 1 := by decide
      have y_0 : (0 : Int32).toInt = 0 := by decide
      have yr : (0 : Int32).toInt = 0 := by decide
      omega
    exact retI (v := 0) hx hb hr hlk (rfl) hP hD hS () ⟨_, rfl, hp_4⟩ [] rfl rfl dX12_isOf_14 (Nat.le_of_ble_eq_true rfl) (Nat.le_of_ble_eq_true rfl) rfl
  · skip
    refine lv_iconst (v := 1) hx hb dX12_isOf_9 (by decide) ?_
    refine lv_goto (tgt := 14) hx hb dX12_isOf_10 (by decide) ?_
    have hp_5 : ((1 : Int32).toInt = 0 ∨ (1 : Int32).toInt = 1) := by
      have z_1 := congrArg Int32.toInt c_3
      have y_1 : (1 : Int32).toInt = 1 := by decide
      omega
    exact retI (v := 1) hx hb hr hlk (rfl) hP hD hS () ⟨_, rfl, hp_5⟩ [] rfl rfl dX12_isOf_14 (Nat.le_of_ble_eq_true rfl) (Nat.le_of_ble_eq_true rfl) rfl
set_option maxHeartbeats 4000000 in
set_option maxRecDepth 100000 in
theorem ct_X12_bits (l : Launch) (D : va_G) (tc : Nat → ClassId) (sk : (Nat → Nat) × (Nat → Nat)) (x1 : Int32)  : Ct l yX12_bits cX12_bits 3 (some .int) { frames := 0, cells := 0, slots := 0, locals := 0 } D tc sk [.int x1] [] (fun (v : Option Value) (_ : Unit) => ∃ r : Int32, v = some (.int r) ∧ (True)) (fun (_ : Unit) => []) 0 0 := by
  refine Ct.start (by decide) (Nat.le_of_ble_eq_true rfl) (fun p e s m below meth c A ls hx hb hr hlk hin hml hown hts hK hX hP hD hA hl hS => ?_)
  have hl : lv_has ls 3 [(0, .int x1)] := hl
  refine lv_iconst (v := 0) hx hb dX12_bits_0 (by decide) ?_
  refine lv_istore_n (lv' := [(1, .int 0), (0, .int x1)]) hx hb dX12_bits_1 rfl hl (by decide) rfl (fun ls hl₀ => ?_)
  replace hl := hl₀
  clear hl₀
  refine lv_iload_n hx hb dX12_bits_2 rfl (lv_at hl 1 rfl) ?_
  refine lv_istore_n (lv' := [(2, .int x1), (1, .int 0), (0, .int x1)]) hx hb dX12_bits_3 rfl hl (by decide) rfl (fun ls hl₀ => ?_)
  replace hl := hl₀
  clear hl₀
  have loop_7 : ∀ (n_5 : Nat) (vy_3 : Int32) (vy_4 : Int32) (H : Heap) (locs : List Loc) (ls : Array Slot), (((vy_3 : Int32).toUInt32.toNat : Int)).toNat < n_5 → va_P D classes [] H → va_D A [] → va_S A s.heap H locs → lv_has ls 3 [(2, .int vy_3), (1, .int vy_4), (0, .int x1)] → W p l e ({ frames := 0, cells := 0, slots := 0, locals := 0 }) s m ([.int x1].toArray) below meth c H locs 0 0 (MQ below (QW (fun (v : Option Value) (_ : Unit) => ∃ r : Int32, v = some (.int r) ∧ (True)) (BW D (fun (_ : Unit) => []) A) A) ([.int x1].toArray) s 0 0 A) (F0 m 4 ls []) := by
    clear hP hD hS hl
    intro n_5
    induction n_5 with
    | zero =>
      intro vy_3 vy_4 H locs ls h1
      exact absurd h1 (Nat.not_lt_zero _)
    | succ n_5 ih_6 =>
      intro vy_3 vy_4 H locs ls hn_8  hP hD hS hl
      refine lv_iload_n hx hb dX12_bits_4 rfl (lv_at hl 0 rfl) ?_
      refine lv_if_eq (tgt := 20) hx hb dX12_bits_5 (by decide) (fun c_9 => ?_) (fun c_9 => ?_)
      · skip
        refine lv_iload_n hx hb dX12_bits_20 rfl (lv_at hl 1 rfl) ?_
        exact retI (v := vy_4) hx hb hr hlk (rfl) hP hD hS () ⟨_, rfl, trivial⟩ [] rfl rfl dX12_bits_21 (Nat.le_of_ble_eq_true rfl) (Nat.le_of_ble_eq_true rfl) rfl
      · skip
        obtain ⟨x_10, ex_10⟩ : ∃ y : Int32, y = vy_4 + 1 := ⟨_, rfl⟩
        refine lv_iinc (v := x_10) (lv' := [(1, .int x_10), (2, .int vy_3), (0, .int x1)]) hx hb dX12_bits_8 hl (k := 1) rfl (by rw [ex_10]; rfl) (by decide) rfl (fun ls hl₀ => ?_)
        replace hl := hl₀
        clear hl₀
        refine lv_iload_n hx hb dX12_bits_11 rfl (lv_at hl 1 rfl) ?_
        refine lv_iload_n hx hb dX12_bits_12 rfl (lv_at hl 1 rfl) ?_
        refine lv_iconst (v := 1) hx hb dX12_bits_13 (by decide) ?_
        refine lv_isub hx hb dX12_bits_14 ?_
        refine lv_topi (fun x_11 ex_11 => ?_)
        refine lv_iand hx hb dX12_bits_15 ?_
        refine lv_topi (fun x_12 ex_12 => ?_)
        refine lv_istore_n (lv' := [(2, .int x_12), (1, .int x_10), (0, .int x1)]) hx hb dX12_bits_16 rfl hl (by decide) rfl (fun ls hl₀ => ?_)
        replace hl := hl₀
        clear hl₀
        refine lv_goto (tgt := 4) hx hb dX12_bits_17 (by decide) ?_
        have hb_13 : ((x_12 : Int32).toUInt32.toNat : Int) < ((vy_3 : Int32).toUInt32.toNat : Int) ∧ 1 ≤ ((vy_3 : Int32).toUInt32.toNat : Int) := by
          have z_1 : ¬ (vy_3 : Int32).toInt = (0 : Int32).toInt := fun z => c_9 (Int32.toInt_inj.mp z)
          have y_0 : (0 : Int32).toInt = 0 := by decide
          have hdec := and_dec ex_11 c_9
          rw [← ex_12] at hdec
          omega
        exact ih_6 x_12 x_10 _ _ _ (by omega)  (hP.sub [] rfl) (hD.sub [] rfl rfl) hS (lv_sub hl [0, 1, 2] rfl)
  exact loop_7 _ x1 0 _ _ _ (Nat.lt_succ_self _)  hP hD hS hl
set_option maxHeartbeats 4000000 in
set_option maxRecDepth 100000 in
theorem ct_X12_isRule (l : Launch) (D : va_G) (tc : Nat → ClassId) (sk : (Nat → Nat) × (Nat → Nat)) (Ma : Nat → Nat) (Mv : Nat → Int32) (Mj : Nat → Int64) (x1 : Int32)  : Ct l yX12_isRule cX12_isRule 2 (some .boolean) { frames := 0, cells := 0, slots := 0, locals := 0 } D tc sk [.ref (Ma 0), .int x1] [((Ma 0), .inr (12, [.ref (Ma 1), .int (Mv 0), .int (Mv 1), .ref (Ma 2), .ref (Ma 3), .ref (Ma 4), .ref (Ma 5), .ref (Ma 6), .int (Mv 2), .int (Mv 3), .int (Mv 4), .int (Mv 5), .int (Mv 6), .int (Mv 7), .int (Mv 8), .ref (Ma 7), .int (Mv 9), .ref (Ma 8), .int (Mv 10), .ref (Ma 9), .ref (Ma 10), .int (Mv 11), .int (Mv 12), .int (Mv 13), .ref (Ma 11), .int (Mv 14), .ref (Ma 12), .ref (Ma 13), .ref (Ma 14), .ref (Ma 15), .ref (Ma 16), .long (Mj 0), .ref (Ma 17), .ref (Ma 18), .ref (Ma 19), .ref (Ma 20)]))] (fun (v : Option Value) (_ : Unit) => ∃ r : Int32, v = some (.int r) ∧ ((r.toInt = 0 ∨ (r.toInt = 1 ∧ 0 ≤ x1.toInt ∧ x1.toInt < (Mv 1).toInt)))) (fun (_ : Unit) => [((Ma 0), .inr (12, [.ref (Ma 1), .int (Mv 0), .int (Mv 1), .ref (Ma 2), .ref (Ma 3), .ref (Ma 4), .ref (Ma 5), .ref (Ma 6), .int (Mv 2), .int (Mv 3), .int (Mv 4), .int (Mv 5), .int (Mv 6), .int (Mv 7), .int (Mv 8), .ref (Ma 7), .int (Mv 9), .ref (Ma 8), .int (Mv 10), .ref (Ma 9), .ref (Ma 10), .int (Mv 11), .int (Mv 12), .int (Mv 13), .ref (Ma 11), .int (Mv 14), .ref (Ma 12), .ref (Ma 13), .ref (Ma 14), .ref (Ma 15), .ref (Ma 16), .long (Mj 0), .ref (Ma 17), .ref (Ma 18), .ref (Ma 19), .ref (Ma 20)]))]) 0 0 := by
  refine Ct.start (by decide) (Nat.le_of_ble_eq_true rfl) (fun p e s m below meth c A ls hx hb hr hlk hin hml hown hts hK hX hP hD hA hl hS => ?_)
  have hl : lv_has ls 2 [(0, .ref (Ma 0)), (1, .int x1)] := hl
  refine lv_iload_n hx hb dX12_isRule_0 rfl (lv_at hl 1 rfl) ?_
  refine lv_if_lt (tgt := 16) hx hb dX12_isRule_1 (by decide) (fun c_1 => ?_) (fun c_1 => ?_)
  · skip
    refine lv_iconst (v := 0) hx hb dX12_isRule_16 (by decide) ?_
    have hp_2 : ((0 : Int32).toInt = 0 ∨ ((0 : Int32).toInt = 1 ∧ 0 ≤ x1.toInt ∧ x1.toInt < (Mv 1).toInt)) := by
      have z_1 := Int32.lt_iff_toInt_lt.mp c_1
      have y_0 : (0 : Int32).toInt = 0 := by decide
      omega
    exact retI (v := 0) hx hb hr hlk (rfl) hP hD hS () ⟨_, rfl, hp_2⟩ [0] rfl rfl dX12_isRule_17 (Nat.le_of_ble_eq_true rfl) (Nat.le_of_ble_eq_true rfl) rfl
  · skip
    refine lv_iload_n hx hb dX12_isRule_4 rfl (lv_at hl 1 rfl) ?_
    refine lv_aload_n hx hb dX12_isRule_5 rfl (lv_at hl 0 rfl) ?_
    refine gf_X12_256 hx hb hts hown hK hP 0 rfl rfl dX12_isRule_6 ?_
    refine lv_icmp_ge (tgt := 16) hx hb dX12_isRule_9 (by decide) (fun c_3 => ?_) (fun c_3 => ?_)
    · skip
      refine lv_iconst (v := 0) hx hb dX12_isRule_16 (by decide) ?_
      have hp_4 : ((0 : Int32).toInt = 0 ∨ ((0 : Int32).toInt = 1 ∧ 0 ≤ x1.toInt ∧ x1.toInt < (Mv 1).toInt)) := by
        have z_1 := Int32.le_iff_toInt_le.mp (Int32.not_lt.mp c_1)
        have z_2 := Int32.le_iff_toInt_le.mp c_3
        have y_0 : (0 : Int32).toInt = 0 := by decide
        omega
      exact retI (v := 0) hx hb hr hlk (rfl) hP hD hS () ⟨_, rfl, hp_4⟩ [0] rfl rfl dX12_isRule_17 (Nat.le_of_ble_eq_true rfl) (Nat.le_of_ble_eq_true rfl) rfl
    · skip
      refine lv_iconst (v := 1) hx hb dX12_isRule_12 (by decide) ?_
      refine lv_goto (tgt := 17) hx hb dX12_isRule_13 (by decide) ?_
      have hp_5 : ((1 : Int32).toInt = 0 ∨ ((1 : Int32).toInt = 1 ∧ 0 ≤ x1.toInt ∧ x1.toInt < (Mv 1).toInt)) := by
        have z_1 := Int32.le_iff_toInt_le.mp (Int32.not_lt.mp c_1)
        have z_2 := Int32.lt_iff_toInt_lt.mp (Int32.not_le.mp c_3)
        have y_0 : (0 : Int32).toInt = 0 := by decide
        have y_1 : (1 : Int32).toInt = 1 := by decide
        have yr : (1 : Int32).toInt = 1 := by decide
        omega
      exact retI (v := 1) hx hb hr hlk (rfl) hP hD hS () ⟨_, rfl, hp_5⟩ [0] rfl rfl dX12_isRule_17 (Nat.le_of_ble_eq_true rfl) (Nat.le_of_ble_eq_true rfl) rfl
set_option maxRecDepth 100000 in
theorem cu_X12_isRule (l : Launch) (D : va_G) (tc : Nat → ClassId) (sk : (Nat → Nat) × (Nat → Nat)) (Ma_0 : Nat) (Ma_1 : Nat) (Ma_2 : Nat) (Ma_3 : Nat) (Ma_4 : Nat) (Ma_5 : Nat) (Ma_6 : Nat) (Ma_7 : Nat) (Ma_8 : Nat) (Ma_9 : Nat) (Ma_10 : Nat) (Ma_11 : Nat) (Ma_12 : Nat) (Ma_13 : Nat) (Ma_14 : Nat) (Ma_15 : Nat) (Ma_16 : Nat) (Ma_17 : Nat) (Ma_18 : Nat) (Ma_19 : Nat) (Ma_20 : Nat) (Mv_0 : Int32) (Mv_1 : Int32) (Mv_2 : Int32) (Mv_3 : Int32) (Mv_4 : Int32) (Mv_5 : Int32) (Mv_6 : Int32) (Mv_7 : Int32) (Mv_8 : Int32) (Mv_9 : Int32) (Mv_10 : Int32) (Mv_11 : Int32) (Mv_12 : Int32) (Mv_13 : Int32) (Mv_14 : Int32) (Mj_0 : Int64) (x1 : Int32)  : Ct l yX12_isRule cX12_isRule 2 (some .boolean) { frames := 0, cells := 0, slots := 0, locals := 0 } D tc sk [.ref Ma_0, .int x1] [(Ma_0, .inr (12, [.ref Ma_1, .int Mv_0, .int Mv_1, .ref Ma_2, .ref Ma_3, .ref Ma_4, .ref Ma_5, .ref Ma_6, .int Mv_2, .int Mv_3, .int Mv_4, .int Mv_5, .int Mv_6, .int Mv_7, .int Mv_8, .ref Ma_7, .int Mv_9, .ref Ma_8, .int Mv_10, .ref Ma_9, .ref Ma_10, .int Mv_11, .int Mv_12, .int Mv_13, .ref Ma_11, .int Mv_14, .ref Ma_12, .ref Ma_13, .ref Ma_14, .ref Ma_15, .ref Ma_16, .long Mj_0, .ref Ma_17, .ref Ma_18, .ref Ma_19, .ref Ma_20]))] (fun (v : Option Value) (_ : Unit) => ∃ r : Int32, v = some (.int r) ∧ ((r.toInt = 0 ∨ (r.toInt = 1 ∧ 0 ≤ x1.toInt ∧ x1.toInt < Mv_1.toInt)))) (fun (_ : Unit) => [(Ma_0, .inr (12, [.ref Ma_1, .int Mv_0, .int Mv_1, .ref Ma_2, .ref Ma_3, .ref Ma_4, .ref Ma_5, .ref Ma_6, .int Mv_2, .int Mv_3, .int Mv_4, .int Mv_5, .int Mv_6, .int Mv_7, .int Mv_8, .ref Ma_7, .int Mv_9, .ref Ma_8, .int Mv_10, .ref Ma_9, .ref Ma_10, .int Mv_11, .int Mv_12, .int Mv_13, .ref Ma_11, .int Mv_14, .ref Ma_12, .ref Ma_13, .ref Ma_14, .ref Ma_15, .ref Ma_16, .long Mj_0, .ref Ma_17, .ref Ma_18, .ref Ma_19, .ref Ma_20]))]) 0 0 :=
  ct_X12_isRule l D tc sk (fun k => ([Ma_0, Ma_1, Ma_2, Ma_3, Ma_4, Ma_5, Ma_6, Ma_7, Ma_8, Ma_9, Ma_10, Ma_11, Ma_12, Ma_13, Ma_14, Ma_15, Ma_16, Ma_17, Ma_18, Ma_19, Ma_20] : List (Nat)).getD k 0) (fun k => ([Mv_0, Mv_1, Mv_2, Mv_3, Mv_4, Mv_5, Mv_6, Mv_7, Mv_8, Mv_9, Mv_10, Mv_11, Mv_12, Mv_13, Mv_14] : List (Int32)).getD k 0) (fun k => ([Mj_0] : List (Int64)).getD k 0) x1 
set_option maxHeartbeats 4000000 in
set_option maxRecDepth 100000 in
theorem ct_X12_push (l : Launch) (D : va_G) (tc : Nat → ClassId) (sk : (Nat → Nat) × (Nat → Nat)) (Ma : Nat → Nat) (Mv : Nat → Int32) (Mj : Nat → Int64) (Mg : Nat → Nat → Int64) (w1 : Int64) (h_top : 0 ≤ (Mv 10).toInt ∧ (Mv 10).toInt < 64) : Ct l yX12_push cX12_push 3 none { frames := 0, cells := 0, slots := 0, locals := 0 } D tc sk [.ref (Ma 0), .long w1] [((Ma 0), .inr (12, [.ref (Ma 1), .int (Mv 0), .int (Mv 1), .ref (Ma 2), .ref (Ma 3), .ref (Ma 4), .ref (Ma 5), .ref (Ma 6), .int (Mv 2), .int (Mv 3), .int (Mv 4), .int (Mv 5), .int (Mv 6), .int (Mv 7), .int (Mv 8), .ref (Ma 7), .int (Mv 9), .ref (Ma 8), .int (Mv 10), .ref (Ma 9), .ref (Ma 10), .int (Mv 11), .int (Mv 12), .int (Mv 13), .ref (Ma 11), .int (Mv 14), .ref (Ma 12), .ref (Ma 13), .ref (Ma 14), .ref (Ma 15), .ref (Ma 16), .long (Mj 0), .ref (Ma 17), .ref (Ma 18), .ref (Ma 19), .ref (Ma 20)])), ((Ma 8), .inl (tc 1, 64, .inr (.inl (Mg 8))))] (fun (v : Option Value) (u : (Int32) × (Nat → Int64)) => match u with | (oo0x1, oo0x2) => v = none ∧ ((oo0x1 : Int32).toInt = (Mv 10).toInt + 1)) (fun (u : (Int32) × (Nat → Int64)) => match u with | (oo0x1, oo0x2) => [((Ma 0), .inr (12, [.ref (Ma 1), .int (Mv 0), .int (Mv 1), .ref (Ma 2), .ref (Ma 3), .ref (Ma 4), .ref (Ma 5), .ref (Ma 6), .int (Mv 2), .int (Mv 3), .int (Mv 4), .int (Mv 5), .int (Mv 6), .int (Mv 7), .int (Mv 8), .ref (Ma 7), .int (Mv 9), .ref (Ma 8), .int oo0x1, .ref (Ma 9), .ref (Ma 10), .int (Mv 11), .int (Mv 12), .int (Mv 13), .ref (Ma 11), .int (Mv 14), .ref (Ma 12), .ref (Ma 13), .ref (Ma 14), .ref (Ma 15), .ref (Ma 16), .long (Mj 0), .ref (Ma 17), .ref (Ma 18), .ref (Ma 19), .ref (Ma 20)])), ((Ma 8), .inl (tc 1, 64, .inr (.inl oo0x2)))]) 0 0 := by
  refine Ct.start (by decide) (Nat.le_of_ble_eq_true rfl) (fun p e s m below meth c A ls hx hb hr hlk hin hml hown hts hK hX hP hD hA hl hS => ?_)
  have hl : lv_has ls 3 [(0, .ref (Ma 0)), (1, .long w1)] := hl
  refine lv_aload_n hx hb dX12_push_0 rfl (lv_at hl 0 rfl) ?_
  refine gf_X12_32 hx hb hts hown hK hP 0 rfl rfl dX12_push_1 ?_
  refine lv_aload_n hx hb dX12_push_4 rfl (lv_at hl 0 rfl) ?_
  refine gf_X12_268 hx hb hts hown hK hP 0 rfl rfl dX12_push_5 ?_
  refine lv_lload_n hx hb dX12_push_8 rfl (lv_at hl 1 rfl) ?_
  have hi_1 : vp_in (Mv 10) 64 := by
    refine vp_in_iff.mpr ⟨?_, ?_⟩ <;> omega
  refine st_long hx hb hK hP hD hS 1 1 rfl rfl hi_1 dX12_push_9 (fun g_2 H locs eg_2 hP₀ hD₀ hS₀ => ?_)
  replace hP : va_P D classes [((Ma 0), .inr (12, [.ref (Ma 1), .int (Mv 0), .int (Mv 1), .ref (Ma 2), .ref (Ma 3), .ref (Ma 4), .ref (Ma 5), .ref (Ma 6), .int (Mv 2), .int (Mv 3), .int (Mv 4), .int (Mv 5), .int (Mv 6), .int (Mv 7), .int (Mv 8), .ref (Ma 7), .int (Mv 9), .ref (Ma 8), .int (Mv 10), .ref (Ma 9), .ref (Ma 10), .int (Mv 11), .int (Mv 12), .int (Mv 13), .ref (Ma 11), .int (Mv 14), .ref (Ma 12), .ref (Ma 13), .ref (Ma 14), .ref (Ma 15), .ref (Ma 16), .long (Mj 0), .ref (Ma 17), .ref (Ma 18), .ref (Ma 19), .ref (Ma 20)])), ((Ma 8), .inl (tc 1, 64, .inr (.inl g_2)))] H := hP₀
  replace hD : va_D A [((Ma 0), .inr (12, [.ref (Ma 1), .int (Mv 0), .int (Mv 1), .ref (Ma 2), .ref (Ma 3), .ref (Ma 4), .ref (Ma 5), .ref (Ma 6), .int (Mv 2), .int (Mv 3), .int (Mv 4), .int (Mv 5), .int (Mv 6), .int (Mv 7), .int (Mv 8), .ref (Ma 7), .int (Mv 9), .ref (Ma 8), .int (Mv 10), .ref (Ma 9), .ref (Ma 10), .int (Mv 11), .int (Mv 12), .int (Mv 13), .ref (Ma 11), .int (Mv 14), .ref (Ma 12), .ref (Ma 13), .ref (Ma 14), .ref (Ma 15), .ref (Ma 16), .long (Mj 0), .ref (Ma 17), .ref (Ma 18), .ref (Ma 19), .ref (Ma 20)])), ((Ma 8), .inl (tc 1, 64, .inr (.inl g_2)))] := hD₀
  replace hS := hS₀
  clear hP₀ hD₀ hS₀
  refine lv_aload_n hx hb dX12_push_10 rfl (lv_at hl 0 rfl) ?_
  refine lv_dup hx hb dX12_push_11 rfl ?_
  refine gf_X12_268 hx hb hts hown hK hP 0 rfl rfl dX12_push_12 ?_
  refine lv_iconst (v := 1) hx hb dX12_push_15 (by decide) ?_
  refine lv_iadd hx hb dX12_push_16 ?_
  refine lv_topi (fun x_3 ex_3 => ?_)
  refine pf_X12_268 hx hb hts hown hK hP hD hS 0 rfl (Nat.le_of_ble_eq_true rfl) rfl rfl dX12_push_17 (fun H locs hP₀ hD₀ hS₀ => ?_)
  replace hP : va_P D classes [((Ma 0), .inr (12, [.ref (Ma 1), .int (Mv 0), .int (Mv 1), .ref (Ma 2), .ref (Ma 3), .ref (Ma 4), .ref (Ma 5), .ref (Ma 6), .int (Mv 2), .int (Mv 3), .int (Mv 4), .int (Mv 5), .int (Mv 6), .int (Mv 7), .int (Mv 8), .ref (Ma 7), .int (Mv 9), .ref (Ma 8), .int x_3, .ref (Ma 9), .ref (Ma 10), .int (Mv 11), .int (Mv 12), .int (Mv 13), .ref (Ma 11), .int (Mv 14), .ref (Ma 12), .ref (Ma 13), .ref (Ma 14), .ref (Ma 15), .ref (Ma 16), .long (Mj 0), .ref (Ma 17), .ref (Ma 18), .ref (Ma 19), .ref (Ma 20)])), ((Ma 8), .inl (tc 1, 64, .inr (.inl g_2)))] H := hP₀
  replace hD : va_D A [((Ma 0), .inr (12, [.ref (Ma 1), .int (Mv 0), .int (Mv 1), .ref (Ma 2), .ref (Ma 3), .ref (Ma 4), .ref (Ma 5), .ref (Ma 6), .int (Mv 2), .int (Mv 3), .int (Mv 4), .int (Mv 5), .int (Mv 6), .int (Mv 7), .int (Mv 8), .ref (Ma 7), .int (Mv 9), .ref (Ma 8), .int x_3, .ref (Ma 9), .ref (Ma 10), .int (Mv 11), .int (Mv 12), .int (Mv 13), .ref (Ma 11), .int (Mv 14), .ref (Ma 12), .ref (Ma 13), .ref (Ma 14), .ref (Ma 15), .ref (Ma 16), .long (Mj 0), .ref (Ma 17), .ref (Ma 18), .ref (Ma 19), .ref (Ma 20)])), ((Ma 8), .inl (tc 1, 64, .inr (.inl g_2)))] := hD₀
  replace hS := hS₀
  clear hP₀ hD₀ hS₀
  have ha_4 : (x_3 : Int32).toInt = (Mv 10).toInt + 1 := by
    have y_1 : (1 : Int32).toInt = 1 := by decide
    have t_x_3 : x_3.toInt = ((Mv 10) : Int32).toInt + (1 : Int32).toInt := by rw [ex_3]; exact add_toInt (by omega) (by omega)
    omega
  exact retV hx hb hr hlk hP hD hS (x_3, g_2) ⟨rfl, ha_4⟩ [0, 1] rfl rfl dX12_push_20 (Nat.le_of_ble_eq_true rfl) (Nat.le_of_ble_eq_true rfl) rfl
set_option maxRecDepth 100000 in
theorem cu_X12_push (l : Launch) (D : va_G) (tc : Nat → ClassId) (sk : (Nat → Nat) × (Nat → Nat)) (Ma_0 : Nat) (Ma_1 : Nat) (Ma_2 : Nat) (Ma_3 : Nat) (Ma_4 : Nat) (Ma_5 : Nat) (Ma_6 : Nat) (Ma_7 : Nat) (Ma_8 : Nat) (Ma_9 : Nat) (Ma_10 : Nat) (Ma_11 : Nat) (Ma_12 : Nat) (Ma_13 : Nat) (Ma_14 : Nat) (Ma_15 : Nat) (Ma_16 : Nat) (Ma_17 : Nat) (Ma_18 : Nat) (Ma_19 : Nat) (Ma_20 : Nat) (Mv_0 : Int32) (Mv_1 : Int32) (Mv_2 : Int32) (Mv_3 : Int32) (Mv_4 : Int32) (Mv_5 : Int32) (Mv_6 : Int32) (Mv_7 : Int32) (Mv_8 : Int32) (Mv_9 : Int32) (Mv_10 : Int32) (Mv_11 : Int32) (Mv_12 : Int32) (Mv_13 : Int32) (Mv_14 : Int32) (Mj_0 : Int64) (Mg_8 : Nat → Int64) (w1 : Int64) (h_top : 0 ≤ Mv_10.toInt ∧ Mv_10.toInt < 64) : Ct l yX12_push cX12_push 3 none { frames := 0, cells := 0, slots := 0, locals := 0 } D tc sk [.ref Ma_0, .long w1] [(Ma_0, .inr (12, [.ref Ma_1, .int Mv_0, .int Mv_1, .ref Ma_2, .ref Ma_3, .ref Ma_4, .ref Ma_5, .ref Ma_6, .int Mv_2, .int Mv_3, .int Mv_4, .int Mv_5, .int Mv_6, .int Mv_7, .int Mv_8, .ref Ma_7, .int Mv_9, .ref Ma_8, .int Mv_10, .ref Ma_9, .ref Ma_10, .int Mv_11, .int Mv_12, .int Mv_13, .ref Ma_11, .int Mv_14, .ref Ma_12, .ref Ma_13, .ref Ma_14, .ref Ma_15, .ref Ma_16, .long Mj_0, .ref Ma_17, .ref Ma_18, .ref Ma_19, .ref Ma_20])), (Ma_8, .inl (tc 1, 64, .inr (.inl Mg_8)))] (fun (v : Option Value) (u : (Int32) × (Nat → Int64)) => match u with | (oo0x1, oo0x2) => v = none ∧ ((oo0x1 : Int32).toInt = Mv_10.toInt + 1)) (fun (u : (Int32) × (Nat → Int64)) => match u with | (oo0x1, oo0x2) => [(Ma_0, .inr (12, [.ref Ma_1, .int Mv_0, .int Mv_1, .ref Ma_2, .ref Ma_3, .ref Ma_4, .ref Ma_5, .ref Ma_6, .int Mv_2, .int Mv_3, .int Mv_4, .int Mv_5, .int Mv_6, .int Mv_7, .int Mv_8, .ref Ma_7, .int Mv_9, .ref Ma_8, .int oo0x1, .ref Ma_9, .ref Ma_10, .int Mv_11, .int Mv_12, .int Mv_13, .ref Ma_11, .int Mv_14, .ref Ma_12, .ref Ma_13, .ref Ma_14, .ref Ma_15, .ref Ma_16, .long Mj_0, .ref Ma_17, .ref Ma_18, .ref Ma_19, .ref Ma_20])), (Ma_8, .inl (tc 1, 64, .inr (.inl oo0x2)))]) 0 0 :=
  ct_X12_push l D tc sk (fun k => ([Ma_0, Ma_1, Ma_2, Ma_3, Ma_4, Ma_5, Ma_6, Ma_7, Ma_8, Ma_9, Ma_10, Ma_11, Ma_12, Ma_13, Ma_14, Ma_15, Ma_16, Ma_17, Ma_18, Ma_19, Ma_20] : List (Nat)).getD k 0) (fun k => ([Mv_0, Mv_1, Mv_2, Mv_3, Mv_4, Mv_5, Mv_6, Mv_7, Mv_8, Mv_9, Mv_10, Mv_11, Mv_12, Mv_13, Mv_14] : List (Int32)).getD k 0) (fun k => ([Mj_0] : List (Int64)).getD k 0) (fun k => ([(fun _ => 0), (fun _ => 0), (fun _ => 0), (fun _ => 0), (fun _ => 0), (fun _ => 0), (fun _ => 0), (fun _ => 0), Mg_8] : List (Nat → Int64)).getD k (fun _ => 0)) w1 h_top
set_option maxHeartbeats 4000000 in
set_option maxRecDepth 100000 in
theorem ct_X12_pop (l : Launch) (D : va_G) (tc : Nat → ClassId) (sk : (Nat → Nat) × (Nat → Nat)) (Ma : Nat → Nat) (Mv : Nat → Int32) (Mj : Nat → Int64) (Mg : Nat → Nat → Int64) (h_top : 1 ≤ (Mv 10).toInt ∧ (Mv 10).toInt ≤ 64) : Ct l yX12_pop cX12_pop 1 (some .long) { frames := 0, cells := 0, slots := 0, locals := 0 } D tc sk [.ref (Ma 0)] [((Ma 0), .inr (12, [.ref (Ma 1), .int (Mv 0), .int (Mv 1), .ref (Ma 2), .ref (Ma 3), .ref (Ma 4), .ref (Ma 5), .ref (Ma 6), .int (Mv 2), .int (Mv 3), .int (Mv 4), .int (Mv 5), .int (Mv 6), .int (Mv 7), .int (Mv 8), .ref (Ma 7), .int (Mv 9), .ref (Ma 8), .int (Mv 10), .ref (Ma 9), .ref (Ma 10), .int (Mv 11), .int (Mv 12), .int (Mv 13), .ref (Ma 11), .int (Mv 14), .ref (Ma 12), .ref (Ma 13), .ref (Ma 14), .ref (Ma 15), .ref (Ma 16), .long (Mj 0), .ref (Ma 17), .ref (Ma 18), .ref (Ma 19), .ref (Ma 20)])), ((Ma 8), .inl (tc 1, 64, .inr (.inl (Mg 8))))] (fun (v : Option Value) (oo0x1 : Int32) => ∃ r : Int64, v = some (.long r) ∧ (True) ∧ ((oo0x1 : Int32).toInt = (Mv 10).toInt - 1)) (fun (oo0x1 : Int32) => [((Ma 0), .inr (12, [.ref (Ma 1), .int (Mv 0), .int (Mv 1), .ref (Ma 2), .ref (Ma 3), .ref (Ma 4), .ref (Ma 5), .ref (Ma 6), .int (Mv 2), .int (Mv 3), .int (Mv 4), .int (Mv 5), .int (Mv 6), .int (Mv 7), .int (Mv 8), .ref (Ma 7), .int (Mv 9), .ref (Ma 8), .int oo0x1, .ref (Ma 9), .ref (Ma 10), .int (Mv 11), .int (Mv 12), .int (Mv 13), .ref (Ma 11), .int (Mv 14), .ref (Ma 12), .ref (Ma 13), .ref (Ma 14), .ref (Ma 15), .ref (Ma 16), .long (Mj 0), .ref (Ma 17), .ref (Ma 18), .ref (Ma 19), .ref (Ma 20)])), ((Ma 8), .inl (tc 1, 64, .inr (.inl (Mg 8))))]) 0 0 := by
  refine Ct.start (by decide) (Nat.le_of_ble_eq_true rfl) (fun p e s m below meth c A ls hx hb hr hlk hin hml hown hts hK hX hP hD hA hl hS => ?_)
  have hl : lv_has ls 1 [(0, .ref (Ma 0))] := hl
  refine lv_aload_n hx hb dX12_pop_0 rfl (lv_at hl 0 rfl) ?_
  refine lv_dup hx hb dX12_pop_1 rfl ?_
  refine gf_X12_268 hx hb hts hown hK hP 0 rfl rfl dX12_pop_2 ?_
  refine lv_iconst (v := 1) hx hb dX12_pop_5 (by decide) ?_
  refine lv_isub hx hb dX12_pop_6 ?_
  refine lv_topi (fun x_1 ex_1 => ?_)
  refine pf_X12_268 hx hb hts hown hK hP hD hS 0 rfl (Nat.le_of_ble_eq_true rfl) rfl rfl dX12_pop_7 (fun H locs hP₀ hD₀ hS₀ => ?_)
  replace hP : va_P D classes [((Ma 0), .inr (12, [.ref (Ma 1), .int (Mv 0), .int (Mv 1), .ref (Ma 2), .ref (Ma 3), .ref (Ma 4), .ref (Ma 5), .ref (Ma 6), .int (Mv 2), .int (Mv 3), .int (Mv 4), .int (Mv 5), .int (Mv 6), .int (Mv 7), .int (Mv 8), .ref (Ma 7), .int (Mv 9), .ref (Ma 8), .int x_1, .ref (Ma 9), .ref (Ma 10), .int (Mv 11), .int (Mv 12), .int (Mv 13), .ref (Ma 11), .int (Mv 14), .ref (Ma 12), .ref (Ma 13), .ref (Ma 14), .ref (Ma 15), .ref (Ma 16), .long (Mj 0), .ref (Ma 17), .ref (Ma 18), .ref (Ma 19), .ref (Ma 20)])), ((Ma 8), .inl (tc 1, 64, .inr (.inl (Mg 8))))] H := hP₀
  replace hD : va_D A [((Ma 0), .inr (12, [.ref (Ma 1), .int (Mv 0), .int (Mv 1), .ref (Ma 2), .ref (Ma 3), .ref (Ma 4), .ref (Ma 5), .ref (Ma 6), .int (Mv 2), .int (Mv 3), .int (Mv 4), .int (Mv 5), .int (Mv 6), .int (Mv 7), .int (Mv 8), .ref (Ma 7), .int (Mv 9), .ref (Ma 8), .int x_1, .ref (Ma 9), .ref (Ma 10), .int (Mv 11), .int (Mv 12), .int (Mv 13), .ref (Ma 11), .int (Mv 14), .ref (Ma 12), .ref (Ma 13), .ref (Ma 14), .ref (Ma 15), .ref (Ma 16), .long (Mj 0), .ref (Ma 17), .ref (Ma 18), .ref (Ma 19), .ref (Ma 20)])), ((Ma 8), .inl (tc 1, 64, .inr (.inl (Mg 8))))] := hD₀
  replace hS := hS₀
  clear hP₀ hD₀ hS₀
  refine lv_aload_n hx hb dX12_pop_10 rfl (lv_at hl 0 rfl) ?_
  refine gf_X12_32 hx hb hts hown hK hP 0 rfl rfl dX12_pop_11 ?_
  refine lv_aload_n hx hb dX12_pop_14 rfl (lv_at hl 0 rfl) ?_
  refine gf_X12_268 hx hb hts hown hK hP 0 rfl rfl dX12_pop_15 ?_
  have hi_2 : vp_in x_1 64 := by
    have y_1 : (1 : Int32).toInt = 1 := by decide
    have t_x_1 : x_1.toInt = ((Mv 10) : Int32).toInt - (1 : Int32).toInt := by rw [ex_1]; exact sub_toInt (by omega) (by omega)
    refine vp_in_iff.mpr ⟨?_, ?_⟩ <;> omega
  refine va_lald hx hb hK hP 1 1 rfl rfl hi_2 dX12_pop_18 ?_
  refine lv_topl (fun x_3 ex_3 => ?_)
  have ha_4 : (x_1 : Int32).toInt = (Mv 10).toInt - 1 := by
    have y_1 : (1 : Int32).toInt = 1 := by decide
    have t_x_1 : x_1.toInt = ((Mv 10) : Int32).toInt - (1 : Int32).toInt := by rw [ex_1]; exact sub_toInt (by omega) (by omega)
    omega
  exact retL (v := x_3) hx hb hr hlk hP hD hS x_1 ⟨_, rfl, trivial, ha_4⟩ [0, 1] rfl rfl dX12_pop_19 (Nat.le_of_ble_eq_true rfl) (Nat.le_of_ble_eq_true rfl) rfl
set_option maxRecDepth 100000 in
theorem cu_X12_pop (l : Launch) (D : va_G) (tc : Nat → ClassId) (sk : (Nat → Nat) × (Nat → Nat)) (Ma_0 : Nat) (Ma_1 : Nat) (Ma_2 : Nat) (Ma_3 : Nat) (Ma_4 : Nat) (Ma_5 : Nat) (Ma_6 : Nat) (Ma_7 : Nat) (Ma_8 : Nat) (Ma_9 : Nat) (Ma_10 : Nat) (Ma_11 : Nat) (Ma_12 : Nat) (Ma_13 : Nat) (Ma_14 : Nat) (Ma_15 : Nat) (Ma_16 : Nat) (Ma_17 : Nat) (Ma_18 : Nat) (Ma_19 : Nat) (Ma_20 : Nat) (Mv_0 : Int32) (Mv_1 : Int32) (Mv_2 : Int32) (Mv_3 : Int32) (Mv_4 : Int32) (Mv_5 : Int32) (Mv_6 : Int32) (Mv_7 : Int32) (Mv_8 : Int32) (Mv_9 : Int32) (Mv_10 : Int32) (Mv_11 : Int32) (Mv_12 : Int32) (Mv_13 : Int32) (Mv_14 : Int32) (Mj_0 : Int64) (Mg_8 : Nat → Int64) (h_top : 1 ≤ Mv_10.toInt ∧ Mv_10.toInt ≤ 64) : Ct l yX12_pop cX12_pop 1 (some .long) { frames := 0, cells := 0, slots := 0, locals := 0 } D tc sk [.ref Ma_0] [(Ma_0, .inr (12, [.ref Ma_1, .int Mv_0, .int Mv_1, .ref Ma_2, .ref Ma_3, .ref Ma_4, .ref Ma_5, .ref Ma_6, .int Mv_2, .int Mv_3, .int Mv_4, .int Mv_5, .int Mv_6, .int Mv_7, .int Mv_8, .ref Ma_7, .int Mv_9, .ref Ma_8, .int Mv_10, .ref Ma_9, .ref Ma_10, .int Mv_11, .int Mv_12, .int Mv_13, .ref Ma_11, .int Mv_14, .ref Ma_12, .ref Ma_13, .ref Ma_14, .ref Ma_15, .ref Ma_16, .long Mj_0, .ref Ma_17, .ref Ma_18, .ref Ma_19, .ref Ma_20])), (Ma_8, .inl (tc 1, 64, .inr (.inl Mg_8)))] (fun (v : Option Value) (oo0x1 : Int32) => ∃ r : Int64, v = some (.long r) ∧ (True) ∧ ((oo0x1 : Int32).toInt = Mv_10.toInt - 1)) (fun (oo0x1 : Int32) => [(Ma_0, .inr (12, [.ref Ma_1, .int Mv_0, .int Mv_1, .ref Ma_2, .ref Ma_3, .ref Ma_4, .ref Ma_5, .ref Ma_6, .int Mv_2, .int Mv_3, .int Mv_4, .int Mv_5, .int Mv_6, .int Mv_7, .int Mv_8, .ref Ma_7, .int Mv_9, .ref Ma_8, .int oo0x1, .ref Ma_9, .ref Ma_10, .int Mv_11, .int Mv_12, .int Mv_13, .ref Ma_11, .int Mv_14, .ref Ma_12, .ref Ma_13, .ref Ma_14, .ref Ma_15, .ref Ma_16, .long Mj_0, .ref Ma_17, .ref Ma_18, .ref Ma_19, .ref Ma_20])), (Ma_8, .inl (tc 1, 64, .inr (.inl Mg_8)))]) 0 0 :=
  ct_X12_pop l D tc sk (fun k => ([Ma_0, Ma_1, Ma_2, Ma_3, Ma_4, Ma_5, Ma_6, Ma_7, Ma_8, Ma_9, Ma_10, Ma_11, Ma_12, Ma_13, Ma_14, Ma_15, Ma_16, Ma_17, Ma_18, Ma_19, Ma_20] : List (Nat)).getD k 0) (fun k => ([Mv_0, Mv_1, Mv_2, Mv_3, Mv_4, Mv_5, Mv_6, Mv_7, Mv_8, Mv_9, Mv_10, Mv_11, Mv_12, Mv_13, Mv_14] : List (Int32)).getD k 0) (fun k => ([Mj_0] : List (Int64)).getD k 0) (fun k => ([(fun _ => 0), (fun _ => 0), (fun _ => 0), (fun _ => 0), (fun _ => 0), (fun _ => 0), (fun _ => 0), (fun _ => 0), Mg_8] : List (Nat → Int64)).getD k (fun _ => 0)) h_top
set_option maxHeartbeats 4000000 in
set_option maxRecDepth 100000 in
theorem ct_X12_one (l : Launch) (D : va_G) (tc : Nat → ClassId) (sk : (Nat → Nat) × (Nat → Nat)) (x1 : Int32) (w1 : Int64) (w2 : Int64)  : Ct l yX12_one cX12_one 5 (some .long) { frames := 0, cells := 0, slots := 0, locals := 0 } D tc sk [.int x1, .long w1, .long w2] [] (fun (v : Option Value) (_ : Unit) => ∃ r : Int64, v = some (.long r) ∧ (True)) (fun (_ : Unit) => []) 0 0 := by
  refine Ct.start (by decide) (Nat.le_of_ble_eq_true rfl) (fun p e s m below meth c A ls hx hb hr hlk hin hml hown hts hK hX hP hD hA hl hS => ?_)
  have hl : lv_has ls 5 [(0, .int x1), (1, .long w1), (3, .long w2)] := hl
  refine lv_iload_n hx hb dX12_one_0 rfl (lv_at hl 0 rfl) ?_
  refine lv_topi (fun x_1 ex_1 => ?_)
  by_cases c_2 : x_1 = 2
  · skip
    subst c_2
    refine lv_tableIn (off := 67) (tgt := 68) hx hb dX12_one_1 (by decide) (by decide) (by decide) (by decide) ?_
    refine lv_lload_n hx hb dX12_one_68 rfl (lv_at hl 1 rfl) ?_
    refine lv_lload_n hx hb dX12_one_69 rfl (lv_at hl 2 rfl) ?_
    refine lv_ladd hx hb dX12_one_70 ?_
    refine lv_topl (fun x_3 ex_3 => ?_)
    exact retL (v := x_3) hx hb hr hlk hP hD hS () ⟨_, rfl, trivial⟩ [] rfl rfl dX12_one_71 (Nat.le_of_ble_eq_true rfl) (Nat.le_of_ble_eq_true rfl) rfl
  · skip
    by_cases c_4 : x_1 = 3
    · skip
      subst c_4
      refine lv_tableIn (off := 71) (tgt := 72) hx hb dX12_one_1 (by decide) (by decide) (by decide) (by decide) ?_
      refine lv_lload_n hx hb dX12_one_72 rfl (lv_at hl 1 rfl) ?_
      refine lv_lload_n hx hb dX12_one_73 rfl (lv_at hl 2 rfl) ?_
      refine lv_lsub hx hb dX12_one_74 ?_
      refine lv_topl (fun x_5 ex_5 => ?_)
      exact retL (v := x_5) hx hb hr hlk hP hD hS () ⟨_, rfl, trivial⟩ [] rfl rfl dX12_one_75 (Nat.le_of_ble_eq_true rfl) (Nat.le_of_ble_eq_true rfl) rfl
    · skip
      by_cases c_6 : x_1 = 4
      · skip
        subst c_6
        refine lv_tableIn (off := 75) (tgt := 76) hx hb dX12_one_1 (by decide) (by decide) (by decide) (by decide) ?_
        refine lv_lload_n hx hb dX12_one_76 rfl (lv_at hl 1 rfl) ?_
        refine lv_lload_n hx hb dX12_one_77 rfl (lv_at hl 2 rfl) ?_
        refine lv_lmul hx hb dX12_one_78 ?_
        refine lv_topl (fun x_7 ex_7 => ?_)
        exact retL (v := x_7) hx hb hr hlk hP hD hS () ⟨_, rfl, trivial⟩ [] rfl rfl dX12_one_79 (Nat.le_of_ble_eq_true rfl) (Nat.le_of_ble_eq_true rfl) rfl
      · skip
        by_cases c_8 : x_1 = 5
        · skip
          subst c_8
          refine lv_tableIn (off := 79) (tgt := 80) hx hb dX12_one_1 (by decide) (by decide) (by decide) (by decide) ?_
          refine lv_lload_n hx hb dX12_one_80 rfl (lv_at hl 2 rfl) ?_
          refine lv_lconst (v := 0) hx hb dX12_one_81 (by decide) ?_
          refine W.lcmp hx hb dX12_one_82 ?_
          refine lv_topi (fun x_9 ex_9 => ?_)
          refine lv_if_ne (tgt := 90) hx hb dX12_one_83 (by decide) (fun c_10 => ?_) (fun c_10 => ?_)
          · skip
            refine lv_lload_n hx hb dX12_one_90 rfl (lv_at hl 1 rfl) ?_
            refine lv_lload_n hx hb dX12_one_91 rfl (lv_at hl 2 rfl) ?_
            have hz_12 : ¬ w2 = 0 := fun z => c_10 (ex_9.trans ((lg_cmp_eq _ _).mpr z))
            refine lv_ldiv hx hb dX12_one_92 hz_12 ?_
            refine lv_topl (fun x_13 ex_13 => ?_)
            exact retL (v := x_13) hx hb hr hlk hP hD hS () ⟨_, rfl, trivial⟩ [] rfl rfl dX12_one_93 (Nat.le_of_ble_eq_true rfl) (Nat.le_of_ble_eq_true rfl) rfl
          · skip
            have lz_14 : (w2 : Int64).toInt = (0 : Int64).toInt := by have hc := c_10; rw [ex_9] at hc; exact congrArg Int64.toInt ((lg_cmp_eq _ _).mp hc)
            refine lv_lconst (v := 0) hx hb dX12_one_86 (by decide) ?_
            refine lv_goto (tgt := 93) hx hb dX12_one_87 (by decide) ?_
            exact retL (v := 0) hx hb hr hlk hP hD hS () ⟨_, rfl, trivial⟩ [] rfl rfl dX12_one_93 (Nat.le_of_ble_eq_true rfl) (Nat.le_of_ble_eq_true rfl) rfl
        · skip
          by_cases c_15 : x_1 = 6
          · skip
            subst c_15
            refine lv_tableIn (off := 107) (tgt := 108) hx hb dX12_one_1 (by decide) (by decide) (by decide) (by decide) ?_
            refine lv_lload_n hx hb dX12_one_108 rfl (lv_at hl 1 rfl) ?_
            refine lv_lload_n hx hb dX12_one_109 rfl (lv_at hl 2 rfl) ?_
            refine W.lcmp hx hb dX12_one_110 ?_
            refine lv_topi (fun x_16 ex_16 => ?_)
            refine lv_if_ge (tgt := 118) hx hb dX12_one_111 (by decide) (fun c_17 => ?_) (fun c_17 => ?_)
            · skip
              have lz_18 : (w2 : Int64).toInt ≤ (w1 : Int64).toInt := by have hc := c_17; rw [ex_16] at hc; exact Int64.le_iff_toInt_le.mp ((lg_cmp_ge _ _).mp hc)
              refine lv_lconst (v := 0) hx hb dX12_one_118 (by decide) ?_
              exact retL (v := 0) hx hb hr hlk hP hD hS () ⟨_, rfl, trivial⟩ [] rfl rfl dX12_one_119 (Nat.le_of_ble_eq_true rfl) (Nat.le_of_ble_eq_true rfl) rfl
            · skip
              have lz_19 : (w1 : Int64).toInt < (w2 : Int64).toInt := by have hc := c_17; rw [ex_16] at hc; exact Int64.lt_iff_toInt_lt.mp (Int64.not_le.mp (fun z => hc ((lg_cmp_ge _ _).mpr z)))
              refine lv_lconst (v := 1) hx hb dX12_one_114 (by decide) ?_
              refine lv_goto (tgt := 119) hx hb dX12_one_115 (by decide) ?_
              exact retL (v := 1) hx hb hr hlk hP hD hS () ⟨_, rfl, trivial⟩ [] rfl rfl dX12_one_119 (Nat.le_of_ble_eq_true rfl) (Nat.le_of_ble_eq_true rfl) rfl
          · skip
            by_cases c_20 : x_1 = 7
            · skip
              subst c_20
              refine lv_tableIn (off := 119) (tgt := 120) hx hb dX12_one_1 (by decide) (by decide) (by decide) (by decide) ?_
              refine lv_lload_n hx hb dX12_one_120 rfl (lv_at hl 1 rfl) ?_
              refine lv_lload_n hx hb dX12_one_121 rfl (lv_at hl 2 rfl) ?_
              refine W.lcmp hx hb dX12_one_122 ?_
              refine lv_topi (fun x_21 ex_21 => ?_)
              refine lv_if_gt (tgt := 130) hx hb dX12_one_123 (by decide) (fun c_22 => ?_) (fun c_22 => ?_)
              · skip
                have lz_23 : (w2 : Int64).toInt < (w1 : Int64).toInt := by have hc := c_22; rw [ex_21] at hc; exact Int64.lt_iff_toInt_lt.mp ((lg_cmp_gt _ _).mp hc)
                refine lv_lconst (v := 0) hx hb dX12_one_130 (by decide) ?_
                exact retL (v := 0) hx hb hr hlk hP hD hS () ⟨_, rfl, trivial⟩ [] rfl rfl dX12_one_131 (Nat.le_of_ble_eq_true rfl) (Nat.le_of_ble_eq_true rfl) rfl
              · skip
                have lz_24 : (w1 : Int64).toInt ≤ (w2 : Int64).toInt := by have hc := c_22; rw [ex_21] at hc; exact Int64.le_iff_toInt_le.mp (Int64.not_lt.mp (fun z => hc ((lg_cmp_gt _ _).mpr z)))
                refine lv_lconst (v := 1) hx hb dX12_one_126 (by decide) ?_
                refine lv_goto (tgt := 131) hx hb dX12_one_127 (by decide) ?_
                exact retL (v := 1) hx hb hr hlk hP hD hS () ⟨_, rfl, trivial⟩ [] rfl rfl dX12_one_131 (Nat.le_of_ble_eq_true rfl) (Nat.le_of_ble_eq_true rfl) rfl
            · skip
              by_cases c_25 : x_1 = 8
              · skip
                subst c_25
                refine lv_tableIn (off := 131) (tgt := 132) hx hb dX12_one_1 (by decide) (by decide) (by decide) (by decide) ?_
                refine lv_lload_n hx hb dX12_one_132 rfl (lv_at hl 1 rfl) ?_
                refine lv_lload_n hx hb dX12_one_133 rfl (lv_at hl 2 rfl) ?_
                refine W.lcmp hx hb dX12_one_134 ?_
                refine lv_topi (fun x_26 ex_26 => ?_)
                refine lv_if_ne (tgt := 142) hx hb dX12_one_135 (by decide) (fun c_27 => ?_) (fun c_27 => ?_)
                · skip
                  refine lv_lconst (v := 0) hx hb dX12_one_142 (by decide) ?_
                  exact retL (v := 0) hx hb hr hlk hP hD hS () ⟨_, rfl, trivial⟩ [] rfl rfl dX12_one_143 (Nat.le_of_ble_eq_true rfl) (Nat.le_of_ble_eq_true rfl) rfl
                · skip
                  have lz_29 : (w1 : Int64).toInt = (w2 : Int64).toInt := by have hc := c_27; rw [ex_26] at hc; exact congrArg Int64.toInt ((lg_cmp_eq _ _).mp hc)
                  refine lv_lconst (v := 1) hx hb dX12_one_138 (by decide) ?_
                  refine lv_goto (tgt := 143) hx hb dX12_one_139 (by decide) ?_
                  exact retL (v := 1) hx hb hr hlk hP hD hS () ⟨_, rfl, trivial⟩ [] rfl rfl dX12_one_143 (Nat.le_of_ble_eq_true rfl) (Nat.le_of_ble_eq_true rfl) rfl
              · skip
                by_cases c_30 : x_1 = 9
                · skip
                  subst c_30
                  refine lv_tableIn (off := 143) (tgt := 144) hx hb dX12_one_1 (by decide) (by decide) (by decide) (by decide) ?_
                  refine lv_lload_n hx hb dX12_one_144 rfl (lv_at hl 1 rfl) ?_
                  refine lv_lload_n hx hb dX12_one_145 rfl (lv_at hl 2 rfl) ?_
                  refine W.lcmp hx hb dX12_one_146 ?_
                  refine lv_topi (fun x_31 ex_31 => ?_)
                  refine lv_if_lt (tgt := 154) hx hb dX12_one_147 (by decide) (fun c_32 => ?_) (fun c_32 => ?_)
                  · skip
                    have lz_33 : (w1 : Int64).toInt < (w2 : Int64).toInt := by have hc := c_32; rw [ex_31] at hc; exact Int64.lt_iff_toInt_lt.mp ((lg_cmp_lt _ _).mp hc)
                    refine lv_lconst (v := 0) hx hb dX12_one_154 (by decide) ?_
                    exact retL (v := 0) hx hb hr hlk hP hD hS () ⟨_, rfl, trivial⟩ [] rfl rfl dX12_one_155 (Nat.le_of_ble_eq_true rfl) (Nat.le_of_ble_eq_true rfl) rfl
                  · skip
                    have lz_34 : (w2 : Int64).toInt ≤ (w1 : Int64).toInt := by have hc := c_32; rw [ex_31] at hc; exact Int64.le_iff_toInt_le.mp (Int64.not_lt.mp (fun z => hc ((lg_cmp_lt _ _).mpr z)))
                    refine lv_lconst (v := 1) hx hb dX12_one_150 (by decide) ?_
                    refine lv_goto (tgt := 155) hx hb dX12_one_151 (by decide) ?_
                    exact retL (v := 1) hx hb hr hlk hP hD hS () ⟨_, rfl, trivial⟩ [] rfl rfl dX12_one_155 (Nat.le_of_ble_eq_true rfl) (Nat.le_of_ble_eq_true rfl) rfl
                · skip
                  by_cases c_35 : x_1 = 10
                  · skip
                    subst c_35
                    refine lv_tableIn (off := 155) (tgt := 156) hx hb dX12_one_1 (by decide) (by decide) (by decide) (by decide) ?_
                    refine lv_lload_n hx hb dX12_one_156 rfl (lv_at hl 1 rfl) ?_
                    refine lv_lload_n hx hb dX12_one_157 rfl (lv_at hl 2 rfl) ?_
                    refine W.lcmp hx hb dX12_one_158 ?_
                    refine lv_topi (fun x_36 ex_36 => ?_)
                    refine lv_if_le (tgt := 166) hx hb dX12_one_159 (by decide) (fun c_37 => ?_) (fun c_37 => ?_)
                    · skip
                      have lz_38 : (w1 : Int64).toInt ≤ (w2 : Int64).toInt := by have hc := c_37; rw [ex_36] at hc; exact Int64.le_iff_toInt_le.mp ((lg_cmp_le _ _).mp hc)
                      refine lv_lconst (v := 0) hx hb dX12_one_166 (by decide) ?_
                      exact retL (v := 0) hx hb hr hlk hP hD hS () ⟨_, rfl, trivial⟩ [] rfl rfl dX12_one_167 (Nat.le_of_ble_eq_true rfl) (Nat.le_of_ble_eq_true rfl) rfl
                    · skip
                      have lz_39 : (w2 : Int64).toInt < (w1 : Int64).toInt := by have hc := c_37; rw [ex_36] at hc; exact Int64.lt_iff_toInt_lt.mp (Int64.not_le.mp (fun z => hc ((lg_cmp_le _ _).mpr z)))
                      refine lv_lconst (v := 1) hx hb dX12_one_162 (by decide) ?_
                      refine lv_goto (tgt := 167) hx hb dX12_one_163 (by decide) ?_
                      exact retL (v := 1) hx hb hr hlk hP hD hS () ⟨_, rfl, trivial⟩ [] rfl rfl dX12_one_167 (Nat.le_of_ble_eq_true rfl) (Nat.le_of_ble_eq_true rfl) rfl
                  · skip
                    by_cases c_40 : x_1 = 11
                    · skip
                      subst c_40
                      refine lv_tableIn (off := 171) (tgt := 172) hx hb dX12_one_1 (by decide) (by decide) (by decide) (by decide) ?_
                      refine lv_lload_n hx hb dX12_one_172 rfl (lv_at hl 1 rfl) ?_
                      refine lv_lload_n hx hb dX12_one_173 rfl (lv_at hl 2 rfl) ?_
                      refine lv_lor hx hb dX12_one_174 ?_
                      refine lv_topl (fun x_41 ex_41 => ?_)
                      exact retL (v := x_41) hx hb hr hlk hP hD hS () ⟨_, rfl, trivial⟩ [] rfl rfl dX12_one_175 (Nat.le_of_ble_eq_true rfl) (Nat.le_of_ble_eq_true rfl) rfl
                    · skip
                      by_cases c_42 : x_1 = 12
                      · skip
                        subst c_42
                        refine lv_tableIn (off := 167) (tgt := 168) hx hb dX12_one_1 (by decide) (by decide) (by decide) (by decide) ?_
                        refine lv_lload_n hx hb dX12_one_168 rfl (lv_at hl 1 rfl) ?_
                        refine lv_lload_n hx hb dX12_one_169 rfl (lv_at hl 2 rfl) ?_
                        refine lv_land hx hb dX12_one_170 ?_
                        refine lv_topl (fun x_43 ex_43 => ?_)
                        exact retL (v := x_43) hx hb hr hlk hP hD hS () ⟨_, rfl, trivial⟩ [] rfl rfl dX12_one_171 (Nat.le_of_ble_eq_true rfl) (Nat.le_of_ble_eq_true rfl) rfl
                      · skip
                        by_cases c_44 : x_1 = 13
                        · skip
                          subst c_44
                          refine lv_tableIn (off := 171) (tgt := 172) hx hb dX12_one_1 (by decide) (by decide) (by decide) (by decide) ?_
                          refine lv_lload_n hx hb dX12_one_172 rfl (lv_at hl 1 rfl) ?_
                          refine lv_lload_n hx hb dX12_one_173 rfl (lv_at hl 2 rfl) ?_
                          refine lv_lor hx hb dX12_one_174 ?_
                          refine lv_topl (fun x_45 ex_45 => ?_)
                          exact retL (v := x_45) hx hb hr hlk hP hD hS () ⟨_, rfl, trivial⟩ [] rfl rfl dX12_one_175 (Nat.le_of_ble_eq_true rfl) (Nat.le_of_ble_eq_true rfl) rfl
                        · skip
                          by_cases c_46 : x_1 = 14
                          · skip
                            subst c_46
                            refine lv_tableIn (off := 93) (tgt := 94) hx hb dX12_one_1 (by decide) (by decide) (by decide) (by decide) ?_
                            refine lv_lload_n hx hb dX12_one_94 rfl (lv_at hl 2 rfl) ?_
                            refine lv_lconst (v := 0) hx hb dX12_one_95 (by decide) ?_
                            refine W.lcmp hx hb dX12_one_96 ?_
                            refine lv_topi (fun x_47 ex_47 => ?_)
                            refine lv_if_ne (tgt := 104) hx hb dX12_one_97 (by decide) (fun c_48 => ?_) (fun c_48 => ?_)
                            · skip
                              refine lv_lload_n hx hb dX12_one_104 rfl (lv_at hl 1 rfl) ?_
                              refine lv_lload_n hx hb dX12_one_105 rfl (lv_at hl 2 rfl) ?_
                              have hz_50 : ¬ w2 = 0 := fun z => c_48 (ex_47.trans ((lg_cmp_eq _ _).mpr z))
                              refine lv_lrem hx hb dX12_one_106 hz_50 ?_
                              refine lv_topl (fun x_51 ex_51 => ?_)
                              exact retL (v := x_51) hx hb hr hlk hP hD hS () ⟨_, rfl, trivial⟩ [] rfl rfl dX12_one_107 (Nat.le_of_ble_eq_true rfl) (Nat.le_of_ble_eq_true rfl) rfl
                            · skip
                              have lz_52 : (w2 : Int64).toInt = (0 : Int64).toInt := by have hc := c_48; rw [ex_47] at hc; exact congrArg Int64.toInt ((lg_cmp_eq _ _).mp hc)
                              refine lv_lconst (v := 0) hx hb dX12_one_100 (by decide) ?_
                              refine lv_goto (tgt := 107) hx hb dX12_one_101 (by decide) ?_
                              exact retL (v := 0) hx hb hr hlk hP hD hS () ⟨_, rfl, trivial⟩ [] rfl rfl dX12_one_107 (Nat.le_of_ble_eq_true rfl) (Nat.le_of_ble_eq_true rfl) rfl
                          · skip
                            have ho_53 : (x_1 : Int32).toInt < 2 ∨ 14 < (x_1 : Int32).toInt := by
                              have z_1 : ¬ (x_1 : Int32).toInt = (2 : Int32).toInt := fun z => c_2 (Int32.toInt_inj.mp z)
                              have z_2 : ¬ (x_1 : Int32).toInt = (3 : Int32).toInt := fun z => c_4 (Int32.toInt_inj.mp z)
                              have z_3 : ¬ (x_1 : Int32).toInt = (4 : Int32).toInt := fun z => c_6 (Int32.toInt_inj.mp z)
                              have z_4 : ¬ (x_1 : Int32).toInt = (5 : Int32).toInt := fun z => c_8 (Int32.toInt_inj.mp z)
                              have z_5 : ¬ (x_1 : Int32).toInt = (6 : Int32).toInt := fun z => c_15 (Int32.toInt_inj.mp z)
                              have z_6 : ¬ (x_1 : Int32).toInt = (7 : Int32).toInt := fun z => c_20 (Int32.toInt_inj.mp z)
                              have z_7 : ¬ (x_1 : Int32).toInt = (8 : Int32).toInt := fun z => c_25 (Int32.toInt_inj.mp z)
                              have z_8 : ¬ (x_1 : Int32).toInt = (9 : Int32).toInt := fun z => c_30 (Int32.toInt_inj.mp z)
                              have z_9 : ¬ (x_1 : Int32).toInt = (10 : Int32).toInt := fun z => c_35 (Int32.toInt_inj.mp z)
                              have z_10 : ¬ (x_1 : Int32).toInt = (11 : Int32).toInt := fun z => c_40 (Int32.toInt_inj.mp z)
                              have z_11 : ¬ (x_1 : Int32).toInt = (12 : Int32).toInt := fun z => c_42 (Int32.toInt_inj.mp z)
                              have z_12 : ¬ (x_1 : Int32).toInt = (13 : Int32).toInt := fun z => c_44 (Int32.toInt_inj.mp z)
                              have z_13 : ¬ (x_1 : Int32).toInt = (14 : Int32).toInt := fun z => c_46 (Int32.toInt_inj.mp z)
                              have y_2 : (2 : Int32).toInt = 2 := by decide
                              have y_3 : (3 : Int32).toInt = 3 := by decide
                              have y_4 : (4 : Int32).toInt = 4 := by decide
                              have y_5 : (5 : Int32).toInt = 5 := by decide
                              have y_6 : (6 : Int32).toInt = 6 := by decide
                              have y_7 : (7 : Int32).toInt = 7 := by decide
                              have y_8 : (8 : Int32).toInt = 8 := by decide
                              have y_9 : (9 : Int32).toInt = 9 := by decide
                              have y_10 : (10 : Int32).toInt = 10 := by decide
                              have y_11 : (11 : Int32).toInt = 11 := by decide
                              have y_12 : (12 : Int32).toInt = 12 := by decide
                              have y_13 : (13 : Int32).toInt = 13 := by decide
                              have y_14 : (14 : Int32).toInt = 14 := by decide
                              omega
                            refine lv_tableOut (tgt := 172) hx hb dX12_one_1 ho_53 (by decide) ?_
                            refine lv_lload_n hx hb dX12_one_172 rfl (lv_at hl 1 rfl) ?_
                            refine lv_lload_n hx hb dX12_one_173 rfl (lv_at hl 2 rfl) ?_
                            refine lv_lor hx hb dX12_one_174 ?_
                            refine lv_topl (fun x_54 ex_54 => ?_)
                            exact retL (v := x_54) hx hb hr hlk hP hD hS () ⟨_, rfl, trivial⟩ [] rfl rfl dX12_one_175 (Nat.le_of_ble_eq_true rfl) (Nat.le_of_ble_eq_true rfl) rfl
set_option maxHeartbeats 4000000 in
set_option maxRecDepth 100000 in
theorem ct_X12_reckons (l : Launch) (D : va_G) (tc : Nat → ClassId) (sk : (Nat → Nat) × (Nat → Nat)) (Ma : Nat → Nat) (Mv : Nat → Int32) (Mf : Nat → Nat → Int32) (Mj : Nat → Int64) (Mg : Nat → Nat → Int64) (x1 : Int32) (x2 : Int32) (x3 : Int32) (h_w : WFc (Mf 2) x1 x2 x3) (h_tt : 0 ≤ x1.toInt ∧ x1.toInt < 6) : Ct l yX12_reckons cX12_reckons 11 (some .long) { frames := 1, cells := 0, slots := 0, locals := 24 } D tc sk [.ref (Ma 0), .int x1, .int x2, .int x3] [((Ma 0), .inr (12, [.ref (Ma 1), .int (Mv 0), .int (Mv 1), .ref (Ma 2), .ref (Ma 3), .ref (Ma 4), .ref (Ma 5), .ref (Ma 6), .int (Mv 2), .int (Mv 3), .int (Mv 4), .int (Mv 5), .int (Mv 6), .int (Mv 7), .int (Mv 8), .ref (Ma 7), .int (Mv 9), .ref (Ma 8), .int (Mv 10), .ref (Ma 9), .ref (Ma 10), .int (Mv 11), .int (Mv 12), .int (Mv 13), .ref (Ma 11), .int (Mv 14), .ref (Ma 12), .ref (Ma 13), .ref (Ma 14), .ref (Ma 15), .ref (Ma 16), .long (Mj 0), .ref (Ma 17), .ref (Ma 18), .ref (Ma 19), .ref (Ma 20)])), ((Ma 2), .inl (tc 0, 2400, .inl (Mf 2))), ((Ma 8), .inl (tc 1, 64, .inr (.inl (Mg 8)))), ((Ma 9), .inl (tc 1, 13, .inr (.inl (Mg 9))))] (fun (v : Option Value) (u : (Int32) × (Nat → Int64)) => match u with | (oo0x1, oo0x2) => ∃ r : Int64, v = some (.long r) ∧ (True)) (fun (u : (Int32) × (Nat → Int64)) => match u with | (oo0x1, oo0x2) => [((Ma 0), .inr (12, [.ref (Ma 1), .int (Mv 0), .int (Mv 1), .ref (Ma 2), .ref (Ma 3), .ref (Ma 4), .ref (Ma 5), .ref (Ma 6), .int (Mv 2), .int (Mv 3), .int (Mv 4), .int (Mv 5), .int (Mv 6), .int (Mv 7), .int (Mv 8), .ref (Ma 7), .int (Mv 9), .ref (Ma 8), .int oo0x1, .ref (Ma 9), .ref (Ma 10), .int (Mv 11), .int (Mv 12), .int (Mv 13), .ref (Ma 11), .int (Mv 14), .ref (Ma 12), .ref (Ma 13), .ref (Ma 14), .ref (Ma 15), .ref (Ma 16), .long (Mj 0), .ref (Ma 17), .ref (Ma 18), .ref (Ma 19), .ref (Ma 20)])), ((Ma 2), .inl (tc 0, 2400, .inl (Mf 2))), ((Ma 8), .inl (tc 1, 64, .inr (.inl oo0x2))), ((Ma 9), .inl (tc 1, 13, .inr (.inl (Mg 9))))]) 0 0 := by
  refine Ct.start (by decide) (Nat.le_of_ble_eq_true rfl) (fun p e s m below meth c A ls hx hb hr hlk hin hml hown hts hK hX hP hD hA hl hS => ?_)
  have hl : lv_has ls 11 [(0, .ref (Ma 0)), (1, .int x1), (2, .int x2), (3, .int x3)] := hl
  have ar_h_w := WFc.ar h_w
  refine lv_aload_n hx hb dX12_reckons_0 rfl (lv_at hl 0 rfl) ?_
  refine lv_iconst (v := 0) hx hb dX12_reckons_1 (by decide) ?_
  refine pf_X12_268 hx hb hts hown hK hP hD hS 0 rfl (Nat.le_of_ble_eq_true rfl) rfl rfl dX12_reckons_2 (fun H locs hP₀ hD₀ hS₀ => ?_)
  replace hP : va_P D classes [((Ma 0), .inr (12, [.ref (Ma 1), .int (Mv 0), .int (Mv 1), .ref (Ma 2), .ref (Ma 3), .ref (Ma 4), .ref (Ma 5), .ref (Ma 6), .int (Mv 2), .int (Mv 3), .int (Mv 4), .int (Mv 5), .int (Mv 6), .int (Mv 7), .int (Mv 8), .ref (Ma 7), .int (Mv 9), .ref (Ma 8), .int 0, .ref (Ma 9), .ref (Ma 10), .int (Mv 11), .int (Mv 12), .int (Mv 13), .ref (Ma 11), .int (Mv 14), .ref (Ma 12), .ref (Ma 13), .ref (Ma 14), .ref (Ma 15), .ref (Ma 16), .long (Mj 0), .ref (Ma 17), .ref (Ma 18), .ref (Ma 19), .ref (Ma 20)])), ((Ma 2), .inl (tc 0, 2400, .inl (Mf 2))), ((Ma 8), .inl (tc 1, 64, .inr (.inl (Mg 8)))), ((Ma 9), .inl (tc 1, 13, .inr (.inl (Mg 9))))] H := hP₀
  replace hD : va_D A [((Ma 0), .inr (12, [.ref (Ma 1), .int (Mv 0), .int (Mv 1), .ref (Ma 2), .ref (Ma 3), .ref (Ma 4), .ref (Ma 5), .ref (Ma 6), .int (Mv 2), .int (Mv 3), .int (Mv 4), .int (Mv 5), .int (Mv 6), .int (Mv 7), .int (Mv 8), .ref (Ma 7), .int (Mv 9), .ref (Ma 8), .int 0, .ref (Ma 9), .ref (Ma 10), .int (Mv 11), .int (Mv 12), .int (Mv 13), .ref (Ma 11), .int (Mv 14), .ref (Ma 12), .ref (Ma 13), .ref (Ma 14), .ref (Ma 15), .ref (Ma 16), .long (Mj 0), .ref (Ma 17), .ref (Ma 18), .ref (Ma 19), .ref (Ma 20)])), ((Ma 2), .inl (tc 0, 2400, .inl (Mf 2))), ((Ma 8), .inl (tc 1, 64, .inr (.inl (Mg 8)))), ((Ma 9), .inl (tc 1, 13, .inr (.inl (Mg 9))))] := hD₀
  replace hS := hS₀
  clear hP₀ hD₀ hS₀
  refine lv_iload_n hx hb dX12_reckons_5 rfl (lv_at hl 2 rfl) ?_
  refine lv_istore (lv' := [(4, .int x2), (0, .ref (Ma 0)), (1, .int x1), (2, .int x2), (3, .int x3)]) hx hb dX12_reckons_6 hl (by decide) rfl (fun ls hl₀ => ?_)
  replace hl := hl₀
  clear hl₀
  have loop_9 : ∀ (n_7 : Nat) (vy_4 : Int32) (vy_5 : Int32) (vy_6 : Nat → Int64) (H : Heap) (locs : List Loc) (ls : Array Slot), (x3.toInt - (vy_4 : Int32).toInt).toNat < n_7 → (RK (Mf 2) x1 vy_4 x3 vy_5) → va_P D classes [((Ma 0), .inr (12, [.ref (Ma 1), .int (Mv 0), .int (Mv 1), .ref (Ma 2), .ref (Ma 3), .ref (Ma 4), .ref (Ma 5), .ref (Ma 6), .int (Mv 2), .int (Mv 3), .int (Mv 4), .int (Mv 5), .int (Mv 6), .int (Mv 7), .int (Mv 8), .ref (Ma 7), .int (Mv 9), .ref (Ma 8), .int vy_5, .ref (Ma 9), .ref (Ma 10), .int (Mv 11), .int (Mv 12), .int (Mv 13), .ref (Ma 11), .int (Mv 14), .ref (Ma 12), .ref (Ma 13), .ref (Ma 14), .ref (Ma 15), .ref (Ma 16), .long (Mj 0), .ref (Ma 17), .ref (Ma 18), .ref (Ma 19), .ref (Ma 20)])), ((Ma 2), .inl (tc 0, 2400, .inl (Mf 2))), ((Ma 8), .inl (tc 1, 64, .inr (.inl vy_6))), ((Ma 9), .inl (tc 1, 13, .inr (.inl (Mg 9))))] H → va_D A [((Ma 0), .inr (12, [.ref (Ma 1), .int (Mv 0), .int (Mv 1), .ref (Ma 2), .ref (Ma 3), .ref (Ma 4), .ref (Ma 5), .ref (Ma 6), .int (Mv 2), .int (Mv 3), .int (Mv 4), .int (Mv 5), .int (Mv 6), .int (Mv 7), .int (Mv 8), .ref (Ma 7), .int (Mv 9), .ref (Ma 8), .int vy_5, .ref (Ma 9), .ref (Ma 10), .int (Mv 11), .int (Mv 12), .int (Mv 13), .ref (Ma 11), .int (Mv 14), .ref (Ma 12), .ref (Ma 13), .ref (Ma 14), .ref (Ma 15), .ref (Ma 16), .long (Mj 0), .ref (Ma 17), .ref (Ma 18), .ref (Ma 19), .ref (Ma 20)])), ((Ma 2), .inl (tc 0, 2400, .inl (Mf 2))), ((Ma 8), .inl (tc 1, 64, .inr (.inl vy_6))), ((Ma 9), .inl (tc 1, 13, .inr (.inl (Mg 9))))] → va_S A s.heap H locs → lv_has ls 11 [(4, .int vy_4), (0, .ref (Ma 0)), (1, .int x1), (2, .int x2), (3, .int x3)] → W p l e ({ frames := 1, cells := 0, slots := 0, locals := 24 }) s m ([.ref (Ma 0), .int x1, .int x2, .int x3].toArray) below meth c H locs 0 0 (MQ below (QW (fun (v : Option Value) (u : (Int32) × (Nat → Int64)) => match u with | (oo0x1, oo0x2) => ∃ r : Int64, v = some (.long r) ∧ (True)) (BW D (fun (u : (Int32) × (Nat → Int64)) => match u with | (oo0x1, oo0x2) => [((Ma 0), .inr (12, [.ref (Ma 1), .int (Mv 0), .int (Mv 1), .ref (Ma 2), .ref (Ma 3), .ref (Ma 4), .ref (Ma 5), .ref (Ma 6), .int (Mv 2), .int (Mv 3), .int (Mv 4), .int (Mv 5), .int (Mv 6), .int (Mv 7), .int (Mv 8), .ref (Ma 7), .int (Mv 9), .ref (Ma 8), .int oo0x1, .ref (Ma 9), .ref (Ma 10), .int (Mv 11), .int (Mv 12), .int (Mv 13), .ref (Ma 11), .int (Mv 14), .ref (Ma 12), .ref (Ma 13), .ref (Ma 14), .ref (Ma 15), .ref (Ma 16), .long (Mj 0), .ref (Ma 17), .ref (Ma 18), .ref (Ma 19), .ref (Ma 20)])), ((Ma 2), .inl (tc 0, 2400, .inl (Mf 2))), ((Ma 8), .inl (tc 1, 64, .inr (.inl oo0x2))), ((Ma 9), .inl (tc 1, 13, .inr (.inl (Mg 9))))]) A) A) ([.ref (Ma 0), .int x1, .int x2, .int x3].toArray) s 0 0 A) (F0 m 8 ls []) := by
    clear hP hD hS hl
    intro n_7
    induction n_7 with
    | zero =>
      intro vy_4 vy_5 vy_6 H locs ls h1
      exact absurd h1 (Nat.not_lt_zero _)
    | succ n_7 ih_8 =>
      intro vy_4 vy_5 vy_6 H locs ls hn_11 pf_10 hP hD hS hl
      have ar_pf_10 := RK.ar pf_10
      refine lv_iload hx hb dX12_reckons_8 (lv_at hl 0 rfl) ?_
      refine lv_iload_n hx hb dX12_reckons_10 rfl (lv_at hl 4 rfl) ?_
      refine lv_icmp_ge (tgt := 135) hx hb dX12_reckons_11 (by decide) (fun c_12 => ?_) (fun c_12 => ?_)
      · skip
        refine lv_aload_n hx hb dX12_reckons_135 rfl (lv_at hl 1 rfl) ?_
        have ha_13 : 1 ≤ vy_5.toInt ∧ vy_5.toInt ≤ 64 := by
          have z_1 := Int32.le_iff_toInt_le.mp c_12
          omega
        refine cV (a := (Ma 0)) (As := []) (rest := []) (wr := [((Ma 2), .inl (tc 0, 2400, .inl (Mf 2))), ((Ma 9), .inl (tc 1, 13, .inr (.inl (Mg 9))))]) ⟨hx, hb, hml, hown, hts⟩ hK hX hA (cu_X12_pop l D tc sk (Ma 0) (Ma 1) (Ma 2) (Ma 3) (Ma 4) (Ma 5) (Ma 6) (Ma 7) (Ma 8) (Ma 9) (Ma 10) (Ma 11) (Ma 12) (Ma 13) (Ma 14) (Ma 15) (Ma 16) (Ma 17) (Ma 18) (Ma 19) (Ma 20) (Mv 0) (Mv 1) (Mv 2) (Mv 3) (Mv 4) (Mv 5) (Mv 6) (Mv 7) (Mv 8) (Mv 9) vy_5 (Mv 11) (Mv 12) (Mv 13) (Mv 14) (Mj 0) vy_6 ha_13) k_1455 k_1452 k_1454 k_75 k_106 pl_X12_pop ⟨Nat.le_of_ble_eq_true rfl, Nat.le_of_ble_eq_true rfl⟩ rfl rfl (va_recv hK hP (ci := 12) (q0 := 0) rfl rfl) hP hD hS [0, 2] [1, 3] rfl rfl rfl rfl rfl (by decide) rfl hl.1 rfl (Nat.le_of_ble_eq_true rfl) dX12_reckons_136 ⟨Nat.le_of_ble_eq_true rfl, Nat.le_of_ble_eq_true rfl⟩ (fun v_14 u_15 H locs hv_16 hP₀ hD₀ hS₀ => ?_)
        obtain ⟨sv_17, rfl⟩ : ∃ z, z = u_15 := ⟨_, rfl⟩
        obtain ⟨r_19, rfl, he_20, pf_18⟩ := hv_16
        have pf_18 : (sv_17 : Int32).toInt = vy_5.toInt - 1 := pf_18
        refine W.eq (g2 := F0 m 139 ls [.long r_19]) rfl ?_
        replace hP : va_P D classes [((Ma 2), .inl (tc 0, 2400, .inl (Mf 2))), ((Ma 9), .inl (tc 1, 13, .inr (.inl (Mg 9)))), ((Ma 0), .inr (12, [.ref (Ma 1), .int (Mv 0), .int (Mv 1), .ref (Ma 2), .ref (Ma 3), .ref (Ma 4), .ref (Ma 5), .ref (Ma 6), .int (Mv 2), .int (Mv 3), .int (Mv 4), .int (Mv 5), .int (Mv 6), .int (Mv 7), .int (Mv 8), .ref (Ma 7), .int (Mv 9), .ref (Ma 8), .int sv_17, .ref (Ma 9), .ref (Ma 10), .int (Mv 11), .int (Mv 12), .int (Mv 13), .ref (Ma 11), .int (Mv 14), .ref (Ma 12), .ref (Ma 13), .ref (Ma 14), .ref (Ma 15), .ref (Ma 16), .long (Mj 0), .ref (Ma 17), .ref (Ma 18), .ref (Ma 19), .ref (Ma 20)])), ((Ma 8), .inl (tc 1, 64, .inr (.inl vy_6)))] H := hP₀
        replace hD : va_D A [((Ma 2), .inl (tc 0, 2400, .inl (Mf 2))), ((Ma 9), .inl (tc 1, 13, .inr (.inl (Mg 9)))), ((Ma 0), .inr (12, [.ref (Ma 1), .int (Mv 0), .int (Mv 1), .ref (Ma 2), .ref (Ma 3), .ref (Ma 4), .ref (Ma 5), .ref (Ma 6), .int (Mv 2), .int (Mv 3), .int (Mv 4), .int (Mv 5), .int (Mv 6), .int (Mv 7), .int (Mv 8), .ref (Ma 7), .int (Mv 9), .ref (Ma 8), .int sv_17, .ref (Ma 9), .ref (Ma 10), .int (Mv 11), .int (Mv 12), .int (Mv 13), .ref (Ma 11), .int (Mv 14), .ref (Ma 12), .ref (Ma 13), .ref (Ma 14), .ref (Ma 15), .ref (Ma 16), .long (Mj 0), .ref (Ma 17), .ref (Ma 18), .ref (Ma 19), .ref (Ma 20)])), ((Ma 8), .inl (tc 1, 64, .inr (.inl vy_6)))] := hD₀
        replace hS := hS₀
        clear hP₀ hD₀ hS₀
        exact retL (v := r_19) hx hb hr hlk hP hD hS (sv_17, vy_6) ⟨_, rfl, trivial⟩ [2, 0, 3, 1] rfl rfl dX12_reckons_139 (Nat.le_of_ble_eq_true rfl) (Nat.le_of_ble_eq_true rfl) rfl
      · skip
        refine lv_aload_n hx hb dX12_reckons_14 rfl (lv_at hl 1 rfl) ?_
        refine gf_X12_13 hx hb hts hown hK hP 0 rfl rfl dX12_reckons_15 ?_
        refine lv_sipush (v := 400) hx hb dX12_reckons_18 (by decide) ?_
        refine lv_iload_n hx hb dX12_reckons_21 rfl (lv_at hl 2 rfl) ?_
        refine lv_imul hx hb dX12_reckons_22 ?_
        refine lv_topi (fun x_22 ex_22 => ?_)
        refine lv_iload hx hb dX12_reckons_23 (lv_at hl 0 rfl) ?_
        refine lv_iadd hx hb dX12_reckons_25 ?_
        refine lv_topi (fun x_23 ex_23 => ?_)
        have hi_24 : vp_in x_23 2400 := by
          have z_1 := Int32.lt_iff_toInt_lt.mp (Int32.not_le.mp c_12)
          have y_400 : (400 : Int32).toInt = 400 := by decide
          have t_x_22 : x_22.toInt = (400 : Int32).toInt * (x1 : Int32).toInt := by rw [ex_22]; exact mul_toInt (by first | omega | (rw [y_400]; omega)) (by first | omega | (rw [y_400]; omega))
          rw [y_400] at t_x_22
          have t_x_23 : x_23.toInt = (x_22 : Int32).toInt + (vy_4 : Int32).toInt := by rw [ex_23]; exact add_toInt (by omega) (by omega)
          refine vp_in_iff.mpr ⟨?_, ?_⟩ <;> omega
        refine va_iald hx hb hK hP 1 0 rfl rfl hi_24 dX12_reckons_26 ?_
        refine lv_topi (fun x_25 ex_25 => ?_)
        have hj_26 : (x_23 : Int32).toInt = 400 * (x1 : Int32).toInt + (vy_4 : Int32).toInt := by
          have z_1 := Int32.lt_iff_toInt_lt.mp (Int32.not_le.mp c_12)
          have y_400 : (400 : Int32).toInt = 400 := by decide
          have t_x_22 : x_22.toInt = (400 : Int32).toInt * (x1 : Int32).toInt := by rw [ex_22]; exact mul_toInt (by first | omega | (rw [y_400]; omega)) (by first | omega | (rw [y_400]; omega))
          rw [y_400] at t_x_22
          have t_x_23 : x_23.toInt = (x_22 : Int32).toInt + (vy_4 : Int32).toInt := by rw [ex_23]; exact add_toInt (by omega) (by omega)
          omega
        have hl_27 : (vy_4 : Int32).toInt < (x3 : Int32).toInt := by
          have z_1 := Int32.lt_iff_toInt_lt.mp (Int32.not_le.mp c_12)
          omega
        have hc_28 := RK.cases pf_10 hl_27 h_tt.1 hj_26 ex_25
        refine lv_bipush (v := 15) hx hb dX12_reckons_27 (by decide) ?_
        refine lv_iand hx hb dX12_reckons_29 ?_
        refine lv_topi (fun x_29 ex_29 => ?_)
        have lx_29 := congrArg Int32.toInt ex_29
        refine lv_istore (lv' := [(5, .int x_29), (4, .int vy_4), (0, .ref (Ma 0)), (1, .int x1), (2, .int x2), (3, .int x3)]) hx hb dX12_reckons_30 hl (by decide) rfl (fun ls hl₀ => ?_)
        replace hl := hl₀
        clear hl₀
        refine lv_aload_n hx hb dX12_reckons_32 rfl (lv_at hl 2 rfl) ?_
        refine gf_X12_13 hx hb hts hown hK hP 0 rfl rfl dX12_reckons_33 ?_
        refine lv_sipush (v := 400) hx hb dX12_reckons_36 (by decide) ?_
        refine lv_iload_n hx hb dX12_reckons_39 rfl (lv_at hl 3 rfl) ?_
        refine lv_imul hx hb dX12_reckons_40 ?_
        refine lv_topi (fun x_30 ex_30 => ?_)
        refine lv_iload hx hb dX12_reckons_41 (lv_at hl 1 rfl) ?_
        refine lv_iadd hx hb dX12_reckons_43 ?_
        refine lv_topi (fun x_31 ex_31 => ?_)
        have hi_32 : vp_in x_31 2400 := by
          have z_1 := Int32.lt_iff_toInt_lt.mp (Int32.not_le.mp c_12)
          have y_400 : (400 : Int32).toInt = 400 := by decide
          have t_x_30 : x_30.toInt = (400 : Int32).toInt * (x1 : Int32).toInt := by rw [ex_30]; exact mul_toInt (by first | omega | (rw [y_400]; omega)) (by first | omega | (rw [y_400]; omega))
          rw [y_400] at t_x_30
          have t_x_31 : x_31.toInt = (x_30 : Int32).toInt + (vy_4 : Int32).toInt := by rw [ex_31]; exact add_toInt (by omega) (by omega)
          refine vp_in_iff.mpr ⟨?_, ?_⟩ <;> omega
        refine va_iald hx hb hK hP 1 0 rfl rfl hi_32 dX12_reckons_44 ?_
        refine lv_topi (fun x_33 ex_33 => ?_)
        have hj_34 : (x_31 : Int32).toInt = 400 * (x1 : Int32).toInt + (vy_4 : Int32).toInt := by
          have z_1 := Int32.lt_iff_toInt_lt.mp (Int32.not_le.mp c_12)
          have y_400 : (400 : Int32).toInt = 400 := by decide
          have t_x_30 : x_30.toInt = (400 : Int32).toInt * (x1 : Int32).toInt := by rw [ex_30]; exact mul_toInt (by first | omega | (rw [y_400]; omega)) (by first | omega | (rw [y_400]; omega))
          rw [y_400] at t_x_30
          have t_x_31 : x_31.toInt = (x_30 : Int32).toInt + (vy_4 : Int32).toInt := by rw [ex_31]; exact add_toInt (by omega) (by omega)
          omega
        have hl_35 : (vy_4 : Int32).toInt < (x3 : Int32).toInt := by
          have z_1 := Int32.lt_iff_toInt_lt.mp (Int32.not_le.mp c_12)
          omega
        have qx_33 : x_33 = x_25 := by rw [ex_33, ex_25, Int32.toInt_inj.mp (hj_34.trans hj_26.symm)]
        refine lv_iconst (v := 4) hx hb dX12_reckons_45 (by decide) ?_
        refine lv_ishr hx hb dX12_reckons_46 ?_
        refine lv_topi (fun x_36 ex_36 => ?_)
        have lx_36 : x_36.toInt = (x_25 >>> (4 &&& 31)).toInt := by rw [ex_36, qx_33]
        refine lv_istore (lv' := [(6, .int x_36), (5, .int x_29), (4, .int vy_4), (0, .ref (Ma 0)), (1, .int x1), (2, .int x2), (3, .int x3)]) hx hb dX12_reckons_47 hl (by decide) rfl (fun ls hl₀ => ?_)
        replace hl := hl₀
        clear hl₀
        refine lv_iload hx hb dX12_reckons_49 (lv_at hl 1 rfl) ?_
        refine lv_if_ne (tgt := 64) hx hb dX12_reckons_51 (by decide) (fun c_37 => ?_) (fun c_37 => ?_)
        · skip
          refine lv_iload hx hb dX12_reckons_64 (lv_at hl 1 rfl) ?_
          refine lv_iconst (v := 1) hx hb dX12_reckons_66 (by decide) ?_
          refine lv_icmp_ne (tgt := 84) hx hb dX12_reckons_67 (by decide) (fun c_38 => ?_) (fun c_38 => ?_)
          · skip
            refine lv_iload hx hb dX12_reckons_84 (lv_at hl 1 rfl) ?_
            refine lv_bipush (v := 11) hx hb dX12_reckons_86 (by decide) ?_
            refine lv_icmp_ne (tgt := 104) hx hb dX12_reckons_88 (by decide) (fun c_39 => ?_) (fun c_39 => ?_)
            · skip
              refine lv_aload_n hx hb dX12_reckons_104 rfl (lv_at hl 3 rfl) ?_
              have ha_40 : 1 ≤ vy_5.toInt ∧ vy_5.toInt ≤ 64 := by
                have z_1 := Int32.lt_iff_toInt_lt.mp (Int32.not_le.mp c_12)
                have z_2 : ¬ (x_29 : Int32).toInt = (0 : Int32).toInt := fun z => c_37 (Int32.toInt_inj.mp z)
                have z_3 : ¬ (x_29 : Int32).toInt = (1 : Int32).toInt := fun z => c_38 (Int32.toInt_inj.mp z)
                have z_4 : ¬ (x_29 : Int32).toInt = (11 : Int32).toInt := fun z => c_39 (Int32.toInt_inj.mp z)
                have y_0 : (0 : Int32).toInt = 0 := by decide
                have y_1 : (1 : Int32).toInt = 1 := by decide
                have y_11 : (11 : Int32).toInt = 11 := by decide
                omega
              refine cV (a := (Ma 0)) (As := []) (rest := []) (wr := [((Ma 2), .inl (tc 0, 2400, .inl (Mf 2))), ((Ma 9), .inl (tc 1, 13, .inr (.inl (Mg 9))))]) ⟨hx, hb, hml, hown, hts⟩ hK hX hA (cu_X12_pop l D tc sk (Ma 0) (Ma 1) (Ma 2) (Ma 3) (Ma 4) (Ma 5) (Ma 6) (Ma 7) (Ma 8) (Ma 9) (Ma 10) (Ma 11) (Ma 12) (Ma 13) (Ma 14) (Ma 15) (Ma 16) (Ma 17) (Ma 18) (Ma 19) (Ma 20) (Mv 0) (Mv 1) (Mv 2) (Mv 3) (Mv 4) (Mv 5) (Mv 6) (Mv 7) (Mv 8) (Mv 9) vy_5 (Mv 11) (Mv 12) (Mv 13) (Mv 14) (Mj 0) vy_6 ha_40) k_1455 k_1452 k_1454 k_75 k_106 pl_X12_pop ⟨Nat.le_of_ble_eq_true rfl, Nat.le_of_ble_eq_true rfl⟩ rfl rfl (va_recv hK hP (ci := 12) (q0 := 0) rfl rfl) hP hD hS [0, 2] [1, 3] rfl rfl rfl rfl rfl (by decide) rfl hl.1 rfl (Nat.le_of_ble_eq_true rfl) dX12_reckons_105 ⟨Nat.le_of_ble_eq_true rfl, Nat.le_of_ble_eq_true rfl⟩ (fun v_41 u_42 H locs hv_43 hP₀ hD₀ hS₀ => ?_)
              obtain ⟨sv_44, rfl⟩ : ∃ z, z = u_42 := ⟨_, rfl⟩
              obtain ⟨r_46, rfl, he_47, pf_45⟩ := hv_43
              have pf_45 : (sv_44 : Int32).toInt = vy_5.toInt - 1 := pf_45
              refine W.eq (g2 := F0 m 108 ls [.long r_46]) rfl ?_
              replace hP : va_P D classes [((Ma 2), .inl (tc 0, 2400, .inl (Mf 2))), ((Ma 9), .inl (tc 1, 13, .inr (.inl (Mg 9)))), ((Ma 0), .inr (12, [.ref (Ma 1), .int (Mv 0), .int (Mv 1), .ref (Ma 2), .ref (Ma 3), .ref (Ma 4), .ref (Ma 5), .ref (Ma 6), .int (Mv 2), .int (Mv 3), .int (Mv 4), .int (Mv 5), .int (Mv 6), .int (Mv 7), .int (Mv 8), .ref (Ma 7), .int (Mv 9), .ref (Ma 8), .int sv_44, .ref (Ma 9), .ref (Ma 10), .int (Mv 11), .int (Mv 12), .int (Mv 13), .ref (Ma 11), .int (Mv 14), .ref (Ma 12), .ref (Ma 13), .ref (Ma 14), .ref (Ma 15), .ref (Ma 16), .long (Mj 0), .ref (Ma 17), .ref (Ma 18), .ref (Ma 19), .ref (Ma 20)])), ((Ma 8), .inl (tc 1, 64, .inr (.inl vy_6)))] H := hP₀
              replace hD : va_D A [((Ma 2), .inl (tc 0, 2400, .inl (Mf 2))), ((Ma 9), .inl (tc 1, 13, .inr (.inl (Mg 9)))), ((Ma 0), .inr (12, [.ref (Ma 1), .int (Mv 0), .int (Mv 1), .ref (Ma 2), .ref (Ma 3), .ref (Ma 4), .ref (Ma 5), .ref (Ma 6), .int (Mv 2), .int (Mv 3), .int (Mv 4), .int (Mv 5), .int (Mv 6), .int (Mv 7), .int (Mv 8), .ref (Ma 7), .int (Mv 9), .ref (Ma 8), .int sv_44, .ref (Ma 9), .ref (Ma 10), .int (Mv 11), .int (Mv 12), .int (Mv 13), .ref (Ma 11), .int (Mv 14), .ref (Ma 12), .ref (Ma 13), .ref (Ma 14), .ref (Ma 15), .ref (Ma 16), .long (Mj 0), .ref (Ma 17), .ref (Ma 18), .ref (Ma 19), .ref (Ma 20)])), ((Ma 8), .inl (tc 1, 64, .inr (.inl vy_6)))] := hD₀
              replace hS := hS₀
              clear hP₀ hD₀ hS₀
              refine lv_lstore (lv' := [(7, .long r_46), (6, .int x_36), (5, .int x_29), (4, .int vy_4), (0, .ref (Ma 0)), (1, .int x1), (2, .int x2), (3, .int x3)]) hx hb dX12_reckons_108 hl (by decide) rfl (fun ls hl₀ => ?_)
              replace hl := hl₀
              clear hl₀
              refine lv_aload_n hx hb dX12_reckons_110 rfl (lv_at hl 4 rfl) ?_
              have ha_49 : 1 ≤ sv_44.toInt ∧ sv_44.toInt ≤ 64 := by
                have z_1 := Int32.lt_iff_toInt_lt.mp (Int32.not_le.mp c_12)
                have z_2 : ¬ (x_29 : Int32).toInt = (0 : Int32).toInt := fun z => c_37 (Int32.toInt_inj.mp z)
                have z_3 : ¬ (x_29 : Int32).toInt = (1 : Int32).toInt := fun z => c_38 (Int32.toInt_inj.mp z)
                have z_4 : ¬ (x_29 : Int32).toInt = (11 : Int32).toInt := fun z => c_39 (Int32.toInt_inj.mp z)
                have y_0 : (0 : Int32).toInt = 0 := by decide
                have y_1 : (1 : Int32).toInt = 1 := by decide
                have y_11 : (11 : Int32).toInt = 11 := by decide
                omega
              refine cV (a := (Ma 0)) (As := []) (rest := []) (wr := [((Ma 2), .inl (tc 0, 2400, .inl (Mf 2))), ((Ma 9), .inl (tc 1, 13, .inr (.inl (Mg 9))))]) ⟨hx, hb, hml, hown, hts⟩ hK hX hA (cu_X12_pop l D tc sk (Ma 0) (Ma 1) (Ma 2) (Ma 3) (Ma 4) (Ma 5) (Ma 6) (Ma 7) (Ma 8) (Ma 9) (Ma 10) (Ma 11) (Ma 12) (Ma 13) (Ma 14) (Ma 15) (Ma 16) (Ma 17) (Ma 18) (Ma 19) (Ma 20) (Mv 0) (Mv 1) (Mv 2) (Mv 3) (Mv 4) (Mv 5) (Mv 6) (Mv 7) (Mv 8) (Mv 9) sv_44 (Mv 11) (Mv 12) (Mv 13) (Mv 14) (Mj 0) vy_6 ha_49) k_1455 k_1452 k_1454 k_75 k_106 pl_X12_pop ⟨Nat.le_of_ble_eq_true rfl, Nat.le_of_ble_eq_true rfl⟩ rfl rfl (va_recv hK hP (ci := 12) (q0 := 2) rfl rfl) hP hD hS [2, 3] [0, 1] rfl rfl rfl rfl rfl (by decide) rfl hl.1 rfl (Nat.le_of_ble_eq_true rfl) dX12_reckons_111 ⟨Nat.le_of_ble_eq_true rfl, Nat.le_of_ble_eq_true rfl⟩ (fun v_50 u_51 H locs hv_52 hP₀ hD₀ hS₀ => ?_)
              obtain ⟨sv_53, rfl⟩ : ∃ z, z = u_51 := ⟨_, rfl⟩
              obtain ⟨r_55, rfl, he_56, pf_54⟩ := hv_52
              have pf_54 : (sv_53 : Int32).toInt = sv_44.toInt - 1 := pf_54
              refine W.eq (g2 := F0 m 114 ls [.long r_55]) rfl ?_
              replace hP : va_P D classes [((Ma 2), .inl (tc 0, 2400, .inl (Mf 2))), ((Ma 9), .inl (tc 1, 13, .inr (.inl (Mg 9)))), ((Ma 0), .inr (12, [.ref (Ma 1), .int (Mv 0), .int (Mv 1), .ref (Ma 2), .ref (Ma 3), .ref (Ma 4), .ref (Ma 5), .ref (Ma 6), .int (Mv 2), .int (Mv 3), .int (Mv 4), .int (Mv 5), .int (Mv 6), .int (Mv 7), .int (Mv 8), .ref (Ma 7), .int (Mv 9), .ref (Ma 8), .int sv_53, .ref (Ma 9), .ref (Ma 10), .int (Mv 11), .int (Mv 12), .int (Mv 13), .ref (Ma 11), .int (Mv 14), .ref (Ma 12), .ref (Ma 13), .ref (Ma 14), .ref (Ma 15), .ref (Ma 16), .long (Mj 0), .ref (Ma 17), .ref (Ma 18), .ref (Ma 19), .ref (Ma 20)])), ((Ma 8), .inl (tc 1, 64, .inr (.inl vy_6)))] H := hP₀
              replace hD : va_D A [((Ma 2), .inl (tc 0, 2400, .inl (Mf 2))), ((Ma 9), .inl (tc 1, 13, .inr (.inl (Mg 9)))), ((Ma 0), .inr (12, [.ref (Ma 1), .int (Mv 0), .int (Mv 1), .ref (Ma 2), .ref (Ma 3), .ref (Ma 4), .ref (Ma 5), .ref (Ma 6), .int (Mv 2), .int (Mv 3), .int (Mv 4), .int (Mv 5), .int (Mv 6), .int (Mv 7), .int (Mv 8), .ref (Ma 7), .int (Mv 9), .ref (Ma 8), .int sv_53, .ref (Ma 9), .ref (Ma 10), .int (Mv 11), .int (Mv 12), .int (Mv 13), .ref (Ma 11), .int (Mv 14), .ref (Ma 12), .ref (Ma 13), .ref (Ma 14), .ref (Ma 15), .ref (Ma 16), .long (Mj 0), .ref (Ma 17), .ref (Ma 18), .ref (Ma 19), .ref (Ma 20)])), ((Ma 8), .inl (tc 1, 64, .inr (.inl vy_6)))] := hD₀
              replace hS := hS₀
              clear hP₀ hD₀ hS₀
              refine lv_lstore (lv' := [(9, .long r_55), (7, .long r_46), (6, .int x_36), (5, .int x_29), (4, .int vy_4), (0, .ref (Ma 0)), (1, .int x1), (2, .int x2), (3, .int x3)]) hx hb dX12_reckons_114 hl (by decide) rfl (fun ls hl₀ => ?_)
              replace hl := hl₀
              clear hl₀
              refine lv_aload_n hx hb dX12_reckons_116 rfl (lv_at hl 5 rfl) ?_
              refine lv_iload hx hb dX12_reckons_117 (lv_at hl 3 rfl) ?_
              refine lv_lload hx hb dX12_reckons_119 (lv_at hl 0 rfl) ?_
              refine lv_lload hx hb dX12_reckons_121 (lv_at hl 1 rfl) ?_
              refine cS (As := [.int x_29, .long r_55, .long r_46]) (rest := [.ref (Ma 0)]) (wr := [((Ma 2), .inl (tc 0, 2400, .inl (Mf 2))), ((Ma 9), .inl (tc 1, 13, .inr (.inl (Mg 9)))), ((Ma 0), .inr (12, [.ref (Ma 1), .int (Mv 0), .int (Mv 1), .ref (Ma 2), .ref (Ma 3), .ref (Ma 4), .ref (Ma 5), .ref (Ma 6), .int (Mv 2), .int (Mv 3), .int (Mv 4), .int (Mv 5), .int (Mv 6), .int (Mv 7), .int (Mv 8), .ref (Ma 7), .int (Mv 9), .ref (Ma 8), .int sv_53, .ref (Ma 9), .ref (Ma 10), .int (Mv 11), .int (Mv 12), .int (Mv 13), .ref (Ma 11), .int (Mv 14), .ref (Ma 12), .ref (Ma 13), .ref (Ma 14), .ref (Ma 15), .ref (Ma 16), .long (Mj 0), .ref (Ma 17), .ref (Ma 18), .ref (Ma 19), .ref (Ma 20)])), ((Ma 8), .inl (tc 1, 64, .inr (.inl vy_6)))]) ⟨hx, hb, hml, hown, hts⟩ hK hX hA (ct_X12_one l D tc sk x_29 r_55 r_46) k_1458 k_1456 k_1457 k_106 pl_X12_one ⟨Nat.le_of_ble_eq_true rfl, Nat.le_of_ble_eq_true rfl⟩ rfl rfl  hP hD hS [] [0, 1, 2, 3] rfl rfl rfl rfl rfl (by decide) rfl hl.1 rfl (Nat.le_of_ble_eq_true rfl) dX12_reckons_123 ⟨Nat.le_of_ble_eq_true rfl, Nat.le_of_ble_eq_true rfl⟩ (fun v_58 u_59 H locs hv_60 hP₀ hD₀ hS₀ => ?_)
              obtain ⟨r_61, rfl, he_62⟩ := hv_60
              refine W.eq (g2 := F0 m 126 ls [.long r_61, .ref (Ma 0)]) rfl ?_
              replace hP : va_P D classes [((Ma 2), .inl (tc 0, 2400, .inl (Mf 2))), ((Ma 9), .inl (tc 1, 13, .inr (.inl (Mg 9)))), ((Ma 0), .inr (12, [.ref (Ma 1), .int (Mv 0), .int (Mv 1), .ref (Ma 2), .ref (Ma 3), .ref (Ma 4), .ref (Ma 5), .ref (Ma 6), .int (Mv 2), .int (Mv 3), .int (Mv 4), .int (Mv 5), .int (Mv 6), .int (Mv 7), .int (Mv 8), .ref (Ma 7), .int (Mv 9), .ref (Ma 8), .int sv_53, .ref (Ma 9), .ref (Ma 10), .int (Mv 11), .int (Mv 12), .int (Mv 13), .ref (Ma 11), .int (Mv 14), .ref (Ma 12), .ref (Ma 13), .ref (Ma 14), .ref (Ma 15), .ref (Ma 16), .long (Mj 0), .ref (Ma 17), .ref (Ma 18), .ref (Ma 19), .ref (Ma 20)])), ((Ma 8), .inl (tc 1, 64, .inr (.inl vy_6)))] H := hP₀
              replace hD : va_D A [((Ma 2), .inl (tc 0, 2400, .inl (Mf 2))), ((Ma 9), .inl (tc 1, 13, .inr (.inl (Mg 9)))), ((Ma 0), .inr (12, [.ref (Ma 1), .int (Mv 0), .int (Mv 1), .ref (Ma 2), .ref (Ma 3), .ref (Ma 4), .ref (Ma 5), .ref (Ma 6), .int (Mv 2), .int (Mv 3), .int (Mv 4), .int (Mv 5), .int (Mv 6), .int (Mv 7), .int (Mv 8), .ref (Ma 7), .int (Mv 9), .ref (Ma 8), .int sv_53, .ref (Ma 9), .ref (Ma 10), .int (Mv 11), .int (Mv 12), .int (Mv 13), .ref (Ma 11), .int (Mv 14), .ref (Ma 12), .ref (Ma 13), .ref (Ma 14), .ref (Ma 15), .ref (Ma 16), .long (Mj 0), .ref (Ma 17), .ref (Ma 18), .ref (Ma 19), .ref (Ma 20)])), ((Ma 8), .inl (tc 1, 64, .inr (.inl vy_6)))] := hD₀
              replace hS := hS₀
              clear hP₀ hD₀ hS₀
              have ha_64 : 0 ≤ sv_53.toInt ∧ sv_53.toInt < 64 := by
                have z_1 := Int32.lt_iff_toInt_lt.mp (Int32.not_le.mp c_12)
                have z_2 : ¬ (x_29 : Int32).toInt = (0 : Int32).toInt := fun z => c_37 (Int32.toInt_inj.mp z)
                have z_3 : ¬ (x_29 : Int32).toInt = (1 : Int32).toInt := fun z => c_38 (Int32.toInt_inj.mp z)
                have z_4 : ¬ (x_29 : Int32).toInt = (11 : Int32).toInt := fun z => c_39 (Int32.toInt_inj.mp z)
                have y_0 : (0 : Int32).toInt = 0 := by decide
                have y_1 : (1 : Int32).toInt = 1 := by decide
                have y_11 : (11 : Int32).toInt = 11 := by decide
                omega
              refine cV (a := (Ma 0)) (As := [.long r_61]) (rest := []) (wr := [((Ma 2), .inl (tc 0, 2400, .inl (Mf 2))), ((Ma 9), .inl (tc 1, 13, .inr (.inl (Mg 9))))]) ⟨hx, hb, hml, hown, hts⟩ hK hX hA (cu_X12_push l D tc sk (Ma 0) (Ma 1) (Ma 2) (Ma 3) (Ma 4) (Ma 5) (Ma 6) (Ma 7) (Ma 8) (Ma 9) (Ma 10) (Ma 11) (Ma 12) (Ma 13) (Ma 14) (Ma 15) (Ma 16) (Ma 17) (Ma 18) (Ma 19) (Ma 20) (Mv 0) (Mv 1) (Mv 2) (Mv 3) (Mv 4) (Mv 5) (Mv 6) (Mv 7) (Mv 8) (Mv 9) sv_53 (Mv 11) (Mv 12) (Mv 13) (Mv 14) (Mj 0) vy_6 r_61 ha_64) k_1451 k_1448 k_1450 k_74 k_106 pl_X12_push ⟨Nat.le_of_ble_eq_true rfl, Nat.le_of_ble_eq_true rfl⟩ rfl rfl (va_recv hK hP (ci := 12) (q0 := 2) rfl rfl) hP hD hS [2, 3] [0, 1] rfl rfl rfl rfl rfl (by decide) rfl hl.1 rfl (Nat.le_of_ble_eq_true rfl) dX12_reckons_126 ⟨Nat.le_of_ble_eq_true rfl, Nat.le_of_ble_eq_true rfl⟩ (fun v_65 u_66 H locs hv_67 hP₀ hD₀ hS₀ => ?_)
              obtain ⟨sv_68, sv_69⟩ := u_66
              obtain ⟨rfl, pf_70⟩ := hv_67
              have pf_70 : (sv_68 : Int32).toInt = sv_53.toInt + 1 := pf_70
              refine W.eq (g2 := F0 m 129 ls []) rfl ?_
              replace hP : va_P D classes [((Ma 2), .inl (tc 0, 2400, .inl (Mf 2))), ((Ma 9), .inl (tc 1, 13, .inr (.inl (Mg 9)))), ((Ma 0), .inr (12, [.ref (Ma 1), .int (Mv 0), .int (Mv 1), .ref (Ma 2), .ref (Ma 3), .ref (Ma 4), .ref (Ma 5), .ref (Ma 6), .int (Mv 2), .int (Mv 3), .int (Mv 4), .int (Mv 5), .int (Mv 6), .int (Mv 7), .int (Mv 8), .ref (Ma 7), .int (Mv 9), .ref (Ma 8), .int sv_68, .ref (Ma 9), .ref (Ma 10), .int (Mv 11), .int (Mv 12), .int (Mv 13), .ref (Ma 11), .int (Mv 14), .ref (Ma 12), .ref (Ma 13), .ref (Ma 14), .ref (Ma 15), .ref (Ma 16), .long (Mj 0), .ref (Ma 17), .ref (Ma 18), .ref (Ma 19), .ref (Ma 20)])), ((Ma 8), .inl (tc 1, 64, .inr (.inl sv_69)))] H := hP₀
              replace hD : va_D A [((Ma 2), .inl (tc 0, 2400, .inl (Mf 2))), ((Ma 9), .inl (tc 1, 13, .inr (.inl (Mg 9)))), ((Ma 0), .inr (12, [.ref (Ma 1), .int (Mv 0), .int (Mv 1), .ref (Ma 2), .ref (Ma 3), .ref (Ma 4), .ref (Ma 5), .ref (Ma 6), .int (Mv 2), .int (Mv 3), .int (Mv 4), .int (Mv 5), .int (Mv 6), .int (Mv 7), .int (Mv 8), .ref (Ma 7), .int (Mv 9), .ref (Ma 8), .int sv_68, .ref (Ma 9), .ref (Ma 10), .int (Mv 11), .int (Mv 12), .int (Mv 13), .ref (Ma 11), .int (Mv 14), .ref (Ma 12), .ref (Ma 13), .ref (Ma 14), .ref (Ma 15), .ref (Ma 16), .long (Mj 0), .ref (Ma 17), .ref (Ma 18), .ref (Ma 19), .ref (Ma 20)])), ((Ma 8), .inl (tc 1, 64, .inr (.inl sv_69)))] := hD₀
              replace hS := hS₀
              clear hP₀ hD₀ hS₀
              obtain ⟨x_71, ex_71⟩ : ∃ y : Int32, y = vy_4 + 1 := ⟨_, rfl⟩
              refine lv_iinc (v := x_71) (lv' := [(4, .int x_71), (9, .long r_55), (7, .long r_46), (6, .int x_36), (5, .int x_29), (0, .ref (Ma 0)), (1, .int x1), (2, .int x2), (3, .int x3)]) hx hb dX12_reckons_129 hl (k := 4) rfl (by rw [ex_71]; rfl) (by decide) rfl (fun ls hl₀ => ?_)
              replace hl := hl₀
              clear hl₀
              refine lv_goto (tgt := 8) hx hb dX12_reckons_132 (by decide) ?_
              have hb_72 : x3.toInt - (x_71 : Int32).toInt < x3.toInt - (vy_4 : Int32).toInt ∧ 1 ≤ x3.toInt - (vy_4 : Int32).toInt := by
                have z_1 := Int32.lt_iff_toInt_lt.mp (Int32.not_le.mp c_12)
                have z_2 : ¬ (x_29 : Int32).toInt = (0 : Int32).toInt := fun z => c_37 (Int32.toInt_inj.mp z)
                have z_3 : ¬ (x_29 : Int32).toInt = (1 : Int32).toInt := fun z => c_38 (Int32.toInt_inj.mp z)
                have z_4 : ¬ (x_29 : Int32).toInt = (11 : Int32).toInt := fun z => c_39 (Int32.toInt_inj.mp z)
                have y_0 : (0 : Int32).toInt = 0 := by decide
                have y_1 : (1 : Int32).toInt = 1 := by decide
                have y_11 : (11 : Int32).toInt = 11 := by decide
                have t_x_71 : x_71.toInt = (vy_4 : Int32).toInt + (1 : Int32).toInt := by rw [ex_71]; exact add_toInt (by omega) (by omega)
                omega
              have hi_73 : (x_71 : Int32).toInt = (vy_4 : Int32).toInt + 1 := by
                have z_1 := Int32.lt_iff_toInt_lt.mp (Int32.not_le.mp c_12)
                have z_2 : ¬ (x_29 : Int32).toInt = (0 : Int32).toInt := fun z => c_37 (Int32.toInt_inj.mp z)
                have z_3 : ¬ (x_29 : Int32).toInt = (1 : Int32).toInt := fun z => c_38 (Int32.toInt_inj.mp z)
                have z_4 : ¬ (x_29 : Int32).toInt = (11 : Int32).toInt := fun z => c_39 (Int32.toInt_inj.mp z)
                have y_0 : (0 : Int32).toInt = 0 := by decide
                have y_1 : (1 : Int32).toInt = 1 := by decide
                have y_11 : (11 : Int32).toInt = 11 := by decide
                have t_x_71 : x_71.toInt = (vy_4 : Int32).toInt + (1 : Int32).toInt := by rw [ex_71]; exact add_toInt (by omega) (by omega)
                omega
              have hd_74 : ((((x_25 &&& 15).toInt = 0 ∨ (x_25 &&& 15).toInt = 1) ∧ (sv_68 : Int32).toInt = (vy_5 : Int32).toInt + 1) ∨ ((x_25 &&& 15).toInt = 11 ∧ (sv_68 : Int32).toInt = (vy_5 : Int32).toInt) ∨ ((x_25 &&& 15).toInt ≠ 0 ∧ (x_25 &&& 15).toInt ≠ 1 ∧ (x_25 &&& 15).toInt ≠ 11 ∧ (sv_68 : Int32).toInt = (vy_5 : Int32).toInt - 1)) := by
                have z_1 := Int32.lt_iff_toInt_lt.mp (Int32.not_le.mp c_12)
                have z_2 : ¬ (x_29 : Int32).toInt = (0 : Int32).toInt := fun z => c_37 (Int32.toInt_inj.mp z)
                have z_3 : ¬ (x_29 : Int32).toInt = (1 : Int32).toInt := fun z => c_38 (Int32.toInt_inj.mp z)
                have z_4 : ¬ (x_29 : Int32).toInt = (11 : Int32).toInt := fun z => c_39 (Int32.toInt_inj.mp z)
                have y_0 : (0 : Int32).toInt = 0 := by decide
                have y_1 : (1 : Int32).toInt = 1 := by decide
                have y_11 : (11 : Int32).toInt = 11 := by decide
                omega
              have ha_75 : RK (Mf 2) x1 x_71 x3 sv_68 := RK.next pf_10 hl_27 h_tt.1 hj_26 ex_25 hi_73 hd_74
              exact ih_8 x_71 sv_68 sv_69 _ _ _ (by omega) ha_75 (hP.sub [2, 0, 3, 1] rfl) (hD.sub [2, 0, 3, 1] rfl rfl) hS (lv_sub hl [0, 5, 6, 7, 8] rfl)
            · skip
              refine lv_aload_n hx hb dX12_reckons_91 rfl (lv_at hl 3 rfl) ?_
              refine lv_lconst (v := 1) hx hb dX12_reckons_92 (by decide) ?_
              refine lv_aload_n hx hb dX12_reckons_93 rfl (lv_at hl 3 rfl) ?_
              have ha_76 : 1 ≤ vy_5.toInt ∧ vy_5.toInt ≤ 64 := by
                have z_1 := Int32.lt_iff_toInt_lt.mp (Int32.not_le.mp c_12)
                have z_2 : ¬ (x_29 : Int32).toInt = (0 : Int32).toInt := fun z => c_37 (Int32.toInt_inj.mp z)
                have z_3 : ¬ (x_29 : Int32).toInt = (1 : Int32).toInt := fun z => c_38 (Int32.toInt_inj.mp z)
                have z_4 := congrArg Int32.toInt c_39
                have y_0 : (0 : Int32).toInt = 0 := by decide
                have y_1 : (1 : Int32).toInt = 1 := by decide
                have y_11 : (11 : Int32).toInt = 11 := by decide
                omega
              refine cV (a := (Ma 0)) (As := []) (rest := [.long 1, .ref (Ma 0)]) (wr := [((Ma 2), .inl (tc 0, 2400, .inl (Mf 2))), ((Ma 9), .inl (tc 1, 13, .inr (.inl (Mg 9))))]) ⟨hx, hb, hml, hown, hts⟩ hK hX hA (cu_X12_pop l D tc sk (Ma 0) (Ma 1) (Ma 2) (Ma 3) (Ma 4) (Ma 5) (Ma 6) (Ma 7) (Ma 8) (Ma 9) (Ma 10) (Ma 11) (Ma 12) (Ma 13) (Ma 14) (Ma 15) (Ma 16) (Ma 17) (Ma 18) (Ma 19) (Ma 20) (Mv 0) (Mv 1) (Mv 2) (Mv 3) (Mv 4) (Mv 5) (Mv 6) (Mv 7) (Mv 8) (Mv 9) vy_5 (Mv 11) (Mv 12) (Mv 13) (Mv 14) (Mj 0) vy_6 ha_76) k_1455 k_1452 k_1454 k_75 k_106 pl_X12_pop ⟨Nat.le_of_ble_eq_true rfl, Nat.le_of_ble_eq_true rfl⟩ rfl rfl (va_recv hK hP (ci := 12) (q0 := 0) rfl rfl) hP hD hS [0, 2] [1, 3] rfl rfl rfl rfl rfl (by decide) rfl hl.1 rfl (Nat.le_of_ble_eq_true rfl) dX12_reckons_94 ⟨Nat.le_of_ble_eq_true rfl, Nat.le_of_ble_eq_true rfl⟩ (fun v_77 u_78 H locs hv_79 hP₀ hD₀ hS₀ => ?_)
              obtain ⟨sv_80, rfl⟩ : ∃ z, z = u_78 := ⟨_, rfl⟩
              obtain ⟨r_82, rfl, he_83, pf_81⟩ := hv_79
              have pf_81 : (sv_80 : Int32).toInt = vy_5.toInt - 1 := pf_81
              refine W.eq (g2 := F0 m 97 ls [.long r_82, .long 1, .ref (Ma 0)]) rfl ?_
              replace hP : va_P D classes [((Ma 2), .inl (tc 0, 2400, .inl (Mf 2))), ((Ma 9), .inl (tc 1, 13, .inr (.inl (Mg 9)))), ((Ma 0), .inr (12, [.ref (Ma 1), .int (Mv 0), .int (Mv 1), .ref (Ma 2), .ref (Ma 3), .ref (Ma 4), .ref (Ma 5), .ref (Ma 6), .int (Mv 2), .int (Mv 3), .int (Mv 4), .int (Mv 5), .int (Mv 6), .int (Mv 7), .int (Mv 8), .ref (Ma 7), .int (Mv 9), .ref (Ma 8), .int sv_80, .ref (Ma 9), .ref (Ma 10), .int (Mv 11), .int (Mv 12), .int (Mv 13), .ref (Ma 11), .int (Mv 14), .ref (Ma 12), .ref (Ma 13), .ref (Ma 14), .ref (Ma 15), .ref (Ma 16), .long (Mj 0), .ref (Ma 17), .ref (Ma 18), .ref (Ma 19), .ref (Ma 20)])), ((Ma 8), .inl (tc 1, 64, .inr (.inl vy_6)))] H := hP₀
              replace hD : va_D A [((Ma 2), .inl (tc 0, 2400, .inl (Mf 2))), ((Ma 9), .inl (tc 1, 13, .inr (.inl (Mg 9)))), ((Ma 0), .inr (12, [.ref (Ma 1), .int (Mv 0), .int (Mv 1), .ref (Ma 2), .ref (Ma 3), .ref (Ma 4), .ref (Ma 5), .ref (Ma 6), .int (Mv 2), .int (Mv 3), .int (Mv 4), .int (Mv 5), .int (Mv 6), .int (Mv 7), .int (Mv 8), .ref (Ma 7), .int (Mv 9), .ref (Ma 8), .int sv_80, .ref (Ma 9), .ref (Ma 10), .int (Mv 11), .int (Mv 12), .int (Mv 13), .ref (Ma 11), .int (Mv 14), .ref (Ma 12), .ref (Ma 13), .ref (Ma 14), .ref (Ma 15), .ref (Ma 16), .long (Mj 0), .ref (Ma 17), .ref (Ma 18), .ref (Ma 19), .ref (Ma 20)])), ((Ma 8), .inl (tc 1, 64, .inr (.inl vy_6)))] := hD₀
              replace hS := hS₀
              clear hP₀ hD₀ hS₀
              refine lv_lsub hx hb dX12_reckons_97 ?_
              refine lv_topl (fun x_85 ex_85 => ?_)
              have ha_86 : 0 ≤ sv_80.toInt ∧ sv_80.toInt < 64 := by
                have z_1 := Int32.lt_iff_toInt_lt.mp (Int32.not_le.mp c_12)
                have z_2 : ¬ (x_29 : Int32).toInt = (0 : Int32).toInt := fun z => c_37 (Int32.toInt_inj.mp z)
                have z_3 : ¬ (x_29 : Int32).toInt = (1 : Int32).toInt := fun z => c_38 (Int32.toInt_inj.mp z)
                have z_4 := congrArg Int32.toInt c_39
                have y_0 : (0 : Int32).toInt = 0 := by decide
                have y_1 : (1 : Int32).toInt = 1 := by decide
                have y_11 : (11 : Int32).toInt = 11 := by decide
                omega
              refine cV (a := (Ma 0)) (As := [.long x_85]) (rest := []) (wr := [((Ma 2), .inl (tc 0, 2400, .inl (Mf 2))), ((Ma 9), .inl (tc 1, 13, .inr (.inl (Mg 9))))]) ⟨hx, hb, hml, hown, hts⟩ hK hX hA (cu_X12_push l D tc sk (Ma 0) (Ma 1) (Ma 2) (Ma 3) (Ma 4) (Ma 5) (Ma 6) (Ma 7) (Ma 8) (Ma 9) (Ma 10) (Ma 11) (Ma 12) (Ma 13) (Ma 14) (Ma 15) (Ma 16) (Ma 17) (Ma 18) (Ma 19) (Ma 20) (Mv 0) (Mv 1) (Mv 2) (Mv 3) (Mv 4) (Mv 5) (Mv 6) (Mv 7) (Mv 8) (Mv 9) sv_80 (Mv 11) (Mv 12) (Mv 13) (Mv 14) (Mj 0) vy_6 x_85 ha_86) k_1451 k_1448 k_1450 k_74 k_106 pl_X12_push ⟨Nat.le_of_ble_eq_true rfl, Nat.le_of_ble_eq_true rfl⟩ rfl rfl (va_recv hK hP (ci := 12) (q0 := 2) rfl rfl) hP hD hS [2, 3] [0, 1] rfl rfl rfl rfl rfl (by decide) rfl hl.1 rfl (Nat.le_of_ble_eq_true rfl) dX12_reckons_98 ⟨Nat.le_of_ble_eq_true rfl, Nat.le_of_ble_eq_true rfl⟩ (fun v_87 u_88 H locs hv_89 hP₀ hD₀ hS₀ => ?_)
              obtain ⟨sv_90, sv_91⟩ := u_88
              obtain ⟨rfl, pf_92⟩ := hv_89
              have pf_92 : (sv_90 : Int32).toInt = sv_80.toInt + 1 := pf_92
              refine W.eq (g2 := F0 m 101 ls []) rfl ?_
              replace hP : va_P D classes [((Ma 2), .inl (tc 0, 2400, .inl (Mf 2))), ((Ma 9), .inl (tc 1, 13, .inr (.inl (Mg 9)))), ((Ma 0), .inr (12, [.ref (Ma 1), .int (Mv 0), .int (Mv 1), .ref (Ma 2), .ref (Ma 3), .ref (Ma 4), .ref (Ma 5), .ref (Ma 6), .int (Mv 2), .int (Mv 3), .int (Mv 4), .int (Mv 5), .int (Mv 6), .int (Mv 7), .int (Mv 8), .ref (Ma 7), .int (Mv 9), .ref (Ma 8), .int sv_90, .ref (Ma 9), .ref (Ma 10), .int (Mv 11), .int (Mv 12), .int (Mv 13), .ref (Ma 11), .int (Mv 14), .ref (Ma 12), .ref (Ma 13), .ref (Ma 14), .ref (Ma 15), .ref (Ma 16), .long (Mj 0), .ref (Ma 17), .ref (Ma 18), .ref (Ma 19), .ref (Ma 20)])), ((Ma 8), .inl (tc 1, 64, .inr (.inl sv_91)))] H := hP₀
              replace hD : va_D A [((Ma 2), .inl (tc 0, 2400, .inl (Mf 2))), ((Ma 9), .inl (tc 1, 13, .inr (.inl (Mg 9)))), ((Ma 0), .inr (12, [.ref (Ma 1), .int (Mv 0), .int (Mv 1), .ref (Ma 2), .ref (Ma 3), .ref (Ma 4), .ref (Ma 5), .ref (Ma 6), .int (Mv 2), .int (Mv 3), .int (Mv 4), .int (Mv 5), .int (Mv 6), .int (Mv 7), .int (Mv 8), .ref (Ma 7), .int (Mv 9), .ref (Ma 8), .int sv_90, .ref (Ma 9), .ref (Ma 10), .int (Mv 11), .int (Mv 12), .int (Mv 13), .ref (Ma 11), .int (Mv 14), .ref (Ma 12), .ref (Ma 13), .ref (Ma 14), .ref (Ma 15), .ref (Ma 16), .long (Mj 0), .ref (Ma 17), .ref (Ma 18), .ref (Ma 19), .ref (Ma 20)])), ((Ma 8), .inl (tc 1, 64, .inr (.inl sv_91)))] := hD₀
              replace hS := hS₀
              clear hP₀ hD₀ hS₀
              refine lv_goto (tgt := 129) hx hb dX12_reckons_101 (by decide) ?_
              obtain ⟨x_93, ex_93⟩ : ∃ y : Int32, y = vy_4 + 1 := ⟨_, rfl⟩
              refine lv_iinc (v := x_93) (lv' := [(4, .int x_93), (6, .int x_36), (5, .int x_29), (0, .ref (Ma 0)), (1, .int x1), (2, .int x2), (3, .int x3)]) hx hb dX12_reckons_129 hl (k := 2) rfl (by rw [ex_93]; rfl) (by decide) rfl (fun ls hl₀ => ?_)
              replace hl := hl₀
              clear hl₀
              refine lv_goto (tgt := 8) hx hb dX12_reckons_132 (by decide) ?_
              have hb_94 : x3.toInt - (x_93 : Int32).toInt < x3.toInt - (vy_4 : Int32).toInt ∧ 1 ≤ x3.toInt - (vy_4 : Int32).toInt := by
                have z_1 := Int32.lt_iff_toInt_lt.mp (Int32.not_le.mp c_12)
                have z_2 : ¬ (x_29 : Int32).toInt = (0 : Int32).toInt := fun z => c_37 (Int32.toInt_inj.mp z)
                have z_3 : ¬ (x_29 : Int32).toInt = (1 : Int32).toInt := fun z => c_38 (Int32.toInt_inj.mp z)
                have z_4 := congrArg Int32.toInt c_39
                have y_0 : (0 : Int32).toInt = 0 := by decide
                have y_1 : (1 : Int32).toInt = 1 := by decide
                have y_11 : (11 : Int32).toInt = 11 := by decide
                have t_x_93 : x_93.toInt = (vy_4 : Int32).toInt + (1 : Int32).toInt := by rw [ex_93]; exact add_toInt (by omega) (by omega)
                omega
              have hi_95 : (x_93 : Int32).toInt = (vy_4 : Int32).toInt + 1 := by
                have z_1 := Int32.lt_iff_toInt_lt.mp (Int32.not_le.mp c_12)
                have z_2 : ¬ (x_29 : Int32).toInt = (0 : Int32).toInt := fun z => c_37 (Int32.toInt_inj.mp z)
                have z_3 : ¬ (x_29 : Int32).toInt = (1 : Int32).toInt := fun z => c_38 (Int32.toInt_inj.mp z)
                have z_4 := congrArg Int32.toInt c_39
                have y_0 : (0 : Int32).toInt = 0 := by decide
                have y_1 : (1 : Int32).toInt = 1 := by decide
                have y_11 : (11 : Int32).toInt = 11 := by decide
                have t_x_93 : x_93.toInt = (vy_4 : Int32).toInt + (1 : Int32).toInt := by rw [ex_93]; exact add_toInt (by omega) (by omega)
                omega
              have hd_96 : ((((x_25 &&& 15).toInt = 0 ∨ (x_25 &&& 15).toInt = 1) ∧ (sv_90 : Int32).toInt = (vy_5 : Int32).toInt + 1) ∨ ((x_25 &&& 15).toInt = 11 ∧ (sv_90 : Int32).toInt = (vy_5 : Int32).toInt) ∨ ((x_25 &&& 15).toInt ≠ 0 ∧ (x_25 &&& 15).toInt ≠ 1 ∧ (x_25 &&& 15).toInt ≠ 11 ∧ (sv_90 : Int32).toInt = (vy_5 : Int32).toInt - 1)) := by
                have z_1 := Int32.lt_iff_toInt_lt.mp (Int32.not_le.mp c_12)
                have z_2 : ¬ (x_29 : Int32).toInt = (0 : Int32).toInt := fun z => c_37 (Int32.toInt_inj.mp z)
                have z_3 : ¬ (x_29 : Int32).toInt = (1 : Int32).toInt := fun z => c_38 (Int32.toInt_inj.mp z)
                have z_4 := congrArg Int32.toInt c_39
                have y_0 : (0 : Int32).toInt = 0 := by decide
                have y_1 : (1 : Int32).toInt = 1 := by decide
                have y_11 : (11 : Int32).toInt = 11 := by decide
                omega
              have ha_97 : RK (Mf 2) x1 x_93 x3 sv_90 := RK.next pf_10 hl_27 h_tt.1 hj_26 ex_25 hi_95 hd_96
              exact ih_8 x_93 sv_90 sv_91 _ _ _ (by omega) ha_97 (hP.sub [2, 0, 3, 1] rfl) (hD.sub [2, 0, 3, 1] rfl rfl) hS (lv_sub hl [0, 3, 4, 5, 6] rfl)
          · skip
            refine lv_aload_n hx hb dX12_reckons_70 rfl (lv_at hl 3 rfl) ?_
            refine lv_aload_n hx hb dX12_reckons_71 rfl (lv_at hl 3 rfl) ?_
            refine gf_X12_36 hx hb hts hown hK hP 0 rfl rfl dX12_reckons_72 ?_
            refine lv_iload hx hb dX12_reckons_75 (lv_at hl 0 rfl) ?_
            have hi_98 : vp_in x_36 13 := by
              have z_1 := Int32.lt_iff_toInt_lt.mp (Int32.not_le.mp c_12)
              have z_2 : ¬ (x_29 : Int32).toInt = (0 : Int32).toInt := fun z => c_37 (Int32.toInt_inj.mp z)
              have z_3 := congrArg Int32.toInt c_38
              have y_0 : (0 : Int32).toInt = 0 := by decide
              have y_1 : (1 : Int32).toInt = 1 := by decide
              refine vp_in_iff.mpr ⟨?_, ?_⟩ <;> omega
            refine va_lald hx hb hK hP 3 1 rfl rfl hi_98 dX12_reckons_77 ?_
            refine lv_topl (fun x_99 ex_99 => ?_)
            have ha_100 : 0 ≤ vy_5.toInt ∧ vy_5.toInt < 64 := by
              have z_1 := Int32.lt_iff_toInt_lt.mp (Int32.not_le.mp c_12)
              have z_2 : ¬ (x_29 : Int32).toInt = (0 : Int32).toInt := fun z => c_37 (Int32.toInt_inj.mp z)
              have z_3 := congrArg Int32.toInt c_38
              have y_0 : (0 : Int32).toInt = 0 := by decide
              have y_1 : (1 : Int32).toInt = 1 := by decide
              omega
            refine cV (a := (Ma 0)) (As := [.long x_99]) (rest := []) (wr := [((Ma 2), .inl (tc 0, 2400, .inl (Mf 2))), ((Ma 9), .inl (tc 1, 13, .inr (.inl (Mg 9))))]) ⟨hx, hb, hml, hown, hts⟩ hK hX hA (cu_X12_push l D tc sk (Ma 0) (Ma 1) (Ma 2) (Ma 3) (Ma 4) (Ma 5) (Ma 6) (Ma 7) (Ma 8) (Ma 9) (Ma 10) (Ma 11) (Ma 12) (Ma 13) (Ma 14) (Ma 15) (Ma 16) (Ma 17) (Ma 18) (Ma 19) (Ma 20) (Mv 0) (Mv 1) (Mv 2) (Mv 3) (Mv 4) (Mv 5) (Mv 6) (Mv 7) (Mv 8) (Mv 9) vy_5 (Mv 11) (Mv 12) (Mv 13) (Mv 14) (Mj 0) vy_6 x_99 ha_100) k_1451 k_1448 k_1450 k_74 k_106 pl_X12_push ⟨Nat.le_of_ble_eq_true rfl, Nat.le_of_ble_eq_true rfl⟩ rfl rfl (va_recv hK hP (ci := 12) (q0 := 0) rfl rfl) hP hD hS [0, 2] [1, 3] rfl rfl rfl rfl rfl (by decide) rfl hl.1 rfl (Nat.le_of_ble_eq_true rfl) dX12_reckons_78 ⟨Nat.le_of_ble_eq_true rfl, Nat.le_of_ble_eq_true rfl⟩ (fun v_101 u_102 H locs hv_103 hP₀ hD₀ hS₀ => ?_)
            obtain ⟨sv_104, sv_105⟩ := u_102
            obtain ⟨rfl, pf_106⟩ := hv_103
            have pf_106 : (sv_104 : Int32).toInt = vy_5.toInt + 1 := pf_106
            refine W.eq (g2 := F0 m 81 ls []) rfl ?_
            replace hP : va_P D classes [((Ma 2), .inl (tc 0, 2400, .inl (Mf 2))), ((Ma 9), .inl (tc 1, 13, .inr (.inl (Mg 9)))), ((Ma 0), .inr (12, [.ref (Ma 1), .int (Mv 0), .int (Mv 1), .ref (Ma 2), .ref (Ma 3), .ref (Ma 4), .ref (Ma 5), .ref (Ma 6), .int (Mv 2), .int (Mv 3), .int (Mv 4), .int (Mv 5), .int (Mv 6), .int (Mv 7), .int (Mv 8), .ref (Ma 7), .int (Mv 9), .ref (Ma 8), .int sv_104, .ref (Ma 9), .ref (Ma 10), .int (Mv 11), .int (Mv 12), .int (Mv 13), .ref (Ma 11), .int (Mv 14), .ref (Ma 12), .ref (Ma 13), .ref (Ma 14), .ref (Ma 15), .ref (Ma 16), .long (Mj 0), .ref (Ma 17), .ref (Ma 18), .ref (Ma 19), .ref (Ma 20)])), ((Ma 8), .inl (tc 1, 64, .inr (.inl sv_105)))] H := hP₀
            replace hD : va_D A [((Ma 2), .inl (tc 0, 2400, .inl (Mf 2))), ((Ma 9), .inl (tc 1, 13, .inr (.inl (Mg 9)))), ((Ma 0), .inr (12, [.ref (Ma 1), .int (Mv 0), .int (Mv 1), .ref (Ma 2), .ref (Ma 3), .ref (Ma 4), .ref (Ma 5), .ref (Ma 6), .int (Mv 2), .int (Mv 3), .int (Mv 4), .int (Mv 5), .int (Mv 6), .int (Mv 7), .int (Mv 8), .ref (Ma 7), .int (Mv 9), .ref (Ma 8), .int sv_104, .ref (Ma 9), .ref (Ma 10), .int (Mv 11), .int (Mv 12), .int (Mv 13), .ref (Ma 11), .int (Mv 14), .ref (Ma 12), .ref (Ma 13), .ref (Ma 14), .ref (Ma 15), .ref (Ma 16), .long (Mj 0), .ref (Ma 17), .ref (Ma 18), .ref (Ma 19), .ref (Ma 20)])), ((Ma 8), .inl (tc 1, 64, .inr (.inl sv_105)))] := hD₀
            replace hS := hS₀
            clear hP₀ hD₀ hS₀
            refine lv_goto (tgt := 129) hx hb dX12_reckons_81 (by decide) ?_
            obtain ⟨x_107, ex_107⟩ : ∃ y : Int32, y = vy_4 + 1 := ⟨_, rfl⟩
            refine lv_iinc (v := x_107) (lv' := [(4, .int x_107), (6, .int x_36), (5, .int x_29), (0, .ref (Ma 0)), (1, .int x1), (2, .int x2), (3, .int x3)]) hx hb dX12_reckons_129 hl (k := 2) rfl (by rw [ex_107]; rfl) (by decide) rfl (fun ls hl₀ => ?_)
            replace hl := hl₀
            clear hl₀
            refine lv_goto (tgt := 8) hx hb dX12_reckons_132 (by decide) ?_
            have hb_108 : x3.toInt - (x_107 : Int32).toInt < x3.toInt - (vy_4 : Int32).toInt ∧ 1 ≤ x3.toInt - (vy_4 : Int32).toInt := by
              have z_1 := Int32.lt_iff_toInt_lt.mp (Int32.not_le.mp c_12)
              have z_2 : ¬ (x_29 : Int32).toInt = (0 : Int32).toInt := fun z => c_37 (Int32.toInt_inj.mp z)
              have z_3 := congrArg Int32.toInt c_38
              have y_0 : (0 : Int32).toInt = 0 := by decide
              have y_1 : (1 : Int32).toInt = 1 := by decide
              have t_x_107 : x_107.toInt = (vy_4 : Int32).toInt + (1 : Int32).toInt := by rw [ex_107]; exact add_toInt (by omega) (by omega)
              omega
            have hi_109 : (x_107 : Int32).toInt = (vy_4 : Int32).toInt + 1 := by
              have z_1 := Int32.lt_iff_toInt_lt.mp (Int32.not_le.mp c_12)
              have z_2 : ¬ (x_29 : Int32).toInt = (0 : Int32).toInt := fun z => c_37 (Int32.toInt_inj.mp z)
              have z_3 := congrArg Int32.toInt c_38
              have y_0 : (0 : Int32).toInt = 0 := by decide
              have y_1 : (1 : Int32).toInt = 1 := by decide
              have t_x_107 : x_107.toInt = (vy_4 : Int32).toInt + (1 : Int32).toInt := by rw [ex_107]; exact add_toInt (by omega) (by omega)
              omega
            have hd_110 : ((((x_25 &&& 15).toInt = 0 ∨ (x_25 &&& 15).toInt = 1) ∧ (sv_104 : Int32).toInt = (vy_5 : Int32).toInt + 1) ∨ ((x_25 &&& 15).toInt = 11 ∧ (sv_104 : Int32).toInt = (vy_5 : Int32).toInt) ∨ ((x_25 &&& 15).toInt ≠ 0 ∧ (x_25 &&& 15).toInt ≠ 1 ∧ (x_25 &&& 15).toInt ≠ 11 ∧ (sv_104 : Int32).toInt = (vy_5 : Int32).toInt - 1)) := by
              have z_1 := Int32.lt_iff_toInt_lt.mp (Int32.not_le.mp c_12)
              have z_2 : ¬ (x_29 : Int32).toInt = (0 : Int32).toInt := fun z => c_37 (Int32.toInt_inj.mp z)
              have z_3 := congrArg Int32.toInt c_38
              have y_0 : (0 : Int32).toInt = 0 := by decide
              have y_1 : (1 : Int32).toInt = 1 := by decide
              omega
            have ha_111 : RK (Mf 2) x1 x_107 x3 sv_104 := RK.next pf_10 hl_27 h_tt.1 hj_26 ex_25 hi_109 hd_110
            exact ih_8 x_107 sv_104 sv_105 _ _ _ (by omega) ha_111 (hP.sub [2, 0, 3, 1] rfl) (hD.sub [2, 0, 3, 1] rfl rfl) hS (lv_sub hl [0, 3, 4, 5, 6] rfl)
        · skip
          refine lv_aload_n hx hb dX12_reckons_54 rfl (lv_at hl 3 rfl) ?_
          refine lv_iload hx hb dX12_reckons_55 (lv_at hl 0 rfl) ?_
          refine lv_i2l (v := (x_36).toInt64) hx hb dX12_reckons_57 rfl ?_
          have ha_112 : 0 ≤ vy_5.toInt ∧ vy_5.toInt < 64 := by
            have z_1 := Int32.lt_iff_toInt_lt.mp (Int32.not_le.mp c_12)
            have z_2 := congrArg Int32.toInt c_37
            have y_0 : (0 : Int32).toInt = 0 := by decide
            omega
          refine cV (a := (Ma 0)) (As := [.long (x_36).toInt64]) (rest := []) (wr := [((Ma 2), .inl (tc 0, 2400, .inl (Mf 2))), ((Ma 9), .inl (tc 1, 13, .inr (.inl (Mg 9))))]) ⟨hx, hb, hml, hown, hts⟩ hK hX hA (cu_X12_push l D tc sk (Ma 0) (Ma 1) (Ma 2) (Ma 3) (Ma 4) (Ma 5) (Ma 6) (Ma 7) (Ma 8) (Ma 9) (Ma 10) (Ma 11) (Ma 12) (Ma 13) (Ma 14) (Ma 15) (Ma 16) (Ma 17) (Ma 18) (Ma 19) (Ma 20) (Mv 0) (Mv 1) (Mv 2) (Mv 3) (Mv 4) (Mv 5) (Mv 6) (Mv 7) (Mv 8) (Mv 9) vy_5 (Mv 11) (Mv 12) (Mv 13) (Mv 14) (Mj 0) vy_6 ((x_36).toInt64) ha_112) k_1451 k_1448 k_1450 k_74 k_106 pl_X12_push ⟨Nat.le_of_ble_eq_true rfl, Nat.le_of_ble_eq_true rfl⟩ rfl rfl (va_recv hK hP (ci := 12) (q0 := 0) rfl rfl) hP hD hS [0, 2] [1, 3] rfl rfl rfl rfl rfl (by decide) rfl hl.1 rfl (Nat.le_of_ble_eq_true rfl) dX12_reckons_58 ⟨Nat.le_of_ble_eq_true rfl, Nat.le_of_ble_eq_true rfl⟩ (fun v_113 u_114 H locs hv_115 hP₀ hD₀ hS₀ => ?_)
          obtain ⟨sv_116, sv_117⟩ := u_114
          obtain ⟨rfl, pf_118⟩ := hv_115
          have pf_118 : (sv_116 : Int32).toInt = vy_5.toInt + 1 := pf_118
          refine W.eq (g2 := F0 m 61 ls []) rfl ?_
          replace hP : va_P D classes [((Ma 2), .inl (tc 0, 2400, .inl (Mf 2))), ((Ma 9), .inl (tc 1, 13, .inr (.inl (Mg 9)))), ((Ma 0), .inr (12, [.ref (Ma 1), .int (Mv 0), .int (Mv 1), .ref (Ma 2), .ref (Ma 3), .ref (Ma 4), .ref (Ma 5), .ref (Ma 6), .int (Mv 2), .int (Mv 3), .int (Mv 4), .int (Mv 5), .int (Mv 6), .int (Mv 7), .int (Mv 8), .ref (Ma 7), .int (Mv 9), .ref (Ma 8), .int sv_116, .ref (Ma 9), .ref (Ma 10), .int (Mv 11), .int (Mv 12), .int (Mv 13), .ref (Ma 11), .int (Mv 14), .ref (Ma 12), .ref (Ma 13), .ref (Ma 14), .ref (Ma 15), .ref (Ma 16), .long (Mj 0), .ref (Ma 17), .ref (Ma 18), .ref (Ma 19), .ref (Ma 20)])), ((Ma 8), .inl (tc 1, 64, .inr (.inl sv_117)))] H := hP₀
          replace hD : va_D A [((Ma 2), .inl (tc 0, 2400, .inl (Mf 2))), ((Ma 9), .inl (tc 1, 13, .inr (.inl (Mg 9)))), ((Ma 0), .inr (12, [.ref (Ma 1), .int (Mv 0), .int (Mv 1), .ref (Ma 2), .ref (Ma 3), .ref (Ma 4), .ref (Ma 5), .ref (Ma 6), .int (Mv 2), .int (Mv 3), .int (Mv 4), .int (Mv 5), .int (Mv 6), .int (Mv 7), .int (Mv 8), .ref (Ma 7), .int (Mv 9), .ref (Ma 8), .int sv_116, .ref (Ma 9), .ref (Ma 10), .int (Mv 11), .int (Mv 12), .int (Mv 13), .ref (Ma 11), .int (Mv 14), .ref (Ma 12), .ref (Ma 13), .ref (Ma 14), .ref (Ma 15), .ref (Ma 16), .long (Mj 0), .ref (Ma 17), .ref (Ma 18), .ref (Ma 19), .ref (Ma 20)])), ((Ma 8), .inl (tc 1, 64, .inr (.inl sv_117)))] := hD₀
          replace hS := hS₀
          clear hP₀ hD₀ hS₀
          refine lv_goto (tgt := 129) hx hb dX12_reckons_61 (by decide) ?_
          obtain ⟨x_119, ex_119⟩ : ∃ y : Int32, y = vy_4 + 1 := ⟨_, rfl⟩
          refine lv_iinc (v := x_119) (lv' := [(4, .int x_119), (6, .int x_36), (5, .int x_29), (0, .ref (Ma 0)), (1, .int x1), (2, .int x2), (3, .int x3)]) hx hb dX12_reckons_129 hl (k := 2) rfl (by rw [ex_119]; rfl) (by decide) rfl (fun ls hl₀ => ?_)
          replace hl := hl₀
          clear hl₀
          refine lv_goto (tgt := 8) hx hb dX12_reckons_132 (by decide) ?_
          have hb_120 : x3.toInt - (x_119 : Int32).toInt < x3.toInt - (vy_4 : Int32).toInt ∧ 1 ≤ x3.toInt - (vy_4 : Int32).toInt := by
            have z_1 := Int32.lt_iff_toInt_lt.mp (Int32.not_le.mp c_12)
            have z_2 := congrArg Int32.toInt c_37
            have y_0 : (0 : Int32).toInt = 0 := by decide
            have y_1 : (1 : Int32).toInt = 1 := by decide
            have t_x_119 : x_119.toInt = (vy_4 : Int32).toInt + (1 : Int32).toInt := by rw [ex_119]; exact add_toInt (by omega) (by omega)
            omega
          have hi_121 : (x_119 : Int32).toInt = (vy_4 : Int32).toInt + 1 := by
            have z_1 := Int32.lt_iff_toInt_lt.mp (Int32.not_le.mp c_12)
            have z_2 := congrArg Int32.toInt c_37
            have y_0 : (0 : Int32).toInt = 0 := by decide
            have y_1 : (1 : Int32).toInt = 1 := by decide
            have t_x_119 : x_119.toInt = (vy_4 : Int32).toInt + (1 : Int32).toInt := by rw [ex_119]; exact add_toInt (by omega) (by omega)
            omega
          have hd_122 : ((((x_25 &&& 15).toInt = 0 ∨ (x_25 &&& 15).toInt = 1) ∧ (sv_116 : Int32).toInt = (vy_5 : Int32).toInt + 1) ∨ ((x_25 &&& 15).toInt = 11 ∧ (sv_116 : Int32).toInt = (vy_5 : Int32).toInt) ∨ ((x_25 &&& 15).toInt ≠ 0 ∧ (x_25 &&& 15).toInt ≠ 1 ∧ (x_25 &&& 15).toInt ≠ 11 ∧ (sv_116 : Int32).toInt = (vy_5 : Int32).toInt - 1)) := by
            have z_1 := Int32.lt_iff_toInt_lt.mp (Int32.not_le.mp c_12)
            have z_2 := congrArg Int32.toInt c_37
            have y_0 : (0 : Int32).toInt = 0 := by decide
            omega
          have ha_123 : RK (Mf 2) x1 x_119 x3 sv_116 := RK.next pf_10 hl_27 h_tt.1 hj_26 ex_25 hi_121 hd_122
          exact ih_8 x_119 sv_116 sv_117 _ _ _ (by omega) ha_123 (hP.sub [2, 0, 3, 1] rfl) (hD.sub [2, 0, 3, 1] rfl rfl) hS (lv_sub hl [0, 3, 4, 5, 6] rfl)
  have hz_125 : (0 : Int32).toInt = 0 := by decide
  have ha_124 : RK (Mf 2) x1 x2 x3 0 := RK.start h_w hz_125
  exact loop_9 _ x2 0 (Mg 8) _ _ _ (Nat.lt_succ_self _) ha_124 hP hD hS hl
set_option maxRecDepth 100000 in
theorem cu_X12_reckons (l : Launch) (D : va_G) (tc : Nat → ClassId) (sk : (Nat → Nat) × (Nat → Nat)) (Ma_0 : Nat) (Ma_1 : Nat) (Ma_2 : Nat) (Ma_3 : Nat) (Ma_4 : Nat) (Ma_5 : Nat) (Ma_6 : Nat) (Ma_7 : Nat) (Ma_8 : Nat) (Ma_9 : Nat) (Ma_10 : Nat) (Ma_11 : Nat) (Ma_12 : Nat) (Ma_13 : Nat) (Ma_14 : Nat) (Ma_15 : Nat) (Ma_16 : Nat) (Ma_17 : Nat) (Ma_18 : Nat) (Ma_19 : Nat) (Ma_20 : Nat) (Mv_0 : Int32) (Mv_1 : Int32) (Mv_2 : Int32) (Mv_3 : Int32) (Mv_4 : Int32) (Mv_5 : Int32) (Mv_6 : Int32) (Mv_7 : Int32) (Mv_8 : Int32) (Mv_9 : Int32) (Mv_10 : Int32) (Mv_11 : Int32) (Mv_12 : Int32) (Mv_13 : Int32) (Mv_14 : Int32) (Mf_2 : Nat → Int32) (Mj_0 : Int64) (Mg_8 : Nat → Int64) (Mg_9 : Nat → Int64) (x1 : Int32) (x2 : Int32) (x3 : Int32) (h_w : WFc Mf_2 x1 x2 x3) (h_tt : 0 ≤ x1.toInt ∧ x1.toInt < 6) : Ct l yX12_reckons cX12_reckons 11 (some .long) { frames := 1, cells := 0, slots := 0, locals := 24 } D tc sk [.ref Ma_0, .int x1, .int x2, .int x3] [(Ma_0, .inr (12, [.ref Ma_1, .int Mv_0, .int Mv_1, .ref Ma_2, .ref Ma_3, .ref Ma_4, .ref Ma_5, .ref Ma_6, .int Mv_2, .int Mv_3, .int Mv_4, .int Mv_5, .int Mv_6, .int Mv_7, .int Mv_8, .ref Ma_7, .int Mv_9, .ref Ma_8, .int Mv_10, .ref Ma_9, .ref Ma_10, .int Mv_11, .int Mv_12, .int Mv_13, .ref Ma_11, .int Mv_14, .ref Ma_12, .ref Ma_13, .ref Ma_14, .ref Ma_15, .ref Ma_16, .long Mj_0, .ref Ma_17, .ref Ma_18, .ref Ma_19, .ref Ma_20])), (Ma_2, .inl (tc 0, 2400, .inl Mf_2)), (Ma_8, .inl (tc 1, 64, .inr (.inl Mg_8))), (Ma_9, .inl (tc 1, 13, .inr (.inl Mg_9)))] (fun (v : Option Value) (u : (Int32) × (Nat → Int64)) => match u with | (oo0x1, oo0x2) => ∃ r : Int64, v = some (.long r) ∧ (True)) (fun (u : (Int32) × (Nat → Int64)) => match u with | (oo0x1, oo0x2) => [(Ma_0, .inr (12, [.ref Ma_1, .int Mv_0, .int Mv_1, .ref Ma_2, .ref Ma_3, .ref Ma_4, .ref Ma_5, .ref Ma_6, .int Mv_2, .int Mv_3, .int Mv_4, .int Mv_5, .int Mv_6, .int Mv_7, .int Mv_8, .ref Ma_7, .int Mv_9, .ref Ma_8, .int oo0x1, .ref Ma_9, .ref Ma_10, .int Mv_11, .int Mv_12, .int Mv_13, .ref Ma_11, .int Mv_14, .ref Ma_12, .ref Ma_13, .ref Ma_14, .ref Ma_15, .ref Ma_16, .long Mj_0, .ref Ma_17, .ref Ma_18, .ref Ma_19, .ref Ma_20])), (Ma_2, .inl (tc 0, 2400, .inl Mf_2)), (Ma_8, .inl (tc 1, 64, .inr (.inl oo0x2))), (Ma_9, .inl (tc 1, 13, .inr (.inl Mg_9)))]) 0 0 :=
  ct_X12_reckons l D tc sk (fun k => ([Ma_0, Ma_1, Ma_2, Ma_3, Ma_4, Ma_5, Ma_6, Ma_7, Ma_8, Ma_9, Ma_10, Ma_11, Ma_12, Ma_13, Ma_14, Ma_15, Ma_16, Ma_17, Ma_18, Ma_19, Ma_20] : List (Nat)).getD k 0) (fun k => ([Mv_0, Mv_1, Mv_2, Mv_3, Mv_4, Mv_5, Mv_6, Mv_7, Mv_8, Mv_9, Mv_10, Mv_11, Mv_12, Mv_13, Mv_14] : List (Int32)).getD k 0) (fun k => ([(fun _ => 0), (fun _ => 0), Mf_2] : List (Nat → Int32)).getD k (fun _ => 0)) (fun k => ([Mj_0] : List (Int64)).getD k 0) (fun k => ([(fun _ => 0), (fun _ => 0), (fun _ => 0), (fun _ => 0), (fun _ => 0), (fun _ => 0), (fun _ => 0), (fun _ => 0), Mg_8, Mg_9] : List (Nat → Int64)).getD k (fun _ => 0)) x1 x2 x3 h_w h_tt
set_option maxHeartbeats 4000000 in
set_option maxRecDepth 100000 in
theorem ct_X12_summedBy (l : Launch) (D : va_G) (tc : Nat → ClassId) (sk : (Nat → Nat) × (Nat → Nat)) (Ma : Nat → Nat) (Mv : Nat → Int32) (Mf : Nat → Nat → Int32) (Mj : Nat → Int64) (Mg : Nat → Nat → Int64) (x1 : Int32) (h_rul : RulD (Mf 2) (Mf 4) (Mf 5) (Mv 1)) (h_t : 0 ≤ x1.toInt ∧ x1.toInt < (Mv 1).toInt) (h_r6 : (Mv 1).toInt ≤ 6) : Ct l yX12_summedBy cX12_summedBy 4 (some .long) { frames := 2, cells := 0, slots := 0, locals := 54 } D tc sk [.ref (Ma 0), .int x1] [((Ma 0), .inr (12, [.ref (Ma 1), .int (Mv 0), .int (Mv 1), .ref (Ma 2), .ref (Ma 3), .ref (Ma 4), .ref (Ma 5), .ref (Ma 6), .int (Mv 2), .int (Mv 3), .int (Mv 4), .int (Mv 5), .int (Mv 6), .int (Mv 7), .int (Mv 8), .ref (Ma 7), .int (Mv 9), .ref (Ma 8), .int (Mv 10), .ref (Ma 9), .ref (Ma 10), .int (Mv 11), .int (Mv 12), .int (Mv 13), .ref (Ma 11), .int (Mv 14), .ref (Ma 12), .ref (Ma 13), .ref (Ma 14), .ref (Ma 15), .ref (Ma 16), .long (Mj 0), .ref (Ma 17), .ref (Ma 18), .ref (Ma 19), .ref (Ma 20)])), ((Ma 2), .inl (tc 0, 2400, .inl (Mf 2))), ((Ma 4), .inl (tc 0, 288, .inl (Mf 4))), ((Ma 5), .inl (tc 0, 6, .inl (Mf 5))), ((Ma 8), .inl (tc 1, 64, .inr (.inl (Mg 8)))), ((Ma 9), .inl (tc 1, 13, .inr (.inl (Mg 9))))] (fun (v : Option Value) (u : (Int32) × (Nat → Int64)) => match u with | (oo0x1, oo0x2) => ∃ r : Int64, v = some (.long r) ∧ (True)) (fun (u : (Int32) × (Nat → Int64)) => match u with | (oo0x1, oo0x2) => [((Ma 0), .inr (12, [.ref (Ma 1), .int (Mv 0), .int (Mv 1), .ref (Ma 2), .ref (Ma 3), .ref (Ma 4), .ref (Ma 5), .ref (Ma 6), .int (Mv 2), .int (Mv 3), .int (Mv 4), .int (Mv 5), .int (Mv 6), .int (Mv 7), .int (Mv 8), .ref (Ma 7), .int (Mv 9), .ref (Ma 8), .int oo0x1, .ref (Ma 9), .ref (Ma 10), .int (Mv 11), .int (Mv 12), .int (Mv 13), .ref (Ma 11), .int (Mv 14), .ref (Ma 12), .ref (Ma 13), .ref (Ma 14), .ref (Ma 15), .ref (Ma 16), .long (Mj 0), .ref (Ma 17), .ref (Ma 18), .ref (Ma 19), .ref (Ma 20)])), ((Ma 2), .inl (tc 0, 2400, .inl (Mf 2))), ((Ma 4), .inl (tc 0, 288, .inl (Mf 4))), ((Ma 5), .inl (tc 0, 6, .inl (Mf 5))), ((Ma 8), .inl (tc 1, 64, .inr (.inl oo0x2))), ((Ma 9), .inl (tc 1, 13, .inr (.inl (Mg 9))))]) 0 0 := by
  refine Ct.start (by decide) (Nat.le_of_ble_eq_true rfl) (fun p e s m below meth c A ls hx hb hr hlk hin hml hown hts hK hX hP hD hA hl hS => ?_)
  have hl : lv_has ls 4 [(0, .ref (Ma 0)), (1, .int x1)] := hl
  refine lv_iconst (v := 0) hx hb dX12_summedBy_0 (by decide) ?_
  refine lv_istore_n (lv' := [(2, .int 0), (0, .ref (Ma 0)), (1, .int x1)]) hx hb dX12_summedBy_1 rfl hl (by decide) rfl (fun ls hl₀ => ?_)
  replace hl := hl₀
  clear hl₀
  have loop_9 : ∀ (n_7 : Nat) (vy_4 : Int32) (vy_5 : Int32) (vy_6 : Nat → Int64) (H : Heap) (locs : List Loc) (ls : Array Slot), (12 - (vy_4 : Int32).toInt).toNat < n_7 → (0 ≤ (vy_4 : Int32).toInt) → va_P D classes [((Ma 0), .inr (12, [.ref (Ma 1), .int (Mv 0), .int (Mv 1), .ref (Ma 2), .ref (Ma 3), .ref (Ma 4), .ref (Ma 5), .ref (Ma 6), .int (Mv 2), .int (Mv 3), .int (Mv 4), .int (Mv 5), .int (Mv 6), .int (Mv 7), .int (Mv 8), .ref (Ma 7), .int (Mv 9), .ref (Ma 8), .int vy_5, .ref (Ma 9), .ref (Ma 10), .int (Mv 11), .int (Mv 12), .int (Mv 13), .ref (Ma 11), .int (Mv 14), .ref (Ma 12), .ref (Ma 13), .ref (Ma 14), .ref (Ma 15), .ref (Ma 16), .long (Mj 0), .ref (Ma 17), .ref (Ma 18), .ref (Ma 19), .ref (Ma 20)])), ((Ma 2), .inl (tc 0, 2400, .inl (Mf 2))), ((Ma 4), .inl (tc 0, 288, .inl (Mf 4))), ((Ma 5), .inl (tc 0, 6, .inl (Mf 5))), ((Ma 8), .inl (tc 1, 64, .inr (.inl vy_6))), ((Ma 9), .inl (tc 1, 13, .inr (.inl (Mg 9))))] H → va_D A [((Ma 0), .inr (12, [.ref (Ma 1), .int (Mv 0), .int (Mv 1), .ref (Ma 2), .ref (Ma 3), .ref (Ma 4), .ref (Ma 5), .ref (Ma 6), .int (Mv 2), .int (Mv 3), .int (Mv 4), .int (Mv 5), .int (Mv 6), .int (Mv 7), .int (Mv 8), .ref (Ma 7), .int (Mv 9), .ref (Ma 8), .int vy_5, .ref (Ma 9), .ref (Ma 10), .int (Mv 11), .int (Mv 12), .int (Mv 13), .ref (Ma 11), .int (Mv 14), .ref (Ma 12), .ref (Ma 13), .ref (Ma 14), .ref (Ma 15), .ref (Ma 16), .long (Mj 0), .ref (Ma 17), .ref (Ma 18), .ref (Ma 19), .ref (Ma 20)])), ((Ma 2), .inl (tc 0, 2400, .inl (Mf 2))), ((Ma 4), .inl (tc 0, 288, .inl (Mf 4))), ((Ma 5), .inl (tc 0, 6, .inl (Mf 5))), ((Ma 8), .inl (tc 1, 64, .inr (.inl vy_6))), ((Ma 9), .inl (tc 1, 13, .inr (.inl (Mg 9))))] → va_S A s.heap H locs → lv_has ls 4 [(2, .int vy_4), (0, .ref (Ma 0)), (1, .int x1)] → W p l e ({ frames := 2, cells := 0, slots := 0, locals := 54 }) s m ([.ref (Ma 0), .int x1].toArray) below meth c H locs 0 0 (MQ below (QW (fun (v : Option Value) (u : (Int32) × (Nat → Int64)) => match u with | (oo0x1, oo0x2) => ∃ r : Int64, v = some (.long r) ∧ (True)) (BW D (fun (u : (Int32) × (Nat → Int64)) => match u with | (oo0x1, oo0x2) => [((Ma 0), .inr (12, [.ref (Ma 1), .int (Mv 0), .int (Mv 1), .ref (Ma 2), .ref (Ma 3), .ref (Ma 4), .ref (Ma 5), .ref (Ma 6), .int (Mv 2), .int (Mv 3), .int (Mv 4), .int (Mv 5), .int (Mv 6), .int (Mv 7), .int (Mv 8), .ref (Ma 7), .int (Mv 9), .ref (Ma 8), .int oo0x1, .ref (Ma 9), .ref (Ma 10), .int (Mv 11), .int (Mv 12), .int (Mv 13), .ref (Ma 11), .int (Mv 14), .ref (Ma 12), .ref (Ma 13), .ref (Ma 14), .ref (Ma 15), .ref (Ma 16), .long (Mj 0), .ref (Ma 17), .ref (Ma 18), .ref (Ma 19), .ref (Ma 20)])), ((Ma 2), .inl (tc 0, 2400, .inl (Mf 2))), ((Ma 4), .inl (tc 0, 288, .inl (Mf 4))), ((Ma 5), .inl (tc 0, 6, .inl (Mf 5))), ((Ma 8), .inl (tc 1, 64, .inr (.inl oo0x2))), ((Ma 9), .inl (tc 1, 13, .inr (.inl (Mg 9))))]) A) A) ([.ref (Ma 0), .int x1].toArray) s 0 0 A) (F0 m 2 ls []) := by
    clear hP hD hS hl
    intro n_7
    induction n_7 with
    | zero =>
      intro vy_4 vy_5 vy_6 H locs ls h1
      exact absurd h1 (Nat.not_lt_zero _)
    | succ n_7 ih_8 =>
      intro vy_4 vy_5 vy_6 H locs ls hn_11 pf_10 hP hD hS hl
      refine lv_iload_n hx hb dX12_summedBy_2 rfl (lv_at hl 0 rfl) ?_
      refine lv_aload_n hx hb dX12_summedBy_3 rfl (lv_at hl 1 rfl) ?_
      refine gf_X12_23 hx hb hts hown hK hP 0 rfl rfl dX12_summedBy_4 ?_
      refine lv_iload_n hx hb dX12_summedBy_7 rfl (lv_at hl 2 rfl) ?_
      have hi_12 : vp_in x1 6 := by
        refine vp_in_iff.mpr ⟨?_, ?_⟩ <;> omega
      refine va_iald hx hb hK hP 3 0 rfl rfl hi_12 dX12_summedBy_8 ?_
      refine lv_topi (fun x_13 ex_13 => ?_)
      have lcx_13 := RulD.le h_rul h_t ex_13
      refine lv_icmp_ge (tgt := 84) hx hb dX12_summedBy_9 (by decide) (fun c_14 => ?_) (fun c_14 => ?_)
      · skip
        refine lv_lconst (v := 0) hx hb dX12_summedBy_84 (by decide) ?_
        exact retL (v := 0) hx hb hr hlk hP hD hS (vy_5, vy_6) ⟨_, rfl, trivial⟩ [0, 1, 2, 3, 4, 5] rfl rfl dX12_summedBy_85 (Nat.le_of_ble_eq_true rfl) (Nat.le_of_ble_eq_true rfl) rfl
      · skip
        refine lv_bipush (v := 48) hx hb dX12_summedBy_12 (by decide) ?_
        refine lv_iload_n hx hb dX12_summedBy_14 rfl (lv_at hl 2 rfl) ?_
        refine lv_imul hx hb dX12_summedBy_15 ?_
        refine lv_topi (fun x_15 ex_15 => ?_)
        refine lv_iconst (v := 4) hx hb dX12_summedBy_16 (by decide) ?_
        refine lv_iload_n hx hb dX12_summedBy_17 rfl (lv_at hl 0 rfl) ?_
        refine lv_imul hx hb dX12_summedBy_18 ?_
        refine lv_topi (fun x_16 ex_16 => ?_)
        refine lv_iadd hx hb dX12_summedBy_19 ?_
        refine lv_topi (fun x_17 ex_17 => ?_)
        refine lv_istore_n (lv' := [(3, .int x_17), (2, .int vy_4), (0, .ref (Ma 0)), (1, .int x1)]) hx hb dX12_summedBy_20 rfl hl (by decide) rfl (fun ls hl₀ => ?_)
        replace hl := hl₀
        clear hl₀
        refine lv_aload_n hx hb dX12_summedBy_21 rfl (lv_at hl 2 rfl) ?_
        refine gf_X12_20 hx hb hts hown hK hP 0 rfl rfl dX12_summedBy_22 ?_
        refine lv_iload_n hx hb dX12_summedBy_25 rfl (lv_at hl 0 rfl) ?_
        refine lv_iconst (v := 2) hx hb dX12_summedBy_26 (by decide) ?_
        refine lv_iadd hx hb dX12_summedBy_27 ?_
        refine lv_topi (fun x_18 ex_18 => ?_)
        have hi_19 : vp_in x_18 288 := by
          have z_1 := Int32.lt_iff_toInt_lt.mp (Int32.not_le.mp c_14)
          have y_2 : (2 : Int32).toInt = 2 := by decide
          have y_4 : (4 : Int32).toInt = 4 := by decide
          have y_48 : (48 : Int32).toInt = 48 := by decide
          have t_x_15 : x_15.toInt = (48 : Int32).toInt * (x1 : Int32).toInt := by rw [ex_15]; exact mul_toInt (by first | omega | (rw [y_48]; omega)) (by first | omega | (rw [y_48]; omega))
          rw [y_48] at t_x_15
          have t_x_16 : x_16.toInt = (4 : Int32).toInt * (vy_4 : Int32).toInt := by rw [ex_16]; exact mul_toInt (by first | omega | (rw [y_4]; omega)) (by first | omega | (rw [y_4]; omega))
          rw [y_4] at t_x_16
          have t_x_17 : x_17.toInt = (x_15 : Int32).toInt + (x_16 : Int32).toInt := by rw [ex_17]; exact add_toInt (by omega) (by omega)
          have t_x_18 : x_18.toInt = (x_17 : Int32).toInt + (2 : Int32).toInt := by rw [ex_18]; exact add_toInt (by omega) (by omega)
          refine vp_in_iff.mpr ⟨?_, ?_⟩ <;> omega
        refine va_iald hx hb hK hP 2 0 rfl rfl hi_19 dX12_summedBy_28 ?_
        refine lv_topi (fun x_20 ex_20 => ?_)
        refine lv_if_lt (tgt := 58) hx hb dX12_summedBy_29 (by decide) (fun c_21 => ?_) (fun c_21 => ?_)
        · skip
          refine lv_aload_n hx hb dX12_summedBy_58 rfl (lv_at hl 2 rfl) ?_
          refine lv_iload_n hx hb dX12_summedBy_59 rfl (lv_at hl 3 rfl) ?_
          refine lv_aload_n hx hb dX12_summedBy_60 rfl (lv_at hl 2 rfl) ?_
          refine gf_X12_20 hx hb hts hown hK hP 0 rfl rfl dX12_summedBy_61 ?_
          refine lv_iload_n hx hb dX12_summedBy_64 rfl (lv_at hl 0 rfl) ?_
          have hi_22 : vp_in x_17 288 := by
            have z_1 := Int32.lt_iff_toInt_lt.mp (Int32.not_le.mp c_14)
            have z_2 := Int32.lt_iff_toInt_lt.mp c_21
            have y_0 : (0 : Int32).toInt = 0 := by decide
            have y_4 : (4 : Int32).toInt = 4 := by decide
            have y_48 : (48 : Int32).toInt = 48 := by decide
            have t_x_15 : x_15.toInt = (48 : Int32).toInt * (x1 : Int32).toInt := by rw [ex_15]; exact mul_toInt (by first | omega | (rw [y_48]; omega)) (by first | omega | (rw [y_48]; omega))
            rw [y_48] at t_x_15
            have t_x_16 : x_16.toInt = (4 : Int32).toInt * (vy_4 : Int32).toInt := by rw [ex_16]; exact mul_toInt (by first | omega | (rw [y_4]; omega)) (by first | omega | (rw [y_4]; omega))
            rw [y_4] at t_x_16
            have t_x_17 : x_17.toInt = (x_15 : Int32).toInt + (x_16 : Int32).toInt := by rw [ex_17]; exact add_toInt (by omega) (by omega)
            refine vp_in_iff.mpr ⟨?_, ?_⟩ <;> omega
          refine va_iald hx hb hK hP 2 0 rfl rfl hi_22 dX12_summedBy_65 ?_
          refine lv_topi (fun x_23 ex_23 => ?_)
          refine lv_aload_n hx hb dX12_summedBy_66 rfl (lv_at hl 2 rfl) ?_
          refine gf_X12_20 hx hb hts hown hK hP 0 rfl rfl dX12_summedBy_67 ?_
          refine lv_iload_n hx hb dX12_summedBy_70 rfl (lv_at hl 0 rfl) ?_
          refine lv_iconst (v := 1) hx hb dX12_summedBy_71 (by decide) ?_
          refine lv_iadd hx hb dX12_summedBy_72 ?_
          refine lv_topi (fun x_24 ex_24 => ?_)
          have hi_25 : vp_in x_24 288 := by
            have z_1 := Int32.lt_iff_toInt_lt.mp (Int32.not_le.mp c_14)
            have z_2 := Int32.lt_iff_toInt_lt.mp c_21
            have y_0 : (0 : Int32).toInt = 0 := by decide
            have y_1 : (1 : Int32).toInt = 1 := by decide
            have y_4 : (4 : Int32).toInt = 4 := by decide
            have y_48 : (48 : Int32).toInt = 48 := by decide
            have t_x_15 : x_15.toInt = (48 : Int32).toInt * (x1 : Int32).toInt := by rw [ex_15]; exact mul_toInt (by first | omega | (rw [y_48]; omega)) (by first | omega | (rw [y_48]; omega))
            rw [y_48] at t_x_15
            have t_x_16 : x_16.toInt = (4 : Int32).toInt * (vy_4 : Int32).toInt := by rw [ex_16]; exact mul_toInt (by first | omega | (rw [y_4]; omega)) (by first | omega | (rw [y_4]; omega))
            rw [y_4] at t_x_16
            have t_x_17 : x_17.toInt = (x_15 : Int32).toInt + (x_16 : Int32).toInt := by rw [ex_17]; exact add_toInt (by omega) (by omega)
            have t_x_24 : x_24.toInt = (x_17 : Int32).toInt + (1 : Int32).toInt := by rw [ex_24]; exact add_toInt (by omega) (by omega)
            refine vp_in_iff.mpr ⟨?_, ?_⟩ <;> omega
          refine va_iald hx hb hK hP 2 0 rfl rfl hi_25 dX12_summedBy_73 ?_
          refine lv_topi (fun x_26 ex_26 => ?_)
          have hc_27 : 0 ≤ (vy_4 : Int32).toInt ∧ (vy_4 : Int32).toInt < (x_13 : Int32).toInt := by
            have z_1 := Int32.lt_iff_toInt_lt.mp (Int32.not_le.mp c_14)
            have z_2 := Int32.lt_iff_toInt_lt.mp c_21
            have y_0 : (0 : Int32).toInt = 0 := by decide
            omega
          have hi_28 : (x_17 : Int32).toInt = 48 * x1.toInt + 4 * (vy_4 : Int32).toInt := by
            have z_1 := Int32.lt_iff_toInt_lt.mp (Int32.not_le.mp c_14)
            have z_2 := Int32.lt_iff_toInt_lt.mp c_21
            have y_0 : (0 : Int32).toInt = 0 := by decide
            have y_4 : (4 : Int32).toInt = 4 := by decide
            have y_48 : (48 : Int32).toInt = 48 := by decide
            have t_x_15 : x_15.toInt = (48 : Int32).toInt * (x1 : Int32).toInt := by rw [ex_15]; exact mul_toInt (by first | omega | (rw [y_48]; omega)) (by first | omega | (rw [y_48]; omega))
            rw [y_48] at t_x_15
            have t_x_16 : x_16.toInt = (4 : Int32).toInt * (vy_4 : Int32).toInt := by rw [ex_16]; exact mul_toInt (by first | omega | (rw [y_4]; omega)) (by first | omega | (rw [y_4]; omega))
            rw [y_4] at t_x_16
            have t_x_17 : x_17.toInt = (x_15 : Int32).toInt + (x_16 : Int32).toInt := by rw [ex_17]; exact add_toInt (by omega) (by omega)
            omega
          have hi_29 : (x_24 : Int32).toInt = 48 * x1.toInt + 4 * (vy_4 : Int32).toInt + 1 := by
            have z_1 := Int32.lt_iff_toInt_lt.mp (Int32.not_le.mp c_14)
            have z_2 := Int32.lt_iff_toInt_lt.mp c_21
            have y_0 : (0 : Int32).toInt = 0 := by decide
            have y_1 : (1 : Int32).toInt = 1 := by decide
            have y_4 : (4 : Int32).toInt = 4 := by decide
            have y_48 : (48 : Int32).toInt = 48 := by decide
            have t_x_15 : x_15.toInt = (48 : Int32).toInt * (x1 : Int32).toInt := by rw [ex_15]; exact mul_toInt (by first | omega | (rw [y_48]; omega)) (by first | omega | (rw [y_48]; omega))
            rw [y_48] at t_x_15
            have t_x_16 : x_16.toInt = (4 : Int32).toInt * (vy_4 : Int32).toInt := by rw [ex_16]; exact mul_toInt (by first | omega | (rw [y_4]; omega)) (by first | omega | (rw [y_4]; omega))
            rw [y_4] at t_x_16
            have t_x_17 : x_17.toInt = (x_15 : Int32).toInt + (x_16 : Int32).toInt := by rw [ex_17]; exact add_toInt (by omega) (by omega)
            have t_x_24 : x_24.toInt = (x_17 : Int32).toInt + (1 : Int32).toInt := by rw [ex_24]; exact add_toInt (by omega) (by omega)
            omega
          have ha_30 : 0 ≤ x1.toInt ∧ x1.toInt < 6 := by
            have z_1 := Int32.lt_iff_toInt_lt.mp (Int32.not_le.mp c_14)
            have z_2 := Int32.lt_iff_toInt_lt.mp c_21
            have y_0 : (0 : Int32).toInt = 0 := by decide
            omega
          refine cV (a := (Ma 0)) (As := [.int x1, .int x_23, .int x_26]) (rest := []) (wr := [((Ma 4), .inl (tc 0, 288, .inl (Mf 4))), ((Ma 5), .inl (tc 0, 6, .inl (Mf 5)))]) ⟨hx, hb, hml, hown, hts⟩ hK hX hA (cu_X12_reckons l D tc sk (Ma 0) (Ma 1) (Ma 2) (Ma 3) (Ma 4) (Ma 5) (Ma 6) (Ma 7) (Ma 8) (Ma 9) (Ma 10) (Ma 11) (Ma 12) (Ma 13) (Ma 14) (Ma 15) (Ma 16) (Ma 17) (Ma 18) (Ma 19) (Ma 20) (Mv 0) (Mv 1) (Mv 2) (Mv 3) (Mv 4) (Mv 5) (Mv 6) (Mv 7) (Mv 8) (Mv 9) vy_5 (Mv 11) (Mv 12) (Mv 13) (Mv 14) (Mf 2) (Mj 0) vy_6 (Mg 9) x1 x_23 x_26 (RulD.w h_rul h_t ex_13 hc_27 hi_28 hi_29 ex_23 ex_26) ha_30) k_1447 k_1444 k_1446 k_73 k_106 pl_X12_reckons ⟨Nat.le_of_ble_eq_true rfl, Nat.le_of_ble_eq_true rfl⟩ rfl rfl (va_recv hK hP (ci := 12) (q0 := 0) rfl rfl) hP hD hS [0, 1, 4, 5] [2, 3] rfl rfl rfl rfl rfl (by decide) rfl hl.1 rfl (Nat.le_of_ble_eq_true rfl) dX12_summedBy_74 ⟨Nat.le_of_ble_eq_true rfl, Nat.le_of_ble_eq_true rfl⟩ (fun v_31 u_32 H locs hv_33 hP₀ hD₀ hS₀ => ?_)
          obtain ⟨sv_34, sv_35⟩ := u_32
          obtain ⟨r_36, rfl, he_37⟩ := hv_33
          refine W.eq (g2 := F0 m 77 ls [.long r_36]) rfl ?_
          replace hP : va_P D classes [((Ma 4), .inl (tc 0, 288, .inl (Mf 4))), ((Ma 5), .inl (tc 0, 6, .inl (Mf 5))), ((Ma 0), .inr (12, [.ref (Ma 1), .int (Mv 0), .int (Mv 1), .ref (Ma 2), .ref (Ma 3), .ref (Ma 4), .ref (Ma 5), .ref (Ma 6), .int (Mv 2), .int (Mv 3), .int (Mv 4), .int (Mv 5), .int (Mv 6), .int (Mv 7), .int (Mv 8), .ref (Ma 7), .int (Mv 9), .ref (Ma 8), .int sv_34, .ref (Ma 9), .ref (Ma 10), .int (Mv 11), .int (Mv 12), .int (Mv 13), .ref (Ma 11), .int (Mv 14), .ref (Ma 12), .ref (Ma 13), .ref (Ma 14), .ref (Ma 15), .ref (Ma 16), .long (Mj 0), .ref (Ma 17), .ref (Ma 18), .ref (Ma 19), .ref (Ma 20)])), ((Ma 2), .inl (tc 0, 2400, .inl (Mf 2))), ((Ma 8), .inl (tc 1, 64, .inr (.inl sv_35))), ((Ma 9), .inl (tc 1, 13, .inr (.inl (Mg 9))))] H := hP₀
          replace hD : va_D A [((Ma 4), .inl (tc 0, 288, .inl (Mf 4))), ((Ma 5), .inl (tc 0, 6, .inl (Mf 5))), ((Ma 0), .inr (12, [.ref (Ma 1), .int (Mv 0), .int (Mv 1), .ref (Ma 2), .ref (Ma 3), .ref (Ma 4), .ref (Ma 5), .ref (Ma 6), .int (Mv 2), .int (Mv 3), .int (Mv 4), .int (Mv 5), .int (Mv 6), .int (Mv 7), .int (Mv 8), .ref (Ma 7), .int (Mv 9), .ref (Ma 8), .int sv_34, .ref (Ma 9), .ref (Ma 10), .int (Mv 11), .int (Mv 12), .int (Mv 13), .ref (Ma 11), .int (Mv 14), .ref (Ma 12), .ref (Ma 13), .ref (Ma 14), .ref (Ma 15), .ref (Ma 16), .long (Mj 0), .ref (Ma 17), .ref (Ma 18), .ref (Ma 19), .ref (Ma 20)])), ((Ma 2), .inl (tc 0, 2400, .inl (Mf 2))), ((Ma 8), .inl (tc 1, 64, .inr (.inl sv_35))), ((Ma 9), .inl (tc 1, 13, .inr (.inl (Mg 9))))] := hD₀
          replace hS := hS₀
          clear hP₀ hD₀ hS₀
          exact retL (v := r_36) hx hb hr hlk hP hD hS (sv_34, sv_35) ⟨_, rfl, trivial⟩ [2, 3, 0, 1, 4, 5] rfl rfl dX12_summedBy_77 (Nat.le_of_ble_eq_true rfl) (Nat.le_of_ble_eq_true rfl) rfl
        · skip
          refine lv_aload_n hx hb dX12_summedBy_32 rfl (lv_at hl 2 rfl) ?_
          refine lv_iload_n hx hb dX12_summedBy_33 rfl (lv_at hl 3 rfl) ?_
          refine lv_aload_n hx hb dX12_summedBy_34 rfl (lv_at hl 2 rfl) ?_
          refine gf_X12_20 hx hb hts hown hK hP 0 rfl rfl dX12_summedBy_35 ?_
          refine lv_iload_n hx hb dX12_summedBy_38 rfl (lv_at hl 0 rfl) ?_
          refine lv_iconst (v := 2) hx hb dX12_summedBy_39 (by decide) ?_
          refine lv_iadd hx hb dX12_summedBy_40 ?_
          refine lv_topi (fun x_39 ex_39 => ?_)
          have hi_40 : vp_in x_39 288 := by
            have z_1 := Int32.lt_iff_toInt_lt.mp (Int32.not_le.mp c_14)
            have z_2 := Int32.le_iff_toInt_le.mp (Int32.not_lt.mp c_21)
            have y_0 : (0 : Int32).toInt = 0 := by decide
            have y_2 : (2 : Int32).toInt = 2 := by decide
            have y_4 : (4 : Int32).toInt = 4 := by decide
            have y_48 : (48 : Int32).toInt = 48 := by decide
            have t_x_15 : x_15.toInt = (48 : Int32).toInt * (x1 : Int32).toInt := by rw [ex_15]; exact mul_toInt (by first | omega | (rw [y_48]; omega)) (by first | omega | (rw [y_48]; omega))
            rw [y_48] at t_x_15
            have t_x_16 : x_16.toInt = (4 : Int32).toInt * (vy_4 : Int32).toInt := by rw [ex_16]; exact mul_toInt (by first | omega | (rw [y_4]; omega)) (by first | omega | (rw [y_4]; omega))
            rw [y_4] at t_x_16
            have t_x_17 : x_17.toInt = (x_15 : Int32).toInt + (x_16 : Int32).toInt := by rw [ex_17]; exact add_toInt (by omega) (by omega)
            have t_x_39 : x_39.toInt = (x_17 : Int32).toInt + (2 : Int32).toInt := by rw [ex_39]; exact add_toInt (by omega) (by omega)
            refine vp_in_iff.mpr ⟨?_, ?_⟩ <;> omega
          refine va_iald hx hb hK hP 2 0 rfl rfl hi_40 dX12_summedBy_41 ?_
          refine lv_topi (fun x_41 ex_41 => ?_)
          refine lv_aload_n hx hb dX12_summedBy_42 rfl (lv_at hl 2 rfl) ?_
          refine gf_X12_20 hx hb hts hown hK hP 0 rfl rfl dX12_summedBy_43 ?_
          refine lv_iload_n hx hb dX12_summedBy_46 rfl (lv_at hl 0 rfl) ?_
          refine lv_iconst (v := 3) hx hb dX12_summedBy_47 (by decide) ?_
          refine lv_iadd hx hb dX12_summedBy_48 ?_
          refine lv_topi (fun x_42 ex_42 => ?_)
          have hi_43 : vp_in x_42 288 := by
            have z_1 := Int32.lt_iff_toInt_lt.mp (Int32.not_le.mp c_14)
            have z_2 := Int32.le_iff_toInt_le.mp (Int32.not_lt.mp c_21)
            have y_0 : (0 : Int32).toInt = 0 := by decide
            have y_3 : (3 : Int32).toInt = 3 := by decide
            have y_4 : (4 : Int32).toInt = 4 := by decide
            have y_48 : (48 : Int32).toInt = 48 := by decide
            have t_x_15 : x_15.toInt = (48 : Int32).toInt * (x1 : Int32).toInt := by rw [ex_15]; exact mul_toInt (by first | omega | (rw [y_48]; omega)) (by first | omega | (rw [y_48]; omega))
            rw [y_48] at t_x_15
            have t_x_16 : x_16.toInt = (4 : Int32).toInt * (vy_4 : Int32).toInt := by rw [ex_16]; exact mul_toInt (by first | omega | (rw [y_4]; omega)) (by first | omega | (rw [y_4]; omega))
            rw [y_4] at t_x_16
            have t_x_17 : x_17.toInt = (x_15 : Int32).toInt + (x_16 : Int32).toInt := by rw [ex_17]; exact add_toInt (by omega) (by omega)
            have t_x_42 : x_42.toInt = (x_17 : Int32).toInt + (3 : Int32).toInt := by rw [ex_42]; exact add_toInt (by omega) (by omega)
            refine vp_in_iff.mpr ⟨?_, ?_⟩ <;> omega
          refine va_iald hx hb hK hP 2 0 rfl rfl hi_43 dX12_summedBy_49 ?_
          refine lv_topi (fun x_44 ex_44 => ?_)
          have hc_45 : 0 ≤ (vy_4 : Int32).toInt ∧ (vy_4 : Int32).toInt < (x_13 : Int32).toInt := by
            have z_1 := Int32.lt_iff_toInt_lt.mp (Int32.not_le.mp c_14)
            have z_2 := Int32.le_iff_toInt_le.mp (Int32.not_lt.mp c_21)
            have y_0 : (0 : Int32).toInt = 0 := by decide
            omega
          have hi_46 : (x_39 : Int32).toInt = 48 * x1.toInt + 4 * (vy_4 : Int32).toInt + 2 := by
            have z_1 := Int32.lt_iff_toInt_lt.mp (Int32.not_le.mp c_14)
            have z_2 := Int32.le_iff_toInt_le.mp (Int32.not_lt.mp c_21)
            have y_0 : (0 : Int32).toInt = 0 := by decide
            have y_2 : (2 : Int32).toInt = 2 := by decide
            have y_4 : (4 : Int32).toInt = 4 := by decide
            have y_48 : (48 : Int32).toInt = 48 := by decide
            have t_x_15 : x_15.toInt = (48 : Int32).toInt * (x1 : Int32).toInt := by rw [ex_15]; exact mul_toInt (by first | omega | (rw [y_48]; omega)) (by first | omega | (rw [y_48]; omega))
            rw [y_48] at t_x_15
            have t_x_16 : x_16.toInt = (4 : Int32).toInt * (vy_4 : Int32).toInt := by rw [ex_16]; exact mul_toInt (by first | omega | (rw [y_4]; omega)) (by first | omega | (rw [y_4]; omega))
            rw [y_4] at t_x_16
            have t_x_17 : x_17.toInt = (x_15 : Int32).toInt + (x_16 : Int32).toInt := by rw [ex_17]; exact add_toInt (by omega) (by omega)
            have t_x_39 : x_39.toInt = (x_17 : Int32).toInt + (2 : Int32).toInt := by rw [ex_39]; exact add_toInt (by omega) (by omega)
            omega
          have hi_47 : (x_42 : Int32).toInt = 48 * x1.toInt + 4 * (vy_4 : Int32).toInt + 3 := by
            have z_1 := Int32.lt_iff_toInt_lt.mp (Int32.not_le.mp c_14)
            have z_2 := Int32.le_iff_toInt_le.mp (Int32.not_lt.mp c_21)
            have y_0 : (0 : Int32).toInt = 0 := by decide
            have y_3 : (3 : Int32).toInt = 3 := by decide
            have y_4 : (4 : Int32).toInt = 4 := by decide
            have y_48 : (48 : Int32).toInt = 48 := by decide
            have t_x_15 : x_15.toInt = (48 : Int32).toInt * (x1 : Int32).toInt := by rw [ex_15]; exact mul_toInt (by first | omega | (rw [y_48]; omega)) (by first | omega | (rw [y_48]; omega))
            rw [y_48] at t_x_15
            have t_x_16 : x_16.toInt = (4 : Int32).toInt * (vy_4 : Int32).toInt := by rw [ex_16]; exact mul_toInt (by first | omega | (rw [y_4]; omega)) (by first | omega | (rw [y_4]; omega))
            rw [y_4] at t_x_16
            have t_x_17 : x_17.toInt = (x_15 : Int32).toInt + (x_16 : Int32).toInt := by rw [ex_17]; exact add_toInt (by omega) (by omega)
            have t_x_42 : x_42.toInt = (x_17 : Int32).toInt + (3 : Int32).toInt := by rw [ex_42]; exact add_toInt (by omega) (by omega)
            omega
          have hp_48 : 0 ≤ (x_41 : Int32).toInt := by
            have hee : x_41 = x_20 := by rw [ex_41, ex_20, ex_39, ex_18]
            rw [hee]
            have z_1 := Int32.lt_iff_toInt_lt.mp (Int32.not_le.mp c_14)
            have z_2 := Int32.le_iff_toInt_le.mp (Int32.not_lt.mp c_21)
            have y_0 : (0 : Int32).toInt = 0 := by decide
            omega
          have ha_49 : 0 ≤ x1.toInt ∧ x1.toInt < 6 := by
            have z_1 := Int32.lt_iff_toInt_lt.mp (Int32.not_le.mp c_14)
            have z_2 := Int32.le_iff_toInt_le.mp (Int32.not_lt.mp c_21)
            have y_0 : (0 : Int32).toInt = 0 := by decide
            omega
          refine cV (a := (Ma 0)) (As := [.int x1, .int x_41, .int x_44]) (rest := []) (wr := [((Ma 4), .inl (tc 0, 288, .inl (Mf 4))), ((Ma 5), .inl (tc 0, 6, .inl (Mf 5)))]) ⟨hx, hb, hml, hown, hts⟩ hK hX hA (cu_X12_reckons l D tc sk (Ma 0) (Ma 1) (Ma 2) (Ma 3) (Ma 4) (Ma 5) (Ma 6) (Ma 7) (Ma 8) (Ma 9) (Ma 10) (Ma 11) (Ma 12) (Ma 13) (Ma 14) (Ma 15) (Ma 16) (Ma 17) (Ma 18) (Ma 19) (Ma 20) (Mv 0) (Mv 1) (Mv 2) (Mv 3) (Mv 4) (Mv 5) (Mv 6) (Mv 7) (Mv 8) (Mv 9) vy_5 (Mv 11) (Mv 12) (Mv 13) (Mv 14) (Mf 2) (Mj 0) vy_6 (Mg 9) x1 x_41 x_44 (RulD.w2 h_rul h_t ex_13 hc_45 hi_46 hi_47 ex_41 ex_44 hp_48) ha_49) k_1447 k_1444 k_1446 k_73 k_106 pl_X12_reckons ⟨Nat.le_of_ble_eq_true rfl, Nat.le_of_ble_eq_true rfl⟩ rfl rfl (va_recv hK hP (ci := 12) (q0 := 0) rfl rfl) hP hD hS [0, 1, 4, 5] [2, 3] rfl rfl rfl rfl rfl (by decide) rfl hl.1 rfl (Nat.le_of_ble_eq_true rfl) dX12_summedBy_50 ⟨Nat.le_of_ble_eq_true rfl, Nat.le_of_ble_eq_true rfl⟩ (fun v_50 u_51 H locs hv_52 hP₀ hD₀ hS₀ => ?_)
          obtain ⟨sv_53, sv_54⟩ := u_51
          obtain ⟨r_55, rfl, he_56⟩ := hv_52
          refine W.eq (g2 := F0 m 53 ls [.long r_55]) rfl ?_
          replace hP : va_P D classes [((Ma 4), .inl (tc 0, 288, .inl (Mf 4))), ((Ma 5), .inl (tc 0, 6, .inl (Mf 5))), ((Ma 0), .inr (12, [.ref (Ma 1), .int (Mv 0), .int (Mv 1), .ref (Ma 2), .ref (Ma 3), .ref (Ma 4), .ref (Ma 5), .ref (Ma 6), .int (Mv 2), .int (Mv 3), .int (Mv 4), .int (Mv 5), .int (Mv 6), .int (Mv 7), .int (Mv 8), .ref (Ma 7), .int (Mv 9), .ref (Ma 8), .int sv_53, .ref (Ma 9), .ref (Ma 10), .int (Mv 11), .int (Mv 12), .int (Mv 13), .ref (Ma 11), .int (Mv 14), .ref (Ma 12), .ref (Ma 13), .ref (Ma 14), .ref (Ma 15), .ref (Ma 16), .long (Mj 0), .ref (Ma 17), .ref (Ma 18), .ref (Ma 19), .ref (Ma 20)])), ((Ma 2), .inl (tc 0, 2400, .inl (Mf 2))), ((Ma 8), .inl (tc 1, 64, .inr (.inl sv_54))), ((Ma 9), .inl (tc 1, 13, .inr (.inl (Mg 9))))] H := hP₀
          replace hD : va_D A [((Ma 4), .inl (tc 0, 288, .inl (Mf 4))), ((Ma 5), .inl (tc 0, 6, .inl (Mf 5))), ((Ma 0), .inr (12, [.ref (Ma 1), .int (Mv 0), .int (Mv 1), .ref (Ma 2), .ref (Ma 3), .ref (Ma 4), .ref (Ma 5), .ref (Ma 6), .int (Mv 2), .int (Mv 3), .int (Mv 4), .int (Mv 5), .int (Mv 6), .int (Mv 7), .int (Mv 8), .ref (Ma 7), .int (Mv 9), .ref (Ma 8), .int sv_53, .ref (Ma 9), .ref (Ma 10), .int (Mv 11), .int (Mv 12), .int (Mv 13), .ref (Ma 11), .int (Mv 14), .ref (Ma 12), .ref (Ma 13), .ref (Ma 14), .ref (Ma 15), .ref (Ma 16), .long (Mj 0), .ref (Ma 17), .ref (Ma 18), .ref (Ma 19), .ref (Ma 20)])), ((Ma 2), .inl (tc 0, 2400, .inl (Mf 2))), ((Ma 8), .inl (tc 1, 64, .inr (.inl sv_54))), ((Ma 9), .inl (tc 1, 13, .inr (.inl (Mg 9))))] := hD₀
          replace hS := hS₀
          clear hP₀ hD₀ hS₀
          refine lv_lconst (v := 1) hx hb dX12_summedBy_53 (by decide) ?_
          refine W.lcmp hx hb dX12_summedBy_54 ?_
          refine lv_topi (fun x_58 ex_58 => ?_)
          refine lv_if_ne (tgt := 78) hx hb dX12_summedBy_55 (by decide) (fun c_59 => ?_) (fun c_59 => ?_)
          · skip
            obtain ⟨x_61, ex_61⟩ : ∃ y : Int32, y = vy_4 + 1 := ⟨_, rfl⟩
            refine lv_iinc (v := x_61) (lv' := [(2, .int x_61), (3, .int x_17), (0, .ref (Ma 0)), (1, .int x1)]) hx hb dX12_summedBy_78 hl (k := 1) rfl (by rw [ex_61]; rfl) (by decide) rfl (fun ls hl₀ => ?_)
            replace hl := hl₀
            clear hl₀
            refine lv_goto (tgt := 2) hx hb dX12_summedBy_81 (by decide) ?_
            have hb_62 : 12 - (x_61 : Int32).toInt < 12 - (vy_4 : Int32).toInt ∧ 1 ≤ 12 - (vy_4 : Int32).toInt := by
              have z_1 := Int32.lt_iff_toInt_lt.mp (Int32.not_le.mp c_14)
              have z_2 := Int32.le_iff_toInt_le.mp (Int32.not_lt.mp c_21)
              have z_3 : ¬ (x_58 : Int32).toInt = (0 : Int32).toInt := fun z => c_59 (Int32.toInt_inj.mp z)
              have y_0 : (0 : Int32).toInt = 0 := by decide
              have y_1 : (1 : Int32).toInt = 1 := by decide
              have t_x_61 : x_61.toInt = (vy_4 : Int32).toInt + (1 : Int32).toInt := by rw [ex_61]; exact add_toInt (by omega) (by omega)
              omega
            have ha_63 : 0 ≤ (x_61 : Int32).toInt := by
              have z_1 := Int32.lt_iff_toInt_lt.mp (Int32.not_le.mp c_14)
              have z_2 := Int32.le_iff_toInt_le.mp (Int32.not_lt.mp c_21)
              have z_3 : ¬ (x_58 : Int32).toInt = (0 : Int32).toInt := fun z => c_59 (Int32.toInt_inj.mp z)
              have y_0 : (0 : Int32).toInt = 0 := by decide
              have y_1 : (1 : Int32).toInt = 1 := by decide
              have t_x_61 : x_61.toInt = (vy_4 : Int32).toInt + (1 : Int32).toInt := by rw [ex_61]; exact add_toInt (by omega) (by omega)
              omega
            exact ih_8 x_61 sv_53 sv_54 _ _ _ (by omega) ha_63 (hP.sub [2, 3, 0, 1, 4, 5] rfl) (hD.sub [2, 3, 0, 1, 4, 5] rfl rfl) hS (lv_sub hl [0, 2, 3] rfl)
          · skip
            have lz_64 : (r_55 : Int64).toInt = (1 : Int64).toInt := by have hc := c_59; rw [ex_58] at hc; exact congrArg Int64.toInt ((lg_cmp_eq _ _).mp hc)
            refine lv_aload_n hx hb dX12_summedBy_58 rfl (lv_at hl 2 rfl) ?_
            refine lv_iload_n hx hb dX12_summedBy_59 rfl (lv_at hl 3 rfl) ?_
            refine lv_aload_n hx hb dX12_summedBy_60 rfl (lv_at hl 2 rfl) ?_
            refine gf_X12_20 hx hb hts hown hK hP 2 rfl rfl dX12_summedBy_61 ?_
            refine lv_iload_n hx hb dX12_summedBy_64 rfl (lv_at hl 0 rfl) ?_
            have hi_65 : vp_in x_17 288 := by
              have z_1 := Int32.lt_iff_toInt_lt.mp (Int32.not_le.mp c_14)
              have z_2 := Int32.le_iff_toInt_le.mp (Int32.not_lt.mp c_21)
              have z_3 := congrArg Int32.toInt c_59
              have y_0 : (0 : Int32).toInt = 0 := by decide
              have y_4 : (4 : Int32).toInt = 4 := by decide
              have y_48 : (48 : Int32).toInt = 48 := by decide
              have t_x_15 : x_15.toInt = (48 : Int32).toInt * (x1 : Int32).toInt := by rw [ex_15]; exact mul_toInt (by first | omega | (rw [y_48]; omega)) (by first | omega | (rw [y_48]; omega))
              rw [y_48] at t_x_15
              have t_x_16 : x_16.toInt = (4 : Int32).toInt * (vy_4 : Int32).toInt := by rw [ex_16]; exact mul_toInt (by first | omega | (rw [y_4]; omega)) (by first | omega | (rw [y_4]; omega))
              rw [y_4] at t_x_16
              have t_x_17 : x_17.toInt = (x_15 : Int32).toInt + (x_16 : Int32).toInt := by rw [ex_17]; exact add_toInt (by omega) (by omega)
              refine vp_in_iff.mpr ⟨?_, ?_⟩ <;> omega
            refine va_iald hx hb hK hP 0 0 rfl rfl hi_65 dX12_summedBy_65 ?_
            refine lv_topi (fun x_66 ex_66 => ?_)
            refine lv_aload_n hx hb dX12_summedBy_66 rfl (lv_at hl 2 rfl) ?_
            refine gf_X12_20 hx hb hts hown hK hP 2 rfl rfl dX12_summedBy_67 ?_
            refine lv_iload_n hx hb dX12_summedBy_70 rfl (lv_at hl 0 rfl) ?_
            refine lv_iconst (v := 1) hx hb dX12_summedBy_71 (by decide) ?_
            refine lv_iadd hx hb dX12_summedBy_72 ?_
            refine lv_topi (fun x_67 ex_67 => ?_)
            have hi_68 : vp_in x_67 288 := by
              have z_1 := Int32.lt_iff_toInt_lt.mp (Int32.not_le.mp c_14)
              have z_2 := Int32.le_iff_toInt_le.mp (Int32.not_lt.mp c_21)
              have z_3 := congrArg Int32.toInt c_59
              have y_0 : (0 : Int32).toInt = 0 := by decide
              have y_1 : (1 : Int32).toInt = 1 := by decide
              have y_4 : (4 : Int32).toInt = 4 := by decide
              have y_48 : (48 : Int32).toInt = 48 := by decide
              have t_x_15 : x_15.toInt = (48 : Int32).toInt * (x1 : Int32).toInt := by rw [ex_15]; exact mul_toInt (by first | omega | (rw [y_48]; omega)) (by first | omega | (rw [y_48]; omega))
              rw [y_48] at t_x_15
              have t_x_16 : x_16.toInt = (4 : Int32).toInt * (vy_4 : Int32).toInt := by rw [ex_16]; exact mul_toInt (by first | omega | (rw [y_4]; omega)) (by first | omega | (rw [y_4]; omega))
              rw [y_4] at t_x_16
              have t_x_17 : x_17.toInt = (x_15 : Int32).toInt + (x_16 : Int32).toInt := by rw [ex_17]; exact add_toInt (by omega) (by omega)
              have t_x_67 : x_67.toInt = (x_17 : Int32).toInt + (1 : Int32).toInt := by rw [ex_67]; exact add_toInt (by omega) (by omega)
              refine vp_in_iff.mpr ⟨?_, ?_⟩ <;> omega
            refine va_iald hx hb hK hP 0 0 rfl rfl hi_68 dX12_summedBy_73 ?_
            refine lv_topi (fun x_69 ex_69 => ?_)
            have hc_70 : 0 ≤ (vy_4 : Int32).toInt ∧ (vy_4 : Int32).toInt < (x_13 : Int32).toInt := by
              have z_1 := Int32.lt_iff_toInt_lt.mp (Int32.not_le.mp c_14)
              have z_2 := Int32.le_iff_toInt_le.mp (Int32.not_lt.mp c_21)
              have z_3 := congrArg Int32.toInt c_59
              have y_0 : (0 : Int32).toInt = 0 := by decide
              omega
            have hi_71 : (x_17 : Int32).toInt = 48 * x1.toInt + 4 * (vy_4 : Int32).toInt := by
              have z_1 := Int32.lt_iff_toInt_lt.mp (Int32.not_le.mp c_14)
              have z_2 := Int32.le_iff_toInt_le.mp (Int32.not_lt.mp c_21)
              have z_3 := congrArg Int32.toInt c_59
              have y_0 : (0 : Int32).toInt = 0 := by decide
              have y_4 : (4 : Int32).toInt = 4 := by decide
              have y_48 : (48 : Int32).toInt = 48 := by decide
              have t_x_15 : x_15.toInt = (48 : Int32).toInt * (x1 : Int32).toInt := by rw [ex_15]; exact mul_toInt (by first | omega | (rw [y_48]; omega)) (by first | omega | (rw [y_48]; omega))
              rw [y_48] at t_x_15
              have t_x_16 : x_16.toInt = (4 : Int32).toInt * (vy_4 : Int32).toInt := by rw [ex_16]; exact mul_toInt (by first | omega | (rw [y_4]; omega)) (by first | omega | (rw [y_4]; omega))
              rw [y_4] at t_x_16
              have t_x_17 : x_17.toInt = (x_15 : Int32).toInt + (x_16 : Int32).toInt := by rw [ex_17]; exact add_toInt (by omega) (by omega)
              omega
            have hi_72 : (x_67 : Int32).toInt = 48 * x1.toInt + 4 * (vy_4 : Int32).toInt + 1 := by
              have z_1 := Int32.lt_iff_toInt_lt.mp (Int32.not_le.mp c_14)
              have z_2 := Int32.le_iff_toInt_le.mp (Int32.not_lt.mp c_21)
              have z_3 := congrArg Int32.toInt c_59
              have y_0 : (0 : Int32).toInt = 0 := by decide
              have y_1 : (1 : Int32).toInt = 1 := by decide
              have y_4 : (4 : Int32).toInt = 4 := by decide
              have y_48 : (48 : Int32).toInt = 48 := by decide
              have t_x_15 : x_15.toInt = (48 : Int32).toInt * (x1 : Int32).toInt := by rw [ex_15]; exact mul_toInt (by first | omega | (rw [y_48]; omega)) (by first | omega | (rw [y_48]; omega))
              rw [y_48] at t_x_15
              have t_x_16 : x_16.toInt = (4 : Int32).toInt * (vy_4 : Int32).toInt := by rw [ex_16]; exact mul_toInt (by first | omega | (rw [y_4]; omega)) (by first | omega | (rw [y_4]; omega))
              rw [y_4] at t_x_16
              have t_x_17 : x_17.toInt = (x_15 : Int32).toInt + (x_16 : Int32).toInt := by rw [ex_17]; exact add_toInt (by omega) (by omega)
              have t_x_67 : x_67.toInt = (x_17 : Int32).toInt + (1 : Int32).toInt := by rw [ex_67]; exact add_toInt (by omega) (by omega)
              omega
            have ha_73 : 0 ≤ x1.toInt ∧ x1.toInt < 6 := by
              have z_1 := Int32.lt_iff_toInt_lt.mp (Int32.not_le.mp c_14)
              have z_2 := Int32.le_iff_toInt_le.mp (Int32.not_lt.mp c_21)
              have z_3 := congrArg Int32.toInt c_59
              have y_0 : (0 : Int32).toInt = 0 := by decide
              omega
            refine cV (a := (Ma 0)) (As := [.int x1, .int x_66, .int x_69]) (rest := []) (wr := [((Ma 4), .inl (tc 0, 288, .inl (Mf 4))), ((Ma 5), .inl (tc 0, 6, .inl (Mf 5)))]) ⟨hx, hb, hml, hown, hts⟩ hK hX hA (cu_X12_reckons l D tc sk (Ma 0) (Ma 1) (Ma 2) (Ma 3) (Ma 4) (Ma 5) (Ma 6) (Ma 7) (Ma 8) (Ma 9) (Ma 10) (Ma 11) (Ma 12) (Ma 13) (Ma 14) (Ma 15) (Ma 16) (Ma 17) (Ma 18) (Ma 19) (Ma 20) (Mv 0) (Mv 1) (Mv 2) (Mv 3) (Mv 4) (Mv 5) (Mv 6) (Mv 7) (Mv 8) (Mv 9) sv_53 (Mv 11) (Mv 12) (Mv 13) (Mv 14) (Mf 2) (Mj 0) sv_54 (Mg 9) x1 x_66 x_69 (RulD.w h_rul h_t ex_13 hc_70 hi_71 hi_72 ex_66 ex_69) ha_73) k_1447 k_1444 k_1446 k_73 k_106 pl_X12_reckons ⟨Nat.le_of_ble_eq_true rfl, Nat.le_of_ble_eq_true rfl⟩ rfl rfl (va_recv hK hP (ci := 12) (q0 := 2) rfl rfl) hP hD hS [2, 3, 4, 5] [0, 1] rfl rfl rfl rfl rfl (by decide) rfl hl.1 rfl (Nat.le_of_ble_eq_true rfl) dX12_summedBy_74 ⟨Nat.le_of_ble_eq_true rfl, Nat.le_of_ble_eq_true rfl⟩ (fun v_74 u_75 H locs hv_76 hP₀ hD₀ hS₀ => ?_)
            obtain ⟨sv_77, sv_78⟩ := u_75
            obtain ⟨r_79, rfl, he_80⟩ := hv_76
            refine W.eq (g2 := F0 m 77 ls [.long r_79]) rfl ?_
            replace hP : va_P D classes [((Ma 4), .inl (tc 0, 288, .inl (Mf 4))), ((Ma 5), .inl (tc 0, 6, .inl (Mf 5))), ((Ma 0), .inr (12, [.ref (Ma 1), .int (Mv 0), .int (Mv 1), .ref (Ma 2), .ref (Ma 3), .ref (Ma 4), .ref (Ma 5), .ref (Ma 6), .int (Mv 2), .int (Mv 3), .int (Mv 4), .int (Mv 5), .int (Mv 6), .int (Mv 7), .int (Mv 8), .ref (Ma 7), .int (Mv 9), .ref (Ma 8), .int sv_77, .ref (Ma 9), .ref (Ma 10), .int (Mv 11), .int (Mv 12), .int (Mv 13), .ref (Ma 11), .int (Mv 14), .ref (Ma 12), .ref (Ma 13), .ref (Ma 14), .ref (Ma 15), .ref (Ma 16), .long (Mj 0), .ref (Ma 17), .ref (Ma 18), .ref (Ma 19), .ref (Ma 20)])), ((Ma 2), .inl (tc 0, 2400, .inl (Mf 2))), ((Ma 8), .inl (tc 1, 64, .inr (.inl sv_78))), ((Ma 9), .inl (tc 1, 13, .inr (.inl (Mg 9))))] H := hP₀
            replace hD : va_D A [((Ma 4), .inl (tc 0, 288, .inl (Mf 4))), ((Ma 5), .inl (tc 0, 6, .inl (Mf 5))), ((Ma 0), .inr (12, [.ref (Ma 1), .int (Mv 0), .int (Mv 1), .ref (Ma 2), .ref (Ma 3), .ref (Ma 4), .ref (Ma 5), .ref (Ma 6), .int (Mv 2), .int (Mv 3), .int (Mv 4), .int (Mv 5), .int (Mv 6), .int (Mv 7), .int (Mv 8), .ref (Ma 7), .int (Mv 9), .ref (Ma 8), .int sv_77, .ref (Ma 9), .ref (Ma 10), .int (Mv 11), .int (Mv 12), .int (Mv 13), .ref (Ma 11), .int (Mv 14), .ref (Ma 12), .ref (Ma 13), .ref (Ma 14), .ref (Ma 15), .ref (Ma 16), .long (Mj 0), .ref (Ma 17), .ref (Ma 18), .ref (Ma 19), .ref (Ma 20)])), ((Ma 2), .inl (tc 0, 2400, .inl (Mf 2))), ((Ma 8), .inl (tc 1, 64, .inr (.inl sv_78))), ((Ma 9), .inl (tc 1, 13, .inr (.inl (Mg 9))))] := hD₀
            replace hS := hS₀
            clear hP₀ hD₀ hS₀
            exact retL (v := r_79) hx hb hr hlk hP hD hS (sv_77, sv_78) ⟨_, rfl, trivial⟩ [2, 3, 0, 1, 4, 5] rfl rfl dX12_summedBy_77 (Nat.le_of_ble_eq_true rfl) (Nat.le_of_ble_eq_true rfl) rfl
  have ha_82 : 0 ≤ (0 : Int32).toInt := by
    have y_0 : (0 : Int32).toInt = 0 := by decide
    omega
  exact loop_9 _ 0 (Mv 10) (Mg 8) _ _ _ (Nat.lt_succ_self _) ha_82 hP hD hS hl
set_option maxRecDepth 100000 in
theorem cu_X12_summedBy (l : Launch) (D : va_G) (tc : Nat → ClassId) (sk : (Nat → Nat) × (Nat → Nat)) (Ma_0 : Nat) (Ma_1 : Nat) (Ma_2 : Nat) (Ma_3 : Nat) (Ma_4 : Nat) (Ma_5 : Nat) (Ma_6 : Nat) (Ma_7 : Nat) (Ma_8 : Nat) (Ma_9 : Nat) (Ma_10 : Nat) (Ma_11 : Nat) (Ma_12 : Nat) (Ma_13 : Nat) (Ma_14 : Nat) (Ma_15 : Nat) (Ma_16 : Nat) (Ma_17 : Nat) (Ma_18 : Nat) (Ma_19 : Nat) (Ma_20 : Nat) (Mv_0 : Int32) (Mv_1 : Int32) (Mv_2 : Int32) (Mv_3 : Int32) (Mv_4 : Int32) (Mv_5 : Int32) (Mv_6 : Int32) (Mv_7 : Int32) (Mv_8 : Int32) (Mv_9 : Int32) (Mv_10 : Int32) (Mv_11 : Int32) (Mv_12 : Int32) (Mv_13 : Int32) (Mv_14 : Int32) (Mf_2 : Nat → Int32) (Mf_4 : Nat → Int32) (Mf_5 : Nat → Int32) (Mj_0 : Int64) (Mg_8 : Nat → Int64) (Mg_9 : Nat → Int64) (x1 : Int32) (h_rul : RulD Mf_2 Mf_4 Mf_5 Mv_1) (h_t : 0 ≤ x1.toInt ∧ x1.toInt < Mv_1.toInt) (h_r6 : Mv_1.toInt ≤ 6) : Ct l yX12_summedBy cX12_summedBy 4 (some .long) { frames := 2, cells := 0, slots := 0, locals := 54 } D tc sk [.ref Ma_0, .int x1] [(Ma_0, .inr (12, [.ref Ma_1, .int Mv_0, .int Mv_1, .ref Ma_2, .ref Ma_3, .ref Ma_4, .ref Ma_5, .ref Ma_6, .int Mv_2, .int Mv_3, .int Mv_4, .int Mv_5, .int Mv_6, .int Mv_7, .int Mv_8, .ref Ma_7, .int Mv_9, .ref Ma_8, .int Mv_10, .ref Ma_9, .ref Ma_10, .int Mv_11, .int Mv_12, .int Mv_13, .ref Ma_11, .int Mv_14, .ref Ma_12, .ref Ma_13, .ref Ma_14, .ref Ma_15, .ref Ma_16, .long Mj_0, .ref Ma_17, .ref Ma_18, .ref Ma_19, .ref Ma_20])), (Ma_2, .inl (tc 0, 2400, .inl Mf_2)), (Ma_4, .inl (tc 0, 288, .inl Mf_4)), (Ma_5, .inl (tc 0, 6, .inl Mf_5)), (Ma_8, .inl (tc 1, 64, .inr (.inl Mg_8))), (Ma_9, .inl (tc 1, 13, .inr (.inl Mg_9)))] (fun (v : Option Value) (u : (Int32) × (Nat → Int64)) => match u with | (oo0x1, oo0x2) => ∃ r : Int64, v = some (.long r) ∧ (True)) (fun (u : (Int32) × (Nat → Int64)) => match u with | (oo0x1, oo0x2) => [(Ma_0, .inr (12, [.ref Ma_1, .int Mv_0, .int Mv_1, .ref Ma_2, .ref Ma_3, .ref Ma_4, .ref Ma_5, .ref Ma_6, .int Mv_2, .int Mv_3, .int Mv_4, .int Mv_5, .int Mv_6, .int Mv_7, .int Mv_8, .ref Ma_7, .int Mv_9, .ref Ma_8, .int oo0x1, .ref Ma_9, .ref Ma_10, .int Mv_11, .int Mv_12, .int Mv_13, .ref Ma_11, .int Mv_14, .ref Ma_12, .ref Ma_13, .ref Ma_14, .ref Ma_15, .ref Ma_16, .long Mj_0, .ref Ma_17, .ref Ma_18, .ref Ma_19, .ref Ma_20])), (Ma_2, .inl (tc 0, 2400, .inl Mf_2)), (Ma_4, .inl (tc 0, 288, .inl Mf_4)), (Ma_5, .inl (tc 0, 6, .inl Mf_5)), (Ma_8, .inl (tc 1, 64, .inr (.inl oo0x2))), (Ma_9, .inl (tc 1, 13, .inr (.inl Mg_9)))]) 0 0 :=
  ct_X12_summedBy l D tc sk (fun k => ([Ma_0, Ma_1, Ma_2, Ma_3, Ma_4, Ma_5, Ma_6, Ma_7, Ma_8, Ma_9, Ma_10, Ma_11, Ma_12, Ma_13, Ma_14, Ma_15, Ma_16, Ma_17, Ma_18, Ma_19, Ma_20] : List (Nat)).getD k 0) (fun k => ([Mv_0, Mv_1, Mv_2, Mv_3, Mv_4, Mv_5, Mv_6, Mv_7, Mv_8, Mv_9, Mv_10, Mv_11, Mv_12, Mv_13, Mv_14] : List (Int32)).getD k 0) (fun k => ([(fun _ => 0), (fun _ => 0), Mf_2, (fun _ => 0), Mf_4, Mf_5] : List (Nat → Int32)).getD k (fun _ => 0)) (fun k => ([Mj_0] : List (Int64)).getD k 0) (fun k => ([(fun _ => 0), (fun _ => 0), (fun _ => 0), (fun _ => 0), (fun _ => 0), (fun _ => 0), (fun _ => 0), (fun _ => 0), Mg_8, Mg_9] : List (Nat → Int64)).getD k (fun _ => 0)) x1 h_rul h_t h_r6
set_option maxHeartbeats 4000000 in
set_option maxRecDepth 100000 in
theorem ct_X12_isBook {T : Nat → Option Int32} (l : Launch) (D : va_G) (tc : Nat → ClassId) (sk : (Nat → Nat) × (Nat → Nat)) (Ma : Nat → Nat) (Mv : Nat → Int32) (Mf : Nat → Nat → Int32) (Mj : Nat → Int64) (h_said : SaidB T (Mf 10)) : Ct l yX12_isBook cX12_isBook 1 (some .boolean) { frames := 0, cells := 0, slots := 0, locals := 0 } D tc sk [.ref (Ma 0)] [((Ma 0), .inr (12, [.ref (Ma 1), .int (Mv 0), .int (Mv 1), .ref (Ma 2), .ref (Ma 3), .ref (Ma 4), .ref (Ma 5), .ref (Ma 6), .int (Mv 2), .int (Mv 3), .int (Mv 4), .int (Mv 5), .int (Mv 6), .int (Mv 7), .int (Mv 8), .ref (Ma 7), .int (Mv 9), .ref (Ma 8), .int (Mv 10), .ref (Ma 9), .ref (Ma 10), .int (Mv 11), .int (Mv 12), .int (Mv 13), .ref (Ma 11), .int (Mv 14), .ref (Ma 12), .ref (Ma 13), .ref (Ma 14), .ref (Ma 15), .ref (Ma 16), .long (Mj 0), .ref (Ma 17), .ref (Ma 18), .ref (Ma 19), .ref (Ma 20)])), ((Ma 10), .inl (tc 0, 126, .inl (Mf 10)))] (fun (v : Option Value) (_ : Unit) => ∃ r : Int32, v = some (.int r) ∧ ((r.toInt = 0 ∨ (r.toInt = 1 ∧ 1 ≤ ((Mf 10) 2).toInt ∧ ((Mf 10) 2).toInt ≤ 10)))) (fun (_ : Unit) => [((Ma 0), .inr (12, [.ref (Ma 1), .int (Mv 0), .int (Mv 1), .ref (Ma 2), .ref (Ma 3), .ref (Ma 4), .ref (Ma 5), .ref (Ma 6), .int (Mv 2), .int (Mv 3), .int (Mv 4), .int (Mv 5), .int (Mv 6), .int (Mv 7), .int (Mv 8), .ref (Ma 7), .int (Mv 9), .ref (Ma 8), .int (Mv 10), .ref (Ma 9), .ref (Ma 10), .int (Mv 11), .int (Mv 12), .int (Mv 13), .ref (Ma 11), .int (Mv 14), .ref (Ma 12), .ref (Ma 13), .ref (Ma 14), .ref (Ma 15), .ref (Ma 16), .long (Mj 0), .ref (Ma 17), .ref (Ma 18), .ref (Ma 19), .ref (Ma 20)])), ((Ma 10), .inl (tc 0, 126, .inl (Mf 10)))]) 0 0 := by
  refine Ct.start (by decide) (Nat.le_of_ble_eq_true rfl) (fun p e s m below meth c A ls hx hb hr hlk hin hml hown hts hK hX hP hD hA hl hS => ?_)
  have hl : lv_has ls 1 [(0, .ref (Ma 0))] := hl
  have ar_h_said := SaidB.ar h_said
  refine lv_aload_n hx hb dX12_isBook_0 rfl (lv_at hl 0 rfl) ?_
  refine gf_X12_39 hx hb hts hown hK hP 0 rfl rfl dX12_isBook_1 ?_
  refine lv_iconst (v := 0) hx hb dX12_isBook_4 (by decide) ?_
  refine va_iald hx hb hK hP 1 0 rfl rfl (vin_dec (by decide +kernel)) dX12_isBook_5 ?_
  refine lv_topi (fun x_1 ex_1 => ?_)
  have lx_1 : x_1.toInt = ((Mf 10) 0).toInt := congrArg Int32.toInt ex_1
  refine lv_iconst (v := 1) hx hb dX12_isBook_6 (by decide) ?_
  refine lv_icmp_ne (tgt := 14) hx hb dX12_isBook_7 (by decide) (fun c_2 => ?_) (fun c_2 => ?_)
  · skip
    refine lv_iconst (v := 0) hx hb dX12_isBook_14 (by decide) ?_
    have hp_3 : ((0 : Int32).toInt = 0 ∨ ((0 : Int32).toInt = 1 ∧ 1 ≤ ((Mf 10) 2).toInt ∧ ((Mf 10) 2).toInt ≤ 10)) := by
      have z_1 : ¬ (x_1 : Int32).toInt = (1 : Int32).toInt := fun z => c_2 (Int32.toInt_inj.mp z)
      have y_1 : (1 : Int32).toInt = 1 := by decide
      have y_0 : (0 : Int32).toInt = 0 := by decide
      have yr : (0 : Int32).toInt = 0 := by decide
      omega
    exact retI (v := 0) hx hb hr hlk (rfl) hP hD hS () ⟨_, rfl, hp_3⟩ [0, 1] rfl rfl dX12_isBook_15 (Nat.le_of_ble_eq_true rfl) (Nat.le_of_ble_eq_true rfl) rfl
  · skip
    refine lv_iconst (v := 1) hx hb dX12_isBook_10 (by decide) ?_
    refine lv_goto (tgt := 15) hx hb dX12_isBook_11 (by decide) ?_
    have hp_4 : ((1 : Int32).toInt = 0 ∨ ((1 : Int32).toInt = 1 ∧ 1 ≤ ((Mf 10) 2).toInt ∧ ((Mf 10) 2).toInt ≤ 10)) := by
      have z_1 := congrArg Int32.toInt c_2
      have y_1 : (1 : Int32).toInt = 1 := by decide
      omega
    exact retI (v := 1) hx hb hr hlk (rfl) hP hD hS () ⟨_, rfl, hp_4⟩ [0, 1] rfl rfl dX12_isBook_15 (Nat.le_of_ble_eq_true rfl) (Nat.le_of_ble_eq_true rfl) rfl
set_option maxRecDepth 100000 in
theorem cu_X12_isBook {T : Nat → Option Int32} (l : Launch) (D : va_G) (tc : Nat → ClassId) (sk : (Nat → Nat) × (Nat → Nat)) (Ma_0 : Nat) (Ma_1 : Nat) (Ma_2 : Nat) (Ma_3 : Nat) (Ma_4 : Nat) (Ma_5 : Nat) (Ma_6 : Nat) (Ma_7 : Nat) (Ma_8 : Nat) (Ma_9 : Nat) (Ma_10 : Nat) (Ma_11 : Nat) (Ma_12 : Nat) (Ma_13 : Nat) (Ma_14 : Nat) (Ma_15 : Nat) (Ma_16 : Nat) (Ma_17 : Nat) (Ma_18 : Nat) (Ma_19 : Nat) (Ma_20 : Nat) (Mv_0 : Int32) (Mv_1 : Int32) (Mv_2 : Int32) (Mv_3 : Int32) (Mv_4 : Int32) (Mv_5 : Int32) (Mv_6 : Int32) (Mv_7 : Int32) (Mv_8 : Int32) (Mv_9 : Int32) (Mv_10 : Int32) (Mv_11 : Int32) (Mv_12 : Int32) (Mv_13 : Int32) (Mv_14 : Int32) (Mf_10 : Nat → Int32) (Mj_0 : Int64) (h_said : SaidB T Mf_10) : Ct l yX12_isBook cX12_isBook 1 (some .boolean) { frames := 0, cells := 0, slots := 0, locals := 0 } D tc sk [.ref Ma_0] [(Ma_0, .inr (12, [.ref Ma_1, .int Mv_0, .int Mv_1, .ref Ma_2, .ref Ma_3, .ref Ma_4, .ref Ma_5, .ref Ma_6, .int Mv_2, .int Mv_3, .int Mv_4, .int Mv_5, .int Mv_6, .int Mv_7, .int Mv_8, .ref Ma_7, .int Mv_9, .ref Ma_8, .int Mv_10, .ref Ma_9, .ref Ma_10, .int Mv_11, .int Mv_12, .int Mv_13, .ref Ma_11, .int Mv_14, .ref Ma_12, .ref Ma_13, .ref Ma_14, .ref Ma_15, .ref Ma_16, .long Mj_0, .ref Ma_17, .ref Ma_18, .ref Ma_19, .ref Ma_20])), (Ma_10, .inl (tc 0, 126, .inl Mf_10))] (fun (v : Option Value) (_ : Unit) => ∃ r : Int32, v = some (.int r) ∧ ((r.toInt = 0 ∨ (r.toInt = 1 ∧ 1 ≤ (Mf_10 2).toInt ∧ (Mf_10 2).toInt ≤ 10)))) (fun (_ : Unit) => [(Ma_0, .inr (12, [.ref Ma_1, .int Mv_0, .int Mv_1, .ref Ma_2, .ref Ma_3, .ref Ma_4, .ref Ma_5, .ref Ma_6, .int Mv_2, .int Mv_3, .int Mv_4, .int Mv_5, .int Mv_6, .int Mv_7, .int Mv_8, .ref Ma_7, .int Mv_9, .ref Ma_8, .int Mv_10, .ref Ma_9, .ref Ma_10, .int Mv_11, .int Mv_12, .int Mv_13, .ref Ma_11, .int Mv_14, .ref Ma_12, .ref Ma_13, .ref Ma_14, .ref Ma_15, .ref Ma_16, .long Mj_0, .ref Ma_17, .ref Ma_18, .ref Ma_19, .ref Ma_20])), (Ma_10, .inl (tc 0, 126, .inl Mf_10))]) 0 0 :=
  ct_X12_isBook l D tc sk (fun k => ([Ma_0, Ma_1, Ma_2, Ma_3, Ma_4, Ma_5, Ma_6, Ma_7, Ma_8, Ma_9, Ma_10, Ma_11, Ma_12, Ma_13, Ma_14, Ma_15, Ma_16, Ma_17, Ma_18, Ma_19, Ma_20] : List (Nat)).getD k 0) (fun k => ([Mv_0, Mv_1, Mv_2, Mv_3, Mv_4, Mv_5, Mv_6, Mv_7, Mv_8, Mv_9, Mv_10, Mv_11, Mv_12, Mv_13, Mv_14] : List (Int32)).getD k 0) (fun k => ([(fun _ => 0), (fun _ => 0), (fun _ => 0), (fun _ => 0), (fun _ => 0), (fun _ => 0), (fun _ => 0), (fun _ => 0), (fun _ => 0), (fun _ => 0), Mf_10] : List (Nat → Int32)).getD k (fun _ => 0)) (fun k => ([Mj_0] : List (Int64)).getD k 0) h_said
set_option maxHeartbeats 4000000 in
set_option maxRecDepth 100000 in
theorem ct_X12_isBuyer {T : Nat → Option Int32} (l : Launch) (D : va_G) (tc : Nat → ClassId) (sk : (Nat → Nat) × (Nat → Nat)) (Ma : Nat → Nat) (Mv : Nat → Int32) (Mf : Nat → Nat → Int32) (Mj : Nat → Int64) (x1 : Int32) (h_said : SaidB T (Mf 10)) : Ct l yX12_isBuyer cX12_isBuyer 2 (some .boolean) { frames := 0, cells := 0, slots := 0, locals := 0 } D tc sk [.ref (Ma 0), .int x1] [((Ma 0), .inr (12, [.ref (Ma 1), .int (Mv 0), .int (Mv 1), .ref (Ma 2), .ref (Ma 3), .ref (Ma 4), .ref (Ma 5), .ref (Ma 6), .int (Mv 2), .int (Mv 3), .int (Mv 4), .int (Mv 5), .int (Mv 6), .int (Mv 7), .int (Mv 8), .ref (Ma 7), .int (Mv 9), .ref (Ma 8), .int (Mv 10), .ref (Ma 9), .ref (Ma 10), .int (Mv 11), .int (Mv 12), .int (Mv 13), .ref (Ma 11), .int (Mv 14), .ref (Ma 12), .ref (Ma 13), .ref (Ma 14), .ref (Ma 15), .ref (Ma 16), .long (Mj 0), .ref (Ma 17), .ref (Ma 18), .ref (Ma 19), .ref (Ma 20)])), ((Ma 10), .inl (tc 0, 126, .inl (Mf 10)))] (fun (v : Option Value) (_ : Unit) => ∃ r : Int32, v = some (.int r) ∧ ((r.toInt = 0 ∨ (r.toInt = 1 ∧ 0 ≤ x1.toInt ∧ x1.toInt < ((Mf 10) 3).toInt)))) (fun (_ : Unit) => [((Ma 0), .inr (12, [.ref (Ma 1), .int (Mv 0), .int (Mv 1), .ref (Ma 2), .ref (Ma 3), .ref (Ma 4), .ref (Ma 5), .ref (Ma 6), .int (Mv 2), .int (Mv 3), .int (Mv 4), .int (Mv 5), .int (Mv 6), .int (Mv 7), .int (Mv 8), .ref (Ma 7), .int (Mv 9), .ref (Ma 8), .int (Mv 10), .ref (Ma 9), .ref (Ma 10), .int (Mv 11), .int (Mv 12), .int (Mv 13), .ref (Ma 11), .int (Mv 14), .ref (Ma 12), .ref (Ma 13), .ref (Ma 14), .ref (Ma 15), .ref (Ma 16), .long (Mj 0), .ref (Ma 17), .ref (Ma 18), .ref (Ma 19), .ref (Ma 20)])), ((Ma 10), .inl (tc 0, 126, .inl (Mf 10)))]) 0 0 := by
  refine Ct.start (by decide) (Nat.le_of_ble_eq_true rfl) (fun p e s m below meth c A ls hx hb hr hlk hin hml hown hts hK hX hP hD hA hl hS => ?_)
  have hl : lv_has ls 2 [(0, .ref (Ma 0)), (1, .int x1)] := hl
  have ar_h_said := SaidB.ar h_said
  refine lv_iload_n hx hb dX12_isBuyer_0 rfl (lv_at hl 1 rfl) ?_
  refine lv_if_lt (tgt := 18) hx hb dX12_isBuyer_1 (by decide) (fun c_1 => ?_) (fun c_1 => ?_)
  · skip
    refine lv_iconst (v := 0) hx hb dX12_isBuyer_18 (by decide) ?_
    have hp_2 : ((0 : Int32).toInt = 0 ∨ ((0 : Int32).toInt = 1 ∧ 0 ≤ x1.toInt ∧ x1.toInt < ((Mf 10) 3).toInt)) := by
      have z_1 := Int32.lt_iff_toInt_lt.mp c_1
      have y_0 : (0 : Int32).toInt = 0 := by decide
      omega
    exact retI (v := 0) hx hb hr hlk (rfl) hP hD hS () ⟨_, rfl, hp_2⟩ [0, 1] rfl rfl dX12_isBuyer_19 (Nat.le_of_ble_eq_true rfl) (Nat.le_of_ble_eq_true rfl) rfl
  · skip
    refine lv_iload_n hx hb dX12_isBuyer_4 rfl (lv_at hl 1 rfl) ?_
    refine lv_aload_n hx hb dX12_isBuyer_5 rfl (lv_at hl 0 rfl) ?_
    refine gf_X12_39 hx hb hts hown hK hP 0 rfl rfl dX12_isBuyer_6 ?_
    refine lv_iconst (v := 3) hx hb dX12_isBuyer_9 (by decide) ?_
    refine va_iald hx hb hK hP 1 0 rfl rfl (vin_dec (by decide +kernel)) dX12_isBuyer_10 ?_
    refine lv_topi (fun x_3 ex_3 => ?_)
    have lx_3 : x_3.toInt = ((Mf 10) 3).toInt := congrArg Int32.toInt ex_3
    refine lv_icmp_ge (tgt := 18) hx hb dX12_isBuyer_11 (by decide) (fun c_4 => ?_) (fun c_4 => ?_)
    · skip
      refine lv_iconst (v := 0) hx hb dX12_isBuyer_18 (by decide) ?_
      have hp_5 : ((0 : Int32).toInt = 0 ∨ ((0 : Int32).toInt = 1 ∧ 0 ≤ x1.toInt ∧ x1.toInt < ((Mf 10) 3).toInt)) := by
        have z_1 := Int32.le_iff_toInt_le.mp (Int32.not_lt.mp c_1)
        have z_2 := Int32.le_iff_toInt_le.mp c_4
        have y_0 : (0 : Int32).toInt = 0 := by decide
        omega
      exact retI (v := 0) hx hb hr hlk (rfl) hP hD hS () ⟨_, rfl, hp_5⟩ [0, 1] rfl rfl dX12_isBuyer_19 (Nat.le_of_ble_eq_true rfl) (Nat.le_of_ble_eq_true rfl) rfl
    · skip
      refine lv_iconst (v := 1) hx hb dX12_isBuyer_14 (by decide) ?_
      refine lv_goto (tgt := 19) hx hb dX12_isBuyer_15 (by decide) ?_
      have hp_6 : ((1 : Int32).toInt = 0 ∨ ((1 : Int32).toInt = 1 ∧ 0 ≤ x1.toInt ∧ x1.toInt < ((Mf 10) 3).toInt)) := by
        have z_1 := Int32.le_iff_toInt_le.mp (Int32.not_lt.mp c_1)
        have z_2 := Int32.lt_iff_toInt_lt.mp (Int32.not_le.mp c_4)
        have y_0 : (0 : Int32).toInt = 0 := by decide
        have y_1 : (1 : Int32).toInt = 1 := by decide
        have yr : (1 : Int32).toInt = 1 := by decide
        omega
      exact retI (v := 1) hx hb hr hlk (rfl) hP hD hS () ⟨_, rfl, hp_6⟩ [0, 1] rfl rfl dX12_isBuyer_19 (Nat.le_of_ble_eq_true rfl) (Nat.le_of_ble_eq_true rfl) rfl
set_option maxRecDepth 100000 in
theorem cu_X12_isBuyer {T : Nat → Option Int32} (l : Launch) (D : va_G) (tc : Nat → ClassId) (sk : (Nat → Nat) × (Nat → Nat)) (Ma_0 : Nat) (Ma_1 : Nat) (Ma_2 : Nat) (Ma_3 : Nat) (Ma_4 : Nat) (Ma_5 : Nat) (Ma_6 : Nat) (Ma_7 : Nat) (Ma_8 : Nat) (Ma_9 : Nat) (Ma_10 : Nat) (Ma_11 : Nat) (Ma_12 : Nat) (Ma_13 : Nat) (Ma_14 : Nat) (Ma_15 : Nat) (Ma_16 : Nat) (Ma_17 : Nat) (Ma_18 : Nat) (Ma_19 : Nat) (Ma_20 : Nat) (Mv_0 : Int32) (Mv_1 : Int32) (Mv_2 : Int32) (Mv_3 : Int32) (Mv_4 : Int32) (Mv_5 : Int32) (Mv_6 : Int32) (Mv_7 : Int32) (Mv_8 : Int32) (Mv_9 : Int32) (Mv_10 : Int32) (Mv_11 : Int32) (Mv_12 : Int32) (Mv_13 : Int32) (Mv_14 : Int32) (Mf_10 : Nat → Int32) (Mj_0 : Int64) (x1 : Int32) (h_said : SaidB T Mf_10) : Ct l yX12_isBuyer cX12_isBuyer 2 (some .boolean) { frames := 0, cells := 0, slots := 0, locals := 0 } D tc sk [.ref Ma_0, .int x1] [(Ma_0, .inr (12, [.ref Ma_1, .int Mv_0, .int Mv_1, .ref Ma_2, .ref Ma_3, .ref Ma_4, .ref Ma_5, .ref Ma_6, .int Mv_2, .int Mv_3, .int Mv_4, .int Mv_5, .int Mv_6, .int Mv_7, .int Mv_8, .ref Ma_7, .int Mv_9, .ref Ma_8, .int Mv_10, .ref Ma_9, .ref Ma_10, .int Mv_11, .int Mv_12, .int Mv_13, .ref Ma_11, .int Mv_14, .ref Ma_12, .ref Ma_13, .ref Ma_14, .ref Ma_15, .ref Ma_16, .long Mj_0, .ref Ma_17, .ref Ma_18, .ref Ma_19, .ref Ma_20])), (Ma_10, .inl (tc 0, 126, .inl Mf_10))] (fun (v : Option Value) (_ : Unit) => ∃ r : Int32, v = some (.int r) ∧ ((r.toInt = 0 ∨ (r.toInt = 1 ∧ 0 ≤ x1.toInt ∧ x1.toInt < (Mf_10 3).toInt)))) (fun (_ : Unit) => [(Ma_0, .inr (12, [.ref Ma_1, .int Mv_0, .int Mv_1, .ref Ma_2, .ref Ma_3, .ref Ma_4, .ref Ma_5, .ref Ma_6, .int Mv_2, .int Mv_3, .int Mv_4, .int Mv_5, .int Mv_6, .int Mv_7, .int Mv_8, .ref Ma_7, .int Mv_9, .ref Ma_8, .int Mv_10, .ref Ma_9, .ref Ma_10, .int Mv_11, .int Mv_12, .int Mv_13, .ref Ma_11, .int Mv_14, .ref Ma_12, .ref Ma_13, .ref Ma_14, .ref Ma_15, .ref Ma_16, .long Mj_0, .ref Ma_17, .ref Ma_18, .ref Ma_19, .ref Ma_20])), (Ma_10, .inl (tc 0, 126, .inl Mf_10))]) 0 0 :=
  ct_X12_isBuyer l D tc sk (fun k => ([Ma_0, Ma_1, Ma_2, Ma_3, Ma_4, Ma_5, Ma_6, Ma_7, Ma_8, Ma_9, Ma_10, Ma_11, Ma_12, Ma_13, Ma_14, Ma_15, Ma_16, Ma_17, Ma_18, Ma_19, Ma_20] : List (Nat)).getD k 0) (fun k => ([Mv_0, Mv_1, Mv_2, Mv_3, Mv_4, Mv_5, Mv_6, Mv_7, Mv_8, Mv_9, Mv_10, Mv_11, Mv_12, Mv_13, Mv_14] : List (Int32)).getD k 0) (fun k => ([(fun _ => 0), (fun _ => 0), (fun _ => 0), (fun _ => 0), (fun _ => 0), (fun _ => 0), (fun _ => 0), (fun _ => 0), (fun _ => 0), (fun _ => 0), Mf_10] : List (Nat → Int32)).getD k (fun _ => 0)) (fun k => ([Mj_0] : List (Int64)).getD k 0) x1 h_said
set_option maxHeartbeats 4000000 in
set_option maxRecDepth 100000 in
theorem ct_X12_isClock {T : Nat → Option Int32} (l : Launch) (D : va_G) (tc : Nat → ClassId) (sk : (Nat → Nat) × (Nat → Nat)) (Ma : Nat → Nat) (Mv : Nat → Int32) (Mf : Nat → Nat → Int32) (Mj : Nat → Int64) (x1 : Int32) (h_said : SaidB T (Mf 10)) : Ct l yX12_isClock cX12_isClock 2 (some .boolean) { frames := 1, cells := 0, slots := 0, locals := 20 } D tc sk [.ref (Ma 0), .int x1] [((Ma 0), .inr (12, [.ref (Ma 1), .int (Mv 0), .int (Mv 1), .ref (Ma 2), .ref (Ma 3), .ref (Ma 4), .ref (Ma 5), .ref (Ma 6), .int (Mv 2), .int (Mv 3), .int (Mv 4), .int (Mv 5), .int (Mv 6), .int (Mv 7), .int (Mv 8), .ref (Ma 7), .int (Mv 9), .ref (Ma 8), .int (Mv 10), .ref (Ma 9), .ref (Ma 10), .int (Mv 11), .int (Mv 12), .int (Mv 13), .ref (Ma 11), .int (Mv 14), .ref (Ma 12), .ref (Ma 13), .ref (Ma 14), .ref (Ma 15), .ref (Ma 16), .long (Mj 0), .ref (Ma 17), .ref (Ma 18), .ref (Ma 19), .ref (Ma 20)])), ((Ma 10), .inl (tc 0, 126, .inl (Mf 10)))] (fun (v : Option Value) (_ : Unit) => ∃ r : Int32, v = some (.int r) ∧ ((r.toInt = 0 ∨ (r.toInt = 1 ∧ 0 ≤ x1.toInt ∧ x1.toInt < ((Mf 10) 2).toInt ∧ ((Mf 10) 2).toInt ≤ 10)))) (fun (_ : Unit) => [((Ma 0), .inr (12, [.ref (Ma 1), .int (Mv 0), .int (Mv 1), .ref (Ma 2), .ref (Ma 3), .ref (Ma 4), .ref (Ma 5), .ref (Ma 6), .int (Mv 2), .int (Mv 3), .int (Mv 4), .int (Mv 5), .int (Mv 6), .int (Mv 7), .int (Mv 8), .ref (Ma 7), .int (Mv 9), .ref (Ma 8), .int (Mv 10), .ref (Ma 9), .ref (Ma 10), .int (Mv 11), .int (Mv 12), .int (Mv 13), .ref (Ma 11), .int (Mv 14), .ref (Ma 12), .ref (Ma 13), .ref (Ma 14), .ref (Ma 15), .ref (Ma 16), .long (Mj 0), .ref (Ma 17), .ref (Ma 18), .ref (Ma 19), .ref (Ma 20)])), ((Ma 10), .inl (tc 0, 126, .inl (Mf 10)))]) 0 0 := by
  refine Ct.start (by decide) (Nat.le_of_ble_eq_true rfl) (fun p e s m below meth c A ls hx hb hr hlk hin hml hown hts hK hX hP hD hA hl hS => ?_)
  have hl : lv_has ls 2 [(0, .ref (Ma 0)), (1, .int x1)] := hl
  have ar_h_said := SaidB.ar h_said
  refine lv_aload_n hx hb dX12_isClock_0 rfl (lv_at hl 0 rfl) ?_
  refine cV (a := (Ma 0)) (As := []) (rest := []) (wr := []) ⟨hx, hb, hml, hown, hts⟩ hK hX hA (cu_X12_isBook l D tc sk (Ma 0) (Ma 1) (Ma 2) (Ma 3) (Ma 4) (Ma 5) (Ma 6) (Ma 7) (Ma 8) (Ma 9) (Ma 10) (Ma 11) (Ma 12) (Ma 13) (Ma 14) (Ma 15) (Ma 16) (Ma 17) (Ma 18) (Ma 19) (Ma 20) (Mv 0) (Mv 1) (Mv 2) (Mv 3) (Mv 4) (Mv 5) (Mv 6) (Mv 7) (Mv 8) (Mv 9) (Mv 10) (Mv 11) (Mv 12) (Mv 13) (Mv 14) (Mf 10) (Mj 0) h_said) k_1407 k_1404 k_1406 k_65 k_106 pl_X12_isBook ⟨Nat.le_of_ble_eq_true rfl, Nat.le_of_ble_eq_true rfl⟩ rfl rfl (va_recv hK hP (ci := 12) (q0 := 0) rfl rfl) hP hD hS [0, 1] [] rfl rfl rfl rfl rfl (by decide) rfl hl.1 rfl (Nat.le_of_ble_eq_true rfl) dX12_isClock_1 ⟨Nat.le_of_ble_eq_true rfl, Nat.le_of_ble_eq_true rfl⟩ (fun v_1 u_2 H locs hv_3 hP₀ hD₀ hS₀ => ?_)
  obtain ⟨r_4, rfl, he_5⟩ := hv_3
  have he_5 : (r_4.toInt = 0 ∨ (r_4.toInt = 1 ∧ 1 ≤ ((Mf 10) 2).toInt ∧ ((Mf 10) 2).toInt ≤ 10)) := he_5
  refine W.eq (g2 := F0 m 4 ls [.int r_4]) rfl ?_
  replace hP : va_P D classes [((Ma 0), .inr (12, [.ref (Ma 1), .int (Mv 0), .int (Mv 1), .ref (Ma 2), .ref (Ma 3), .ref (Ma 4), .ref (Ma 5), .ref (Ma 6), .int (Mv 2), .int (Mv 3), .int (Mv 4), .int (Mv 5), .int (Mv 6), .int (Mv 7), .int (Mv 8), .ref (Ma 7), .int (Mv 9), .ref (Ma 8), .int (Mv 10), .ref (Ma 9), .ref (Ma 10), .int (Mv 11), .int (Mv 12), .int (Mv 13), .ref (Ma 11), .int (Mv 14), .ref (Ma 12), .ref (Ma 13), .ref (Ma 14), .ref (Ma 15), .ref (Ma 16), .long (Mj 0), .ref (Ma 17), .ref (Ma 18), .ref (Ma 19), .ref (Ma 20)])), ((Ma 10), .inl (tc 0, 126, .inl (Mf 10)))] H := hP₀
  replace hD : va_D A [((Ma 0), .inr (12, [.ref (Ma 1), .int (Mv 0), .int (Mv 1), .ref (Ma 2), .ref (Ma 3), .ref (Ma 4), .ref (Ma 5), .ref (Ma 6), .int (Mv 2), .int (Mv 3), .int (Mv 4), .int (Mv 5), .int (Mv 6), .int (Mv 7), .int (Mv 8), .ref (Ma 7), .int (Mv 9), .ref (Ma 8), .int (Mv 10), .ref (Ma 9), .ref (Ma 10), .int (Mv 11), .int (Mv 12), .int (Mv 13), .ref (Ma 11), .int (Mv 14), .ref (Ma 12), .ref (Ma 13), .ref (Ma 14), .ref (Ma 15), .ref (Ma 16), .long (Mj 0), .ref (Ma 17), .ref (Ma 18), .ref (Ma 19), .ref (Ma 20)])), ((Ma 10), .inl (tc 0, 126, .inl (Mf 10)))] := hD₀
  replace hS := hS₀
  clear hP₀ hD₀ hS₀
  refine lv_if_eq (tgt := 25) hx hb dX12_isClock_4 (by decide) (fun c_7 => ?_) (fun c_7 => ?_)
  · skip
    refine lv_iconst (v := 0) hx hb dX12_isClock_25 (by decide) ?_
    have hp_8 : ((0 : Int32).toInt = 0 ∨ ((0 : Int32).toInt = 1 ∧ 0 ≤ x1.toInt ∧ x1.toInt < ((Mf 10) 2).toInt ∧ ((Mf 10) 2).toInt ≤ 10)) := by
      have z_1 := congrArg Int32.toInt c_7
      have y_0 : (0 : Int32).toInt = 0 := by decide
      omega
    exact retI (v := 0) hx hb hr hlk (rfl) hP hD hS () ⟨_, rfl, hp_8⟩ [0, 1] rfl rfl dX12_isClock_26 (Nat.le_of_ble_eq_true rfl) (Nat.le_of_ble_eq_true rfl) rfl
  · skip
    refine lv_iload_n hx hb dX12_isClock_7 rfl (lv_at hl 1 rfl) ?_
    refine lv_if_lt (tgt := 25) hx hb dX12_isClock_8 (by decide) (fun c_9 => ?_) (fun c_9 => ?_)
    · skip
      refine lv_iconst (v := 0) hx hb dX12_isClock_25 (by decide) ?_
      have hp_10 : ((0 : Int32).toInt = 0 ∨ ((0 : Int32).toInt = 1 ∧ 0 ≤ x1.toInt ∧ x1.toInt < ((Mf 10) 2).toInt ∧ ((Mf 10) 2).toInt ≤ 10)) := by
        have z_1 : ¬ (r_4 : Int32).toInt = (0 : Int32).toInt := fun z => c_7 (Int32.toInt_inj.mp z)
        have z_2 := Int32.lt_iff_toInt_lt.mp c_9
        have y_0 : (0 : Int32).toInt = 0 := by decide
        omega
      exact retI (v := 0) hx hb hr hlk (rfl) hP hD hS () ⟨_, rfl, hp_10⟩ [0, 1] rfl rfl dX12_isClock_26 (Nat.le_of_ble_eq_true rfl) (Nat.le_of_ble_eq_true rfl) rfl
    · skip
      refine lv_iload_n hx hb dX12_isClock_11 rfl (lv_at hl 1 rfl) ?_
      refine lv_aload_n hx hb dX12_isClock_12 rfl (lv_at hl 0 rfl) ?_
      refine gf_X12_39 hx hb hts hown hK hP 0 rfl rfl dX12_isClock_13 ?_
      refine lv_iconst (v := 2) hx hb dX12_isClock_16 (by decide) ?_
      refine va_iald hx hb hK hP 1 0 rfl rfl (vin_dec (by decide +kernel)) dX12_isClock_17 ?_
      refine lv_topi (fun x_11 ex_11 => ?_)
      have lx_11 : x_11.toInt = ((Mf 10) 2).toInt := congrArg Int32.toInt ex_11
      refine lv_icmp_ge (tgt := 25) hx hb dX12_isClock_18 (by decide) (fun c_12 => ?_) (fun c_12 => ?_)
      · skip
        refine lv_iconst (v := 0) hx hb dX12_isClock_25 (by decide) ?_
        have hp_13 : ((0 : Int32).toInt = 0 ∨ ((0 : Int32).toInt = 1 ∧ 0 ≤ x1.toInt ∧ x1.toInt < ((Mf 10) 2).toInt ∧ ((Mf 10) 2).toInt ≤ 10)) := by
          have z_1 : ¬ (r_4 : Int32).toInt = (0 : Int32).toInt := fun z => c_7 (Int32.toInt_inj.mp z)
          have z_2 := Int32.le_iff_toInt_le.mp (Int32.not_lt.mp c_9)
          have z_3 := Int32.le_iff_toInt_le.mp c_12
          have y_0 : (0 : Int32).toInt = 0 := by decide
          omega
        exact retI (v := 0) hx hb hr hlk (rfl) hP hD hS () ⟨_, rfl, hp_13⟩ [0, 1] rfl rfl dX12_isClock_26 (Nat.le_of_ble_eq_true rfl) (Nat.le_of_ble_eq_true rfl) rfl
      · skip
        refine lv_iconst (v := 1) hx hb dX12_isClock_21 (by decide) ?_
        refine lv_goto (tgt := 26) hx hb dX12_isClock_22 (by decide) ?_
        have hp_14 : ((1 : Int32).toInt = 0 ∨ ((1 : Int32).toInt = 1 ∧ 0 ≤ x1.toInt ∧ x1.toInt < ((Mf 10) 2).toInt ∧ ((Mf 10) 2).toInt ≤ 10)) := by
          have z_1 : ¬ (r_4 : Int32).toInt = (0 : Int32).toInt := fun z => c_7 (Int32.toInt_inj.mp z)
          have z_2 := Int32.le_iff_toInt_le.mp (Int32.not_lt.mp c_9)
          have z_3 := Int32.lt_iff_toInt_lt.mp (Int32.not_le.mp c_12)
          have y_0 : (0 : Int32).toInt = 0 := by decide
          have y_1 : (1 : Int32).toInt = 1 := by decide
          have yr : (1 : Int32).toInt = 1 := by decide
          omega
        exact retI (v := 1) hx hb hr hlk (rfl) hP hD hS () ⟨_, rfl, hp_14⟩ [0, 1] rfl rfl dX12_isClock_26 (Nat.le_of_ble_eq_true rfl) (Nat.le_of_ble_eq_true rfl) rfl
set_option maxRecDepth 100000 in
theorem cu_X12_isClock {T : Nat → Option Int32} (l : Launch) (D : va_G) (tc : Nat → ClassId) (sk : (Nat → Nat) × (Nat → Nat)) (Ma_0 : Nat) (Ma_1 : Nat) (Ma_2 : Nat) (Ma_3 : Nat) (Ma_4 : Nat) (Ma_5 : Nat) (Ma_6 : Nat) (Ma_7 : Nat) (Ma_8 : Nat) (Ma_9 : Nat) (Ma_10 : Nat) (Ma_11 : Nat) (Ma_12 : Nat) (Ma_13 : Nat) (Ma_14 : Nat) (Ma_15 : Nat) (Ma_16 : Nat) (Ma_17 : Nat) (Ma_18 : Nat) (Ma_19 : Nat) (Ma_20 : Nat) (Mv_0 : Int32) (Mv_1 : Int32) (Mv_2 : Int32) (Mv_3 : Int32) (Mv_4 : Int32) (Mv_5 : Int32) (Mv_6 : Int32) (Mv_7 : Int32) (Mv_8 : Int32) (Mv_9 : Int32) (Mv_10 : Int32) (Mv_11 : Int32) (Mv_12 : Int32) (Mv_13 : Int32) (Mv_14 : Int32) (Mf_10 : Nat → Int32) (Mj_0 : Int64) (x1 : Int32) (h_said : SaidB T Mf_10) : Ct l yX12_isClock cX12_isClock 2 (some .boolean) { frames := 1, cells := 0, slots := 0, locals := 20 } D tc sk [.ref Ma_0, .int x1] [(Ma_0, .inr (12, [.ref Ma_1, .int Mv_0, .int Mv_1, .ref Ma_2, .ref Ma_3, .ref Ma_4, .ref Ma_5, .ref Ma_6, .int Mv_2, .int Mv_3, .int Mv_4, .int Mv_5, .int Mv_6, .int Mv_7, .int Mv_8, .ref Ma_7, .int Mv_9, .ref Ma_8, .int Mv_10, .ref Ma_9, .ref Ma_10, .int Mv_11, .int Mv_12, .int Mv_13, .ref Ma_11, .int Mv_14, .ref Ma_12, .ref Ma_13, .ref Ma_14, .ref Ma_15, .ref Ma_16, .long Mj_0, .ref Ma_17, .ref Ma_18, .ref Ma_19, .ref Ma_20])), (Ma_10, .inl (tc 0, 126, .inl Mf_10))] (fun (v : Option Value) (_ : Unit) => ∃ r : Int32, v = some (.int r) ∧ ((r.toInt = 0 ∨ (r.toInt = 1 ∧ 0 ≤ x1.toInt ∧ x1.toInt < (Mf_10 2).toInt ∧ (Mf_10 2).toInt ≤ 10)))) (fun (_ : Unit) => [(Ma_0, .inr (12, [.ref Ma_1, .int Mv_0, .int Mv_1, .ref Ma_2, .ref Ma_3, .ref Ma_4, .ref Ma_5, .ref Ma_6, .int Mv_2, .int Mv_3, .int Mv_4, .int Mv_5, .int Mv_6, .int Mv_7, .int Mv_8, .ref Ma_7, .int Mv_9, .ref Ma_8, .int Mv_10, .ref Ma_9, .ref Ma_10, .int Mv_11, .int Mv_12, .int Mv_13, .ref Ma_11, .int Mv_14, .ref Ma_12, .ref Ma_13, .ref Ma_14, .ref Ma_15, .ref Ma_16, .long Mj_0, .ref Ma_17, .ref Ma_18, .ref Ma_19, .ref Ma_20])), (Ma_10, .inl (tc 0, 126, .inl Mf_10))]) 0 0 :=
  ct_X12_isClock l D tc sk (fun k => ([Ma_0, Ma_1, Ma_2, Ma_3, Ma_4, Ma_5, Ma_6, Ma_7, Ma_8, Ma_9, Ma_10, Ma_11, Ma_12, Ma_13, Ma_14, Ma_15, Ma_16, Ma_17, Ma_18, Ma_19, Ma_20] : List (Nat)).getD k 0) (fun k => ([Mv_0, Mv_1, Mv_2, Mv_3, Mv_4, Mv_5, Mv_6, Mv_7, Mv_8, Mv_9, Mv_10, Mv_11, Mv_12, Mv_13, Mv_14] : List (Int32)).getD k 0) (fun k => ([(fun _ => 0), (fun _ => 0), (fun _ => 0), (fun _ => 0), (fun _ => 0), (fun _ => 0), (fun _ => 0), (fun _ => 0), (fun _ => 0), (fun _ => 0), Mf_10] : List (Nat → Int32)).getD k (fun _ => 0)) (fun k => ([Mj_0] : List (Int64)).getD k 0) x1 h_said
set_option maxHeartbeats 4000000 in
set_option maxRecDepth 100000 in
theorem ct_X12_temperOf (l : Launch) (D : va_G) (tc : Nat → ClassId) (sk : (Nat → Nat) × (Nat → Nat)) (Ma : Nat → Nat) (Mv : Nat → Int32) (Mf : Nat → Nat → Int32) (Mj : Nat → Int64) (x1 : Int32) (h_b : 0 ≤ x1.toInt ∧ x1.toInt < 6) : Ct l yX12_temperOf cX12_temperOf 2 (some .int) { frames := 0, cells := 0, slots := 0, locals := 0 } D tc sk [.ref (Ma 0), .int x1] [((Ma 0), .inr (12, [.ref (Ma 1), .int (Mv 0), .int (Mv 1), .ref (Ma 2), .ref (Ma 3), .ref (Ma 4), .ref (Ma 5), .ref (Ma 6), .int (Mv 2), .int (Mv 3), .int (Mv 4), .int (Mv 5), .int (Mv 6), .int (Mv 7), .int (Mv 8), .ref (Ma 7), .int (Mv 9), .ref (Ma 8), .int (Mv 10), .ref (Ma 9), .ref (Ma 10), .int (Mv 11), .int (Mv 12), .int (Mv 13), .ref (Ma 11), .int (Mv 14), .ref (Ma 12), .ref (Ma 13), .ref (Ma 14), .ref (Ma 15), .ref (Ma 16), .long (Mj 0), .ref (Ma 17), .ref (Ma 18), .ref (Ma 19), .ref (Ma 20)])), ((Ma 10), .inl (tc 0, 126, .inl (Mf 10)))] (fun (v : Option Value) (_ : Unit) => ∃ r : Int32, v = some (.int r) ∧ (True)) (fun (_ : Unit) => [((Ma 0), .inr (12, [.ref (Ma 1), .int (Mv 0), .int (Mv 1), .ref (Ma 2), .ref (Ma 3), .ref (Ma 4), .ref (Ma 5), .ref (Ma 6), .int (Mv 2), .int (Mv 3), .int (Mv 4), .int (Mv 5), .int (Mv 6), .int (Mv 7), .int (Mv 8), .ref (Ma 7), .int (Mv 9), .ref (Ma 8), .int (Mv 10), .ref (Ma 9), .ref (Ma 10), .int (Mv 11), .int (Mv 12), .int (Mv 13), .ref (Ma 11), .int (Mv 14), .ref (Ma 12), .ref (Ma 13), .ref (Ma 14), .ref (Ma 15), .ref (Ma 16), .long (Mj 0), .ref (Ma 17), .ref (Ma 18), .ref (Ma 19), .ref (Ma 20)])), ((Ma 10), .inl (tc 0, 126, .inl (Mf 10)))]) 0 0 := by
  refine Ct.start (by decide) (Nat.le_of_ble_eq_true rfl) (fun p e s m below meth c A ls hx hb hr hlk hin hml hown hts hK hX hP hD hA hl hS => ?_)
  have hl : lv_has ls 2 [(0, .ref (Ma 0)), (1, .int x1)] := hl
  refine lv_aload_n hx hb dX12_temperOf_0 rfl (lv_at hl 0 rfl) ?_
  refine gf_X12_39 hx hb hts hown hK hP 0 rfl rfl dX12_temperOf_1 ?_
  refine lv_bipush (v := 12) hx hb dX12_temperOf_4 (by decide) ?_
  refine lv_iconst (v := 4) hx hb dX12_temperOf_6 (by decide) ?_
  refine lv_iload_n hx hb dX12_temperOf_7 rfl (lv_at hl 1 rfl) ?_
  refine lv_imul hx hb dX12_temperOf_8 ?_
  refine lv_topi (fun x_1 ex_1 => ?_)
  refine lv_iadd hx hb dX12_temperOf_9 ?_
  refine lv_topi (fun x_2 ex_2 => ?_)
  have hi_3 : vp_in x_2 126 := by
    have y_4 : (4 : Int32).toInt = 4 := by decide
    have y_12 : (12 : Int32).toInt = 12 := by decide
    have t_x_1 : x_1.toInt = (4 : Int32).toInt * (x1 : Int32).toInt := by rw [ex_1]; exact mul_toInt (by first | omega | (rw [y_4]; omega)) (by first | omega | (rw [y_4]; omega))
    rw [y_4] at t_x_1
    have t_x_2 : x_2.toInt = (12 : Int32).toInt + (x_1 : Int32).toInt := by rw [ex_2]; exact add_toInt (by omega) (by omega)
    refine vp_in_iff.mpr ⟨?_, ?_⟩ <;> omega
  refine va_iald hx hb hK hP 1 0 rfl rfl hi_3 dX12_temperOf_10 ?_
  refine lv_topi (fun x_4 ex_4 => ?_)
  exact retI (v := x_4) hx hb hr hlk (rfl) hP hD hS () ⟨_, rfl, trivial⟩ [0, 1] rfl rfl dX12_temperOf_11 (Nat.le_of_ble_eq_true rfl) (Nat.le_of_ble_eq_true rfl) rfl
set_option maxRecDepth 100000 in
theorem cu_X12_temperOf (l : Launch) (D : va_G) (tc : Nat → ClassId) (sk : (Nat → Nat) × (Nat → Nat)) (Ma_0 : Nat) (Ma_1 : Nat) (Ma_2 : Nat) (Ma_3 : Nat) (Ma_4 : Nat) (Ma_5 : Nat) (Ma_6 : Nat) (Ma_7 : Nat) (Ma_8 : Nat) (Ma_9 : Nat) (Ma_10 : Nat) (Ma_11 : Nat) (Ma_12 : Nat) (Ma_13 : Nat) (Ma_14 : Nat) (Ma_15 : Nat) (Ma_16 : Nat) (Ma_17 : Nat) (Ma_18 : Nat) (Ma_19 : Nat) (Ma_20 : Nat) (Mv_0 : Int32) (Mv_1 : Int32) (Mv_2 : Int32) (Mv_3 : Int32) (Mv_4 : Int32) (Mv_5 : Int32) (Mv_6 : Int32) (Mv_7 : Int32) (Mv_8 : Int32) (Mv_9 : Int32) (Mv_10 : Int32) (Mv_11 : Int32) (Mv_12 : Int32) (Mv_13 : Int32) (Mv_14 : Int32) (Mf_10 : Nat → Int32) (Mj_0 : Int64) (x1 : Int32) (h_b : 0 ≤ x1.toInt ∧ x1.toInt < 6) : Ct l yX12_temperOf cX12_temperOf 2 (some .int) { frames := 0, cells := 0, slots := 0, locals := 0 } D tc sk [.ref Ma_0, .int x1] [(Ma_0, .inr (12, [.ref Ma_1, .int Mv_0, .int Mv_1, .ref Ma_2, .ref Ma_3, .ref Ma_4, .ref Ma_5, .ref Ma_6, .int Mv_2, .int Mv_3, .int Mv_4, .int Mv_5, .int Mv_6, .int Mv_7, .int Mv_8, .ref Ma_7, .int Mv_9, .ref Ma_8, .int Mv_10, .ref Ma_9, .ref Ma_10, .int Mv_11, .int Mv_12, .int Mv_13, .ref Ma_11, .int Mv_14, .ref Ma_12, .ref Ma_13, .ref Ma_14, .ref Ma_15, .ref Ma_16, .long Mj_0, .ref Ma_17, .ref Ma_18, .ref Ma_19, .ref Ma_20])), (Ma_10, .inl (tc 0, 126, .inl Mf_10))] (fun (v : Option Value) (_ : Unit) => ∃ r : Int32, v = some (.int r) ∧ (True)) (fun (_ : Unit) => [(Ma_0, .inr (12, [.ref Ma_1, .int Mv_0, .int Mv_1, .ref Ma_2, .ref Ma_3, .ref Ma_4, .ref Ma_5, .ref Ma_6, .int Mv_2, .int Mv_3, .int Mv_4, .int Mv_5, .int Mv_6, .int Mv_7, .int Mv_8, .ref Ma_7, .int Mv_9, .ref Ma_8, .int Mv_10, .ref Ma_9, .ref Ma_10, .int Mv_11, .int Mv_12, .int Mv_13, .ref Ma_11, .int Mv_14, .ref Ma_12, .ref Ma_13, .ref Ma_14, .ref Ma_15, .ref Ma_16, .long Mj_0, .ref Ma_17, .ref Ma_18, .ref Ma_19, .ref Ma_20])), (Ma_10, .inl (tc 0, 126, .inl Mf_10))]) 0 0 :=
  ct_X12_temperOf l D tc sk (fun k => ([Ma_0, Ma_1, Ma_2, Ma_3, Ma_4, Ma_5, Ma_6, Ma_7, Ma_8, Ma_9, Ma_10, Ma_11, Ma_12, Ma_13, Ma_14, Ma_15, Ma_16, Ma_17, Ma_18, Ma_19, Ma_20] : List (Nat)).getD k 0) (fun k => ([Mv_0, Mv_1, Mv_2, Mv_3, Mv_4, Mv_5, Mv_6, Mv_7, Mv_8, Mv_9, Mv_10, Mv_11, Mv_12, Mv_13, Mv_14] : List (Int32)).getD k 0) (fun k => ([(fun _ => 0), (fun _ => 0), (fun _ => 0), (fun _ => 0), (fun _ => 0), (fun _ => 0), (fun _ => 0), (fun _ => 0), (fun _ => 0), (fun _ => 0), Mf_10] : List (Nat → Int32)).getD k (fun _ => 0)) (fun k => ([Mj_0] : List (Int64)).getD k 0) x1 h_b
set_option maxHeartbeats 4000000 in
set_option maxRecDepth 100000 in
theorem ct_X12_boughtBy (l : Launch) (D : va_G) (tc : Nat → ClassId) (sk : (Nat → Nat) × (Nat → Nat)) (Ma : Nat → Nat) (Mv : Nat → Int32) (Mf : Nat → Nat → Int32) (Mj : Nat → Int64) (x1 : Int32) (h_b : 0 ≤ x1.toInt ∧ x1.toInt < 6) : Ct l yX12_boughtBy cX12_boughtBy 2 (some .int) { frames := 0, cells := 0, slots := 0, locals := 0 } D tc sk [.ref (Ma 0), .int x1] [((Ma 0), .inr (12, [.ref (Ma 1), .int (Mv 0), .int (Mv 1), .ref (Ma 2), .ref (Ma 3), .ref (Ma 4), .ref (Ma 5), .ref (Ma 6), .int (Mv 2), .int (Mv 3), .int (Mv 4), .int (Mv 5), .int (Mv 6), .int (Mv 7), .int (Mv 8), .ref (Ma 7), .int (Mv 9), .ref (Ma 8), .int (Mv 10), .ref (Ma 9), .ref (Ma 10), .int (Mv 11), .int (Mv 12), .int (Mv 13), .ref (Ma 11), .int (Mv 14), .ref (Ma 12), .ref (Ma 13), .ref (Ma 14), .ref (Ma 15), .ref (Ma 16), .long (Mj 0), .ref (Ma 17), .ref (Ma 18), .ref (Ma 19), .ref (Ma 20)])), ((Ma 10), .inl (tc 0, 126, .inl (Mf 10)))] (fun (v : Option Value) (_ : Unit) => ∃ r : Int32, v = some (.int r) ∧ (True)) (fun (_ : Unit) => [((Ma 0), .inr (12, [.ref (Ma 1), .int (Mv 0), .int (Mv 1), .ref (Ma 2), .ref (Ma 3), .ref (Ma 4), .ref (Ma 5), .ref (Ma 6), .int (Mv 2), .int (Mv 3), .int (Mv 4), .int (Mv 5), .int (Mv 6), .int (Mv 7), .int (Mv 8), .ref (Ma 7), .int (Mv 9), .ref (Ma 8), .int (Mv 10), .ref (Ma 9), .ref (Ma 10), .int (Mv 11), .int (Mv 12), .int (Mv 13), .ref (Ma 11), .int (Mv 14), .ref (Ma 12), .ref (Ma 13), .ref (Ma 14), .ref (Ma 15), .ref (Ma 16), .long (Mj 0), .ref (Ma 17), .ref (Ma 18), .ref (Ma 19), .ref (Ma 20)])), ((Ma 10), .inl (tc 0, 126, .inl (Mf 10)))]) 0 0 := by
  refine Ct.start (by decide) (Nat.le_of_ble_eq_true rfl) (fun p e s m below meth c A ls hx hb hr hlk hin hml hown hts hK hX hP hD hA hl hS => ?_)
  have hl : lv_has ls 2 [(0, .ref (Ma 0)), (1, .int x1)] := hl
  refine lv_aload_n hx hb dX12_boughtBy_0 rfl (lv_at hl 0 rfl) ?_
  refine gf_X12_39 hx hb hts hown hK hP 0 rfl rfl dX12_boughtBy_1 ?_
  refine lv_bipush (v := 12) hx hb dX12_boughtBy_4 (by decide) ?_
  refine lv_iconst (v := 4) hx hb dX12_boughtBy_6 (by decide) ?_
  refine lv_iload_n hx hb dX12_boughtBy_7 rfl (lv_at hl 1 rfl) ?_
  refine lv_imul hx hb dX12_boughtBy_8 ?_
  refine lv_topi (fun x_1 ex_1 => ?_)
  refine lv_iadd hx hb dX12_boughtBy_9 ?_
  refine lv_topi (fun x_2 ex_2 => ?_)
  refine lv_iconst (v := 1) hx hb dX12_boughtBy_10 (by decide) ?_
  refine lv_iadd hx hb dX12_boughtBy_11 ?_
  refine lv_topi (fun x_3 ex_3 => ?_)
  have hi_4 : vp_in x_3 126 := by
    have y_1 : (1 : Int32).toInt = 1 := by decide
    have y_4 : (4 : Int32).toInt = 4 := by decide
    have y_12 : (12 : Int32).toInt = 12 := by decide
    have t_x_1 : x_1.toInt = (4 : Int32).toInt * (x1 : Int32).toInt := by rw [ex_1]; exact mul_toInt (by first | omega | (rw [y_4]; omega)) (by first | omega | (rw [y_4]; omega))
    rw [y_4] at t_x_1
    have t_x_2 : x_2.toInt = (12 : Int32).toInt + (x_1 : Int32).toInt := by rw [ex_2]; exact add_toInt (by omega) (by omega)
    have t_x_3 : x_3.toInt = (x_2 : Int32).toInt + (1 : Int32).toInt := by rw [ex_3]; exact add_toInt (by omega) (by omega)
    refine vp_in_iff.mpr ⟨?_, ?_⟩ <;> omega
  refine va_iald hx hb hK hP 1 0 rfl rfl hi_4 dX12_boughtBy_12 ?_
  refine lv_topi (fun x_5 ex_5 => ?_)
  exact retI (v := x_5) hx hb hr hlk (rfl) hP hD hS () ⟨_, rfl, trivial⟩ [0, 1] rfl rfl dX12_boughtBy_13 (Nat.le_of_ble_eq_true rfl) (Nat.le_of_ble_eq_true rfl) rfl
set_option maxRecDepth 100000 in
theorem cu_X12_boughtBy (l : Launch) (D : va_G) (tc : Nat → ClassId) (sk : (Nat → Nat) × (Nat → Nat)) (Ma_0 : Nat) (Ma_1 : Nat) (Ma_2 : Nat) (Ma_3 : Nat) (Ma_4 : Nat) (Ma_5 : Nat) (Ma_6 : Nat) (Ma_7 : Nat) (Ma_8 : Nat) (Ma_9 : Nat) (Ma_10 : Nat) (Ma_11 : Nat) (Ma_12 : Nat) (Ma_13 : Nat) (Ma_14 : Nat) (Ma_15 : Nat) (Ma_16 : Nat) (Ma_17 : Nat) (Ma_18 : Nat) (Ma_19 : Nat) (Ma_20 : Nat) (Mv_0 : Int32) (Mv_1 : Int32) (Mv_2 : Int32) (Mv_3 : Int32) (Mv_4 : Int32) (Mv_5 : Int32) (Mv_6 : Int32) (Mv_7 : Int32) (Mv_8 : Int32) (Mv_9 : Int32) (Mv_10 : Int32) (Mv_11 : Int32) (Mv_12 : Int32) (Mv_13 : Int32) (Mv_14 : Int32) (Mf_10 : Nat → Int32) (Mj_0 : Int64) (x1 : Int32) (h_b : 0 ≤ x1.toInt ∧ x1.toInt < 6) : Ct l yX12_boughtBy cX12_boughtBy 2 (some .int) { frames := 0, cells := 0, slots := 0, locals := 0 } D tc sk [.ref Ma_0, .int x1] [(Ma_0, .inr (12, [.ref Ma_1, .int Mv_0, .int Mv_1, .ref Ma_2, .ref Ma_3, .ref Ma_4, .ref Ma_5, .ref Ma_6, .int Mv_2, .int Mv_3, .int Mv_4, .int Mv_5, .int Mv_6, .int Mv_7, .int Mv_8, .ref Ma_7, .int Mv_9, .ref Ma_8, .int Mv_10, .ref Ma_9, .ref Ma_10, .int Mv_11, .int Mv_12, .int Mv_13, .ref Ma_11, .int Mv_14, .ref Ma_12, .ref Ma_13, .ref Ma_14, .ref Ma_15, .ref Ma_16, .long Mj_0, .ref Ma_17, .ref Ma_18, .ref Ma_19, .ref Ma_20])), (Ma_10, .inl (tc 0, 126, .inl Mf_10))] (fun (v : Option Value) (_ : Unit) => ∃ r : Int32, v = some (.int r) ∧ (True)) (fun (_ : Unit) => [(Ma_0, .inr (12, [.ref Ma_1, .int Mv_0, .int Mv_1, .ref Ma_2, .ref Ma_3, .ref Ma_4, .ref Ma_5, .ref Ma_6, .int Mv_2, .int Mv_3, .int Mv_4, .int Mv_5, .int Mv_6, .int Mv_7, .int Mv_8, .ref Ma_7, .int Mv_9, .ref Ma_8, .int Mv_10, .ref Ma_9, .ref Ma_10, .int Mv_11, .int Mv_12, .int Mv_13, .ref Ma_11, .int Mv_14, .ref Ma_12, .ref Ma_13, .ref Ma_14, .ref Ma_15, .ref Ma_16, .long Mj_0, .ref Ma_17, .ref Ma_18, .ref Ma_19, .ref Ma_20])), (Ma_10, .inl (tc 0, 126, .inl Mf_10))]) 0 0 :=
  ct_X12_boughtBy l D tc sk (fun k => ([Ma_0, Ma_1, Ma_2, Ma_3, Ma_4, Ma_5, Ma_6, Ma_7, Ma_8, Ma_9, Ma_10, Ma_11, Ma_12, Ma_13, Ma_14, Ma_15, Ma_16, Ma_17, Ma_18, Ma_19, Ma_20] : List (Nat)).getD k 0) (fun k => ([Mv_0, Mv_1, Mv_2, Mv_3, Mv_4, Mv_5, Mv_6, Mv_7, Mv_8, Mv_9, Mv_10, Mv_11, Mv_12, Mv_13, Mv_14] : List (Int32)).getD k 0) (fun k => ([(fun _ => 0), (fun _ => 0), (fun _ => 0), (fun _ => 0), (fun _ => 0), (fun _ => 0), (fun _ => 0), (fun _ => 0), (fun _ => 0), (fun _ => 0), Mf_10] : List (Nat → Int32)).getD k (fun _ => 0)) (fun k => ([Mj_0] : List (Int64)).getD k 0) x1 h_b
set_option maxHeartbeats 4000000 in
set_option maxRecDepth 100000 in
theorem ct_X12_metOf (l : Launch) (D : va_G) (tc : Nat → ClassId) (sk : (Nat → Nat) × (Nat → Nat)) (Ma : Nat → Nat) (Mv : Nat → Int32) (Mf : Nat → Nat → Int32) (Mj : Nat → Int64) (x1 : Int32) (h_b : 0 ≤ x1.toInt ∧ x1.toInt < 6) : Ct l yX12_metOf cX12_metOf 2 (some .int) { frames := 0, cells := 0, slots := 0, locals := 0 } D tc sk [.ref (Ma 0), .int x1] [((Ma 0), .inr (12, [.ref (Ma 1), .int (Mv 0), .int (Mv 1), .ref (Ma 2), .ref (Ma 3), .ref (Ma 4), .ref (Ma 5), .ref (Ma 6), .int (Mv 2), .int (Mv 3), .int (Mv 4), .int (Mv 5), .int (Mv 6), .int (Mv 7), .int (Mv 8), .ref (Ma 7), .int (Mv 9), .ref (Ma 8), .int (Mv 10), .ref (Ma 9), .ref (Ma 10), .int (Mv 11), .int (Mv 12), .int (Mv 13), .ref (Ma 11), .int (Mv 14), .ref (Ma 12), .ref (Ma 13), .ref (Ma 14), .ref (Ma 15), .ref (Ma 16), .long (Mj 0), .ref (Ma 17), .ref (Ma 18), .ref (Ma 19), .ref (Ma 20)])), ((Ma 10), .inl (tc 0, 126, .inl (Mf 10)))] (fun (v : Option Value) (_ : Unit) => ∃ r : Int32, v = some (.int r) ∧ (True)) (fun (_ : Unit) => [((Ma 0), .inr (12, [.ref (Ma 1), .int (Mv 0), .int (Mv 1), .ref (Ma 2), .ref (Ma 3), .ref (Ma 4), .ref (Ma 5), .ref (Ma 6), .int (Mv 2), .int (Mv 3), .int (Mv 4), .int (Mv 5), .int (Mv 6), .int (Mv 7), .int (Mv 8), .ref (Ma 7), .int (Mv 9), .ref (Ma 8), .int (Mv 10), .ref (Ma 9), .ref (Ma 10), .int (Mv 11), .int (Mv 12), .int (Mv 13), .ref (Ma 11), .int (Mv 14), .ref (Ma 12), .ref (Ma 13), .ref (Ma 14), .ref (Ma 15), .ref (Ma 16), .long (Mj 0), .ref (Ma 17), .ref (Ma 18), .ref (Ma 19), .ref (Ma 20)])), ((Ma 10), .inl (tc 0, 126, .inl (Mf 10)))]) 0 0 := by
  refine Ct.start (by decide) (Nat.le_of_ble_eq_true rfl) (fun p e s m below meth c A ls hx hb hr hlk hin hml hown hts hK hX hP hD hA hl hS => ?_)
  have hl : lv_has ls 2 [(0, .ref (Ma 0)), (1, .int x1)] := hl
  refine lv_aload_n hx hb dX12_metOf_0 rfl (lv_at hl 0 rfl) ?_
  refine gf_X12_39 hx hb hts hown hK hP 0 rfl rfl dX12_metOf_1 ?_
  refine lv_bipush (v := 12) hx hb dX12_metOf_4 (by decide) ?_
  refine lv_iconst (v := 4) hx hb dX12_metOf_6 (by decide) ?_
  refine lv_iload_n hx hb dX12_metOf_7 rfl (lv_at hl 1 rfl) ?_
  refine lv_imul hx hb dX12_metOf_8 ?_
  refine lv_topi (fun x_1 ex_1 => ?_)
  refine lv_iadd hx hb dX12_metOf_9 ?_
  refine lv_topi (fun x_2 ex_2 => ?_)
  refine lv_iconst (v := 2) hx hb dX12_metOf_10 (by decide) ?_
  refine lv_iadd hx hb dX12_metOf_11 ?_
  refine lv_topi (fun x_3 ex_3 => ?_)
  have hi_4 : vp_in x_3 126 := by
    have y_2 : (2 : Int32).toInt = 2 := by decide
    have y_4 : (4 : Int32).toInt = 4 := by decide
    have y_12 : (12 : Int32).toInt = 12 := by decide
    have t_x_1 : x_1.toInt = (4 : Int32).toInt * (x1 : Int32).toInt := by rw [ex_1]; exact mul_toInt (by first | omega | (rw [y_4]; omega)) (by first | omega | (rw [y_4]; omega))
    rw [y_4] at t_x_1
    have t_x_2 : x_2.toInt = (12 : Int32).toInt + (x_1 : Int32).toInt := by rw [ex_2]; exact add_toInt (by omega) (by omega)
    have t_x_3 : x_3.toInt = (x_2 : Int32).toInt + (2 : Int32).toInt := by rw [ex_3]; exact add_toInt (by omega) (by omega)
    refine vp_in_iff.mpr ⟨?_, ?_⟩ <;> omega
  refine va_iald hx hb hK hP 1 0 rfl rfl hi_4 dX12_metOf_12 ?_
  refine lv_topi (fun x_5 ex_5 => ?_)
  exact retI (v := x_5) hx hb hr hlk (rfl) hP hD hS () ⟨_, rfl, trivial⟩ [0, 1] rfl rfl dX12_metOf_13 (Nat.le_of_ble_eq_true rfl) (Nat.le_of_ble_eq_true rfl) rfl
set_option maxRecDepth 100000 in
theorem cu_X12_metOf (l : Launch) (D : va_G) (tc : Nat → ClassId) (sk : (Nat → Nat) × (Nat → Nat)) (Ma_0 : Nat) (Ma_1 : Nat) (Ma_2 : Nat) (Ma_3 : Nat) (Ma_4 : Nat) (Ma_5 : Nat) (Ma_6 : Nat) (Ma_7 : Nat) (Ma_8 : Nat) (Ma_9 : Nat) (Ma_10 : Nat) (Ma_11 : Nat) (Ma_12 : Nat) (Ma_13 : Nat) (Ma_14 : Nat) (Ma_15 : Nat) (Ma_16 : Nat) (Ma_17 : Nat) (Ma_18 : Nat) (Ma_19 : Nat) (Ma_20 : Nat) (Mv_0 : Int32) (Mv_1 : Int32) (Mv_2 : Int32) (Mv_3 : Int32) (Mv_4 : Int32) (Mv_5 : Int32) (Mv_6 : Int32) (Mv_7 : Int32) (Mv_8 : Int32) (Mv_9 : Int32) (Mv_10 : Int32) (Mv_11 : Int32) (Mv_12 : Int32) (Mv_13 : Int32) (Mv_14 : Int32) (Mf_10 : Nat → Int32) (Mj_0 : Int64) (x1 : Int32) (h_b : 0 ≤ x1.toInt ∧ x1.toInt < 6) : Ct l yX12_metOf cX12_metOf 2 (some .int) { frames := 0, cells := 0, slots := 0, locals := 0 } D tc sk [.ref Ma_0, .int x1] [(Ma_0, .inr (12, [.ref Ma_1, .int Mv_0, .int Mv_1, .ref Ma_2, .ref Ma_3, .ref Ma_4, .ref Ma_5, .ref Ma_6, .int Mv_2, .int Mv_3, .int Mv_4, .int Mv_5, .int Mv_6, .int Mv_7, .int Mv_8, .ref Ma_7, .int Mv_9, .ref Ma_8, .int Mv_10, .ref Ma_9, .ref Ma_10, .int Mv_11, .int Mv_12, .int Mv_13, .ref Ma_11, .int Mv_14, .ref Ma_12, .ref Ma_13, .ref Ma_14, .ref Ma_15, .ref Ma_16, .long Mj_0, .ref Ma_17, .ref Ma_18, .ref Ma_19, .ref Ma_20])), (Ma_10, .inl (tc 0, 126, .inl Mf_10))] (fun (v : Option Value) (_ : Unit) => ∃ r : Int32, v = some (.int r) ∧ (True)) (fun (_ : Unit) => [(Ma_0, .inr (12, [.ref Ma_1, .int Mv_0, .int Mv_1, .ref Ma_2, .ref Ma_3, .ref Ma_4, .ref Ma_5, .ref Ma_6, .int Mv_2, .int Mv_3, .int Mv_4, .int Mv_5, .int Mv_6, .int Mv_7, .int Mv_8, .ref Ma_7, .int Mv_9, .ref Ma_8, .int Mv_10, .ref Ma_9, .ref Ma_10, .int Mv_11, .int Mv_12, .int Mv_13, .ref Ma_11, .int Mv_14, .ref Ma_12, .ref Ma_13, .ref Ma_14, .ref Ma_15, .ref Ma_16, .long Mj_0, .ref Ma_17, .ref Ma_18, .ref Ma_19, .ref Ma_20])), (Ma_10, .inl (tc 0, 126, .inl Mf_10))]) 0 0 :=
  ct_X12_metOf l D tc sk (fun k => ([Ma_0, Ma_1, Ma_2, Ma_3, Ma_4, Ma_5, Ma_6, Ma_7, Ma_8, Ma_9, Ma_10, Ma_11, Ma_12, Ma_13, Ma_14, Ma_15, Ma_16, Ma_17, Ma_18, Ma_19, Ma_20] : List (Nat)).getD k 0) (fun k => ([Mv_0, Mv_1, Mv_2, Mv_3, Mv_4, Mv_5, Mv_6, Mv_7, Mv_8, Mv_9, Mv_10, Mv_11, Mv_12, Mv_13, Mv_14] : List (Int32)).getD k 0) (fun k => ([(fun _ => 0), (fun _ => 0), (fun _ => 0), (fun _ => 0), (fun _ => 0), (fun _ => 0), (fun _ => 0), (fun _ => 0), (fun _ => 0), (fun _ => 0), Mf_10] : List (Nat → Int32)).getD k (fun _ => 0)) (fun k => ([Mj_0] : List (Int64)).getD k 0) x1 h_b
set_option maxHeartbeats 4000000 in
set_option maxRecDepth 100000 in
theorem ct_X12_lastOf (l : Launch) (D : va_G) (tc : Nat → ClassId) (sk : (Nat → Nat) × (Nat → Nat)) (Ma : Nat → Nat) (Mv : Nat → Int32) (Mf : Nat → Nat → Int32) (Mj : Nat → Int64) (x1 : Int32) (h_b : 0 ≤ x1.toInt ∧ x1.toInt < 6) : Ct l yX12_lastOf cX12_lastOf 2 (some .int) { frames := 0, cells := 0, slots := 0, locals := 0 } D tc sk [.ref (Ma 0), .int x1] [((Ma 0), .inr (12, [.ref (Ma 1), .int (Mv 0), .int (Mv 1), .ref (Ma 2), .ref (Ma 3), .ref (Ma 4), .ref (Ma 5), .ref (Ma 6), .int (Mv 2), .int (Mv 3), .int (Mv 4), .int (Mv 5), .int (Mv 6), .int (Mv 7), .int (Mv 8), .ref (Ma 7), .int (Mv 9), .ref (Ma 8), .int (Mv 10), .ref (Ma 9), .ref (Ma 10), .int (Mv 11), .int (Mv 12), .int (Mv 13), .ref (Ma 11), .int (Mv 14), .ref (Ma 12), .ref (Ma 13), .ref (Ma 14), .ref (Ma 15), .ref (Ma 16), .long (Mj 0), .ref (Ma 17), .ref (Ma 18), .ref (Ma 19), .ref (Ma 20)])), ((Ma 10), .inl (tc 0, 126, .inl (Mf 10)))] (fun (v : Option Value) (_ : Unit) => ∃ r : Int32, v = some (.int r) ∧ (True)) (fun (_ : Unit) => [((Ma 0), .inr (12, [.ref (Ma 1), .int (Mv 0), .int (Mv 1), .ref (Ma 2), .ref (Ma 3), .ref (Ma 4), .ref (Ma 5), .ref (Ma 6), .int (Mv 2), .int (Mv 3), .int (Mv 4), .int (Mv 5), .int (Mv 6), .int (Mv 7), .int (Mv 8), .ref (Ma 7), .int (Mv 9), .ref (Ma 8), .int (Mv 10), .ref (Ma 9), .ref (Ma 10), .int (Mv 11), .int (Mv 12), .int (Mv 13), .ref (Ma 11), .int (Mv 14), .ref (Ma 12), .ref (Ma 13), .ref (Ma 14), .ref (Ma 15), .ref (Ma 16), .long (Mj 0), .ref (Ma 17), .ref (Ma 18), .ref (Ma 19), .ref (Ma 20)])), ((Ma 10), .inl (tc 0, 126, .inl (Mf 10)))]) 0 0 := by
  refine Ct.start (by decide) (Nat.le_of_ble_eq_true rfl) (fun p e s m below meth c A ls hx hb hr hlk hin hml hown hts hK hX hP hD hA hl hS => ?_)
  have hl : lv_has ls 2 [(0, .ref (Ma 0)), (1, .int x1)] := hl
  refine lv_aload_n hx hb dX12_lastOf_0 rfl (lv_at hl 0 rfl) ?_
  refine gf_X12_39 hx hb hts hown hK hP 0 rfl rfl dX12_lastOf_1 ?_
  refine lv_bipush (v := 12) hx hb dX12_lastOf_4 (by decide) ?_
  refine lv_iconst (v := 4) hx hb dX12_lastOf_6 (by decide) ?_
  refine lv_iload_n hx hb dX12_lastOf_7 rfl (lv_at hl 1 rfl) ?_
  refine lv_imul hx hb dX12_lastOf_8 ?_
  refine lv_topi (fun x_1 ex_1 => ?_)
  refine lv_iadd hx hb dX12_lastOf_9 ?_
  refine lv_topi (fun x_2 ex_2 => ?_)
  refine lv_iconst (v := 3) hx hb dX12_lastOf_10 (by decide) ?_
  refine lv_iadd hx hb dX12_lastOf_11 ?_
  refine lv_topi (fun x_3 ex_3 => ?_)
  have hi_4 : vp_in x_3 126 := by
    have y_3 : (3 : Int32).toInt = 3 := by decide
    have y_4 : (4 : Int32).toInt = 4 := by decide
    have y_12 : (12 : Int32).toInt = 12 := by decide
    have t_x_1 : x_1.toInt = (4 : Int32).toInt * (x1 : Int32).toInt := by rw [ex_1]; exact mul_toInt (by first | omega | (rw [y_4]; omega)) (by first | omega | (rw [y_4]; omega))
    rw [y_4] at t_x_1
    have t_x_2 : x_2.toInt = (12 : Int32).toInt + (x_1 : Int32).toInt := by rw [ex_2]; exact add_toInt (by omega) (by omega)
    have t_x_3 : x_3.toInt = (x_2 : Int32).toInt + (3 : Int32).toInt := by rw [ex_3]; exact add_toInt (by omega) (by omega)
    refine vp_in_iff.mpr ⟨?_, ?_⟩ <;> omega
  refine va_iald hx hb hK hP 1 0 rfl rfl hi_4 dX12_lastOf_12 ?_
  refine lv_topi (fun x_5 ex_5 => ?_)
  exact retI (v := x_5) hx hb hr hlk (rfl) hP hD hS () ⟨_, rfl, trivial⟩ [0, 1] rfl rfl dX12_lastOf_13 (Nat.le_of_ble_eq_true rfl) (Nat.le_of_ble_eq_true rfl) rfl
set_option maxRecDepth 100000 in
theorem cu_X12_lastOf (l : Launch) (D : va_G) (tc : Nat → ClassId) (sk : (Nat → Nat) × (Nat → Nat)) (Ma_0 : Nat) (Ma_1 : Nat) (Ma_2 : Nat) (Ma_3 : Nat) (Ma_4 : Nat) (Ma_5 : Nat) (Ma_6 : Nat) (Ma_7 : Nat) (Ma_8 : Nat) (Ma_9 : Nat) (Ma_10 : Nat) (Ma_11 : Nat) (Ma_12 : Nat) (Ma_13 : Nat) (Ma_14 : Nat) (Ma_15 : Nat) (Ma_16 : Nat) (Ma_17 : Nat) (Ma_18 : Nat) (Ma_19 : Nat) (Ma_20 : Nat) (Mv_0 : Int32) (Mv_1 : Int32) (Mv_2 : Int32) (Mv_3 : Int32) (Mv_4 : Int32) (Mv_5 : Int32) (Mv_6 : Int32) (Mv_7 : Int32) (Mv_8 : Int32) (Mv_9 : Int32) (Mv_10 : Int32) (Mv_11 : Int32) (Mv_12 : Int32) (Mv_13 : Int32) (Mv_14 : Int32) (Mf_10 : Nat → Int32) (Mj_0 : Int64) (x1 : Int32) (h_b : 0 ≤ x1.toInt ∧ x1.toInt < 6) : Ct l yX12_lastOf cX12_lastOf 2 (some .int) { frames := 0, cells := 0, slots := 0, locals := 0 } D tc sk [.ref Ma_0, .int x1] [(Ma_0, .inr (12, [.ref Ma_1, .int Mv_0, .int Mv_1, .ref Ma_2, .ref Ma_3, .ref Ma_4, .ref Ma_5, .ref Ma_6, .int Mv_2, .int Mv_3, .int Mv_4, .int Mv_5, .int Mv_6, .int Mv_7, .int Mv_8, .ref Ma_7, .int Mv_9, .ref Ma_8, .int Mv_10, .ref Ma_9, .ref Ma_10, .int Mv_11, .int Mv_12, .int Mv_13, .ref Ma_11, .int Mv_14, .ref Ma_12, .ref Ma_13, .ref Ma_14, .ref Ma_15, .ref Ma_16, .long Mj_0, .ref Ma_17, .ref Ma_18, .ref Ma_19, .ref Ma_20])), (Ma_10, .inl (tc 0, 126, .inl Mf_10))] (fun (v : Option Value) (_ : Unit) => ∃ r : Int32, v = some (.int r) ∧ (True)) (fun (_ : Unit) => [(Ma_0, .inr (12, [.ref Ma_1, .int Mv_0, .int Mv_1, .ref Ma_2, .ref Ma_3, .ref Ma_4, .ref Ma_5, .ref Ma_6, .int Mv_2, .int Mv_3, .int Mv_4, .int Mv_5, .int Mv_6, .int Mv_7, .int Mv_8, .ref Ma_7, .int Mv_9, .ref Ma_8, .int Mv_10, .ref Ma_9, .ref Ma_10, .int Mv_11, .int Mv_12, .int Mv_13, .ref Ma_11, .int Mv_14, .ref Ma_12, .ref Ma_13, .ref Ma_14, .ref Ma_15, .ref Ma_16, .long Mj_0, .ref Ma_17, .ref Ma_18, .ref Ma_19, .ref Ma_20])), (Ma_10, .inl (tc 0, 126, .inl Mf_10))]) 0 0 :=
  ct_X12_lastOf l D tc sk (fun k => ([Ma_0, Ma_1, Ma_2, Ma_3, Ma_4, Ma_5, Ma_6, Ma_7, Ma_8, Ma_9, Ma_10, Ma_11, Ma_12, Ma_13, Ma_14, Ma_15, Ma_16, Ma_17, Ma_18, Ma_19, Ma_20] : List (Nat)).getD k 0) (fun k => ([Mv_0, Mv_1, Mv_2, Mv_3, Mv_4, Mv_5, Mv_6, Mv_7, Mv_8, Mv_9, Mv_10, Mv_11, Mv_12, Mv_13, Mv_14] : List (Int32)).getD k 0) (fun k => ([(fun _ => 0), (fun _ => 0), (fun _ => 0), (fun _ => 0), (fun _ => 0), (fun _ => 0), (fun _ => 0), (fun _ => 0), (fun _ => 0), (fun _ => 0), Mf_10] : List (Nat → Int32)).getD k (fun _ => 0)) (fun k => ([Mj_0] : List (Int64)).getD k 0) x1 h_b
set_option maxHeartbeats 4000000 in
set_option maxRecDepth 100000 in
theorem ct_X12_sinceOf (l : Launch) (D : va_G) (tc : Nat → ClassId) (sk : (Nat → Nat) × (Nat → Nat)) (Ma : Nat → Nat) (Mv : Nat → Int32) (Mf : Nat → Nat → Int32) (Mj : Nat → Int64) (x1 : Int32) (h_b : 0 ≤ x1.toInt ∧ x1.toInt < 6) : Ct l yX12_sinceOf cX12_sinceOf 3 (some .int) { frames := 1, cells := 0, slots := 0, locals := 21 } D tc sk [.ref (Ma 0), .int x1] [((Ma 0), .inr (12, [.ref (Ma 1), .int (Mv 0), .int (Mv 1), .ref (Ma 2), .ref (Ma 3), .ref (Ma 4), .ref (Ma 5), .ref (Ma 6), .int (Mv 2), .int (Mv 3), .int (Mv 4), .int (Mv 5), .int (Mv 6), .int (Mv 7), .int (Mv 8), .ref (Ma 7), .int (Mv 9), .ref (Ma 8), .int (Mv 10), .ref (Ma 9), .ref (Ma 10), .int (Mv 11), .int (Mv 12), .int (Mv 13), .ref (Ma 11), .int (Mv 14), .ref (Ma 12), .ref (Ma 13), .ref (Ma 14), .ref (Ma 15), .ref (Ma 16), .long (Mj 0), .ref (Ma 17), .ref (Ma 18), .ref (Ma 19), .ref (Ma 20)])), ((Ma 10), .inl (tc 0, 126, .inl (Mf 10)))] (fun (v : Option Value) (_ : Unit) => ∃ r : Int32, v = some (.int r) ∧ (True)) (fun (_ : Unit) => [((Ma 0), .inr (12, [.ref (Ma 1), .int (Mv 0), .int (Mv 1), .ref (Ma 2), .ref (Ma 3), .ref (Ma 4), .ref (Ma 5), .ref (Ma 6), .int (Mv 2), .int (Mv 3), .int (Mv 4), .int (Mv 5), .int (Mv 6), .int (Mv 7), .int (Mv 8), .ref (Ma 7), .int (Mv 9), .ref (Ma 8), .int (Mv 10), .ref (Ma 9), .ref (Ma 10), .int (Mv 11), .int (Mv 12), .int (Mv 13), .ref (Ma 11), .int (Mv 14), .ref (Ma 12), .ref (Ma 13), .ref (Ma 14), .ref (Ma 15), .ref (Ma 16), .long (Mj 0), .ref (Ma 17), .ref (Ma 18), .ref (Ma 19), .ref (Ma 20)])), ((Ma 10), .inl (tc 0, 126, .inl (Mf 10)))]) 0 0 := by
  refine Ct.start (by decide) (Nat.le_of_ble_eq_true rfl) (fun p e s m below meth c A ls hx hb hr hlk hin hml hown hts hK hX hP hD hA hl hS => ?_)
  have hl : lv_has ls 3 [(0, .ref (Ma 0)), (1, .int x1)] := hl
  refine lv_aload_n hx hb dX12_sinceOf_0 rfl (lv_at hl 0 rfl) ?_
  refine gf_X12_39 hx hb hts hown hK hP 0 rfl rfl dX12_sinceOf_1 ?_
  refine lv_bipush (v := 10) hx hb dX12_sinceOf_4 (by decide) ?_
  refine va_iald hx hb hK hP 1 0 rfl rfl (vin_dec (by decide +kernel)) dX12_sinceOf_6 ?_
  refine lv_topi (fun x_1 ex_1 => ?_)
  refine lv_aload_n hx hb dX12_sinceOf_7 rfl (lv_at hl 0 rfl) ?_
  refine lv_iload_n hx hb dX12_sinceOf_8 rfl (lv_at hl 1 rfl) ?_
  refine cV (a := (Ma 0)) (As := [.int x1]) (rest := [.int x_1]) (wr := []) ⟨hx, hb, hml, hown, hts⟩ hK hX hA (cu_X12_lastOf l D tc sk (Ma 0) (Ma 1) (Ma 2) (Ma 3) (Ma 4) (Ma 5) (Ma 6) (Ma 7) (Ma 8) (Ma 9) (Ma 10) (Ma 11) (Ma 12) (Ma 13) (Ma 14) (Ma 15) (Ma 16) (Ma 17) (Ma 18) (Ma 19) (Ma 20) (Mv 0) (Mv 1) (Mv 2) (Mv 3) (Mv 4) (Mv 5) (Mv 6) (Mv 7) (Mv 8) (Mv 9) (Mv 10) (Mv 11) (Mv 12) (Mv 13) (Mv 14) (Mf 10) (Mj 0) x1 h_b) k_1395 k_1392 k_1394 k_63 k_106 pl_X12_lastOf ⟨Nat.le_of_ble_eq_true rfl, Nat.le_of_ble_eq_true rfl⟩ rfl rfl (va_recv hK hP (ci := 12) (q0 := 0) rfl rfl) hP hD hS [0, 1] [] rfl rfl rfl rfl rfl (by decide) rfl hl.1 rfl (Nat.le_of_ble_eq_true rfl) dX12_sinceOf_9 ⟨Nat.le_of_ble_eq_true rfl, Nat.le_of_ble_eq_true rfl⟩ (fun v_2 u_3 H locs hv_4 hP₀ hD₀ hS₀ => ?_)
  obtain ⟨r_5, rfl, he_6⟩ := hv_4
  refine W.eq (g2 := F0 m 12 ls [.int r_5, .int x_1]) rfl ?_
  replace hP : va_P D classes [((Ma 0), .inr (12, [.ref (Ma 1), .int (Mv 0), .int (Mv 1), .ref (Ma 2), .ref (Ma 3), .ref (Ma 4), .ref (Ma 5), .ref (Ma 6), .int (Mv 2), .int (Mv 3), .int (Mv 4), .int (Mv 5), .int (Mv 6), .int (Mv 7), .int (Mv 8), .ref (Ma 7), .int (Mv 9), .ref (Ma 8), .int (Mv 10), .ref (Ma 9), .ref (Ma 10), .int (Mv 11), .int (Mv 12), .int (Mv 13), .ref (Ma 11), .int (Mv 14), .ref (Ma 12), .ref (Ma 13), .ref (Ma 14), .ref (Ma 15), .ref (Ma 16), .long (Mj 0), .ref (Ma 17), .ref (Ma 18), .ref (Ma 19), .ref (Ma 20)])), ((Ma 10), .inl (tc 0, 126, .inl (Mf 10)))] H := hP₀
  replace hD : va_D A [((Ma 0), .inr (12, [.ref (Ma 1), .int (Mv 0), .int (Mv 1), .ref (Ma 2), .ref (Ma 3), .ref (Ma 4), .ref (Ma 5), .ref (Ma 6), .int (Mv 2), .int (Mv 3), .int (Mv 4), .int (Mv 5), .int (Mv 6), .int (Mv 7), .int (Mv 8), .ref (Ma 7), .int (Mv 9), .ref (Ma 8), .int (Mv 10), .ref (Ma 9), .ref (Ma 10), .int (Mv 11), .int (Mv 12), .int (Mv 13), .ref (Ma 11), .int (Mv 14), .ref (Ma 12), .ref (Ma 13), .ref (Ma 14), .ref (Ma 15), .ref (Ma 16), .long (Mj 0), .ref (Ma 17), .ref (Ma 18), .ref (Ma 19), .ref (Ma 20)])), ((Ma 10), .inl (tc 0, 126, .inl (Mf 10)))] := hD₀
  replace hS := hS₀
  clear hP₀ hD₀ hS₀
  refine lv_isub hx hb dX12_sinceOf_12 ?_
  refine lv_topi (fun x_8 ex_8 => ?_)
  refine lv_istore_n (lv' := [(2, .int x_8), (0, .ref (Ma 0)), (1, .int x1)]) hx hb dX12_sinceOf_13 rfl hl (by decide) rfl (fun ls hl₀ => ?_)
  replace hl := hl₀
  clear hl₀
  refine lv_aload_n hx hb dX12_sinceOf_14 rfl (lv_at hl 1 rfl) ?_
  refine lv_iload_n hx hb dX12_sinceOf_15 rfl (lv_at hl 2 rfl) ?_
  refine cV (a := (Ma 0)) (As := [.int x1]) (rest := []) (wr := []) ⟨hx, hb, hml, hown, hts⟩ hK hX hA (cu_X12_lastOf l D tc sk (Ma 0) (Ma 1) (Ma 2) (Ma 3) (Ma 4) (Ma 5) (Ma 6) (Ma 7) (Ma 8) (Ma 9) (Ma 10) (Ma 11) (Ma 12) (Ma 13) (Ma 14) (Ma 15) (Ma 16) (Ma 17) (Ma 18) (Ma 19) (Ma 20) (Mv 0) (Mv 1) (Mv 2) (Mv 3) (Mv 4) (Mv 5) (Mv 6) (Mv 7) (Mv 8) (Mv 9) (Mv 10) (Mv 11) (Mv 12) (Mv 13) (Mv 14) (Mf 10) (Mj 0) x1 h_b) k_1395 k_1392 k_1394 k_63 k_106 pl_X12_lastOf ⟨Nat.le_of_ble_eq_true rfl, Nat.le_of_ble_eq_true rfl⟩ rfl rfl (va_recv hK hP (ci := 12) (q0 := 0) rfl rfl) hP hD hS [0, 1] [] rfl rfl rfl rfl rfl (by decide) rfl hl.1 rfl (Nat.le_of_ble_eq_true rfl) dX12_sinceOf_16 ⟨Nat.le_of_ble_eq_true rfl, Nat.le_of_ble_eq_true rfl⟩ (fun v_9 u_10 H locs hv_11 hP₀ hD₀ hS₀ => ?_)
  obtain ⟨r_12, rfl, he_13⟩ := hv_11
  refine W.eq (g2 := F0 m 19 ls [.int r_12]) rfl ?_
  replace hP : va_P D classes [((Ma 0), .inr (12, [.ref (Ma 1), .int (Mv 0), .int (Mv 1), .ref (Ma 2), .ref (Ma 3), .ref (Ma 4), .ref (Ma 5), .ref (Ma 6), .int (Mv 2), .int (Mv 3), .int (Mv 4), .int (Mv 5), .int (Mv 6), .int (Mv 7), .int (Mv 8), .ref (Ma 7), .int (Mv 9), .ref (Ma 8), .int (Mv 10), .ref (Ma 9), .ref (Ma 10), .int (Mv 11), .int (Mv 12), .int (Mv 13), .ref (Ma 11), .int (Mv 14), .ref (Ma 12), .ref (Ma 13), .ref (Ma 14), .ref (Ma 15), .ref (Ma 16), .long (Mj 0), .ref (Ma 17), .ref (Ma 18), .ref (Ma 19), .ref (Ma 20)])), ((Ma 10), .inl (tc 0, 126, .inl (Mf 10)))] H := hP₀
  replace hD : va_D A [((Ma 0), .inr (12, [.ref (Ma 1), .int (Mv 0), .int (Mv 1), .ref (Ma 2), .ref (Ma 3), .ref (Ma 4), .ref (Ma 5), .ref (Ma 6), .int (Mv 2), .int (Mv 3), .int (Mv 4), .int (Mv 5), .int (Mv 6), .int (Mv 7), .int (Mv 8), .ref (Ma 7), .int (Mv 9), .ref (Ma 8), .int (Mv 10), .ref (Ma 9), .ref (Ma 10), .int (Mv 11), .int (Mv 12), .int (Mv 13), .ref (Ma 11), .int (Mv 14), .ref (Ma 12), .ref (Ma 13), .ref (Ma 14), .ref (Ma 15), .ref (Ma 16), .long (Mj 0), .ref (Ma 17), .ref (Ma 18), .ref (Ma 19), .ref (Ma 20)])), ((Ma 10), .inl (tc 0, 126, .inl (Mf 10)))] := hD₀
  replace hS := hS₀
  clear hP₀ hD₀ hS₀
  refine lv_if_lt (tgt := 28) hx hb dX12_sinceOf_19 (by decide) (fun c_15 => ?_) (fun c_15 => ?_)
  · skip
    refine lv_bipush (v := 99) hx hb dX12_sinceOf_28 (by decide) ?_
    refine lv_goto (tgt := 34) hx hb dX12_sinceOf_30 (by decide) ?_
    exact retI (v := 99) hx hb hr hlk (rfl) hP hD hS () ⟨_, rfl, trivial⟩ [0, 1] rfl rfl dX12_sinceOf_34 (Nat.le_of_ble_eq_true rfl) (Nat.le_of_ble_eq_true rfl) rfl
  · skip
    refine lv_iload_n hx hb dX12_sinceOf_22 rfl (lv_at hl 0 rfl) ?_
    refine lv_bipush (v := 99) hx hb dX12_sinceOf_23 (by decide) ?_
    refine lv_icmp_le (tgt := 33) hx hb dX12_sinceOf_25 (by decide) (fun c_16 => ?_) (fun c_16 => ?_)
    · skip
      refine lv_iload_n hx hb dX12_sinceOf_33 rfl (lv_at hl 0 rfl) ?_
      exact retI (v := x_8) hx hb hr hlk (rfl) hP hD hS () ⟨_, rfl, trivial⟩ [0, 1] rfl rfl dX12_sinceOf_34 (Nat.le_of_ble_eq_true rfl) (Nat.le_of_ble_eq_true rfl) rfl
    · skip
      refine lv_bipush (v := 99) hx hb dX12_sinceOf_28 (by decide) ?_
      refine lv_goto (tgt := 34) hx hb dX12_sinceOf_30 (by decide) ?_
      exact retI (v := 99) hx hb hr hlk (rfl) hP hD hS () ⟨_, rfl, trivial⟩ [0, 1] rfl rfl dX12_sinceOf_34 (Nat.le_of_ble_eq_true rfl) (Nat.le_of_ble_eq_true rfl) rfl
set_option maxRecDepth 100000 in
theorem cu_X12_sinceOf (l : Launch) (D : va_G) (tc : Nat → ClassId) (sk : (Nat → Nat) × (Nat → Nat)) (Ma_0 : Nat) (Ma_1 : Nat) (Ma_2 : Nat) (Ma_3 : Nat) (Ma_4 : Nat) (Ma_5 : Nat) (Ma_6 : Nat) (Ma_7 : Nat) (Ma_8 : Nat) (Ma_9 : Nat) (Ma_10 : Nat) (Ma_11 : Nat) (Ma_12 : Nat) (Ma_13 : Nat) (Ma_14 : Nat) (Ma_15 : Nat) (Ma_16 : Nat) (Ma_17 : Nat) (Ma_18 : Nat) (Ma_19 : Nat) (Ma_20 : Nat) (Mv_0 : Int32) (Mv_1 : Int32) (Mv_2 : Int32) (Mv_3 : Int32) (Mv_4 : Int32) (Mv_5 : Int32) (Mv_6 : Int32) (Mv_7 : Int32) (Mv_8 : Int32) (Mv_9 : Int32) (Mv_10 : Int32) (Mv_11 : Int32) (Mv_12 : Int32) (Mv_13 : Int32) (Mv_14 : Int32) (Mf_10 : Nat → Int32) (Mj_0 : Int64) (x1 : Int32) (h_b : 0 ≤ x1.toInt ∧ x1.toInt < 6) : Ct l yX12_sinceOf cX12_sinceOf 3 (some .int) { frames := 1, cells := 0, slots := 0, locals := 21 } D tc sk [.ref Ma_0, .int x1] [(Ma_0, .inr (12, [.ref Ma_1, .int Mv_0, .int Mv_1, .ref Ma_2, .ref Ma_3, .ref Ma_4, .ref Ma_5, .ref Ma_6, .int Mv_2, .int Mv_3, .int Mv_4, .int Mv_5, .int Mv_6, .int Mv_7, .int Mv_8, .ref Ma_7, .int Mv_9, .ref Ma_8, .int Mv_10, .ref Ma_9, .ref Ma_10, .int Mv_11, .int Mv_12, .int Mv_13, .ref Ma_11, .int Mv_14, .ref Ma_12, .ref Ma_13, .ref Ma_14, .ref Ma_15, .ref Ma_16, .long Mj_0, .ref Ma_17, .ref Ma_18, .ref Ma_19, .ref Ma_20])), (Ma_10, .inl (tc 0, 126, .inl Mf_10))] (fun (v : Option Value) (_ : Unit) => ∃ r : Int32, v = some (.int r) ∧ (True)) (fun (_ : Unit) => [(Ma_0, .inr (12, [.ref Ma_1, .int Mv_0, .int Mv_1, .ref Ma_2, .ref Ma_3, .ref Ma_4, .ref Ma_5, .ref Ma_6, .int Mv_2, .int Mv_3, .int Mv_4, .int Mv_5, .int Mv_6, .int Mv_7, .int Mv_8, .ref Ma_7, .int Mv_9, .ref Ma_8, .int Mv_10, .ref Ma_9, .ref Ma_10, .int Mv_11, .int Mv_12, .int Mv_13, .ref Ma_11, .int Mv_14, .ref Ma_12, .ref Ma_13, .ref Ma_14, .ref Ma_15, .ref Ma_16, .long Mj_0, .ref Ma_17, .ref Ma_18, .ref Ma_19, .ref Ma_20])), (Ma_10, .inl (tc 0, 126, .inl Mf_10))]) 0 0 :=
  ct_X12_sinceOf l D tc sk (fun k => ([Ma_0, Ma_1, Ma_2, Ma_3, Ma_4, Ma_5, Ma_6, Ma_7, Ma_8, Ma_9, Ma_10, Ma_11, Ma_12, Ma_13, Ma_14, Ma_15, Ma_16, Ma_17, Ma_18, Ma_19, Ma_20] : List (Nat)).getD k 0) (fun k => ([Mv_0, Mv_1, Mv_2, Mv_3, Mv_4, Mv_5, Mv_6, Mv_7, Mv_8, Mv_9, Mv_10, Mv_11, Mv_12, Mv_13, Mv_14] : List (Int32)).getD k 0) (fun k => ([(fun _ => 0), (fun _ => 0), (fun _ => 0), (fun _ => 0), (fun _ => 0), (fun _ => 0), (fun _ => 0), (fun _ => 0), (fun _ => 0), (fun _ => 0), Mf_10] : List (Nat → Int32)).getD k (fun _ => 0)) (fun k => ([Mj_0] : List (Int64)).getD k 0) x1 h_b
set_option maxHeartbeats 4000000 in
set_option maxRecDepth 100000 in
theorem ct_X12_clock {T : Nat → Option Int32} (l : Launch) (D : va_G) (tc : Nat → ClassId) (sk : (Nat → Nat) × (Nat → Nat)) (Ma : Nat → Nat) (Mv : Nat → Int32) (Mf : Nat → Nat → Int32) (Mj : Nat → Int64) (d : Int) (h_said : SaidD T (Mf 10) d) : Ct l yX12_clock cX12_clock 1 (some .int) { frames := 1, cells := 0, slots := 0, locals := 20 } D tc sk [.ref (Ma 0)] [((Ma 0), .inr (12, [.ref (Ma 1), .int (Mv 0), .int (Mv 1), .ref (Ma 2), .ref (Ma 3), .ref (Ma 4), .ref (Ma 5), .ref (Ma 6), .int (Mv 2), .int (Mv 3), .int (Mv 4), .int (Mv 5), .int (Mv 6), .int (Mv 7), .int (Mv 8), .ref (Ma 7), .int (Mv 9), .ref (Ma 8), .int (Mv 10), .ref (Ma 9), .ref (Ma 10), .int (Mv 11), .int (Mv 12), .int (Mv 13), .ref (Ma 11), .int (Mv 14), .ref (Ma 12), .ref (Ma 13), .ref (Ma 14), .ref (Ma 15), .ref (Ma 16), .long (Mj 0), .ref (Ma 17), .ref (Ma 18), .ref (Ma 19), .ref (Ma 20)])), ((Ma 10), .inl (tc 0, 126, .inl (Mf 10)))] (fun (v : Option Value) (_ : Unit) => ∃ r : Int32, v = some (.int r) ∧ ((0 ≤ r.toInt ∧ r.toInt < 10))) (fun (_ : Unit) => [((Ma 0), .inr (12, [.ref (Ma 1), .int (Mv 0), .int (Mv 1), .ref (Ma 2), .ref (Ma 3), .ref (Ma 4), .ref (Ma 5), .ref (Ma 6), .int (Mv 2), .int (Mv 3), .int (Mv 4), .int (Mv 5), .int (Mv 6), .int (Mv 7), .int (Mv 8), .ref (Ma 7), .int (Mv 9), .ref (Ma 8), .int (Mv 10), .ref (Ma 9), .ref (Ma 10), .int (Mv 11), .int (Mv 12), .int (Mv 13), .ref (Ma 11), .int (Mv 14), .ref (Ma 12), .ref (Ma 13), .ref (Ma 14), .ref (Ma 15), .ref (Ma 16), .long (Mj 0), .ref (Ma 17), .ref (Ma 18), .ref (Ma 19), .ref (Ma 20)])), ((Ma 10), .inl (tc 0, 126, .inl (Mf 10)))]) 0 0 := by
  refine Ct.start (by decide) (Nat.le_of_ble_eq_true rfl) (fun p e s m below meth c A ls hx hb hr hlk hin hml hown hts hK hX hP hD hA hl hS => ?_)
  have hl : lv_has ls 1 [(0, .ref (Ma 0))] := hl
  have ar_h_said := SaidD.ar h_said
  refine lv_aload_n hx hb dX12_clock_0 rfl (lv_at hl 0 rfl) ?_
  refine cV (a := (Ma 0)) (As := []) (rest := []) (wr := []) ⟨hx, hb, hml, hown, hts⟩ hK hX hA (cu_X12_isBook l D tc sk (Ma 0) (Ma 1) (Ma 2) (Ma 3) (Ma 4) (Ma 5) (Ma 6) (Ma 7) (Ma 8) (Ma 9) (Ma 10) (Ma 11) (Ma 12) (Ma 13) (Ma 14) (Ma 15) (Ma 16) (Ma 17) (Ma 18) (Ma 19) (Ma 20) (Mv 0) (Mv 1) (Mv 2) (Mv 3) (Mv 4) (Mv 5) (Mv 6) (Mv 7) (Mv 8) (Mv 9) (Mv 10) (Mv 11) (Mv 12) (Mv 13) (Mv 14) (Mf 10) (Mj 0) h_said.1) k_1407 k_1404 k_1406 k_65 k_106 pl_X12_isBook ⟨Nat.le_of_ble_eq_true rfl, Nat.le_of_ble_eq_true rfl⟩ rfl rfl (va_recv hK hP (ci := 12) (q0 := 0) rfl rfl) hP hD hS [0, 1] [] rfl rfl rfl rfl rfl (by decide) rfl hl.1 rfl (Nat.le_of_ble_eq_true rfl) dX12_clock_1 ⟨Nat.le_of_ble_eq_true rfl, Nat.le_of_ble_eq_true rfl⟩ (fun v_1 u_2 H locs hv_3 hP₀ hD₀ hS₀ => ?_)
  obtain ⟨r_4, rfl, he_5⟩ := hv_3
  have he_5 : (r_4.toInt = 0 ∨ (r_4.toInt = 1 ∧ 1 ≤ ((Mf 10) 2).toInt ∧ ((Mf 10) 2).toInt ≤ 10)) := he_5
  refine W.eq (g2 := F0 m 4 ls [.int r_4]) rfl ?_
  replace hP : va_P D classes [((Ma 0), .inr (12, [.ref (Ma 1), .int (Mv 0), .int (Mv 1), .ref (Ma 2), .ref (Ma 3), .ref (Ma 4), .ref (Ma 5), .ref (Ma 6), .int (Mv 2), .int (Mv 3), .int (Mv 4), .int (Mv 5), .int (Mv 6), .int (Mv 7), .int (Mv 8), .ref (Ma 7), .int (Mv 9), .ref (Ma 8), .int (Mv 10), .ref (Ma 9), .ref (Ma 10), .int (Mv 11), .int (Mv 12), .int (Mv 13), .ref (Ma 11), .int (Mv 14), .ref (Ma 12), .ref (Ma 13), .ref (Ma 14), .ref (Ma 15), .ref (Ma 16), .long (Mj 0), .ref (Ma 17), .ref (Ma 18), .ref (Ma 19), .ref (Ma 20)])), ((Ma 10), .inl (tc 0, 126, .inl (Mf 10)))] H := hP₀
  replace hD : va_D A [((Ma 0), .inr (12, [.ref (Ma 1), .int (Mv 0), .int (Mv 1), .ref (Ma 2), .ref (Ma 3), .ref (Ma 4), .ref (Ma 5), .ref (Ma 6), .int (Mv 2), .int (Mv 3), .int (Mv 4), .int (Mv 5), .int (Mv 6), .int (Mv 7), .int (Mv 8), .ref (Ma 7), .int (Mv 9), .ref (Ma 8), .int (Mv 10), .ref (Ma 9), .ref (Ma 10), .int (Mv 11), .int (Mv 12), .int (Mv 13), .ref (Ma 11), .int (Mv 14), .ref (Ma 12), .ref (Ma 13), .ref (Ma 14), .ref (Ma 15), .ref (Ma 16), .long (Mj 0), .ref (Ma 17), .ref (Ma 18), .ref (Ma 19), .ref (Ma 20)])), ((Ma 10), .inl (tc 0, 126, .inl (Mf 10)))] := hD₀
  replace hS := hS₀
  clear hP₀ hD₀ hS₀
  refine lv_if_eq (tgt := 24) hx hb dX12_clock_4 (by decide) (fun c_7 => ?_) (fun c_7 => ?_)
  · skip
    refine lv_iconst (v := 0) hx hb dX12_clock_24 (by decide) ?_
    have hp_8 : (0 ≤ (0 : Int32).toInt ∧ (0 : Int32).toInt < 10) := by
      have z_1 := congrArg Int32.toInt c_7
      have y_0 : (0 : Int32).toInt = 0 := by decide
      omega
    exact retI (v := 0) hx hb hr hlk (rfl) hP hD hS () ⟨_, rfl, hp_8⟩ [0, 1] rfl rfl dX12_clock_25 (Nat.le_of_ble_eq_true rfl) (Nat.le_of_ble_eq_true rfl) rfl
  · skip
    refine lv_aload_n hx hb dX12_clock_7 rfl (lv_at hl 0 rfl) ?_
    refine gf_X12_39 hx hb hts hown hK hP 0 rfl rfl dX12_clock_8 ?_
    refine lv_bipush (v := 10) hx hb dX12_clock_11 (by decide) ?_
    refine va_iald hx hb hK hP 1 0 rfl rfl (vin_dec (by decide +kernel)) dX12_clock_13 ?_
    refine lv_topi (fun x_9 ex_9 => ?_)
    have lx_9 : x_9.toInt = ((Mf 10) 10).toInt := congrArg Int32.toInt ex_9
    refine lv_aload_n hx hb dX12_clock_14 rfl (lv_at hl 0 rfl) ?_
    refine gf_X12_39 hx hb hts hown hK hP 0 rfl rfl dX12_clock_15 ?_
    refine lv_iconst (v := 2) hx hb dX12_clock_18 (by decide) ?_
    refine va_iald hx hb hK hP 1 0 rfl rfl (vin_dec (by decide +kernel)) dX12_clock_19 ?_
    refine lv_topi (fun x_10 ex_10 => ?_)
    have lx_10 : x_10.toInt = ((Mf 10) 2).toInt := congrArg Int32.toInt ex_10
    have hz_11 : ¬ x_10 = 0 := by
      intro z
      have zz : (x_10 : Int32).toInt = 0 := by rw [z]; decide
      have z_1 : ¬ (r_4 : Int32).toInt = (0 : Int32).toInt := fun z => c_7 (Int32.toInt_inj.mp z)
      have y_0 : (0 : Int32).toInt = 0 := by decide
      omega
    refine lv_irem hx hb dX12_clock_20 hz_11 ?_
    refine lv_topi (fun x_12 ex_12 => ?_)
    refine lv_goto (tgt := 25) hx hb dX12_clock_21 (by decide) ?_
    have hp_13 : (0 ≤ (x_12 : Int32).toInt ∧ (x_12 : Int32).toInt < 10) := by
      have z_1 : ¬ (r_4 : Int32).toInt = (0 : Int32).toInt := fun z => c_7 (Int32.toInt_inj.mp z)
      have y_0 : (0 : Int32).toInt = 0 := by decide
      have t_x_12 := rem_bounds (x := x_9) (y := x_10) (by omega)
      rw [← ex_12] at t_x_12
      omega
    exact retI (v := x_12) hx hb hr hlk (rfl) hP hD hS () ⟨_, rfl, hp_13⟩ [0, 1] rfl rfl dX12_clock_25 (Nat.le_of_ble_eq_true rfl) (Nat.le_of_ble_eq_true rfl) rfl
set_option maxRecDepth 100000 in
theorem cu_X12_clock {T : Nat → Option Int32} (l : Launch) (D : va_G) (tc : Nat → ClassId) (sk : (Nat → Nat) × (Nat → Nat)) (Ma_0 : Nat) (Ma_1 : Nat) (Ma_2 : Nat) (Ma_3 : Nat) (Ma_4 : Nat) (Ma_5 : Nat) (Ma_6 : Nat) (Ma_7 : Nat) (Ma_8 : Nat) (Ma_9 : Nat) (Ma_10 : Nat) (Ma_11 : Nat) (Ma_12 : Nat) (Ma_13 : Nat) (Ma_14 : Nat) (Ma_15 : Nat) (Ma_16 : Nat) (Ma_17 : Nat) (Ma_18 : Nat) (Ma_19 : Nat) (Ma_20 : Nat) (Mv_0 : Int32) (Mv_1 : Int32) (Mv_2 : Int32) (Mv_3 : Int32) (Mv_4 : Int32) (Mv_5 : Int32) (Mv_6 : Int32) (Mv_7 : Int32) (Mv_8 : Int32) (Mv_9 : Int32) (Mv_10 : Int32) (Mv_11 : Int32) (Mv_12 : Int32) (Mv_13 : Int32) (Mv_14 : Int32) (Mf_10 : Nat → Int32) (Mj_0 : Int64) (d : Int) (h_said : SaidD T Mf_10 d) : Ct l yX12_clock cX12_clock 1 (some .int) { frames := 1, cells := 0, slots := 0, locals := 20 } D tc sk [.ref Ma_0] [(Ma_0, .inr (12, [.ref Ma_1, .int Mv_0, .int Mv_1, .ref Ma_2, .ref Ma_3, .ref Ma_4, .ref Ma_5, .ref Ma_6, .int Mv_2, .int Mv_3, .int Mv_4, .int Mv_5, .int Mv_6, .int Mv_7, .int Mv_8, .ref Ma_7, .int Mv_9, .ref Ma_8, .int Mv_10, .ref Ma_9, .ref Ma_10, .int Mv_11, .int Mv_12, .int Mv_13, .ref Ma_11, .int Mv_14, .ref Ma_12, .ref Ma_13, .ref Ma_14, .ref Ma_15, .ref Ma_16, .long Mj_0, .ref Ma_17, .ref Ma_18, .ref Ma_19, .ref Ma_20])), (Ma_10, .inl (tc 0, 126, .inl Mf_10))] (fun (v : Option Value) (_ : Unit) => ∃ r : Int32, v = some (.int r) ∧ ((0 ≤ r.toInt ∧ r.toInt < 10))) (fun (_ : Unit) => [(Ma_0, .inr (12, [.ref Ma_1, .int Mv_0, .int Mv_1, .ref Ma_2, .ref Ma_3, .ref Ma_4, .ref Ma_5, .ref Ma_6, .int Mv_2, .int Mv_3, .int Mv_4, .int Mv_5, .int Mv_6, .int Mv_7, .int Mv_8, .ref Ma_7, .int Mv_9, .ref Ma_8, .int Mv_10, .ref Ma_9, .ref Ma_10, .int Mv_11, .int Mv_12, .int Mv_13, .ref Ma_11, .int Mv_14, .ref Ma_12, .ref Ma_13, .ref Ma_14, .ref Ma_15, .ref Ma_16, .long Mj_0, .ref Ma_17, .ref Ma_18, .ref Ma_19, .ref Ma_20])), (Ma_10, .inl (tc 0, 126, .inl Mf_10))]) 0 0 :=
  ct_X12_clock l D tc sk (fun k => ([Ma_0, Ma_1, Ma_2, Ma_3, Ma_4, Ma_5, Ma_6, Ma_7, Ma_8, Ma_9, Ma_10, Ma_11, Ma_12, Ma_13, Ma_14, Ma_15, Ma_16, Ma_17, Ma_18, Ma_19, Ma_20] : List (Nat)).getD k 0) (fun k => ([Mv_0, Mv_1, Mv_2, Mv_3, Mv_4, Mv_5, Mv_6, Mv_7, Mv_8, Mv_9, Mv_10, Mv_11, Mv_12, Mv_13, Mv_14] : List (Int32)).getD k 0) (fun k => ([(fun _ => 0), (fun _ => 0), (fun _ => 0), (fun _ => 0), (fun _ => 0), (fun _ => 0), (fun _ => 0), (fun _ => 0), (fun _ => 0), (fun _ => 0), Mf_10] : List (Nat → Int32)).getD k (fun _ => 0)) (fun k => ([Mj_0] : List (Int64)).getD k 0) d h_said
set_option maxHeartbeats 4000000 in
set_option maxRecDepth 100000 in
theorem ct_X12_soldAll {T : Nat → Option Int32} (l : Launch) (D : va_G) (tc : Nat → ClassId) (sk : (Nat → Nat) × (Nat → Nat)) (Ma : Nat → Nat) (Mv : Nat → Int32) (Mf : Nat → Nat → Int32) (Mj : Nat → Int64) (h_said : SaidB T (Mf 10)) : Ct l yX12_soldAll cX12_soldAll 3 (some .int) { frames := 1, cells := 0, slots := 0, locals := 21 } D tc sk [.ref (Ma 0)] [((Ma 0), .inr (12, [.ref (Ma 1), .int (Mv 0), .int (Mv 1), .ref (Ma 2), .ref (Ma 3), .ref (Ma 4), .ref (Ma 5), .ref (Ma 6), .int (Mv 2), .int (Mv 3), .int (Mv 4), .int (Mv 5), .int (Mv 6), .int (Mv 7), .int (Mv 8), .ref (Ma 7), .int (Mv 9), .ref (Ma 8), .int (Mv 10), .ref (Ma 9), .ref (Ma 10), .int (Mv 11), .int (Mv 12), .int (Mv 13), .ref (Ma 11), .int (Mv 14), .ref (Ma 12), .ref (Ma 13), .ref (Ma 14), .ref (Ma 15), .ref (Ma 16), .long (Mj 0), .ref (Ma 17), .ref (Ma 18), .ref (Ma 19), .ref (Ma 20)])), ((Ma 10), .inl (tc 0, 126, .inl (Mf 10)))] (fun (v : Option Value) (_ : Unit) => ∃ r : Int32, v = some (.int r) ∧ (True)) (fun (_ : Unit) => [((Ma 0), .inr (12, [.ref (Ma 1), .int (Mv 0), .int (Mv 1), .ref (Ma 2), .ref (Ma 3), .ref (Ma 4), .ref (Ma 5), .ref (Ma 6), .int (Mv 2), .int (Mv 3), .int (Mv 4), .int (Mv 5), .int (Mv 6), .int (Mv 7), .int (Mv 8), .ref (Ma 7), .int (Mv 9), .ref (Ma 8), .int (Mv 10), .ref (Ma 9), .ref (Ma 10), .int (Mv 11), .int (Mv 12), .int (Mv 13), .ref (Ma 11), .int (Mv 14), .ref (Ma 12), .ref (Ma 13), .ref (Ma 14), .ref (Ma 15), .ref (Ma 16), .long (Mj 0), .ref (Ma 17), .ref (Ma 18), .ref (Ma 19), .ref (Ma 20)])), ((Ma 10), .inl (tc 0, 126, .inl (Mf 10)))]) 0 0 := by
  refine Ct.start (by decide) (Nat.le_of_ble_eq_true rfl) (fun p e s m below meth c A ls hx hb hr hlk hin hml hown hts hK hX hP hD hA hl hS => ?_)
  have hl : lv_has ls 3 [(0, .ref (Ma 0))] := hl
  have ar_h_said := SaidB.ar h_said
  refine lv_iconst (v := 0) hx hb dX12_soldAll_0 (by decide) ?_
  refine lv_istore_n (lv' := [(1, .int 0), (0, .ref (Ma 0))]) hx hb dX12_soldAll_1 rfl hl (by decide) rfl (fun ls hl₀ => ?_)
  replace hl := hl₀
  clear hl₀
  refine lv_iconst (v := 0) hx hb dX12_soldAll_2 (by decide) ?_
  refine lv_istore_n (lv' := [(2, .int 0), (1, .int 0), (0, .ref (Ma 0))]) hx hb dX12_soldAll_3 rfl hl (by decide) rfl (fun ls hl₀ => ?_)
  replace hl := hl₀
  clear hl₀
  have loop_7 : ∀ (n_5 : Nat) (vy_3 : Int32) (vy_4 : Int32) (H : Heap) (locs : List Loc) (ls : Array Slot), (6 - (vy_3 : Int32).toInt).toNat < n_5 → (0 ≤ (vy_3 : Int32).toInt) → va_P D classes [((Ma 0), .inr (12, [.ref (Ma 1), .int (Mv 0), .int (Mv 1), .ref (Ma 2), .ref (Ma 3), .ref (Ma 4), .ref (Ma 5), .ref (Ma 6), .int (Mv 2), .int (Mv 3), .int (Mv 4), .int (Mv 5), .int (Mv 6), .int (Mv 7), .int (Mv 8), .ref (Ma 7), .int (Mv 9), .ref (Ma 8), .int (Mv 10), .ref (Ma 9), .ref (Ma 10), .int (Mv 11), .int (Mv 12), .int (Mv 13), .ref (Ma 11), .int (Mv 14), .ref (Ma 12), .ref (Ma 13), .ref (Ma 14), .ref (Ma 15), .ref (Ma 16), .long (Mj 0), .ref (Ma 17), .ref (Ma 18), .ref (Ma 19), .ref (Ma 20)])), ((Ma 10), .inl (tc 0, 126, .inl (Mf 10)))] H → va_D A [((Ma 0), .inr (12, [.ref (Ma 1), .int (Mv 0), .int (Mv 1), .ref (Ma 2), .ref (Ma 3), .ref (Ma 4), .ref (Ma 5), .ref (Ma 6), .int (Mv 2), .int (Mv 3), .int (Mv 4), .int (Mv 5), .int (Mv 6), .int (Mv 7), .int (Mv 8), .ref (Ma 7), .int (Mv 9), .ref (Ma 8), .int (Mv 10), .ref (Ma 9), .ref (Ma 10), .int (Mv 11), .int (Mv 12), .int (Mv 13), .ref (Ma 11), .int (Mv 14), .ref (Ma 12), .ref (Ma 13), .ref (Ma 14), .ref (Ma 15), .ref (Ma 16), .long (Mj 0), .ref (Ma 17), .ref (Ma 18), .ref (Ma 19), .ref (Ma 20)])), ((Ma 10), .inl (tc 0, 126, .inl (Mf 10)))] → va_S A s.heap H locs → lv_has ls 3 [(2, .int vy_3), (1, .int vy_4), (0, .ref (Ma 0))] → W p l e ({ frames := 1, cells := 0, slots := 0, locals := 21 }) s m ([.ref (Ma 0)].toArray) below meth c H locs 0 0 (MQ below (QW (fun (v : Option Value) (_ : Unit) => ∃ r : Int32, v = some (.int r) ∧ (True)) (BW D (fun (_ : Unit) => [((Ma 0), .inr (12, [.ref (Ma 1), .int (Mv 0), .int (Mv 1), .ref (Ma 2), .ref (Ma 3), .ref (Ma 4), .ref (Ma 5), .ref (Ma 6), .int (Mv 2), .int (Mv 3), .int (Mv 4), .int (Mv 5), .int (Mv 6), .int (Mv 7), .int (Mv 8), .ref (Ma 7), .int (Mv 9), .ref (Ma 8), .int (Mv 10), .ref (Ma 9), .ref (Ma 10), .int (Mv 11), .int (Mv 12), .int (Mv 13), .ref (Ma 11), .int (Mv 14), .ref (Ma 12), .ref (Ma 13), .ref (Ma 14), .ref (Ma 15), .ref (Ma 16), .long (Mj 0), .ref (Ma 17), .ref (Ma 18), .ref (Ma 19), .ref (Ma 20)])), ((Ma 10), .inl (tc 0, 126, .inl (Mf 10)))]) A) A) ([.ref (Ma 0)].toArray) s 0 0 A) (F0 m 4 ls []) := by
    clear hP hD hS hl
    intro n_5
    induction n_5 with
    | zero =>
      intro vy_3 vy_4 H locs ls h1
      exact absurd h1 (Nat.not_lt_zero _)
    | succ n_5 ih_6 =>
      intro vy_3 vy_4 H locs ls hn_9 pf_8 hP hD hS hl
      refine lv_iload_n hx hb dX12_soldAll_4 rfl (lv_at hl 0 rfl) ?_
      refine lv_aload_n hx hb dX12_soldAll_5 rfl (lv_at hl 2 rfl) ?_
      refine gf_X12_39 hx hb hts hown hK hP 0 rfl rfl dX12_soldAll_6 ?_
      refine lv_iconst (v := 3) hx hb dX12_soldAll_9 (by decide) ?_
      refine va_iald hx hb hK hP 1 0 rfl rfl (vin_dec (by decide +kernel)) dX12_soldAll_10 ?_
      refine lv_topi (fun x_10 ex_10 => ?_)
      have lx_10 : x_10.toInt = ((Mf 10) 3).toInt := congrArg Int32.toInt ex_10
      refine lv_icmp_ge (tgt := 28) hx hb dX12_soldAll_11 (by decide) (fun c_11 => ?_) (fun c_11 => ?_)
      · skip
        refine lv_iload_n hx hb dX12_soldAll_28 rfl (lv_at hl 1 rfl) ?_
        exact retI (v := vy_4) hx hb hr hlk (rfl) hP hD hS () ⟨_, rfl, trivial⟩ [0, 1] rfl rfl dX12_soldAll_29 (Nat.le_of_ble_eq_true rfl) (Nat.le_of_ble_eq_true rfl) rfl
      · skip
        refine lv_iload_n hx hb dX12_soldAll_14 rfl (lv_at hl 1 rfl) ?_
        refine lv_aload_n hx hb dX12_soldAll_15 rfl (lv_at hl 2 rfl) ?_
        refine lv_iload_n hx hb dX12_soldAll_16 rfl (lv_at hl 0 rfl) ?_
        have ha_12 : 0 ≤ vy_3.toInt ∧ vy_3.toInt < 6 := by
          have z_1 := Int32.lt_iff_toInt_lt.mp (Int32.not_le.mp c_11)
          omega
        refine cV (a := (Ma 0)) (As := [.int vy_3]) (rest := [.int vy_4]) (wr := []) ⟨hx, hb, hml, hown, hts⟩ hK hX hA (cu_X12_boughtBy l D tc sk (Ma 0) (Ma 1) (Ma 2) (Ma 3) (Ma 4) (Ma 5) (Ma 6) (Ma 7) (Ma 8) (Ma 9) (Ma 10) (Ma 11) (Ma 12) (Ma 13) (Ma 14) (Ma 15) (Ma 16) (Ma 17) (Ma 18) (Ma 19) (Ma 20) (Mv 0) (Mv 1) (Mv 2) (Mv 3) (Mv 4) (Mv 5) (Mv 6) (Mv 7) (Mv 8) (Mv 9) (Mv 10) (Mv 11) (Mv 12) (Mv 13) (Mv 14) (Mf 10) (Mj 0) vy_3 ha_12) k_1383 k_1380 k_1382 k_60 k_106 pl_X12_boughtBy ⟨Nat.le_of_ble_eq_true rfl, Nat.le_of_ble_eq_true rfl⟩ rfl rfl (va_recv hK hP (ci := 12) (q0 := 0) rfl rfl) hP hD hS [0, 1] [] rfl rfl rfl rfl rfl (by decide) rfl hl.1 rfl (Nat.le_of_ble_eq_true rfl) dX12_soldAll_17 ⟨Nat.le_of_ble_eq_true rfl, Nat.le_of_ble_eq_true rfl⟩ (fun v_13 u_14 H locs hv_15 hP₀ hD₀ hS₀ => ?_)
        obtain ⟨r_16, rfl, he_17⟩ := hv_15
        refine W.eq (g2 := F0 m 20 ls [.int r_16, .int vy_4]) rfl ?_
        replace hP : va_P D classes [((Ma 0), .inr (12, [.ref (Ma 1), .int (Mv 0), .int (Mv 1), .ref (Ma 2), .ref (Ma 3), .ref (Ma 4), .ref (Ma 5), .ref (Ma 6), .int (Mv 2), .int (Mv 3), .int (Mv 4), .int (Mv 5), .int (Mv 6), .int (Mv 7), .int (Mv 8), .ref (Ma 7), .int (Mv 9), .ref (Ma 8), .int (Mv 10), .ref (Ma 9), .ref (Ma 10), .int (Mv 11), .int (Mv 12), .int (Mv 13), .ref (Ma 11), .int (Mv 14), .ref (Ma 12), .ref (Ma 13), .ref (Ma 14), .ref (Ma 15), .ref (Ma 16), .long (Mj 0), .ref (Ma 17), .ref (Ma 18), .ref (Ma 19), .ref (Ma 20)])), ((Ma 10), .inl (tc 0, 126, .inl (Mf 10)))] H := hP₀
        replace hD : va_D A [((Ma 0), .inr (12, [.ref (Ma 1), .int (Mv 0), .int (Mv 1), .ref (Ma 2), .ref (Ma 3), .ref (Ma 4), .ref (Ma 5), .ref (Ma 6), .int (Mv 2), .int (Mv 3), .int (Mv 4), .int (Mv 5), .int (Mv 6), .int (Mv 7), .int (Mv 8), .ref (Ma 7), .int (Mv 9), .ref (Ma 8), .int (Mv 10), .ref (Ma 9), .ref (Ma 10), .int (Mv 11), .int (Mv 12), .int (Mv 13), .ref (Ma 11), .int (Mv 14), .ref (Ma 12), .ref (Ma 13), .ref (Ma 14), .ref (Ma 15), .ref (Ma 16), .long (Mj 0), .ref (Ma 17), .ref (Ma 18), .ref (Ma 19), .ref (Ma 20)])), ((Ma 10), .inl (tc 0, 126, .inl (Mf 10)))] := hD₀
        replace hS := hS₀
        clear hP₀ hD₀ hS₀
        refine lv_iadd hx hb dX12_soldAll_20 ?_
        refine lv_topi (fun x_19 ex_19 => ?_)
        refine lv_istore_n (lv' := [(1, .int x_19), (2, .int vy_3), (0, .ref (Ma 0))]) hx hb dX12_soldAll_21 rfl hl (by decide) rfl (fun ls hl₀ => ?_)
        replace hl := hl₀
        clear hl₀
        obtain ⟨x_20, ex_20⟩ : ∃ y : Int32, y = vy_3 + 1 := ⟨_, rfl⟩
        refine lv_iinc (v := x_20) (lv' := [(2, .int x_20), (1, .int x_19), (0, .ref (Ma 0))]) hx hb dX12_soldAll_22 hl (k := 1) rfl (by rw [ex_20]; rfl) (by decide) rfl (fun ls hl₀ => ?_)
        replace hl := hl₀
        clear hl₀
        refine lv_goto (tgt := 4) hx hb dX12_soldAll_25 (by decide) ?_
        have hb_21 : 6 - (x_20 : Int32).toInt < 6 - (vy_3 : Int32).toInt ∧ 1 ≤ 6 - (vy_3 : Int32).toInt := by
          have z_1 := Int32.lt_iff_toInt_lt.mp (Int32.not_le.mp c_11)
          have y_1 : (1 : Int32).toInt = 1 := by decide
          have t_x_20 : x_20.toInt = (vy_3 : Int32).toInt + (1 : Int32).toInt := by rw [ex_20]; exact add_toInt (by omega) (by omega)
          omega
        have ha_22 : 0 ≤ (x_20 : Int32).toInt := by
          have z_1 := Int32.lt_iff_toInt_lt.mp (Int32.not_le.mp c_11)
          have y_1 : (1 : Int32).toInt = 1 := by decide
          have t_x_20 : x_20.toInt = (vy_3 : Int32).toInt + (1 : Int32).toInt := by rw [ex_20]; exact add_toInt (by omega) (by omega)
          omega
        exact ih_6 x_20 x_19 _ _ _ (by omega) ha_22 (hP.sub [0, 1] rfl) (hD.sub [0, 1] rfl rfl) hS (lv_sub hl [0, 1, 2] rfl)
  have ha_23 : 0 ≤ (0 : Int32).toInt := by
    have y_0 : (0 : Int32).toInt = 0 := by decide
    omega
  exact loop_7 _ 0 0 _ _ _ (Nat.lt_succ_self _) ha_23 hP hD hS hl
