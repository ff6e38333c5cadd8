set_option maxRecDepth 16384
theorem dX11_back_0 : decode cX11_back 0 = .ok (.iload_n 1, 1) := by decide +kernel
theorem dX11_back_1 : decode cX11_back 1 = .ok (.ifCond .lt 12, 3) := by decide +kernel
theorem dX11_back_4 : decode cX11_back 4 = .ok (.iload_n 1, 1) := by decide +kernel
theorem dX11_back_5 : decode cX11_back 5 = .ok (.aload_n 0, 1) := by decide +kernel
theorem dX11_back_6 : decode cX11_back 6 = .ok (.getfield 61, 3) := by decide +kernel
theorem dX11_back_9 : decode cX11_back 9 = .ok (.arraylength, 1) := by decide +kernel
theorem dX11_back_10 : decode cX11_back 10 = .ok (.if_icmp .lt 5, 3) := by decide +kernel
theorem dX11_back_13 : decode cX11_back 13 = .ok (.iconst (-1), 1) := by decide +kernel
theorem dX11_back_14 : decode cX11_back 14 = .ok (.ireturn, 1) := by decide +kernel
theorem dX11_back_15 : decode cX11_back 15 = .ok (.aload_n 0, 1) := by decide +kernel
theorem dX11_back_16 : decode cX11_back 16 = .ok (.getfield 61, 3) := by decide +kernel
theorem dX11_back_19 : decode cX11_back 19 = .ok (.iload_n 1, 1) := by decide +kernel
theorem dX11_back_20 : decode cX11_back 20 = .ok (.aaload, 1) := by decide +kernel
theorem dX11_back_21 : decode cX11_back 21 = .ok (.astore_n 2, 1) := by decide +kernel
theorem dX11_back_22 : decode cX11_back 22 = .ok (.aload_n 2, 1) := by decide +kernel
theorem dX11_back_23 : decode cX11_back 23 = .ok (.ifnonnull 5, 3) := by decide +kernel
theorem dX11_back_26 : decode cX11_back 26 = .ok (.iconst (-1), 1) := by decide +kernel
theorem dX11_back_27 : decode cX11_back 27 = .ok (.ireturn, 1) := by decide +kernel
theorem dX11_back_28 : decode cX11_back 28 = .ok (.aload_n 0, 1) := by decide +kernel
theorem dX11_back_29 : decode cX11_back 29 = .ok (.getfield 43, 3) := by decide +kernel
theorem dX11_back_32 : decode cX11_back 32 = .ok (.aload_n 2, 1) := by decide +kernel
theorem dX11_back_33 : decode cX11_back 33 = .ok (.invokevirtual 303, 3) := by decide +kernel
theorem dX11_back_36 : decode cX11_back 36 = .ok (.aload_n 0, 1) := by decide +kernel
theorem dX11_back_37 : decode cX11_back 37 = .ok (.getfield 57, 3) := by decide +kernel
theorem dX11_back_40 : decode cX11_back 40 = .ok (.iconst 0, 1) := by decide +kernel
theorem dX11_back_41 : decode cX11_back 41 = .ok (.putfield 120, 3) := by decide +kernel
theorem dX11_back_44 : decode cX11_back 44 = .ok (.aload_n 0, 1) := by decide +kernel
theorem dX11_back_45 : decode cX11_back 45 = .ok (.getfield 51, 3) := by decide +kernel
theorem dX11_back_48 : decode cX11_back 48 = .ok (.getfield 179, 3) := by decide +kernel
theorem dX11_back_51 : decode cX11_back 51 = .ok (.ireturn, 1) := by decide +kernel
theorem dX11_image_0 : decode cX11_image 0 = .ok (.iload_n 1, 1) := by decide +kernel
theorem dX11_image_1 : decode cX11_image 1 = .ok (.ifCond .lt 12, 3) := by decide +kernel
theorem dX11_image_4 : decode cX11_image 4 = .ok (.iload_n 1, 1) := by decide +kernel
theorem dX11_image_5 : decode cX11_image 5 = .ok (.aload_n 0, 1) := by decide +kernel
theorem dX11_image_6 : decode cX11_image 6 = .ok (.getfield 61, 3) := by decide +kernel
theorem dX11_image_9 : decode cX11_image 9 = .ok (.arraylength, 1) := by decide +kernel
theorem dX11_image_10 : decode cX11_image 10 = .ok (.if_icmp .lt 5, 3) := by decide +kernel
theorem dX11_image_13 : decode cX11_image 13 = .ok (.iconst (-1), 1) := by decide +kernel
theorem dX11_image_14 : decode cX11_image 14 = .ok (.ireturn, 1) := by decide +kernel
theorem dX11_image_15 : decode cX11_image 15 = .ok (.aload_n 0, 1) := by decide +kernel
theorem dX11_image_16 : decode cX11_image 16 = .ok (.getfield 61, 3) := by decide +kernel
theorem dX11_image_19 : decode cX11_image 19 = .ok (.iload_n 1, 1) := by decide +kernel
theorem dX11_image_20 : decode cX11_image 20 = .ok (.aaload, 1) := by decide +kernel
theorem dX11_image_21 : decode cX11_image 21 = .ok (.astore_n 2, 1) := by decide +kernel
theorem dX11_image_22 : decode cX11_image 22 = .ok (.aload_n 2, 1) := by decide +kernel
theorem dX11_image_23 : decode cX11_image 23 = .ok (.ifnonnull 18, 3) := by decide +kernel
theorem dX11_image_26 : decode cX11_image 26 = .ok (.new 40, 3) := by decide +kernel
theorem dX11_image_29 : decode cX11_image 29 = .ok (.dup, 1) := by decide +kernel
theorem dX11_image_30 : decode cX11_image 30 = .ok (.invokespecial 42, 3) := by decide +kernel
theorem dX11_image_33 : decode cX11_image 33 = .ok (.astore_n 2, 1) := by decide +kernel
theorem dX11_image_34 : decode cX11_image 34 = .ok (.aload_n 0, 1) := by decide +kernel
theorem dX11_image_35 : decode cX11_image 35 = .ok (.getfield 61, 3) := by decide +kernel
theorem dX11_image_38 : decode cX11_image 38 = .ok (.iload_n 1, 1) := by decide +kernel
theorem dX11_image_39 : decode cX11_image 39 = .ok (.aload_n 2, 1) := by decide +kernel
theorem dX11_image_40 : decode cX11_image 40 = .ok (.aastore, 1) := by decide +kernel
theorem dX11_image_41 : decode cX11_image 41 = .ok (.aload_n 2, 1) := by decide +kernel
theorem dX11_image_42 : decode cX11_image 42 = .ok (.aload_n 0, 1) := by decide +kernel
theorem dX11_image_43 : decode cX11_image 43 = .ok (.getfield 43, 3) := by decide +kernel
theorem dX11_image_46 : decode cX11_image 46 = .ok (.invokevirtual 303, 3) := by decide +kernel
theorem dX11_image_49 : decode cX11_image 49 = .ok (.aload_n 0, 1) := by decide +kernel
theorem dX11_image_50 : decode cX11_image 50 = .ok (.getfield 51, 3) := by decide +kernel
theorem dX11_image_53 : decode cX11_image 53 = .ok (.getfield 179, 3) := by decide +kernel
theorem dX11_image_56 : decode cX11_image 56 = .ok (.ireturn, 1) := by decide +kernel
set_option maxHeartbeats 4000000 in
set_option maxRecDepth 100000 in
theorem ct_X11_image_o (l : Launch) (D : va_G) (tc : Nat → ClassId) (sk : (Nat → Nat) × (Nat → Nat)) (Ga : Nat → Nat) (Gv : Nat → Int32) (Sa : Nat → Nat) (Sv : Nat → Int32) (Aa : Nat → Nat) (Av : Nat → Int32) (Af : Nat → Nat → Int32) (Ba : Nat → Nat) (Bv : Nat → Int32) (Bf : Nat → Nat → Int32) (Na : Nat → Nat) (Nv : Nat → Int32) (Nf : Nat → Nat → Int32) (Ia : Nat → Nat) (Iq : Nat → Nat → Option Nat) (x1 : Int32) (h_k : x1.toInt < 0 ∨ 4 ≤ x1.toInt) : Ct l yX11_image cX11_image 3 (some .int) { frames := 0, cells := 0, slots := 0, locals := 0 } D tc sk [.ref (Ga 0), .int x1] [((Ga 0), .inr (11, [.ref (Ga 1), .ref (Ga 2), .ref (Ga 3), .ref (Ga 4), .int (Gv 0), .ref (Sa 0), .ref (Aa 0), .ref (Ga 7), .ref (Ia 0), .ref (Ga 9), .ref (Ga 10), .ref (Ga 11)])), ((Sa 0), .inr (8, [.ref (Aa 0), .ref (Ba 0), .ref (Na 0), .int (Sv 0), .int (Sv 1)])), ((Aa 0), .inr (9, [.int (Av 0), .int (Av 1), .int (Av 2), .int (Av 3), .int (Av 4), .int (Av 5), .ref (Aa 1), .ref (Aa 2), .ref (Aa 3), .ref (Aa 4), .ref (Aa 5), .ref (Aa 6), .ref (Aa 7), .ref (Aa 8)])), ((Aa 1), .inl (tc 0, 10, .inl (Af 1))), ((Aa 2), .inl (tc 0, 10, .inl (Af 2))), ((Aa 3), .inl (tc 0, 6, .inl (Af 3))), ((Aa 4), .inl (tc 0, 6, .inl (Af 4))), ((Aa 5), .inl (tc 0, 6, .inl (Af 5))), ((Aa 6), .inl (tc 0, 6, .inl (Af 6))), ((Aa 7), .inl (tc 0, 6, .inl (Af 7))), ((Aa 8), .inl (tc 0, 6, .inl (Af 8))), ((Ba 0), .inr (9, [.int (Bv 0), .int (Bv 1), .int (Bv 2), .int (Bv 3), .int (Bv 4), .int (Bv 5), .ref (Ba 1), .ref (Ba 2), .ref (Ba 3), .ref (Ba 4), .ref (Ba 5), .ref (Ba 6), .ref (Ba 7), .ref (Ba 8)])), ((Ba 1), .inl (tc 0, 10, .inl (Bf 1))), ((Ba 2), .inl (tc 0, 10, .inl (Bf 2))), ((Ba 3), .inl (tc 0, 6, .inl (Bf 3))), ((Ba 4), .inl (tc 0, 6, .inl (Bf 4))), ((Ba 5), .inl (tc 0, 6, .inl (Bf 5))), ((Ba 6), .inl (tc 0, 6, .inl (Bf 6))), ((Ba 7), .inl (tc 0, 6, .inl (Bf 7))), ((Ba 8), .inl (tc 0, 6, .inl (Bf 8))), ((Na 0), .inr (3, [.ref (Na 1), .ref (Na 2), .ref (Na 3), .int (Nv 0)])), ((Na 1), .inl (tc 0, 10, .inl (Nf 1))), ((Na 2), .inl (tc 0, 10, .inl (Nf 2))), ((Na 3), .inl (tc 0, 10, .inl (Nf 3))), ((Ia 0), .inl (tc 6, 4, .inr (.inr (.inr (.inr (Iq 0))))))] (fun (v : Option Value) (_ : Unit) => ∃ r : Int32, v = some (.int r) ∧ (True)) (fun (_ : Unit) => [((Ga 0), .inr (11, [.ref (Ga 1), .ref (Ga 2), .ref (Ga 3), .ref (Ga 4), .int (Gv 0), .ref (Sa 0), .ref (Aa 0), .ref (Ga 7), .ref (Ia 0), .ref (Ga 9), .ref (Ga 10), .ref (Ga 11)])), ((Sa 0), .inr (8, [.ref (Aa 0), .ref (Ba 0), .ref (Na 0), .int (Sv 0), .int (Sv 1)])), ((Aa 0), .inr (9, [.int (Av 0), .int (Av 1), .int (Av 2), .int (Av 3), .int (Av 4), .int (Av 5), .ref (Aa 1), .ref (Aa 2), .ref (Aa 3), .ref (Aa 4), .ref (Aa 5), .ref (Aa 6), .ref (Aa 7), .ref (Aa 8)])), ((Aa 1), .inl (tc 0, 10, .inl (Af 1))), ((Aa 2), .inl (tc 0, 10, .inl (Af 2))), ((Aa 3), .inl (tc 0, 6, .inl (Af 3))), ((Aa 4), .inl (tc 0, 6, .inl (Af 4))), ((Aa 5), .inl (tc 0, 6, .inl (Af 5))), ((Aa 6), .inl (tc 0, 6, .inl (Af 6))), ((Aa 7), .inl (tc 0, 6, .inl (Af 7))), ((Aa 8), .inl (tc 0, 6, .inl (Af 8))), ((Ba 0), .inr (9, [.int (Bv 0), .int (Bv 1), .int (Bv 2), .int (Bv 3), .int (Bv 4), .int (Bv 5), .ref (Ba 1), .ref (Ba 2), .ref (Ba 3), .ref (Ba 4), .ref (Ba 5), .ref (Ba 6), .ref (Ba 7), .ref (Ba 8)])), ((Ba 1), .inl (tc 0, 10, .inl (Bf 1))), ((Ba 2), .inl (tc 0, 10, .inl (Bf 2))), ((Ba 3), .inl (tc 0, 6, .inl (Bf 3))), ((Ba 4), .inl (tc 0, 6, .inl (Bf 4))), ((Ba 5), .inl (tc 0, 6, .inl (Bf 5))), ((Ba 6), .inl (tc 0, 6, .inl (Bf 6))), ((Ba 7), .inl (tc 0, 6, .inl (Bf 7))), ((Ba 8), .inl (tc 0, 6, .inl (Bf 8))), ((Na 0), .inr (3, [.ref (Na 1), .ref (Na 2), .ref (Na 3), .int (Nv 0)])), ((Na 1), .inl (tc 0, 10, .inl (Nf 1))), ((Na 2), .inl (tc 0, 10, .inl (Nf 2))), ((Na 3), .inl (tc 0, 10, .inl (Nf 3))), ((Ia 0), .inl (tc 6, 4, .inr (.inr (.inr (.inr (Iq 0))))))]) 0 0 := by
  refine Ct.start (by decide) (Nat.le_of_ble_eq_true rfl) (fun p e s m below meth c A ls hx hb hr hlk hin hml hown hts hK hX hP hD hA hl hS => ?_)
  have hl : lv_has ls 3 [(0, .ref (Ga 0)), (1, .int x1)] := hl
  refine lv_iload_n hx hb dX11_image_0 rfl (lv_at hl 1 rfl) ?_
  refine lv_if_lt (tgt := 13) hx hb dX11_image_1 (by decide) (fun c_1 => ?_) (fun c_1 => ?_)
  · skip
    refine lv_iconst (v := (-1)) hx hb dX11_image_13 (by decide) ?_
    exact retI (v := (-1)) hx hb hr hlk (rfl) hP hD hS () ⟨_, rfl, trivial⟩ [0, 1, 2, 3, 4, 5, 6, 7, 8, 9, 10, 11, 12, 13, 14, 15, 16, 17, 18, 19, 20, 21, 22, 23, 24] rfl rfl dX11_image_14 (Nat.le_of_ble_eq_true rfl) (Nat.le_of_ble_eq_true rfl) rfl
  · skip
    refine lv_iload_n hx hb dX11_image_4 rfl (lv_at hl 1 rfl) ?_
    refine lv_aload_n hx hb dX11_image_5 rfl (lv_at hl 0 rfl) ?_
    refine gf_X11_61 hx hb hts hown hK hP 0 rfl rfl dX11_image_6 ?_
    refine va_alen hx hb hK hP 24 6 rfl rfl (v := 4) rfl dX11_image_9 ?_
    refine lv_icmp_lt (tgt := 15) hx hb dX11_image_10 (by decide) (fun c_2 => ?_) (fun c_2 => ?_)
    · skip
      exfalso
      have z_1 := Int32.le_iff_toInt_le.mp (Int32.not_lt.mp c_1)
      have z_2 := Int32.lt_iff_toInt_lt.mp c_2
      have y_0 : (0 : Int32).toInt = 0 := by decide
      have y_4 : (4 : Int32).toInt = 4 := by decide
      omega
    · skip
      refine lv_iconst (v := (-1)) hx hb dX11_image_13 (by decide) ?_
      exact retI (v := (-1)) hx hb hr hlk (rfl) hP hD hS () ⟨_, rfl, trivial⟩ [0, 1, 2, 3, 4, 5, 6, 7, 8, 9, 10, 11, 12, 13, 14, 15, 16, 17, 18, 19, 20, 21, 22, 23, 24] rfl rfl dX11_image_14 (Nat.le_of_ble_eq_true rfl) (Nat.le_of_ble_eq_true rfl) rfl
set_option maxHeartbeats 4000000 in
set_option maxRecDepth 100000 in
theorem ct_X11_back_o (l : Launch) (D : va_G) (tc : Nat → ClassId) (sk : (Nat → Nat) × (Nat → Nat)) (Ga : Nat → Nat) (Gv : Nat → Int32) (Sa : Nat → Nat) (Sv : Nat → Int32) (Aa : Nat → Nat) (Av : Nat → Int32) (Af : Nat → Nat → Int32) (Ba : Nat → Nat) (Bv : Nat → Int32) (Bf : Nat → Nat → Int32) (Na : Nat → Nat) (Nv : Nat → Int32) (Nf : Nat → Nat → Int32) (Ia : Nat → Nat) (Iq : Nat → Nat → Option Nat) (Pa : Nat → Nat) (Pv : Nat → Int32) (Pq : Nat → Nat → Option Nat) (x1 : Int32) (h_k : x1.toInt < 0 ∨ 4 ≤ x1.toInt) : Ct l yX11_back cX11_back 3 (some .int) { frames := 0, cells := 0, slots := 0, locals := 0 } D tc sk [.ref (Ga 0), .int x1] [((Ga 0), .inr (11, [.ref (Ga 1), .ref (Ga 2), .ref (Ga 3), .ref (Ga 4), .int (Gv 0), .ref (Sa 0), .ref (Aa 0), .ref (Pa 0), .ref (Ia 0), .ref (Ga 9), .ref (Ga 10), .ref (Ga 11)])), ((Sa 0), .inr (8, [.ref (Aa 0), .ref (Ba 0), .ref (Na 0), .int (Sv 0), .int (Sv 1)])), ((Aa 0), .inr (9, [.int (Av 0), .int (Av 1), .int (Av 2), .int (Av 3), .int (Av 4), .int (Av 5), .ref (Aa 1), .ref (Aa 2), .ref (Aa 3), .ref (Aa 4), .ref (Aa 5), .ref (Aa 6), .ref (Aa 7), .ref (Aa 8)])), ((Aa 1), .inl (tc 0, 10, .inl (Af 1))), ((Aa 2), .inl (tc 0, 10, .inl (Af 2))), ((Aa 3), .inl (tc 0, 6, .inl (Af 3))), ((Aa 4), .inl (tc 0, 6, .inl (Af 4))), ((Aa 5), .inl (tc 0, 6, .inl (Af 5))), ((Aa 6), .inl (tc 0, 6, .inl (Af 6))), ((Aa 7), .inl (tc 0, 6, .inl (Af 7))), ((Aa 8), .inl (tc 0, 6, .inl (Af 8))), ((Ba 0), .inr (9, [.int (Bv 0), .int (Bv 1), .int (Bv 2), .int (Bv 3), .int (Bv 4), .int (Bv 5), .ref (Ba 1), .ref (Ba 2), .ref (Ba 3), .ref (Ba 4), .ref (Ba 5), .ref (Ba 6), .ref (Ba 7), .ref (Ba 8)])), ((Ba 1), .inl (tc 0, 10, .inl (Bf 1))), ((Ba 2), .inl (tc 0, 10, .inl (Bf 2))), ((Ba 3), .inl (tc 0, 6, .inl (Bf 3))), ((Ba 4), .inl (tc 0, 6, .inl (Bf 4))), ((Ba 5), .inl (tc 0, 6, .inl (Bf 5))), ((Ba 6), .inl (tc 0, 6, .inl (Bf 6))), ((Ba 7), .inl (tc 0, 6, .inl (Bf 7))), ((Ba 8), .inl (tc 0, 6, .inl (Bf 8))), ((Na 0), .inr (3, [.ref (Na 1), .ref (Na 2), .ref (Na 3), .int (Nv 0)])), ((Na 1), .inl (tc 0, 10, .inl (Nf 1))), ((Na 2), .inl (tc 0, 10, .inl (Nf 2))), ((Na 3), .inl (tc 0, 10, .inl (Nf 3))), ((Ia 0), .inl (tc 6, 4, .inr (.inr (.inr (.inr (Iq 0)))))), ((Pa 0), .inr (5, [.ref (Pa 1), .int (Pv 0), .int (Pv 1)])), ((Pa 1), .inl (tc 5, 20, .inr (.inr (.inr (.inr (Pq 1))))))] (fun (v : Option Value) (_ : Unit) => ∃ r : Int32, v = some (.int r) ∧ (True)) (fun (_ : Unit) => [((Ga 0), .inr (11, [.ref (Ga 1), .ref (Ga 2), .ref (Ga 3), .ref (Ga 4), .int (Gv 0), .ref (Sa 0), .ref (Aa 0), .ref (Pa 0), .ref (Ia 0), .ref (Ga 9), .ref (Ga 10), .ref (Ga 11)])), ((Sa 0), .inr (8, [.ref (Aa 0), .ref (Ba 0), .ref (Na 0), .int (Sv 0), .int (Sv 1)])), ((Aa 0), .inr (9, [.int (Av 0), .int (Av 1), .int (Av 2), .int (Av 3), .int (Av 4), .int (Av 5), .ref (Aa 1), .ref (Aa 2), .ref (Aa 3), .ref (Aa 4), .ref (Aa 5), .ref (Aa 6), .ref (Aa 7), .ref (Aa 8)])), ((Aa 1), .inl (tc 0, 10, .inl (Af 1))), ((Aa 2), .inl (tc 0, 10, .inl (Af 2))), ((Aa 3), .inl (tc 0, 6, .inl (Af 3))), ((Aa 4), .inl (tc 0, 6, .inl (Af 4))), ((Aa 5), .inl (tc 0, 6, .inl (Af 5))), ((Aa 6), .inl (tc 0, 6, .inl (Af 6))), ((Aa 7), .inl (tc 0, 6, .inl (Af 7))), ((Aa 8), .inl (tc 0, 6, .inl (Af 8))), ((Ba 0), .inr (9, [.int (Bv 0), .int (Bv 1), .int (Bv 2), .int (Bv 3), .int (Bv 4), .int (Bv 5), .ref (Ba 1), .ref (Ba 2), .ref (Ba 3), .ref (Ba 4), .ref (Ba 5), .ref (Ba 6), .ref (Ba 7), .ref (Ba 8)])), ((Ba 1), .inl (tc 0, 10, .inl (Bf 1))), ((Ba 2), .inl (tc 0, 10, .inl (Bf 2))), ((Ba 3), .inl (tc 0, 6, .inl (Bf 3))), ((Ba 4), .inl (tc 0, 6, .inl (Bf 4))), ((Ba 5), .inl (tc 0, 6, .inl (Bf 5))), ((Ba 6), .inl (tc 0, 6, .inl (Bf 6))), ((Ba 7), .inl (tc 0, 6, .inl (Bf 7))), ((Ba 8), .inl (tc 0, 6, .inl (Bf 8))), ((Na 0), .inr (3, [.ref (Na 1), .ref (Na 2), .ref (Na 3), .int (Nv 0)])), ((Na 1), .inl (tc 0, 10, .inl (Nf 1))), ((Na 2), .inl (tc 0, 10, .inl (Nf 2))), ((Na 3), .inl (tc 0, 10, .inl (Nf 3))), ((Ia 0), .inl (tc 6, 4, .inr (.inr (.inr (.inr (Iq 0)))))), ((Pa 0), .inr (5, [.ref (Pa 1), .int (Pv 0), .int (Pv 1)])), ((Pa 1), .inl (tc 5, 20, .inr (.inr (.inr (.inr (Pq 1))))))]) 0 0 := by
  refine Ct.start (by decide) (Nat.le_of_ble_eq_true rfl) (fun p e s m below meth c A ls hx hb hr hlk hin hml hown hts hK hX hP hD hA hl hS => ?_)
  have hl : lv_has ls 3 [(0, .ref (Ga 0)), (1, .int x1)] := hl
  refine lv_iload_n hx hb dX11_back_0 rfl (lv_at hl 1 rfl) ?_
  refine lv_if_lt (tgt := 13) hx hb dX11_back_1 (by decide) (fun c_1 => ?_) (fun c_1 => ?_)
  · skip
    refine lv_iconst (v := (-1)) hx hb dX11_back_13 (by decide) ?_
    exact retI (v := (-1)) hx hb hr hlk (rfl) hP hD hS () ⟨_, rfl, trivial⟩ [0, 1, 2, 3, 4, 5, 6, 7, 8, 9, 10, 11, 12, 13, 14, 15, 16, 17, 18, 19, 20, 21, 22, 23, 24, 25, 26] rfl rfl dX11_back_14 (Nat.le_of_ble_eq_true rfl) (Nat.le_of_ble_eq_true rfl) rfl
  · skip
    refine lv_iload_n hx hb dX11_back_4 rfl (lv_at hl 1 rfl) ?_
    refine lv_aload_n hx hb dX11_back_5 rfl (lv_at hl 0 rfl) ?_
    refine gf_X11_61 hx hb hts hown hK hP 0 rfl rfl dX11_back_6 ?_
    refine va_alen hx hb hK hP 24 6 rfl rfl (v := 4) rfl dX11_back_9 ?_
    refine lv_icmp_lt (tgt := 15) hx hb dX11_back_10 (by decide) (fun c_2 => ?_) (fun c_2 => ?_)
    · skip
      exfalso
      have z_1 := Int32.le_iff_toInt_le.mp (Int32.not_lt.mp c_1)
      have z_2 := Int32.lt_iff_toInt_lt.mp c_2
      have y_0 : (0 : Int32).toInt = 0 := by decide
      have y_4 : (4 : Int32).toInt = 4 := by decide
      omega
    · skip
      refine lv_iconst (v := (-1)) hx hb dX11_back_13 (by decide) ?_
      exact retI (v := (-1)) hx hb hr hlk (rfl) hP hD hS () ⟨_, rfl, trivial⟩ [0, 1, 2, 3, 4, 5, 6, 7, 8, 9, 10, 11, 12, 13, 14, 15, 16, 17, 18, 19, 20, 21, 22, 23, 24, 25, 26] rfl rfl dX11_back_14 (Nat.le_of_ble_eq_true rfl) (Nat.le_of_ble_eq_true rfl) rfl
set_option maxHeartbeats 4000000 in
set_option maxRecDepth 100000 in
theorem ct_X11_back_n (l : Launch) (D : va_G) (tc : Nat → ClassId) (sk : (Nat → Nat) × (Nat → Nat)) (Ga : Nat → Nat) (Gv : Nat → Int32) (Sa : Nat → Nat) (Sv : Nat → Int32) (Aa : Nat → Nat) (Av : Nat → Int32) (Af : Nat → Nat → Int32) (Ba : Nat → Nat) (Bv : Nat → Int32) (Bf : Nat → Nat → Int32) (Na : Nat → Nat) (Nv : Nat → Int32) (Nf : Nat → Nat → Int32) (Ia : Nat → Nat) (Iq : Nat → Nat → Option Nat) (Pa : Nat → Nat) (Pv : Nat → Int32) (Pq : Nat → Nat → Option Nat) (x1 : Int32) (h_k : 0 ≤ x1.toInt ∧ x1.toInt < 4) (h_q : (Iq 0) x1.toNatClampNeg = none) (h_bA : 0 ≤ ((Av 3) : Int32).toInt ∧ ((Av 3) : Int32).toInt ≤ 6) (h_bB : 0 ≤ ((Bv 3) : Int32).toInt ∧ ((Bv 3) : Int32).toInt ≤ 6) : Ct l yX11_back cX11_back 3 (some .int) { frames := 0, cells := 0, slots := 0, locals := 0 } D tc sk [.ref (Ga 0), .int x1] [((Ga 0), .inr (11, [.ref (Ga 1), .ref (Ga 2), .ref (Ga 3), .ref (Ga 4), .int (Gv 0), .ref (Sa 0), .ref (Aa 0), .ref (Pa 0), .ref (Ia 0), .ref (Ga 9), .ref (Ga 10), .ref (Ga 11)])), ((Sa 0), .inr (8, [.ref (Aa 0), .ref (Ba 0), .ref (Na 0), .int (Sv 0), .int (Sv 1)])), ((Aa 0), .inr (9, [.int (Av 0), .int (Av 1), .int (Av 2), .int (Av 3), .int (Av 4), .int (Av 5), .ref (Aa 1), .ref (Aa 2), .ref (Aa 3), .ref (Aa 4), .ref (Aa 5), .ref (Aa 6), .ref (Aa 7), .ref (Aa 8)])), ((Aa 1), .inl (tc 0, 10, .inl (Af 1))), ((Aa 2), .inl (tc 0, 10, .inl (Af 2))), ((Aa 3), .inl (tc 0, 6, .inl (Af 3))), ((Aa 4), .inl (tc 0, 6, .inl (Af 4))), ((Aa 5), .inl (tc 0, 6, .inl (Af 5))), ((Aa 6), .inl (tc 0, 6, .inl (Af 6))), ((Aa 7), .inl (tc 0, 6, .inl (Af 7))), ((Aa 8), .inl (tc 0, 6, .inl (Af 8))), ((Ba 0), .inr (9, [.int (Bv 0), .int (Bv 1), .int (Bv 2), .int (Bv 3), .int (Bv 4), .int (Bv 5), .ref (Ba 1), .ref (Ba 2), .ref (Ba 3), .ref (Ba 4), .ref (Ba 5), .ref (Ba 6), .ref (Ba 7), .ref (Ba 8)])), ((Ba 1), .inl (tc 0, 10, .inl (Bf 1))), ((Ba 2), .inl (tc 0, 10, .inl (Bf 2))), ((Ba 3), .inl (tc 0, 6, .inl (Bf 3))), ((Ba 4), .inl (tc 0, 6, .inl (Bf 4))), ((Ba 5), .inl (tc 0, 6, .inl (Bf 5))), ((Ba 6), .inl (tc 0, 6, .inl (Bf 6))), ((Ba 7), .inl (tc 0, 6, .inl (Bf 7))), ((Ba 8), .inl (tc 0, 6, .inl (Bf 8))), ((Na 0), .inr (3, [.ref (Na 1), .ref (Na 2), .ref (Na 3), .int (Nv 0)])), ((Na 1), .inl (tc 0, 10, .inl (Nf 1))), ((Na 2), .inl (tc 0, 10, .inl (Nf 2))), ((Na 3), .inl (tc 0, 10, .inl (Nf 3))), ((Ia 0), .inl (tc 6, 4, .inr (.inr (.inr (.inr (Iq 0)))))), ((Pa 0), .inr (5, [.ref (Pa 1), .int (Pv 0), .int (Pv 1)])), ((Pa 1), .inl (tc 5, 20, .inr (.inr (.inr (.inr (Pq 1))))))] (fun (v : Option Value) (_ : Unit) => ∃ r : Int32, v = some (.int r) ∧ (True) ∧ (0 ≤ ((Av 3) : Int32).toInt ∧ ((Av 3) : Int32).toInt ≤ 6) ∧ (0 ≤ ((Bv 3) : Int32).toInt ∧ ((Bv 3) : Int32).toInt ≤ 6)) (fun (_ : Unit) => [((Ga 0), .inr (11, [.ref (Ga 1), .ref (Ga 2), .ref (Ga 3), .ref (Ga 4), .int (Gv 0), .ref (Sa 0), .ref (Aa 0), .ref (Pa 0), .ref (Ia 0), .ref (Ga 9), .ref (Ga 10), .ref (Ga 11)])), ((Sa 0), .inr (8, [.ref (Aa 0), .ref (Ba 0), .ref (Na 0), .int (Sv 0), .int (Sv 1)])), ((Aa 0), .inr (9, [.int (Av 0), .int (Av 1), .int (Av 2), .int (Av 3), .int (Av 4), .int (Av 5), .ref (Aa 1), .ref (Aa 2), .ref (Aa 3), .ref (Aa 4), .ref (Aa 5), .ref (Aa 6), .ref (Aa 7), .ref (Aa 8)])), ((Aa 1), .inl (tc 0, 10, .inl (Af 1))), ((Aa 2), .inl (tc 0, 10, .inl (Af 2))), ((Aa 3), .inl (tc 0, 6, .inl (Af 3))), ((Aa 4), .inl (tc 0, 6, .inl (Af 4))), ((Aa 5), .inl (tc 0, 6, .inl (Af 5))), ((Aa 6), .inl (tc 0, 6, .inl (Af 6))), ((Aa 7), .inl (tc 0, 6, .inl (Af 7))), ((Aa 8), .inl (tc 0, 6, .inl (Af 8))), ((Ba 0), .inr (9, [.int (Bv 0), .int (Bv 1), .int (Bv 2), .int (Bv 3), .int (Bv 4), .int (Bv 5), .ref (Ba 1), .ref (Ba 2), .ref (Ba 3), .ref (Ba 4), .ref (Ba 5), .ref (Ba 6), .ref (Ba 7), .ref (Ba 8)])), ((Ba 1), .inl (tc 0, 10, .inl (Bf 1))), ((Ba 2), .inl (tc 0, 10, .inl (Bf 2))), ((Ba 3), .inl (tc 0, 6, .inl (Bf 3))), ((Ba 4), .inl (tc 0, 6, .inl (Bf 4))), ((Ba 5), .inl (tc 0, 6, .inl (Bf 5))), ((Ba 6), .inl (tc 0, 6, .inl (Bf 6))), ((Ba 7), .inl (tc 0, 6, .inl (Bf 7))), ((Ba 8), .inl (tc 0, 6, .inl (Bf 8))), ((Na 0), .inr (3, [.ref (Na 1), .ref (Na 2), .ref (Na 3), .int (Nv 0)])), ((Na 1), .inl (tc 0, 10, .inl (Nf 1))), ((Na 2), .inl (tc 0, 10, .inl (Nf 2))), ((Na 3), .inl (tc 0, 10, .inl (Nf 3))), ((Ia 0), .inl (tc 6, 4, .inr (.inr (.inr (.inr (Iq 0)))))), ((Pa 0), .inr (5, [.ref (Pa 1), .int (Pv 0), .int (Pv 1)])), ((Pa 1), .inl (tc 5, 20, .inr (.inr (.inr (.inr (Pq 1))))))]) 0 0 := by
  refine Ct.start (by decide) (Nat.le_of_ble_eq_true rfl) (fun p e s m below meth c A ls hx hb hr hlk hin hml hown hts hK hX hP hD hA hl hS => ?_)
  have hl : lv_has ls 3 [(0, .ref (Ga 0)), (1, .int x1)] := hl
  refine lv_iload_n hx hb dX11_back_0 rfl (lv_at hl 1 rfl) ?_
  refine lv_if_lt (tgt := 13) hx hb dX11_back_1 (by decide) (fun c_1 => ?_) (fun c_1 => ?_)
  · skip
    exfalso
    have z_1 := Int32.lt_iff_toInt_lt.mp c_1
    have y_0 : (0 : Int32).toInt = 0 := by decide
    omega
  · skip
    refine lv_iload_n hx hb dX11_back_4 rfl (lv_at hl 1 rfl) ?_
    refine lv_aload_n hx hb dX11_back_5 rfl (lv_at hl 0 rfl) ?_
    refine gf_X11_61 hx hb hts hown hK hP 0 rfl rfl dX11_back_6 ?_
    refine va_alen hx hb hK hP 24 6 rfl rfl (v := 4) rfl dX11_back_9 ?_
    refine lv_icmp_lt (tgt := 15) hx hb dX11_back_10 (by decide) (fun c_2 => ?_) (fun c_2 => ?_)
    · skip
      refine lv_aload_n hx hb dX11_back_15 rfl (lv_at hl 0 rfl) ?_
      refine gf_X11_61 hx hb hts hown hK hP 0 rfl rfl dX11_back_16 ?_
      refine lv_iload_n hx hb dX11_back_19 rfl (lv_at hl 1 rfl) ?_
      have hi_3 : vp_in x1 4 := by
        have z_1 := Int32.le_iff_toInt_le.mp (Int32.not_lt.mp c_1)
        have z_2 := Int32.lt_iff_toInt_lt.mp c_2
        have y_0 : (0 : Int32).toInt = 0 := by decide
        have y_4 : (4 : Int32).toInt = 4 := by decide
        refine vp_in_iff.mpr ⟨?_, ?_⟩ <;> omega
      refine va_aldq hx hb hK hP 24 6 rfl rfl hi_3 dX11_back_20 ?_
      refine lv_val (v := .null) (by rw [h_q]; rfl) ?_
      refine lv_astore_nN (lv' := [(2, .null), (0, .ref (Ga 0)), (1, .int x1)]) hx hb dX11_back_21 rfl hl (by decide) rfl (fun ls hl₀ => ?_)
      replace hl := hl₀
      clear hl₀
      refine lv_aload_nN hx hb dX11_back_22 rfl (lv_at hl 0 rfl) ?_
      refine lv_ifnonnullN hx hb dX11_back_23 ?_
      refine lv_iconst (v := (-1)) hx hb dX11_back_26 (by decide) ?_
      exact retI (v := (-1)) hx hb hr hlk (rfl) hP hD hS () ⟨_, rfl, trivial, h_bA, h_bB⟩ [0, 1, 2, 3, 4, 5, 6, 7, 8, 9, 10, 11, 12, 13, 14, 15, 16, 17, 18, 19, 20, 21, 22, 23, 24, 25, 26] rfl rfl dX11_back_27 (Nat.le_of_ble_eq_true rfl) (Nat.le_of_ble_eq_true rfl) rfl
    · skip
      exfalso
      have z_1 := Int32.le_iff_toInt_le.mp (Int32.not_lt.mp c_1)
      have z_2 := Int32.le_iff_toInt_le.mp (Int32.not_lt.mp c_2)
      have y_0 : (0 : Int32).toInt = 0 := by decide
      have y_4 : (4 : Int32).toInt = 4 := by decide
      omega
theorem cB_rg {f : Nat → Int32} {n : Int32} (h : Byt f) (k : Nat) : ((k : Int) < n.toInt ∧ 0 ≤ cB f n k ∧ cB f n k ≤ 255) ∨ (n.toInt ≤ (k : Int) ∧ cB f n k = -1) := by
  by_cases z : (k : Int) < n.toInt
  · left; rw [cB_in z]; exact ⟨z, h k⟩
  · right; exact ⟨by omega, cB_out (by omega)⟩
theorem Rn.rf {P : Int → Bool} {f : Nat → Int32} {n p : Int32} : Rn P f n p p := ⟨Int.le_refl _, fun i a b => by omega⟩
def rTE (B : Nat → Int) (r : Except Int (Nat × Nat)) : Except Int (Nat × Nat) := pz_b r (fun s => .ok (pz_te B s.1, s.2))
theorem rNX_eq {B : Nat → Int} {r : Except Int (Nat × Nat)} : rSK B (rTE B r) = rNX B r := by cases r <;> rfl
theorem TpR.tb {f : Nat → Int32} {n : Int32} {r : Except Int (Nat × Nat)} {a b c d : Int32} (h : TpR f n r a b c d) : TpB (rTE (cB f n) r) b d := by
  cases r with
  | error e => exact ⟨h.1, h.2.1⟩
  | ok s => exact ⟨h.1, h.2.2.1⟩
theorem TpB.at {f : Nat → Int32} {n : Int32} {r : Except Int (Nat × Nat)} {a b b0 c d : Int32} (h : TpB r b0 d) (hd : d.toInt = 0) (h0 : 0 ≤ b0.toInt) (h1 : Rn pz_isS f n b0 a) (h4 : a.toInt ≤ 400) (h2 : ¬ cB f n a.toInt.toNat = 32) (hb : b.toInt = (pz_te (cB f n) a.toInt.toNat : Int)) (hc : c.toInt = cB f n a.toInt.toNat) : TpR f n (rSK (cB f n) r) a b c d := by
  cases r with
  | error e => exact absurd (h.1.symm.trans hd) h.2
  | ok s =>
    have hs : s.1 = b0.toInt.toNat := by have := h.2; omega
    have e : pz_sk (cB f n) s.1 = a.toInt.toNat := by
      rw [hs]
      exact h1.run h0 h4 (fun z => h2 (of_decide_eq_true z))
    have hp := h1.1
    refine ⟨hd, ?_, ?_, ?_⟩
    · show a.toInt = (pz_sk (cB f n) s.1 : Int)
      rw [e]; omega
    · show b.toInt = (pz_te (cB f n) (pz_sk (cB f n) s.1) : Int)
      rw [e]; exact hb
    · show c.toInt = cB f n (pz_sk (cB f n) s.1)
      rw [e]; exact hc
theorem te_L {f : Nat → Int32} {n a b x : Int32} (h0 : 0 ≤ a.toInt) (hx : x.toInt = cB f n a.toInt.toNat) (hL : 97 ≤ x.toInt ∧ x.toInt ≤ 122) (h : Rn pz_isL f n a b) (h4 : b.toInt ≤ 400) (hn : ¬ (97 ≤ cB f n b.toInt.toNat ∧ cB f n b.toInt.toNat ≤ 122)) : b.toInt = (pz_te (cB f n) a.toInt.toNat : Int) := by
  have e : pz_te (cB f n) a.toInt.toNat = b.toInt.toNat := by
    unfold pz_te
    rw [if_pos (by rw [← hx]; exact decide_eq_true hL)]
    exact h.run h0 h4 (fun z => hn (of_decide_eq_true z))
  have := h.1
  rw [e]; omega
theorem te_D {f : Nat → Int32} {n a b x : Int32} (h0 : 0 ≤ a.toInt) (hx : x.toInt = cB f n a.toInt.toNat) (hL : 48 ≤ x.toInt ∧ x.toInt ≤ 57) (h : Rn pz_isD f n a b) (h4 : b.toInt ≤ 400) (hn : ¬ (48 ≤ cB f n b.toInt.toNat ∧ cB f n b.toInt.toNat ≤ 57)) : b.toInt = (pz_te (cB f n) a.toInt.toNat : Int) := by
  have e : pz_te (cB f n) a.toInt.toNat = b.toInt.toNat := by
    unfold pz_te
    rw [if_neg (by rw [← hx]; intro z; have := of_decide_eq_true z; omega), if_pos (by rw [← hx]; exact decide_eq_true hL)]
    exact h.run h0 h4 (fun z => hn (of_decide_eq_true z))
  have := h.1
  rw [e]; omega
theorem te_1 {f : Nat → Int32} {n a b x : Int32} (h0 : 0 ≤ a.toInt) (hx : x.toInt = cB f n a.toInt.toNat) (hL : ¬ (97 ≤ x.toInt ∧ x.toInt ≤ 122)) (hD : ¬ (48 ≤ x.toInt ∧ x.toInt ≤ 57)) (hE : ¬ x.toInt = -1) (h2 : ¬ ((x.toInt = 60 ∨ x.toInt = 62) ∧ cB f n (a.toInt.toNat + 1) = 61)) (hb : b.toInt = a.toInt + 1) : b.toInt = (pz_te (cB f n) a.toInt.toNat : Int) := by
  have e : pz_te (cB f n) a.toInt.toNat = a.toInt.toNat + 1 := by
    unfold pz_te
    rw [← hx, if_neg (show ¬ pz_isL x.toInt = true from fun z => hL (of_decide_eq_true z)), if_neg (show ¬ pz_isD x.toInt = true from fun z => hD (of_decide_eq_true z)), if_neg hE, if_neg h2]
  rw [e]; omega
theorem te_2 {f : Nat → Int32} {n a b x : Int32} (h0 : 0 ≤ a.toInt) (hx : x.toInt = cB f n a.toInt.toNat) (h2 : (x.toInt = 60 ∨ x.toInt = 62) ∧ cB f n (a.toInt.toNat + 1) = 61) (hb : b.toInt = a.toInt + 2) : b.toInt = (pz_te (cB f n) a.toInt.toNat : Int) := by
  have e : pz_te (cB f n) a.toInt.toNat = a.toInt.toNat + 2 := by
    unfold pz_te
    rw [← hx, if_neg (fun z => by have := of_decide_eq_true z; omega), if_neg (fun z => by have := of_decide_eq_true z; omega), if_neg (by omega), if_pos h2]
  rw [e]; omega
theorem te_0 {f : Nat → Int32} {n a x : Int32} (h0 : 0 ≤ a.toInt) (hx : x.toInt = cB f n a.toInt.toNat) (hE : x.toInt = -1) : a.toInt = (pz_te (cB f n) a.toInt.toNat : Int) := by
  have e : pz_te (cB f n) a.toInt.toNat = a.toInt.toNat := by
    unfold pz_te
    rw [← hx, hE, if_neg (by decide), if_neg (by decide), if_pos rfl]
  rw [e]; omega
theorem pz_run_le {P : Int → Bool} {f : Nat → Int32} {n : Int32} (hP : P (-1) = false) : ∀ (k p : Nat), (p : Int) ≤ n.toInt → (pz_run P (cB f n) k p : Int) ≤ n.toInt
  | 0, p, h => h
  | k + 1, p, h => by
    unfold pz_run
    by_cases z : P (cB f n p) = true
    · rw [if_pos z]
      have hp : (p : Int) < n.toInt := by
        refine Int.lt_of_not_ge (fun y => ?_)
        rw [cB_out y, hP] at z
        cases z
      exact pz_run_le hP k (p + 1) (by omega)
    · rw [if_neg z]; exact h
theorem pz_te_le {f : Nat → Int32} {n : Int32} {p : Nat} (h : (p : Int) ≤ n.toInt) : (pz_te (cB f n) p : Int) ≤ n.toInt := by
  have ne : ∀ k : Nat, cB f n k ≠ -1 → (k : Int) < n.toInt := fun k hk => Int.lt_of_not_ge (fun y => hk (cB_out y))
  unfold pz_te
  split
  · exact pz_run_le rfl _ _ h
  · split
    · exact pz_run_le rfl _ _ h
    · split
      · exact h
      · rename_i hE
        split
        · rename_i h2
          have := ne (p + 1) (by rw [h2.2]; decide)
          omega
        · have := ne p hE
          omega
theorem TpR.fail {f : Nat → Int32} {n : Int32} {r : Except Int (Nat × Nat)} {a b c d c' d' : Int32} {k : Int} (h : TpR f n r a b c d) (hd : d.toInt = 0) (hk : 0 ≤ k) (he : d'.toInt = 1 + 8 * a.toInt + k) (hc : c'.toInt = -1) : TpR f n (rER k r) a b c' d' := by
  obtain ⟨s, rfl, ha, -, -, -⟩ := h.fault0 hd
  refine ⟨?_, ?_, hc⟩
  · show d'.toInt = pz_er k s.1
    unfold pz_er; omega
  · show pz_er k s.1 ≠ 0
    unfold pz_er; omega
theorem TpR.end0 {f : Nat → Int32} {n : Int32} {r : Except Int (Nat × Nat)} {a b c d : Int32} (h : TpR f n r a b c d) (hd : d.toInt = 0) (ha : n.toInt ≤ a.toInt) : TpR f n (rEN (cB f n) r) a b c d := by
  obtain ⟨s, rfl, h1, h2, h3, h4⟩ := h.fault0 hd
  have : pz_end (cB f n) s.1 = .ok s.1 := if_pos (cB_out (by omega))
  show TpR f n (pz_b (pz_end (cB f n) s.1) (fun _ => .ok s)) a b c d
  rw [this]
  exact ⟨hd, h1, h2, h3⟩
theorem TpR.end1 {f : Nat → Int32} {n : Int32} {r : Except Int (Nat × Nat)} {a b c d a' b' c' d' : Int32} (hB : Byt f) (h : TpR f n r a b c d) (ha : d.toInt = 0 → a.toInt < n.toInt) (h' : TpR f n (rER 0 r) a' b' c' d') : TpR f n (rEN (cB f n) r) a' b' c' d' := by
  cases r with
  | error e => exact h'
  | ok s =>
    have h1 := ha h.1
    have h2 := h.2.1
    have : pz_end (cB f n) s.1 = .error (pz_er 0 s.1) := if_neg (by rw [cB_in (by omega)]; have := hB s.1; omega)
    show TpR f n (pz_b (pz_end (cB f n) s.1) (fun _ => .ok s)) a' b' c' d'
    rw [this]
    exact h'
theorem cB_yes {f : Nat → Int32} {n x1 x : Int32} (hB : Byt f) (ex : x = f x1.toNatClampNeg) (h : x1.toInt < n.toInt ∧ 0 ≤ x1.toInt) : x.toInt = cB f n x1.toInt.toNat ∧ ((n.toInt ≤ x1.toInt ∧ x.toInt = -1) ∨ (x1.toInt < n.toInt ∧ 0 ≤ x.toInt ∧ x.toInt ≤ 255)) := by
  have e : x.toInt = (f x1.toInt.toNat).toInt := congrArg Int32.toInt ex
  refine ⟨?_, Or.inr ⟨h.1, ?_⟩⟩
  · rw [cB_in (by omega)]; exact e
  · rw [e]; exact hB _
theorem cB_no {f : Nat → Int32} {n x1 : Int32} (h : n.toInt ≤ x1.toInt ∧ 0 ≤ x1.toInt) : (-1 : Int32).toInt = cB f n x1.toInt.toNat ∧ ((n.toInt ≤ x1.toInt ∧ (-1 : Int32).toInt = -1) ∨ (x1.toInt < n.toInt ∧ 0 ≤ (-1 : Int32).toInt ∧ (-1 : Int32).toInt ≤ 255)) := by
  refine ⟨?_, Or.inl ⟨h.1, by decide⟩⟩
  rw [cB_out (by omega)]; decide
theorem TpR.sg {f : Nat → Int32} {n : Int32} {r : Except Int (Nat × Nat)} {a b c d : Int32} {x : Int} (h : TpR f n r a b c d) (hx : c.toInt = x) (h0 : 0 ≤ x) : Sg (cB f n) x r := by
  cases r with
  | error e => have := h.2.2; omega
  | ok s => exact ⟨s, rfl, h.2.2.2.symm.trans hx⟩
theorem TpR.nsg {f : Nat → Int32} {n : Int32} {r : Except Int (Nat × Nat)} {a b c d : Int32} {x : Int} (h : TpR f n r a b c d) (hx : ¬ c.toInt = x) : NSg (cB f n) x r := fun s hs z => by
  subst hs
  exact hx (h.2.2.2.trans z)
def wS (i : Nat) : List Int := sbS i 0 (lenS.getD i 0)
theorem sbS_len {i a b : Nat} : (sbS i a b).length = b - a := by unfold sbS; rw [List.length_map, List.length_range]
theorem sbS_get {i a b j : Nat} (h : j < b - a) : (sbS i a b).getD j 0 = stB i (a + j) := by
  unfold sbS
  rw [List.getD_eq_getElem?_getD, List.getElem?_map, List.getElem?_range h]
  rfl
theorem NWd.len {f : Nat → Int32} {n : Int32} {r : Except Int (Nat × Nat)} {a b c d : Int32} {w : List Int} (h : TpR f n r a b c d) (hd : ¬ b.toInt - a.toInt = (w.length : Int)) : NWd (cB f n) w r := fun s hs z => by
  subst hs
  have h1 := (of_decide_eq_true z).1
  have h2 := h.2.1
  have h3 := h.2.2.1
  omega
theorem NWd.at {f : Nat → Int32} {n : Int32} {r : Except Int (Nat × Nat)} {a b c d : Int32} {w : List Int} (h : TpR f n r a b c d) (j : Nat) (hj : j < w.length) (hd : ¬ cB f n (a.toInt.toNat + j) = w.getD j 0) : NWd (cB f n) w r := fun s hs z => by
  subst hs
  have h1 := (of_decide_eq_true z).2 j hj
  have h2 : s.1 = a.toInt.toNat := by have := h.2.1; omega
  rw [h2] at h1
  exact hd h1
theorem pz_te_in {f : Nat → Int32} {n : Int32} {p j : Nat} (h : p + j < pz_te (cB f n) p) : ((p + j : Nat) : Int) < n.toInt := by
  by_cases z : (p : Int) < n.toInt
  · have := pz_te_le (f := f) (n := n) (p := p) (by omega)
    omega
  · have e : cB f n p = -1 := cB_out (by omega)
    have : pz_te (cB f n) p = p := by
      unfold pz_te
      rw [e, if_neg (by decide), if_neg (by decide), if_pos rfl]
    omega
theorem Mt.nil {f : Nat → Int32} {i : Nat} {a x2 : Int32} : Mt f i a x2 x2 := fun j h1 h2 => by omega
theorem TWd.of {f : Nat → Int32} {n : Int32} {r : Except Int (Nat × Nat)} {a b c d x2 x3 : Int32} {i : Nat} (h : TpR f n r a b c d) (hd : d.toInt = 0) (hl : b.toInt - a.toInt = x3.toInt - x2.toInt) (h2 : 0 ≤ x2.toInt ∧ x2.toInt ≤ x3.toInt) (hm : Mt f i a x2 x3) : TWd (cB f n) (sbS i x2.toInt.toNat x3.toInt.toNat) r := by
  obtain ⟨s, rfl, h1, hb, h3, h4⟩ := h.fault0 hd
  refine ⟨s, rfl, decide_eq_true ⟨?_, fun j hj => ?_⟩⟩
  · rw [sbS_len]; omega
  · rw [sbS_len] at hj
    rw [sbS_get hj, ← hm (x2.toInt.toNat + j) (by omega) (by omega)]
    have hin := pz_te_in (f := f) (n := n) (p := s.1) (j := j) (by omega)
    rw [cB_in hin]
    rw [show a.toInt.toNat + (x2.toInt.toNat + j - x2.toInt.toNat) = s.1 + j by omega]
theorem NWd.ch {f : Nat → Int32} {n : Int32} {r : Except Int (Nat × Nat)} {a b c d x2 x3 k x y q : Int32} {i : Nat} (h : TpR f n r a b c d) (hd : d.toInt = 0) (hl : b.toInt - a.toInt = x3.toInt - x2.toInt) (h2 : 0 ≤ x2.toInt ∧ x2.toInt ≤ k.toInt ∧ k.toInt < x3.toInt) (ey : y = f x.toNatClampNeg) (hx : x.toInt = a.toInt + k.toInt - x2.toInt) (hr : q.toInt = stB i k.toInt.toNat) (hyr : ¬ y.toInt = q.toInt) : NWd (cB f n) (sbS i x2.toInt.toNat x3.toInt.toNat) r := by
  obtain ⟨s, rfl, h1, hb, h3, h4⟩ := h.fault0 hd
  refine NWd.at h (k.toInt.toNat - x2.toInt.toNat) (by rw [sbS_len]; omega) (fun z => hyr ?_)
  have hin := pz_te_in (f := f) (n := n) (p := s.1) (j := k.toInt.toNat - x2.toInt.toNat) (by omega)
  rw [sbS_get (by omega), ← h4, cB_in hin, show x2.toInt.toNat + (k.toInt.toNat - x2.toInt.toNat) = k.toInt.toNat by omega, ← hr] at z
  rw [← z, ey]
  rw [show s.1 + (k.toInt.toNat - x2.toInt.toNat) = x.toInt.toNat by omega]
  rfl
theorem Wa.nil {B : Nat → Int} {i : Nat} {r : Except Int (Nat × Nat)} : Wa B i r 0 0 0 := rfl
theorem Wa.no {B : Nat → Int} {i : Nat} {r : Except Int (Nat × Nat)} {num num' frm frm' k k' x : Int32} (h : Wa B i r num frm k) (hk : 0 ≤ k.toInt ∧ k.toInt < ((lenS.getD i 0 : Nat) : Int)) (hx : x.toInt = stB i k.toInt.toNat) (h32 : x.toInt = 32) (hw : NWd B (sbS i frm.toInt.toNat k.toInt.toNat) r) (hk' : k'.toInt = k.toInt + 1) (hf' : frm'.toInt = k.toInt + 1) (hn' : num'.toInt = num.toInt + 1) : Wa B i r num' frm' k' := by
  unfold Wa at h ⊢
  rw [h, show lenS.getD i 0 - k.toInt.toNat = (lenS.getD i 0 - k'.toInt.toNat) + 1 by omega]
  rw [show wR i (lenS.getD i 0 - k'.toInt.toNat + 1) k.toInt.toNat frm.toInt.toNat = sbS i frm.toInt.toNat k.toInt.toNat :: wR i (lenS.getD i 0 - k'.toInt.toNat) (k.toInt.toNat + 1) (k.toInt.toNat + 1) from if_pos (by rw [← hx]; exact h32)]
  rw [show k.toInt.toNat + 1 = k'.toInt.toNat by omega, show frm'.toInt.toNat = k'.toInt.toNat by omega, hn']
  cases r with
  | error e => rfl
  | ok s => exact if_neg (hw s rfl)
theorem Wa.yes {B : Nat → Int} {i : Nat} {r : Except Int (Nat × Nat)} {num frm k x : Int32} (h : Wa B i r num frm k) (hk : 0 ≤ k.toInt ∧ k.toInt < ((lenS.getD i 0 : Nat) : Int)) (hx : x.toInt = stB i k.toInt.toNat) (h32 : x.toInt = 32) (hw : TWd B (sbS i frm.toInt.toNat k.toInt.toNat) r) : waR B (wL i) 0 r = num.toInt := by
  unfold Wa at h
  rw [h, show lenS.getD i 0 - k.toInt.toNat = (lenS.getD i 0 - k.toInt.toNat - 1) + 1 by omega]
  rw [show wR i (lenS.getD i 0 - k.toInt.toNat - 1 + 1) k.toInt.toNat frm.toInt.toNat = sbS i frm.toInt.toNat k.toInt.toNat :: wR i (lenS.getD i 0 - k.toInt.toNat - 1) (k.toInt.toNat + 1) (k.toInt.toNat + 1) from if_pos (by rw [← hx]; exact h32)]
  obtain ⟨s, rfl, hs⟩ := hw
  exact if_pos hs
theorem wS1 : wS 1 = pz_buy := by decide +kernel
theorem wS3 : wS 3 = pz_if := by decide +kernel
theorem wS4 : wS 4 = pz_not := by decide +kernel
theorem wS5 : wS 5 = pz_and := by decide +kernel
theorem wS6 : wS 6 = pz_or := by decide +kernel
theorem pz_te_dig {B : Nat → Int} {p i : Nat} (h : pz_isD (B p) = true) (h1 : p ≤ i) (h2 : i < pz_te B p) : 48 ≤ B i ∧ B i ≤ 57 := by
  unfold pz_te at h2
  have hD := of_decide_eq_true h
  rw [if_neg (fun z => by have := of_decide_eq_true z; omega), if_pos h] at h2
  exact of_decide_eq_true (pz_run_all 401 p i h1 h2)
theorem TpR.sgc {f : Nat → Int32} {n : Int32} {r : Except Int (Nat × Nat)} {a b c d : Int32} {x : Int} (h : TpR f n r a b c d) (hx : Sg (cB f n) x r) : c.toInt = x := by
  obtain ⟨s, rfl, e⟩ := hx
  exact h.2.2.2.trans e
theorem rNU_nd {f : Nat → Int32} {n : Int32} {r : Except Int (Nat × Nat)} {a b c d : Int32} {lo hi : Int} (h : TpR f n r a b c d) (hc : ¬ (48 ≤ c.toInt ∧ c.toInt ≤ 57)) : rNU (cB f n) lo hi r = rER 0 r := by
  cases r with
  | error e => rfl
  | ok s =>
    have h1 := h.2.2.2
    show pz_b (pz_num (cB f n) lo hi s.1) (fun _ => .ok s) = .error (pz_er 0 s.1)
    rw [show pz_num (cB f n) lo hi s.1 = .error (pz_er 0 s.1) from if_neg (fun z => hc (by rw [h1]; exact of_decide_eq_true z))]
    rfl
theorem NuV.nd {f : Nat → Int32} {n : Int32} {r : Except Int (Nat × Nat)} {a b c d v : Int32} {lo hi : Int} (h : TpR f n r a b c d) (hc : ¬ (48 ≤ c.toInt ∧ c.toInt ≤ 57)) : NuV (cB f n) lo hi r v := fun s x hs hx => by
  subst hs
  have h1 := h.2.2.2
  rw [show pz_num (cB f n) lo hi s.1 = .error (pz_er 0 s.1) from if_neg (fun z => hc (by rw [h1]; exact of_decide_eq_true z))] at hx
  cases hx
theorem rNU_long {f : Nat → Int32} {n : Int32} {r : Except Int (Nat × Nat)} {a b c d : Int32} {lo hi : Int} (h : TpR f n r a b c d) (hc : 48 ≤ c.toInt ∧ c.toInt ≤ 57) (hl : 5 < b.toInt - a.toInt) : rNU (cB f n) lo hi r = rER 1 r := by
  obtain ⟨s, rfl, -⟩ := h.okc (by omega)
  show pz_b (pz_num (cB f n) lo hi s.1) (fun _ => .ok s) = .error (pz_er 1 s.1)
  rw [num_long h hc hl]
  rfl
theorem rNU_out {f : Nat → Int32} {n : Int32} {r : Except Int (Nat × Nat)} {a b c d v : Int32} {lo hi : Int} (h : TpR f n r a b c d) (hc : 48 ≤ c.toInt ∧ c.toInt ≤ 57) (hl : b.toInt - a.toInt ≤ 5) (hv : Nv (cB f n) a v b) (ho : v.toInt < lo ∨ hi < v.toInt) : rNU (cB f n) lo hi r = rER 1 r := by
  obtain ⟨s, rfl, -⟩ := h.okc (by omega)
  show pz_b (pz_num (cB f n) lo hi s.1) (fun _ => .ok s) = .error (pz_er 1 s.1)
  rw [num_val h hc hl hv, if_pos ho]
  rfl
theorem NuV.out {f : Nat → Int32} {n : Int32} {r : Except Int (Nat × Nat)} {a b c d v v' : Int32} {lo hi : Int} (h : TpR f n r a b c d) (hc : 48 ≤ c.toInt ∧ c.toInt ≤ 57) (hl : b.toInt - a.toInt ≤ 5) (hv : Nv (cB f n) a v b) (ho : v.toInt < lo ∨ hi < v.toInt) : NuV (cB f n) lo hi r v' := fun s x hs hx => by
  subst hs
  rw [num_val h hc hl hv, if_pos ho] at hx
  cases hx
theorem rNU_ok {f : Nat → Int32} {n : Int32} {r : Except Int (Nat × Nat)} {a b c d v : Int32} {lo hi : Int} (h : TpR f n r a b c d) (hc : 48 ≤ c.toInt ∧ c.toInt ≤ 57) (hl : b.toInt - a.toInt ≤ 5) (hv : Nv (cB f n) a v b) (ho : ¬ (v.toInt < lo ∨ hi < v.toInt)) : rNU (cB f n) lo hi r = r := by
  obtain ⟨s, rfl, -⟩ := h.okc (by omega)
  show pz_b (pz_num (cB f n) lo hi s.1) (fun _ => .ok s) = .ok s
  rw [num_val h hc hl hv, if_neg ho]
  rfl
theorem TpR.dig {f : Nat → Int32} {n : Int32} {r : Except Int (Nat × Nat)} {a b c d i : Int32} (h : TpR f n r a b c d) (hc : 48 ≤ c.toInt ∧ c.toInt ≤ 57) (hi : a.toInt ≤ i.toInt ∧ i.toInt < b.toInt) : 48 ≤ cB f n i.toInt.toNat ∧ cB f n i.toInt.toNat ≤ 57 := by
  obtain ⟨s, rfl, h0, h1, h2, h3⟩ := h.okc (by omega)
  exact pz_te_dig (p := s.1) (decide_eq_true (by rw [← h3]; exact hc)) (by omega) (by omega)
theorem Ctd.nx {B : Nat → Int} {r : Except Int (Nat × Nat)} {ct : Int32} (h : Ctd r ct) : Ctd (rNX B r) ct := fun s hs => by
  cases r with
  | error e => cases hs
  | ok t => cases hs; exact h t rfl
theorem Ctd.nu {B : Nat → Int} {lo hi : Int} {r : Except Int (Nat × Nat)} {ct : Int32} (h : Ctd r ct) : Ctd (rNU B lo hi r) ct := fun s hs => by
  cases r with
  | error e => cases hs
  | ok t =>
    have hs : pz_b (pz_num B lo hi t.1) (fun _ => .ok t) = .ok s := hs
    cases e : pz_num B lo hi t.1 with
    | error z => rw [e] at hs; cases hs
    | ok z => rw [e] at hs; cases hs; exact h s rfl
theorem rC1_hi {r : Except Int (Nat × Nat)} {ct : Int32} (h : Ctd r ct) (h60 : 60 ≤ ct.toInt) : rC1 r = rER 3 r := by
  cases r with
  | error e => rfl
  | ok s => exact if_pos (by have := h s rfl; omega)
theorem TpR.c1 {f : Nat → Int32} {n : Int32} {r : Except Int (Nat × Nat)} {a b c d ct : Int32} (h : TpR f n r a b c d) (hc : Ctd r ct) (h60 : ct.toInt < 60) : TpR f n (rC1 r) a b c d := by
  cases r with
  | error e => exact h
  | ok s =>
    have : rC1 (.ok s) = .ok (s.1, s.2 + 1) := if_neg (by have := hc s rfl; omega)
    rw [this]
    exact h
theorem Ctd.c1 {r : Except Int (Nat × Nat)} {ct ct' : Int32} (hc : Ctd r ct) (h : ct.toInt < 60 → ct'.toInt = ct.toInt + 1) : Ctd (rC1 r) ct' := fun s hs => by
  cases r with
  | error e => cases hs
  | ok t =>
    have hs : (if 60 ≤ t.2 then Except.error (pz_er 3 t.1) else Except.ok (t.1, t.2 + 1)) = Except.ok s := hs
    have h1 := hc t rfl
    by_cases z : 60 ≤ t.2
    · rw [if_pos z] at hs; cases hs
    · rw [if_neg z] at hs
      cases hs
      have := h (by omega)
      show ct'.toInt = ((t.2 + 1 : Nat) : Int)
      omega
theorem val_dig {f : Nat → Int32} {n : Int32} {r : Except Int (Nat × Nat)} {a b c d : Int32} (h : TpR f n r a b c d) (hc : 48 ≤ c.toInt ∧ c.toInt ≤ 57) : pz_b r (pz_val (cB f n)) = rNX (cB f n) (rC1 (rNU (cB f n) 0 99999 r)) := by
  obtain ⟨s, rfl, h0, h1, h2, h3⟩ := h.okc (by omega)
  show pz_val (cB f n) s = _
  unfold pz_val
  rw [if_pos (show pz_isD (cB f n s.1) = true from decide_eq_true (by rw [← h3]; exact hc))]
  show _ = rNX (cB f n) (rC1 (pz_b (pz_num (cB f n) 0 99999 s.1) (fun _ => .ok s)))
  cases pz_num (cB f n) 0 99999 s.1 with
  | error e => rfl
  | ok x =>
    show pz_cnt (cB f n) s = rNX (cB f n) (if 60 ≤ s.2 then .error (pz_er 3 s.1) else .ok (s.1, s.2 + 1))
    unfold pz_cnt
    by_cases z : 60 ≤ s.2
    · rw [if_pos z, if_pos z]; rfl
    · rw [if_neg z, if_neg z]; rfl
theorem val_no {f : Nat → Int32} {n : Int32} {r : Except Int (Nat × Nat)} {a b c d : Int32} (h : TpR f n r a b c d) (hc : ¬ (48 ≤ c.toInt ∧ c.toInt ≤ 57)) (hw : waR (cB f n) (wL 2) 0 r = -1) : pz_b r (pz_val (cB f n)) = rNX (cB f n) (rC1 (rER 0 r)) := by
  cases r with
  | error e => rfl
  | ok s =>
    have h3 := h.2.2.2
    show pz_val (cB f n) s = _
    unfold pz_val
    rw [wL2] at hw
    have hw := hw
    simp only [waR] at hw
    rw [if_neg (fun z => hc (by rw [h3]; exact of_decide_eq_true z)), if_pos hw]
    rfl
theorem val_wd {f : Nat → Int32} {n : Int32} {r : Except Int (Nat × Nat)} {a b c d : Int32} (h : TpR f n r a b c d) (hc : ¬ (48 ≤ c.toInt ∧ c.toInt ≤ 57)) (hw : ¬ waR (cB f n) (wL 2) 0 r = -1) : pz_b r (pz_val (cB f n)) = rNX (cB f n) (rC1 r) := by
  cases r with
  | error e => rfl
  | ok s =>
    have h3 := h.2.2.2
    show pz_val (cB f n) s = _
    unfold pz_val
    rw [wL2] at hw
    have hw := hw
    simp only [waR] at hw
    rw [if_neg (fun z => hc (by rw [h3]; exact of_decide_eq_true z)), if_neg hw]
    show pz_cnt (cB f n) s = rNX (cB f n) (if 60 ≤ s.2 then .error (pz_er 3 s.1) else .ok (s.1, s.2 + 1))
    unfold pz_cnt
    by_cases z : 60 ≤ s.2
    · rw [if_pos z, if_pos z]; rfl
    · rw [if_neg z, if_neg z]; rfl
theorem com_yes {f : Nat → Int32} {n : Int32} {q : Except Int (Nat × Nat)} {a b c d : Int32} (h : TpR f n q a b c d) (hc : 60 ≤ c.toInt ∧ c.toInt ≤ 62) : pz_b q (pz_cmp (cB f n)) = rNX (cB f n) (rC1 q) := by
  obtain ⟨s, rfl, h0, h1, h2, h3⟩ := h.okc (by omega)
  show pz_cmp (cB f n) s = rNX (cB f n) (if 60 ≤ s.2 then .error (pz_er 3 s.1) else .ok (s.1, s.2 + 1))
  unfold pz_cmp pz_cnt
  rw [if_pos (by omega)]
  by_cases z : 60 ≤ s.2
  · rw [if_pos z, if_pos z]; rfl
  · rw [if_neg z, if_neg z]; rfl
theorem com_no {f : Nat → Int32} {n : Int32} {q : Except Int (Nat × Nat)} {a b c d : Int32} (h : TpR f n q a b c d) (hc : ¬ (60 ≤ c.toInt ∧ c.toInt ≤ 62)) : pz_b q (pz_cmp (cB f n)) = rNX (cB f n) (rC1 (rER 0 q)) := by
  cases q with
  | error e => rfl
  | ok s =>
    have h3 := h.2.2.2
    show pz_cmp (cB f n) s = .error (pz_er 0 s.1)
    unfold pz_cmp
    rw [if_neg (by omega)]
theorem fact_com {B : Nat → Int} {m : Nat} {r : Except Int (Nat × Nat)} (h1 : NWd B pz_not r) (h2 : NSg B 91 r) : pz_b r (pz_fact B m) = pz_b (pz_b (pz_b r (pz_sum B)) (pz_cmp B)) (pz_sum B) := by
  cases r with
  | error e => rfl
  | ok s =>
    show pz_fact B m s = pz_com B s
    have z1 := h1 s rfl
    have z2 := h2 s rfl
    cases m with
    | zero => exact if_neg (fun z => z.elim z1 z2)
    | succ m => exact (if_neg z1).trans (if_neg z2)
theorem fact_deepN {B : Nat → Int} {r : Except Int (Nat × Nat)} (h1 : TWd B pz_not r) : pz_b r (pz_fact B 0) = rER 2 r := by
  obtain ⟨s, rfl, h⟩ := h1
  exact if_pos (Or.inl h)
theorem fact_deepB {B : Nat → Int} {r : Except Int (Nat × Nat)} (h1 : Sg B 91 r) : pz_b r (pz_fact B 0) = rER 2 r := by
  obtain ⟨s, rfl, h⟩ := h1
  exact if_pos (Or.inr h)
theorem fact_not {B : Nat → Int} {m : Nat} {r : Except Int (Nat × Nat)} (h1 : TWd B pz_not r) : pz_b r (pz_fact B (m + 1)) = pz_b (rNX B r) (pz_fact B m) := by
  obtain ⟨s, rfl, h⟩ := h1
  exact if_pos h
theorem fact_br {B : Nat → Int} {m : Nat} {r : Except Int (Nat × Nat)} (h1 : NWd B pz_not r) (h2 : Sg B 91 r) : pz_b r (pz_fact B (m + 1)) = pz_b (pz_b (rNX B r) (pz_tst B (pz_fact B m))) (pz_rb B) := by
  obtain ⟨s, rfl, h⟩ := h2
  exact (if_neg (h1 s rfl)).trans (if_pos h)
theorem rb_yes {B : Nat → Int} {r : Except Int (Nat × Nat)} (h : Sg B 93 r) : pz_b r (pz_rb B) = rNX B r := by
  obtain ⟨s, rfl, h⟩ := h
  exact if_pos h
theorem rb_no {B : Nat → Int} {r : Except Int (Nat × Nat)} (h : NSg B 93 r) : pz_b r (pz_rb B) = rER 0 r := by
  cases r with
  | error e => rfl
  | ok s => exact if_neg (h s rfl)
theorem cla_no {B : Nat → Int} {l : Nat} {q : Except Int (Nat × Nat)} (h : NWd B pz_buy q) : pz_b q (pz_cla B l) = rER 0 q := by
  cases q with
  | error e => rfl
  | ok s => exact if_neg (h s rfl)
theorem cla_12 {B : Nat → Int} {l : Nat} {q : Except Int (Nat × Nat)} (h : TWd B pz_buy q) (hl : l = 12) : pz_b q (pz_cla B l) = rER 4 q := by
  obtain ⟨s, rfl, h⟩ := h
  exact (if_pos h).trans (if_pos hl)
theorem cla_if {B : Nat → Int} {l : Nat} {q : Except Int (Nat × Nat)} (h : TWd B pz_buy q) (hl : l ≠ 12) (h2 : TWd B pz_if (pz_b (rNX B q) (pz_sum B))) : pz_b q (pz_cla B l) = pz_b (rNX B (pz_b (rNX B q) (pz_sum B))) (pz_tst B (pz_fact B 10)) := by
  obtain ⟨s, rfl, h⟩ := h
  obtain ⟨t, ht, hw⟩ := h2
  have ht : pz_sum B (pz_nx B s) = .ok t := ht
  show pz_cla B l s = _
  unfold pz_cla
  rw [if_pos h, if_neg hl]
  show pz_b (pz_sum B (pz_nx B s)) _ = pz_b (rNX B (pz_sum B (pz_nx B s))) _
  rw [ht]
  exact if_pos hw
def RuK (B : Nat → Int) : Prop := ∃ p, pz_rule B = .ok p
def RuF (B : Nat → Int) (d : Int32) : Prop := pz_rule B = .error d.toInt ∧ ¬ d.toInt = 0
theorem RuK.of {f : Nat → Int32} {n : Int32} {q : Except Int (Nat × Nat)} {a b c d : Int32} (hr : pz_rule (cB f n) = pz_b q (fun s => pz_end (cB f n) s.1)) (h : TpR f n (rEN (cB f n) q) a b c d) (hd : d.toInt = 0) : RuK (cB f n) := by
  obtain ⟨s, hs, -⟩ := h.fault0 hd
  cases q with
  | error e => cases hs
  | ok t =>
    have hs : pz_b (pz_end (cB f n) t.1) (fun _ => .ok t) = .ok s := hs
    have hr : pz_rule (cB f n) = pz_end (cB f n) t.1 := hr
    cases e : pz_end (cB f n) t.1 with
    | error z => rw [e] at hs; cases hs
    | ok z => exact ⟨z, hr.trans e⟩
theorem RuF.of {f : Nat → Int32} {n : Int32} {q : Except Int (Nat × Nat)} {a b c d : Int32} (hr : pz_rule (cB f n) = pz_b q (fun s => pz_end (cB f n) s.1)) (h : TpR f n (rEN (cB f n) q) a b c d) (hd : ¬ d.toInt = 0) : RuF (cB f n) d := by
  cases q with
  | error e => exact ⟨hr.trans (congrArg Except.error h.1.symm), hd⟩
  | ok t =>
    have hr : pz_rule (cB f n) = pz_end (cB f n) t.1 := hr
    have h : TpR f n (pz_b (pz_end (cB f n) t.1) (fun _ => .ok t)) a b c d := h
    cases e : pz_end (cB f n) t.1 with
    | error z => rw [e] at h; exact ⟨(hr.trans e).trans (congrArg Except.error h.1.symm), hd⟩
    | ok z => rw [e] at h; exact absurd h.1 hd
set_option maxHeartbeats 4000000 in
set_option maxRecDepth 100000 in
theorem ct_fX10_isLetter (l : Launch) (D : va_G) (tc : Nat → ClassId) (sk : (Nat → Nat) × (Nat → Nat)) (x1 : Int32)  : Ct l yX10_isLetter cX10_isLetter 1 (some .boolean) { frames := 0, cells := 0, slots := 0, locals := 0 } D tc sk [.int x1] [] (fun (v : Option Value) (_ : Unit) => ∃ r : Int32, v = some (.int r) ∧ (((r.toInt = 1 ∧ 97 ≤ x1.toInt ∧ x1.toInt ≤ 122) ∨ (r.toInt = 0 ∧ (x1.toInt < 97 ∨ 122 < x1.toInt))))) (fun (_ : Unit) => []) 0 0 := by
  refine Ct.start (by decide) (Nat.le_of_ble_eq_true rfl) (fun p e s m below meth c A ls hx hb hr hlk hin hml hown hts hK hX hP hD hA hl hS => ?_)
  have hl : lv_has ls 1 [(0, .int x1)] := hl
  refine lv_iload_n hx hb dX10_isLetter_0 rfl (lv_at hl 0 rfl) ?_
  refine lv_bipush (v := 97) hx hb dX10_isLetter_1 (by decide) ?_
  refine lv_icmp_lt (tgt := 16) hx hb dX10_isLetter_3 (by decide) (fun c_1 => ?_) (fun c_1 => ?_)
  · skip
    refine lv_iconst (v := 0) hx hb dX10_isLetter_16 (by decide) ?_
    have hp_2 : (((0 : Int32).toInt = 1 ∧ 97 ≤ x1.toInt ∧ x1.toInt ≤ 122) ∨ ((0 : Int32).toInt = 0 ∧ (x1.toInt < 97 ∨ 122 < x1.toInt))) := by
      have z_1 := Int32.lt_iff_toInt_lt.mp c_1
      have y_97 : (97 : Int32).toInt = 97 := by decide
      have y_0 : (0 : Int32).toInt = 0 := by decide
      have yr : (0 : Int32).toInt = 0 := by decide
      omega
    exact retI (v := 0) hx hb hr hlk (rfl) hP hD hS () ⟨_, rfl, hp_2⟩ [] rfl rfl dX10_isLetter_17 (Nat.le_of_ble_eq_true rfl) (Nat.le_of_ble_eq_true rfl) rfl
  · skip
    refine lv_iload_n hx hb dX10_isLetter_6 rfl (lv_at hl 0 rfl) ?_
    refine lv_bipush (v := 122) hx hb dX10_isLetter_7 (by decide) ?_
    refine lv_icmp_gt (tgt := 16) hx hb dX10_isLetter_9 (by decide) (fun c_3 => ?_) (fun c_3 => ?_)
    · skip
      refine lv_iconst (v := 0) hx hb dX10_isLetter_16 (by decide) ?_
      have hp_4 : (((0 : Int32).toInt = 1 ∧ 97 ≤ x1.toInt ∧ x1.toInt ≤ 122) ∨ ((0 : Int32).toInt = 0 ∧ (x1.toInt < 97 ∨ 122 < x1.toInt))) := by
        have z_1 := Int32.le_iff_toInt_le.mp (Int32.not_lt.mp c_1)
        have z_2 := Int32.lt_iff_toInt_lt.mp c_3
        have y_97 : (97 : Int32).toInt = 97 := by decide
        have y_122 : (122 : Int32).toInt = 122 := by decide
        have y_0 : (0 : Int32).toInt = 0 := by decide
        have yr : (0 : Int32).toInt = 0 := by decide
        omega
      exact retI (v := 0) hx hb hr hlk (rfl) hP hD hS () ⟨_, rfl, hp_4⟩ [] rfl rfl dX10_isLetter_17 (Nat.le_of_ble_eq_true rfl) (Nat.le_of_ble_eq_true rfl) rfl
    · skip
      refine lv_iconst (v := 1) hx hb dX10_isLetter_12 (by decide) ?_
      refine lv_goto (tgt := 17) hx hb dX10_isLetter_13 (by decide) ?_
      have hp_5 : (((1 : Int32).toInt = 1 ∧ 97 ≤ x1.toInt ∧ x1.toInt ≤ 122) ∨ ((1 : Int32).toInt = 0 ∧ (x1.toInt < 97 ∨ 122 < x1.toInt))) := by
        have z_1 := Int32.le_iff_toInt_le.mp (Int32.not_lt.mp c_1)
        have z_2 := Int32.le_iff_toInt_le.mp (Int32.not_lt.mp c_3)
        have y_97 : (97 : Int32).toInt = 97 := by decide
        have y_122 : (122 : Int32).toInt = 122 := by decide
        have y_1 : (1 : Int32).toInt = 1 := by decide
        have yr : (1 : Int32).toInt = 1 := by decide
        omega
      exact retI (v := 1) hx hb hr hlk (rfl) hP hD hS () ⟨_, rfl, hp_5⟩ [] rfl rfl dX10_isLetter_17 (Nat.le_of_ble_eq_true rfl) (Nat.le_of_ble_eq_true rfl) rfl
set_option maxHeartbeats 4000000 in
set_option maxRecDepth 100000 in
theorem ct_fX10_isDigit (l : Launch) (D : va_G) (tc : Nat → ClassId) (sk : (Nat → Nat) × (Nat → Nat)) (x1 : Int32)  : Ct l yX10_isDigit cX10_isDigit 1 (some .boolean) { frames := 0, cells := 0, slots := 0, locals := 0 } D tc sk [.int x1] [] (fun (v : Option Value) (_ : Unit) => ∃ r : Int32, v = some (.int r) ∧ (((r.toInt = 1 ∧ 48 ≤ x1.toInt ∧ x1.toInt ≤ 57) ∨ (r.toInt = 0 ∧ (x1.toInt < 48 ∨ 57 < x1.toInt))))) (fun (_ : Unit) => []) 0 0 := by
  refine Ct.start (by decide) (Nat.le_of_ble_eq_true rfl) (fun p e s m below meth c A ls hx hb hr hlk hin hml hown hts hK hX hP hD hA hl hS => ?_)
  have hl : lv_has ls 1 [(0, .int x1)] := hl
  refine lv_iload_n hx hb dX10_isDigit_0 rfl (lv_at hl 0 rfl) ?_
  refine lv_bipush (v := 48) hx hb dX10_isDigit_1 (by decide) ?_
  refine lv_icmp_lt (tgt := 16) hx hb dX10_isDigit_3 (by decide) (fun c_1 => ?_) (fun c_1 => ?_)
  · skip
    refine lv_iconst (v := 0) hx hb dX10_isDigit_16 (by decide) ?_
    have hp_2 : (((0 : Int32).toInt = 1 ∧ 48 ≤ x1.toInt ∧ x1.toInt ≤ 57) ∨ ((0 : Int32).toInt = 0 ∧ (x1.toInt < 48 ∨ 57 < x1.toInt))) := by
      have z_1 := Int32.lt_iff_toInt_lt.mp c_1
      have y_48 : (48 : Int32).toInt = 48 := by decide
      have y_0 : (0 : Int32).toInt = 0 := by decide
      have yr : (0 : Int32).toInt = 0 := by decide
      omega
    exact retI (v := 0) hx hb hr hlk (rfl) hP hD hS () ⟨_, rfl, hp_2⟩ [] rfl rfl dX10_isDigit_17 (Nat.le_of_ble_eq_true rfl) (Nat.le_of_ble_eq_true rfl) rfl
  · skip
    refine lv_iload_n hx hb dX10_isDigit_6 rfl (lv_at hl 0 rfl) ?_
    refine lv_bipush (v := 57) hx hb dX10_isDigit_7 (by decide) ?_
    refine lv_icmp_gt (tgt := 16) hx hb dX10_isDigit_9 (by decide) (fun c_3 => ?_) (fun c_3 => ?_)
    · skip
      refine lv_iconst (v := 0) hx hb dX10_isDigit_16 (by decide) ?_
      have hp_4 : (((0 : Int32).toInt = 1 ∧ 48 ≤ x1.toInt ∧ x1.toInt ≤ 57) ∨ ((0 : Int32).toInt = 0 ∧ (x1.toInt < 48 ∨ 57 < x1.toInt))) := by
        have z_1 := Int32.le_iff_toInt_le.mp (Int32.not_lt.mp c_1)
        have z_2 := Int32.lt_iff_toInt_lt.mp c_3
        have y_48 : (48 : Int32).toInt = 48 := by decide
        have y_57 : (57 : Int32).toInt = 57 := by decide
        have y_0 : (0 : Int32).toInt = 0 := by decide
        have yr : (0 : Int32).toInt = 0 := by decide
        omega
      exact retI (v := 0) hx hb hr hlk (rfl) hP hD hS () ⟨_, rfl, hp_4⟩ [] rfl rfl dX10_isDigit_17 (Nat.le_of_ble_eq_true rfl) (Nat.le_of_ble_eq_true rfl) rfl
    · skip
      refine lv_iconst (v := 1) hx hb dX10_isDigit_12 (by decide) ?_
      refine lv_goto (tgt := 17) hx hb dX10_isDigit_13 (by decide) ?_
      have hp_5 : (((1 : Int32).toInt = 1 ∧ 48 ≤ x1.toInt ∧ x1.toInt ≤ 57) ∨ ((1 : Int32).toInt = 0 ∧ (x1.toInt < 48 ∨ 57 < x1.toInt))) := by
        have z_1 := Int32.le_iff_toInt_le.mp (Int32.not_lt.mp c_1)
        have z_2 := Int32.le_iff_toInt_le.mp (Int32.not_lt.mp c_3)
        have y_48 : (48 : Int32).toInt = 48 := by decide
        have y_57 : (57 : Int32).toInt = 57 := by decide
        have y_1 : (1 : Int32).toInt = 1 := by decide
        have yr : (1 : Int32).toInt = 1 := by decide
        omega
      exact retI (v := 1) hx hb hr hlk (rfl) hP hD hS () ⟨_, rfl, hp_5⟩ [] rfl rfl dX10_isDigit_17 (Nat.le_of_ble_eq_true rfl) (Nat.le_of_ble_eq_true rfl) rfl
set_option maxHeartbeats 4000000 in
set_option maxRecDepth 100000 in
theorem ct_fX10_byteAt (l : Launch) (D : va_G) (tc : Nat → ClassId) (sk : (Nat → Nat) × (Nat → Nat)) (Ta : Nat → Nat) (Tv : Nat → Int32) (Tf : Nat → Nat → Int32) (x1 : Int32) (h_tape : 0 ≤ ((Tv 0) : Int32).toInt ∧ ((Tv 0) : Int32).toInt ≤ 400 ∧ 0 ≤ ((Tv 1) : Int32).toInt ∧ ((Tv 1) : Int32).toInt ≤ 400 ∧ 0 ≤ ((Tv 2) : Int32).toInt ∧ ((Tv 2) : Int32).toInt ≤ 400) (h_by : Byt (Tf 1)) (h_x : 0 ≤ x1.toInt) : Ct l yX10_byteAt cX10_byteAt 2 (some .int) { frames := 0, cells := 0, slots := 0, locals := 0 } D tc sk [.ref (Ta 0), .int x1] [((Ta 0), .inr (10, [.ref (Ta 1), .int (Tv 0), .int (Tv 1), .int (Tv 2), .int (Tv 3), .int (Tv 4)])), ((Ta 1), .inl (tc 0, 400, .inl (Tf 1)))] (fun (v : Option Value) (_ : Unit) => ∃ r : Int32, v = some (.int r) ∧ ((r.toInt = cB (Tf 1) (Tv 0) x1.toInt.toNat ∧ (((Tv 0).toInt ≤ x1.toInt ∧ r.toInt = -1) ∨ (x1.toInt < (Tv 0).toInt ∧ 0 ≤ r.toInt ∧ r.toInt ≤ 255))))) (fun (_ : Unit) => [((Ta 0), .inr (10, [.ref (Ta 1), .int (Tv 0), .int (Tv 1), .int (Tv 2), .int (Tv 3), .int (Tv 4)])), ((Ta 1), .inl (tc 0, 400, .inl (Tf 1)))]) 0 0 := by
  refine Ct.start (by decide) (Nat.le_of_ble_eq_true rfl) (fun p e s m below meth c A ls hx hb hr hlk hin hml hown hts hK hX hP hD hA hl hS => ?_)
  have hl : lv_has ls 2 [(0, .ref (Ta 0)), (1, .int x1)] := hl
  refine lv_iload_n hx hb dX10_byteAt_0 rfl (lv_at hl 1 rfl) ?_
  refine lv_if_lt (tgt := 30) hx hb dX10_byteAt_1 (by decide) (fun c_1 => ?_) (fun c_1 => ?_)
  · skip
    refine lv_iconst (v := (-1)) hx hb dX10_byteAt_30 (by decide) ?_
    have hr_2 : (Tv 0).toInt ≤ x1.toInt ∧ 0 ≤ x1.toInt := by
      have z_1 := Int32.lt_iff_toInt_lt.mp c_1
      have y_0 : (0 : Int32).toInt = 0 := by decide
      omega
    exact retI (v := (-1)) hx hb hr hlk (rfl) hP hD hS () ⟨_, rfl, (cB_no hr_2)⟩ [0, 1] rfl rfl dX10_byteAt_31 (Nat.le_of_ble_eq_true rfl) (Nat.le_of_ble_eq_true rfl) rfl
  · skip
    refine lv_iload_n hx hb dX10_byteAt_4 rfl (lv_at hl 1 rfl) ?_
    refine lv_aload_n hx hb dX10_byteAt_5 rfl (lv_at hl 0 rfl) ?_
    refine gf_X10_15 hx hb hts hown hK hP 0 rfl rfl dX10_byteAt_6 ?_
    refine lv_icmp_ge (tgt := 30) hx hb dX10_byteAt_9 (by decide) (fun c_3 => ?_) (fun c_3 => ?_)
    · skip
      refine lv_iconst (v := (-1)) hx hb dX10_byteAt_30 (by decide) ?_
      have hr_4 : (Tv 0).toInt ≤ x1.toInt ∧ 0 ≤ x1.toInt := by
        have z_1 := Int32.le_iff_toInt_le.mp (Int32.not_lt.mp c_1)
        have z_2 := Int32.le_iff_toInt_le.mp c_3
        have y_0 : (0 : Int32).toInt = 0 := by decide
        omega
      exact retI (v := (-1)) hx hb hr hlk (rfl) hP hD hS () ⟨_, rfl, (cB_no hr_4)⟩ [0, 1] rfl rfl dX10_byteAt_31 (Nat.le_of_ble_eq_true rfl) (Nat.le_of_ble_eq_true rfl) rfl
    · skip
      refine lv_iload_n hx hb dX10_byteAt_12 rfl (lv_at hl 1 rfl) ?_
      refine lv_aload_n hx hb dX10_byteAt_13 rfl (lv_at hl 0 rfl) ?_
      refine gf_X10_9 hx hb hts hown hK hP 0 rfl rfl dX10_byteAt_14 ?_
      refine va_alen hx hb hK hP 1 0 rfl rfl (v := 400) rfl dX10_byteAt_17 ?_
      refine lv_icmp_ge (tgt := 30) hx hb dX10_byteAt_18 (by decide) (fun c_5 => ?_) (fun c_5 => ?_)
      · skip
        refine lv_iconst (v := (-1)) hx hb dX10_byteAt_30 (by decide) ?_
        have hr_6 : (Tv 0).toInt ≤ x1.toInt ∧ 0 ≤ x1.toInt := by
          have z_1 := Int32.le_iff_toInt_le.mp (Int32.not_lt.mp c_1)
          have z_2 := Int32.lt_iff_toInt_lt.mp (Int32.not_le.mp c_3)
          have z_3 := Int32.le_iff_toInt_le.mp c_5
          have y_0 : (0 : Int32).toInt = 0 := by decide
          have y_400 : (400 : Int32).toInt = 400 := by decide
          omega
        exact retI (v := (-1)) hx hb hr hlk (rfl) hP hD hS () ⟨_, rfl, (cB_no hr_6)⟩ [0, 1] rfl rfl dX10_byteAt_31 (Nat.le_of_ble_eq_true rfl) (Nat.le_of_ble_eq_true rfl) rfl
      · skip
        refine lv_aload_n hx hb dX10_byteAt_21 rfl (lv_at hl 0 rfl) ?_
        refine gf_X10_9 hx hb hts hown hK hP 0 rfl rfl dX10_byteAt_22 ?_
        refine lv_iload_n hx hb dX10_byteAt_25 rfl (lv_at hl 1 rfl) ?_
        have hi_7 : vp_in x1 400 := by
          have z_1 := Int32.le_iff_toInt_le.mp (Int32.not_lt.mp c_1)
          have z_2 := Int32.lt_iff_toInt_lt.mp (Int32.not_le.mp c_3)
          have z_3 := Int32.lt_iff_toInt_lt.mp (Int32.not_le.mp c_5)
          have y_0 : (0 : Int32).toInt = 0 := by decide
          have y_400 : (400 : Int32).toInt = 400 := by decide
          refine vp_in_iff.mpr ⟨?_, ?_⟩ <;> omega
        refine va_iald hx hb hK hP 1 0 rfl rfl hi_7 dX10_byteAt_26 ?_
        refine lv_topi (fun x_8 ex_8 => ?_)
        refine lv_goto (tgt := 31) hx hb dX10_byteAt_27 (by decide) ?_
        have hr_9 : x1.toInt < (Tv 0).toInt ∧ 0 ≤ x1.toInt := by
          have z_1 := Int32.le_iff_toInt_le.mp (Int32.not_lt.mp c_1)
          have z_2 := Int32.lt_iff_toInt_lt.mp (Int32.not_le.mp c_3)
          have z_3 := Int32.lt_iff_toInt_lt.mp (Int32.not_le.mp c_5)
          have y_0 : (0 : Int32).toInt = 0 := by decide
          have y_400 : (400 : Int32).toInt = 400 := by decide
          omega
        exact retI (v := x_8) hx hb hr hlk (rfl) hP hD hS () ⟨_, rfl, (cB_yes h_by ex_8 hr_9)⟩ [0, 1] rfl rfl dX10_byteAt_31 (Nat.le_of_ble_eq_true rfl) (Nat.le_of_ble_eq_true rfl) rfl
set_option maxRecDepth 100000 in
theorem cu_fX10_byteAt (l : Launch) (D : va_G) (tc : Nat → ClassId) (sk : (Nat → Nat) × (Nat → Nat)) (Ta_0 : Nat) (Ta_1 : Nat) (Tv_0 : Int32) (Tv_1 : Int32) (Tv_2 : Int32) (Tv_3 : Int32) (Tv_4 : Int32) (Tf_1 : Nat → Int32) (x1 : Int32) (h_tape : 0 ≤ (Tv_0 : Int32).toInt ∧ (Tv_0 : Int32).toInt ≤ 400 ∧ 0 ≤ (Tv_1 : Int32).toInt ∧ (Tv_1 : Int32).toInt ≤ 400 ∧ 0 ≤ (Tv_2 : Int32).toInt ∧ (Tv_2 : Int32).toInt ≤ 400) (h_by : Byt Tf_1) (h_x : 0 ≤ x1.toInt) : Ct l yX10_byteAt cX10_byteAt 2 (some .int) { frames := 0, cells := 0, slots := 0, locals := 0 } D tc sk [.ref Ta_0, .int x1] [(Ta_0, .inr (10, [.ref Ta_1, .int Tv_0, .int Tv_1, .int Tv_2, .int Tv_3, .int Tv_4])), (Ta_1, .inl (tc 0, 400, .inl Tf_1))] (fun (v : Option Value) (_ : Unit) => ∃ r : Int32, v = some (.int r) ∧ ((r.toInt = cB Tf_1 Tv_0 x1.toInt.toNat ∧ ((Tv_0.toInt ≤ x1.toInt ∧ r.toInt = -1) ∨ (x1.toInt < Tv_0.toInt ∧ 0 ≤ r.toInt ∧ r.toInt ≤ 255))))) (fun (_ : Unit) => [(Ta_0, .inr (10, [.ref Ta_1, .int Tv_0, .int Tv_1, .int Tv_2, .int Tv_3, .int Tv_4])), (Ta_1, .inl (tc 0, 400, .inl Tf_1))]) 0 0 :=
  ct_fX10_byteAt l D tc sk (fun k => ([Ta_0, Ta_1] : List (Nat)).getD k 0) (fun k => ([Tv_0, Tv_1, Tv_2, Tv_3, Tv_4] : List (Int32)).getD k 0) (fun k => ([(fun _ => 0), Tf_1] : List (Nat → Int32)).getD k (fun _ => 0)) x1 h_tape h_by h_x
set_option maxHeartbeats 4000000 in
set_option maxRecDepth 100000 in
theorem ct_fX10_step (l : Launch) (D : va_G) (tc : Nat → ClassId) (sk : (Nat → Nat) × (Nat → Nat)) (Ta : Nat → Nat) (Tv : Nat → Int32) (Tf : Nat → Nat → Int32) (rr : Except Int (Nat × Nat)) (h_tape : 0 ≤ ((Tv 0) : Int32).toInt ∧ ((Tv 0) : Int32).toInt ≤ 400 ∧ 0 ≤ ((Tv 1) : Int32).toInt ∧ ((Tv 1) : Int32).toInt ≤ 400 ∧ 0 ≤ ((Tv 2) : Int32).toInt ∧ ((Tv 2) : Int32).toInt ≤ 400) (h_by : Byt (Tf 1)) (h_tb : TpB rr (Tv 2) (Tv 4)) : Ct l yX10_step cX10_step 2 none { frames := 1, cells := 0, slots := 0, locals := 21 } D tc sk [.ref (Ta 0)] [((Ta 0), .inr (10, [.ref (Ta 1), .int (Tv 0), .int (Tv 1), .int (Tv 2), .int (Tv 3), .int (Tv 4)])), ((Ta 1), .inl (tc 0, 400, .inl (Tf 1)))] (fun (v : Option Value) (u : (Int32) × (Int32) × (Int32)) => match u with | (oo0x1, oo0x2, oo0x3) => v = none ∧ (0 ≤ ((Tv 0) : Int32).toInt ∧ ((Tv 0) : Int32).toInt ≤ 400 ∧ 0 ≤ (oo0x1 : Int32).toInt ∧ (oo0x1 : Int32).toInt ≤ 400 ∧ 0 ≤ (oo0x2 : Int32).toInt ∧ (oo0x2 : Int32).toInt ≤ 400) ∧ (TpR (Tf 1) (Tv 0) (rSK (cB (Tf 1) (Tv 0)) rr) oo0x1 oo0x2 oo0x3 (Tv 4))) (fun (u : (Int32) × (Int32) × (Int32)) => match u with | (oo0x1, oo0x2, oo0x3) => [((Ta 0), .inr (10, [.ref (Ta 1), .int (Tv 0), .int oo0x1, .int oo0x2, .int oo0x3, .int (Tv 4)])), ((Ta 1), .inl (tc 0, 400, .inl (Tf 1)))]) 0 0 := by
  refine Ct.start (by decide) (Nat.le_of_ble_eq_true rfl) (fun p e s m below meth c A ls hx hb hr hlk hin hml hown hts hK hX hP hD hA hl hS => ?_)
  have hl : lv_has ls 2 [(0, .ref (Ta 0))] := hl
  refine lv_aload_n hx hb dX10_step_0 rfl (lv_at hl 0 rfl) ?_
  refine lv_aload_n hx hb dX10_step_1 rfl (lv_at hl 0 rfl) ?_
  refine gf_X10_22 hx hb hts hown hK hP 0 rfl rfl dX10_step_2 ?_
  refine pf_X10_19 hx hb hts hown hK hP hD hS 0 rfl (Nat.le_of_ble_eq_true rfl) rfl rfl dX10_step_5 (fun H locs hP₀ hD₀ hS₀ => ?_)
  replace hP : va_P D classes [((Ta 0), .inr (10, [.ref (Ta 1), .int (Tv 0), .int (Tv 2), .int (Tv 2), .int (Tv 3), .int (Tv 4)])), ((Ta 1), .inl (tc 0, 400, .inl (Tf 1)))] H := hP₀
  replace hD : va_D A [((Ta 0), .inr (10, [.ref (Ta 1), .int (Tv 0), .int (Tv 2), .int (Tv 2), .int (Tv 3), .int (Tv 4)])), ((Ta 1), .inl (tc 0, 400, .inl (Tf 1)))] := hD₀
  replace hS := hS₀
  clear hP₀ hD₀ hS₀
  have loop_5 : ∀ (n_3 : Nat) (vy_2 : Int32) (H : Heap) (locs : List Loc) (ls : Array Slot), (401 - (vy_2 : Int32).toInt).toNat < n_3 → (0 ≤ (vy_2 : Int32).toInt ∧ (vy_2 : Int32).toInt ≤ 400) → (Rn pz_isS (Tf 1) (Tv 0) (Tv 2) vy_2) → va_P D classes [((Ta 0), .inr (10, [.ref (Ta 1), .int (Tv 0), .int vy_2, .int (Tv 2), .int (Tv 3), .int (Tv 4)])), ((Ta 1), .inl (tc 0, 400, .inl (Tf 1)))] H → va_D A [((Ta 0), .inr (10, [.ref (Ta 1), .int (Tv 0), .int vy_2, .int (Tv 2), .int (Tv 3), .int (Tv 4)])), ((Ta 1), .inl (tc 0, 400, .inl (Tf 1)))] → va_S A s.heap H locs → lv_has ls 2 [(0, .ref (Ta 0))] → W p l e ({ frames := 1, cells := 0, slots := 0, locals := 21 }) s m ([.ref (Ta 0)].toArray) below meth c H locs 0 0 (MQ below (QW (fun (v : Option Value) (u : (Int32) × (Int32) × (Int32)) => match u with | (oo0x1, oo0x2, oo0x3) => v = none ∧ (0 ≤ ((Tv 0) : Int32).toInt ∧ ((Tv 0) : Int32).toInt ≤ 400 ∧ 0 ≤ (oo0x1 : Int32).toInt ∧ (oo0x1 : Int32).toInt ≤ 400 ∧ 0 ≤ (oo0x2 : Int32).toInt ∧ (oo0x2 : Int32).toInt ≤ 400) ∧ (TpR (Tf 1) (Tv 0) (rSK (cB (Tf 1) (Tv 0)) rr) oo0x1 oo0x2 oo0x3 (Tv 4))) (BW D (fun (u : (Int32) × (Int32) × (Int32)) => match u with | (oo0x1, oo0x2, oo0x3) => [((Ta 0), .inr (10, [.ref (Ta 1), .int (Tv 0), .int oo0x1, .int oo0x2, .int oo0x3, .int (Tv 4)])), ((Ta 1), .inl (tc 0, 400, .inl (Tf 1)))]) A) A) ([.ref (Ta 0)].toArray) s 0 0 A) (F0 m 8 ls []) := by
    clear hP hD hS hl
    intro n_3
    induction n_3 with
    | zero =>
      intro vy_2 H locs ls h1
      exact absurd h1 (Nat.not_lt_zero _)
    | succ n_3 ih_4 =>
      intro vy_2 H locs ls hn_8 pf_6 pf_7 hP hD hS hl
      refine lv_aload_n hx hb dX10_step_8 rfl (lv_at hl 0 rfl) ?_
      refine gf_X10_19 hx hb hts hown hK hP 0 rfl rfl dX10_step_9 ?_
      refine lv_aload_n hx hb dX10_step_12 rfl (lv_at hl 0 rfl) ?_
      refine gf_X10_15 hx hb hts hown hK hP 0 rfl rfl dX10_step_13 ?_
      refine lv_icmp_ge (tgt := 45) hx hb dX10_step_16 (by decide) (fun c_9 => ?_) (fun c_9 => ?_)
      · skip
        refine lv_aload_n hx hb dX10_step_45 rfl (lv_at hl 0 rfl) ?_
        refine lv_aload_n hx hb dX10_step_46 rfl (lv_at hl 0 rfl) ?_
        refine gf_X10_19 hx hb hts hown hK hP 0 rfl rfl dX10_step_47 ?_
        refine pf_X10_22 hx hb hts hown hK hP hD hS 0 rfl (Nat.le_of_ble_eq_true rfl) rfl rfl dX10_step_50 (fun H locs hP₀ hD₀ hS₀ => ?_)
        replace hP : va_P D classes [((Ta 0), .inr (10, [.ref (Ta 1), .int (Tv 0), .int vy_2, .int vy_2, .int (Tv 3), .int (Tv 4)])), ((Ta 1), .inl (tc 0, 400, .inl (Tf 1)))] H := hP₀
        replace hD : va_D A [((Ta 0), .inr (10, [.ref (Ta 1), .int (Tv 0), .int vy_2, .int vy_2, .int (Tv 3), .int (Tv 4)])), ((Ta 1), .inl (tc 0, 400, .inl (Tf 1)))] := hD₀
        replace hS := hS₀
        clear hP₀ hD₀ hS₀
        refine lv_aload_n hx hb dX10_step_53 rfl (lv_at hl 0 rfl) ?_
        refine lv_aload_n hx hb dX10_step_54 rfl (lv_at hl 0 rfl) ?_
        refine gf_X10_28 hx hb hts hown hK hP 0 rfl rfl dX10_step_55 ?_
        refine lv_if_ne (tgt := 72) hx hb dX10_step_58 (by decide) (fun c_10 => ?_) (fun c_10 => ?_)
        · skip
          refine lv_iconst (v := (-1)) hx hb dX10_step_72 (by decide) ?_
          refine pf_X10_25 hx hb hts hown hK hP hD hS 0 rfl (Nat.le_of_ble_eq_true rfl) rfl rfl dX10_step_73 (fun H locs hP₀ hD₀ hS₀ => ?_)
          replace hP : va_P D classes [((Ta 0), .inr (10, [.ref (Ta 1), .int (Tv 0), .int vy_2, .int vy_2, .int (-1), .int (Tv 4)])), ((Ta 1), .inl (tc 0, 400, .inl (Tf 1)))] H := hP₀
          replace hD : va_D A [((Ta 0), .inr (10, [.ref (Ta 1), .int (Tv 0), .int vy_2, .int vy_2, .int (-1), .int (Tv 4)])), ((Ta 1), .inl (tc 0, 400, .inl (Tf 1)))] := hD₀
          replace hS := hS₀
          clear hP₀ hD₀ hS₀
          refine lv_aload_n hx hb dX10_step_76 rfl (lv_at hl 0 rfl) ?_
          refine gf_X10_25 hx hb hts hown hK hP 0 rfl rfl dX10_step_77 ?_
          refine cS (As := [.int (-1)]) (rest := []) (wr := [((Ta 0), .inr (10, [.ref (Ta 1), .int (Tv 0), .int vy_2, .int vy_2, .int (-1), .int (Tv 4)])), ((Ta 1), .inl (tc 0, 400, .inl (Tf 1)))]) ⟨hx, hb, hml, hown, hts⟩ hK hX hA (ct_fX10_isLetter l D tc sk (-1)) k_485 k_483 k_484 k_96 pl_X10_isLetter ⟨Nat.le_of_ble_eq_true rfl, Nat.le_of_ble_eq_true rfl⟩ rfl rfl  hP hD hS [] [0, 1] rfl rfl rfl rfl rfl (by decide) rfl hl.1 rfl (Nat.le_of_ble_eq_true rfl) dX10_step_80 ⟨Nat.le_of_ble_eq_true rfl, Nat.le_of_ble_eq_true rfl⟩ (fun v_11 u_12 H locs hv_13 hP₀ hD₀ hS₀ => ?_)
          obtain ⟨r_14, rfl, he_15⟩ := hv_13
          have he_15 : ((r_14.toInt = 1 ∧ 97 ≤ ((-1) : Int32).toInt ∧ ((-1) : Int32).toInt ≤ 122) ∨ (r_14.toInt = 0 ∧ (((-1) : Int32).toInt < 97 ∨ 122 < ((-1) : Int32).toInt))) := he_15
          refine W.eq (g2 := F0 m 83 ls [.int r_14]) rfl ?_
          replace hP : va_P D classes [((Ta 0), .inr (10, [.ref (Ta 1), .int (Tv 0), .int vy_2, .int vy_2, .int (-1), .int (Tv 4)])), ((Ta 1), .inl (tc 0, 400, .inl (Tf 1)))] H := hP₀
          replace hD : va_D A [((Ta 0), .inr (10, [.ref (Ta 1), .int (Tv 0), .int vy_2, .int vy_2, .int (-1), .int (Tv 4)])), ((Ta 1), .inl (tc 0, 400, .inl (Tf 1)))] := hD₀
          replace hS := hS₀
          clear hP₀ hD₀ hS₀
          refine lv_if_eq (tgt := 124) hx hb dX10_step_83 (by decide) (fun c_17 => ?_) (fun c_17 => ?_)
          · skip
            refine lv_aload_n hx hb dX10_step_124 rfl (lv_at hl 0 rfl) ?_
            refine gf_X10_25 hx hb hts hown hK hP 0 rfl rfl dX10_step_125 ?_
            refine cS (As := [.int (-1)]) (rest := []) (wr := [((Ta 0), .inr (10, [.ref (Ta 1), .int (Tv 0), .int vy_2, .int vy_2, .int (-1), .int (Tv 4)])), ((Ta 1), .inl (tc 0, 400, .inl (Tf 1)))]) ⟨hx, hb, hml, hown, hts⟩ hK hX hA (ct_fX10_isDigit l D tc sk (-1)) k_488 k_486 k_487 k_96 pl_X10_isDigit ⟨Nat.le_of_ble_eq_true rfl, Nat.le_of_ble_eq_true rfl⟩ rfl rfl  hP hD hS [] [0, 1] rfl rfl rfl rfl rfl (by decide) rfl hl.1 rfl (Nat.le_of_ble_eq_true rfl) dX10_step_128 ⟨Nat.le_of_ble_eq_true rfl, Nat.le_of_ble_eq_true rfl⟩ (fun v_18 u_19 H locs hv_20 hP₀ hD₀ hS₀ => ?_)
            obtain ⟨r_21, rfl, he_22⟩ := hv_20
            have he_22 : ((r_21.toInt = 1 ∧ 48 ≤ ((-1) : Int32).toInt ∧ ((-1) : Int32).toInt ≤ 57) ∨ (r_21.toInt = 0 ∧ (((-1) : Int32).toInt < 48 ∨ 57 < ((-1) : Int32).toInt))) := he_22
            refine W.eq (g2 := F0 m 131 ls [.int r_21]) rfl ?_
            replace hP : va_P D classes [((Ta 0), .inr (10, [.ref (Ta 1), .int (Tv 0), .int vy_2, .int vy_2, .int (-1), .int (Tv 4)])), ((Ta 1), .inl (tc 0, 400, .inl (Tf 1)))] H := hP₀
            replace hD : va_D A [((Ta 0), .inr (10, [.ref (Ta 1), .int (Tv 0), .int vy_2, .int vy_2, .int (-1), .int (Tv 4)])), ((Ta 1), .inl (tc 0, 400, .inl (Tf 1)))] := hD₀
            replace hS := hS₀
            clear hP₀ hD₀ hS₀
            refine lv_if_eq (tgt := 172) hx hb dX10_step_131 (by decide) (fun c_24 => ?_) (fun c_24 => ?_)
            · skip
              refine lv_aload_n hx hb dX10_step_172 rfl (lv_at hl 0 rfl) ?_
              refine gf_X10_25 hx hb hts hown hK hP 0 rfl rfl dX10_step_173 ?_
              refine lv_iconst (v := (-1)) hx hb dX10_step_176 (by decide) ?_
              refine lv_icmp_eq (tgt := 242) hx hb dX10_step_177 (by decide) (fun c_25 => ?_) (fun c_25 => absurd c_25 (by decide))
              have ha_26 : 0 ≤ ((Tv 0) : Int32).toInt ∧ ((Tv 0) : Int32).toInt ≤ 400 ∧ 0 ≤ (vy_2 : Int32).toInt ∧ (vy_2 : Int32).toInt ≤ 400 ∧ 0 ≤ (vy_2 : Int32).toInt ∧ (vy_2 : Int32).toInt ≤ 400 := by
                have z_1 := Int32.le_iff_toInt_le.mp c_9
                have z_2 : ¬ ((Tv 4) : Int32).toInt = (0 : Int32).toInt := fun z => c_10 (Int32.toInt_inj.mp z)
                have z_3 := congrArg Int32.toInt c_17
                have z_4 := congrArg Int32.toInt c_24
                have y_0 : (0 : Int32).toInt = 0 := by decide
                omega
              have hr_27 : ¬ ((Tv 4) : Int32).toInt = 0 := by
                have z_1 := Int32.le_iff_toInt_le.mp c_9
                have z_2 : ¬ ((Tv 4) : Int32).toInt = (0 : Int32).toInt := fun z => c_10 (Int32.toInt_inj.mp z)
                have z_3 := congrArg Int32.toInt c_17
                have z_4 := congrArg Int32.toInt c_24
                have y_0 : (0 : Int32).toInt = 0 := by decide
                omega
              have hr_28 : ((-1) : Int32).toInt = -1 := by
                have z_1 := Int32.le_iff_toInt_le.mp c_9
                have z_2 : ¬ ((Tv 4) : Int32).toInt = (0 : Int32).toInt := fun z => c_10 (Int32.toInt_inj.mp z)
                have z_3 := congrArg Int32.toInt c_17
                have z_4 := congrArg Int32.toInt c_24
                have y_0 : (0 : Int32).toInt = 0 := by decide
                have y_m1 : (-1 : Int32).toInt = -1 := by decide
                omega
              exact retV hx hb hr hlk hP hD hS (vy_2, vy_2, (-1)) ⟨rfl, ha_26, (TpB.er h_tb hr_27 hr_28)⟩ [0, 1] rfl rfl dX10_step_242 (Nat.le_of_ble_eq_true rfl) (Nat.le_of_ble_eq_true rfl) rfl
            · skip
              have loop_33 : ∀ (n_31 : Nat) (vy_30 : Int32) (H : Heap) (locs : List Loc) (ls : Array Slot), (401 - (vy_30 : Int32).toInt).toNat < n_31 → (0 ≤ (vy_30 : Int32).toInt ∧ (vy_30 : Int32).toInt ≤ 400) → (Rn pz_isD (Tf 1) (Tv 0) vy_2 vy_30) → va_P D classes [((Ta 0), .inr (10, [.ref (Ta 1), .int (Tv 0), .int vy_2, .int vy_30, .int (-1), .int (Tv 4)])), ((Ta 1), .inl (tc 0, 400, .inl (Tf 1)))] H → va_D A [((Ta 0), .inr (10, [.ref (Ta 1), .int (Tv 0), .int vy_2, .int vy_30, .int (-1), .int (Tv 4)])), ((Ta 1), .inl (tc 0, 400, .inl (Tf 1)))] → va_S A s.heap H locs → lv_has ls 2 [(0, .ref (Ta 0))] → W p l e ({ frames := 1, cells := 0, slots := 0, locals := 21 }) s m ([.ref (Ta 0)].toArray) below meth c H locs 0 0 (MQ below (QW (fun (v : Option Value) (u : (Int32) × (Int32) × (Int32)) => match u with | (oo0x1, oo0x2, oo0x3) => v = none ∧ (0 ≤ ((Tv 0) : Int32).toInt ∧ ((Tv 0) : Int32).toInt ≤ 400 ∧ 0 ≤ (oo0x1 : Int32).toInt ∧ (oo0x1 : Int32).toInt ≤ 400 ∧ 0 ≤ (oo0x2 : Int32).toInt ∧ (oo0x2 : Int32).toInt ≤ 400) ∧ (TpR (Tf 1) (Tv 0) (rSK (cB (Tf 1) (Tv 0)) rr) oo0x1 oo0x2 oo0x3 (Tv 4))) (BW D (fun (u : (Int32) × (Int32) × (Int32)) => match u with | (oo0x1, oo0x2, oo0x3) => [((Ta 0), .inr (10, [.ref (Ta 1), .int (Tv 0), .int oo0x1, .int oo0x2, .int oo0x3, .int (Tv 4)])), ((Ta 1), .inl (tc 0, 400, .inl (Tf 1)))]) A) A) ([.ref (Ta 0)].toArray) s 0 0 A) (F0 m 134 ls []) := by
                clear hP hD hS hl
                intro n_31
                induction n_31 with
                | zero =>
                  intro vy_30 H locs ls h1
                  exact absurd h1 (Nat.not_lt_zero _)
                | succ n_31 ih_32 =>
                  intro vy_30 H locs ls hn_36 pf_34 pf_35 hP hD hS hl
                  refine lv_aload_n hx hb dX10_step_134 rfl (lv_at hl 0 rfl) ?_
                  refine gf_X10_22 hx hb hts hown hK hP 0 rfl rfl dX10_step_135 ?_
                  refine lv_aload_n hx hb dX10_step_138 rfl (lv_at hl 0 rfl) ?_
                  refine gf_X10_15 hx hb hts hown hK hP 0 rfl rfl dX10_step_139 ?_
                  refine lv_icmp_ge (tgt := 242) hx hb dX10_step_142 (by decide) (fun c_37 => ?_) (fun c_37 => ?_)
                  · skip
                    have ha_38 : 0 ≤ ((Tv 0) : Int32).toInt ∧ ((Tv 0) : Int32).toInt ≤ 400 ∧ 0 ≤ (vy_2 : Int32).toInt ∧ (vy_2 : Int32).toInt ≤ 400 ∧ 0 ≤ (vy_30 : Int32).toInt ∧ (vy_30 : Int32).toInt ≤ 400 := by
                      have z_1 := Int32.le_iff_toInt_le.mp c_9
                      have z_2 : ¬ ((Tv 4) : Int32).toInt = (0 : Int32).toInt := fun z => c_10 (Int32.toInt_inj.mp z)
                      have z_3 := congrArg Int32.toInt c_17
                      have z_4 : ¬ (r_21 : Int32).toInt = (0 : Int32).toInt := fun z => c_24 (Int32.toInt_inj.mp z)
                      have z_5 := Int32.le_iff_toInt_le.mp c_37
                      have y_0 : (0 : Int32).toInt = 0 := by decide
                      omega
                    have hr_39 : ¬ ((Tv 4) : Int32).toInt = 0 := by
                      have z_1 := Int32.le_iff_toInt_le.mp c_9
                      have z_2 : ¬ ((Tv 4) : Int32).toInt = (0 : Int32).toInt := fun z => c_10 (Int32.toInt_inj.mp z)
                      have z_3 := congrArg Int32.toInt c_17
                      have z_4 : ¬ (r_21 : Int32).toInt = (0 : Int32).toInt := fun z => c_24 (Int32.toInt_inj.mp z)
                      have z_5 := Int32.le_iff_toInt_le.mp c_37
                      have y_0 : (0 : Int32).toInt = 0 := by decide
                      omega
                    have hr_40 : ((-1) : Int32).toInt = -1 := by
                      have z_1 := Int32.le_iff_toInt_le.mp c_9
                      have z_2 : ¬ ((Tv 4) : Int32).toInt = (0 : Int32).toInt := fun z => c_10 (Int32.toInt_inj.mp z)
                      have z_3 := congrArg Int32.toInt c_17
                      have z_4 : ¬ (r_21 : Int32).toInt = (0 : Int32).toInt := fun z => c_24 (Int32.toInt_inj.mp z)
                      have z_5 := Int32.le_iff_toInt_le.mp c_37
                      have y_0 : (0 : Int32).toInt = 0 := by decide
                      have y_m1 : (-1 : Int32).toInt = -1 := by decide
                      omega
                    exact retV hx hb hr hlk hP hD hS (vy_2, vy_30, (-1)) ⟨rfl, ha_38, (TpB.er h_tb hr_39 hr_40)⟩ [0, 1] rfl rfl dX10_step_242 (Nat.le_of_ble_eq_true rfl) (Nat.le_of_ble_eq_true rfl) rfl
                  · skip
                    refine lv_aload_n hx hb dX10_step_145 rfl (lv_at hl 0 rfl) ?_
                    refine lv_aload_n hx hb dX10_step_146 rfl (lv_at hl 0 rfl) ?_
                    refine gf_X10_22 hx hb hts hown hK hP 0 rfl rfl dX10_step_147 ?_
                    have ha_41 : 0 ≤ ((Tv 0) : Int32).toInt ∧ ((Tv 0) : Int32).toInt ≤ 400 ∧ 0 ≤ (vy_2 : Int32).toInt ∧ (vy_2 : Int32).toInt ≤ 400 ∧ 0 ≤ (vy_30 : Int32).toInt ∧ (vy_30 : Int32).toInt ≤ 400 := by
                      have z_1 := Int32.le_iff_toInt_le.mp c_9
                      have z_2 : ¬ ((Tv 4) : Int32).toInt = (0 : Int32).toInt := fun z => c_10 (Int32.toInt_inj.mp z)
                      have z_3 := congrArg Int32.toInt c_17
                      have z_4 : ¬ (r_21 : Int32).toInt = (0 : Int32).toInt := fun z => c_24 (Int32.toInt_inj.mp z)
                      have z_5 := Int32.lt_iff_toInt_lt.mp (Int32.not_le.mp c_37)
                      have y_0 : (0 : Int32).toInt = 0 := by decide
                      omega
                    have ha_42 : 0 ≤ vy_30.toInt := by
                      have z_1 := Int32.le_iff_toInt_le.mp c_9
                      have z_2 : ¬ ((Tv 4) : Int32).toInt = (0 : Int32).toInt := fun z => c_10 (Int32.toInt_inj.mp z)
                      have z_3 := congrArg Int32.toInt c_17
                      have z_4 : ¬ (r_21 : Int32).toInt = (0 : Int32).toInt := fun z => c_24 (Int32.toInt_inj.mp z)
                      have z_5 := Int32.lt_iff_toInt_lt.mp (Int32.not_le.mp c_37)
                      have y_0 : (0 : Int32).toInt = 0 := by decide
                      omega
                    refine cV (a := (Ta 0)) (As := [.int vy_30]) (rest := []) (wr := []) ⟨hx, hb, hml, hown, hts⟩ hK hX hA (cu_fX10_byteAt l D tc sk (Ta 0) (Ta 1) (Tv 0) vy_2 vy_30 (-1) (Tv 4) (Tf 1) vy_30 ha_41 h_by ha_42) k_482 k_479 k_481 k_0 k_96 pl_X10_byteAt ⟨Nat.le_of_ble_eq_true rfl, Nat.le_of_ble_eq_true rfl⟩ rfl rfl (va_recv hK hP (ci := 10) (q0 := 0) rfl rfl) hP hD hS [0, 1] [] rfl rfl rfl rfl rfl (by decide) rfl hl.1 rfl (Nat.le_of_ble_eq_true rfl) dX10_step_150 ⟨Nat.le_of_ble_eq_true rfl, Nat.le_of_ble_eq_true rfl⟩ (fun v_43 u_44 H locs hv_45 hP₀ hD₀ hS₀ => ?_)
                    obtain ⟨r_46, rfl, he_47⟩ := hv_45
                    have he_47 : (r_46.toInt = cB (Tf 1) (Tv 0) vy_30.toInt.toNat ∧ (((Tv 0).toInt ≤ vy_30.toInt ∧ r_46.toInt = -1) ∨ (vy_30.toInt < (Tv 0).toInt ∧ 0 ≤ r_46.toInt ∧ r_46.toInt ≤ 255))) := he_47
                    refine W.eq (g2 := F0 m 153 ls [.int r_46]) rfl ?_
                    replace hP : va_P D classes [((Ta 0), .inr (10, [.ref (Ta 1), .int (Tv 0), .int vy_2, .int vy_30, .int (-1), .int (Tv 4)])), ((Ta 1), .inl (tc 0, 400, .inl (Tf 1)))] H := hP₀
                    replace hD : va_D A [((Ta 0), .inr (10, [.ref (Ta 1), .int (Tv 0), .int vy_2, .int vy_30, .int (-1), .int (Tv 4)])), ((Ta 1), .inl (tc 0, 400, .inl (Tf 1)))] := hD₀
                    replace hS := hS₀
                    clear hP₀ hD₀ hS₀
                    refine cS (As := [.int r_46]) (rest := []) (wr := [((Ta 0), .inr (10, [.ref (Ta 1), .int (Tv 0), .int vy_2, .int vy_30, .int (-1), .int (Tv 4)])), ((Ta 1), .inl (tc 0, 400, .inl (Tf 1)))]) ⟨hx, hb, hml, hown, hts⟩ hK hX hA (ct_fX10_isDigit l D tc sk r_46) k_488 k_486 k_487 k_96 pl_X10_isDigit ⟨Nat.le_of_ble_eq_true rfl, Nat.le_of_ble_eq_true rfl⟩ rfl rfl  hP hD hS [] [0, 1] rfl rfl rfl rfl rfl (by decide) rfl hl.1 rfl (Nat.le_of_ble_eq_true rfl) dX10_step_153 ⟨Nat.le_of_ble_eq_true rfl, Nat.le_of_ble_eq_true rfl⟩ (fun v_49 u_50 H locs hv_51 hP₀ hD₀ hS₀ => ?_)
                    obtain ⟨r_52, rfl, he_53⟩ := hv_51
                    have he_53 : ((r_52.toInt = 1 ∧ 48 ≤ r_46.toInt ∧ r_46.toInt ≤ 57) ∨ (r_52.toInt = 0 ∧ (r_46.toInt < 48 ∨ 57 < r_46.toInt))) := he_53
                    refine W.eq (g2 := F0 m 156 ls [.int r_52]) rfl ?_
                    replace hP : va_P D classes [((Ta 0), .inr (10, [.ref (Ta 1), .int (Tv 0), .int vy_2, .int vy_30, .int (-1), .int (Tv 4)])), ((Ta 1), .inl (tc 0, 400, .inl (Tf 1)))] H := hP₀
                    replace hD : va_D A [((Ta 0), .inr (10, [.ref (Ta 1), .int (Tv 0), .int vy_2, .int vy_30, .int (-1), .int (Tv 4)])), ((Ta 1), .inl (tc 0, 400, .inl (Tf 1)))] := hD₀
                    replace hS := hS₀
                    clear hP₀ hD₀ hS₀
                    refine lv_if_eq (tgt := 242) hx hb dX10_step_156 (by decide) (fun c_55 => ?_) (fun c_55 => ?_)
                    · skip
                      have ha_56 : 0 ≤ ((Tv 0) : Int32).toInt ∧ ((Tv 0) : Int32).toInt ≤ 400 ∧ 0 ≤ (vy_2 : Int32).toInt ∧ (vy_2 : Int32).toInt ≤ 400 ∧ 0 ≤ (vy_30 : Int32).toInt ∧ (vy_30 : Int32).toInt ≤ 400 := by
                        have z_1 := Int32.le_iff_toInt_le.mp c_9
                        have z_2 : ¬ ((Tv 4) : Int32).toInt = (0 : Int32).toInt := fun z => c_10 (Int32.toInt_inj.mp z)
                        have z_3 := congrArg Int32.toInt c_17
                        have z_4 : ¬ (r_21 : Int32).toInt = (0 : Int32).toInt := fun z => c_24 (Int32.toInt_inj.mp z)
                        have z_5 := Int32.lt_iff_toInt_lt.mp (Int32.not_le.mp c_37)
                        have z_6 := congrArg Int32.toInt c_55
                        have y_0 : (0 : Int32).toInt = 0 := by decide
                        omega
                      have hr_57 : ¬ ((Tv 4) : Int32).toInt = 0 := by
                        have z_1 := Int32.le_iff_toInt_le.mp c_9
                        have z_2 : ¬ ((Tv 4) : Int32).toInt = (0 : Int32).toInt := fun z => c_10 (Int32.toInt_inj.mp z)
                        have z_3 := congrArg Int32.toInt c_17
                        have z_4 : ¬ (r_21 : Int32).toInt = (0 : Int32).toInt := fun z => c_24 (Int32.toInt_inj.mp z)
                        have z_5 := Int32.lt_iff_toInt_lt.mp (Int32.not_le.mp c_37)
                        have z_6 := congrArg Int32.toInt c_55
                        have y_0 : (0 : Int32).toInt = 0 := by decide
                        omega
                      have hr_58 : ((-1) : Int32).toInt = -1 := by
                        have z_1 := Int32.le_iff_toInt_le.mp c_9
                        have z_2 : ¬ ((Tv 4) : Int32).toInt = (0 : Int32).toInt := fun z => c_10 (Int32.toInt_inj.mp z)
                        have z_3 := congrArg Int32.toInt c_17
                        have z_4 : ¬ (r_21 : Int32).toInt = (0 : Int32).toInt := fun z => c_24 (Int32.toInt_inj.mp z)
                        have z_5 := Int32.lt_iff_toInt_lt.mp (Int32.not_le.mp c_37)
                        have z_6 := congrArg Int32.toInt c_55
                        have y_0 : (0 : Int32).toInt = 0 := by decide
                        have y_m1 : (-1 : Int32).toInt = -1 := by decide
                        omega
                      exact retV hx hb hr hlk hP hD hS (vy_2, vy_30, (-1)) ⟨rfl, ha_56, (TpB.er h_tb hr_57 hr_58)⟩ [0, 1] rfl rfl dX10_step_242 (Nat.le_of_ble_eq_true rfl) (Nat.le_of_ble_eq_true rfl) rfl
                    · skip
                      refine lv_aload_n hx hb dX10_step_159 rfl (lv_at hl 0 rfl) ?_
                      refine lv_dup hx hb dX10_step_160 rfl ?_
                      refine gf_X10_22 hx hb hts hown hK hP 0 rfl rfl dX10_step_161 ?_
                      refine lv_iconst (v := 1) hx hb dX10_step_164 (by decide) ?_
                      refine lv_iadd hx hb dX10_step_165 ?_
                      refine lv_topi (fun x_59 ex_59 => ?_)
                      refine pf_X10_22 hx hb hts hown hK hP hD hS 0 rfl (Nat.le_of_ble_eq_true rfl) rfl rfl dX10_step_166 (fun H locs hP₀ hD₀ hS₀ => ?_)
                      replace hP : va_P D classes [((Ta 0), .inr (10, [.ref (Ta 1), .int (Tv 0), .int vy_2, .int x_59, .int (-1), .int (Tv 4)])), ((Ta 1), .inl (tc 0, 400, .inl (Tf 1)))] H := hP₀
                      replace hD : va_D A [((Ta 0), .inr (10, [.ref (Ta 1), .int (Tv 0), .int vy_2, .int x_59, .int (-1), .int (Tv 4)])), ((Ta 1), .inl (tc 0, 400, .inl (Tf 1)))] := hD₀
                      replace hS := hS₀
                      clear hP₀ hD₀ hS₀
                      refine lv_goto (tgt := 134) hx hb dX10_step_169 (by decide) ?_
                      have hb_60 : 401 - (x_59 : Int32).toInt < 401 - (vy_30 : Int32).toInt ∧ 1 ≤ 401 - (vy_30 : Int32).toInt := by
                        have z_1 := Int32.le_iff_toInt_le.mp c_9
                        have z_2 : ¬ ((Tv 4) : Int32).toInt = (0 : Int32).toInt := fun z => c_10 (Int32.toInt_inj.mp z)
                        have z_3 := congrArg Int32.toInt c_17
                        have z_4 : ¬ (r_21 : Int32).toInt = (0 : Int32).toInt := fun z => c_24 (Int32.toInt_inj.mp z)
                        have z_5 := Int32.lt_iff_toInt_lt.mp (Int32.not_le.mp c_37)
                        have z_6 : ¬ (r_52 : Int32).toInt = (0 : Int32).toInt := fun z => c_55 (Int32.toInt_inj.mp z)
                        have y_0 : (0 : Int32).toInt = 0 := by decide
                        have y_1 : (1 : Int32).toInt = 1 := by decide
                        have t_x_59 : x_59.toInt = (vy_30 : Int32).toInt + (1 : Int32).toInt := by rw [ex_59]; exact add_toInt (by omega) (by omega)
                        omega
                      have ha_61 : 0 ≤ (x_59 : Int32).toInt ∧ (x_59 : Int32).toInt ≤ 400 := by
                        have z_1 := Int32.le_iff_toInt_le.mp c_9
                        have z_2 : ¬ ((Tv 4) : Int32).toInt = (0 : Int32).toInt := fun z => c_10 (Int32.toInt_inj.mp z)
                        have z_3 := congrArg Int32.toInt c_17
                        have z_4 : ¬ (r_21 : Int32).toInt = (0 : Int32).toInt := fun z => c_24 (Int32.toInt_inj.mp z)
                        have z_5 := Int32.lt_iff_toInt_lt.mp (Int32.not_le.mp c_37)
                        have z_6 : ¬ (r_52 : Int32).toInt = (0 : Int32).toInt := fun z => c_55 (Int32.toInt_inj.mp z)
                        have y_0 : (0 : Int32).toInt = 0 := by decide
                        have y_1 : (1 : Int32).toInt = 1 := by decide
                        have t_x_59 : x_59.toInt = (vy_30 : Int32).toInt + (1 : Int32).toInt := by rw [ex_59]; exact add_toInt (by omega) (by omega)
                        omega
                      have hr_62 : 0 ≤ (vy_30 : Int32).toInt := by
                        have z_1 := Int32.le_iff_toInt_le.mp c_9
                        have z_2 : ¬ ((Tv 4) : Int32).toInt = (0 : Int32).toInt := fun z => c_10 (Int32.toInt_inj.mp z)
                        have z_3 := congrArg Int32.toInt c_17
                        have z_4 : ¬ (r_21 : Int32).toInt = (0 : Int32).toInt := fun z => c_24 (Int32.toInt_inj.mp z)
                        have z_5 := Int32.lt_iff_toInt_lt.mp (Int32.not_le.mp c_37)
                        have z_6 : ¬ (r_52 : Int32).toInt = (0 : Int32).toInt := fun z => c_55 (Int32.toInt_inj.mp z)
                        have y_0 : (0 : Int32).toInt = 0 := by decide
                        omega
                      have hr_63 : 48 ≤ (r_46 : Int32).toInt ∧ (r_46 : Int32).toInt ≤ 57 := by
                        have z_1 := Int32.le_iff_toInt_le.mp c_9
                        have z_2 : ¬ ((Tv 4) : Int32).toInt = (0 : Int32).toInt := fun z => c_10 (Int32.toInt_inj.mp z)
                        have z_3 := congrArg Int32.toInt c_17
                        have z_4 : ¬ (r_21 : Int32).toInt = (0 : Int32).toInt := fun z => c_24 (Int32.toInt_inj.mp z)
                        have z_5 := Int32.lt_iff_toInt_lt.mp (Int32.not_le.mp c_37)
                        have z_6 : ¬ (r_52 : Int32).toInt = (0 : Int32).toInt := fun z => c_55 (Int32.toInt_inj.mp z)
                        have y_0 : (0 : Int32).toInt = 0 := by decide
                        omega
                      have hi_64 : (x_59 : Int32).toInt = (vy_30 : Int32).toInt + 1 := by
                        have z_1 := Int32.le_iff_toInt_le.mp c_9
                        have z_2 : ¬ ((Tv 4) : Int32).toInt = (0 : Int32).toInt := fun z => c_10 (Int32.toInt_inj.mp z)
                        have z_3 := congrArg Int32.toInt c_17
                        have z_4 : ¬ (r_21 : Int32).toInt = (0 : Int32).toInt := fun z => c_24 (Int32.toInt_inj.mp z)
                        have z_5 := Int32.lt_iff_toInt_lt.mp (Int32.not_le.mp c_37)
                        have z_6 : ¬ (r_52 : Int32).toInt = (0 : Int32).toInt := fun z => c_55 (Int32.toInt_inj.mp z)
                        have y_0 : (0 : Int32).toInt = 0 := by decide
                        have y_1 : (1 : Int32).toInt = 1 := by decide
                        have t_x_59 : x_59.toInt = (vy_30 : Int32).toInt + (1 : Int32).toInt := by rw [ex_59]; exact add_toInt (by omega) (by omega)
                        omega
                      exact ih_32 x_59 _ _ _ (by omega) ha_61 (Rn.st pf_35 hr_62 he_47.1 (decide_eq_true hr_63) hi_64) (hP.sub [0, 1] rfl) (hD.sub [0, 1] rfl rfl) hS (lv_sub hl [0] rfl)
              exact loop_33 _ vy_2 _ _ _ (Nat.lt_succ_self _) pf_6 (Rn.rf) hP hD hS hl
          · skip
            have loop_69 : ∀ (n_67 : Nat) (vy_66 : Int32) (H : Heap) (locs : List Loc) (ls : Array Slot), (401 - (vy_66 : Int32).toInt).toNat < n_67 → (0 ≤ (vy_66 : Int32).toInt ∧ (vy_66 : Int32).toInt ≤ 400) → (Rn pz_isL (Tf 1) (Tv 0) vy_2 vy_66) → va_P D classes [((Ta 0), .inr (10, [.ref (Ta 1), .int (Tv 0), .int vy_2, .int vy_66, .int (-1), .int (Tv 4)])), ((Ta 1), .inl (tc 0, 400, .inl (Tf 1)))] H → va_D A [((Ta 0), .inr (10, [.ref (Ta 1), .int (Tv 0), .int vy_2, .int vy_66, .int (-1), .int (Tv 4)])), ((Ta 1), .inl (tc 0, 400, .inl (Tf 1)))] → va_S A s.heap H locs → lv_has ls 2 [(0, .ref (Ta 0))] → W p l e ({ frames := 1, cells := 0, slots := 0, locals := 21 }) s m ([.ref (Ta 0)].toArray) below meth c H locs 0 0 (MQ below (QW (fun (v : Option Value) (u : (Int32) × (Int32) × (Int32)) => match u with | (oo0x1, oo0x2, oo0x3) => v = none ∧ (0 ≤ ((Tv 0) : Int32).toInt ∧ ((Tv 0) : Int32).toInt ≤ 400 ∧ 0 ≤ (oo0x1 : Int32).toInt ∧ (oo0x1 : Int32).toInt ≤ 400 ∧ 0 ≤ (oo0x2 : Int32).toInt ∧ (oo0x2 : Int32).toInt ≤ 400) ∧ (TpR (Tf 1) (Tv 0) (rSK (cB (Tf 1) (Tv 0)) rr) oo0x1 oo0x2 oo0x3 (Tv 4))) (BW D (fun (u : (Int32) × (Int32) × (Int32)) => match u with | (oo0x1, oo0x2, oo0x3) => [((Ta 0), .inr (10, [.ref (Ta 1), .int (Tv 0), .int oo0x1, .int oo0x2, .int oo0x3, .int (Tv 4)])), ((Ta 1), .inl (tc 0, 400, .inl (Tf 1)))]) A) A) ([.ref (Ta 0)].toArray) s 0 0 A) (F0 m 86 ls []) := by
              clear hP hD hS hl
              intro n_67
              induction n_67 with
              | zero =>
                intro vy_66 H locs ls h1
                exact absurd h1 (Nat.not_lt_zero _)
              | succ n_67 ih_68 =>
                intro vy_66 H locs ls hn_72 pf_70 pf_71 hP hD hS hl
                refine lv_aload_n hx hb dX10_step_86 rfl (lv_at hl 0 rfl) ?_
                refine gf_X10_22 hx hb hts hown hK hP 0 rfl rfl dX10_step_87 ?_
                refine lv_aload_n hx hb dX10_step_90 rfl (lv_at hl 0 rfl) ?_
                refine gf_X10_15 hx hb hts hown hK hP 0 rfl rfl dX10_step_91 ?_
                refine lv_icmp_ge (tgt := 242) hx hb dX10_step_94 (by decide) (fun c_73 => ?_) (fun c_73 => ?_)
                · skip
                  have ha_74 : 0 ≤ ((Tv 0) : Int32).toInt ∧ ((Tv 0) : Int32).toInt ≤ 400 ∧ 0 ≤ (vy_2 : Int32).toInt ∧ (vy_2 : Int32).toInt ≤ 400 ∧ 0 ≤ (vy_66 : Int32).toInt ∧ (vy_66 : Int32).toInt ≤ 400 := by
                    have z_1 := Int32.le_iff_toInt_le.mp c_9
                    have z_2 : ¬ ((Tv 4) : Int32).toInt = (0 : Int32).toInt := fun z => c_10 (Int32.toInt_inj.mp z)
                    have z_3 : ¬ (r_14 : Int32).toInt = (0 : Int32).toInt := fun z => c_17 (Int32.toInt_inj.mp z)
                    have z_4 := Int32.le_iff_toInt_le.mp c_73
                    have y_0 : (0 : Int32).toInt = 0 := by decide
                    omega
                  have hr_75 : ¬ ((Tv 4) : Int32).toInt = 0 := by
                    have z_1 := Int32.le_iff_toInt_le.mp c_9
                    have z_2 : ¬ ((Tv 4) : Int32).toInt = (0 : Int32).toInt := fun z => c_10 (Int32.toInt_inj.mp z)
                    have z_3 : ¬ (r_14 : Int32).toInt = (0 : Int32).toInt := fun z => c_17 (Int32.toInt_inj.mp z)
                    have z_4 := Int32.le_iff_toInt_le.mp c_73
                    have y_0 : (0 : Int32).toInt = 0 := by decide
                    omega
                  have hr_76 : ((-1) : Int32).toInt = -1 := by
                    have z_1 := Int32.le_iff_toInt_le.mp c_9
                    have z_2 : ¬ ((Tv 4) : Int32).toInt = (0 : Int32).toInt := fun z => c_10 (Int32.toInt_inj.mp z)
                    have z_3 : ¬ (r_14 : Int32).toInt = (0 : Int32).toInt := fun z => c_17 (Int32.toInt_inj.mp z)
                    have z_4 := Int32.le_iff_toInt_le.mp c_73
                    have y_0 : (0 : Int32).toInt = 0 := by decide
                    have y_m1 : (-1 : Int32).toInt = -1 := by decide
                    omega
                  exact retV hx hb hr hlk hP hD hS (vy_2, vy_66, (-1)) ⟨rfl, ha_74, (TpB.er h_tb hr_75 hr_76)⟩ [0, 1] rfl rfl dX10_step_242 (Nat.le_of_ble_eq_true rfl) (Nat.le_of_ble_eq_true rfl) rfl
                · skip
                  refine lv_aload_n hx hb dX10_step_97 rfl (lv_at hl 0 rfl) ?_
                  refine lv_aload_n hx hb dX10_step_98 rfl (lv_at hl 0 rfl) ?_
                  refine gf_X10_22 hx hb hts hown hK hP 0 rfl rfl dX10_step_99 ?_
                  have ha_77 : 0 ≤ ((Tv 0) : Int32).toInt ∧ ((Tv 0) : Int32).toInt ≤ 400 ∧ 0 ≤ (vy_2 : Int32).toInt ∧ (vy_2 : Int32).toInt ≤ 400 ∧ 0 ≤ (vy_66 : Int32).toInt ∧ (vy_66 : Int32).toInt ≤ 400 := by
                    have z_1 := Int32.le_iff_toInt_le.mp c_9
                    have z_2 : ¬ ((Tv 4) : Int32).toInt = (0 : Int32).toInt := fun z => c_10 (Int32.toInt_inj.mp z)
                    have z_3 : ¬ (r_14 : Int32).toInt = (0 : Int32).toInt := fun z => c_17 (Int32.toInt_inj.mp z)
                    have z_4 := Int32.lt_iff_toInt_lt.mp (Int32.not_le.mp c_73)
                    have y_0 : (0 : Int32).toInt = 0 := by decide
                    omega
                  have ha_78 : 0 ≤ vy_66.toInt := by
                    have z_1 := Int32.le_iff_toInt_le.mp c_9
                    have z_2 : ¬ ((Tv 4) : Int32).toInt = (0 : Int32).toInt := fun z => c_10 (Int32.toInt_inj.mp z)
                    have z_3 : ¬ (r_14 : Int32).toInt = (0 : Int32).toInt := fun z => c_17 (Int32.toInt_inj.mp z)
                    have z_4 := Int32.lt_iff_toInt_lt.mp (Int32.not_le.mp c_73)
                    have y_0 : (0 : Int32).toInt = 0 := by decide
                    omega
                  refine cV (a := (Ta 0)) (As := [.int vy_66]) (rest := []) (wr := []) ⟨hx, hb, hml, hown, hts⟩ hK hX hA (cu_fX10_byteAt l D tc sk (Ta 0) (Ta 1) (Tv 0) vy_2 vy_66 (-1) (Tv 4) (Tf 1) vy_66 ha_77 h_by ha_78) k_482 k_479 k_481 k_0 k_96 pl_X10_byteAt ⟨Nat.le_of_ble_eq_true rfl, Nat.le_of_ble_eq_true rfl⟩ rfl rfl (va_recv hK hP (ci := 10) (q0 := 0) rfl rfl) hP hD hS [0, 1] [] rfl rfl rfl rfl rfl (by decide) rfl hl.1 rfl (Nat.le_of_ble_eq_true rfl) dX10_step_102 ⟨Nat.le_of_ble_eq_true rfl, Nat.le_of_ble_eq_true rfl⟩ (fun v_79 u_80 H locs hv_81 hP₀ hD₀ hS₀ => ?_)
                  obtain ⟨r_82, rfl, he_83⟩ := hv_81
                  have he_83 : (r_82.toInt = cB (Tf 1) (Tv 0) vy_66.toInt.toNat ∧ (((Tv 0).toInt ≤ vy_66.toInt ∧ r_82.toInt = -1) ∨ (vy_66.toInt < (Tv 0).toInt ∧ 0 ≤ r_82.toInt ∧ r_82.toInt ≤ 255))) := he_83
                  refine W.eq (g2 := F0 m 105 ls [.int r_82]) rfl ?_
                  replace hP : va_P D classes [((Ta 0), .inr (10, [.ref (Ta 1), .int (Tv 0), .int vy_2, .int vy_66, .int (-1), .int (Tv 4)])), ((Ta 1), .inl (tc 0, 400, .inl (Tf 1)))] H := hP₀
                  replace hD : va_D A [((Ta 0), .inr (10, [.ref (Ta 1), .int (Tv 0), .int vy_2, .int vy_66, .int (-1), .int (Tv 4)])), ((Ta 1), .inl (tc 0, 400, .inl (Tf 1)))] := hD₀
                  replace hS := hS₀
                  clear hP₀ hD₀ hS₀
                  refine cS (As := [.int r_82]) (rest := []) (wr := [((Ta 0), .inr (10, [.ref (Ta 1), .int (Tv 0), .int vy_2, .int vy_66, .int (-1), .int (Tv 4)])), ((Ta 1), .inl (tc 0, 400, .inl (Tf 1)))]) ⟨hx, hb, hml, hown, hts⟩ hK hX hA (ct_fX10_isLetter l D tc sk r_82) k_485 k_483 k_484 k_96 pl_X10_isLetter ⟨Nat.le_of_ble_eq_true rfl, Nat.le_of_ble_eq_true rfl⟩ rfl rfl  hP hD hS [] [0, 1] rfl rfl rfl rfl rfl (by decide) rfl hl.1 rfl (Nat.le_of_ble_eq_true rfl) dX10_step_105 ⟨Nat.le_of_ble_eq_true rfl, Nat.le_of_ble_eq_true rfl⟩ (fun v_85 u_86 H locs hv_87 hP₀ hD₀ hS₀ => ?_)
                  obtain ⟨r_88, rfl, he_89⟩ := hv_87
                  have he_89 : ((r_88.toInt = 1 ∧ 97 ≤ r_82.toInt ∧ r_82.toInt ≤ 122) ∨ (r_88.toInt = 0 ∧ (r_82.toInt < 97 ∨ 122 < r_82.toInt))) := he_89
                  refine W.eq (g2 := F0 m 108 ls [.int r_88]) rfl ?_
                  replace hP : va_P D classes [((Ta 0), .inr (10, [.ref (Ta 1), .int (Tv 0), .int vy_2, .int vy_66, .int (-1), .int (Tv 4)])), ((Ta 1), .inl (tc 0, 400, .inl (Tf 1)))] H := hP₀
                  replace hD : va_D A [((Ta 0), .inr (10, [.ref (Ta 1), .int (Tv 0), .int vy_2, .int vy_66, .int (-1), .int (Tv 4)])), ((Ta 1), .inl (tc 0, 400, .inl (Tf 1)))] := hD₀
                  replace hS := hS₀
                  clear hP₀ hD₀ hS₀
                  refine lv_if_eq (tgt := 242) hx hb dX10_step_108 (by decide) (fun c_91 => ?_) (fun c_91 => ?_)
                  · skip
                    have ha_92 : 0 ≤ ((Tv 0) : Int32).toInt ∧ ((Tv 0) : Int32).toInt ≤ 400 ∧ 0 ≤ (vy_2 : Int32).toInt ∧ (vy_2 : Int32).toInt ≤ 400 ∧ 0 ≤ (vy_66 : Int32).toInt ∧ (vy_66 : Int32).toInt ≤ 400 := by
                      have z_1 := Int32.le_iff_toInt_le.mp c_9
                      have z_2 : ¬ ((Tv 4) : Int32).toInt = (0 : Int32).toInt := fun z => c_10 (Int32.toInt_inj.mp z)
                      have z_3 : ¬ (r_14 : Int32).toInt = (0 : Int32).toInt := fun z => c_17 (Int32.toInt_inj.mp z)
                      have z_4 := Int32.lt_iff_toInt_lt.mp (Int32.not_le.mp c_73)
                      have z_5 := congrArg Int32.toInt c_91
                      have y_0 : (0 : Int32).toInt = 0 := by decide
                      omega
                    have hr_93 : ¬ ((Tv 4) : Int32).toInt = 0 := by
                      have z_1 := Int32.le_iff_toInt_le.mp c_9
                      have z_2 : ¬ ((Tv 4) : Int32).toInt = (0 : Int32).toInt := fun z => c_10 (Int32.toInt_inj.mp z)
                      have z_3 : ¬ (r_14 : Int32).toInt = (0 : Int32).toInt := fun z => c_17 (Int32.toInt_inj.mp z)
                      have z_4 := Int32.lt_iff_toInt_lt.mp (Int32.not_le.mp c_73)
                      have z_5 := congrArg Int32.toInt c_91
                      have y_0 : (0 : Int32).toInt = 0 := by decide
                      omega
                    have hr_94 : ((-1) : Int32).toInt = -1 := by
                      have z_1 := Int32.le_iff_toInt_le.mp c_9
                      have z_2 : ¬ ((Tv 4) : Int32).toInt = (0 : Int32).toInt := fun z => c_10 (Int32.toInt_inj.mp z)
                      have z_3 : ¬ (r_14 : Int32).toInt = (0 : Int32).toInt := fun z => c_17 (Int32.toInt_inj.mp z)
                      have z_4 := Int32.lt_iff_toInt_lt.mp (Int32.not_le.mp c_73)
                      have z_5 := congrArg Int32.toInt c_91
                      have y_0 : (0 : Int32).toInt = 0 := by decide
                      have y_m1 : (-1 : Int32).toInt = -1 := by decide
                      omega
                    exact retV hx hb hr hlk hP hD hS (vy_2, vy_66, (-1)) ⟨rfl, ha_92, (TpB.er h_tb hr_93 hr_94)⟩ [0, 1] rfl rfl dX10_step_242 (Nat.le_of_ble_eq_true rfl) (Nat.le_of_ble_eq_true rfl) rfl
                  · skip
                    refine lv_aload_n hx hb dX10_step_111 rfl (lv_at hl 0 rfl) ?_
                    refine lv_dup hx hb dX10_step_112 rfl ?_
                    refine gf_X10_22 hx hb hts hown hK hP 0 rfl rfl dX10_step_113 ?_
                    refine lv_iconst (v := 1) hx hb dX10_step_116 (by decide) ?_
                    refine lv_iadd hx hb dX10_step_117 ?_
                    refine lv_topi (fun x_95 ex_95 => ?_)
                    refine pf_X10_22 hx hb hts hown hK hP hD hS 0 rfl (Nat.le_of_ble_eq_true rfl) rfl rfl dX10_step_118 (fun H locs hP₀ hD₀ hS₀ => ?_)
                    replace hP : va_P D classes [((Ta 0), .inr (10, [.ref (Ta 1), .int (Tv 0), .int vy_2, .int x_95, .int (-1), .int (Tv 4)])), ((Ta 1), .inl (tc 0, 400, .inl (Tf 1)))] H := hP₀
                    replace hD : va_D A [((Ta 0), .inr (10, [.ref (Ta 1), .int (Tv 0), .int vy_2, .int x_95, .int (-1), .int (Tv 4)])), ((Ta 1), .inl (tc 0, 400, .inl (Tf 1)))] := hD₀
                    replace hS := hS₀
                    clear hP₀ hD₀ hS₀
                    refine lv_goto (tgt := 86) hx hb dX10_step_121 (by decide) ?_
                    have hb_96 : 401 - (x_95 : Int32).toInt < 401 - (vy_66 : Int32).toInt ∧ 1 ≤ 401 - (vy_66 : Int32).toInt := by
                      have z_1 := Int32.le_iff_toInt_le.mp c_9
                      have z_2 : ¬ ((Tv 4) : Int32).toInt = (0 : Int32).toInt := fun z => c_10 (Int32.toInt_inj.mp z)
                      have z_3 : ¬ (r_14 : Int32).toInt = (0 : Int32).toInt := fun z => c_17 (Int32.toInt_inj.mp z)
                      have z_4 := Int32.lt_iff_toInt_lt.mp (Int32.not_le.mp c_73)
                      have z_5 : ¬ (r_88 : Int32).toInt = (0 : Int32).toInt := fun z => c_91 (Int32.toInt_inj.mp z)
                      have y_0 : (0 : Int32).toInt = 0 := by decide
                      have y_1 : (1 : Int32).toInt = 1 := by decide
                      have t_x_95 : x_95.toInt = (vy_66 : Int32).toInt + (1 : Int32).toInt := by rw [ex_95]; exact add_toInt (by omega) (by omega)
                      omega
                    have ha_97 : 0 ≤ (x_95 : Int32).toInt ∧ (x_95 : Int32).toInt ≤ 400 := by
                      have z_1 := Int32.le_iff_toInt_le.mp c_9
                      have z_2 : ¬ ((Tv 4) : Int32).toInt = (0 : Int32).toInt := fun z => c_10 (Int32.toInt_inj.mp z)
                      have z_3 : ¬ (r_14 : Int32).toInt = (0 : Int32).toInt := fun z => c_17 (Int32.toInt_inj.mp z)
                      have z_4 := Int32.lt_iff_toInt_lt.mp (Int32.not_le.mp c_73)
                      have z_5 : ¬ (r_88 : Int32).toInt = (0 : Int32).toInt := fun z => c_91 (Int32.toInt_inj.mp z)
                      have y_0 : (0 : Int32).toInt = 0 := by decide
                      have y_1 : (1 : Int32).toInt = 1 := by decide
                      have t_x_95 : x_95.toInt = (vy_66 : Int32).toInt + (1 : Int32).toInt := by rw [ex_95]; exact add_toInt (by omega) (by omega)
                      omega
                    have hr_98 : 0 ≤ (vy_66 : Int32).toInt := by
                      have z_1 := Int32.le_iff_toInt_le.mp c_9
                      have z_2 : ¬ ((Tv 4) : Int32).toInt = (0 : Int32).toInt := fun z => c_10 (Int32.toInt_inj.mp z)
                      have z_3 : ¬ (r_14 : Int32).toInt = (0 : Int32).toInt := fun z => c_17 (Int32.toInt_inj.mp z)
                      have z_4 := Int32.lt_iff_toInt_lt.mp (Int32.not_le.mp c_73)
                      have z_5 : ¬ (r_88 : Int32).toInt = (0 : Int32).toInt := fun z => c_91 (Int32.toInt_inj.mp z)
                      have y_0 : (0 : Int32).toInt = 0 := by decide
                      omega
                    have hr_99 : 97 ≤ (r_82 : Int32).toInt ∧ (r_82 : Int32).toInt ≤ 122 := by
                      have z_1 := Int32.le_iff_toInt_le.mp c_9
                      have z_2 : ¬ ((Tv 4) : Int32).toInt = (0 : Int32).toInt := fun z => c_10 (Int32.toInt_inj.mp z)
                      have z_3 : ¬ (r_14 : Int32).toInt = (0 : Int32).toInt := fun z => c_17 (Int32.toInt_inj.mp z)
                      have z_4 := Int32.lt_iff_toInt_lt.mp (Int32.not_le.mp c_73)
                      have z_5 : ¬ (r_88 : Int32).toInt = (0 : Int32).toInt := fun z => c_91 (Int32.toInt_inj.mp z)
                      have y_0 : (0 : Int32).toInt = 0 := by decide
                      omega
                    have hi_100 : (x_95 : Int32).toInt = (vy_66 : Int32).toInt + 1 := by
                      have z_1 := Int32.le_iff_toInt_le.mp c_9
                      have z_2 : ¬ ((Tv 4) : Int32).toInt = (0 : Int32).toInt := fun z => c_10 (Int32.toInt_inj.mp z)
                      have z_3 : ¬ (r_14 : Int32).toInt = (0 : Int32).toInt := fun z => c_17 (Int32.toInt_inj.mp z)
                      have z_4 := Int32.lt_iff_toInt_lt.mp (Int32.not_le.mp c_73)
                      have z_5 : ¬ (r_88 : Int32).toInt = (0 : Int32).toInt := fun z => c_91 (Int32.toInt_inj.mp z)
                      have y_0 : (0 : Int32).toInt = 0 := by decide
                      have y_1 : (1 : Int32).toInt = 1 := by decide
                      have t_x_95 : x_95.toInt = (vy_66 : Int32).toInt + (1 : Int32).toInt := by rw [ex_95]; exact add_toInt (by omega) (by omega)
                      omega
                    exact ih_68 x_95 _ _ _ (by omega) ha_97 (Rn.st pf_71 hr_98 he_83.1 (decide_eq_true hr_99) hi_100) (hP.sub [0, 1] rfl) (hD.sub [0, 1] rfl rfl) hS (lv_sub hl [0] rfl)
            exact loop_69 _ vy_2 _ _ _ (Nat.lt_succ_self _) pf_6 (Rn.rf) hP hD hS hl
        · skip
          refine lv_aload_n hx hb dX10_step_61 rfl (lv_at hl 0 rfl) ?_
          refine lv_aload_n hx hb dX10_step_62 rfl (lv_at hl 0 rfl) ?_
          refine gf_X10_19 hx hb hts hown hK hP 0 rfl rfl dX10_step_63 ?_
          have ha_101 : 0 ≤ ((Tv 0) : Int32).toInt ∧ ((Tv 0) : Int32).toInt ≤ 400 ∧ 0 ≤ (vy_2 : Int32).toInt ∧ (vy_2 : Int32).toInt ≤ 400 ∧ 0 ≤ (vy_2 : Int32).toInt ∧ (vy_2 : Int32).toInt ≤ 400 := by
            have z_1 := Int32.le_iff_toInt_le.mp c_9
            have z_2 := congrArg Int32.toInt c_10
            have y_0 : (0 : Int32).toInt = 0 := by decide
            omega
          have ha_102 : 0 ≤ vy_2.toInt := by
            have z_1 := Int32.le_iff_toInt_le.mp c_9
            have z_2 := congrArg Int32.toInt c_10
            have y_0 : (0 : Int32).toInt = 0 := by decide
            omega
          refine cV (a := (Ta 0)) (As := [.int vy_2]) (rest := [.ref (Ta 0)]) (wr := []) ⟨hx, hb, hml, hown, hts⟩ hK hX hA (cu_fX10_byteAt l D tc sk (Ta 0) (Ta 1) (Tv 0) vy_2 vy_2 (Tv 3) (Tv 4) (Tf 1) vy_2 ha_101 h_by ha_102) k_482 k_479 k_481 k_0 k_96 pl_X10_byteAt ⟨Nat.le_of_ble_eq_true rfl, Nat.le_of_ble_eq_true rfl⟩ rfl rfl (va_recv hK hP (ci := 10) (q0 := 0) rfl rfl) hP hD hS [0, 1] [] rfl rfl rfl rfl rfl (by decide) rfl hl.1 rfl (Nat.le_of_ble_eq_true rfl) dX10_step_66 ⟨Nat.le_of_ble_eq_true rfl, Nat.le_of_ble_eq_true rfl⟩ (fun v_103 u_104 H locs hv_105 hP₀ hD₀ hS₀ => ?_)
          obtain ⟨r_106, rfl, he_107⟩ := hv_105
          have he_107 : (r_106.toInt = cB (Tf 1) (Tv 0) vy_2.toInt.toNat ∧ (((Tv 0).toInt ≤ vy_2.toInt ∧ r_106.toInt = -1) ∨ (vy_2.toInt < (Tv 0).toInt ∧ 0 ≤ r_106.toInt ∧ r_106.toInt ≤ 255))) := he_107
          refine W.eq (g2 := F0 m 69 ls [.int r_106, .ref (Ta 0)]) rfl ?_
          replace hP : va_P D classes [((Ta 0), .inr (10, [.ref (Ta 1), .int (Tv 0), .int vy_2, .int vy_2, .int (Tv 3), .int (Tv 4)])), ((Ta 1), .inl (tc 0, 400, .inl (Tf 1)))] H := hP₀
          replace hD : va_D A [((Ta 0), .inr (10, [.ref (Ta 1), .int (Tv 0), .int vy_2, .int vy_2, .int (Tv 3), .int (Tv 4)])), ((Ta 1), .inl (tc 0, 400, .inl (Tf 1)))] := hD₀
          replace hS := hS₀
          clear hP₀ hD₀ hS₀
          refine lv_goto (tgt := 73) hx hb dX10_step_69 (by decide) ?_
          refine pf_X10_25 hx hb hts hown hK hP hD hS 0 rfl (Nat.le_of_ble_eq_true rfl) rfl rfl dX10_step_73 (fun H locs hP₀ hD₀ hS₀ => ?_)
          replace hP : va_P D classes [((Ta 0), .inr (10, [.ref (Ta 1), .int (Tv 0), .int vy_2, .int vy_2, .int r_106, .int (Tv 4)])), ((Ta 1), .inl (tc 0, 400, .inl (Tf 1)))] H := hP₀
          replace hD : va_D A [((Ta 0), .inr (10, [.ref (Ta 1), .int (Tv 0), .int vy_2, .int vy_2, .int r_106, .int (Tv 4)])), ((Ta 1), .inl (tc 0, 400, .inl (Tf 1)))] := hD₀
          replace hS := hS₀
          clear hP₀ hD₀ hS₀
          refine lv_aload_n hx hb dX10_step_76 rfl (lv_at hl 0 rfl) ?_
          refine gf_X10_25 hx hb hts hown hK hP 0 rfl rfl dX10_step_77 ?_
          refine cS (As := [.int r_106]) (rest := []) (wr := [((Ta 0), .inr (10, [.ref (Ta 1), .int (Tv 0), .int vy_2, .int vy_2, .int r_106, .int (Tv 4)])), ((Ta 1), .inl (tc 0, 400, .inl (Tf 1)))]) ⟨hx, hb, hml, hown, hts⟩ hK hX hA (ct_fX10_isLetter l D tc sk r_106) k_485 k_483 k_484 k_96 pl_X10_isLetter ⟨Nat.le_of_ble_eq_true rfl, Nat.le_of_ble_eq_true rfl⟩ rfl rfl  hP hD hS [] [0, 1] rfl rfl rfl rfl rfl (by decide) rfl hl.1 rfl (Nat.le_of_ble_eq_true rfl) dX10_step_80 ⟨Nat.le_of_ble_eq_true rfl, Nat.le_of_ble_eq_true rfl⟩ (fun v_109 u_110 H locs hv_111 hP₀ hD₀ hS₀ => ?_)
          obtain ⟨r_112, rfl, he_113⟩ := hv_111
          have he_113 : ((r_112.toInt = 1 ∧ 97 ≤ r_106.toInt ∧ r_106.toInt ≤ 122) ∨ (r_112.toInt = 0 ∧ (r_106.toInt < 97 ∨ 122 < r_106.toInt))) := he_113
          refine W.eq (g2 := F0 m 83 ls [.int r_112]) rfl ?_
          replace hP : va_P D classes [((Ta 0), .inr (10, [.ref (Ta 1), .int (Tv 0), .int vy_2, .int vy_2, .int r_106, .int (Tv 4)])), ((Ta 1), .inl (tc 0, 400, .inl (Tf 1)))] H := hP₀
          replace hD : va_D A [((Ta 0), .inr (10, [.ref (Ta 1), .int (Tv 0), .int vy_2, .int vy_2, .int r_106, .int (Tv 4)])), ((Ta 1), .inl (tc 0, 400, .inl (Tf 1)))] := hD₀
          replace hS := hS₀
          clear hP₀ hD₀ hS₀
          refine lv_if_eq (tgt := 124) hx hb dX10_step_83 (by decide) (fun c_115 => ?_) (fun c_115 => ?_)
          · skip
            refine lv_aload_n hx hb dX10_step_124 rfl (lv_at hl 0 rfl) ?_
            refine gf_X10_25 hx hb hts hown hK hP 0 rfl rfl dX10_step_125 ?_
            refine cS (As := [.int r_106]) (rest := []) (wr := [((Ta 0), .inr (10, [.ref (Ta 1), .int (Tv 0), .int vy_2, .int vy_2, .int r_106, .int (Tv 4)])), ((Ta 1), .inl (tc 0, 400, .inl (Tf 1)))]) ⟨hx, hb, hml, hown, hts⟩ hK hX hA (ct_fX10_isDigit l D tc sk r_106) k_488 k_486 k_487 k_96 pl_X10_isDigit ⟨Nat.le_of_ble_eq_true rfl, Nat.le_of_ble_eq_true rfl⟩ rfl rfl  hP hD hS [] [0, 1] rfl rfl rfl rfl rfl (by decide) rfl hl.1 rfl (Nat.le_of_ble_eq_true rfl) dX10_step_128 ⟨Nat.le_of_ble_eq_true rfl, Nat.le_of_ble_eq_true rfl⟩ (fun v_116 u_117 H locs hv_118 hP₀ hD₀ hS₀ => ?_)
            obtain ⟨r_119, rfl, he_120⟩ := hv_118
            have he_120 : ((r_119.toInt = 1 ∧ 48 ≤ r_106.toInt ∧ r_106.toInt ≤ 57) ∨ (r_119.toInt = 0 ∧ (r_106.toInt < 48 ∨ 57 < r_106.toInt))) := he_120
            refine W.eq (g2 := F0 m 131 ls [.int r_119]) rfl ?_
            replace hP : va_P D classes [((Ta 0), .inr (10, [.ref (Ta 1), .int (Tv 0), .int vy_2, .int vy_2, .int r_106, .int (Tv 4)])), ((Ta 1), .inl (tc 0, 400, .inl (Tf 1)))] H := hP₀
            replace hD : va_D A [((Ta 0), .inr (10, [.ref (Ta 1), .int (Tv 0), .int vy_2, .int vy_2, .int r_106, .int (Tv 4)])), ((Ta 1), .inl (tc 0, 400, .inl (Tf 1)))] := hD₀
            replace hS := hS₀
            clear hP₀ hD₀ hS₀
            refine lv_if_eq (tgt := 172) hx hb dX10_step_131 (by decide) (fun c_122 => ?_) (fun c_122 => ?_)
            · skip
              refine lv_aload_n hx hb dX10_step_172 rfl (lv_at hl 0 rfl) ?_
              refine gf_X10_25 hx hb hts hown hK hP 0 rfl rfl dX10_step_173 ?_
              refine lv_iconst (v := (-1)) hx hb dX10_step_176 (by decide) ?_
              refine lv_icmp_eq (tgt := 242) hx hb dX10_step_177 (by decide) (fun c_123 => ?_) (fun c_123 => ?_)
              · skip
                have ha_124 : 0 ≤ ((Tv 0) : Int32).toInt ∧ ((Tv 0) : Int32).toInt ≤ 400 ∧ 0 ≤ (vy_2 : Int32).toInt ∧ (vy_2 : Int32).toInt ≤ 400 ∧ 0 ≤ (vy_2 : Int32).toInt ∧ (vy_2 : Int32).toInt ≤ 400 := by
                  have z_1 := Int32.le_iff_toInt_le.mp c_9
                  have z_2 := congrArg Int32.toInt c_10
                  have z_3 := congrArg Int32.toInt c_115
                  have z_4 := congrArg Int32.toInt c_122
                  have z_5 := congrArg Int32.toInt c_123
                  have y_m1 : (-1 : Int32).toInt = -1 := by decide
                  have y_0 : (0 : Int32).toInt = 0 := by decide
                  omega
                have rg_125 := cB_rg (n := (Tv 0)) h_by (vy_2 : Int32).toInt.toNat
                have h2_126 : ¬ cB (Tf 1) (Tv 0) (vy_2 : Int32).toInt.toNat = 32 := by
                  have z_1 := Int32.le_iff_toInt_le.mp c_9
                  have z_2 := congrArg Int32.toInt c_10
                  have z_3 := congrArg Int32.toInt c_115
                  have z_4 := congrArg Int32.toInt c_122
                  have z_5 := congrArg Int32.toInt c_123
                  have y_m1 : (-1 : Int32).toInt = -1 := by decide
                  have y_0 : (0 : Int32).toInt = 0 := by decide
                  omega
                have hr_127 : 0 ≤ (vy_2 : Int32).toInt := by
                  have z_1 := Int32.le_iff_toInt_le.mp c_9
                  have z_2 := congrArg Int32.toInt c_10
                  have z_3 := congrArg Int32.toInt c_115
                  have z_4 := congrArg Int32.toInt c_122
                  have z_5 := congrArg Int32.toInt c_123
                  have y_m1 : (-1 : Int32).toInt = -1 := by decide
                  have y_0 : (0 : Int32).toInt = 0 := by decide
                  omega
                have hr_128 : (r_106 : Int32).toInt = -1 := by
                  have z_1 := Int32.le_iff_toInt_le.mp c_9
                  have z_2 := congrArg Int32.toInt c_10
                  have z_3 := congrArg Int32.toInt c_115
                  have z_4 := congrArg Int32.toInt c_122
                  have z_5 := congrArg Int32.toInt c_123
                  have y_m1 : (-1 : Int32).toInt = -1 := by decide
                  have y_0 : (0 : Int32).toInt = 0 := by decide
                  omega
                have hr_129 : ((Tv 4) : Int32).toInt = 0 := by
                  have z_1 := Int32.le_iff_toInt_le.mp c_9
                  have z_2 := congrArg Int32.toInt c_10
                  have z_3 := congrArg Int32.toInt c_115
                  have z_4 := congrArg Int32.toInt c_122
                  have z_5 := congrArg Int32.toInt c_123
                  have y_m1 : (-1 : Int32).toInt = -1 := by decide
                  have y_0 : (0 : Int32).toInt = 0 := by decide
                  omega
                have hr_130 : (vy_2 : Int32).toInt ≤ 400 := by
                  have z_1 := Int32.le_iff_toInt_le.mp c_9
                  have z_2 := congrArg Int32.toInt c_10
                  have z_3 := congrArg Int32.toInt c_115
                  have z_4 := congrArg Int32.toInt c_122
                  have z_5 := congrArg Int32.toInt c_123
                  have y_m1 : (-1 : Int32).toInt = -1 := by decide
                  have y_0 : (0 : Int32).toInt = 0 := by decide
                  omega
                exact retV hx hb hr hlk hP hD hS (vy_2, vy_2, r_106) ⟨rfl, ha_124, (TpB.at h_tb hr_129 h_tape.2.2.2.2.1 pf_7 hr_130 h2_126 (te_0 hr_127 he_107.1 hr_128) he_107.1)⟩ [0, 1] rfl rfl dX10_step_242 (Nat.le_of_ble_eq_true rfl) (Nat.le_of_ble_eq_true rfl) rfl
              · skip
                refine lv_aload_n hx hb dX10_step_180 rfl (lv_at hl 0 rfl) ?_
                refine gf_X10_25 hx hb hts hown hK hP 0 rfl rfl dX10_step_181 ?_
                refine lv_bipush (v := 60) hx hb dX10_step_184 (by decide) ?_
                refine lv_icmp_eq (tgt := 198) hx hb dX10_step_186 (by decide) (fun c_131 => ?_) (fun c_131 => ?_)
                · skip
                  refine lv_iconst (v := 1) hx hb dX10_step_198 (by decide) ?_
                  refine lv_goto (tgt := 203) hx hb dX10_step_199 (by decide) ?_
                  refine lv_istore_n (lv' := [(1, .int 1), (0, .ref (Ta 0))]) hx hb dX10_step_203 rfl hl (by decide) rfl (fun ls hl₀ => ?_)
                  replace hl := hl₀
                  clear hl₀
                  refine lv_aload_n hx hb dX10_step_204 rfl (lv_at hl 1 rfl) ?_
                  refine lv_iload_n hx hb dX10_step_205 rfl (lv_at hl 0 rfl) ?_
                  refine lv_if_eq (tgt := 233) hx hb dX10_step_206 (by decide) (fun c_132 => absurd c_132 (by decide)) (fun c_132 => ?_)
                  refine lv_aload_n hx hb dX10_step_209 rfl (lv_at hl 1 rfl) ?_
                  refine lv_aload_n hx hb dX10_step_210 rfl (lv_at hl 1 rfl) ?_
                  refine gf_X10_19 hx hb hts hown hK hP 0 rfl rfl dX10_step_211 ?_
                  refine lv_iconst (v := 1) hx hb dX10_step_214 (by decide) ?_
                  refine lv_iadd hx hb dX10_step_215 ?_
                  refine lv_topi (fun x_133 ex_133 => ?_)
                  have ha_134 : 0 ≤ ((Tv 0) : Int32).toInt ∧ ((Tv 0) : Int32).toInt ≤ 400 ∧ 0 ≤ (vy_2 : Int32).toInt ∧ (vy_2 : Int32).toInt ≤ 400 ∧ 0 ≤ (vy_2 : Int32).toInt ∧ (vy_2 : Int32).toInt ≤ 400 := by
                    have z_1 := Int32.le_iff_toInt_le.mp c_9
                    have z_2 := congrArg Int32.toInt c_10
                    have z_3 := congrArg Int32.toInt c_115
                    have z_4 := congrArg Int32.toInt c_122
                    have z_5 : ¬ (r_106 : Int32).toInt = ((-1) : Int32).toInt := fun z => c_123 (Int32.toInt_inj.mp z)
                    have z_6 := congrArg Int32.toInt c_131
                    have y_m1 : (-1 : Int32).toInt = -1 := by decide
                    have y_0 : (0 : Int32).toInt = 0 := by decide
                    have y_60 : (60 : Int32).toInt = 60 := by decide
                    have y_1 : (1 : Int32).toInt = 1 := by decide
                    have t_x_133 : x_133.toInt = (vy_2 : Int32).toInt + (1 : Int32).toInt := by rw [ex_133]; exact add_toInt (by omega) (by omega)
                    omega
                  have ha_135 : 0 ≤ x_133.toInt := by
                    have z_1 := Int32.le_iff_toInt_le.mp c_9
                    have z_2 := congrArg Int32.toInt c_10
                    have z_3 := congrArg Int32.toInt c_115
                    have z_4 := congrArg Int32.toInt c_122
                    have z_5 : ¬ (r_106 : Int32).toInt = ((-1) : Int32).toInt := fun z => c_123 (Int32.toInt_inj.mp z)
                    have z_6 := congrArg Int32.toInt c_131
                    have y_m1 : (-1 : Int32).toInt = -1 := by decide
                    have y_0 : (0 : Int32).toInt = 0 := by decide
                    have y_60 : (60 : Int32).toInt = 60 := by decide
                    have y_1 : (1 : Int32).toInt = 1 := by decide
                    have t_x_133 : x_133.toInt = (vy_2 : Int32).toInt + (1 : Int32).toInt := by rw [ex_133]; exact add_toInt (by omega) (by omega)
                    omega
                  refine cV (a := (Ta 0)) (As := [.int x_133]) (rest := [.ref (Ta 0)]) (wr := []) ⟨hx, hb, hml, hown, hts⟩ hK hX hA (cu_fX10_byteAt l D tc sk (Ta 0) (Ta 1) (Tv 0) vy_2 vy_2 r_106 (Tv 4) (Tf 1) x_133 ha_134 h_by ha_135) k_482 k_479 k_481 k_0 k_96 pl_X10_byteAt ⟨Nat.le_of_ble_eq_true rfl, Nat.le_of_ble_eq_true rfl⟩ rfl rfl (va_recv hK hP (ci := 10) (q0 := 0) rfl rfl) hP hD hS [0, 1] [] rfl rfl rfl rfl rfl (by decide) rfl hl.1 rfl (Nat.le_of_ble_eq_true rfl) dX10_step_216 ⟨Nat.le_of_ble_eq_true rfl, Nat.le_of_ble_eq_true rfl⟩ (fun v_136 u_137 H locs hv_138 hP₀ hD₀ hS₀ => ?_)
                  obtain ⟨r_139, rfl, he_140⟩ := hv_138
                  have he_140 : (r_139.toInt = cB (Tf 1) (Tv 0) x_133.toInt.toNat ∧ (((Tv 0).toInt ≤ x_133.toInt ∧ r_139.toInt = -1) ∨ (x_133.toInt < (Tv 0).toInt ∧ 0 ≤ r_139.toInt ∧ r_139.toInt ≤ 255))) := he_140
                  refine W.eq (g2 := F0 m 219 ls [.int r_139, .ref (Ta 0)]) rfl ?_
                  replace hP : va_P D classes [((Ta 0), .inr (10, [.ref (Ta 1), .int (Tv 0), .int vy_2, .int vy_2, .int r_106, .int (Tv 4)])), ((Ta 1), .inl (tc 0, 400, .inl (Tf 1)))] H := hP₀
                  replace hD : va_D A [((Ta 0), .inr (10, [.ref (Ta 1), .int (Tv 0), .int vy_2, .int vy_2, .int r_106, .int (Tv 4)])), ((Ta 1), .inl (tc 0, 400, .inl (Tf 1)))] := hD₀
                  replace hS := hS₀
                  clear hP₀ hD₀ hS₀
                  refine lv_bipush (v := 61) hx hb dX10_step_219 (by decide) ?_
                  refine lv_icmp_ne (tgt := 233) hx hb dX10_step_221 (by decide) (fun c_142 => ?_) (fun c_142 => ?_)
                  · skip
                    refine lv_aload_n hx hb dX10_step_233 rfl (lv_at hl 1 rfl) ?_
                    refine gf_X10_19 hx hb hts hown hK hP 0 rfl rfl dX10_step_234 ?_
                    refine lv_iconst (v := 1) hx hb dX10_step_237 (by decide) ?_
                    refine lv_iadd hx hb dX10_step_238 ?_
                    refine lv_topi (fun x_143 ex_143 => ?_)
                    refine pf_X10_22 hx hb hts hown hK hP hD hS 0 rfl (Nat.le_of_ble_eq_true rfl) rfl rfl dX10_step_239 (fun H locs hP₀ hD₀ hS₀ => ?_)
                    replace hP : va_P D classes [((Ta 0), .inr (10, [.ref (Ta 1), .int (Tv 0), .int vy_2, .int x_143, .int r_106, .int (Tv 4)])), ((Ta 1), .inl (tc 0, 400, .inl (Tf 1)))] H := hP₀
                    replace hD : va_D A [((Ta 0), .inr (10, [.ref (Ta 1), .int (Tv 0), .int vy_2, .int x_143, .int r_106, .int (Tv 4)])), ((Ta 1), .inl (tc 0, 400, .inl (Tf 1)))] := hD₀
                    replace hS := hS₀
                    clear hP₀ hD₀ hS₀
                    have ha_144 : 0 ≤ ((Tv 0) : Int32).toInt ∧ ((Tv 0) : Int32).toInt ≤ 400 ∧ 0 ≤ (vy_2 : Int32).toInt ∧ (vy_2 : Int32).toInt ≤ 400 ∧ 0 ≤ (x_143 : Int32).toInt ∧ (x_143 : Int32).toInt ≤ 400 := by
                      have z_1 := Int32.le_iff_toInt_le.mp c_9
                      have z_2 := congrArg Int32.toInt c_10
                      have z_3 := congrArg Int32.toInt c_115
                      have z_4 := congrArg Int32.toInt c_122
                      have z_5 : ¬ (r_106 : Int32).toInt = ((-1) : Int32).toInt := fun z => c_123 (Int32.toInt_inj.mp z)
                      have z_6 := congrArg Int32.toInt c_131
                      have z_7 : ¬ (r_139 : Int32).toInt = (61 : Int32).toInt := fun z => c_142 (Int32.toInt_inj.mp z)
                      have y_m1 : (-1 : Int32).toInt = -1 := by decide
                      have y_0 : (0 : Int32).toInt = 0 := by decide
                      have y_60 : (60 : Int32).toInt = 60 := by decide
                      have y_61 : (61 : Int32).toInt = 61 := by decide
                      have y_1 : (1 : Int32).toInt = 1 := by decide
                      have t_x_143 : x_143.toInt = (vy_2 : Int32).toInt + (1 : Int32).toInt := by rw [ex_143]; exact add_toInt (by omega) (by omega)
                      have t_x_133 : x_133.toInt = (vy_2 : Int32).toInt + (1 : Int32).toInt := by rw [ex_133]; exact add_toInt (by omega) (by omega)
                      omega
                    have rg_145 := cB_rg (n := (Tv 0)) h_by (vy_2 : Int32).toInt.toNat
                    have h2_146 : ¬ cB (Tf 1) (Tv 0) (vy_2 : Int32).toInt.toNat = 32 := by
                      have z_1 := Int32.le_iff_toInt_le.mp c_9
                      have z_2 := congrArg Int32.toInt c_10
                      have z_3 := congrArg Int32.toInt c_115
                      have z_4 := congrArg Int32.toInt c_122
                      have z_5 : ¬ (r_106 : Int32).toInt = ((-1) : Int32).toInt := fun z => c_123 (Int32.toInt_inj.mp z)
                      have z_6 := congrArg Int32.toInt c_131
                      have z_7 : ¬ (r_139 : Int32).toInt = (61 : Int32).toInt := fun z => c_142 (Int32.toInt_inj.mp z)
                      have y_m1 : (-1 : Int32).toInt = -1 := by decide
                      have y_0 : (0 : Int32).toInt = 0 := by decide
                      have y_60 : (60 : Int32).toInt = 60 := by decide
                      have y_61 : (61 : Int32).toInt = 61 := by decide
                      have y_1 : (1 : Int32).toInt = 1 := by decide
                      have t_x_133 : x_133.toInt = (vy_2 : Int32).toInt + (1 : Int32).toInt := by rw [ex_133]; exact add_toInt (by omega) (by omega)
                      omega
                    have hr_147 : 0 ≤ (vy_2 : Int32).toInt := by
                      have z_1 := Int32.le_iff_toInt_le.mp c_9
                      have z_2 := congrArg Int32.toInt c_10
                      have z_3 := congrArg Int32.toInt c_115
                      have z_4 := congrArg Int32.toInt c_122
                      have z_5 : ¬ (r_106 : Int32).toInt = ((-1) : Int32).toInt := fun z => c_123 (Int32.toInt_inj.mp z)
                      have z_6 := congrArg Int32.toInt c_131
                      have z_7 : ¬ (r_139 : Int32).toInt = (61 : Int32).toInt := fun z => c_142 (Int32.toInt_inj.mp z)
                      have y_m1 : (-1 : Int32).toInt = -1 := by decide
                      have y_0 : (0 : Int32).toInt = 0 := by decide
                      have y_60 : (60 : Int32).toInt = 60 := by decide
                      have y_61 : (61 : Int32).toInt = 61 := by decide
                      have y_1 : (1 : Int32).toInt = 1 := by decide
                      have t_x_133 : x_133.toInt = (vy_2 : Int32).toInt + (1 : Int32).toInt := by rw [ex_133]; exact add_toInt (by omega) (by omega)
                      omega
                    have hi_148 : (x_143 : Int32).toInt = (vy_2 : Int32).toInt + 1 := by
                      have z_1 := Int32.le_iff_toInt_le.mp c_9
                      have z_2 := congrArg Int32.toInt c_10
                      have z_3 := congrArg Int32.toInt c_115
                      have z_4 := congrArg Int32.toInt c_122
                      have z_5 : ¬ (r_106 : Int32).toInt = ((-1) : Int32).toInt := fun z => c_123 (Int32.toInt_inj.mp z)
                      have z_6 := congrArg Int32.toInt c_131
                      have z_7 : ¬ (r_139 : Int32).toInt = (61 : Int32).toInt := fun z => c_142 (Int32.toInt_inj.mp z)
                      have y_m1 : (-1 : Int32).toInt = -1 := by decide
                      have y_0 : (0 : Int32).toInt = 0 := by decide
                      have y_60 : (60 : Int32).toInt = 60 := by decide
                      have y_61 : (61 : Int32).toInt = 61 := by decide
                      have y_1 : (1 : Int32).toInt = 1 := by decide
                      have t_x_143 : x_143.toInt = (vy_2 : Int32).toInt + (1 : Int32).toInt := by rw [ex_143]; exact add_toInt (by omega) (by omega)
                      have t_x_133 : x_133.toInt = (vy_2 : Int32).toInt + (1 : Int32).toInt := by rw [ex_133]; exact add_toInt (by omega) (by omega)
                      omega
                    have hx_149 : (x_133 : Int32).toInt.toNat = (vy_2 : Int32).toInt.toNat + 1 := by
                      have z_1 := Int32.le_iff_toInt_le.mp c_9
                      have z_2 := congrArg Int32.toInt c_10
                      have z_3 := congrArg Int32.toInt c_115
                      have z_4 := congrArg Int32.toInt c_122
                      have z_5 : ¬ (r_106 : Int32).toInt = ((-1) : Int32).toInt := fun z => c_123 (Int32.toInt_inj.mp z)
                      have z_6 := congrArg Int32.toInt c_131
                      have z_7 : ¬ (r_139 : Int32).toInt = (61 : Int32).toInt := fun z => c_142 (Int32.toInt_inj.mp z)
                      have y_m1 : (-1 : Int32).toInt = -1 := by decide
                      have y_0 : (0 : Int32).toInt = 0 := by decide
                      have y_60 : (60 : Int32).toInt = 60 := by decide
                      have y_61 : (61 : Int32).toInt = 61 := by decide
                      have y_1 : (1 : Int32).toInt = 1 := by decide
                      have t_x_133 : x_133.toInt = (vy_2 : Int32).toInt + (1 : Int32).toInt := by rw [ex_133]; exact add_toInt (by omega) (by omega)
                      omega
                    rw [hx_149] at he_140
                    have h2_150 : ¬ (((r_106 : Int32).toInt = 60 ∨ (r_106 : Int32).toInt = 62) ∧ cB (Tf 1) (Tv 0) ((vy_2 : Int32).toInt.toNat + 1) = 61) := by
                      have z_1 := Int32.le_iff_toInt_le.mp c_9
                      have z_2 := congrArg Int32.toInt c_10
                      have z_3 := congrArg Int32.toInt c_115
                      have z_4 := congrArg Int32.toInt c_122
                      have z_5 : ¬ (r_106 : Int32).toInt = ((-1) : Int32).toInt := fun z => c_123 (Int32.toInt_inj.mp z)
                      have z_6 := congrArg Int32.toInt c_131
                      have z_7 : ¬ (r_139 : Int32).toInt = (61 : Int32).toInt := fun z => c_142 (Int32.toInt_inj.mp z)
                      have y_m1 : (-1 : Int32).toInt = -1 := by decide
                      have y_0 : (0 : Int32).toInt = 0 := by decide
                      have y_60 : (60 : Int32).toInt = 60 := by decide
                      have y_61 : (61 : Int32).toInt = 61 := by decide
                      have y_1 : (1 : Int32).toInt = 1 := by decide
                      have t_x_133 : x_133.toInt = (vy_2 : Int32).toInt + (1 : Int32).toInt := by rw [ex_133]; exact add_toInt (by omega) (by omega)
                      omega
                    have hr_151 : ¬ (97 ≤ (r_106 : Int32).toInt ∧ (r_106 : Int32).toInt ≤ 122) := by
                      have z_1 := Int32.le_iff_toInt_le.mp c_9
                      have z_2 := congrArg Int32.toInt c_10
                      have z_3 := congrArg Int32.toInt c_115
                      have z_4 := congrArg Int32.toInt c_122
                      have z_5 : ¬ (r_106 : Int32).toInt = ((-1) : Int32).toInt := fun z => c_123 (Int32.toInt_inj.mp z)
                      have z_6 := congrArg Int32.toInt c_131
                      have z_7 : ¬ (r_139 : Int32).toInt = (61 : Int32).toInt := fun z => c_142 (Int32.toInt_inj.mp z)
                      have y_m1 : (-1 : Int32).toInt = -1 := by decide
                      have y_0 : (0 : Int32).toInt = 0 := by decide
                      have y_60 : (60 : Int32).toInt = 60 := by decide
                      have y_61 : (61 : Int32).toInt = 61 := by decide
                      have y_1 : (1 : Int32).toInt = 1 := by decide
                      have t_x_133 : x_133.toInt = (vy_2 : Int32).toInt + (1 : Int32).toInt := by rw [ex_133]; exact add_toInt (by omega) (by omega)
                      omega
                    have hr_152 : ¬ (48 ≤ (r_106 : Int32).toInt ∧ (r_106 : Int32).toInt ≤ 57) := by
                      have z_1 := Int32.le_iff_toInt_le.mp c_9
                      have z_2 := congrArg Int32.toInt c_10
                      have z_3 := congrArg Int32.toInt c_115
                      have z_4 := congrArg Int32.toInt c_122
                      have z_5 : ¬ (r_106 : Int32).toInt = ((-1) : Int32).toInt := fun z => c_123 (Int32.toInt_inj.mp z)
                      have z_6 := congrArg Int32.toInt c_131
                      have z_7 : ¬ (r_139 : Int32).toInt = (61 : Int32).toInt := fun z => c_142 (Int32.toInt_inj.mp z)
                      have y_m1 : (-1 : Int32).toInt = -1 := by decide
                      have y_0 : (0 : Int32).toInt = 0 := by decide
                      have y_60 : (60 : Int32).toInt = 60 := by decide
                      have y_61 : (61 : Int32).toInt = 61 := by decide
                      have y_1 : (1 : Int32).toInt = 1 := by decide
                      have t_x_133 : x_133.toInt = (vy_2 : Int32).toInt + (1 : Int32).toInt := by rw [ex_133]; exact add_toInt (by omega) (by omega)
                      omega
                    have hr_153 : ¬ (r_106 : Int32).toInt = -1 := by
                      have z_1 := Int32.le_iff_toInt_le.mp c_9
                      have z_2 := congrArg Int32.toInt c_10
                      have z_3 := congrArg Int32.toInt c_115
                      have z_4 := congrArg Int32.toInt c_122
                      have z_5 : ¬ (r_106 : Int32).toInt = ((-1) : Int32).toInt := fun z => c_123 (Int32.toInt_inj.mp z)
                      have z_6 := congrArg Int32.toInt c_131
                      have z_7 : ¬ (r_139 : Int32).toInt = (61 : Int32).toInt := fun z => c_142 (Int32.toInt_inj.mp z)
                      have y_m1 : (-1 : Int32).toInt = -1 := by decide
                      have y_0 : (0 : Int32).toInt = 0 := by decide
                      have y_60 : (60 : Int32).toInt = 60 := by decide
                      have y_61 : (61 : Int32).toInt = 61 := by decide
                      have y_1 : (1 : Int32).toInt = 1 := by decide
                      have t_x_133 : x_133.toInt = (vy_2 : Int32).toInt + (1 : Int32).toInt := by rw [ex_133]; exact add_toInt (by omega) (by omega)
                      omega
                    have hr_154 : ((Tv 4) : Int32).toInt = 0 := by
                      have z_1 := Int32.le_iff_toInt_le.mp c_9
                      have z_2 := congrArg Int32.toInt c_10
                      have z_3 := congrArg Int32.toInt c_115
                      have z_4 := congrArg Int32.toInt c_122
                      have z_5 : ¬ (r_106 : Int32).toInt = ((-1) : Int32).toInt := fun z => c_123 (Int32.toInt_inj.mp z)
                      have z_6 := congrArg Int32.toInt c_131
                      have z_7 : ¬ (r_139 : Int32).toInt = (61 : Int32).toInt := fun z => c_142 (Int32.toInt_inj.mp z)
                      have y_m1 : (-1 : Int32).toInt = -1 := by decide
                      have y_0 : (0 : Int32).toInt = 0 := by decide
                      have y_60 : (60 : Int32).toInt = 60 := by decide
                      have y_61 : (61 : Int32).toInt = 61 := by decide
                      have y_1 : (1 : Int32).toInt = 1 := by decide
                      have t_x_133 : x_133.toInt = (vy_2 : Int32).toInt + (1 : Int32).toInt := by rw [ex_133]; exact add_toInt (by omega) (by omega)
                      omega
                    have hr_155 : (vy_2 : Int32).toInt ≤ 400 := by
                      have z_1 := Int32.le_iff_toInt_le.mp c_9
                      have z_2 := congrArg Int32.toInt c_10
                      have z_3 := congrArg Int32.toInt c_115
                      have z_4 := congrArg Int32.toInt c_122
                      have z_5 : ¬ (r_106 : Int32).toInt = ((-1) : Int32).toInt := fun z => c_123 (Int32.toInt_inj.mp z)
                      have z_6 := congrArg Int32.toInt c_131
                      have z_7 : ¬ (r_139 : Int32).toInt = (61 : Int32).toInt := fun z => c_142 (Int32.toInt_inj.mp z)
                      have y_m1 : (-1 : Int32).toInt = -1 := by decide
                      have y_0 : (0 : Int32).toInt = 0 := by decide
                      have y_60 : (60 : Int32).toInt = 60 := by decide
                      have y_61 : (61 : Int32).toInt = 61 := by decide
                      have y_1 : (1 : Int32).toInt = 1 := by decide
                      have t_x_133 : x_133.toInt = (vy_2 : Int32).toInt + (1 : Int32).toInt := by rw [ex_133]; exact add_toInt (by omega) (by omega)
                      omega
                    exact retV hx hb hr hlk hP hD hS (vy_2, x_143, r_106) ⟨rfl, ha_144, (TpB.at h_tb hr_154 h_tape.2.2.2.2.1 pf_7 hr_155 h2_146 (te_1 hr_147 he_107.1 hr_151 hr_152 hr_153 h2_150 hi_148) he_107.1)⟩ [0, 1] rfl rfl dX10_step_242 (Nat.le_of_ble_eq_true rfl) (Nat.le_of_ble_eq_true rfl) rfl
                  · skip
                    refine lv_aload_n hx hb dX10_step_224 rfl (lv_at hl 1 rfl) ?_
                    refine gf_X10_19 hx hb hts hown hK hP 0 rfl rfl dX10_step_225 ?_
                    refine lv_iconst (v := 2) hx hb dX10_step_228 (by decide) ?_
                    refine lv_iadd hx hb dX10_step_229 ?_
                    refine lv_topi (fun x_156 ex_156 => ?_)
                    refine lv_goto (tgt := 239) hx hb dX10_step_230 (by decide) ?_
                    refine pf_X10_22 hx hb hts hown hK hP hD hS 0 rfl (Nat.le_of_ble_eq_true rfl) rfl rfl dX10_step_239 (fun H locs hP₀ hD₀ hS₀ => ?_)
                    replace hP : va_P D classes [((Ta 0), .inr (10, [.ref (Ta 1), .int (Tv 0), .int vy_2, .int x_156, .int r_106, .int (Tv 4)])), ((Ta 1), .inl (tc 0, 400, .inl (Tf 1)))] H := hP₀
                    replace hD : va_D A [((Ta 0), .inr (10, [.ref (Ta 1), .int (Tv 0), .int vy_2, .int x_156, .int r_106, .int (Tv 4)])), ((Ta 1), .inl (tc 0, 400, .inl (Tf 1)))] := hD₀
                    replace hS := hS₀
                    clear hP₀ hD₀ hS₀
                    have ha_157 : 0 ≤ ((Tv 0) : Int32).toInt ∧ ((Tv 0) : Int32).toInt ≤ 400 ∧ 0 ≤ (vy_2 : Int32).toInt ∧ (vy_2 : Int32).toInt ≤ 400 ∧ 0 ≤ (x_156 : Int32).toInt ∧ (x_156 : Int32).toInt ≤ 400 := by
                      have z_1 := Int32.le_iff_toInt_le.mp c_9
                      have z_2 := congrArg Int32.toInt c_10
                      have z_3 := congrArg Int32.toInt c_115
                      have z_4 := congrArg Int32.toInt c_122
                      have z_5 : ¬ (r_106 : Int32).toInt = ((-1) : Int32).toInt := fun z => c_123 (Int32.toInt_inj.mp z)
                      have z_6 := congrArg Int32.toInt c_131
                      have z_7 := congrArg Int32.toInt c_142
                      have y_m1 : (-1 : Int32).toInt = -1 := by decide
                      have y_0 : (0 : Int32).toInt = 0 := by decide
                      have y_60 : (60 : Int32).toInt = 60 := by decide
                      have y_61 : (61 : Int32).toInt = 61 := by decide
                      have y_1 : (1 : Int32).toInt = 1 := by decide
                      have y_2 : (2 : Int32).toInt = 2 := by decide
                      have t_x_156 : x_156.toInt = (vy_2 : Int32).toInt + (2 : Int32).toInt := by rw [ex_156]; exact add_toInt (by omega) (by omega)
                      have t_x_133 : x_133.toInt = (vy_2 : Int32).toInt + (1 : Int32).toInt := by rw [ex_133]; exact add_toInt (by omega) (by omega)
                      omega
                    have rg_158 := cB_rg (n := (Tv 0)) h_by (vy_2 : Int32).toInt.toNat
                    have h2_159 : ¬ cB (Tf 1) (Tv 0) (vy_2 : Int32).toInt.toNat = 32 := by
                      have z_1 := Int32.le_iff_toInt_le.mp c_9
                      have z_2 := congrArg Int32.toInt c_10
                      have z_3 := congrArg Int32.toInt c_115
                      have z_4 := congrArg Int32.toInt c_122
                      have z_5 : ¬ (r_106 : Int32).toInt = ((-1) : Int32).toInt := fun z => c_123 (Int32.toInt_inj.mp z)
                      have z_6 := congrArg Int32.toInt c_131
                      have z_7 := congrArg Int32.toInt c_142
                      have y_m1 : (-1 : Int32).toInt = -1 := by decide
                      have y_0 : (0 : Int32).toInt = 0 := by decide
                      have y_60 : (60 : Int32).toInt = 60 := by decide
                      have y_61 : (61 : Int32).toInt = 61 := by decide
                      have y_1 : (1 : Int32).toInt = 1 := by decide
                      have t_x_133 : x_133.toInt = (vy_2 : Int32).toInt + (1 : Int32).toInt := by rw [ex_133]; exact add_toInt (by omega) (by omega)
                      omega
                    have hr_160 : 0 ≤ (vy_2 : Int32).toInt := by
                      have z_1 := Int32.le_iff_toInt_le.mp c_9
                      have z_2 := congrArg Int32.toInt c_10
                      have z_3 := congrArg Int32.toInt c_115
                      have z_4 := congrArg Int32.toInt c_122
                      have z_5 : ¬ (r_106 : Int32).toInt = ((-1) : Int32).toInt := fun z => c_123 (Int32.toInt_inj.mp z)
                      have z_6 := congrArg Int32.toInt c_131
                      have z_7 := congrArg Int32.toInt c_142
                      have y_m1 : (-1 : Int32).toInt = -1 := by decide
                      have y_0 : (0 : Int32).toInt = 0 := by decide
                      have y_60 : (60 : Int32).toInt = 60 := by decide
                      have y_61 : (61 : Int32).toInt = 61 := by decide
                      have y_1 : (1 : Int32).toInt = 1 := by decide
                      have t_x_133 : x_133.toInt = (vy_2 : Int32).toInt + (1 : Int32).toInt := by rw [ex_133]; exact add_toInt (by omega) (by omega)
                      omega
                    have hi_161 : (x_156 : Int32).toInt = (vy_2 : Int32).toInt + 2 := by
                      have z_1 := Int32.le_iff_toInt_le.mp c_9
                      have z_2 := congrArg Int32.toInt c_10
                      have z_3 := congrArg Int32.toInt c_115
                      have z_4 := congrArg Int32.toInt c_122
                      have z_5 : ¬ (r_106 : Int32).toInt = ((-1) : Int32).toInt := fun z => c_123 (Int32.toInt_inj.mp z)
                      have z_6 := congrArg Int32.toInt c_131
                      have z_7 := congrArg Int32.toInt c_142
                      have y_m1 : (-1 : Int32).toInt = -1 := by decide
                      have y_0 : (0 : Int32).toInt = 0 := by decide
                      have y_60 : (60 : Int32).toInt = 60 := by decide
                      have y_61 : (61 : Int32).toInt = 61 := by decide
                      have y_1 : (1 : Int32).toInt = 1 := by decide
                      have y_2 : (2 : Int32).toInt = 2 := by decide
                      have t_x_156 : x_156.toInt = (vy_2 : Int32).toInt + (2 : Int32).toInt := by rw [ex_156]; exact add_toInt (by omega) (by omega)
                      have t_x_133 : x_133.toInt = (vy_2 : Int32).toInt + (1 : Int32).toInt := by rw [ex_133]; exact add_toInt (by omega) (by omega)
                      omega
                    have hx_162 : (x_133 : Int32).toInt.toNat = (vy_2 : Int32).toInt.toNat + 1 := by
                      have z_1 := Int32.le_iff_toInt_le.mp c_9
                      have z_2 := congrArg Int32.toInt c_10
                      have z_3 := congrArg Int32.toInt c_115
                      have z_4 := congrArg Int32.toInt c_122
                      have z_5 : ¬ (r_106 : Int32).toInt = ((-1) : Int32).toInt := fun z => c_123 (Int32.toInt_inj.mp z)
                      have z_6 := congrArg Int32.toInt c_131
                      have z_7 := congrArg Int32.toInt c_142
                      have y_m1 : (-1 : Int32).toInt = -1 := by decide
                      have y_0 : (0 : Int32).toInt = 0 := by decide
                      have y_60 : (60 : Int32).toInt = 60 := by decide
                      have y_61 : (61 : Int32).toInt = 61 := by decide
                      have y_1 : (1 : Int32).toInt = 1 := by decide
                      have t_x_133 : x_133.toInt = (vy_2 : Int32).toInt + (1 : Int32).toInt := by rw [ex_133]; exact add_toInt (by omega) (by omega)
                      omega
                    rw [hx_162] at he_140
                    have h2_163 : (((r_106 : Int32).toInt = 60 ∨ (r_106 : Int32).toInt = 62) ∧ cB (Tf 1) (Tv 0) ((vy_2 : Int32).toInt.toNat + 1) = 61) := by
                      have z_1 := Int32.le_iff_toInt_le.mp c_9
                      have z_2 := congrArg Int32.toInt c_10
                      have z_3 := congrArg Int32.toInt c_115
                      have z_4 := congrArg Int32.toInt c_122
                      have z_5 : ¬ (r_106 : Int32).toInt = ((-1) : Int32).toInt := fun z => c_123 (Int32.toInt_inj.mp z)
                      have z_6 := congrArg Int32.toInt c_131
                      have z_7 := congrArg Int32.toInt c_142
                      have y_m1 : (-1 : Int32).toInt = -1 := by decide
                      have y_0 : (0 : Int32).toInt = 0 := by decide
                      have y_60 : (60 : Int32).toInt = 60 := by decide
                      have y_61 : (61 : Int32).toInt = 61 := by decide
                      have y_1 : (1 : Int32).toInt = 1 := by decide
                      have t_x_133 : x_133.toInt = (vy_2 : Int32).toInt + (1 : Int32).toInt := by rw [ex_133]; exact add_toInt (by omega) (by omega)
                      omega
                    have hr_164 : ((Tv 4) : Int32).toInt = 0 := by
                      have z_1 := Int32.le_iff_toInt_le.mp c_9
                      have z_2 := congrArg Int32.toInt c_10
                      have z_3 := congrArg Int32.toInt c_115
                      have z_4 := congrArg Int32.toInt c_122
                      have z_5 : ¬ (r_106 : Int32).toInt = ((-1) : Int32).toInt := fun z => c_123 (Int32.toInt_inj.mp z)
                      have z_6 := congrArg Int32.toInt c_131
                      have z_7 := congrArg Int32.toInt c_142
                      have y_m1 : (-1 : Int32).toInt = -1 := by decide
                      have y_0 : (0 : Int32).toInt = 0 := by decide
                      have y_60 : (60 : Int32).toInt = 60 := by decide
                      have y_61 : (61 : Int32).toInt = 61 := by decide
                      have y_1 : (1 : Int32).toInt = 1 := by decide
                      have t_x_133 : x_133.toInt = (vy_2 : Int32).toInt + (1 : Int32).toInt := by rw [ex_133]; exact add_toInt (by omega) (by omega)
                      omega
                    have hr_165 : (vy_2 : Int32).toInt ≤ 400 := by
                      have z_1 := Int32.le_iff_toInt_le.mp c_9
                      have z_2 := congrArg Int32.toInt c_10
                      have z_3 := congrArg Int32.toInt c_115
                      have z_4 := congrArg Int32.toInt c_122
                      have z_5 : ¬ (r_106 : Int32).toInt = ((-1) : Int32).toInt := fun z => c_123 (Int32.toInt_inj.mp z)
                      have z_6 := congrArg Int32.toInt c_131
                      have z_7 := congrArg Int32.toInt c_142
                      have y_m1 : (-1 : Int32).toInt = -1 := by decide
                      have y_0 : (0 : Int32).toInt = 0 := by decide
                      have y_60 : (60 : Int32).toInt = 60 := by decide
                      have y_61 : (61 : Int32).toInt = 61 := by decide
                      have y_1 : (1 : Int32).toInt = 1 := by decide
                      have t_x_133 : x_133.toInt = (vy_2 : Int32).toInt + (1 : Int32).toInt := by rw [ex_133]; exact add_toInt (by omega) (by omega)
                      omega
                    exact retV hx hb hr hlk hP hD hS (vy_2, x_156, r_106) ⟨rfl, ha_157, (TpB.at h_tb hr_164 h_tape.2.2.2.2.1 pf_7 hr_165 h2_159 (te_2 hr_160 he_107.1 h2_163 hi_161) he_107.1)⟩ [0, 1] rfl rfl dX10_step_242 (Nat.le_of_ble_eq_true rfl) (Nat.le_of_ble_eq_true rfl) rfl
                · skip
                  refine lv_aload_n hx hb dX10_step_189 rfl (lv_at hl 0 rfl) ?_
                  refine gf_X10_25 hx hb hts hown hK hP 0 rfl rfl dX10_step_190 ?_
                  refine lv_bipush (v := 62) hx hb dX10_step_193 (by decide) ?_
                  refine lv_icmp_ne (tgt := 202) hx hb dX10_step_195 (by decide) (fun c_166 => ?_) (fun c_166 => ?_)
                  · skip
                    refine lv_iconst (v := 0) hx hb dX10_step_202 (by decide) ?_
                    refine lv_istore_n (lv' := [(1, .int 0), (0, .ref (Ta 0))]) hx hb dX10_step_203 rfl hl (by decide) rfl (fun ls hl₀ => ?_)
                    replace hl := hl₀
                    clear hl₀
                    refine lv_aload_n hx hb dX10_step_204 rfl (lv_at hl 1 rfl) ?_
                    refine lv_iload_n hx hb dX10_step_205 rfl (lv_at hl 0 rfl) ?_
                    refine lv_if_eq (tgt := 233) hx hb dX10_step_206 (by decide) (fun c_167 => ?_) (fun c_167 => absurd c_167 (by decide))
                    refine lv_aload_n hx hb dX10_step_233 rfl (lv_at hl 1 rfl) ?_
                    refine gf_X10_19 hx hb hts hown hK hP 0 rfl rfl dX10_step_234 ?_
                    refine lv_iconst (v := 1) hx hb dX10_step_237 (by decide) ?_
                    refine lv_iadd hx hb dX10_step_238 ?_
                    refine lv_topi (fun x_168 ex_168 => ?_)
                    refine pf_X10_22 hx hb hts hown hK hP hD hS 0 rfl (Nat.le_of_ble_eq_true rfl) rfl rfl dX10_step_239 (fun H locs hP₀ hD₀ hS₀ => ?_)
                    replace hP : va_P D classes [((Ta 0), .inr (10, [.ref (Ta 1), .int (Tv 0), .int vy_2, .int x_168, .int r_106, .int (Tv 4)])), ((Ta 1), .inl (tc 0, 400, .inl (Tf 1)))] H := hP₀
                    replace hD : va_D A [((Ta 0), .inr (10, [.ref (Ta 1), .int (Tv 0), .int vy_2, .int x_168, .int r_106, .int (Tv 4)])), ((Ta 1), .inl (tc 0, 400, .inl (Tf 1)))] := hD₀
                    replace hS := hS₀
                    clear hP₀ hD₀ hS₀
                    have ha_169 : 0 ≤ ((Tv 0) : Int32).toInt ∧ ((Tv 0) : Int32).toInt ≤ 400 ∧ 0 ≤ (vy_2 : Int32).toInt ∧ (vy_2 : Int32).toInt ≤ 400 ∧ 0 ≤ (x_168 : Int32).toInt ∧ (x_168 : Int32).toInt ≤ 400 := by
                      have z_1 := Int32.le_iff_toInt_le.mp c_9
                      have z_2 := congrArg Int32.toInt c_10
                      have z_3 := congrArg Int32.toInt c_115
                      have z_4 := congrArg Int32.toInt c_122
                      have z_5 : ¬ (r_106 : Int32).toInt = ((-1) : Int32).toInt := fun z => c_123 (Int32.toInt_inj.mp z)
                      have z_6 : ¬ (r_106 : Int32).toInt = (60 : Int32).toInt := fun z => c_131 (Int32.toInt_inj.mp z)
                      have z_7 : ¬ (r_106 : Int32).toInt = (62 : Int32).toInt := fun z => c_166 (Int32.toInt_inj.mp z)
                      have y_m1 : (-1 : Int32).toInt = -1 := by decide
                      have y_0 : (0 : Int32).toInt = 0 := by decide
                      have y_60 : (60 : Int32).toInt = 60 := by decide
                      have y_62 : (62 : Int32).toInt = 62 := by decide
                      have y_1 : (1 : Int32).toInt = 1 := by decide
                      have t_x_168 : x_168.toInt = (vy_2 : Int32).toInt + (1 : Int32).toInt := by rw [ex_168]; exact add_toInt (by omega) (by omega)
                      omega
                    have rg_170 := cB_rg (n := (Tv 0)) h_by (vy_2 : Int32).toInt.toNat
                    have h2_171 : ¬ cB (Tf 1) (Tv 0) (vy_2 : Int32).toInt.toNat = 32 := by
                      have z_1 := Int32.le_iff_toInt_le.mp c_9
                      have z_2 := congrArg Int32.toInt c_10
                      have z_3 := congrArg Int32.toInt c_115
                      have z_4 := congrArg Int32.toInt c_122
                      have z_5 : ¬ (r_106 : Int32).toInt = ((-1) : Int32).toInt := fun z => c_123 (Int32.toInt_inj.mp z)
                      have z_6 : ¬ (r_106 : Int32).toInt = (60 : Int32).toInt := fun z => c_131 (Int32.toInt_inj.mp z)
                      have z_7 : ¬ (r_106 : Int32).toInt = (62 : Int32).toInt := fun z => c_166 (Int32.toInt_inj.mp z)
                      have y_m1 : (-1 : Int32).toInt = -1 := by decide
                      have y_0 : (0 : Int32).toInt = 0 := by decide
                      have y_60 : (60 : Int32).toInt = 60 := by decide
                      have y_62 : (62 : Int32).toInt = 62 := by decide
                      omega
                    have hr_172 : 0 ≤ (vy_2 : Int32).toInt := by
                      have z_1 := Int32.le_iff_toInt_le.mp c_9
                      have z_2 := congrArg Int32.toInt c_10
                      have z_3 := congrArg Int32.toInt c_115
                      have z_4 := congrArg Int32.toInt c_122
                      have z_5 : ¬ (r_106 : Int32).toInt = ((-1) : Int32).toInt := fun z => c_123 (Int32.toInt_inj.mp z)
                      have z_6 : ¬ (r_106 : Int32).toInt = (60 : Int32).toInt := fun z => c_131 (Int32.toInt_inj.mp z)
                      have z_7 : ¬ (r_106 : Int32).toInt = (62 : Int32).toInt := fun z => c_166 (Int32.toInt_inj.mp z)
                      have y_m1 : (-1 : Int32).toInt = -1 := by decide
                      have y_0 : (0 : Int32).toInt = 0 := by decide
                      have y_60 : (60 : Int32).toInt = 60 := by decide
                      have y_62 : (62 : Int32).toInt = 62 := by decide
                      omega
                    have hi_173 : (x_168 : Int32).toInt = (vy_2 : Int32).toInt + 1 := by
                      have z_1 := Int32.le_iff_toInt_le.mp c_9
                      have z_2 := congrArg Int32.toInt c_10
                      have z_3 := congrArg Int32.toInt c_115
                      have z_4 := congrArg Int32.toInt c_122
                      have z_5 : ¬ (r_106 : Int32).toInt = ((-1) : Int32).toInt := fun z => c_123 (Int32.toInt_inj.mp z)
                      have z_6 : ¬ (r_106 : Int32).toInt = (60 : Int32).toInt := fun z => c_131 (Int32.toInt_inj.mp z)
                      have z_7 : ¬ (r_106 : Int32).toInt = (62 : Int32).toInt := fun z => c_166 (Int32.toInt_inj.mp z)
                      have y_m1 : (-1 : Int32).toInt = -1 := by decide
                      have y_0 : (0 : Int32).toInt = 0 := by decide
                      have y_60 : (60 : Int32).toInt = 60 := by decide
                      have y_62 : (62 : Int32).toInt = 62 := by decide
                      have y_1 : (1 : Int32).toInt = 1 := by decide
                      have t_x_168 : x_168.toInt = (vy_2 : Int32).toInt + (1 : Int32).toInt := by rw [ex_168]; exact add_toInt (by omega) (by omega)
                      omega
                    have h2_174 : ¬ (((r_106 : Int32).toInt = 60 ∨ (r_106 : Int32).toInt = 62) ∧ cB (Tf 1) (Tv 0) ((vy_2 : Int32).toInt.toNat + 1) = 61) := by
                      have z_1 := Int32.le_iff_toInt_le.mp c_9
                      have z_2 := congrArg Int32.toInt c_10
                      have z_3 := congrArg Int32.toInt c_115
                      have z_4 := congrArg Int32.toInt c_122
                      have z_5 : ¬ (r_106 : Int32).toInt = ((-1) : Int32).toInt := fun z => c_123 (Int32.toInt_inj.mp z)
                      have z_6 : ¬ (r_106 : Int32).toInt = (60 : Int32).toInt := fun z => c_131 (Int32.toInt_inj.mp z)
                      have z_7 : ¬ (r_106 : Int32).toInt = (62 : Int32).toInt := fun z => c_166 (Int32.toInt_inj.mp z)
                      have y_m1 : (-1 : Int32).toInt = -1 := by decide
                      have y_0 : (0 : Int32).toInt = 0 := by decide
                      have y_60 : (60 : Int32).toInt = 60 := by decide
                      have y_62 : (62 : Int32).toInt = 62 := by decide
                      omega
                    have hr_175 : ¬ (97 ≤ (r_106 : Int32).toInt ∧ (r_106 : Int32).toInt ≤ 122) := by
                      have z_1 := Int32.le_iff_toInt_le.mp c_9
                      have z_2 := congrArg Int32.toInt c_10
                      have z_3 := congrArg Int32.toInt c_115
                      have z_4 := congrArg Int32.toInt c_122
                      have z_5 : ¬ (r_106 : Int32).toInt = ((-1) : Int32).toInt := fun z => c_123 (Int32.toInt_inj.mp z)
                      have z_6 : ¬ (r_106 : Int32).toInt = (60 : Int32).toInt := fun z => c_131 (Int32.toInt_inj.mp z)
                      have z_7 : ¬ (r_106 : Int32).toInt = (62 : Int32).toInt := fun z => c_166 (Int32.toInt_inj.mp z)
                      have y_m1 : (-1 : Int32).toInt = -1 := by decide
                      have y_0 : (0 : Int32).toInt = 0 := by decide
                      have y_60 : (60 : Int32).toInt = 60 := by decide
                      have y_62 : (62 : Int32).toInt = 62 := by decide
                      omega
                    have hr_176 : ¬ (48 ≤ (r_106 : Int32).toInt ∧ (r_106 : Int32).toInt ≤ 57) := by
                      have z_1 := Int32.le_iff_toInt_le.mp c_9
                      have z_2 := congrArg Int32.toInt c_10
                      have z_3 := congrArg Int32.toInt c_115
                      have z_4 := congrArg Int32.toInt c_122
                      have z_5 : ¬ (r_106 : Int32).toInt = ((-1) : Int32).toInt := fun z => c_123 (Int32.toInt_inj.mp z)
                      have z_6 : ¬ (r_106 : Int32).toInt = (60 : Int32).toInt := fun z => c_131 (Int32.toInt_inj.mp z)
                      have z_7 : ¬ (r_106 : Int32).toInt = (62 : Int32).toInt := fun z => c_166 (Int32.toInt_inj.mp z)
                      have y_m1 : (-1 : Int32).toInt = -1 := by decide
                      have y_0 : (0 : Int32).toInt = 0 := by decide
                      have y_60 : (60 : Int32).toInt = 60 := by decide
                      have y_62 : (62 : Int32).toInt = 62 := by decide
                      omega
                    have hr_177 : ¬ (r_106 : Int32).toInt = -1 := by
                      have z_1 := Int32.le_iff_toInt_le.mp c_9
                      have z_2 := congrArg Int32.toInt c_10
                      have z_3 := congrArg Int32.toInt c_115
                      have z_4 := congrArg Int32.toInt c_122
                      have z_5 : ¬ (r_106 : Int32).toInt = ((-1) : Int32).toInt := fun z => c_123 (Int32.toInt_inj.mp z)
                      have z_6 : ¬ (r_106 : Int32).toInt = (60 : Int32).toInt := fun z => c_131 (Int32.toInt_inj.mp z)
                      have z_7 : ¬ (r_106 : Int32).toInt = (62 : Int32).toInt := fun z => c_166 (Int32.toInt_inj.mp z)
                      have y_m1 : (-1 : Int32).toInt = -1 := by decide
                      have y_0 : (0 : Int32).toInt = 0 := by decide
                      have y_60 : (60 : Int32).toInt = 60 := by decide
                      have y_62 : (62 : Int32).toInt = 62 := by decide
                      omega
                    have hr_178 : ((Tv 4) : Int32).toInt = 0 := by
                      have z_1 := Int32.le_iff_toInt_le.mp c_9
                      have z_2 := congrArg Int32.toInt c_10
                      have z_3 := congrArg Int32.toInt c_115
                      have z_4 := congrArg Int32.toInt c_122
                      have z_5 : ¬ (r_106 : Int32).toInt = ((-1) : Int32).toInt := fun z => c_123 (Int32.toInt_inj.mp z)
                      have z_6 : ¬ (r_106 : Int32).toInt = (60 : Int32).toInt := fun z => c_131 (Int32.toInt_inj.mp z)
                      have z_7 : ¬ (r_106 : Int32).toInt = (62 : Int32).toInt := fun z => c_166 (Int32.toInt_inj.mp z)
                      have y_m1 : (-1 : Int32).toInt = -1 := by decide
                      have y_0 : (0 : Int32).toInt = 0 := by decide
                      have y_60 : (60 : Int32).toInt = 60 := by decide
                      have y_62 : (62 : Int32).toInt = 62 := by decide
                      omega
                    have hr_179 : (vy_2 : Int32).toInt ≤ 400 := by
                      have z_1 := Int32.le_iff_toInt_le.mp c_9
                      have z_2 := congrArg Int32.toInt c_10
                      have z_3 := congrArg Int32.toInt c_115
                      have z_4 := congrArg Int32.toInt c_122
                      have z_5 : ¬ (r_106 : Int32).toInt = ((-1) : Int32).toInt := fun z => c_123 (Int32.toInt_inj.mp z)
                      have z_6 : ¬ (r_106 : Int32).toInt = (60 : Int32).toInt := fun z => c_131 (Int32.toInt_inj.mp z)
                      have z_7 : ¬ (r_106 : Int32).toInt = (62 : Int32).toInt := fun z => c_166 (Int32.toInt_inj.mp z)
                      have y_m1 : (-1 : Int32).toInt = -1 := by decide
                      have y_0 : (0 : Int32).toInt = 0 := by decide
                      have y_60 : (60 : Int32).toInt = 60 := by decide
                      have y_62 : (62 : Int32).toInt = 62 := by decide
                      omega
                    exact retV hx hb hr hlk hP hD hS (vy_2, x_168, r_106) ⟨rfl, ha_169, (TpB.at h_tb hr_178 h_tape.2.2.2.2.1 pf_7 hr_179 h2_171 (te_1 hr_172 he_107.1 hr_175 hr_176 hr_177 h2_174 hi_173) he_107.1)⟩ [0, 1] rfl rfl dX10_step_242 (Nat.le_of_ble_eq_true rfl) (Nat.le_of_ble_eq_true rfl) rfl
                  · skip
                    refine lv_iconst (v := 1) hx hb dX10_step_198 (by decide) ?_
                    refine lv_goto (tgt := 203) hx hb dX10_step_199 (by decide) ?_
                    refine lv_istore_n (lv' := [(1, .int 1), (0, .ref (Ta 0))]) hx hb dX10_step_203 rfl hl (by decide) rfl (fun ls hl₀ => ?_)
                    replace hl := hl₀
                    clear hl₀
                    refine lv_aload_n hx hb dX10_step_204 rfl (lv_at hl 1 rfl) ?_
                    refine lv_iload_n hx hb dX10_step_205 rfl (lv_at hl 0 rfl) ?_
                    refine lv_if_eq (tgt := 233) hx hb dX10_step_206 (by decide) (fun c_180 => absurd c_180 (by decide)) (fun c_180 => ?_)
                    refine lv_aload_n hx hb dX10_step_209 rfl (lv_at hl 1 rfl) ?_
                    refine lv_aload_n hx hb dX10_step_210 rfl (lv_at hl 1 rfl) ?_
                    refine gf_X10_19 hx hb hts hown hK hP 0 rfl rfl dX10_step_211 ?_
                    refine lv_iconst (v := 1) hx hb dX10_step_214 (by decide) ?_
                    refine lv_iadd hx hb dX10_step_215 ?_
                    refine lv_topi (fun x_181 ex_181 => ?_)
                    have ha_182 : 0 ≤ ((Tv 0) : Int32).toInt ∧ ((Tv 0) : Int32).toInt ≤ 400 ∧ 0 ≤ (vy_2 : Int32).toInt ∧ (vy_2 : Int32).toInt ≤ 400 ∧ 0 ≤ (vy_2 : Int32).toInt ∧ (vy_2 : Int32).toInt ≤ 400 := by
                      have z_1 := Int32.le_iff_toInt_le.mp c_9
                      have z_2 := congrArg Int32.toInt c_10
                      have z_3 := congrArg Int32.toInt c_115
                      have z_4 := congrArg Int32.toInt c_122
                      have z_5 : ¬ (r_106 : Int32).toInt = ((-1) : Int32).toInt := fun z => c_123 (Int32.toInt_inj.mp z)
                      have z_6 : ¬ (r_106 : Int32).toInt = (60 : Int32).toInt := fun z => c_131 (Int32.toInt_inj.mp z)
                      have z_7 := congrArg Int32.toInt c_166
                      have y_m1 : (-1 : Int32).toInt = -1 := by decide
                      have y_0 : (0 : Int32).toInt = 0 := by decide
                      have y_60 : (60 : Int32).toInt = 60 := by decide
                      have y_62 : (62 : Int32).toInt = 62 := by decide
                      have y_1 : (1 : Int32).toInt = 1 := by decide
                      have t_x_181 : x_181.toInt = (vy_2 : Int32).toInt + (1 : Int32).toInt := by rw [ex_181]; exact add_toInt (by omega) (by omega)
                      omega
                    have ha_183 : 0 ≤ x_181.toInt := by
                      have z_1 := Int32.le_iff_toInt_le.mp c_9
                      have z_2 := congrArg Int32.toInt c_10
                      have z_3 := congrArg Int32.toInt c_115
                      have z_4 := congrArg Int32.toInt c_122
                      have z_5 : ¬ (r_106 : Int32).toInt = ((-1) : Int32).toInt := fun z => c_123 (Int32.toInt_inj.mp z)
                      have z_6 : ¬ (r_106 : Int32).toInt = (60 : Int32).toInt := fun z => c_131 (Int32.toInt_inj.mp z)
                      have z_7 := congrArg Int32.toInt c_166
                      have y_m1 : (-1 : Int32).toInt = -1 := by decide
                      have y_0 : (0 : Int32).toInt = 0 := by decide
                      have y_60 : (60 : Int32).toInt = 60 := by decide
                      have y_62 : (62 : Int32).toInt = 62 := by decide
                      have y_1 : (1 : Int32).toInt = 1 := by decide
                      have t_x_181 : x_181.toInt = (vy_2 : Int32).toInt + (1 : Int32).toInt := by rw [ex_181]; exact add_toInt (by omega) (by omega)
                      omega
                    refine cV (a := (Ta 0)) (As := [.int x_181]) (rest := [.ref (Ta 0)]) (wr := []) ⟨hx, hb, hml, hown, hts⟩ hK hX hA (cu_fX10_byteAt l D tc sk (Ta 0) (Ta 1) (Tv 0) vy_2 vy_2 r_106 (Tv 4) (Tf 1) x_181 ha_182 h_by ha_183) k_482 k_479 k_481 k_0 k_96 pl_X10_byteAt ⟨Nat.le_of_ble_eq_true rfl, Nat.le_of_ble_eq_true rfl⟩ rfl rfl (va_recv hK hP (ci := 10) (q0 := 0) rfl rfl) hP hD hS [0, 1] [] rfl rfl rfl rfl rfl (by decide) rfl hl.1 rfl (Nat.le_of_ble_eq_true rfl) dX10_step_216 ⟨Nat.le_of_ble_eq_true rfl, Nat.le_of_ble_eq_true rfl⟩ (fun v_184 u_185 H locs hv_186 hP₀ hD₀ hS₀ => ?_)
                    obtain ⟨r_187, rfl, he_188⟩ := hv_186
                    have he_188 : (r_187.toInt = cB (Tf 1) (Tv 0) x_181.toInt.toNat ∧ (((Tv 0).toInt ≤ x_181.toInt ∧ r_187.toInt = -1) ∨ (x_181.toInt < (Tv 0).toInt ∧ 0 ≤ r_187.toInt ∧ r_187.toInt ≤ 255))) := he_188
                    refine W.eq (g2 := F0 m 219 ls [.int r_187, .ref (Ta 0)]) rfl ?_
                    replace hP : va_P D classes [((Ta 0), .inr (10, [.ref (Ta 1), .int (Tv 0), .int vy_2, .int vy_2, .int r_106, .int (Tv 4)])), ((Ta 1), .inl (tc 0, 400, .inl (Tf 1)))] H := hP₀
                    replace hD : va_D A [((Ta 0), .inr (10, [.ref (Ta 1), .int (Tv 0), .int vy_2, .int vy_2, .int r_106, .int (Tv 4)])), ((Ta 1), .inl (tc 0, 400, .inl (Tf 1)))] := hD₀
                    replace hS := hS₀
                    clear hP₀ hD₀ hS₀
                    refine lv_bipush (v := 61) hx hb dX10_step_219 (by decide) ?_
                    refine lv_icmp_ne (tgt := 233) hx hb dX10_step_221 (by decide) (fun c_190 => ?_) (fun c_190 => ?_)
                    · skip
                      refine lv_aload_n hx hb dX10_step_233 rfl (lv_at hl 1 rfl) ?_
                      refine gf_X10_19 hx hb hts hown hK hP 0 rfl rfl dX10_step_234 ?_
                      refine lv_iconst (v := 1) hx hb dX10_step_237 (by decide) ?_
                      refine lv_iadd hx hb dX10_step_238 ?_
                      refine lv_topi (fun x_191 ex_191 => ?_)
                      refine pf_X10_22 hx hb hts hown hK hP hD hS 0 rfl (Nat.le_of_ble_eq_true rfl) rfl rfl dX10_step_239 (fun H locs hP₀ hD₀ hS₀ => ?_)
                      replace hP : va_P D classes [((Ta 0), .inr (10, [.ref (Ta 1), .int (Tv 0), .int vy_2, .int x_191, .int r_106, .int (Tv 4)])), ((Ta 1), .inl (tc 0, 400, .inl (Tf 1)))] H := hP₀
                      replace hD : va_D A [((Ta 0), .inr (10, [.ref (Ta 1), .int (Tv 0), .int vy_2, .int x_191, .int r_106, .int (Tv 4)])), ((Ta 1), .inl (tc 0, 400, .inl (Tf 1)))] := hD₀
                      replace hS := hS₀
                      clear hP₀ hD₀ hS₀
                      have ha_192 : 0 ≤ ((Tv 0) : Int32).toInt ∧ ((Tv 0) : Int32).toInt ≤ 400 ∧ 0 ≤ (vy_2 : Int32).toInt ∧ (vy_2 : Int32).toInt ≤ 400 ∧ 0 ≤ (x_191 : Int32).toInt ∧ (x_191 : Int32).toInt ≤ 400 := by
                        have z_1 := Int32.le_iff_toInt_le.mp c_9
                        have z_2 := congrArg Int32.toInt c_10
                        have z_3 := congrArg Int32.toInt c_115
                        have z_4 := congrArg Int32.toInt c_122
                        have z_5 : ¬ (r_106 : Int32).toInt = ((-1) : Int32).toInt := fun z => c_123 (Int32.toInt_inj.mp z)
                        have z_6 : ¬ (r_106 : Int32).toInt = (60 : Int32).toInt := fun z => c_131 (Int32.toInt_inj.mp z)
                        have z_7 := congrArg Int32.toInt c_166
                        have z_8 : ¬ (r_187 : Int32).toInt = (61 : Int32).toInt := fun z => c_190 (Int32.toInt_inj.mp z)
                        have y_m1 : (-1 : Int32).toInt = -1 := by decide
                        have y_0 : (0 : Int32).toInt = 0 := by decide
                        have y_60 : (60 : Int32).toInt = 60 := by decide
                        have y_61 : (61 : Int32).toInt = 61 := by decide
                        have y_62 : (62 : Int32).toInt = 62 := by decide
                        have y_1 : (1 : Int32).toInt = 1 := by decide
                        have t_x_191 : x_191.toInt = (vy_2 : Int32).toInt + (1 : Int32).toInt := by rw [ex_191]; exact add_toInt (by omega) (by omega)
                        have t_x_181 : x_181.toInt = (vy_2 : Int32).toInt + (1 : Int32).toInt := by rw [ex_181]; exact add_toInt (by omega) (by omega)
                        omega
                      have rg_193 := cB_rg (n := (Tv 0)) h_by (vy_2 : Int32).toInt.toNat
                      have h2_194 : ¬ cB (Tf 1) (Tv 0) (vy_2 : Int32).toInt.toNat = 32 := by
                        have z_1 := Int32.le_iff_toInt_le.mp c_9
                        have z_2 := congrArg Int32.toInt c_10
                        have z_3 := congrArg Int32.toInt c_115
                        have z_4 := congrArg Int32.toInt c_122
                        have z_5 : ¬ (r_106 : Int32).toInt = ((-1) : Int32).toInt := fun z => c_123 (Int32.toInt_inj.mp z)
                        have z_6 : ¬ (r_106 : Int32).toInt = (60 : Int32).toInt := fun z => c_131 (Int32.toInt_inj.mp z)
                        have z_7 := congrArg Int32.toInt c_166
                        have z_8 : ¬ (r_187 : Int32).toInt = (61 : Int32).toInt := fun z => c_190 (Int32.toInt_inj.mp z)
                        have y_m1 : (-1 : Int32).toInt = -1 := by decide
                        have y_0 : (0 : Int32).toInt = 0 := by decide
                        have y_60 : (60 : Int32).toInt = 60 := by decide
                        have y_61 : (61 : Int32).toInt = 61 := by decide
                        have y_62 : (62 : Int32).toInt = 62 := by decide
                        have y_1 : (1 : Int32).toInt = 1 := by decide
                        have t_x_181 : x_181.toInt = (vy_2 : Int32).toInt + (1 : Int32).toInt := by rw [ex_181]; exact add_toInt (by omega) (by omega)
                        omega
                      have hr_195 : 0 ≤ (vy_2 : Int32).toInt := by
                        have z_1 := Int32.le_iff_toInt_le.mp c_9
                        have z_2 := congrArg Int32.toInt c_10
                        have z_3 := congrArg Int32.toInt c_115
                        have z_4 := congrArg Int32.toInt c_122
                        have z_5 : ¬ (r_106 : Int32).toInt = ((-1) : Int32).toInt := fun z => c_123 (Int32.toInt_inj.mp z)
                        have z_6 : ¬ (r_106 : Int32).toInt = (60 : Int32).toInt := fun z => c_131 (Int32.toInt_inj.mp z)
                        have z_7 := congrArg Int32.toInt c_166
                        have z_8 : ¬ (r_187 : Int32).toInt = (61 : Int32).toInt := fun z => c_190 (Int32.toInt_inj.mp z)
                        have y_m1 : (-1 : Int32).toInt = -1 := by decide
                        have y_0 : (0 : Int32).toInt = 0 := by decide
                        have y_60 : (60 : Int32).toInt = 60 := by decide
                        have y_61 : (61 : Int32).toInt = 61 := by decide
                        have y_62 : (62 : Int32).toInt = 62 := by decide
                        have y_1 : (1 : Int32).toInt = 1 := by decide
                        have t_x_181 : x_181.toInt = (vy_2 : Int32).toInt + (1 : Int32).toInt := by rw [ex_181]; exact add_toInt (by omega) (by omega)
                        omega
                      have hi_196 : (x_191 : Int32).toInt = (vy_2 : Int32).toInt + 1 := by
                        have z_1 := Int32.le_iff_toInt_le.mp c_9
                        have z_2 := congrArg Int32.toInt c_10
                        have z_3 := congrArg Int32.toInt c_115
                        have z_4 := congrArg Int32.toInt c_122
                        have z_5 : ¬ (r_106 : Int32).toInt = ((-1) : Int32).toInt := fun z => c_123 (Int32.toInt_inj.mp z)
                        have z_6 : ¬ (r_106 : Int32).toInt = (60 : Int32).toInt := fun z => c_131 (Int32.toInt_inj.mp z)
                        have z_7 := congrArg Int32.toInt c_166
                        have z_8 : ¬ (r_187 : Int32).toInt = (61 : Int32).toInt := fun z => c_190 (Int32.toInt_inj.mp z)
                        have y_m1 : (-1 : Int32).toInt = -1 := by decide
                        have y_0 : (0 : Int32).toInt = 0 := by decide
                        have y_60 : (60 : Int32).toInt = 60 := by decide
                        have y_61 : (61 : Int32).toInt = 61 := by decide
                        have y_62 : (62 : Int32).toInt = 62 := by decide
                        have y_1 : (1 : Int32).toInt = 1 := by decide
                        have t_x_191 : x_191.toInt = (vy_2 : Int32).toInt + (1 : Int32).toInt := by rw [ex_191]; exact add_toInt (by omega) (by omega)
                        have t_x_181 : x_181.toInt = (vy_2 : Int32).toInt + (1 : Int32).toInt := by rw [ex_181]; exact add_toInt (by omega) (by omega)
                        omega
                      have hx_197 : (x_181 : Int32).toInt.toNat = (vy_2 : Int32).toInt.toNat + 1 := by
                        have z_1 := Int32.le_iff_toInt_le.mp c_9
                        have z_2 := congrArg Int32.toInt c_10
                        have z_3 := congrArg Int32.toInt c_115
                        have z_4 := congrArg Int32.toInt c_122
                        have z_5 : ¬ (r_106 : Int32).toInt = ((-1) : Int32).toInt := fun z => c_123 (Int32.toInt_inj.mp z)
                        have z_6 : ¬ (r_106 : Int32).toInt = (60 : Int32).toInt := fun z => c_131 (Int32.toInt_inj.mp z)
                        have z_7 := congrArg Int32.toInt c_166
                        have z_8 : ¬ (r_187 : Int32).toInt = (61 : Int32).toInt := fun z => c_190 (Int32.toInt_inj.mp z)
                        have y_m1 : (-1 : Int32).toInt = -1 := by decide
                        have y_0 : (0 : Int32).toInt = 0 := by decide
                        have y_60 : (60 : Int32).toInt = 60 := by decide
                        have y_61 : (61 : Int32).toInt = 61 := by decide
                        have y_62 : (62 : Int32).toInt = 62 := by decide
                        have y_1 : (1 : Int32).toInt = 1 := by decide
                        have t_x_181 : x_181.toInt = (vy_2 : Int32).toInt + (1 : Int32).toInt := by rw [ex_181]; exact add_toInt (by omega) (by omega)
                        omega
                      rw [hx_197] at he_188
                      have h2_198 : ¬ (((r_106 : Int32).toInt = 60 ∨ (r_106 : Int32).toInt = 62) ∧ cB (Tf 1) (Tv 0) ((vy_2 : Int32).toInt.toNat + 1) = 61) := by
                        have z_1 := Int32.le_iff_toInt_le.mp c_9
                        have z_2 := congrArg Int32.toInt c_10
                        have z_3 := congrArg Int32.toInt c_115
                        have z_4 := congrArg Int32.toInt c_122
                        have z_5 : ¬ (r_106 : Int32).toInt = ((-1) : Int32).toInt := fun z => c_123 (Int32.toInt_inj.mp z)
                        have z_6 : ¬ (r_106 : Int32).toInt = (60 : Int32).toInt := fun z => c_131 (Int32.toInt_inj.mp z)
                        have z_7 := congrArg Int32.toInt c_166
                        have z_8 : ¬ (r_187 : Int32).toInt = (61 : Int32).toInt := fun z => c_190 (Int32.toInt_inj.mp z)
                        have y_m1 : (-1 : Int32).toInt = -1 := by decide
                        have y_0 : (0 : Int32).toInt = 0 := by decide
                        have y_60 : (60 : Int32).toInt = 60 := by decide
                        have y_61 : (61 : Int32).toInt = 61 := by decide
                        have y_62 : (62 : Int32).toInt = 62 := by decide
                        have y_1 : (1 : Int32).toInt = 1 := by decide
                        have t_x_181 : x_181.toInt = (vy_2 : Int32).toInt + (1 : Int32).toInt := by rw [ex_181]; exact add_toInt (by omega) (by omega)
                        omega
                      have hr_199 : ¬ (97 ≤ (r_106 : Int32).toInt ∧ (r_106 : Int32).toInt ≤ 122) := by
                        have z_1 := Int32.le_iff_toInt_le.mp c_9
                        have z_2 := congrArg Int32.toInt c_10
                        have z_3 := congrArg Int32.toInt c_115
                        have z_4 := congrArg Int32.toInt c_122
                        have z_5 : ¬ (r_106 : Int32).toInt = ((-1) : Int32).toInt := fun z => c_123 (Int32.toInt_inj.mp z)
                        have z_6 : ¬ (r_106 : Int32).toInt = (60 : Int32).toInt := fun z => c_131 (Int32.toInt_inj.mp z)
                        have z_7 := congrArg Int32.toInt c_166
                        have z_8 : ¬ (r_187 : Int32).toInt = (61 : Int32).toInt := fun z => c_190 (Int32.toInt_inj.mp z)
                        have y_m1 : (-1 : Int32).toInt = -1 := by decide
                        have y_0 : (0 : Int32).toInt = 0 := by decide
                        have y_60 : (60 : Int32).toInt = 60 := by decide
                        have y_61 : (61 : Int32).toInt = 61 := by decide
                        have y_62 : (62 : Int32).toInt = 62 := by decide
                        have y_1 : (1 : Int32).toInt = 1 := by decide
                        have t_x_181 : x_181.toInt = (vy_2 : Int32).toInt + (1 : Int32).toInt := by rw [ex_181]; exact add_toInt (by omega) (by omega)
                        omega
                      have hr_200 : ¬ (48 ≤ (r_106 : Int32).toInt ∧ (r_106 : Int32).toInt ≤ 57) := by
                        have z_1 := Int32.le_iff_toInt_le.mp c_9
                        have z_2 := congrArg Int32.toInt c_10
                        have z_3 := congrArg Int32.toInt c_115
                        have z_4 := congrArg Int32.toInt c_122
                        have z_5 : ¬ (r_106 : Int32).toInt = ((-1) : Int32).toInt := fun z => c_123 (Int32.toInt_inj.mp z)
                        have z_6 : ¬ (r_106 : Int32).toInt = (60 : Int32).toInt := fun z => c_131 (Int32.toInt_inj.mp z)
                        have z_7 := congrArg Int32.toInt c_166
                        have z_8 : ¬ (r_187 : Int32).toInt = (61 : Int32).toInt := fun z => c_190 (Int32.toInt_inj.mp z)
                        have y_m1 : (-1 : Int32).toInt = -1 := by decide
                        have y_0 : (0 : Int32).toInt = 0 := by decide
                        have y_60 : (60 : Int32).toInt = 60 := by decide
                        have y_61 : (61 : Int32).toInt = 61 := by decide
                        have y_62 : (62 : Int32).toInt = 62 := by decide
                        have y_1 : (1 : Int32).toInt = 1 := by decide
                        have t_x_181 : x_181.toInt = (vy_2 : Int32).toInt + (1 : Int32).toInt := by rw [ex_181]; exact add_toInt (by omega) (by omega)
                        omega
                      have hr_201 : ¬ (r_106 : Int32).toInt = -1 := by
                        have z_1 := Int32.le_iff_toInt_le.mp c_9
                        have z_2 := congrArg Int32.toInt c_10
                        have z_3 := congrArg Int32.toInt c_115
                        have z_4 := congrArg Int32.toInt c_122
                        have z_5 : ¬ (r_106 : Int32).toInt = ((-1) : Int32).toInt := fun z => c_123 (Int32.toInt_inj.mp z)
                        have z_6 : ¬ (r_106 : Int32).toInt = (60 : Int32).toInt := fun z => c_131 (Int32.toInt_inj.mp z)
                        have z_7 := congrArg Int32.toInt c_166
                        have z_8 : ¬ (r_187 : Int32).toInt = (61 : Int32).toInt := fun z => c_190 (Int32.toInt_inj.mp z)
                        have y_m1 : (-1 : Int32).toInt = -1 := by decide
                        have y_0 : (0 : Int32).toInt = 0 := by decide
                        have y_60 : (60 : Int32).toInt = 60 := by decide
                        have y_61 : (61 : Int32).toInt = 61 := by decide
                        have y_62 : (62 : Int32).toInt = 62 := by decide
                        have y_1 : (1 : Int32).toInt = 1 := by decide
                        have t_x_181 : x_181.toInt = (vy_2 : Int32).toInt + (1 : Int32).toInt := by rw [ex_181]; exact add_toInt (by omega) (by omega)
                        omega
                      have hr_202 : ((Tv 4) : Int32).toInt = 0 := by
                        have z_1 := Int32.le_iff_toInt_le.mp c_9
                        have z_2 := congrArg Int32.toInt c_10
                        have z_3 := congrArg Int32.toInt c_115
                        have z_4 := congrArg Int32.toInt c_122
                        have z_5 : ¬ (r_106 : Int32).toInt = ((-1) : Int32).toInt := fun z => c_123 (Int32.toInt_inj.mp z)
                        have z_6 : ¬ (r_106 : Int32).toInt = (60 : Int32).toInt := fun z => c_131 (Int32.toInt_inj.mp z)
                        have z_7 := congrArg Int32.toInt c_166
                        have z_8 : ¬ (r_187 : Int32).toInt = (61 : Int32).toInt := fun z => c_190 (Int32.toInt_inj.mp z)
                        have y_m1 : (-1 : Int32).toInt = -1 := by decide
                        have y_0 : (0 : Int32).toInt = 0 := by decide
                        have y_60 : (60 : Int32).toInt = 60 := by decide
                        have y_61 : (61 : Int32).toInt = 61 := by decide
                        have y_62 : (62 : Int32).toInt = 62 := by decide
                        have y_1 : (1 : Int32).toInt = 1 := by decide
                        have t_x_181 : x_181.toInt = (vy_2 : Int32).toInt + (1 : Int32).toInt := by rw [ex_181]; exact add_toInt (by omega) (by omega)
                        omega
                      have hr_203 : (vy_2 : Int32).toInt ≤ 400 := by
                        have z_1 := Int32.le_iff_toInt_le.mp c_9
                        have z_2 := congrArg Int32.toInt c_10
                        have z_3 := congrArg Int32.toInt c_115
                        have z_4 := congrArg Int32.toInt c_122
                        have z_5 : ¬ (r_106 : Int32).toInt = ((-1) : Int32).toInt := fun z => c_123 (Int32.toInt_inj.mp z)
                        have z_6 : ¬ (r_106 : Int32).toInt = (60 : Int32).toInt := fun z => c_131 (Int32.toInt_inj.mp z)
                        have z_7 := congrArg Int32.toInt c_166
                        have z_8 : ¬ (r_187 : Int32).toInt = (61 : Int32).toInt := fun z => c_190 (Int32.toInt_inj.mp z)
                        have y_m1 : (-1 : Int32).toInt = -1 := by decide
                        have y_0 : (0 : Int32).toInt = 0 := by decide
                        have y_60 : (60 : Int32).toInt = 60 := by decide
                        have y_61 : (61 : Int32).toInt = 61 := by decide
                        have y_62 : (62 : Int32).toInt = 62 := by decide
                        have y_1 : (1 : Int32).toInt = 1 := by decide
                        have t_x_181 : x_181.toInt = (vy_2 : Int32).toInt + (1 : Int32).toInt := by rw [ex_181]; exact add_toInt (by omega) (by omega)
                        omega
                      exact retV hx hb hr hlk hP hD hS (vy_2, x_191, r_106) ⟨rfl, ha_192, (TpB.at h_tb hr_202 h_tape.2.2.2.2.1 pf_7 hr_203 h2_194 (te_1 hr_195 he_107.1 hr_199 hr_200 hr_201 h2_198 hi_196) he_107.1)⟩ [0, 1] rfl rfl dX10_step_242 (Nat.le_of_ble_eq_true rfl) (Nat.le_of_ble_eq_true rfl) rfl
                    · skip
                      refine lv_aload_n hx hb dX10_step_224 rfl (lv_at hl 1 rfl) ?_
                      refine gf_X10_19 hx hb hts hown hK hP 0 rfl rfl dX10_step_225 ?_
                      refine lv_iconst (v := 2) hx hb dX10_step_228 (by decide) ?_
                      refine lv_iadd hx hb dX10_step_229 ?_
                      refine lv_topi (fun x_204 ex_204 => ?_)
                      refine lv_goto (tgt := 239) hx hb dX10_step_230 (by decide) ?_
                      refine pf_X10_22 hx hb hts hown hK hP hD hS 0 rfl (Nat.le_of_ble_eq_true rfl) rfl rfl dX10_step_239 (fun H locs hP₀ hD₀ hS₀ => ?_)
                      replace hP : va_P D classes [((Ta 0), .inr (10, [.ref (Ta 1), .int (Tv 0), .int vy_2, .int x_204, .int r_106, .int (Tv 4)])), ((Ta 1), .inl (tc 0, 400, .inl (Tf 1)))] H := hP₀
                      replace hD : va_D A [((Ta 0), .inr (10, [.ref (Ta 1), .int (Tv 0), .int vy_2, .int x_204, .int r_106, .int (Tv 4)])), ((Ta 1), .inl (tc 0, 400, .inl (Tf 1)))] := hD₀
                      replace hS := hS₀
                      clear hP₀ hD₀ hS₀
                      have ha_205 : 0 ≤ ((Tv 0) : Int32).toInt ∧ ((Tv 0) : Int32).toInt ≤ 400 ∧ 0 ≤ (vy_2 : Int32).toInt ∧ (vy_2 : Int32).toInt ≤ 400 ∧ 0 ≤ (x_204 : Int32).toInt ∧ (x_204 : Int32).toInt ≤ 400 := by
                        have z_1 := Int32.le_iff_toInt_le.mp c_9
                        have z_2 := congrArg Int32.toInt c_10
                        have z_3 := congrArg Int32.toInt c_115
                        have z_4 := congrArg Int32.toInt c_122
                        have z_5 : ¬ (r_106 : Int32).toInt = ((-1) : Int32).toInt := fun z => c_123 (Int32.toInt_inj.mp z)
                        have z_6 : ¬ (r_106 : Int32).toInt = (60 : Int32).toInt := fun z => c_131 (Int32.toInt_inj.mp z)
                        have z_7 := congrArg Int32.toInt c_166
                        have z_8 := congrArg Int32.toInt c_190
                        have y_m1 : (-1 : Int32).toInt = -1 := by decide
                        have y_0 : (0 : Int32).toInt = 0 := by decide
                        have y_60 : (60 : Int32).toInt = 60 := by decide
                        have y_61 : (61 : Int32).toInt = 61 := by decide
                        have y_62 : (62 : Int32).toInt = 62 := by decide
                        have y_1 : (1 : Int32).toInt = 1 := by decide
                        have y_2 : (2 : Int32).toInt = 2 := by decide
                        have t_x_204 : x_204.toInt = (vy_2 : Int32).toInt + (2 : Int32).toInt := by rw [ex_204]; exact add_toInt (by omega) (by omega)
                        have t_x_181 : x_181.toInt = (vy_2 : Int32).toInt + (1 : Int32).toInt := by rw [ex_181]; exact add_toInt (by omega) (by omega)
                        omega
                      have rg_206 := cB_rg (n := (Tv 0)) h_by (vy_2 : Int32).toInt.toNat
                      have h2_207 : ¬ cB (Tf 1) (Tv 0) (vy_2 : Int32).toInt.toNat = 32 := by
                        have z_1 := Int32.le_iff_toInt_le.mp c_9
                        have z_2 := congrArg Int32.toInt c_10
                        have z_3 := congrArg Int32.toInt c_115
                        have z_4 := congrArg Int32.toInt c_122
                        have z_5 : ¬ (r_106 : Int32).toInt = ((-1) : Int32).toInt := fun z => c_123 (Int32.toInt_inj.mp z)
                        have z_6 : ¬ (r_106 : Int32).toInt = (60 : Int32).toInt := fun z => c_131 (Int32.toInt_inj.mp z)
                        have z_7 := congrArg Int32.toInt c_166
                        have z_8 := congrArg Int32.toInt c_190
                        have y_m1 : (-1 : Int32).toInt = -1 := by decide
                        have y_0 : (0 : Int32).toInt = 0 := by decide
                        have y_60 : (60 : Int32).toInt = 60 := by decide
                        have y_61 : (61 : Int32).toInt = 61 := by decide
                        have y_62 : (62 : Int32).toInt = 62 := by decide
                        have y_1 : (1 : Int32).toInt = 1 := by decide
                        have t_x_181 : x_181.toInt = (vy_2 : Int32).toInt + (1 : Int32).toInt := by rw [ex_181]; exact add_toInt (by omega) (by omega)
                        omega
                      have hr_208 : 0 ≤ (vy_2 : Int32).toInt := by
                        have z_1 := Int32.le_iff_toInt_le.mp c_9
                        have z_2 := congrArg Int32.toInt c_10
                        have z_3 := congrArg Int32.toInt c_115
                        have z_4 := congrArg Int32.toInt c_122
                        have z_5 : ¬ (r_106 : Int32).toInt = ((-1) : Int32).toInt := fun z => c_123 (Int32.toInt_inj.mp z)
                        have z_6 : ¬ (r_106 : Int32).toInt = (60 : Int32).toInt := fun z => c_131 (Int32.toInt_inj.mp z)
                        have z_7 := congrArg Int32.toInt c_166
                        have z_8 := congrArg Int32.toInt c_190
                        have y_m1 : (-1 : Int32).toInt = -1 := by decide
                        have y_0 : (0 : Int32).toInt = 0 := by decide
                        have y_60 : (60 : Int32).toInt = 60 := by decide
                        have y_61 : (61 : Int32).toInt = 61 := by decide
                        have y_62 : (62 : Int32).toInt = 62 := by decide
                        have y_1 : (1 : Int32).toInt = 1 := by decide
                        have t_x_181 : x_181.toInt = (vy_2 : Int32).toInt + (1 : Int32).toInt := by rw [ex_181]; exact add_toInt (by omega) (by omega)
                        omega
                      have hi_209 : (x_204 : Int32).toInt = (vy_2 : Int32).toInt + 2 := by
                        have z_1 := Int32.le_iff_toInt_le.mp c_9
                        have z_2 := congrArg Int32.toInt c_10
                        have z_3 := congrArg Int32.toInt c_115
                        have z_4 := congrArg Int32.toInt c_122
                        have z_5 : ¬ (r_106 : Int32).toInt = ((-1) : Int32).toInt := fun z => c_123 (Int32.toInt_inj.mp z)
                        have z_6 : ¬ (r_106 : Int32).toInt = (60 : Int32).toInt := fun z => c_131 (Int32.toInt_inj.mp z)
                        have z_7 := congrArg Int32.toInt c_166
                        have z_8 := congrArg Int32.toInt c_190
                        have y_m1 : (-1 : Int32).toInt = -1 := by decide
                        have y_0 : (0 : Int32).toInt = 0 := by decide
                        have y_60 : (60 : Int32).toInt = 60 := by decide
                        have y_61 : (61 : Int32).toInt = 61 := by decide
                        have y_62 : (62 : Int32).toInt = 62 := by decide
                        have y_1 : (1 : Int32).toInt = 1 := by decide
                        have y_2 : (2 : Int32).toInt = 2 := by decide
                        have t_x_204 : x_204.toInt = (vy_2 : Int32).toInt + (2 : Int32).toInt := by rw [ex_204]; exact add_toInt (by omega) (by omega)
                        have t_x_181 : x_181.toInt = (vy_2 : Int32).toInt + (1 : Int32).toInt := by rw [ex_181]; exact add_toInt (by omega) (by omega)
                        omega
                      have hx_210 : (x_181 : Int32).toInt.toNat = (vy_2 : Int32).toInt.toNat + 1 := by
                        have z_1 := Int32.le_iff_toInt_le.mp c_9
                        have z_2 := congrArg Int32.toInt c_10
                        have z_3 := congrArg Int32.toInt c_115
                        have z_4 := congrArg Int32.toInt c_122
                        have z_5 : ¬ (r_106 : Int32).toInt = ((-1) : Int32).toInt := fun z => c_123 (Int32.toInt_inj.mp z)
                        have z_6 : ¬ (r_106 : Int32).toInt = (60 : Int32).toInt := fun z => c_131 (Int32.toInt_inj.mp z)
                        have z_7 := congrArg Int32.toInt c_166
                        have z_8 := congrArg Int32.toInt c_190
                        have y_m1 : (-1 : Int32).toInt = -1 := by decide
                        have y_0 : (0 : Int32).toInt = 0 := by decide
                        have y_60 : (60 : Int32).toInt = 60 := by decide
                        have y_61 : (61 : Int32).toInt = 61 := by decide
                        have y_62 : (62 : Int32).toInt = 62 := by decide
                        have y_1 : (1 : Int32).toInt = 1 := by decide
                        have t_x_181 : x_181.toInt = (vy_2 : Int32).toInt + (1 : Int32).toInt := by rw [ex_181]; exact add_toInt (by omega) (by omega)
                        omega
                      rw [hx_210] at he_188
                      have h2_211 : (((r_106 : Int32).toInt = 60 ∨ (r_106 : Int32).toInt = 62) ∧ cB (Tf 1) (Tv 0) ((vy_2 : Int32).toInt.toNat + 1) = 61) := by
                        have z_1 := Int32.le_iff_toInt_le.mp c_9
                        have z_2 := congrArg Int32.toInt c_10
                        have z_3 := congrArg Int32.toInt c_115
                        have z_4 := congrArg Int32.toInt c_122
                        have z_5 : ¬ (r_106 : Int32).toInt = ((-1) : Int32).toInt := fun z => c_123 (Int32.toInt_inj.mp z)
                        have z_6 : ¬ (r_106 : Int32).toInt = (60 : Int32).toInt := fun z => c_131 (Int32.toInt_inj.mp z)
                        have z_7 := congrArg Int32.toInt c_166
                        have z_8 := congrArg Int32.toInt c_190
                        have y_m1 : (-1 : Int32).toInt = -1 := by decide
                        have y_0 : (0 : Int32).toInt = 0 := by decide
                        have y_60 : (60 : Int32).toInt = 60 := by decide
                        have y_61 : (61 : Int32).toInt = 61 := by decide
                        have y_62 : (62 : Int32).toInt = 62 := by decide
                        have y_1 : (1 : Int32).toInt = 1 := by decide
                        have t_x_181 : x_181.toInt = (vy_2 : Int32).toInt + (1 : Int32).toInt := by rw [ex_181]; exact add_toInt (by omega) (by omega)
                        omega
                      have hr_212 : ((Tv 4) : Int32).toInt = 0 := by
                        have z_1 := Int32.le_iff_toInt_le.mp c_9
                        have z_2 := congrArg Int32.toInt c_10
                        have z_3 := congrArg Int32.toInt c_115
                        have z_4 := congrArg Int32.toInt c_122
                        have z_5 : ¬ (r_106 : Int32).toInt = ((-1) : Int32).toInt := fun z => c_123 (Int32.toInt_inj.mp z)
                        have z_6 : ¬ (r_106 : Int32).toInt = (60 : Int32).toInt := fun z => c_131 (Int32.toInt_inj.mp z)
                        have z_7 := congrArg Int32.toInt c_166
                        have z_8 := congrArg Int32.toInt c_190
                        have y_m1 : (-1 : Int32).toInt = -1 := by decide
                        have y_0 : (0 : Int32).toInt = 0 := by decide
                        have y_60 : (60 : Int32).toInt = 60 := by decide
                        have y_61 : (61 : Int32).toInt = 61 := by decide
                        have y_62 : (62 : Int32).toInt = 62 := by decide
                        have y_1 : (1 : Int32).toInt = 1 := by decide
                        have t_x_181 : x_181.toInt = (vy_2 : Int32).toInt + (1 : Int32).toInt := by rw [ex_181]; exact add_toInt (by omega) (by omega)
                        omega
                      have hr_213 : (vy_2 : Int32).toInt ≤ 400 := by
                        have z_1 := Int32.le_iff_toInt_le.mp c_9
                        have z_2 := congrArg Int32.toInt c_10
                        have z_3 := congrArg Int32.toInt c_115
                        have z_4 := congrArg Int32.toInt c_122
                        have z_5 : ¬ (r_106 : Int32).toInt = ((-1) : Int32).toInt := fun z => c_123 (Int32.toInt_inj.mp z)
                        have z_6 : ¬ (r_106 : Int32).toInt = (60 : Int32).toInt := fun z => c_131 (Int32.toInt_inj.mp z)
                        have z_7 := congrArg Int32.toInt c_166
                        have z_8 := congrArg Int32.toInt c_190
                        have y_m1 : (-1 : Int32).toInt = -1 := by decide
                        have y_0 : (0 : Int32).toInt = 0 := by decide
                        have y_60 : (60 : Int32).toInt = 60 := by decide
                        have y_61 : (61 : Int32).toInt = 61 := by decide
                        have y_62 : (62 : Int32).toInt = 62 := by decide
                        have y_1 : (1 : Int32).toInt = 1 := by decide
                        have t_x_181 : x_181.toInt = (vy_2 : Int32).toInt + (1 : Int32).toInt := by rw [ex_181]; exact add_toInt (by omega) (by omega)
                        omega
                      exact retV hx hb hr hlk hP hD hS (vy_2, x_204, r_106) ⟨rfl, ha_205, (TpB.at h_tb hr_212 h_tape.2.2.2.2.1 pf_7 hr_213 h2_207 (te_2 hr_208 he_107.1 h2_211 hi_209) he_107.1)⟩ [0, 1] rfl rfl dX10_step_242 (Nat.le_of_ble_eq_true rfl) (Nat.le_of_ble_eq_true rfl) rfl
            · skip
              have loop_218 : ∀ (n_216 : Nat) (vy_215 : Int32) (H : Heap) (locs : List Loc) (ls : Array Slot), (401 - (vy_215 : Int32).toInt).toNat < n_216 → (0 ≤ (vy_215 : Int32).toInt ∧ (vy_215 : Int32).toInt ≤ 400) → (Rn pz_isD (Tf 1) (Tv 0) vy_2 vy_215) → va_P D classes [((Ta 0), .inr (10, [.ref (Ta 1), .int (Tv 0), .int vy_2, .int vy_215, .int r_106, .int (Tv 4)])), ((Ta 1), .inl (tc 0, 400, .inl (Tf 1)))] H → va_D A [((Ta 0), .inr (10, [.ref (Ta 1), .int (Tv 0), .int vy_2, .int vy_215, .int r_106, .int (Tv 4)])), ((Ta 1), .inl (tc 0, 400, .inl (Tf 1)))] → va_S A s.heap H locs → lv_has ls 2 [(0, .ref (Ta 0))] → W p l e ({ frames := 1, cells := 0, slots := 0, locals := 21 }) s m ([.ref (Ta 0)].toArray) below meth c H locs 0 0 (MQ below (QW (fun (v : Option Value) (u : (Int32) × (Int32) × (Int32)) => match u with | (oo0x1, oo0x2, oo0x3) => v = none ∧ (0 ≤ ((Tv 0) : Int32).toInt ∧ ((Tv 0) : Int32).toInt ≤ 400 ∧ 0 ≤ (oo0x1 : Int32).toInt ∧ (oo0x1 : Int32).toInt ≤ 400 ∧ 0 ≤ (oo0x2 : Int32).toInt ∧ (oo0x2 : Int32).toInt ≤ 400) ∧ (TpR (Tf 1) (Tv 0) (rSK (cB (Tf 1) (Tv 0)) rr) oo0x1 oo0x2 oo0x3 (Tv 4))) (BW D (fun (u : (Int32) × (Int32) × (Int32)) => match u with | (oo0x1, oo0x2, oo0x3) => [((Ta 0), .inr (10, [.ref (Ta 1), .int (Tv 0), .int oo0x1, .int oo0x2, .int oo0x3, .int (Tv 4)])), ((Ta 1), .inl (tc 0, 400, .inl (Tf 1)))]) A) A) ([.ref (Ta 0)].toArray) s 0 0 A) (F0 m 134 ls []) := by
                clear hP hD hS hl
                intro n_216
                induction n_216 with
                | zero =>
                  intro vy_215 H locs ls h1
                  exact absurd h1 (Nat.not_lt_zero _)
                | succ n_216 ih_217 =>
                  intro vy_215 H locs ls hn_221 pf_219 pf_220 hP hD hS hl
                  refine lv_aload_n hx hb dX10_step_134 rfl (lv_at hl 0 rfl) ?_
                  refine gf_X10_22 hx hb hts hown hK hP 0 rfl rfl dX10_step_135 ?_
                  refine lv_aload_n hx hb dX10_step_138 rfl (lv_at hl 0 rfl) ?_
                  refine gf_X10_15 hx hb hts hown hK hP 0 rfl rfl dX10_step_139 ?_
                  refine lv_icmp_ge (tgt := 242) hx hb dX10_step_142 (by decide) (fun c_222 => ?_) (fun c_222 => ?_)
                  · skip
                    have ha_223 : 0 ≤ ((Tv 0) : Int32).toInt ∧ ((Tv 0) : Int32).toInt ≤ 400 ∧ 0 ≤ (vy_2 : Int32).toInt ∧ (vy_2 : Int32).toInt ≤ 400 ∧ 0 ≤ (vy_215 : Int32).toInt ∧ (vy_215 : Int32).toInt ≤ 400 := by
                      have z_1 := Int32.le_iff_toInt_le.mp c_9
                      have z_2 := congrArg Int32.toInt c_10
                      have z_3 := congrArg Int32.toInt c_115
                      have z_4 : ¬ (r_119 : Int32).toInt = (0 : Int32).toInt := fun z => c_122 (Int32.toInt_inj.mp z)
                      have z_5 := Int32.le_iff_toInt_le.mp c_222
                      have y_0 : (0 : Int32).toInt = 0 := by decide
                      omega
                    have rg_224 := cB_rg (n := (Tv 0)) h_by (vy_2 : Int32).toInt.toNat
                    have h2_225 : ¬ cB (Tf 1) (Tv 0) (vy_2 : Int32).toInt.toNat = 32 := by
                      have z_1 := Int32.le_iff_toInt_le.mp c_9
                      have z_2 := congrArg Int32.toInt c_10
                      have z_3 := congrArg Int32.toInt c_115
                      have z_4 : ¬ (r_119 : Int32).toInt = (0 : Int32).toInt := fun z => c_122 (Int32.toInt_inj.mp z)
                      have z_5 := Int32.le_iff_toInt_le.mp c_222
                      have y_0 : (0 : Int32).toInt = 0 := by decide
                      omega
                    have hr_226 : 0 ≤ (vy_2 : Int32).toInt := by
                      have z_1 := Int32.le_iff_toInt_le.mp c_9
                      have z_2 := congrArg Int32.toInt c_10
                      have z_3 := congrArg Int32.toInt c_115
                      have z_4 : ¬ (r_119 : Int32).toInt = (0 : Int32).toInt := fun z => c_122 (Int32.toInt_inj.mp z)
                      have z_5 := Int32.le_iff_toInt_le.mp c_222
                      have y_0 : (0 : Int32).toInt = 0 := by decide
                      omega
                    have rg_227 := cB_rg (n := (Tv 0)) h_by (vy_215 : Int32).toInt.toNat
                    have hn_228 : ¬ (48 ≤ cB (Tf 1) (Tv 0) (vy_215 : Int32).toInt.toNat ∧ cB (Tf 1) (Tv 0) (vy_215 : Int32).toInt.toNat ≤ 57) := by
                      have z_1 := Int32.le_iff_toInt_le.mp c_9
                      have z_2 := congrArg Int32.toInt c_10
                      have z_3 := congrArg Int32.toInt c_115
                      have z_4 : ¬ (r_119 : Int32).toInt = (0 : Int32).toInt := fun z => c_122 (Int32.toInt_inj.mp z)
                      have z_5 := Int32.le_iff_toInt_le.mp c_222
                      have y_0 : (0 : Int32).toInt = 0 := by decide
                      omega
                    have hr_229 : 48 ≤ (r_106 : Int32).toInt ∧ (r_106 : Int32).toInt ≤ 57 := by
                      have z_1 := Int32.le_iff_toInt_le.mp c_9
                      have z_2 := congrArg Int32.toInt c_10
                      have z_3 := congrArg Int32.toInt c_115
                      have z_4 : ¬ (r_119 : Int32).toInt = (0 : Int32).toInt := fun z => c_122 (Int32.toInt_inj.mp z)
                      have z_5 := Int32.le_iff_toInt_le.mp c_222
                      have y_0 : (0 : Int32).toInt = 0 := by decide
                      omega
                    have hr_230 : (vy_215 : Int32).toInt ≤ 400 := by
                      have z_1 := Int32.le_iff_toInt_le.mp c_9
                      have z_2 := congrArg Int32.toInt c_10
                      have z_3 := congrArg Int32.toInt c_115
                      have z_4 : ¬ (r_119 : Int32).toInt = (0 : Int32).toInt := fun z => c_122 (Int32.toInt_inj.mp z)
                      have z_5 := Int32.le_iff_toInt_le.mp c_222
                      have y_0 : (0 : Int32).toInt = 0 := by decide
                      omega
                    have hr_231 : ((Tv 4) : Int32).toInt = 0 := by
                      have z_1 := Int32.le_iff_toInt_le.mp c_9
                      have z_2 := congrArg Int32.toInt c_10
                      have z_3 := congrArg Int32.toInt c_115
                      have z_4 : ¬ (r_119 : Int32).toInt = (0 : Int32).toInt := fun z => c_122 (Int32.toInt_inj.mp z)
                      have z_5 := Int32.le_iff_toInt_le.mp c_222
                      have y_0 : (0 : Int32).toInt = 0 := by decide
                      omega
                    have hr_232 : (vy_2 : Int32).toInt ≤ 400 := by
                      have z_1 := Int32.le_iff_toInt_le.mp c_9
                      have z_2 := congrArg Int32.toInt c_10
                      have z_3 := congrArg Int32.toInt c_115
                      have z_4 : ¬ (r_119 : Int32).toInt = (0 : Int32).toInt := fun z => c_122 (Int32.toInt_inj.mp z)
                      have z_5 := Int32.le_iff_toInt_le.mp c_222
                      have y_0 : (0 : Int32).toInt = 0 := by decide
                      omega
                    exact retV hx hb hr hlk hP hD hS (vy_2, vy_215, r_106) ⟨rfl, ha_223, (TpB.at h_tb hr_231 h_tape.2.2.2.2.1 pf_7 hr_232 h2_225 (te_D hr_226 he_107.1 hr_229 pf_220 hr_230 hn_228) he_107.1)⟩ [0, 1] rfl rfl dX10_step_242 (Nat.le_of_ble_eq_true rfl) (Nat.le_of_ble_eq_true rfl) rfl
                  · skip
                    refine lv_aload_n hx hb dX10_step_145 rfl (lv_at hl 0 rfl) ?_
                    refine lv_aload_n hx hb dX10_step_146 rfl (lv_at hl 0 rfl) ?_
                    refine gf_X10_22 hx hb hts hown hK hP 0 rfl rfl dX10_step_147 ?_
                    have ha_233 : 0 ≤ ((Tv 0) : Int32).toInt ∧ ((Tv 0) : Int32).toInt ≤ 400 ∧ 0 ≤ (vy_2 : Int32).toInt ∧ (vy_2 : Int32).toInt ≤ 400 ∧ 0 ≤ (vy_215 : Int32).toInt ∧ (vy_215 : Int32).toInt ≤ 400 := by
                      have z_1 := Int32.le_iff_toInt_le.mp c_9
                      have z_2 := congrArg Int32.toInt c_10
                      have z_3 := congrArg Int32.toInt c_115
                      have z_4 : ¬ (r_119 : Int32).toInt = (0 : Int32).toInt := fun z => c_122 (Int32.toInt_inj.mp z)
                      have z_5 := Int32.lt_iff_toInt_lt.mp (Int32.not_le.mp c_222)
                      have y_0 : (0 : Int32).toInt = 0 := by decide
                      omega
                    have ha_234 : 0 ≤ vy_215.toInt := by
                      have z_1 := Int32.le_iff_toInt_le.mp c_9
                      have z_2 := congrArg Int32.toInt c_10
                      have z_3 := congrArg Int32.toInt c_115
                      have z_4 : ¬ (r_119 : Int32).toInt = (0 : Int32).toInt := fun z => c_122 (Int32.toInt_inj.mp z)
                      have z_5 := Int32.lt_iff_toInt_lt.mp (Int32.not_le.mp c_222)
                      have y_0 : (0 : Int32).toInt = 0 := by decide
                      omega
                    refine cV (a := (Ta 0)) (As := [.int vy_215]) (rest := []) (wr := []) ⟨hx, hb, hml, hown, hts⟩ hK hX hA (cu_fX10_byteAt l D tc sk (Ta 0) (Ta 1) (Tv 0) vy_2 vy_215 r_106 (Tv 4) (Tf 1) vy_215 ha_233 h_by ha_234) k_482 k_479 k_481 k_0 k_96 pl_X10_byteAt ⟨Nat.le_of_ble_eq_true rfl, Nat.le_of_ble_eq_true rfl⟩ rfl rfl (va_recv hK hP (ci := 10) (q0 := 0) rfl rfl) hP hD hS [0, 1] [] rfl rfl rfl rfl rfl (by decide) rfl hl.1 rfl (Nat.le_of_ble_eq_true rfl) dX10_step_150 ⟨Nat.le_of_ble_eq_true rfl, Nat.le_of_ble_eq_true rfl⟩ (fun v_235 u_236 H locs hv_237 hP₀ hD₀ hS₀ => ?_)
                    obtain ⟨r_238, rfl, he_239⟩ := hv_237
                    have he_239 : (r_238.toInt = cB (Tf 1) (Tv 0) vy_215.toInt.toNat ∧ (((Tv 0).toInt ≤ vy_215.toInt ∧ r_238.toInt = -1) ∨ (vy_215.toInt < (Tv 0).toInt ∧ 0 ≤ r_238.toInt ∧ r_238.toInt ≤ 255))) := he_239
                    refine W.eq (g2 := F0 m 153 ls [.int r_238]) rfl ?_
                    replace hP : va_P D classes [((Ta 0), .inr (10, [.ref (Ta 1), .int (Tv 0), .int vy_2, .int vy_215, .int r_106, .int (Tv 4)])), ((Ta 1), .inl (tc 0, 400, .inl (Tf 1)))] H := hP₀
                    replace hD : va_D A [((Ta 0), .inr (10, [.ref (Ta 1), .int (Tv 0), .int vy_2, .int vy_215, .int r_106, .int (Tv 4)])), ((Ta 1), .inl (tc 0, 400, .inl (Tf 1)))] := hD₀
                    replace hS := hS₀
                    clear hP₀ hD₀ hS₀
                    refine cS (As := [.int r_238]) (rest := []) (wr := [((Ta 0), .inr (10, [.ref (Ta 1), .int (Tv 0), .int vy_2, .int vy_215, .int r_106, .int (Tv 4)])), ((Ta 1), .inl (tc 0, 400, .inl (Tf 1)))]) ⟨hx, hb, hml, hown, hts⟩ hK hX hA (ct_fX10_isDigit l D tc sk r_238) k_488 k_486 k_487 k_96 pl_X10_isDigit ⟨Nat.le_of_ble_eq_true rfl, Nat.le_of_ble_eq_true rfl⟩ rfl rfl  hP hD hS [] [0, 1] rfl rfl rfl rfl rfl (by decide) rfl hl.1 rfl (Nat.le_of_ble_eq_true rfl) dX10_step_153 ⟨Nat.le_of_ble_eq_true rfl, Nat.le_of_ble_eq_true rfl⟩ (fun v_241 u_242 H locs hv_243 hP₀ hD₀ hS₀ => ?_)
                    obtain ⟨r_244, rfl, he_245⟩ := hv_243
                    have he_245 : ((r_244.toInt = 1 ∧ 48 ≤ r_238.toInt ∧ r_238.toInt ≤ 57) ∨ (r_244.toInt = 0 ∧ (r_238.toInt < 48 ∨ 57 < r_238.toInt))) := he_245
                    refine W.eq (g2 := F0 m 156 ls [.int r_244]) rfl ?_
                    replace hP : va_P D classes [((Ta 0), .inr (10, [.ref (Ta 1), .int (Tv 0), .int vy_2, .int vy_215, .int r_106, .int (Tv 4)])), ((Ta 1), .inl (tc 0, 400, .inl (Tf 1)))] H := hP₀
                    replace hD : va_D A [((Ta 0), .inr (10, [.ref (Ta 1), .int (Tv 0), .int vy_2, .int vy_215, .int r_106, .int (Tv 4)])), ((Ta 1), .inl (tc 0, 400, .inl (Tf 1)))] := hD₀
                    replace hS := hS₀
                    clear hP₀ hD₀ hS₀
                    refine lv_if_eq (tgt := 242) hx hb dX10_step_156 (by decide) (fun c_247 => ?_) (fun c_247 => ?_)
                    · skip
                      have ha_248 : 0 ≤ ((Tv 0) : Int32).toInt ∧ ((Tv 0) : Int32).toInt ≤ 400 ∧ 0 ≤ (vy_2 : Int32).toInt ∧ (vy_2 : Int32).toInt ≤ 400 ∧ 0 ≤ (vy_215 : Int32).toInt ∧ (vy_215 : Int32).toInt ≤ 400 := by
                        have z_1 := Int32.le_iff_toInt_le.mp c_9
                        have z_2 := congrArg Int32.toInt c_10
                        have z_3 := congrArg Int32.toInt c_115
                        have z_4 : ¬ (r_119 : Int32).toInt = (0 : Int32).toInt := fun z => c_122 (Int32.toInt_inj.mp z)
                        have z_5 := Int32.lt_iff_toInt_lt.mp (Int32.not_le.mp c_222)
                        have z_6 := congrArg Int32.toInt c_247
                        have y_0 : (0 : Int32).toInt = 0 := by decide
                        omega
                      have rg_249 := cB_rg (n := (Tv 0)) h_by (vy_2 : Int32).toInt.toNat
                      have h2_250 : ¬ cB (Tf 1) (Tv 0) (vy_2 : Int32).toInt.toNat = 32 := by
                        have z_1 := Int32.le_iff_toInt_le.mp c_9
                        have z_2 := congrArg Int32.toInt c_10
                        have z_3 := congrArg Int32.toInt c_115
                        have z_4 : ¬ (r_119 : Int32).toInt = (0 : Int32).toInt := fun z => c_122 (Int32.toInt_inj.mp z)
                        have z_5 := Int32.lt_iff_toInt_lt.mp (Int32.not_le.mp c_222)
                        have z_6 := congrArg Int32.toInt c_247
                        have y_0 : (0 : Int32).toInt = 0 := by decide
                        omega
                      have hr_251 : 0 ≤ (vy_2 : Int32).toInt := by
                        have z_1 := Int32.le_iff_toInt_le.mp c_9
                        have z_2 := congrArg Int32.toInt c_10
                        have z_3 := congrArg Int32.toInt c_115
                        have z_4 : ¬ (r_119 : Int32).toInt = (0 : Int32).toInt := fun z => c_122 (Int32.toInt_inj.mp z)
                        have z_5 := Int32.lt_iff_toInt_lt.mp (Int32.not_le.mp c_222)
                        have z_6 := congrArg Int32.toInt c_247
                        have y_0 : (0 : Int32).toInt = 0 := by decide
                        omega
                      have rg_252 := cB_rg (n := (Tv 0)) h_by (vy_215 : Int32).toInt.toNat
                      have hn_253 : ¬ (48 ≤ cB (Tf 1) (Tv 0) (vy_215 : Int32).toInt.toNat ∧ cB (Tf 1) (Tv 0) (vy_215 : Int32).toInt.toNat ≤ 57) := by
                        have z_1 := Int32.le_iff_toInt_le.mp c_9
                        have z_2 := congrArg Int32.toInt c_10
                        have z_3 := congrArg Int32.toInt c_115
                        have z_4 : ¬ (r_119 : Int32).toInt = (0 : Int32).toInt := fun z => c_122 (Int32.toInt_inj.mp z)
                        have z_5 := Int32.lt_iff_toInt_lt.mp (Int32.not_le.mp c_222)
                        have z_6 := congrArg Int32.toInt c_247
                        have y_0 : (0 : Int32).toInt = 0 := by decide
                        omega
                      have hr_254 : 48 ≤ (r_106 : Int32).toInt ∧ (r_106 : Int32).toInt ≤ 57 := by
                        have z_1 := Int32.le_iff_toInt_le.mp c_9
                        have z_2 := congrArg Int32.toInt c_10
                        have z_3 := congrArg Int32.toInt c_115
                        have z_4 : ¬ (r_119 : Int32).toInt = (0 : Int32).toInt := fun z => c_122 (Int32.toInt_inj.mp z)
                        have z_5 := Int32.lt_iff_toInt_lt.mp (Int32.not_le.mp c_222)
                        have z_6 := congrArg Int32.toInt c_247
                        have y_0 : (0 : Int32).toInt = 0 := by decide
                        omega
                      have hr_255 : (vy_215 : Int32).toInt ≤ 400 := by
                        have z_1 := Int32.le_iff_toInt_le.mp c_9
                        have z_2 := congrArg Int32.toInt c_10
                        have z_3 := congrArg Int32.toInt c_115
                        have z_4 : ¬ (r_119 : Int32).toInt = (0 : Int32).toInt := fun z => c_122 (Int32.toInt_inj.mp z)
                        have z_5 := Int32.lt_iff_toInt_lt.mp (Int32.not_le.mp c_222)
                        have z_6 := congrArg Int32.toInt c_247
                        have y_0 : (0 : Int32).toInt = 0 := by decide
                        omega
                      have hr_256 : ((Tv 4) : Int32).toInt = 0 := by
                        have z_1 := Int32.le_iff_toInt_le.mp c_9
                        have z_2 := congrArg Int32.toInt c_10
                        have z_3 := congrArg Int32.toInt c_115
                        have z_4 : ¬ (r_119 : Int32).toInt = (0 : Int32).toInt := fun z => c_122 (Int32.toInt_inj.mp z)
                        have z_5 := Int32.lt_iff_toInt_lt.mp (Int32.not_le.mp c_222)
                        have z_6 := congrArg Int32.toInt c_247
                        have y_0 : (0 : Int32).toInt = 0 := by decide
                        omega
                      have hr_257 : (vy_2 : Int32).toInt ≤ 400 := by
                        have z_1 := Int32.le_iff_toInt_le.mp c_9
                        have z_2 := congrArg Int32.toInt c_10
                        have z_3 := congrArg Int32.toInt c_115
                        have z_4 : ¬ (r_119 : Int32).toInt = (0 : Int32).toInt := fun z => c_122 (Int32.toInt_inj.mp z)
                        have z_5 := Int32.lt_iff_toInt_lt.mp (Int32.not_le.mp c_222)
                        have z_6 := congrArg Int32.toInt c_247
                        have y_0 : (0 : Int32).toInt = 0 := by decide
                        omega
                      exact retV hx hb hr hlk hP hD hS (vy_2, vy_215, r_106) ⟨rfl, ha_248, (TpB.at h_tb hr_256 h_tape.2.2.2.2.1 pf_7 hr_257 h2_250 (te_D hr_251 he_107.1 hr_254 pf_220 hr_255 hn_253) he_107.1)⟩ [0, 1] rfl rfl dX10_step_242 (Nat.le_of_ble_eq_true rfl) (Nat.le_of_ble_eq_true rfl) rfl
                    · skip
                      refine lv_aload_n hx hb dX10_step_159 rfl (lv_at hl 0 rfl) ?_
                      refine lv_dup hx hb dX10_step_160 rfl ?_
                      refine gf_X10_22 hx hb hts hown hK hP 0 rfl rfl dX10_step_161 ?_
                      refine lv_iconst (v := 1) hx hb dX10_step_164 (by decide) ?_
                      refine lv_iadd hx hb dX10_step_165 ?_
                      refine lv_topi (fun x_258 ex_258 => ?_)
                      refine pf_X10_22 hx hb hts hown hK hP hD hS 0 rfl (Nat.le_of_ble_eq_true rfl) rfl rfl dX10_step_166 (fun H locs hP₀ hD₀ hS₀ => ?_)
                      replace hP : va_P D classes [((Ta 0), .inr (10, [.ref (Ta 1), .int (Tv 0), .int vy_2, .int x_258, .int r_106, .int (Tv 4)])), ((Ta 1), .inl (tc 0, 400, .inl (Tf 1)))] H := hP₀
                      replace hD : va_D A [((Ta 0), .inr (10, [.ref (Ta 1), .int (Tv 0), .int vy_2, .int x_258, .int r_106, .int (Tv 4)])), ((Ta 1), .inl (tc 0, 400, .inl (Tf 1)))] := hD₀
                      replace hS := hS₀
                      clear hP₀ hD₀ hS₀
                      refine lv_goto (tgt := 134) hx hb dX10_step_169 (by decide) ?_
                      have hb_259 : 401 - (x_258 : Int32).toInt < 401 - (vy_215 : Int32).toInt ∧ 1 ≤ 401 - (vy_215 : Int32).toInt := by
                        have z_1 := Int32.le_iff_toInt_le.mp c_9
                        have z_2 := congrArg Int32.toInt c_10
                        have z_3 := congrArg Int32.toInt c_115
                        have z_4 : ¬ (r_119 : Int32).toInt = (0 : Int32).toInt := fun z => c_122 (Int32.toInt_inj.mp z)
                        have z_5 := Int32.lt_iff_toInt_lt.mp (Int32.not_le.mp c_222)
                        have z_6 : ¬ (r_244 : Int32).toInt = (0 : Int32).toInt := fun z => c_247 (Int32.toInt_inj.mp z)
                        have y_0 : (0 : Int32).toInt = 0 := by decide
                        have y_1 : (1 : Int32).toInt = 1 := by decide
                        have t_x_258 : x_258.toInt = (vy_215 : Int32).toInt + (1 : Int32).toInt := by rw [ex_258]; exact add_toInt (by omega) (by omega)
                        omega
                      have ha_260 : 0 ≤ (x_258 : Int32).toInt ∧ (x_258 : Int32).toInt ≤ 400 := by
                        have z_1 := Int32.le_iff_toInt_le.mp c_9
                        have z_2 := congrArg Int32.toInt c_10
                        have z_3 := congrArg Int32.toInt c_115
                        have z_4 : ¬ (r_119 : Int32).toInt = (0 : Int32).toInt := fun z => c_122 (Int32.toInt_inj.mp z)
                        have z_5 := Int32.lt_iff_toInt_lt.mp (Int32.not_le.mp c_222)
                        have z_6 : ¬ (r_244 : Int32).toInt = (0 : Int32).toInt := fun z => c_247 (Int32.toInt_inj.mp z)
                        have y_0 : (0 : Int32).toInt = 0 := by decide
                        have y_1 : (1 : Int32).toInt = 1 := by decide
                        have t_x_258 : x_258.toInt = (vy_215 : Int32).toInt + (1 : Int32).toInt := by rw [ex_258]; exact add_toInt (by omega) (by omega)
                        omega
                      have hr_261 : 0 ≤ (vy_215 : Int32).toInt := by
                        have z_1 := Int32.le_iff_toInt_le.mp c_9
                        have z_2 := congrArg Int32.toInt c_10
                        have z_3 := congrArg Int32.toInt c_115
                        have z_4 : ¬ (r_119 : Int32).toInt = (0 : Int32).toInt := fun z => c_122 (Int32.toInt_inj.mp z)
                        have z_5 := Int32.lt_iff_toInt_lt.mp (Int32.not_le.mp c_222)
                        have z_6 : ¬ (r_244 : Int32).toInt = (0 : Int32).toInt := fun z => c_247 (Int32.toInt_inj.mp z)
                        have y_0 : (0 : Int32).toInt = 0 := by decide
                        omega
                      have hr_262 : 48 ≤ (r_238 : Int32).toInt ∧ (r_238 : Int32).toInt ≤ 57 := by
                        have z_1 := Int32.le_iff_toInt_le.mp c_9
                        have z_2 := congrArg Int32.toInt c_10
                        have z_3 := congrArg Int32.toInt c_115
                        have z_4 : ¬ (r_119 : Int32).toInt = (0 : Int32).toInt := fun z => c_122 (Int32.toInt_inj.mp z)
                        have z_5 := Int32.lt_iff_toInt_lt.mp (Int32.not_le.mp c_222)
                        have z_6 : ¬ (r_244 : Int32).toInt = (0 : Int32).toInt := fun z => c_247 (Int32.toInt_inj.mp z)
                        have y_0 : (0 : Int32).toInt = 0 := by decide
                        omega
                      have hi_263 : (x_258 : Int32).toInt = (vy_215 : Int32).toInt + 1 := by
                        have z_1 := Int32.le_iff_toInt_le.mp c_9
                        have z_2 := congrArg Int32.toInt c_10
                        have z_3 := congrArg Int32.toInt c_115
                        have z_4 : ¬ (r_119 : Int32).toInt = (0 : Int32).toInt := fun z => c_122 (Int32.toInt_inj.mp z)
                        have z_5 := Int32.lt_iff_toInt_lt.mp (Int32.not_le.mp c_222)
                        have z_6 : ¬ (r_244 : Int32).toInt = (0 : Int32).toInt := fun z => c_247 (Int32.toInt_inj.mp z)
                        have y_0 : (0 : Int32).toInt = 0 := by decide
                        have y_1 : (1 : Int32).toInt = 1 := by decide
                        have t_x_258 : x_258.toInt = (vy_215 : Int32).toInt + (1 : Int32).toInt := by rw [ex_258]; exact add_toInt (by omega) (by omega)
                        omega
                      exact ih_217 x_258 _ _ _ (by omega) ha_260 (Rn.st pf_220 hr_261 he_239.1 (decide_eq_true hr_262) hi_263) (hP.sub [0, 1] rfl) (hD.sub [0, 1] rfl rfl) hS (lv_sub hl [0] rfl)
              exact loop_218 _ vy_2 _ _ _ (Nat.lt_succ_self _) pf_6 (Rn.rf) hP hD hS hl
          · skip
            have loop_268 : ∀ (n_266 : Nat) (vy_265 : Int32) (H : Heap) (locs : List Loc) (ls : Array Slot), (401 - (vy_265 : Int32).toInt).toNat < n_266 → (0 ≤ (vy_265 : Int32).toInt ∧ (vy_265 : Int32).toInt ≤ 400) → (Rn pz_isL (Tf 1) (Tv 0) vy_2 vy_265) → va_P D classes [((Ta 0), .inr (10, [.ref (Ta 1), .int (Tv 0), .int vy_2, .int vy_265, .int r_106, .int (Tv 4)])), ((Ta 1), .inl (tc 0, 400, .inl (Tf 1)))] H → va_D A [((Ta 0), .inr (10, [.ref (Ta 1), .int (Tv 0), .int vy_2, .int vy_265, .int r_106, .int (Tv 4)])), ((Ta 1), .inl (tc 0, 400, .inl (Tf 1)))] → va_S A s.heap H locs → lv_has ls 2 [(0, .ref (Ta 0))] → W p l e ({ frames := 1, cells := 0, slots := 0, locals := 21 }) s m ([.ref (Ta 0)].toArray) below meth c H locs 0 0 (MQ below (QW (fun (v : Option Value) (u : (Int32) × (Int32) × (Int32)) => match u with | (oo0x1, oo0x2, oo0x3) => v = none ∧ (0 ≤ ((Tv 0) : Int32).toInt ∧ ((Tv 0) : Int32).toInt ≤ 400 ∧ 0 ≤ (oo0x1 : Int32).toInt ∧ (oo0x1 : Int32).toInt ≤ 400 ∧ 0 ≤ (oo0x2 : Int32).toInt ∧ (oo0x2 : Int32).toInt ≤ 400) ∧ (TpR (Tf 1) (Tv 0) (rSK (cB (Tf 1) (Tv 0)) rr) oo0x1 oo0x2 oo0x3 (Tv 4))) (BW D (fun (u : (Int32) × (Int32) × (Int32)) => match u with | (oo0x1, oo0x2, oo0x3) => [((Ta 0), .inr (10, [.ref (Ta 1), .int (Tv 0), .int oo0x1, .int oo0x2, .int oo0x3, .int (Tv 4)])), ((Ta 1), .inl (tc 0, 400, .inl (Tf 1)))]) A) A) ([.ref (Ta 0)].toArray) s 0 0 A) (F0 m 86 ls []) := by
              clear hP hD hS hl
              intro n_266
              induction n_266 with
              | zero =>
                intro vy_265 H locs ls h1
                exact absurd h1 (Nat.not_lt_zero _)
              | succ n_266 ih_267 =>
                intro vy_265 H locs ls hn_271 pf_269 pf_270 hP hD hS hl
                refine lv_aload_n hx hb dX10_step_86 rfl (lv_at hl 0 rfl) ?_
                refine gf_X10_22 hx hb hts hown hK hP 0 rfl rfl dX10_step_87 ?_
                refine lv_aload_n hx hb dX10_step_90 rfl (lv_at hl 0 rfl) ?_
                refine gf_X10_15 hx hb hts hown hK hP 0 rfl rfl dX10_step_91 ?_
                refine lv_icmp_ge (tgt := 242) hx hb dX10_step_94 (by decide) (fun c_272 => ?_) (fun c_272 => ?_)
                · skip
                  have ha_273 : 0 ≤ ((Tv 0) : Int32).toInt ∧ ((Tv 0) : Int32).toInt ≤ 400 ∧ 0 ≤ (vy_2 : Int32).toInt ∧ (vy_2 : Int32).toInt ≤ 400 ∧ 0 ≤ (vy_265 : Int32).toInt ∧ (vy_265 : Int32).toInt ≤ 400 := by
                    have z_1 := Int32.le_iff_toInt_le.mp c_9
                    have z_2 := congrArg Int32.toInt c_10
                    have z_3 : ¬ (r_112 : Int32).toInt = (0 : Int32).toInt := fun z => c_115 (Int32.toInt_inj.mp z)
                    have z_4 := Int32.le_iff_toInt_le.mp c_272
                    have y_0 : (0 : Int32).toInt = 0 := by decide
                    omega
                  have rg_274 := cB_rg (n := (Tv 0)) h_by (vy_2 : Int32).toInt.toNat
                  have h2_275 : ¬ cB (Tf 1) (Tv 0) (vy_2 : Int32).toInt.toNat = 32 := by
                    have z_1 := Int32.le_iff_toInt_le.mp c_9
                    have z_2 := congrArg Int32.toInt c_10
                    have z_3 : ¬ (r_112 : Int32).toInt = (0 : Int32).toInt := fun z => c_115 (Int32.toInt_inj.mp z)
                    have z_4 := Int32.le_iff_toInt_le.mp c_272
                    have y_0 : (0 : Int32).toInt = 0 := by decide
                    omega
                  have hr_276 : 0 ≤ (vy_2 : Int32).toInt := by
                    have z_1 := Int32.le_iff_toInt_le.mp c_9
                    have z_2 := congrArg Int32.toInt c_10
                    have z_3 : ¬ (r_112 : Int32).toInt = (0 : Int32).toInt := fun z => c_115 (Int32.toInt_inj.mp z)
                    have z_4 := Int32.le_iff_toInt_le.mp c_272
                    have y_0 : (0 : Int32).toInt = 0 := by decide
                    omega
                  have rg_277 := cB_rg (n := (Tv 0)) h_by (vy_265 : Int32).toInt.toNat
                  have hn_278 : ¬ (97 ≤ cB (Tf 1) (Tv 0) (vy_265 : Int32).toInt.toNat ∧ cB (Tf 1) (Tv 0) (vy_265 : Int32).toInt.toNat ≤ 122) := by
                    have z_1 := Int32.le_iff_toInt_le.mp c_9
                    have z_2 := congrArg Int32.toInt c_10
                    have z_3 : ¬ (r_112 : Int32).toInt = (0 : Int32).toInt := fun z => c_115 (Int32.toInt_inj.mp z)
                    have z_4 := Int32.le_iff_toInt_le.mp c_272
                    have y_0 : (0 : Int32).toInt = 0 := by decide
                    omega
                  have hr_279 : 97 ≤ (r_106 : Int32).toInt ∧ (r_106 : Int32).toInt ≤ 122 := by
                    have z_1 := Int32.le_iff_toInt_le.mp c_9
                    have z_2 := congrArg Int32.toInt c_10
                    have z_3 : ¬ (r_112 : Int32).toInt = (0 : Int32).toInt := fun z => c_115 (Int32.toInt_inj.mp z)
                    have z_4 := Int32.le_iff_toInt_le.mp c_272
                    have y_0 : (0 : Int32).toInt = 0 := by decide
                    omega
                  have hr_280 : (vy_265 : Int32).toInt ≤ 400 := by
                    have z_1 := Int32.le_iff_toInt_le.mp c_9
                    have z_2 := congrArg Int32.toInt c_10
                    have z_3 : ¬ (r_112 : Int32).toInt = (0 : Int32).toInt := fun z => c_115 (Int32.toInt_inj.mp z)
                    have z_4 := Int32.le_iff_toInt_le.mp c_272
                    have y_0 : (0 : Int32).toInt = 0 := by decide
                    omega
                  have hr_281 : ((Tv 4) : Int32).toInt = 0 := by
                    have z_1 := Int32.le_iff_toInt_le.mp c_9
                    have z_2 := congrArg Int32.toInt c_10
                    have z_3 : ¬ (r_112 : Int32).toInt = (0 : Int32).toInt := fun z => c_115 (Int32.toInt_inj.mp z)
                    have z_4 := Int32.le_iff_toInt_le.mp c_272
                    have y_0 : (0 : Int32).toInt = 0 := by decide
                    omega
                  have hr_282 : (vy_2 : Int32).toInt ≤ 400 := by
                    have z_1 := Int32.le_iff_toInt_le.mp c_9
                    have z_2 := congrArg Int32.toInt c_10
                    have z_3 : ¬ (r_112 : Int32).toInt = (0 : Int32).toInt := fun z => c_115 (Int32.toInt_inj.mp z)
                    have z_4 := Int32.le_iff_toInt_le.mp c_272
                    have y_0 : (0 : Int32).toInt = 0 := by decide
                    omega
                  exact retV hx hb hr hlk hP hD hS (vy_2, vy_265, r_106) ⟨rfl, ha_273, (TpB.at h_tb hr_281 h_tape.2.2.2.2.1 pf_7 hr_282 h2_275 (te_L hr_276 he_107.1 hr_279 pf_270 hr_280 hn_278) he_107.1)⟩ [0, 1] rfl rfl dX10_step_242 (Nat.le_of_ble_eq_true rfl) (Nat.le_of_ble_eq_true rfl) rfl
                · skip
                  refine lv_aload_n hx hb dX10_step_97 rfl (lv_at hl 0 rfl) ?_
                  refine lv_aload_n hx hb dX10_step_98 rfl (lv_at hl 0 rfl) ?_
                  refine gf_X10_22 hx hb hts hown hK hP 0 rfl rfl dX10_step_99 ?_
                  have ha_283 : 0 ≤ ((Tv 0) : Int32).toInt ∧ ((Tv 0) : Int32).toInt ≤ 400 ∧ 0 ≤ (vy_2 : Int32).toInt ∧ (vy_2 : Int32).toInt ≤ 400 ∧ 0 ≤ (vy_265 : Int32).toInt ∧ (vy_265 : Int32).toInt ≤ 400 := by
                    have z_1 := Int32.le_iff_toInt_le.mp c_9
                    have z_2 := congrArg Int32.toInt c_10
                    have z_3 : ¬ (r_112 : Int32).toInt = (0 : Int32).toInt := fun z => c_115 (Int32.toInt_inj.mp z)
                    have z_4 := Int32.lt_iff_toInt_lt.mp (Int32.not_le.mp c_272)
                    have y_0 : (0 : Int32).toInt = 0 := by decide
                    omega
                  have ha_284 : 0 ≤ vy_265.toInt := by
                    have z_1 := Int32.le_iff_toInt_le.mp c_9
                    have z_2 := congrArg Int32.toInt c_10
                    have z_3 : ¬ (r_112 : Int32).toInt = (0 : Int32).toInt := fun z => c_115 (Int32.toInt_inj.mp z)
                    have z_4 := Int32.lt_iff_toInt_lt.mp (Int32.not_le.mp c_272)
                    have y_0 : (0 : Int32).toInt = 0 := by decide
                    omega
                  refine cV (a := (Ta 0)) (As := [.int vy_265]) (rest := []) (wr := []) ⟨hx, hb, hml, hown, hts⟩ hK hX hA (cu_fX10_byteAt l D tc sk (Ta 0) (Ta 1) (Tv 0) vy_2 vy_265 r_106 (Tv 4) (Tf 1) vy_265 ha_283 h_by ha_284) k_482 k_479 k_481 k_0 k_96 pl_X10_byteAt ⟨Nat.le_of_ble_eq_true rfl, Nat.le_of_ble_eq_true rfl⟩ rfl rfl (va_recv hK hP (ci := 10) (q0 := 0) rfl rfl) hP hD hS [0, 1] [] rfl rfl rfl rfl rfl (by decide) rfl hl.1 rfl (Nat.le_of_ble_eq_true rfl) dX10_step_102 ⟨Nat.le_of_ble_eq_true rfl, Nat.le_of_ble_eq_true rfl⟩ (fun v_285 u_286 H locs hv_287 hP₀ hD₀ hS₀ => ?_)
                  obtain ⟨r_288, rfl, he_289⟩ := hv_287
                  have he_289 : (r_288.toInt = cB (Tf 1) (Tv 0) vy_265.toInt.toNat ∧ (((Tv 0).toInt ≤ vy_265.toInt ∧ r_288.toInt = -1) ∨ (vy_265.toInt < (Tv 0).toInt ∧ 0 ≤ r_288.toInt ∧ r_288.toInt ≤ 255))) := he_289
                  refine W.eq (g2 := F0 m 105 ls [.int r_288]) rfl ?_
                  replace hP : va_P D classes [((Ta 0), .inr (10, [.ref (Ta 1), .int (Tv 0), .int vy_2, .int vy_265, .int r_106, .int (Tv 4)])), ((Ta 1), .inl (tc 0, 400, .inl (Tf 1)))] H := hP₀
                  replace hD : va_D A [((Ta 0), .inr (10, [.ref (Ta 1), .int (Tv 0), .int vy_2, .int vy_265, .int r_106, .int (Tv 4)])), ((Ta 1), .inl (tc 0, 400, .inl (Tf 1)))] := hD₀
                  replace hS := hS₀
                  clear hP₀ hD₀ hS₀
                  refine cS (As := [.int r_288]) (rest := []) (wr := [((Ta 0), .inr (10, [.ref (Ta 1), .int (Tv 0), .int vy_2, .int vy_265, .int r_106, .int (Tv 4)])), ((Ta 1), .inl (tc 0, 400, .inl (Tf 1)))]) ⟨hx, hb, hml, hown, hts⟩ hK hX hA (ct_fX10_isLetter l D tc sk r_288) k_485 k_483 k_484 k_96 pl_X10_isLetter ⟨Nat.le_of_ble_eq_true rfl, Nat.le_of_ble_eq_true rfl⟩ rfl rfl  hP hD hS [] [0, 1] rfl rfl rfl rfl rfl (by decide) rfl hl.1 rfl (Nat.le_of_ble_eq_true rfl) dX10_step_105 ⟨Nat.le_of_ble_eq_true rfl, Nat.le_of_ble_eq_true rfl⟩ (fun v_291 u_292 H locs hv_293 hP₀ hD₀ hS₀ => ?_)
                  obtain ⟨r_294, rfl, he_295⟩ := hv_293
                  have he_295 : ((r_294.toInt = 1 ∧ 97 ≤ r_288.toInt ∧ r_288.toInt ≤ 122) ∨ (r_294.toInt = 0 ∧ (r_288.toInt < 97 ∨ 122 < r_288.toInt))) := he_295
                  refine W.eq (g2 := F0 m 108 ls [.int r_294]) rfl ?_
                  replace hP : va_P D classes [((Ta 0), .inr (10, [.ref (Ta 1), .int (Tv 0), .int vy_2, .int vy_265, .int r_106, .int (Tv 4)])), ((Ta 1), .inl (tc 0, 400, .inl (Tf 1)))] H := hP₀
                  replace hD : va_D A [((Ta 0), .inr (10, [.ref (Ta 1), .int (Tv 0), .int vy_2, .int vy_265, .int r_106, .int (Tv 4)])), ((Ta 1), .inl (tc 0, 400, .inl (Tf 1)))] := hD₀
                  replace hS := hS₀
                  clear hP₀ hD₀ hS₀
                  refine lv_if_eq (tgt := 242) hx hb dX10_step_108 (by decide) (fun c_297 => ?_) (fun c_297 => ?_)
                  · skip
                    have ha_298 : 0 ≤ ((Tv 0) : Int32).toInt ∧ ((Tv 0) : Int32).toInt ≤ 400 ∧ 0 ≤ (vy_2 : Int32).toInt ∧ (vy_2 : Int32).toInt ≤ 400 ∧ 0 ≤ (vy_265 : Int32).toInt ∧ (vy_265 : Int32).toInt ≤ 400 := by
                      have z_1 := Int32.le_iff_toInt_le.mp c_9
                      have z_2 := congrArg Int32.toInt c_10
                      have z_3 : ¬ (r_112 : Int32).toInt = (0 : Int32).toInt := fun z => c_115 (Int32.toInt_inj.mp z)
                      have z_4 := Int32.lt_iff_toInt_lt.mp (Int32.not_le.mp c_272)
                      have z_5 := congrArg Int32.toInt c_297
                      have y_0 : (0 : Int32).toInt = 0 := by decide
                      omega
                    have rg_299 := cB_rg (n := (Tv 0)) h_by (vy_2 : Int32).toInt.toNat
                    have h2_300 : ¬ cB (Tf 1) (Tv 0) (vy_2 : Int32).toInt.toNat = 32 := by
                      have z_1 := Int32.le_iff_toInt_le.mp c_9
                      have z_2 := congrArg Int32.toInt c_10
                      have z_3 : ¬ (r_112 : Int32).toInt = (0 : Int32).toInt := fun z => c_115 (Int32.toInt_inj.mp z)
                      have z_4 := Int32.lt_iff_toInt_lt.mp (Int32.not_le.mp c_272)
                      have z_5 := congrArg Int32.toInt c_297
                      have y_0 : (0 : Int32).toInt = 0 := by decide
                      omega
                    have hr_301 : 0 ≤ (vy_2 : Int32).toInt := by
                      have z_1 := Int32.le_iff_toInt_le.mp c_9
                      have z_2 := congrArg Int32.toInt c_10
                      have z_3 : ¬ (r_112 : Int32).toInt = (0 : Int32).toInt := fun z => c_115 (Int32.toInt_inj.mp z)
                      have z_4 := Int32.lt_iff_toInt_lt.mp (Int32.not_le.mp c_272)
                      have z_5 := congrArg Int32.toInt c_297
                      have y_0 : (0 : Int32).toInt = 0 := by decide
                      omega
                    have rg_302 := cB_rg (n := (Tv 0)) h_by (vy_265 : Int32).toInt.toNat
                    have hn_303 : ¬ (97 ≤ cB (Tf 1) (Tv 0) (vy_265 : Int32).toInt.toNat ∧ cB (Tf 1) (Tv 0) (vy_265 : Int32).toInt.toNat ≤ 122) := by
                      have z_1 := Int32.le_iff_toInt_le.mp c_9
                      have z_2 := congrArg Int32.toInt c_10
                      have z_3 : ¬ (r_112 : Int32).toInt = (0 : Int32).toInt := fun z => c_115 (Int32.toInt_inj.mp z)
                      have z_4 := Int32.lt_iff_toInt_lt.mp (Int32.not_le.mp c_272)
                      have z_5 := congrArg Int32.toInt c_297
                      have y_0 : (0 : Int32).toInt = 0 := by decide
                      omega
                    have hr_304 : 97 ≤ (r_106 : Int32).toInt ∧ (r_106 : Int32).toInt ≤ 122 := by
                      have z_1 := Int32.le_iff_toInt_le.mp c_9
                      have z_2 := congrArg Int32.toInt c_10
                      have z_3 : ¬ (r_112 : Int32).toInt = (0 : Int32).toInt := fun z => c_115 (Int32.toInt_inj.mp z)
                      have z_4 := Int32.lt_iff_toInt_lt.mp (Int32.not_le.mp c_272)
                      have z_5 := congrArg Int32.toInt c_297
                      have y_0 : (0 : Int32).toInt = 0 := by decide
                      omega
                    have hr_305 : (vy_265 : Int32).toInt ≤ 400 := by
                      have z_1 := Int32.le_iff_toInt_le.mp c_9
                      have z_2 := congrArg Int32.toInt c_10
                      have z_3 : ¬ (r_112 : Int32).toInt = (0 : Int32).toInt := fun z => c_115 (Int32.toInt_inj.mp z)
                      have z_4 := Int32.lt_iff_toInt_lt.mp (Int32.not_le.mp c_272)
                      have z_5 := congrArg Int32.toInt c_297
                      have y_0 : (0 : Int32).toInt = 0 := by decide
                      omega
                    have hr_306 : ((Tv 4) : Int32).toInt = 0 := by
                      have z_1 := Int32.le_iff_toInt_le.mp c_9
                      have z_2 := congrArg Int32.toInt c_10
                      have z_3 : ¬ (r_112 : Int32).toInt = (0 : Int32).toInt := fun z => c_115 (Int32.toInt_inj.mp z)
                      have z_4 := Int32.lt_iff_toInt_lt.mp (Int32.not_le.mp c_272)
                      have z_5 := congrArg Int32.toInt c_297
                      have y_0 : (0 : Int32).toInt = 0 := by decide
                      omega
                    have hr_307 : (vy_2 : Int32).toInt ≤ 400 := by
                      have z_1 := Int32.le_iff_toInt_le.mp c_9
                      have z_2 := congrArg Int32.toInt c_10
                      have z_3 : ¬ (r_112 : Int32).toInt = (0 : Int32).toInt := fun z => c_115 (Int32.toInt_inj.mp z)
                      have z_4 := Int32.lt_iff_toInt_lt.mp (Int32.not_le.mp c_272)
                      have z_5 := congrArg Int32.toInt c_297
                      have y_0 : (0 : Int32).toInt = 0 := by decide
                      omega
                    exact retV hx hb hr hlk hP hD hS (vy_2, vy_265, r_106) ⟨rfl, ha_298, (TpB.at h_tb hr_306 h_tape.2.2.2.2.1 pf_7 hr_307 h2_300 (te_L hr_301 he_107.1 hr_304 pf_270 hr_305 hn_303) he_107.1)⟩ [0, 1] rfl rfl dX10_step_242 (Nat.le_of_ble_eq_true rfl) (Nat.le_of_ble_eq_true rfl) rfl
                  · skip
                    refine lv_aload_n hx hb dX10_step_111 rfl (lv_at hl 0 rfl) ?_
                    refine lv_dup hx hb dX10_step_112 rfl ?_
                    refine gf_X10_22 hx hb hts hown hK hP 0 rfl rfl dX10_step_113 ?_
                    refine lv_iconst (v := 1) hx hb dX10_step_116 (by decide) ?_
                    refine lv_iadd hx hb dX10_step_117 ?_
                    refine lv_topi (fun x_308 ex_308 => ?_)
                    refine pf_X10_22 hx hb hts hown hK hP hD hS 0 rfl (Nat.le_of_ble_eq_true rfl) rfl rfl dX10_step_118 (fun H locs hP₀ hD₀ hS₀ => ?_)
                    replace hP : va_P D classes [((Ta 0), .inr (10, [.ref (Ta 1), .int (Tv 0), .int vy_2, .int x_308, .int r_106, .int (Tv 4)])), ((Ta 1), .inl (tc 0, 400, .inl (Tf 1)))] H := hP₀
                    replace hD : va_D A [((Ta 0), .inr (10, [.ref (Ta 1), .int (Tv 0), .int vy_2, .int x_308, .int r_106, .int (Tv 4)])), ((Ta 1), .inl (tc 0, 400, .inl (Tf 1)))] := hD₀
                    replace hS := hS₀
                    clear hP₀ hD₀ hS₀
                    refine lv_goto (tgt := 86) hx hb dX10_step_121 (by decide) ?_
                    have hb_309 : 401 - (x_308 : Int32).toInt < 401 - (vy_265 : Int32).toInt ∧ 1 ≤ 401 - (vy_265 : Int32).toInt := by
                      have z_1 := Int32.le_iff_toInt_le.mp c_9
                      have z_2 := congrArg Int32.toInt c_10
                      have z_3 : ¬ (r_112 : Int32).toInt = (0 : Int32).toInt := fun z => c_115 (Int32.toInt_inj.mp z)
                      have z_4 := Int32.lt_iff_toInt_lt.mp (Int32.not_le.mp c_272)
                      have z_5 : ¬ (r_294 : Int32).toInt = (0 : Int32).toInt := fun z => c_297 (Int32.toInt_inj.mp z)
                      have y_0 : (0 : Int32).toInt = 0 := by decide
                      have y_1 : (1 : Int32).toInt = 1 := by decide
                      have t_x_308 : x_308.toInt = (vy_265 : Int32).toInt + (1 : Int32).toInt := by rw [ex_308]; exact add_toInt (by omega) (by omega)
                      omega
                    have ha_310 : 0 ≤ (x_308 : Int32).toInt ∧ (x_308 : Int32).toInt ≤ 400 := by
                      have z_1 := Int32.le_iff_toInt_le.mp c_9
                      have z_2 := congrArg Int32.toInt c_10
                      have z_3 : ¬ (r_112 : Int32).toInt = (0 : Int32).toInt := fun z => c_115 (Int32.toInt_inj.mp z)
                      have z_4 := Int32.lt_iff_toInt_lt.mp (Int32.not_le.mp c_272)
                      have z_5 : ¬ (r_294 : Int32).toInt = (0 : Int32).toInt := fun z => c_297 (Int32.toInt_inj.mp z)
                      have y_0 : (0 : Int32).toInt = 0 := by decide
                      have y_1 : (1 : Int32).toInt = 1 := by decide
                      have t_x_308 : x_308.toInt = (vy_265 : Int32).toInt + (1 : Int32).toInt := by rw [ex_308]; exact add_toInt (by omega) (by omega)
                      omega
                    have hr_311 : 0 ≤ (vy_265 : Int32).toInt := by
                      have z_1 := Int32.le_iff_toInt_le.mp c_9
                      have z_2 := congrArg Int32.toInt c_10
                      have z_3 : ¬ (r_112 : Int32).toInt = (0 : Int32).toInt := fun z => c_115 (Int32.toInt_inj.mp z)
                      have z_4 := Int32.lt_iff_toInt_lt.mp (Int32.not_le.mp c_272)
                      have z_5 : ¬ (r_294 : Int32).toInt = (0 : Int32).toInt := fun z => c_297 (Int32.toInt_inj.mp z)
                      have y_0 : (0 : Int32).toInt = 0 := by decide
                      omega
                    have hr_312 : 97 ≤ (r_288 : Int32).toInt ∧ (r_288 : Int32).toInt ≤ 122 := by
                      have z_1 := Int32.le_iff_toInt_le.mp c_9
                      have z_2 := congrArg Int32.toInt c_10
                      have z_3 : ¬ (r_112 : Int32).toInt = (0 : Int32).toInt := fun z => c_115 (Int32.toInt_inj.mp z)
                      have z_4 := Int32.lt_iff_toInt_lt.mp (Int32.not_le.mp c_272)
                      have z_5 : ¬ (r_294 : Int32).toInt = (0 : Int32).toInt := fun z => c_297 (Int32.toInt_inj.mp z)
                      have y_0 : (0 : Int32).toInt = 0 := by decide
                      omega
                    have hi_313 : (x_308 : Int32).toInt = (vy_265 : Int32).toInt + 1 := by
                      have z_1 := Int32.le_iff_toInt_le.mp c_9
                      have z_2 := congrArg Int32.toInt c_10
                      have z_3 : ¬ (r_112 : Int32).toInt = (0 : Int32).toInt := fun z => c_115 (Int32.toInt_inj.mp z)
                      have z_4 := Int32.lt_iff_toInt_lt.mp (Int32.not_le.mp c_272)
                      have z_5 : ¬ (r_294 : Int32).toInt = (0 : Int32).toInt := fun z => c_297 (Int32.toInt_inj.mp z)
                      have y_0 : (0 : Int32).toInt = 0 := by decide
                      have y_1 : (1 : Int32).toInt = 1 := by decide
                      have t_x_308 : x_308.toInt = (vy_265 : Int32).toInt + (1 : Int32).toInt := by rw [ex_308]; exact add_toInt (by omega) (by omega)
                      omega
                    exact ih_267 x_308 _ _ _ (by omega) ha_310 (Rn.st pf_270 hr_311 he_289.1 (decide_eq_true hr_312) hi_313) (hP.sub [0, 1] rfl) (hD.sub [0, 1] rfl rfl) hS (lv_sub hl [0] rfl)
            exact loop_268 _ vy_2 _ _ _ (Nat.lt_succ_self _) pf_6 (Rn.rf) hP hD hS hl
      · skip
        refine lv_aload_n hx hb dX10_step_19 rfl (lv_at hl 0 rfl) ?_
        refine lv_aload_n hx hb dX10_step_20 rfl (lv_at hl 0 rfl) ?_
        refine gf_X10_19 hx hb hts hown hK hP 0 rfl rfl dX10_step_21 ?_
        have ha_314 : 0 ≤ ((Tv 0) : Int32).toInt ∧ ((Tv 0) : Int32).toInt ≤ 400 ∧ 0 ≤ (vy_2 : Int32).toInt ∧ (vy_2 : Int32).toInt ≤ 400 ∧ 0 ≤ ((Tv 2) : Int32).toInt ∧ ((Tv 2) : Int32).toInt ≤ 400 := by
          have z_1 := Int32.lt_iff_toInt_lt.mp (Int32.not_le.mp c_9)
          omega
        have ha_315 : 0 ≤ vy_2.toInt := by
          have z_1 := Int32.lt_iff_toInt_lt.mp (Int32.not_le.mp c_9)
          omega
        refine cV (a := (Ta 0)) (As := [.int vy_2]) (rest := []) (wr := []) ⟨hx, hb, hml, hown, hts⟩ hK hX hA (cu_fX10_byteAt l D tc sk (Ta 0) (Ta 1) (Tv 0) vy_2 (Tv 2) (Tv 3) (Tv 4) (Tf 1) vy_2 ha_314 h_by ha_315) k_482 k_479 k_481 k_0 k_96 pl_X10_byteAt ⟨Nat.le_of_ble_eq_true rfl, Nat.le_of_ble_eq_true rfl⟩ rfl rfl (va_recv hK hP (ci := 10) (q0 := 0) rfl rfl) hP hD hS [0, 1] [] rfl rfl rfl rfl rfl (by decide) rfl hl.1 rfl (Nat.le_of_ble_eq_true rfl) dX10_step_24 ⟨Nat.le_of_ble_eq_true rfl, Nat.le_of_ble_eq_true rfl⟩ (fun v_316 u_317 H locs hv_318 hP₀ hD₀ hS₀ => ?_)
        obtain ⟨r_319, rfl, he_320⟩ := hv_318
        have he_320 : (r_319.toInt = cB (Tf 1) (Tv 0) vy_2.toInt.toNat ∧ (((Tv 0).toInt ≤ vy_2.toInt ∧ r_319.toInt = -1) ∨ (vy_2.toInt < (Tv 0).toInt ∧ 0 ≤ r_319.toInt ∧ r_319.toInt ≤ 255))) := he_320
        refine W.eq (g2 := F0 m 27 ls [.int r_319]) rfl ?_
        replace hP : va_P D classes [((Ta 0), .inr (10, [.ref (Ta 1), .int (Tv 0), .int vy_2, .int (Tv 2), .int (Tv 3), .int (Tv 4)])), ((Ta 1), .inl (tc 0, 400, .inl (Tf 1)))] H := hP₀
        replace hD : va_D A [((Ta 0), .inr (10, [.ref (Ta 1), .int (Tv 0), .int vy_2, .int (Tv 2), .int (Tv 3), .int (Tv 4)])), ((Ta 1), .inl (tc 0, 400, .inl (Tf 1)))] := hD₀
        replace hS := hS₀
        clear hP₀ hD₀ hS₀
        refine lv_bipush (v := 32) hx hb dX10_step_27 (by decide) ?_
        refine lv_icmp_ne (tgt := 45) hx hb dX10_step_29 (by decide) (fun c_322 => ?_) (fun c_322 => ?_)
        · skip
          refine lv_aload_n hx hb dX10_step_45 rfl (lv_at hl 0 rfl) ?_
          refine lv_aload_n hx hb dX10_step_46 rfl (lv_at hl 0 rfl) ?_
          refine gf_X10_19 hx hb hts hown hK hP 0 rfl rfl dX10_step_47 ?_
          refine pf_X10_22 hx hb hts hown hK hP hD hS 0 rfl (Nat.le_of_ble_eq_true rfl) rfl rfl dX10_step_50 (fun H locs hP₀ hD₀ hS₀ => ?_)
          replace hP : va_P D classes [((Ta 0), .inr (10, [.ref (Ta 1), .int (Tv 0), .int vy_2, .int vy_2, .int (Tv 3), .int (Tv 4)])), ((Ta 1), .inl (tc 0, 400, .inl (Tf 1)))] H := hP₀
          replace hD : va_D A [((Ta 0), .inr (10, [.ref (Ta 1), .int (Tv 0), .int vy_2, .int vy_2, .int (Tv 3), .int (Tv 4)])), ((Ta 1), .inl (tc 0, 400, .inl (Tf 1)))] := hD₀
          replace hS := hS₀
          clear hP₀ hD₀ hS₀
          refine lv_aload_n hx hb dX10_step_53 rfl (lv_at hl 0 rfl) ?_
          refine lv_aload_n hx hb dX10_step_54 rfl (lv_at hl 0 rfl) ?_
          refine gf_X10_28 hx hb hts hown hK hP 0 rfl rfl dX10_step_55 ?_
          refine lv_if_ne (tgt := 72) hx hb dX10_step_58 (by decide) (fun c_323 => ?_) (fun c_323 => ?_)
          · skip
            refine lv_iconst (v := (-1)) hx hb dX10_step_72 (by decide) ?_
            refine pf_X10_25 hx hb hts hown hK hP hD hS 0 rfl (Nat.le_of_ble_eq_true rfl) rfl rfl dX10_step_73 (fun H locs hP₀ hD₀ hS₀ => ?_)
            replace hP : va_P D classes [((Ta 0), .inr (10, [.ref (Ta 1), .int (Tv 0), .int vy_2, .int vy_2, .int (-1), .int (Tv 4)])), ((Ta 1), .inl (tc 0, 400, .inl (Tf 1)))] H := hP₀
            replace hD : va_D A [((Ta 0), .inr (10, [.ref (Ta 1), .int (Tv 0), .int vy_2, .int vy_2, .int (-1), .int (Tv 4)])), ((Ta 1), .inl (tc 0, 400, .inl (Tf 1)))] := hD₀
            replace hS := hS₀
            clear hP₀ hD₀ hS₀
            refine lv_aload_n hx hb dX10_step_76 rfl (lv_at hl 0 rfl) ?_
            refine gf_X10_25 hx hb hts hown hK hP 0 rfl rfl dX10_step_77 ?_
            refine cS (As := [.int (-1)]) (rest := []) (wr := [((Ta 0), .inr (10, [.ref (Ta 1), .int (Tv 0), .int vy_2, .int vy_2, .int (-1), .int (Tv 4)])), ((Ta 1), .inl (tc 0, 400, .inl (Tf 1)))]) ⟨hx, hb, hml, hown, hts⟩ hK hX hA (ct_fX10_isLetter l D tc sk (-1)) k_485 k_483 k_484 k_96 pl_X10_isLetter ⟨Nat.le_of_ble_eq_true rfl, Nat.le_of_ble_eq_true rfl⟩ rfl rfl  hP hD hS [] [0, 1] rfl rfl rfl rfl rfl (by decide) rfl hl.1 rfl (Nat.le_of_ble_eq_true rfl) dX10_step_80 ⟨Nat.le_of_ble_eq_true rfl, Nat.le_of_ble_eq_true rfl⟩ (fun v_324 u_325 H locs hv_326 hP₀ hD₀ hS₀ => ?_)
            obtain ⟨r_327, rfl, he_328⟩ := hv_326
            have he_328 : ((r_327.toInt = 1 ∧ 97 ≤ ((-1) : Int32).toInt ∧ ((-1) : Int32).toInt ≤ 122) ∨ (r_327.toInt = 0 ∧ (((-1) : Int32).toInt < 97 ∨ 122 < ((-1) : Int32).toInt))) := he_328
            refine W.eq (g2 := F0 m 83 ls [.int r_327]) rfl ?_
            replace hP : va_P D classes [((Ta 0), .inr (10, [.ref (Ta 1), .int (Tv 0), .int vy_2, .int vy_2, .int (-1), .int (Tv 4)])), ((Ta 1), .inl (tc 0, 400, .inl (Tf 1)))] H := hP₀
            replace hD : va_D A [((Ta 0), .inr (10, [.ref (Ta 1), .int (Tv 0), .int vy_2, .int vy_2, .int (-1), .int (Tv 4)])), ((Ta 1), .inl (tc 0, 400, .inl (Tf 1)))] := hD₀
            replace hS := hS₀
            clear hP₀ hD₀ hS₀
            refine lv_if_eq (tgt := 124) hx hb dX10_step_83 (by decide) (fun c_330 => ?_) (fun c_330 => ?_)
            · skip
              refine lv_aload_n hx hb dX10_step_124 rfl (lv_at hl 0 rfl) ?_
              refine gf_X10_25 hx hb hts hown hK hP 0 rfl rfl dX10_step_125 ?_
              refine cS (As := [.int (-1)]) (rest := []) (wr := [((Ta 0), .inr (10, [.ref (Ta 1), .int (Tv 0), .int vy_2, .int vy_2, .int (-1), .int (Tv 4)])), ((Ta 1), .inl (tc 0, 400, .inl (Tf 1)))]) ⟨hx, hb, hml, hown, hts⟩ hK hX hA (ct_fX10_isDigit l D tc sk (-1)) k_488 k_486 k_487 k_96 pl_X10_isDigit ⟨Nat.le_of_ble_eq_true rfl, Nat.le_of_ble_eq_true rfl⟩ rfl rfl  hP hD hS [] [0, 1] rfl rfl rfl rfl rfl (by decide) rfl hl.1 rfl (Nat.le_of_ble_eq_true rfl) dX10_step_128 ⟨Nat.le_of_ble_eq_true rfl, Nat.le_of_ble_eq_true rfl⟩ (fun v_331 u_332 H locs hv_333 hP₀ hD₀ hS₀ => ?_)
              obtain ⟨r_334, rfl, he_335⟩ := hv_333
              have he_335 : ((r_334.toInt = 1 ∧ 48 ≤ ((-1) : Int32).toInt ∧ ((-1) : Int32).toInt ≤ 57) ∨ (r_334.toInt = 0 ∧ (((-1) : Int32).toInt < 48 ∨ 57 < ((-1) : Int32).toInt))) := he_335
              refine W.eq (g2 := F0 m 131 ls [.int r_334]) rfl ?_
              replace hP : va_P D classes [((Ta 0), .inr (10, [.ref (Ta 1), .int (Tv 0), .int vy_2, .int vy_2, .int (-1), .int (Tv 4)])), ((Ta 1), .inl (tc 0, 400, .inl (Tf 1)))] H := hP₀
              replace hD : va_D A [((Ta 0), .inr (10, [.ref (Ta 1), .int (Tv 0), .int vy_2, .int vy_2, .int (-1), .int (Tv 4)])), ((Ta 1), .inl (tc 0, 400, .inl (Tf 1)))] := hD₀
              replace hS := hS₀
              clear hP₀ hD₀ hS₀
              refine lv_if_eq (tgt := 172) hx hb dX10_step_131 (by decide) (fun c_337 => ?_) (fun c_337 => ?_)
              · skip
                refine lv_aload_n hx hb dX10_step_172 rfl (lv_at hl 0 rfl) ?_
                refine gf_X10_25 hx hb hts hown hK hP 0 rfl rfl dX10_step_173 ?_
                refine lv_iconst (v := (-1)) hx hb dX10_step_176 (by decide) ?_
                refine lv_icmp_eq (tgt := 242) hx hb dX10_step_177 (by decide) (fun c_338 => ?_) (fun c_338 => absurd c_338 (by decide))
                have ha_339 : 0 ≤ ((Tv 0) : Int32).toInt ∧ ((Tv 0) : Int32).toInt ≤ 400 ∧ 0 ≤ (vy_2 : Int32).toInt ∧ (vy_2 : Int32).toInt ≤ 400 ∧ 0 ≤ (vy_2 : Int32).toInt ∧ (vy_2 : Int32).toInt ≤ 400 := by
                  have z_1 := Int32.lt_iff_toInt_lt.mp (Int32.not_le.mp c_9)
                  have z_2 : ¬ (r_319 : Int32).toInt = (32 : Int32).toInt := fun z => c_322 (Int32.toInt_inj.mp z)
                  have z_3 : ¬ ((Tv 4) : Int32).toInt = (0 : Int32).toInt := fun z => c_323 (Int32.toInt_inj.mp z)
                  have z_4 := congrArg Int32.toInt c_330
                  have z_5 := congrArg Int32.toInt c_337
                  have y_0 : (0 : Int32).toInt = 0 := by decide
                  have y_32 : (32 : Int32).toInt = 32 := by decide
                  omega
                have hr_340 : ¬ ((Tv 4) : Int32).toInt = 0 := by
                  have z_1 := Int32.lt_iff_toInt_lt.mp (Int32.not_le.mp c_9)
                  have z_2 : ¬ (r_319 : Int32).toInt = (32 : Int32).toInt := fun z => c_322 (Int32.toInt_inj.mp z)
                  have z_3 : ¬ ((Tv 4) : Int32).toInt = (0 : Int32).toInt := fun z => c_323 (Int32.toInt_inj.mp z)
                  have z_4 := congrArg Int32.toInt c_330
                  have z_5 := congrArg Int32.toInt c_337
                  have y_0 : (0 : Int32).toInt = 0 := by decide
                  have y_32 : (32 : Int32).toInt = 32 := by decide
                  omega
                have hr_341 : ((-1) : Int32).toInt = -1 := by
                  have z_1 := Int32.lt_iff_toInt_lt.mp (Int32.not_le.mp c_9)
                  have z_2 : ¬ (r_319 : Int32).toInt = (32 : Int32).toInt := fun z => c_322 (Int32.toInt_inj.mp z)
                  have z_3 : ¬ ((Tv 4) : Int32).toInt = (0 : Int32).toInt := fun z => c_323 (Int32.toInt_inj.mp z)
                  have z_4 := congrArg Int32.toInt c_330
                  have z_5 := congrArg Int32.toInt c_337
                  have y_0 : (0 : Int32).toInt = 0 := by decide
                  have y_32 : (32 : Int32).toInt = 32 := by decide
                  have y_m1 : (-1 : Int32).toInt = -1 := by decide
                  omega
                exact retV hx hb hr hlk hP hD hS (vy_2, vy_2, (-1)) ⟨rfl, ha_339, (TpB.er h_tb hr_340 hr_341)⟩ [0, 1] rfl rfl dX10_step_242 (Nat.le_of_ble_eq_true rfl) (Nat.le_of_ble_eq_true rfl) rfl
              · skip
                have loop_346 : ∀ (n_344 : Nat) (vy_343 : Int32) (H : Heap) (locs : List Loc) (ls : Array Slot), (401 - (vy_343 : Int32).toInt).toNat < n_344 → (0 ≤ (vy_343 : Int32).toInt ∧ (vy_343 : Int32).toInt ≤ 400) → (Rn pz_isD (Tf 1) (Tv 0) vy_2 vy_343) → va_P D classes [((Ta 0), .inr (10, [.ref (Ta 1), .int (Tv 0), .int vy_2, .int vy_343, .int (-1), .int (Tv 4)])), ((Ta 1), .inl (tc 0, 400, .inl (Tf 1)))] H → va_D A [((Ta 0), .inr (10, [.ref (Ta 1), .int (Tv 0), .int vy_2, .int vy_343, .int (-1), .int (Tv 4)])), ((Ta 1), .inl (tc 0, 400, .inl (Tf 1)))] → va_S A s.heap H locs → lv_has ls 2 [(0, .ref (Ta 0))] → W p l e ({ frames := 1, cells := 0, slots := 0, locals := 21 }) s m ([.ref (Ta 0)].toArray) below meth c H locs 0 0 (MQ below (QW (fun (v : Option Value) (u : (Int32) × (Int32) × (Int32)) => match u with | (oo0x1, oo0x2, oo0x3) => v = none ∧ (0 ≤ ((Tv 0) : Int32).toInt ∧ ((Tv 0) : Int32).toInt ≤ 400 ∧ 0 ≤ (oo0x1 : Int32).toInt ∧ (oo0x1 : Int32).toInt ≤ 400 ∧ 0 ≤ (oo0x2 : Int32).toInt ∧ (oo0x2 : Int32).toInt ≤ 400) ∧ (TpR (Tf 1) (Tv 0) (rSK (cB (Tf 1) (Tv 0)) rr) oo0x1 oo0x2 oo0x3 (Tv 4))) (BW D (fun (u : (Int32) × (Int32) × (Int32)) => match u with | (oo0x1, oo0x2, oo0x3) => [((Ta 0), .inr (10, [.ref (Ta 1), .int (Tv 0), .int oo0x1, .int oo0x2, .int oo0x3, .int (Tv 4)])), ((Ta 1), .inl (tc 0, 400, .inl (Tf 1)))]) A) A) ([.ref (Ta 0)].toArray) s 0 0 A) (F0 m 134 ls []) := by
                  clear hP hD hS hl
                  intro n_344
                  induction n_344 with
                  | zero =>
                    intro vy_343 H locs ls h1
                    exact absurd h1 (Nat.not_lt_zero _)
                  | succ n_344 ih_345 =>
                    intro vy_343 H locs ls hn_349 pf_347 pf_348 hP hD hS hl
                    refine lv_aload_n hx hb dX10_step_134 rfl (lv_at hl 0 rfl) ?_
                    refine gf_X10_22 hx hb hts hown hK hP 0 rfl rfl dX10_step_135 ?_
                    refine lv_aload_n hx hb dX10_step_138 rfl (lv_at hl 0 rfl) ?_
                    refine gf_X10_15 hx hb hts hown hK hP 0 rfl rfl dX10_step_139 ?_
                    refine lv_icmp_ge (tgt := 242) hx hb dX10_step_142 (by decide) (fun c_350 => ?_) (fun c_350 => ?_)
                    · skip
                      have ha_351 : 0 ≤ ((Tv 0) : Int32).toInt ∧ ((Tv 0) : Int32).toInt ≤ 400 ∧ 0 ≤ (vy_2 : Int32).toInt ∧ (vy_2 : Int32).toInt ≤ 400 ∧ 0 ≤ (vy_343 : Int32).toInt ∧ (vy_343 : Int32).toInt ≤ 400 := by
                        have z_1 := Int32.lt_iff_toInt_lt.mp (Int32.not_le.mp c_9)
                        have z_2 : ¬ (r_319 : Int32).toInt = (32 : Int32).toInt := fun z => c_322 (Int32.toInt_inj.mp z)
                        have z_3 : ¬ ((Tv 4) : Int32).toInt = (0 : Int32).toInt := fun z => c_323 (Int32.toInt_inj.mp z)
                        have z_4 := congrArg Int32.toInt c_330
                        have z_5 : ¬ (r_334 : Int32).toInt = (0 : Int32).toInt := fun z => c_337 (Int32.toInt_inj.mp z)
                        have z_6 := Int32.le_iff_toInt_le.mp c_350
                        have y_0 : (0 : Int32).toInt = 0 := by decide
                        have y_32 : (32 : Int32).toInt = 32 := by decide
                        omega
                      have hr_352 : ¬ ((Tv 4) : Int32).toInt = 0 := by
                        have z_1 := Int32.lt_iff_toInt_lt.mp (Int32.not_le.mp c_9)
                        have z_2 : ¬ (r_319 : Int32).toInt = (32 : Int32).toInt := fun z => c_322 (Int32.toInt_inj.mp z)
                        have z_3 : ¬ ((Tv 4) : Int32).toInt = (0 : Int32).toInt := fun z => c_323 (Int32.toInt_inj.mp z)
                        have z_4 := congrArg Int32.toInt c_330
                        have z_5 : ¬ (r_334 : Int32).toInt = (0 : Int32).toInt := fun z => c_337 (Int32.toInt_inj.mp z)
                        have z_6 := Int32.le_iff_toInt_le.mp c_350
                        have y_0 : (0 : Int32).toInt = 0 := by decide
                        have y_32 : (32 : Int32).toInt = 32 := by decide
                        omega
                      have hr_353 : ((-1) : Int32).toInt = -1 := by
                        have z_1 := Int32.lt_iff_toInt_lt.mp (Int32.not_le.mp c_9)
                        have z_2 : ¬ (r_319 : Int32).toInt = (32 : Int32).toInt := fun z => c_322 (Int32.toInt_inj.mp z)
                        have z_3 : ¬ ((Tv 4) : Int32).toInt = (0 : Int32).toInt := fun z => c_323 (Int32.toInt_inj.mp z)
                        have z_4 := congrArg Int32.toInt c_330
                        have z_5 : ¬ (r_334 : Int32).toInt = (0 : Int32).toInt := fun z => c_337 (Int32.toInt_inj.mp z)
                        have z_6 := Int32.le_iff_toInt_le.mp c_350
                        have y_0 : (0 : Int32).toInt = 0 := by decide
                        have y_32 : (32 : Int32).toInt = 32 := by decide
                        have y_m1 : (-1 : Int32).toInt = -1 := by decide
                        omega
                      exact retV hx hb hr hlk hP hD hS (vy_2, vy_343, (-1)) ⟨rfl, ha_351, (TpB.er h_tb hr_352 hr_353)⟩ [0, 1] rfl rfl dX10_step_242 (Nat.le_of_ble_eq_true rfl) (Nat.le_of_ble_eq_true rfl) rfl
                    · skip
                      refine lv_aload_n hx hb dX10_step_145 rfl (lv_at hl 0 rfl) ?_
                      refine lv_aload_n hx hb dX10_step_146 rfl (lv_at hl 0 rfl) ?_
                      refine gf_X10_22 hx hb hts hown hK hP 0 rfl rfl dX10_step_147 ?_
                      have ha_354 : 0 ≤ ((Tv 0) : Int32).toInt ∧ ((Tv 0) : Int32).toInt ≤ 400 ∧ 0 ≤ (vy_2 : Int32).toInt ∧ (vy_2 : Int32).toInt ≤ 400 ∧ 0 ≤ (vy_343 : Int32).toInt ∧ (vy_343 : Int32).toInt ≤ 400 := by
                        have z_1 := Int32.lt_iff_toInt_lt.mp (Int32.not_le.mp c_9)
                        have z_2 : ¬ (r_319 : Int32).toInt = (32 : Int32).toInt := fun z => c_322 (Int32.toInt_inj.mp z)
                        have z_3 : ¬ ((Tv 4) : Int32).toInt = (0 : Int32).toInt := fun z => c_323 (Int32.toInt_inj.mp z)
                        have z_4 := congrArg Int32.toInt c_330
                        have z_5 : ¬ (r_334 : Int32).toInt = (0 : Int32).toInt := fun z => c_337 (Int32.toInt_inj.mp z)
                        have z_6 := Int32.lt_iff_toInt_lt.mp (Int32.not_le.mp c_350)
                        have y_0 : (0 : Int32).toInt = 0 := by decide
                        have y_32 : (32 : Int32).toInt = 32 := by decide
                        omega
                      have ha_355 : 0 ≤ vy_343.toInt := by
                        have z_1 := Int32.lt_iff_toInt_lt.mp (Int32.not_le.mp c_9)
                        have z_2 : ¬ (r_319 : Int32).toInt = (32 : Int32).toInt := fun z => c_322 (Int32.toInt_inj.mp z)
                        have z_3 : ¬ ((Tv 4) : Int32).toInt = (0 : Int32).toInt := fun z => c_323 (Int32.toInt_inj.mp z)
                        have z_4 := congrArg Int32.toInt c_330
                        have z_5 : ¬ (r_334 : Int32).toInt = (0 : Int32).toInt := fun z => c_337 (Int32.toInt_inj.mp z)
                        have z_6 := Int32.lt_iff_toInt_lt.mp (Int32.not_le.mp c_350)
                        have y_0 : (0 : Int32).toInt = 0 := by decide
                        have y_32 : (32 : Int32).toInt = 32 := by decide
                        omega
                      refine cV (a := (Ta 0)) (As := [.int vy_343]) (rest := []) (wr := []) ⟨hx, hb, hml, hown, hts⟩ hK hX hA (cu_fX10_byteAt l D tc sk (Ta 0) (Ta 1) (Tv 0) vy_2 vy_343 (-1) (Tv 4) (Tf 1) vy_343 ha_354 h_by ha_355) k_482 k_479 k_481 k_0 k_96 pl_X10_byteAt ⟨Nat.le_of_ble_eq_true rfl, Nat.le_of_ble_eq_true rfl⟩ rfl rfl (va_recv hK hP (ci := 10) (q0 := 0) rfl rfl) hP hD hS [0, 1] [] rfl rfl rfl rfl rfl (by decide) rfl hl.1 rfl (Nat.le_of_ble_eq_true rfl) dX10_step_150 ⟨Nat.le_of_ble_eq_true rfl, Nat.le_of_ble_eq_true rfl⟩ (fun v_356 u_357 H locs hv_358 hP₀ hD₀ hS₀ => ?_)
                      obtain ⟨r_359, rfl, he_360⟩ := hv_358
                      have he_360 : (r_359.toInt = cB (Tf 1) (Tv 0) vy_343.toInt.toNat ∧ (((Tv 0).toInt ≤ vy_343.toInt ∧ r_359.toInt = -1) ∨ (vy_343.toInt < (Tv 0).toInt ∧ 0 ≤ r_359.toInt ∧ r_359.toInt ≤ 255))) := he_360
                      refine W.eq (g2 := F0 m 153 ls [.int r_359]) rfl ?_
                      replace hP : va_P D classes [((Ta 0), .inr (10, [.ref (Ta 1), .int (Tv 0), .int vy_2, .int vy_343, .int (-1), .int (Tv 4)])), ((Ta 1), .inl (tc 0, 400, .inl (Tf 1)))] H := hP₀
                      replace hD : va_D A [((Ta 0), .inr (10, [.ref (Ta 1), .int (Tv 0), .int vy_2, .int vy_343, .int (-1), .int (Tv 4)])), ((Ta 1), .inl (tc 0, 400, .inl (Tf 1)))] := hD₀
                      replace hS := hS₀
                      clear hP₀ hD₀ hS₀
                      refine cS (As := [.int r_359]) (rest := []) (wr := [((Ta 0), .inr (10, [.ref (Ta 1), .int (Tv 0), .int vy_2, .int vy_343, .int (-1), .int (Tv 4)])), ((Ta 1), .inl (tc 0, 400, .inl (Tf 1)))]) ⟨hx, hb, hml, hown, hts⟩ hK hX hA (ct_fX10_isDigit l D tc sk r_359) k_488 k_486 k_487 k_96 pl_X10_isDigit ⟨Nat.le_of_ble_eq_true rfl, Nat.le_of_ble_eq_true rfl⟩ rfl rfl  hP hD hS [] [0, 1] rfl rfl rfl rfl rfl (by decide) rfl hl.1 rfl (Nat.le_of_ble_eq_true rfl) dX10_step_153 ⟨Nat.le_of_ble_eq_true rfl, Nat.le_of_ble_eq_true rfl⟩ (fun v_362 u_363 H locs hv_364 hP₀ hD₀ hS₀ => ?_)
                      obtain ⟨r_365, rfl, he_366⟩ := hv_364
                      have he_366 : ((r_365.toInt = 1 ∧ 48 ≤ r_359.toInt ∧ r_359.toInt ≤ 57) ∨ (r_365.toInt = 0 ∧ (r_359.toInt < 48 ∨ 57 < r_359.toInt))) := he_366
                      refine W.eq (g2 := F0 m 156 ls [.int r_365]) rfl ?_
                      replace hP : va_P D classes [((Ta 0), .inr (10, [.ref (Ta 1), .int (Tv 0), .int vy_2, .int vy_343, .int (-1), .int (Tv 4)])), ((Ta 1), .inl (tc 0, 400, .inl (Tf 1)))] H := hP₀
                      replace hD : va_D A [((Ta 0), .inr (10, [.ref (Ta 1), .int (Tv 0), .int vy_2, .int vy_343, .int (-1), .int (Tv 4)])), ((Ta 1), .inl (tc 0, 400, .inl (Tf 1)))] := hD₀
                      replace hS := hS₀
                      clear hP₀ hD₀ hS₀
                      refine lv_if_eq (tgt := 242) hx hb dX10_step_156 (by decide) (fun c_368 => ?_) (fun c_368 => ?_)
                      · skip
                        have ha_369 : 0 ≤ ((Tv 0) : Int32).toInt ∧ ((Tv 0) : Int32).toInt ≤ 400 ∧ 0 ≤ (vy_2 : Int32).toInt ∧ (vy_2 : Int32).toInt ≤ 400 ∧ 0 ≤ (vy_343 : Int32).toInt ∧ (vy_343 : Int32).toInt ≤ 400 := by
                          have z_1 := Int32.lt_iff_toInt_lt.mp (Int32.not_le.mp c_9)
                          have z_2 : ¬ (r_319 : Int32).toInt = (32 : Int32).toInt := fun z => c_322 (Int32.toInt_inj.mp z)
                          have z_3 : ¬ ((Tv 4) : Int32).toInt = (0 : Int32).toInt := fun z => c_323 (Int32.toInt_inj.mp z)
                          have z_4 := congrArg Int32.toInt c_330
                          have z_5 : ¬ (r_334 : Int32).toInt = (0 : Int32).toInt := fun z => c_337 (Int32.toInt_inj.mp z)
                          have z_6 := Int32.lt_iff_toInt_lt.mp (Int32.not_le.mp c_350)
                          have z_7 := congrArg Int32.toInt c_368
                          have y_0 : (0 : Int32).toInt = 0 := by decide
                          have y_32 : (32 : Int32).toInt = 32 := by decide
                          omega
                        have hr_370 : ¬ ((Tv 4) : Int32).toInt = 0 := by
                          have z_1 := Int32.lt_iff_toInt_lt.mp (Int32.not_le.mp c_9)
                          have z_2 : ¬ (r_319 : Int32).toInt = (32 : Int32).toInt := fun z => c_322 (Int32.toInt_inj.mp z)
                          have z_3 : ¬ ((Tv 4) : Int32).toInt = (0 : Int32).toInt := fun z => c_323 (Int32.toInt_inj.mp z)
                          have z_4 := congrArg Int32.toInt c_330
                          have z_5 : ¬ (r_334 : Int32).toInt = (0 : Int32).toInt := fun z => c_337 (Int32.toInt_inj.mp z)
                          have z_6 := Int32.lt_iff_toInt_lt.mp (Int32.not_le.mp c_350)
                          have z_7 := congrArg Int32.toInt c_368
                          have y_0 : (0 : Int32).toInt = 0 := by decide
                          have y_32 : (32 : Int32).toInt = 32 := by decide
                          omega
                        have hr_371 : ((-1) : Int32).toInt = -1 := by
                          have z_1 := Int32.lt_iff_toInt_lt.mp (Int32.not_le.mp c_9)
                          have z_2 : ¬ (r_319 : Int32).toInt = (32 : Int32).toInt := fun z => c_322 (Int32.toInt_inj.mp z)
                          have z_3 : ¬ ((Tv 4) : Int32).toInt = (0 : Int32).toInt := fun z => c_323 (Int32.toInt_inj.mp z)
                          have z_4 := congrArg Int32.toInt c_330
                          have z_5 : ¬ (r_334 : Int32).toInt = (0 : Int32).toInt := fun z => c_337 (Int32.toInt_inj.mp z)
                          have z_6 := Int32.lt_iff_toInt_lt.mp (Int32.not_le.mp c_350)
                          have z_7 := congrArg Int32.toInt c_368
                          have y_0 : (0 : Int32).toInt = 0 := by decide
                          have y_32 : (32 : Int32).toInt = 32 := by decide
                          have y_m1 : (-1 : Int32).toInt = -1 := by decide
                          omega
                        exact retV hx hb hr hlk hP hD hS (vy_2, vy_343, (-1)) ⟨rfl, ha_369, (TpB.er h_tb hr_370 hr_371)⟩ [0, 1] rfl rfl dX10_step_242 (Nat.le_of_ble_eq_true rfl) (Nat.le_of_ble_eq_true rfl) rfl
                      · skip
                        refine lv_aload_n hx hb dX10_step_159 rfl (lv_at hl 0 rfl) ?_
                        refine lv_dup hx hb dX10_step_160 rfl ?_
                        refine gf_X10_22 hx hb hts hown hK hP 0 rfl rfl dX10_step_161 ?_
                        refine lv_iconst (v := 1) hx hb dX10_step_164 (by decide) ?_
                        refine lv_iadd hx hb dX10_step_165 ?_
                        refine lv_topi (fun x_372 ex_372 => ?_)
                        refine pf_X10_22 hx hb hts hown hK hP hD hS 0 rfl (Nat.le_of_ble_eq_true rfl) rfl rfl dX10_step_166 (fun H locs hP₀ hD₀ hS₀ => ?_)
                        replace hP : va_P D classes [((Ta 0), .inr (10, [.ref (Ta 1), .int (Tv 0), .int vy_2, .int x_372, .int (-1), .int (Tv 4)])), ((Ta 1), .inl (tc 0, 400, .inl (Tf 1)))] H := hP₀
                        replace hD : va_D A [((Ta 0), .inr (10, [.ref (Ta 1), .int (Tv 0), .int vy_2, .int x_372, .int (-1), .int (Tv 4)])), ((Ta 1), .inl (tc 0, 400, .inl (Tf 1)))] := hD₀
                        replace hS := hS₀
                        clear hP₀ hD₀ hS₀
                        refine lv_goto (tgt := 134) hx hb dX10_step_169 (by decide) ?_
                        have hb_373 : 401 - (x_372 : Int32).toInt < 401 - (vy_343 : Int32).toInt ∧ 1 ≤ 401 - (vy_343 : Int32).toInt := by
                          have z_1 := Int32.lt_iff_toInt_lt.mp (Int32.not_le.mp c_9)
                          have z_2 : ¬ (r_319 : Int32).toInt = (32 : Int32).toInt := fun z => c_322 (Int32.toInt_inj.mp z)
                          have z_3 : ¬ ((Tv 4) : Int32).toInt = (0 : Int32).toInt := fun z => c_323 (Int32.toInt_inj.mp z)
                          have z_4 := congrArg Int32.toInt c_330
                          have z_5 : ¬ (r_334 : Int32).toInt = (0 : Int32).toInt := fun z => c_337 (Int32.toInt_inj.mp z)
                          have z_6 := Int32.lt_iff_toInt_lt.mp (Int32.not_le.mp c_350)
                          have z_7 : ¬ (r_365 : Int32).toInt = (0 : Int32).toInt := fun z => c_368 (Int32.toInt_inj.mp z)
                          have y_0 : (0 : Int32).toInt = 0 := by decide
                          have y_32 : (32 : Int32).toInt = 32 := by decide
                          have y_1 : (1 : Int32).toInt = 1 := by decide
                          have t_x_372 : x_372.toInt = (vy_343 : Int32).toInt + (1 : Int32).toInt := by rw [ex_372]; exact add_toInt (by omega) (by omega)
                          omega
                        have ha_374 : 0 ≤ (x_372 : Int32).toInt ∧ (x_372 : Int32).toInt ≤ 400 := by
                          have z_1 := Int32.lt_iff_toInt_lt.mp (Int32.not_le.mp c_9)
                          have z_2 : ¬ (r_319 : Int32).toInt = (32 : Int32).toInt := fun z => c_322 (Int32.toInt_inj.mp z)
                          have z_3 : ¬ ((Tv 4) : Int32).toInt = (0 : Int32).toInt := fun z => c_323 (Int32.toInt_inj.mp z)
                          have z_4 := congrArg Int32.toInt c_330
                          have z_5 : ¬ (r_334 : Int32).toInt = (0 : Int32).toInt := fun z => c_337 (Int32.toInt_inj.mp z)
                          have z_6 := Int32.lt_iff_toInt_lt.mp (Int32.not_le.mp c_350)
                          have z_7 : ¬ (r_365 : Int32).toInt = (0 : Int32).toInt := fun z => c_368 (Int32.toInt_inj.mp z)
                          have y_0 : (0 : Int32).toInt = 0 := by decide
                          have y_32 : (32 : Int32).toInt = 32 := by decide
                          have y_1 : (1 : Int32).toInt = 1 := by decide
                          have t_x_372 : x_372.toInt = (vy_343 : Int32).toInt + (1 : Int32).toInt := by rw [ex_372]; exact add_toInt (by omega) (by omega)
                          omega
                        have hr_375 : 0 ≤ (vy_343 : Int32).toInt := by
                          have z_1 := Int32.lt_iff_toInt_lt.mp (Int32.not_le.mp c_9)
                          have z_2 : ¬ (r_319 : Int32).toInt = (32 : Int32).toInt := fun z => c_322 (Int32.toInt_inj.mp z)
                          have z_3 : ¬ ((Tv 4) : Int32).toInt = (0 : Int32).toInt := fun z => c_323 (Int32.toInt_inj.mp z)
                          have z_4 := congrArg Int32.toInt c_330
                          have z_5 : ¬ (r_334 : Int32).toInt = (0 : Int32).toInt := fun z => c_337 (Int32.toInt_inj.mp z)
                          have z_6 := Int32.lt_iff_toInt_lt.mp (Int32.not_le.mp c_350)
                          have z_7 : ¬ (r_365 : Int32).toInt = (0 : Int32).toInt := fun z => c_368 (Int32.toInt_inj.mp z)
                          have y_0 : (0 : Int32).toInt = 0 := by decide
                          have y_32 : (32 : Int32).toInt = 32 := by decide
                          omega
                        have hr_376 : 48 ≤ (r_359 : Int32).toInt ∧ (r_359 : Int32).toInt ≤ 57 := by
                          have z_1 := Int32.lt_iff_toInt_lt.mp (Int32.not_le.mp c_9)
                          have z_2 : ¬ (r_319 : Int32).toInt = (32 : Int32).toInt := fun z => c_322 (Int32.toInt_inj.mp z)
                          have z_3 : ¬ ((Tv 4) : Int32).toInt = (0 : Int32).toInt := fun z => c_323 (Int32.toInt_inj.mp z)
                          have z_4 := congrArg Int32.toInt c_330
                          have z_5 : ¬ (r_334 : Int32).toInt = (0 : Int32).toInt := fun z => c_337 (Int32.toInt_inj.mp z)
                          have z_6 := Int32.lt_iff_toInt_lt.mp (Int32.not_le.mp c_350)
                          have z_7 : ¬ (r_365 : Int32).toInt = (0 : Int32).toInt := fun z => c_368 (Int32.toInt_inj.mp z)
                          have y_0 : (0 : Int32).toInt = 0 := by decide
                          have y_32 : (32 : Int32).toInt = 32 := by decide
                          omega
                        have hi_377 : (x_372 : Int32).toInt = (vy_343 : Int32).toInt + 1 := by
                          have z_1 := Int32.lt_iff_toInt_lt.mp (Int32.not_le.mp c_9)
                          have z_2 : ¬ (r_319 : Int32).toInt = (32 : Int32).toInt := fun z => c_322 (Int32.toInt_inj.mp z)
                          have z_3 : ¬ ((Tv 4) : Int32).toInt = (0 : Int32).toInt := fun z => c_323 (Int32.toInt_inj.mp z)
                          have z_4 := congrArg Int32.toInt c_330
                          have z_5 : ¬ (r_334 : Int32).toInt = (0 : Int32).toInt := fun z => c_337 (Int32.toInt_inj.mp z)
                          have z_6 := Int32.lt_iff_toInt_lt.mp (Int32.not_le.mp c_350)
                          have z_7 : ¬ (r_365 : Int32).toInt = (0 : Int32).toInt := fun z => c_368 (Int32.toInt_inj.mp z)
                          have y_0 : (0 : Int32).toInt = 0 := by decide
                          have y_32 : (32 : Int32).toInt = 32 := by decide
                          have y_1 : (1 : Int32).toInt = 1 := by decide
                          have t_x_372 : x_372.toInt = (vy_343 : Int32).toInt + (1 : Int32).toInt := by rw [ex_372]; exact add_toInt (by omega) (by omega)
                          omega
                        exact ih_345 x_372 _ _ _ (by omega) ha_374 (Rn.st pf_348 hr_375 he_360.1 (decide_eq_true hr_376) hi_377) (hP.sub [0, 1] rfl) (hD.sub [0, 1] rfl rfl) hS (lv_sub hl [0] rfl)
                exact loop_346 _ vy_2 _ _ _ (Nat.lt_succ_self _) pf_6 (Rn.rf) hP hD hS hl
            · skip
              have loop_382 : ∀ (n_380 : Nat) (vy_379 : Int32) (H : Heap) (locs : List Loc) (ls : Array Slot), (401 - (vy_379 : Int32).toInt).toNat < n_380 → (0 ≤ (vy_379 : Int32).toInt ∧ (vy_379 : Int32).toInt ≤ 400) → (Rn pz_isL (Tf 1) (Tv 0) vy_2 vy_379) → va_P D classes [((Ta 0), .inr (10, [.ref (Ta 1), .int (Tv 0), .int vy_2, .int vy_379, .int (-1), .int (Tv 4)])), ((Ta 1), .inl (tc 0, 400, .inl (Tf 1)))] H → va_D A [((Ta 0), .inr (10, [.ref (Ta 1), .int (Tv 0), .int vy_2, .int vy_379, .int (-1), .int (Tv 4)])), ((Ta 1), .inl (tc 0, 400, .inl (Tf 1)))] → va_S A s.heap H locs → lv_has ls 2 [(0, .ref (Ta 0))] → W p l e ({ frames := 1, cells := 0, slots := 0, locals := 21 }) s m ([.ref (Ta 0)].toArray) below meth c H locs 0 0 (MQ below (QW (fun (v : Option Value) (u : (Int32) × (Int32) × (Int32)) => match u with | (oo0x1, oo0x2, oo0x3) => v = none ∧ (0 ≤ ((Tv 0) : Int32).toInt ∧ ((Tv 0) : Int32).toInt ≤ 400 ∧ 0 ≤ (oo0x1 : Int32).toInt ∧ (oo0x1 : Int32).toInt ≤ 400 ∧ 0 ≤ (oo0x2 : Int32).toInt ∧ (oo0x2 : Int32).toInt ≤ 400) ∧ (TpR (Tf 1) (Tv 0) (rSK (cB (Tf 1) (Tv 0)) rr) oo0x1 oo0x2 oo0x3 (Tv 4))) (BW D (fun (u : (Int32) × (Int32) × (Int32)) => match u with | (oo0x1, oo0x2, oo0x3) => [((Ta 0), .inr (10, [.ref (Ta 1), .int (Tv 0), .int oo0x1, .int oo0x2, .int oo0x3, .int (Tv 4)])), ((Ta 1), .inl (tc 0, 400, .inl (Tf 1)))]) A) A) ([.ref (Ta 0)].toArray) s 0 0 A) (F0 m 86 ls []) := by
                clear hP hD hS hl
                intro n_380
                induction n_380 with
                | zero =>
                  intro vy_379 H locs ls h1
                  exact absurd h1 (Nat.not_lt_zero _)
                | succ n_380 ih_381 =>
                  intro vy_379 H locs ls hn_385 pf_383 pf_384 hP hD hS hl
                  refine lv_aload_n hx hb dX10_step_86 rfl (lv_at hl 0 rfl) ?_
                  refine gf_X10_22 hx hb hts hown hK hP 0 rfl rfl dX10_step_87 ?_
                  refine lv_aload_n hx hb dX10_step_90 rfl (lv_at hl 0 rfl) ?_
                  refine gf_X10_15 hx hb hts hown hK hP 0 rfl rfl dX10_step_91 ?_
                  refine lv_icmp_ge (tgt := 242) hx hb dX10_step_94 (by decide) (fun c_386 => ?_) (fun c_386 => ?_)
                  · skip
                    have ha_387 : 0 ≤ ((Tv 0) : Int32).toInt ∧ ((Tv 0) : Int32).toInt ≤ 400 ∧ 0 ≤ (vy_2 : Int32).toInt ∧ (vy_2 : Int32).toInt ≤ 400 ∧ 0 ≤ (vy_379 : Int32).toInt ∧ (vy_379 : Int32).toInt ≤ 400 := by
                      have z_1 := Int32.lt_iff_toInt_lt.mp (Int32.not_le.mp c_9)
                      have z_2 : ¬ (r_319 : Int32).toInt = (32 : Int32).toInt := fun z => c_322 (Int32.toInt_inj.mp z)
                      have z_3 : ¬ ((Tv 4) : Int32).toInt = (0 : Int32).toInt := fun z => c_323 (Int32.toInt_inj.mp z)
                      have z_4 : ¬ (r_327 : Int32).toInt = (0 : Int32).toInt := fun z => c_330 (Int32.toInt_inj.mp z)
                      have z_5 := Int32.le_iff_toInt_le.mp c_386
                      have y_0 : (0 : Int32).toInt = 0 := by decide
                      have y_32 : (32 : Int32).toInt = 32 := by decide
                      omega
                    have hr_388 : ¬ ((Tv 4) : Int32).toInt = 0 := by
                      have z_1 := Int32.lt_iff_toInt_lt.mp (Int32.not_le.mp c_9)
                      have z_2 : ¬ (r_319 : Int32).toInt = (32 : Int32).toInt := fun z => c_322 (Int32.toInt_inj.mp z)
                      have z_3 : ¬ ((Tv 4) : Int32).toInt = (0 : Int32).toInt := fun z => c_323 (Int32.toInt_inj.mp z)
                      have z_4 : ¬ (r_327 : Int32).toInt = (0 : Int32).toInt := fun z => c_330 (Int32.toInt_inj.mp z)
                      have z_5 := Int32.le_iff_toInt_le.mp c_386
                      have y_0 : (0 : Int32).toInt = 0 := by decide
                      have y_32 : (32 : Int32).toInt = 32 := by decide
                      omega
                    have hr_389 : ((-1) : Int32).toInt = -1 := by
                      have z_1 := Int32.lt_iff_toInt_lt.mp (Int32.not_le.mp c_9)
                      have z_2 : ¬ (r_319 : Int32).toInt = (32 : Int32).toInt := fun z => c_322 (Int32.toInt_inj.mp z)
                      have z_3 : ¬ ((Tv 4) : Int32).toInt = (0 : Int32).toInt := fun z => c_323 (Int32.toInt_inj.mp z)
                      have z_4 : ¬ (r_327 : Int32).toInt = (0 : Int32).toInt := fun z => c_330 (Int32.toInt_inj.mp z)
                      have z_5 := Int32.le_iff_toInt_le.mp c_386
                      have y_0 : (0 : Int32).toInt = 0 := by decide
                      have y_32 : (32 : Int32).toInt = 32 := by decide
                      have y_m1 : (-1 : Int32).toInt = -1 := by decide
                      omega
                    exact retV hx hb hr hlk hP hD hS (vy_2, vy_379, (-1)) ⟨rfl, ha_387, (TpB.er h_tb hr_388 hr_389)⟩ [0, 1] rfl rfl dX10_step_242 (Nat.le_of_ble_eq_true rfl) (Nat.le_of_ble_eq_true rfl) rfl
                  · skip
                    refine lv_aload_n hx hb dX10_step_97 rfl (lv_at hl 0 rfl) ?_
                    refine lv_aload_n hx hb dX10_step_98 rfl (lv_at hl 0 rfl) ?_
                    refine gf_X10_22 hx hb hts hown hK hP 0 rfl rfl dX10_step_99 ?_
                    have ha_390 : 0 ≤ ((Tv 0) : Int32).toInt ∧ ((Tv 0) : Int32).toInt ≤ 400 ∧ 0 ≤ (vy_2 : Int32).toInt ∧ (vy_2 : Int32).toInt ≤ 400 ∧ 0 ≤ (vy_379 : Int32).toInt ∧ (vy_379 : Int32).toInt ≤ 400 := by
                      have z_1 := Int32.lt_iff_toInt_lt.mp (Int32.not_le.mp c_9)
                      have z_2 : ¬ (r_319 : Int32).toInt = (32 : Int32).toInt := fun z => c_322 (Int32.toInt_inj.mp z)
                      have z_3 : ¬ ((Tv 4) : Int32).toInt = (0 : Int32).toInt := fun z => c_323 (Int32.toInt_inj.mp z)
                      have z_4 : ¬ (r_327 : Int32).toInt = (0 : Int32).toInt := fun z => c_330 (Int32.toInt_inj.mp z)
                      have z_5 := Int32.lt_iff_toInt_lt.mp (Int32.not_le.mp c_386)
                      have y_0 : (0 : Int32).toInt = 0 := by decide
                      have y_32 : (32 : Int32).toInt = 32 := by decide
                      omega
                    have ha_391 : 0 ≤ vy_379.toInt := by
                      have z_1 := Int32.lt_iff_toInt_lt.mp (Int32.not_le.mp c_9)
                      have z_2 : ¬ (r_319 : Int32).toInt = (32 : Int32).toInt := fun z => c_322 (Int32.toInt_inj.mp z)
                      have z_3 : ¬ ((Tv 4) : Int32).toInt = (0 : Int32).toInt := fun z => c_323 (Int32.toInt_inj.mp z)
                      have z_4 : ¬ (r_327 : Int32).toInt = (0 : Int32).toInt := fun z => c_330 (Int32.toInt_inj.mp z)
                      have z_5 := Int32.lt_iff_toInt_lt.mp (Int32.not_le.mp c_386)
                      have y_0 : (0 : Int32).toInt = 0 := by decide
                      have y_32 : (32 : Int32).toInt = 32 := by decide
                      omega
                    refine cV (a := (Ta 0)) (As := [.int vy_379]) (rest := []) (wr := []) ⟨hx, hb, hml, hown, hts⟩ hK hX hA (cu_fX10_byteAt l D tc sk (Ta 0) (Ta 1) (Tv 0) vy_2 vy_379 (-1) (Tv 4) (Tf 1) vy_379 ha_390 h_by ha_391) k_482 k_479 k_481 k_0 k_96 pl_X10_byteAt ⟨Nat.le_of_ble_eq_true rfl, Nat.le_of_ble_eq_true rfl⟩ rfl rfl (va_recv hK hP (ci := 10) (q0 := 0) rfl rfl) hP hD hS [0, 1] [] rfl rfl rfl rfl rfl (by decide) rfl hl.1 rfl (Nat.le_of_ble_eq_true rfl) dX10_step_102 ⟨Nat.le_of_ble_eq_true rfl, Nat.le_of_ble_eq_true rfl⟩ (fun v_392 u_393 H locs hv_394 hP₀ hD₀ hS₀ => ?_)
                    obtain ⟨r_395, rfl, he_396⟩ := hv_394
                    have he_396 : (r_395.toInt = cB (Tf 1) (Tv 0) vy_379.toInt.toNat ∧ (((Tv 0).toInt ≤ vy_379.toInt ∧ r_395.toInt = -1) ∨ (vy_379.toInt < (Tv 0).toInt ∧ 0 ≤ r_395.toInt ∧ r_395.toInt ≤ 255))) := he_396
                    refine W.eq (g2 := F0 m 105 ls [.int r_395]) rfl ?_
                    replace hP : va_P D classes [((Ta 0), .inr (10, [.ref (Ta 1), .int (Tv 0), .int vy_2, .int vy_379, .int (-1), .int (Tv 4)])), ((Ta 1), .inl (tc 0, 400, .inl (Tf 1)))] H := hP₀
                    replace hD : va_D A [((Ta 0), .inr (10, [.ref (Ta 1), .int (Tv 0), .int vy_2, .int vy_379, .int (-1), .int (Tv 4)])), ((Ta 1), .inl (tc 0, 400, .inl (Tf 1)))] := hD₀
                    replace hS := hS₀
                    clear hP₀ hD₀ hS₀
                    refine cS (As := [.int r_395]) (rest := []) (wr := [((Ta 0), .inr (10, [.ref (Ta 1), .int (Tv 0), .int vy_2, .int vy_379, .int (-1), .int (Tv 4)])), ((Ta 1), .inl (tc 0, 400, .inl (Tf 1)))]) ⟨hx, hb, hml, hown, hts⟩ hK hX hA (ct_fX10_isLetter l D tc sk r_395) k_485 k_483 k_484 k_96 pl_X10_isLetter ⟨Nat.le_of_ble_eq_true rfl, Nat.le_of_ble_eq_true rfl⟩ rfl rfl  hP hD hS [] [0, 1] rfl rfl rfl rfl rfl (by decide) rfl hl.1 rfl (Nat.le_of_ble_eq_true rfl) dX10_step_105 ⟨Nat.le_of_ble_eq_true rfl, Nat.le_of_ble_eq_true rfl⟩ (fun v_398 u_399 H locs hv_400 hP₀ hD₀ hS₀ => ?_)
                    obtain ⟨r_401, rfl, he_402⟩ := hv_400
                    have he_402 : ((r_401.toInt = 1 ∧ 97 ≤ r_395.toInt ∧ r_395.toInt ≤ 122) ∨ (r_401.toInt = 0 ∧ (r_395.toInt < 97 ∨ 122 < r_395.toInt))) := he_402
                    refine W.eq (g2 := F0 m 108 ls [.int r_401]) rfl ?_
                    replace hP : va_P D classes [((Ta 0), .inr (10, [.ref (Ta 1), .int (Tv 0), .int vy_2, .int vy_379, .int (-1), .int (Tv 4)])), ((Ta 1), .inl (tc 0, 400, .inl (Tf 1)))] H := hP₀
                    replace hD : va_D A [((Ta 0), .inr (10, [.ref (Ta 1), .int (Tv 0), .int vy_2, .int vy_379, .int (-1), .int (Tv 4)])), ((Ta 1), .inl (tc 0, 400, .inl (Tf 1)))] := hD₀
                    replace hS := hS₀
                    clear hP₀ hD₀ hS₀
                    refine lv_if_eq (tgt := 242) hx hb dX10_step_108 (by decide) (fun c_404 => ?_) (fun c_404 => ?_)
                    · skip
                      have ha_405 : 0 ≤ ((Tv 0) : Int32).toInt ∧ ((Tv 0) : Int32).toInt ≤ 400 ∧ 0 ≤ (vy_2 : Int32).toInt ∧ (vy_2 : Int32).toInt ≤ 400 ∧ 0 ≤ (vy_379 : Int32).toInt ∧ (vy_379 : Int32).toInt ≤ 400 := by
                        have z_1 := Int32.lt_iff_toInt_lt.mp (Int32.not_le.mp c_9)
                        have z_2 : ¬ (r_319 : Int32).toInt = (32 : Int32).toInt := fun z => c_322 (Int32.toInt_inj.mp z)
                        have z_3 : ¬ ((Tv 4) : Int32).toInt = (0 : Int32).toInt := fun z => c_323 (Int32.toInt_inj.mp z)
                        have z_4 : ¬ (r_327 : Int32).toInt = (0 : Int32).toInt := fun z => c_330 (Int32.toInt_inj.mp z)
                        have z_5 := Int32.lt_iff_toInt_lt.mp (Int32.not_le.mp c_386)
                        have z_6 := congrArg Int32.toInt c_404
                        have y_0 : (0 : Int32).toInt = 0 := by decide
                        have y_32 : (32 : Int32).toInt = 32 := by decide
                        omega
                      have hr_406 : ¬ ((Tv 4) : Int32).toInt = 0 := by
                        have z_1 := Int32.lt_iff_toInt_lt.mp (Int32.not_le.mp c_9)
                        have z_2 : ¬ (r_319 : Int32).toInt = (32 : Int32).toInt := fun z => c_322 (Int32.toInt_inj.mp z)
                        have z_3 : ¬ ((Tv 4) : Int32).toInt = (0 : Int32).toInt := fun z => c_323 (Int32.toInt_inj.mp z)
                        have z_4 : ¬ (r_327 : Int32).toInt = (0 : Int32).toInt := fun z => c_330 (Int32.toInt_inj.mp z)
                        have z_5 := Int32.lt_iff_toInt_lt.mp (Int32.not_le.mp c_386)
                        have z_6 := congrArg Int32.toInt c_404
                        have y_0 : (0 : Int32).toInt = 0 := by decide
                        have y_32 : (32 : Int32).toInt = 32 := by decide
                        omega
                      have hr_407 : ((-1) : Int32).toInt = -1 := by
                        have z_1 := Int32.lt_iff_toInt_lt.mp (Int32.not_le.mp c_9)
                        have z_2 : ¬ (r_319 : Int32).toInt = (32 : Int32).toInt := fun z => c_322 (Int32.toInt_inj.mp z)
                        have z_3 : ¬ ((Tv 4) : Int32).toInt = (0 : Int32).toInt := fun z => c_323 (Int32.toInt_inj.mp z)
                        have z_4 : ¬ (r_327 : Int32).toInt = (0 : Int32).toInt := fun z => c_330 (Int32.toInt_inj.mp z)
                        have z_5 := Int32.lt_iff_toInt_lt.mp (Int32.not_le.mp c_386)
                        have z_6 := congrArg Int32.toInt c_404
                        have y_0 : (0 : Int32).toInt = 0 := by decide
                        have y_32 : (32 : Int32).toInt = 32 := by decide
                        have y_m1 : (-1 : Int32).toInt = -1 := by decide
                        omega
                      exact retV hx hb hr hlk hP hD hS (vy_2, vy_379, (-1)) ⟨rfl, ha_405, (TpB.er h_tb hr_406 hr_407)⟩ [0, 1] rfl rfl dX10_step_242 (Nat.le_of_ble_eq_true rfl) (Nat.le_of_ble_eq_true rfl) rfl
                    · skip
                      refine lv_aload_n hx hb dX10_step_111 rfl (lv_at hl 0 rfl) ?_
                      refine lv_dup hx hb dX10_step_112 rfl ?_
                      refine gf_X10_22 hx hb hts hown hK hP 0 rfl rfl dX10_step_113 ?_
                      refine lv_iconst (v := 1) hx hb dX10_step_116 (by decide) ?_
                      refine lv_iadd hx hb dX10_step_117 ?_
                      refine lv_topi (fun x_408 ex_408 => ?_)
                      refine pf_X10_22 hx hb hts hown hK hP hD hS 0 rfl (Nat.le_of_ble_eq_true rfl) rfl rfl dX10_step_118 (fun H locs hP₀ hD₀ hS₀ => ?_)
                      replace hP : va_P D classes [((Ta 0), .inr (10, [.ref (Ta 1), .int (Tv 0), .int vy_2, .int x_408, .int (-1), .int (Tv 4)])), ((Ta 1), .inl (tc 0, 400, .inl (Tf 1)))] H := hP₀
                      replace hD : va_D A [((Ta 0), .inr (10, [.ref (Ta 1), .int (Tv 0), .int vy_2, .int x_408, .int (-1), .int (Tv 4)])), ((Ta 1), .inl (tc 0, 400, .inl (Tf 1)))] := hD₀
                      replace hS := hS₀
                      clear hP₀ hD₀ hS₀
                      refine lv_goto (tgt := 86) hx hb dX10_step_121 (by decide) ?_
                      have hb_409 : 401 - (x_408 : Int32).toInt < 401 - (vy_379 : Int32).toInt ∧ 1 ≤ 401 - (vy_379 : Int32).toInt := by
                        have z_1 := Int32.lt_iff_toInt_lt.mp (Int32.not_le.mp c_9)
                        have z_2 : ¬ (r_319 : Int32).toInt = (32 : Int32).toInt := fun z => c_322 (Int32.toInt_inj.mp z)
                        have z_3 : ¬ ((Tv 4) : Int32).toInt = (0 : Int32).toInt := fun z => c_323 (Int32.toInt_inj.mp z)
                        have z_4 : ¬ (r_327 : Int32).toInt = (0 : Int32).toInt := fun z => c_330 (Int32.toInt_inj.mp z)
                        have z_5 := Int32.lt_iff_toInt_lt.mp (Int32.not_le.mp c_386)
                        have z_6 : ¬ (r_401 : Int32).toInt = (0 : Int32).toInt := fun z => c_404 (Int32.toInt_inj.mp z)
                        have y_0 : (0 : Int32).toInt = 0 := by decide
                        have y_32 : (32 : Int32).toInt = 32 := by decide
                        have y_1 : (1 : Int32).toInt = 1 := by decide
                        have t_x_408 : x_408.toInt = (vy_379 : Int32).toInt + (1 : Int32).toInt := by rw [ex_408]; exact add_toInt (by omega) (by omega)
                        omega
                      have ha_410 : 0 ≤ (x_408 : Int32).toInt ∧ (x_408 : Int32).toInt ≤ 400 := by
                        have z_1 := Int32.lt_iff_toInt_lt.mp (Int32.not_le.mp c_9)
                        have z_2 : ¬ (r_319 : Int32).toInt = (32 : Int32).toInt := fun z => c_322 (Int32.toInt_inj.mp z)
                        have z_3 : ¬ ((Tv 4) : Int32).toInt = (0 : Int32).toInt := fun z => c_323 (Int32.toInt_inj.mp z)
                        have z_4 : ¬ (r_327 : Int32).toInt = (0 : Int32).toInt := fun z => c_330 (Int32.toInt_inj.mp z)
                        have z_5 := Int32.lt_iff_toInt_lt.mp (Int32.not_le.mp c_386)
                        have z_6 : ¬ (r_401 : Int32).toInt = (0 : Int32).toInt := fun z => c_404 (Int32.toInt_inj.mp z)
                        have y_0 : (0 : Int32).toInt = 0 := by decide
                        have y_32 : (32 : Int32).toInt = 32 := by decide
                        have y_1 : (1 : Int32).toInt = 1 := by decide
                        have t_x_408 : x_408.toInt = (vy_379 : Int32).toInt + (1 : Int32).toInt := by rw [ex_408]; exact add_toInt (by omega) (by omega)
                        omega
                      have hr_411 : 0 ≤ (vy_379 : Int32).toInt := by
                        have z_1 := Int32.lt_iff_toInt_lt.mp (Int32.not_le.mp c_9)
                        have z_2 : ¬ (r_319 : Int32).toInt = (32 : Int32).toInt := fun z => c_322 (Int32.toInt_inj.mp z)
                        have z_3 : ¬ ((Tv 4) : Int32).toInt = (0 : Int32).toInt := fun z => c_323 (Int32.toInt_inj.mp z)
                        have z_4 : ¬ (r_327 : Int32).toInt = (0 : Int32).toInt := fun z => c_330 (Int32.toInt_inj.mp z)
                        have z_5 := Int32.lt_iff_toInt_lt.mp (Int32.not_le.mp c_386)
                        have z_6 : ¬ (r_401 : Int32).toInt = (0 : Int32).toInt := fun z => c_404 (Int32.toInt_inj.mp z)
                        have y_0 : (0 : Int32).toInt = 0 := by decide
                        have y_32 : (32 : Int32).toInt = 32 := by decide
                        omega
                      have hr_412 : 97 ≤ (r_395 : Int32).toInt ∧ (r_395 : Int32).toInt ≤ 122 := by
                        have z_1 := Int32.lt_iff_toInt_lt.mp (Int32.not_le.mp c_9)
                        have z_2 : ¬ (r_319 : Int32).toInt = (32 : Int32).toInt := fun z => c_322 (Int32.toInt_inj.mp z)
                        have z_3 : ¬ ((Tv 4) : Int32).toInt = (0 : Int32).toInt := fun z => c_323 (Int32.toInt_inj.mp z)
                        have z_4 : ¬ (r_327 : Int32).toInt = (0 : Int32).toInt := fun z => c_330 (Int32.toInt_inj.mp z)
                        have z_5 := Int32.lt_iff_toInt_lt.mp (Int32.not_le.mp c_386)
                        have z_6 : ¬ (r_401 : Int32).toInt = (0 : Int32).toInt := fun z => c_404 (Int32.toInt_inj.mp z)
                        have y_0 : (0 : Int32).toInt = 0 := by decide
                        have y_32 : (32 : Int32).toInt = 32 := by decide
                        omega
                      have hi_413 : (x_408 : Int32).toInt = (vy_379 : Int32).toInt + 1 := by
                        have z_1 := Int32.lt_iff_toInt_lt.mp (Int32.not_le.mp c_9)
                        have z_2 : ¬ (r_319 : Int32).toInt = (32 : Int32).toInt := fun z => c_322 (Int32.toInt_inj.mp z)
                        have z_3 : ¬ ((Tv 4) : Int32).toInt = (0 : Int32).toInt := fun z => c_323 (Int32.toInt_inj.mp z)
                        have z_4 : ¬ (r_327 : Int32).toInt = (0 : Int32).toInt := fun z => c_330 (Int32.toInt_inj.mp z)
                        have z_5 := Int32.lt_iff_toInt_lt.mp (Int32.not_le.mp c_386)
                        have z_6 : ¬ (r_401 : Int32).toInt = (0 : Int32).toInt := fun z => c_404 (Int32.toInt_inj.mp z)
                        have y_0 : (0 : Int32).toInt = 0 := by decide
                        have y_32 : (32 : Int32).toInt = 32 := by decide
                        have y_1 : (1 : Int32).toInt = 1 := by decide
                        have t_x_408 : x_408.toInt = (vy_379 : Int32).toInt + (1 : Int32).toInt := by rw [ex_408]; exact add_toInt (by omega) (by omega)
                        omega
                      exact ih_381 x_408 _ _ _ (by omega) ha_410 (Rn.st pf_384 hr_411 he_396.1 (decide_eq_true hr_412) hi_413) (hP.sub [0, 1] rfl) (hD.sub [0, 1] rfl rfl) hS (lv_sub hl [0] rfl)
              exact loop_382 _ vy_2 _ _ _ (Nat.lt_succ_self _) pf_6 (Rn.rf) hP hD hS hl
          · skip
            refine lv_aload_n hx hb dX10_step_61 rfl (lv_at hl 0 rfl) ?_
            refine lv_aload_n hx hb dX10_step_62 rfl (lv_at hl 0 rfl) ?_
            refine gf_X10_19 hx hb hts hown hK hP 0 rfl rfl dX10_step_63 ?_
            have ha_414 : 0 ≤ ((Tv 0) : Int32).toInt ∧ ((Tv 0) : Int32).toInt ≤ 400 ∧ 0 ≤ (vy_2 : Int32).toInt ∧ (vy_2 : Int32).toInt ≤ 400 ∧ 0 ≤ (vy_2 : Int32).toInt ∧ (vy_2 : Int32).toInt ≤ 400 := by
              have z_1 := Int32.lt_iff_toInt_lt.mp (Int32.not_le.mp c_9)
              have z_2 : ¬ (r_319 : Int32).toInt = (32 : Int32).toInt := fun z => c_322 (Int32.toInt_inj.mp z)
              have z_3 := congrArg Int32.toInt c_323
              have y_0 : (0 : Int32).toInt = 0 := by decide
              have y_32 : (32 : Int32).toInt = 32 := by decide
              omega
            have ha_415 : 0 ≤ vy_2.toInt := by
              have z_1 := Int32.lt_iff_toInt_lt.mp (Int32.not_le.mp c_9)
              have z_2 : ¬ (r_319 : Int32).toInt = (32 : Int32).toInt := fun z => c_322 (Int32.toInt_inj.mp z)
              have z_3 := congrArg Int32.toInt c_323
              have y_0 : (0 : Int32).toInt = 0 := by decide
              have y_32 : (32 : Int32).toInt = 32 := by decide
              omega
            refine cV (a := (Ta 0)) (As := [.int vy_2]) (rest := [.ref (Ta 0)]) (wr := []) ⟨hx, hb, hml, hown, hts⟩ hK hX hA (cu_fX10_byteAt l D tc sk (Ta 0) (Ta 1) (Tv 0) vy_2 vy_2 (Tv 3) (Tv 4) (Tf 1) vy_2 ha_414 h_by ha_415) k_482 k_479 k_481 k_0 k_96 pl_X10_byteAt ⟨Nat.le_of_ble_eq_true rfl, Nat.le_of_ble_eq_true rfl⟩ rfl rfl (va_recv hK hP (ci := 10) (q0 := 0) rfl rfl) hP hD hS [0, 1] [] rfl rfl rfl rfl rfl (by decide) rfl hl.1 rfl (Nat.le_of_ble_eq_true rfl) dX10_step_66 ⟨Nat.le_of_ble_eq_true rfl, Nat.le_of_ble_eq_true rfl⟩ (fun v_416 u_417 H locs hv_418 hP₀ hD₀ hS₀ => ?_)
            obtain ⟨r_419, rfl, he_420⟩ := hv_418
            have he_420 : (r_419.toInt = cB (Tf 1) (Tv 0) vy_2.toInt.toNat ∧ (((Tv 0).toInt ≤ vy_2.toInt ∧ r_419.toInt = -1) ∨ (vy_2.toInt < (Tv 0).toInt ∧ 0 ≤ r_419.toInt ∧ r_419.toInt ≤ 255))) := he_420
            refine W.eq (g2 := F0 m 69 ls [.int r_419, .ref (Ta 0)]) rfl ?_
            replace hP : va_P D classes [((Ta 0), .inr (10, [.ref (Ta 1), .int (Tv 0), .int vy_2, .int vy_2, .int (Tv 3), .int (Tv 4)])), ((Ta 1), .inl (tc 0, 400, .inl (Tf 1)))] H := hP₀
            replace hD : va_D A [((Ta 0), .inr (10, [.ref (Ta 1), .int (Tv 0), .int vy_2, .int vy_2, .int (Tv 3), .int (Tv 4)])), ((Ta 1), .inl (tc 0, 400, .inl (Tf 1)))] := hD₀
            replace hS := hS₀
            clear hP₀ hD₀ hS₀
            refine lv_goto (tgt := 73) hx hb dX10_step_69 (by decide) ?_
            refine pf_X10_25 hx hb hts hown hK hP hD hS 0 rfl (Nat.le_of_ble_eq_true rfl) rfl rfl dX10_step_73 (fun H locs hP₀ hD₀ hS₀ => ?_)
            replace hP : va_P D classes [((Ta 0), .inr (10, [.ref (Ta 1), .int (Tv 0), .int vy_2, .int vy_2, .int r_419, .int (Tv 4)])), ((Ta 1), .inl (tc 0, 400, .inl (Tf 1)))] H := hP₀
            replace hD : va_D A [((Ta 0), .inr (10, [.ref (Ta 1), .int (Tv 0), .int vy_2, .int vy_2, .int r_419, .int (Tv 4)])), ((Ta 1), .inl (tc 0, 400, .inl (Tf 1)))] := hD₀
            replace hS := hS₀
            clear hP₀ hD₀ hS₀
            refine lv_aload_n hx hb dX10_step_76 rfl (lv_at hl 0 rfl) ?_
            refine gf_X10_25 hx hb hts hown hK hP 0 rfl rfl dX10_step_77 ?_
            refine cS (As := [.int r_419]) (rest := []) (wr := [((Ta 0), .inr (10, [.ref (Ta 1), .int (Tv 0), .int vy_2, .int vy_2, .int r_419, .int (Tv 4)])), ((Ta 1), .inl (tc 0, 400, .inl (Tf 1)))]) ⟨hx, hb, hml, hown, hts⟩ hK hX hA (ct_fX10_isLetter l D tc sk r_419) k_485 k_483 k_484 k_96 pl_X10_isLetter ⟨Nat.le_of_ble_eq_true rfl, Nat.le_of_ble_eq_true rfl⟩ rfl rfl  hP hD hS [] [0, 1] rfl rfl rfl rfl rfl (by decide) rfl hl.1 rfl (Nat.le_of_ble_eq_true rfl) dX10_step_80 ⟨Nat.le_of_ble_eq_true rfl, Nat.le_of_ble_eq_true rfl⟩ (fun v_422 u_423 H locs hv_424 hP₀ hD₀ hS₀ => ?_)
            obtain ⟨r_425, rfl, he_426⟩ := hv_424
            have he_426 : ((r_425.toInt = 1 ∧ 97 ≤ r_419.toInt ∧ r_419.toInt ≤ 122) ∨ (r_425.toInt = 0 ∧ (r_419.toInt < 97 ∨ 122 < r_419.toInt))) := he_426
            refine W.eq (g2 := F0 m 83 ls [.int r_425]) rfl ?_
            replace hP : va_P D classes [((Ta 0), .inr (10, [.ref (Ta 1), .int (Tv 0), .int vy_2, .int vy_2, .int r_419, .int (Tv 4)])), ((Ta 1), .inl (tc 0, 400, .inl (Tf 1)))] H := hP₀
            replace hD : va_D A [((Ta 0), .inr (10, [.ref (Ta 1), .int (Tv 0), .int vy_2, .int vy_2, .int r_419, .int (Tv 4)])), ((Ta 1), .inl (tc 0, 400, .inl (Tf 1)))] := hD₀
            replace hS := hS₀
            clear hP₀ hD₀ hS₀
            refine lv_if_eq (tgt := 124) hx hb dX10_step_83 (by decide) (fun c_428 => ?_) (fun c_428 => ?_)
            · skip
              refine lv_aload_n hx hb dX10_step_124 rfl (lv_at hl 0 rfl) ?_
              refine gf_X10_25 hx hb hts hown hK hP 0 rfl rfl dX10_step_125 ?_
              refine cS (As := [.int r_419]) (rest := []) (wr := [((Ta 0), .inr (10, [.ref (Ta 1), .int (Tv 0), .int vy_2, .int vy_2, .int r_419, .int (Tv 4)])), ((Ta 1), .inl (tc 0, 400, .inl (Tf 1)))]) ⟨hx, hb, hml, hown, hts⟩ hK hX hA (ct_fX10_isDigit l D tc sk r_419) k_488 k_486 k_487 k_96 pl_X10_isDigit ⟨Nat.le_of_ble_eq_true rfl, Nat.le_of_ble_eq_true rfl⟩ rfl rfl  hP hD hS [] [0, 1] rfl rfl rfl rfl rfl (by decide) rfl hl.1 rfl (Nat.le_of_ble_eq_true rfl) dX10_step_128 ⟨Nat.le_of_ble_eq_true rfl, Nat.le_of_ble_eq_true rfl⟩ (fun v_429 u_430 H locs hv_431 hP₀ hD₀ hS₀ => ?_)
              obtain ⟨r_432, rfl, he_433⟩ := hv_431
              have he_433 : ((r_432.toInt = 1 ∧ 48 ≤ r_419.toInt ∧ r_419.toInt ≤ 57) ∨ (r_432.toInt = 0 ∧ (r_419.toInt < 48 ∨ 57 < r_419.toInt))) := he_433
              refine W.eq (g2 := F0 m 131 ls [.int r_432]) rfl ?_
              replace hP : va_P D classes [((Ta 0), .inr (10, [.ref (Ta 1), .int (Tv 0), .int vy_2, .int vy_2, .int r_419, .int (Tv 4)])), ((Ta 1), .inl (tc 0, 400, .inl (Tf 1)))] H := hP₀
              replace hD : va_D A [((Ta 0), .inr (10, [.ref (Ta 1), .int (Tv 0), .int vy_2, .int vy_2, .int r_419, .int (Tv 4)])), ((Ta 1), .inl (tc 0, 400, .inl (Tf 1)))] := hD₀
              replace hS := hS₀
              clear hP₀ hD₀ hS₀
              refine lv_if_eq (tgt := 172) hx hb dX10_step_131 (by decide) (fun c_435 => ?_) (fun c_435 => ?_)
              · skip
                refine lv_aload_n hx hb dX10_step_172 rfl (lv_at hl 0 rfl) ?_
                refine gf_X10_25 hx hb hts hown hK hP 0 rfl rfl dX10_step_173 ?_
                refine lv_iconst (v := (-1)) hx hb dX10_step_176 (by decide) ?_
                refine lv_icmp_eq (tgt := 242) hx hb dX10_step_177 (by decide) (fun c_436 => ?_) (fun c_436 => ?_)
                · skip
                  have ha_437 : 0 ≤ ((Tv 0) : Int32).toInt ∧ ((Tv 0) : Int32).toInt ≤ 400 ∧ 0 ≤ (vy_2 : Int32).toInt ∧ (vy_2 : Int32).toInt ≤ 400 ∧ 0 ≤ (vy_2 : Int32).toInt ∧ (vy_2 : Int32).toInt ≤ 400 := by
                    have z_1 := Int32.lt_iff_toInt_lt.mp (Int32.not_le.mp c_9)
                    have z_2 : ¬ (r_319 : Int32).toInt = (32 : Int32).toInt := fun z => c_322 (Int32.toInt_inj.mp z)
                    have z_3 := congrArg Int32.toInt c_323
                    have z_4 := congrArg Int32.toInt c_428
                    have z_5 := congrArg Int32.toInt c_435
                    have z_6 := congrArg Int32.toInt c_436
                    have y_m1 : (-1 : Int32).toInt = -1 := by decide
                    have y_0 : (0 : Int32).toInt = 0 := by decide
                    have y_32 : (32 : Int32).toInt = 32 := by decide
                    omega
                  have rg_438 := cB_rg (n := (Tv 0)) h_by (vy_2 : Int32).toInt.toNat
                  have h2_439 : ¬ cB (Tf 1) (Tv 0) (vy_2 : Int32).toInt.toNat = 32 := by
                    have z_1 := Int32.lt_iff_toInt_lt.mp (Int32.not_le.mp c_9)
                    have z_2 : ¬ (r_319 : Int32).toInt = (32 : Int32).toInt := fun z => c_322 (Int32.toInt_inj.mp z)
                    have z_3 := congrArg Int32.toInt c_323
                    have z_4 := congrArg Int32.toInt c_428
                    have z_5 := congrArg Int32.toInt c_435
                    have z_6 := congrArg Int32.toInt c_436
                    have y_m1 : (-1 : Int32).toInt = -1 := by decide
                    have y_0 : (0 : Int32).toInt = 0 := by decide
                    have y_32 : (32 : Int32).toInt = 32 := by decide
                    omega
                  have hr_440 : 0 ≤ (vy_2 : Int32).toInt := by
                    have z_1 := Int32.lt_iff_toInt_lt.mp (Int32.not_le.mp c_9)
                    have z_2 : ¬ (r_319 : Int32).toInt = (32 : Int32).toInt := fun z => c_322 (Int32.toInt_inj.mp z)
                    have z_3 := congrArg Int32.toInt c_323
                    have z_4 := congrArg Int32.toInt c_428
                    have z_5 := congrArg Int32.toInt c_435
                    have z_6 := congrArg Int32.toInt c_436
                    have y_m1 : (-1 : Int32).toInt = -1 := by decide
                    have y_0 : (0 : Int32).toInt = 0 := by decide
                    have y_32 : (32 : Int32).toInt = 32 := by decide
                    omega
                  have hr_441 : (r_419 : Int32).toInt = -1 := by
                    have z_1 := Int32.lt_iff_toInt_lt.mp (Int32.not_le.mp c_9)
                    have z_2 : ¬ (r_319 : Int32).toInt = (32 : Int32).toInt := fun z => c_322 (Int32.toInt_inj.mp z)
                    have z_3 := congrArg Int32.toInt c_323
                    have z_4 := congrArg Int32.toInt c_428
                    have z_5 := congrArg Int32.toInt c_435
                    have z_6 := congrArg Int32.toInt c_436
                    have y_m1 : (-1 : Int32).toInt = -1 := by decide
                    have y_0 : (0 : Int32).toInt = 0 := by decide
                    have y_32 : (32 : Int32).toInt = 32 := by decide
                    omega
                  have hr_442 : ((Tv 4) : Int32).toInt = 0 := by
                    have z_1 := Int32.lt_iff_toInt_lt.mp (Int32.not_le.mp c_9)
                    have z_2 : ¬ (r_319 : Int32).toInt = (32 : Int32).toInt := fun z => c_322 (Int32.toInt_inj.mp z)
                    have z_3 := congrArg Int32.toInt c_323
                    have z_4 := congrArg Int32.toInt c_428
                    have z_5 := congrArg Int32.toInt c_435
                    have z_6 := congrArg Int32.toInt c_436
                    have y_m1 : (-1 : Int32).toInt = -1 := by decide
                    have y_0 : (0 : Int32).toInt = 0 := by decide
                    have y_32 : (32 : Int32).toInt = 32 := by decide
                    omega
                  have hr_443 : (vy_2 : Int32).toInt ≤ 400 := by
                    have z_1 := Int32.lt_iff_toInt_lt.mp (Int32.not_le.mp c_9)
                    have z_2 : ¬ (r_319 : Int32).toInt = (32 : Int32).toInt := fun z => c_322 (Int32.toInt_inj.mp z)
                    have z_3 := congrArg Int32.toInt c_323
                    have z_4 := congrArg Int32.toInt c_428
                    have z_5 := congrArg Int32.toInt c_435
                    have z_6 := congrArg Int32.toInt c_436
                    have y_m1 : (-1 : Int32).toInt = -1 := by decide
                    have y_0 : (0 : Int32).toInt = 0 := by decide
                    have y_32 : (32 : Int32).toInt = 32 := by decide
                    omega
                  exact retV hx hb hr hlk hP hD hS (vy_2, vy_2, r_419) ⟨rfl, ha_437, (TpB.at h_tb hr_442 h_tape.2.2.2.2.1 pf_7 hr_443 h2_439 (te_0 hr_440 he_420.1 hr_441) he_420.1)⟩ [0, 1] rfl rfl dX10_step_242 (Nat.le_of_ble_eq_true rfl) (Nat.le_of_ble_eq_true rfl) rfl
                · skip
                  refine lv_aload_n hx hb dX10_step_180 rfl (lv_at hl 0 rfl) ?_
                  refine gf_X10_25 hx hb hts hown hK hP 0 rfl rfl dX10_step_181 ?_
                  refine lv_bipush (v := 60) hx hb dX10_step_184 (by decide) ?_
                  refine lv_icmp_eq (tgt := 198) hx hb dX10_step_186 (by decide) (fun c_444 => ?_) (fun c_444 => ?_)
                  · skip
                    refine lv_iconst (v := 1) hx hb dX10_step_198 (by decide) ?_
                    refine lv_goto (tgt := 203) hx hb dX10_step_199 (by decide) ?_
                    refine lv_istore_n (lv' := [(1, .int 1), (0, .ref (Ta 0))]) hx hb dX10_step_203 rfl hl (by decide) rfl (fun ls hl₀ => ?_)
                    replace hl := hl₀
                    clear hl₀
                    refine lv_aload_n hx hb dX10_step_204 rfl (lv_at hl 1 rfl) ?_
                    refine lv_iload_n hx hb dX10_step_205 rfl (lv_at hl 0 rfl) ?_
                    refine lv_if_eq (tgt := 233) hx hb dX10_step_206 (by decide) (fun c_445 => absurd c_445 (by decide)) (fun c_445 => ?_)
                    refine lv_aload_n hx hb dX10_step_209 rfl (lv_at hl 1 rfl) ?_
                    refine lv_aload_n hx hb dX10_step_210 rfl (lv_at hl 1 rfl) ?_
                    refine gf_X10_19 hx hb hts hown hK hP 0 rfl rfl dX10_step_211 ?_
                    refine lv_iconst (v := 1) hx hb dX10_step_214 (by decide) ?_
                    refine lv_iadd hx hb dX10_step_215 ?_
                    refine lv_topi (fun x_446 ex_446 => ?_)
                    have ha_447 : 0 ≤ ((Tv 0) : Int32).toInt ∧ ((Tv 0) : Int32).toInt ≤ 400 ∧ 0 ≤ (vy_2 : Int32).toInt ∧ (vy_2 : Int32).toInt ≤ 400 ∧ 0 ≤ (vy_2 : Int32).toInt ∧ (vy_2 : Int32).toInt ≤ 400 := by
                      have z_1 := Int32.lt_iff_toInt_lt.mp (Int32.not_le.mp c_9)
                      have z_2 : ¬ (r_319 : Int32).toInt = (32 : Int32).toInt := fun z => c_322 (Int32.toInt_inj.mp z)
                      have z_3 := congrArg Int32.toInt c_323
                      have z_4 := congrArg Int32.toInt c_428
                      have z_5 := congrArg Int32.toInt c_435
                      have z_6 : ¬ (r_419 : Int32).toInt = ((-1) : Int32).toInt := fun z => c_436 (Int32.toInt_inj.mp z)
                      have z_7 := congrArg Int32.toInt c_444
                      have y_m1 : (-1 : Int32).toInt = -1 := by decide
                      have y_0 : (0 : Int32).toInt = 0 := by decide
                      have y_32 : (32 : Int32).toInt = 32 := by decide
                      have y_60 : (60 : Int32).toInt = 60 := by decide
                      have y_1 : (1 : Int32).toInt = 1 := by decide
                      have t_x_446 : x_446.toInt = (vy_2 : Int32).toInt + (1 : Int32).toInt := by rw [ex_446]; exact add_toInt (by omega) (by omega)
                      omega
                    have ha_448 : 0 ≤ x_446.toInt := by
                      have z_1 := Int32.lt_iff_toInt_lt.mp (Int32.not_le.mp c_9)
                      have z_2 : ¬ (r_319 : Int32).toInt = (32 : Int32).toInt := fun z => c_322 (Int32.toInt_inj.mp z)
                      have z_3 := congrArg Int32.toInt c_323
                      have z_4 := congrArg Int32.toInt c_428
                      have z_5 := congrArg Int32.toInt c_435
                      have z_6 : ¬ (r_419 : Int32).toInt = ((-1) : Int32).toInt := fun z => c_436 (Int32.toInt_inj.mp z)
                      have z_7 := congrArg Int32.toInt c_444
                      have y_m1 : (-1 : Int32).toInt = -1 := by decide
                      have y_0 : (0 : Int32).toInt = 0 := by decide
                      have y_32 : (32 : Int32).toInt = 32 := by decide
                      have y_60 : (60 : Int32).toInt = 60 := by decide
                      have y_1 : (1 : Int32).toInt = 1 := by decide
                      have t_x_446 : x_446.toInt = (vy_2 : Int32).toInt + (1 : Int32).toInt := by rw [ex_446]; exact add_toInt (by omega) (by omega)
                      omega
                    refine cV (a := (Ta 0)) (As := [.int x_446]) (rest := [.ref (Ta 0)]) (wr := []) ⟨hx, hb, hml, hown, hts⟩ hK hX hA (cu_fX10_byteAt l D tc sk (Ta 0) (Ta 1) (Tv 0) vy_2 vy_2 r_419 (Tv 4) (Tf 1) x_446 ha_447 h_by ha_448) k_482 k_479 k_481 k_0 k_96 pl_X10_byteAt ⟨Nat.le_of_ble_eq_true rfl, Nat.le_of_ble_eq_true rfl⟩ rfl rfl (va_recv hK hP (ci := 10) (q0 := 0) rfl rfl) hP hD hS [0, 1] [] rfl rfl rfl rfl rfl (by decide) rfl hl.1 rfl (Nat.le_of_ble_eq_true rfl) dX10_step_216 ⟨Nat.le_of_ble_eq_true rfl, Nat.le_of_ble_eq_true rfl⟩ (fun v_449 u_450 H locs hv_451 hP₀ hD₀ hS₀ => ?_)
                    obtain ⟨r_452, rfl, he_453⟩ := hv_451
                    have he_453 : (r_452.toInt = cB (Tf 1) (Tv 0) x_446.toInt.toNat ∧ (((Tv 0).toInt ≤ x_446.toInt ∧ r_452.toInt = -1) ∨ (x_446.toInt < (Tv 0).toInt ∧ 0 ≤ r_452.toInt ∧ r_452.toInt ≤ 255))) := he_453
                    refine W.eq (g2 := F0 m 219 ls [.int r_452, .ref (Ta 0)]) rfl ?_
                    replace hP : va_P D classes [((Ta 0), .inr (10, [.ref (Ta 1), .int (Tv 0), .int vy_2, .int vy_2, .int r_419, .int (Tv 4)])), ((Ta 1), .inl (tc 0, 400, .inl (Tf 1)))] H := hP₀
                    replace hD : va_D A [((Ta 0), .inr (10, [.ref (Ta 1), .int (Tv 0), .int vy_2, .int vy_2, .int r_419, .int (Tv 4)])), ((Ta 1), .inl (tc 0, 400, .inl (Tf 1)))] := hD₀
                    replace hS := hS₀
                    clear hP₀ hD₀ hS₀
                    refine lv_bipush (v := 61) hx hb dX10_step_219 (by decide) ?_
                    refine lv_icmp_ne (tgt := 233) hx hb dX10_step_221 (by decide) (fun c_455 => ?_) (fun c_455 => ?_)
                    · skip
                      refine lv_aload_n hx hb dX10_step_233 rfl (lv_at hl 1 rfl) ?_
                      refine gf_X10_19 hx hb hts hown hK hP 0 rfl rfl dX10_step_234 ?_
                      refine lv_iconst (v := 1) hx hb dX10_step_237 (by decide) ?_
                      refine lv_iadd hx hb dX10_step_238 ?_
                      refine lv_topi (fun x_456 ex_456 => ?_)
                      refine pf_X10_22 hx hb hts hown hK hP hD hS 0 rfl (Nat.le_of_ble_eq_true rfl) rfl rfl dX10_step_239 (fun H locs hP₀ hD₀ hS₀ => ?_)
                      replace hP : va_P D classes [((Ta 0), .inr (10, [.ref (Ta 1), .int (Tv 0), .int vy_2, .int x_456, .int r_419, .int (Tv 4)])), ((Ta 1), .inl (tc 0, 400, .inl (Tf 1)))] H := hP₀
                      replace hD : va_D A [((Ta 0), .inr (10, [.ref (Ta 1), .int (Tv 0), .int vy_2, .int x_456, .int r_419, .int (Tv 4)])), ((Ta 1), .inl (tc 0, 400, .inl (Tf 1)))] := hD₀
                      replace hS := hS₀
                      clear hP₀ hD₀ hS₀
                      have ha_457 : 0 ≤ ((Tv 0) : Int32).toInt ∧ ((Tv 0) : Int32).toInt ≤ 400 ∧ 0 ≤ (vy_2 : Int32).toInt ∧ (vy_2 : Int32).toInt ≤ 400 ∧ 0 ≤ (x_456 : Int32).toInt ∧ (x_456 : Int32).toInt ≤ 400 := by
                        have z_1 := Int32.lt_iff_toInt_lt.mp (Int32.not_le.mp c_9)
                        have z_2 : ¬ (r_319 : Int32).toInt = (32 : Int32).toInt := fun z => c_322 (Int32.toInt_inj.mp z)
                        have z_3 := congrArg Int32.toInt c_323
                        have z_4 := congrArg Int32.toInt c_428
                        have z_5 := congrArg Int32.toInt c_435
                        have z_6 : ¬ (r_419 : Int32).toInt = ((-1) : Int32).toInt := fun z => c_436 (Int32.toInt_inj.mp z)
                        have z_7 := congrArg Int32.toInt c_444
                        have z_8 : ¬ (r_452 : Int32).toInt = (61 : Int32).toInt := fun z => c_455 (Int32.toInt_inj.mp z)
                        have y_m1 : (-1 : Int32).toInt = -1 := by decide
                        have y_0 : (0 : Int32).toInt = 0 := by decide
                        have y_32 : (32 : Int32).toInt = 32 := by decide
                        have y_60 : (60 : Int32).toInt = 60 := by decide
                        have y_61 : (61 : Int32).toInt = 61 := by decide
                        have y_1 : (1 : Int32).toInt = 1 := by decide
                        have t_x_456 : x_456.toInt = (vy_2 : Int32).toInt + (1 : Int32).toInt := by rw [ex_456]; exact add_toInt (by omega) (by omega)
                        have t_x_446 : x_446.toInt = (vy_2 : Int32).toInt + (1 : Int32).toInt := by rw [ex_446]; exact add_toInt (by omega) (by omega)
                        omega
                      have rg_458 := cB_rg (n := (Tv 0)) h_by (vy_2 : Int32).toInt.toNat
                      have h2_459 : ¬ cB (Tf 1) (Tv 0) (vy_2 : Int32).toInt.toNat = 32 := by
                        have z_1 := Int32.lt_iff_toInt_lt.mp (Int32.not_le.mp c_9)
                        have z_2 : ¬ (r_319 : Int32).toInt = (32 : Int32).toInt := fun z => c_322 (Int32.toInt_inj.mp z)
                        have z_3 := congrArg Int32.toInt c_323
                        have z_4 := congrArg Int32.toInt c_428
                        have z_5 := congrArg Int32.toInt c_435
                        have z_6 : ¬ (r_419 : Int32).toInt = ((-1) : Int32).toInt := fun z => c_436 (Int32.toInt_inj.mp z)
                        have z_7 := congrArg Int32.toInt c_444
                        have z_8 : ¬ (r_452 : Int32).toInt = (61 : Int32).toInt := fun z => c_455 (Int32.toInt_inj.mp z)
                        have y_m1 : (-1 : Int32).toInt = -1 := by decide
                        have y_0 : (0 : Int32).toInt = 0 := by decide
                        have y_32 : (32 : Int32).toInt = 32 := by decide
                        have y_60 : (60 : Int32).toInt = 60 := by decide
                        have y_61 : (61 : Int32).toInt = 61 := by decide
                        have y_1 : (1 : Int32).toInt = 1 := by decide
                        have t_x_446 : x_446.toInt = (vy_2 : Int32).toInt + (1 : Int32).toInt := by rw [ex_446]; exact add_toInt (by omega) (by omega)
                        omega
                      have hr_460 : 0 ≤ (vy_2 : Int32).toInt := by
                        have z_1 := Int32.lt_iff_toInt_lt.mp (Int32.not_le.mp c_9)
                        have z_2 : ¬ (r_319 : Int32).toInt = (32 : Int32).toInt := fun z => c_322 (Int32.toInt_inj.mp z)
                        have z_3 := congrArg Int32.toInt c_323
                        have z_4 := congrArg Int32.toInt c_428
                        have z_5 := congrArg Int32.toInt c_435
                        have z_6 : ¬ (r_419 : Int32).toInt = ((-1) : Int32).toInt := fun z => c_436 (Int32.toInt_inj.mp z)
                        have z_7 := congrArg Int32.toInt c_444
                        have z_8 : ¬ (r_452 : Int32).toInt = (61 : Int32).toInt := fun z => c_455 (Int32.toInt_inj.mp z)
                        have y_m1 : (-1 : Int32).toInt = -1 := by decide
                        have y_0 : (0 : Int32).toInt = 0 := by decide
                        have y_32 : (32 : Int32).toInt = 32 := by decide
                        have y_60 : (60 : Int32).toInt = 60 := by decide
                        have y_61 : (61 : Int32).toInt = 61 := by decide
                        have y_1 : (1 : Int32).toInt = 1 := by decide
                        have t_x_446 : x_446.toInt = (vy_2 : Int32).toInt + (1 : Int32).toInt := by rw [ex_446]; exact add_toInt (by omega) (by omega)
                        omega
                      have hi_461 : (x_456 : Int32).toInt = (vy_2 : Int32).toInt + 1 := by
                        have z_1 := Int32.lt_iff_toInt_lt.mp (Int32.not_le.mp c_9)
                        have z_2 : ¬ (r_319 : Int32).toInt = (32 : Int32).toInt := fun z => c_322 (Int32.toInt_inj.mp z)
                        have z_3 := congrArg Int32.toInt c_323
                        have z_4 := congrArg Int32.toInt c_428
                        have z_5 := congrArg Int32.toInt c_435
                        have z_6 : ¬ (r_419 : Int32).toInt = ((-1) : Int32).toInt := fun z => c_436 (Int32.toInt_inj.mp z)
                        have z_7 := congrArg Int32.toInt c_444
                        have z_8 : ¬ (r_452 : Int32).toInt = (61 : Int32).toInt := fun z => c_455 (Int32.toInt_inj.mp z)
                        have y_m1 : (-1 : Int32).toInt = -1 := by decide
                        have y_0 : (0 : Int32).toInt = 0 := by decide
                        have y_32 : (32 : Int32).toInt = 32 := by decide
                        have y_60 : (60 : Int32).toInt = 60 := by decide
                        have y_61 : (61 : Int32).toInt = 61 := by decide
                        have y_1 : (1 : Int32).toInt = 1 := by decide
                        have t_x_456 : x_456.toInt = (vy_2 : Int32).toInt + (1 : Int32).toInt := by rw [ex_456]; exact add_toInt (by omega) (by omega)
                        have t_x_446 : x_446.toInt = (vy_2 : Int32).toInt + (1 : Int32).toInt := by rw [ex_446]; exact add_toInt (by omega) (by omega)
                        omega
                      have hx_462 : (x_446 : Int32).toInt.toNat = (vy_2 : Int32).toInt.toNat + 1 := by
                        have z_1 := Int32.lt_iff_toInt_lt.mp (Int32.not_le.mp c_9)
                        have z_2 : ¬ (r_319 : Int32).toInt = (32 : Int32).toInt := fun z => c_322 (Int32.toInt_inj.mp z)
                        have z_3 := congrArg Int32.toInt c_323
                        have z_4 := congrArg Int32.toInt c_428
                        have z_5 := congrArg Int32.toInt c_435
                        have z_6 : ¬ (r_419 : Int32).toInt = ((-1) : Int32).toInt := fun z => c_436 (Int32.toInt_inj.mp z)
                        have z_7 := congrArg Int32.toInt c_444
                        have z_8 : ¬ (r_452 : Int32).toInt = (61 : Int32).toInt := fun z => c_455 (Int32.toInt_inj.mp z)
                        have y_m1 : (-1 : Int32).toInt = -1 := by decide
                        have y_0 : (0 : Int32).toInt = 0 := by decide
                        have y_32 : (32 : Int32).toInt = 32 := by decide
                        have y_60 : (60 : Int32).toInt = 60 := by decide
                        have y_61 : (61 : Int32).toInt = 61 := by decide
                        have y_1 : (1 : Int32).toInt = 1 := by decide
                        have t_x_446 : x_446.toInt = (vy_2 : Int32).toInt + (1 : Int32).toInt := by rw [ex_446]; exact add_toInt (by omega) (by omega)
                        omega
                      rw [hx_462] at he_453
                      have h2_463 : ¬ (((r_419 : Int32).toInt = 60 ∨ (r_419 : Int32).toInt = 62) ∧ cB (Tf 1) (Tv 0) ((vy_2 : Int32).toInt.toNat + 1) = 61) := by
                        have z_1 := Int32.lt_iff_toInt_lt.mp (Int32.not_le.mp c_9)
                        have z_2 : ¬ (r_319 : Int32).toInt = (32 : Int32).toInt := fun z => c_322 (Int32.toInt_inj.mp z)
                        have z_3 := congrArg Int32.toInt c_323
                        have z_4 := congrArg Int32.toInt c_428
                        have z_5 := congrArg Int32.toInt c_435
                        have z_6 : ¬ (r_419 : Int32).toInt = ((-1) : Int32).toInt := fun z => c_436 (Int32.toInt_inj.mp z)
                        have z_7 := congrArg Int32.toInt c_444
                        have z_8 : ¬ (r_452 : Int32).toInt = (61 : Int32).toInt := fun z => c_455 (Int32.toInt_inj.mp z)
                        have y_m1 : (-1 : Int32).toInt = -1 := by decide
                        have y_0 : (0 : Int32).toInt = 0 := by decide
                        have y_32 : (32 : Int32).toInt = 32 := by decide
                        have y_60 : (60 : Int32).toInt = 60 := by decide
                        have y_61 : (61 : Int32).toInt = 61 := by decide
                        have y_1 : (1 : Int32).toInt = 1 := by decide
                        have t_x_446 : x_446.toInt = (vy_2 : Int32).toInt + (1 : Int32).toInt := by rw [ex_446]; exact add_toInt (by omega) (by omega)
                        omega
                      have hr_464 : ¬ (97 ≤ (r_419 : Int32).toInt ∧ (r_419 : Int32).toInt ≤ 122) := by
                        have z_1 := Int32.lt_iff_toInt_lt.mp (Int32.not_le.mp c_9)
                        have z_2 : ¬ (r_319 : Int32).toInt = (32 : Int32).toInt := fun z => c_322 (Int32.toInt_inj.mp z)
                        have z_3 := congrArg Int32.toInt c_323
                        have z_4 := congrArg Int32.toInt c_428
                        have z_5 := congrArg Int32.toInt c_435
                        have z_6 : ¬ (r_419 : Int32).toInt = ((-1) : Int32).toInt := fun z => c_436 (Int32.toInt_inj.mp z)
                        have z_7 := congrArg Int32.toInt c_444
                        have z_8 : ¬ (r_452 : Int32).toInt = (61 : Int32).toInt := fun z => c_455 (Int32.toInt_inj.mp z)
                        have y_m1 : (-1 : Int32).toInt = -1 := by decide
                        have y_0 : (0 : Int32).toInt = 0 := by decide
                        have y_32 : (32 : Int32).toInt = 32 := by decide
                        have y_60 : (60 : Int32).toInt = 60 := by decide
                        have y_61 : (61 : Int32).toInt = 61 := by decide
                        have y_1 : (1 : Int32).toInt = 1 := by decide
                        have t_x_446 : x_446.toInt = (vy_2 : Int32).toInt + (1 : Int32).toInt := by rw [ex_446]; exact add_toInt (by omega) (by omega)
                        omega
                      have hr_465 : ¬ (48 ≤ (r_419 : Int32).toInt ∧ (r_419 : Int32).toInt ≤ 57) := by
                        have z_1 := Int32.lt_iff_toInt_lt.mp (Int32.not_le.mp c_9)
                        have z_2 : ¬ (r_319 : Int32).toInt = (32 : Int32).toInt := fun z => c_322 (Int32.toInt_inj.mp z)
                        have z_3 := congrArg Int32.toInt c_323
                        have z_4 := congrArg Int32.toInt c_428
                        have z_5 := congrArg Int32.toInt c_435
                        have z_6 : ¬ (r_419 : Int32).toInt = ((-1) : Int32).toInt := fun z => c_436 (Int32.toInt_inj.mp z)
                        have z_7 := congrArg Int32.toInt c_444
                        have z_8 : ¬ (r_452 : Int32).toInt = (61 : Int32).toInt := fun z => c_455 (Int32.toInt_inj.mp z)
                        have y_m1 : (-1 : Int32).toInt = -1 := by decide
                        have y_0 : (0 : Int32).toInt = 0 := by decide
                        have y_32 : (32 : Int32).toInt = 32 := by decide
                        have y_60 : (60 : Int32).toInt = 60 := by decide
                        have y_61 : (61 : Int32).toInt = 61 := by decide
                        have y_1 : (1 : Int32).toInt = 1 := by decide
                        have t_x_446 : x_446.toInt = (vy_2 : Int32).toInt + (1 : Int32).toInt := by rw [ex_446]; exact add_toInt (by omega) (by omega)
                        omega
                      have hr_466 : ¬ (r_419 : Int32).toInt = -1 := by
                        have z_1 := Int32.lt_iff_toInt_lt.mp (Int32.not_le.mp c_9)
                        have z_2 : ¬ (r_319 : Int32).toInt = (32 : Int32).toInt := fun z => c_322 (Int32.toInt_inj.mp z)
                        have z_3 := congrArg Int32.toInt c_323
                        have z_4 := congrArg Int32.toInt c_428
                        have z_5 := congrArg Int32.toInt c_435
                        have z_6 : ¬ (r_419 : Int32).toInt = ((-1) : Int32).toInt := fun z => c_436 (Int32.toInt_inj.mp z)
                        have z_7 := congrArg Int32.toInt c_444
                        have z_8 : ¬ (r_452 : Int32).toInt = (61 : Int32).toInt := fun z => c_455 (Int32.toInt_inj.mp z)
                        have y_m1 : (-1 : Int32).toInt = -1 := by decide
                        have y_0 : (0 : Int32).toInt = 0 := by decide
                        have y_32 : (32 : Int32).toInt = 32 := by decide
                        have y_60 : (60 : Int32).toInt = 60 := by decide
                        have y_61 : (61 : Int32).toInt = 61 := by decide
                        have y_1 : (1 : Int32).toInt = 1 := by decide
                        have t_x_446 : x_446.toInt = (vy_2 : Int32).toInt + (1 : Int32).toInt := by rw [ex_446]; exact add_toInt (by omega) (by omega)
                        omega
                      have hr_467 : ((Tv 4) : Int32).toInt = 0 := by
                        have z_1 := Int32.lt_iff_toInt_lt.mp (Int32.not_le.mp c_9)
                        have z_2 : ¬ (r_319 : Int32).toInt = (32 : Int32).toInt := fun z => c_322 (Int32.toInt_inj.mp z)
                        have z_3 := congrArg Int32.toInt c_323
                        have z_4 := congrArg Int32.toInt c_428
                        have z_5 := congrArg Int32.toInt c_435
                        have z_6 : ¬ (r_419 : Int32).toInt = ((-1) : Int32).toInt := fun z => c_436 (Int32.toInt_inj.mp z)
                        have z_7 := congrArg Int32.toInt c_444
                        have z_8 : ¬ (r_452 : Int32).toInt = (61 : Int32).toInt := fun z => c_455 (Int32.toInt_inj.mp z)
                        have y_m1 : (-1 : Int32).toInt = -1 := by decide
                        have y_0 : (0 : Int32).toInt = 0 := by decide
                        have y_32 : (32 : Int32).toInt = 32 := by decide
                        have y_60 : (60 : Int32).toInt = 60 := by decide
                        have y_61 : (61 : Int32).toInt = 61 := by decide
                        have y_1 : (1 : Int32).toInt = 1 := by decide
                        have t_x_446 : x_446.toInt = (vy_2 : Int32).toInt + (1 : Int32).toInt := by rw [ex_446]; exact add_toInt (by omega) (by omega)
                        omega
                      have hr_468 : (vy_2 : Int32).toInt ≤ 400 := by
                        have z_1 := Int32.lt_iff_toInt_lt.mp (Int32.not_le.mp c_9)
                        have z_2 : ¬ (r_319 : Int32).toInt = (32 : Int32).toInt := fun z => c_322 (Int32.toInt_inj.mp z)
                        have z_3 := congrArg Int32.toInt c_323
                        have z_4 := congrArg Int32.toInt c_428
                        have z_5 := congrArg Int32.toInt c_435
                        have z_6 : ¬ (r_419 : Int32).toInt = ((-1) : Int32).toInt := fun z => c_436 (Int32.toInt_inj.mp z)
                        have z_7 := congrArg Int32.toInt c_444
                        have z_8 : ¬ (r_452 : Int32).toInt = (61 : Int32).toInt := fun z => c_455 (Int32.toInt_inj.mp z)
                        have y_m1 : (-1 : Int32).toInt = -1 := by decide
                        have y_0 : (0 : Int32).toInt = 0 := by decide
                        have y_32 : (32 : Int32).toInt = 32 := by decide
                        have y_60 : (60 : Int32).toInt = 60 := by decide
                        have y_61 : (61 : Int32).toInt = 61 := by decide
                        have y_1 : (1 : Int32).toInt = 1 := by decide
                        have t_x_446 : x_446.toInt = (vy_2 : Int32).toInt + (1 : Int32).toInt := by rw [ex_446]; exact add_toInt (by omega) (by omega)
                        omega
                      exact retV hx hb hr hlk hP hD hS (vy_2, x_456, r_419) ⟨rfl, ha_457, (TpB.at h_tb hr_467 h_tape.2.2.2.2.1 pf_7 hr_468 h2_459 (te_1 hr_460 he_420.1 hr_464 hr_465 hr_466 h2_463 hi_461) he_420.1)⟩ [0, 1] rfl rfl dX10_step_242 (Nat.le_of_ble_eq_true rfl) (Nat.le_of_ble_eq_true rfl) rfl
                    · skip
                      refine lv_aload_n hx hb dX10_step_224 rfl (lv_at hl 1 rfl) ?_
                      refine gf_X10_19 hx hb hts hown hK hP 0 rfl rfl dX10_step_225 ?_
                      refine lv_iconst (v := 2) hx hb dX10_step_228 (by decide) ?_
                      refine lv_iadd hx hb dX10_step_229 ?_
                      refine lv_topi (fun x_469 ex_469 => ?_)
                      refine lv_goto (tgt := 239) hx hb dX10_step_230 (by decide) ?_
                      refine pf_X10_22 hx hb hts hown hK hP hD hS 0 rfl (Nat.le_of_ble_eq_true rfl) rfl rfl dX10_step_239 (fun H locs hP₀ hD₀ hS₀ => ?_)
                      replace hP : va_P D classes [((Ta 0), .inr (10, [.ref (Ta 1), .int (Tv 0), .int vy_2, .int x_469, .int r_419, .int (Tv 4)])), ((Ta 1), .inl (tc 0, 400, .inl (Tf 1)))] H := hP₀
                      replace hD : va_D A [((Ta 0), .inr (10, [.ref (Ta 1), .int (Tv 0), .int vy_2, .int x_469, .int r_419, .int (Tv 4)])), ((Ta 1), .inl (tc 0, 400, .inl (Tf 1)))] := hD₀
                      replace hS := hS₀
                      clear hP₀ hD₀ hS₀
                      have ha_470 : 0 ≤ ((Tv 0) : Int32).toInt ∧ ((Tv 0) : Int32).toInt ≤ 400 ∧ 0 ≤ (vy_2 : Int32).toInt ∧ (vy_2 : Int32).toInt ≤ 400 ∧ 0 ≤ (x_469 : Int32).toInt ∧ (x_469 : Int32).toInt ≤ 400 := by
                        have z_1 := Int32.lt_iff_toInt_lt.mp (Int32.not_le.mp c_9)
                        have z_2 : ¬ (r_319 : Int32).toInt = (32 : Int32).toInt := fun z => c_322 (Int32.toInt_inj.mp z)
                        have z_3 := congrArg Int32.toInt c_323
                        have z_4 := congrArg Int32.toInt c_428
                        have z_5 := congrArg Int32.toInt c_435
                        have z_6 : ¬ (r_419 : Int32).toInt = ((-1) : Int32).toInt := fun z => c_436 (Int32.toInt_inj.mp z)
                        have z_7 := congrArg Int32.toInt c_444
                        have z_8 := congrArg Int32.toInt c_455
                        have y_m1 : (-1 : Int32).toInt = -1 := by decide
                        have y_0 : (0 : Int32).toInt = 0 := by decide
                        have y_32 : (32 : Int32).toInt = 32 := by decide
                        have y_60 : (60 : Int32).toInt = 60 := by decide
                        have y_61 : (61 : Int32).toInt = 61 := by decide
                        have y_1 : (1 : Int32).toInt = 1 := by decide
                        have y_2 : (2 : Int32).toInt = 2 := by decide
                        have t_x_469 : x_469.toInt = (vy_2 : Int32).toInt + (2 : Int32).toInt := by rw [ex_469]; exact add_toInt (by omega) (by omega)
                        have t_x_446 : x_446.toInt = (vy_2 : Int32).toInt + (1 : Int32).toInt := by rw [ex_446]; exact add_toInt (by omega) (by omega)
                        omega
                      have rg_471 := cB_rg (n := (Tv 0)) h_by (vy_2 : Int32).toInt.toNat
                      have h2_472 : ¬ cB (Tf 1) (Tv 0) (vy_2 : Int32).toInt.toNat = 32 := by
                        have z_1 := Int32.lt_iff_toInt_lt.mp (Int32.not_le.mp c_9)
                        have z_2 : ¬ (r_319 : Int32).toInt = (32 : Int32).toInt := fun z => c_322 (Int32.toInt_inj.mp z)
                        have z_3 := congrArg Int32.toInt c_323
                        have z_4 := congrArg Int32.toInt c_428
                        have z_5 := congrArg Int32.toInt c_435
                        have z_6 : ¬ (r_419 : Int32).toInt = ((-1) : Int32).toInt := fun z => c_436 (Int32.toInt_inj.mp z)
                        have z_7 := congrArg Int32.toInt c_444
                        have z_8 := congrArg Int32.toInt c_455
                        have y_m1 : (-1 : Int32).toInt = -1 := by decide
                        have y_0 : (0 : Int32).toInt = 0 := by decide
                        have y_32 : (32 : Int32).toInt = 32 := by decide
                        have y_60 : (60 : Int32).toInt = 60 := by decide
                        have y_61 : (61 : Int32).toInt = 61 := by decide
                        have y_1 : (1 : Int32).toInt = 1 := by decide
                        have t_x_446 : x_446.toInt = (vy_2 : Int32).toInt + (1 : Int32).toInt := by rw [ex_446]; exact add_toInt (by omega) (by omega)
                        omega
                      have hr_473 : 0 ≤ (vy_2 : Int32).toInt := by
                        have z_1 := Int32.lt_iff_toInt_lt.mp (Int32.not_le.mp c_9)
                        have z_2 : ¬ (r_319 : Int32).toInt = (32 : Int32).toInt := fun z => c_322 (Int32.toInt_inj.mp z)
                        have z_3 := congrArg Int32.toInt c_323
                        have z_4 := congrArg Int32.toInt c_428
                        have z_5 := congrArg Int32.toInt c_435
                        have z_6 : ¬ (r_419 : Int32).toInt = ((-1) : Int32).toInt := fun z => c_436 (Int32.toInt_inj.mp z)
                        have z_7 := congrArg Int32.toInt c_444
                        have z_8 := congrArg Int32.toInt c_455
                        have y_m1 : (-1 : Int32).toInt = -1 := by decide
                        have y_0 : (0 : Int32).toInt = 0 := by decide
                        have y_32 : (32 : Int32).toInt = 32 := by decide
                        have y_60 : (60 : Int32).toInt = 60 := by decide
                        have y_61 : (61 : Int32).toInt = 61 := by decide
                        have y_1 : (1 : Int32).toInt = 1 := by decide
                        have t_x_446 : x_446.toInt = (vy_2 : Int32).toInt + (1 : Int32).toInt := by rw [ex_446]; exact add_toInt (by omega) (by omega)
                        omega
                      have hi_474 : (x_469 : Int32).toInt = (vy_2 : Int32).toInt + 2 := by
                        have z_1 := Int32.lt_iff_toInt_lt.mp (Int32.not_le.mp c_9)
                        have z_2 : ¬ (r_319 : Int32).toInt = (32 : Int32).toInt := fun z => c_322 (Int32.toInt_inj.mp z)
                        have z_3 := congrArg Int32.toInt c_323
                        have z_4 := congrArg Int32.toInt c_428
                        have z_5 := congrArg Int32.toInt c_435
                        have z_6 : ¬ (r_419 : Int32).toInt = ((-1) : Int32).toInt := fun z => c_436 (Int32.toInt_inj.mp z)
                        have z_7 := congrArg Int32.toInt c_444
                        have z_8 := congrArg Int32.toInt c_455
                        have y_m1 : (-1 : Int32).toInt = -1 := by decide
                        have y_0 : (0 : Int32).toInt = 0 := by decide
                        have y_32 : (32 : Int32).toInt = 32 := by decide
                        have y_60 : (60 : Int32).toInt = 60 := by decide
                        have y_61 : (61 : Int32).toInt = 61 := by decide
                        have y_1 : (1 : Int32).toInt = 1 := by decide
                        have y_2 : (2 : Int32).toInt = 2 := by decide
                        have t_x_469 : x_469.toInt = (vy_2 : Int32).toInt + (2 : Int32).toInt := by rw [ex_469]; exact add_toInt (by omega) (by omega)
                        have t_x_446 : x_446.toInt = (vy_2 : Int32).toInt + (1 : Int32).toInt := by rw [ex_446]; exact add_toInt (by omega) (by omega)
                        omega
                      have hx_475 : (x_446 : Int32).toInt.toNat = (vy_2 : Int32).toInt.toNat + 1 := by
                        have z_1 := Int32.lt_iff_toInt_lt.mp (Int32.not_le.mp c_9)
                        have z_2 : ¬ (r_319 : Int32).toInt = (32 : Int32).toInt := fun z => c_322 (Int32.toInt_inj.mp z)
                        have z_3 := congrArg Int32.toInt c_323
                        have z_4 := congrArg Int32.toInt c_428
                        have z_5 := congrArg Int32.toInt c_435
                        have z_6 : ¬ (r_419 : Int32).toInt = ((-1) : Int32).toInt := fun z => c_436 (Int32.toInt_inj.mp z)
                        have z_7 := congrArg Int32.toInt c_444
                        have z_8 := congrArg Int32.toInt c_455
                        have y_m1 : (-1 : Int32).toInt = -1 := by decide
                        have y_0 : (0 : Int32).toInt = 0 := by decide
                        have y_32 : (32 : Int32).toInt = 32 := by decide
                        have y_60 : (60 : Int32).toInt = 60 := by decide
                        have y_61 : (61 : Int32).toInt = 61 := by decide
                        have y_1 : (1 : Int32).toInt = 1 := by decide
                        have t_x_446 : x_446.toInt = (vy_2 : Int32).toInt + (1 : Int32).toInt := by rw [ex_446]; exact add_toInt (by omega) (by omega)
                        omega
                      rw [hx_475] at he_453
                      have h2_476 : (((r_419 : Int32).toInt = 60 ∨ (r_419 : Int32).toInt = 62) ∧ cB (Tf 1) (Tv 0) ((vy_2 : Int32).toInt.toNat + 1) = 61) := by
                        have z_1 := Int32.lt_iff_toInt_lt.mp (Int32.not_le.mp c_9)
                        have z_2 : ¬ (r_319 : Int32).toInt = (32 : Int32).toInt := fun z => c_322 (Int32.toInt_inj.mp z)
                        have z_3 := congrArg Int32.toInt c_323
                        have z_4 := congrArg Int32.toInt c_428
                        have z_5 := congrArg Int32.toInt c_435
                        have z_6 : ¬ (r_419 : Int32).toInt = ((-1) : Int32).toInt := fun z => c_436 (Int32.toInt_inj.mp z)
                        have z_7 := congrArg Int32.toInt c_444
                        have z_8 := congrArg Int32.toInt c_455
                        have y_m1 : (-1 : Int32).toInt = -1 := by decide
                        have y_0 : (0 : Int32).toInt = 0 := by decide
                        have y_32 : (32 : Int32).toInt = 32 := by decide
                        have y_60 : (60 : Int32).toInt = 60 := by decide
                        have y_61 : (61 : Int32).toInt = 61 := by decide
                        have y_1 : (1 : Int32).toInt = 1 := by decide
                        have t_x_446 : x_446.toInt = (vy_2 : Int32).toInt + (1 : Int32).toInt := by rw [ex_446]; exact add_toInt (by omega) (by omega)
                        omega
                      have hr_477 : ((Tv 4) : Int32).toInt = 0 := by
                        have z_1 := Int32.lt_iff_toInt_lt.mp (Int32.not_le.mp c_9)
                        have z_2 : ¬ (r_319 : Int32).toInt = (32 : Int32).toInt := fun z => c_322 (Int32.toInt_inj.mp z)
                        have z_3 := congrArg Int32.toInt c_323
                        have z_4 := congrArg Int32.toInt c_428
                        have z_5 := congrArg Int32.toInt c_435
                        have z_6 : ¬ (r_419 : Int32).toInt = ((-1) : Int32).toInt := fun z => c_436 (Int32.toInt_inj.mp z)
                        have z_7 := congrArg Int32.toInt c_444
                        have z_8 := congrArg Int32.toInt c_455
                        have y_m1 : (-1 : Int32).toInt = -1 := by decide
                        have y_0 : (0 : Int32).toInt = 0 := by decide
                        have y_32 : (32 : Int32).toInt = 32 := by decide
                        have y_60 : (60 : Int32).toInt = 60 := by decide
                        have y_61 : (61 : Int32).toInt = 61 := by decide
                        have y_1 : (1 : Int32).toInt = 1 := by decide
                        have t_x_446 : x_446.toInt = (vy_2 : Int32).toInt + (1 : Int32).toInt := by rw [ex_446]; exact add_toInt (by omega) (by omega)
                        omega
                      have hr_478 : (vy_2 : Int32).toInt ≤ 400 := by
                        have z_1 := Int32.lt_iff_toInt_lt.mp (Int32.not_le.mp c_9)
                        have z_2 : ¬ (r_319 : Int32).toInt = (32 : Int32).toInt := fun z => c_322 (Int32.toInt_inj.mp z)
                        have z_3 := congrArg Int32.toInt c_323
                        have z_4 := congrArg Int32.toInt c_428
                        have z_5 := congrArg Int32.toInt c_435
                        have z_6 : ¬ (r_419 : Int32).toInt = ((-1) : Int32).toInt := fun z => c_436 (Int32.toInt_inj.mp z)
                        have z_7 := congrArg Int32.toInt c_444
                        have z_8 := congrArg Int32.toInt c_455
                        have y_m1 : (-1 : Int32).toInt = -1 := by decide
                        have y_0 : (0 : Int32).toInt = 0 := by decide
                        have y_32 : (32 : Int32).toInt = 32 := by decide
                        have y_60 : (60 : Int32).toInt = 60 := by decide
                        have y_61 : (61 : Int32).toInt = 61 := by decide
                        have y_1 : (1 : Int32).toInt = 1 := by decide
                        have t_x_446 : x_446.toInt = (vy_2 : Int32).toInt + (1 : Int32).toInt := by rw [ex_446]; exact add_toInt (by omega) (by omega)
                        omega
                      exact retV hx hb hr hlk hP hD hS (vy_2, x_469, r_419) ⟨rfl, ha_470, (TpB.at h_tb hr_477 h_tape.2.2.2.2.1 pf_7 hr_478 h2_472 (te_2 hr_473 he_420.1 h2_476 hi_474) he_420.1)⟩ [0, 1] rfl rfl dX10_step_242 (Nat.le_of_ble_eq_true rfl) (Nat.le_of_ble_eq_true rfl) rfl
                  · skip
                    refine lv_aload_n hx hb dX10_step_189 rfl (lv_at hl 0 rfl) ?_
                    refine gf_X10_25 hx hb hts hown hK hP 0 rfl rfl dX10_step_190 ?_
                    refine lv_bipush (v := 62) hx hb dX10_step_193 (by decide) ?_
                    refine lv_icmp_ne (tgt := 202) hx hb dX10_step_195 (by decide) (fun c_479 => ?_) (fun c_479 => ?_)
                    · skip
                      refine lv_iconst (v := 0) hx hb dX10_step_202 (by decide) ?_
                      refine lv_istore_n (lv' := [(1, .int 0), (0, .ref (Ta 0))]) hx hb dX10_step_203 rfl hl (by decide) rfl (fun ls hl₀ => ?_)
                      replace hl := hl₀
                      clear hl₀
                      refine lv_aload_n hx hb dX10_step_204 rfl (lv_at hl 1 rfl) ?_
                      refine lv_iload_n hx hb dX10_step_205 rfl (lv_at hl 0 rfl) ?_
                      refine lv_if_eq (tgt := 233) hx hb dX10_step_206 (by decide) (fun c_480 => ?_) (fun c_480 => absurd c_480 (by decide))
                      refine lv_aload_n hx hb dX10_step_233 rfl (lv_at hl 1 rfl) ?_
                      refine gf_X10_19 hx hb hts hown hK hP 0 rfl rfl dX10_step_234 ?_
                      refine lv_iconst (v := 1) hx hb dX10_step_237 (by decide) ?_
                      refine lv_iadd hx hb dX10_step_238 ?_
                      refine lv_topi (fun x_481 ex_481 => ?_)
                      refine pf_X10_22 hx hb hts hown hK hP hD hS 0 rfl (Nat.le_of_ble_eq_true rfl) rfl rfl dX10_step_239 (fun H locs hP₀ hD₀ hS₀ => ?_)
                      replace hP : va_P D classes [((Ta 0), .inr (10, [.ref (Ta 1), .int (Tv 0), .int vy_2, .int x_481, .int r_419, .int (Tv 4)])), ((Ta 1), .inl (tc 0, 400, .inl (Tf 1)))] H := hP₀
                      replace hD : va_D A [((Ta 0), .inr (10, [.ref (Ta 1), .int (Tv 0), .int vy_2, .int x_481, .int r_419, .int (Tv 4)])), ((Ta 1), .inl (tc 0, 400, .inl (Tf 1)))] := hD₀
                      replace hS := hS₀
                      clear hP₀ hD₀ hS₀
                      have ha_482 : 0 ≤ ((Tv 0) : Int32).toInt ∧ ((Tv 0) : Int32).toInt ≤ 400 ∧ 0 ≤ (vy_2 : Int32).toInt ∧ (vy_2 : Int32).toInt ≤ 400 ∧ 0 ≤ (x_481 : Int32).toInt ∧ (x_481 : Int32).toInt ≤ 400 := by
                        have z_1 := Int32.lt_iff_toInt_lt.mp (Int32.not_le.mp c_9)
                        have z_2 : ¬ (r_319 : Int32).toInt = (32 : Int32).toInt := fun z => c_322 (Int32.toInt_inj.mp z)
                        have z_3 := congrArg Int32.toInt c_323
                        have z_4 := congrArg Int32.toInt c_428
                        have z_5 := congrArg Int32.toInt c_435
                        have z_6 : ¬ (r_419 : Int32).toInt = ((-1) : Int32).toInt := fun z => c_436 (Int32.toInt_inj.mp z)
                        have z_7 : ¬ (r_419 : Int32).toInt = (60 : Int32).toInt := fun z => c_444 (Int32.toInt_inj.mp z)
                        have z_8 : ¬ (r_419 : Int32).toInt = (62 : Int32).toInt := fun z => c_479 (Int32.toInt_inj.mp z)
                        have y_m1 : (-1 : Int32).toInt = -1 := by decide
                        have y_0 : (0 : Int32).toInt = 0 := by decide
                        have y_32 : (32 : Int32).toInt = 32 := by decide
                        have y_60 : (60 : Int32).toInt = 60 := by decide
                        have y_62 : (62 : Int32).toInt = 62 := by decide
                        have y_1 : (1 : Int32).toInt = 1 := by decide
                        have t_x_481 : x_481.toInt = (vy_2 : Int32).toInt + (1 : Int32).toInt := by rw [ex_481]; exact add_toInt (by omega) (by omega)
                        omega
                      have rg_483 := cB_rg (n := (Tv 0)) h_by (vy_2 : Int32).toInt.toNat
                      have h2_484 : ¬ cB (Tf 1) (Tv 0) (vy_2 : Int32).toInt.toNat = 32 := by
                        have z_1 := Int32.lt_iff_toInt_lt.mp (Int32.not_le.mp c_9)
                        have z_2 : ¬ (r_319 : Int32).toInt = (32 : Int32).toInt := fun z => c_322 (Int32.toInt_inj.mp z)
                        have z_3 := congrArg Int32.toInt c_323
                        have z_4 := congrArg Int32.toInt c_428
                        have z_5 := congrArg Int32.toInt c_435
                        have z_6 : ¬ (r_419 : Int32).toInt = ((-1) : Int32).toInt := fun z => c_436 (Int32.toInt_inj.mp z)
                        have z_7 : ¬ (r_419 : Int32).toInt = (60 : Int32).toInt := fun z => c_444 (Int32.toInt_inj.mp z)
                        have z_8 : ¬ (r_419 : Int32).toInt = (62 : Int32).toInt := fun z => c_479 (Int32.toInt_inj.mp z)
                        have y_m1 : (-1 : Int32).toInt = -1 := by decide
                        have y_0 : (0 : Int32).toInt = 0 := by decide
                        have y_32 : (32 : Int32).toInt = 32 := by decide
                        have y_60 : (60 : Int32).toInt = 60 := by decide
                        have y_62 : (62 : Int32).toInt = 62 := by decide
                        omega
                      have hr_485 : 0 ≤ (vy_2 : Int32).toInt := by
                        have z_1 := Int32.lt_iff_toInt_lt.mp (Int32.not_le.mp c_9)
                        have z_2 : ¬ (r_319 : Int32).toInt = (32 : Int32).toInt := fun z => c_322 (Int32.toInt_inj.mp z)
                        have z_3 := congrArg Int32.toInt c_323
                        have z_4 := congrArg Int32.toInt c_428
                        have z_5 := congrArg Int32.toInt c_435
                        have z_6 : ¬ (r_419 : Int32).toInt = ((-1) : Int32).toInt := fun z => c_436 (Int32.toInt_inj.mp z)
                        have z_7 : ¬ (r_419 : Int32).toInt = (60 : Int32).toInt := fun z => c_444 (Int32.toInt_inj.mp z)
                        have z_8 : ¬ (r_419 : Int32).toInt = (62 : Int32).toInt := fun z => c_479 (Int32.toInt_inj.mp z)
                        have y_m1 : (-1 : Int32).toInt = -1 := by decide
                        have y_0 : (0 : Int32).toInt = 0 := by decide
                        have y_32 : (32 : Int32).toInt = 32 := by decide
                        have y_60 : (60 : Int32).toInt = 60 := by decide
                        have y_62 : (62 : Int32).toInt = 62 := by decide
                        omega
                      have hi_486 : (x_481 : Int32).toInt = (vy_2 : Int32).toInt + 1 := by
                        have z_1 := Int32.lt_iff_toInt_lt.mp (Int32.not_le.mp c_9)
                        have z_2 : ¬ (r_319 : Int32).toInt = (32 : Int32).toInt := fun z => c_322 (Int32.toInt_inj.mp z)
                        have z_3 := congrArg Int32.toInt c_323
                        have z_4 := congrArg Int32.toInt c_428
                        have z_5 := congrArg Int32.toInt c_435
                        have z_6 : ¬ (r_419 : Int32).toInt = ((-1) : Int32).toInt := fun z => c_436 (Int32.toInt_inj.mp z)
                        have z_7 : ¬ (r_419 : Int32).toInt = (60 : Int32).toInt := fun z => c_444 (Int32.toInt_inj.mp z)
                        have z_8 : ¬ (r_419 : Int32).toInt = (62 : Int32).toInt := fun z => c_479 (Int32.toInt_inj.mp z)
                        have y_m1 : (-1 : Int32).toInt = -1 := by decide
                        have y_0 : (0 : Int32).toInt = 0 := by decide
                        have y_32 : (32 : Int32).toInt = 32 := by decide
                        have y_60 : (60 : Int32).toInt = 60 := by decide
                        have y_62 : (62 : Int32).toInt = 62 := by decide
                        have y_1 : (1 : Int32).toInt = 1 := by decide
                        have t_x_481 : x_481.toInt = (vy_2 : Int32).toInt + (1 : Int32).toInt := by rw [ex_481]; exact add_toInt (by omega) (by omega)
                        omega
                      have h2_487 : ¬ (((r_419 : Int32).toInt = 60 ∨ (r_419 : Int32).toInt = 62) ∧ cB (Tf 1) (Tv 0) ((vy_2 : Int32).toInt.toNat + 1) = 61) := by
                        have z_1 := Int32.lt_iff_toInt_lt.mp (Int32.not_le.mp c_9)
                        have z_2 : ¬ (r_319 : Int32).toInt = (32 : Int32).toInt := fun z => c_322 (Int32.toInt_inj.mp z)
                        have z_3 := congrArg Int32.toInt c_323
                        have z_4 := congrArg Int32.toInt c_428
                        have z_5 := congrArg Int32.toInt c_435
                        have z_6 : ¬ (r_419 : Int32).toInt = ((-1) : Int32).toInt := fun z => c_436 (Int32.toInt_inj.mp z)
                        have z_7 : ¬ (r_419 : Int32).toInt = (60 : Int32).toInt := fun z => c_444 (Int32.toInt_inj.mp z)
                        have z_8 : ¬ (r_419 : Int32).toInt = (62 : Int32).toInt := fun z => c_479 (Int32.toInt_inj.mp z)
                        have y_m1 : (-1 : Int32).toInt = -1 := by decide
                        have y_0 : (0 : Int32).toInt = 0 := by decide
                        have y_32 : (32 : Int32).toInt = 32 := by decide
                        have y_60 : (60 : Int32).toInt = 60 := by decide
                        have y_62 : (62 : Int32).toInt = 62 := by decide
                        omega
                      have hr_488 : ¬ (97 ≤ (r_419 : Int32).toInt ∧ (r_419 : Int32).toInt ≤ 122) := by
                        have z_1 := Int32.lt_iff_toInt_lt.mp (Int32.not_le.mp c_9)
                        have z_2 : ¬ (r_319 : Int32).toInt = (32 : Int32).toInt := fun z => c_322 (Int32.toInt_inj.mp z)
                        have z_3 := congrArg Int32.toInt c_323
                        have z_4 := congrArg Int32.toInt c_428
                        have z_5 := congrArg Int32.toInt c_435
                        have z_6 : ¬ (r_419 : Int32).toInt = ((-1) : Int32).toInt := fun z => c_436 (Int32.toInt_inj.mp z)
                        have z_7 : ¬ (r_419 : Int32).toInt = (60 : Int32).toInt := fun z => c_444 (Int32.toInt_inj.mp z)
                        have z_8 : ¬ (r_419 : Int32).toInt = (62 : Int32).toInt := fun z => c_479 (Int32.toInt_inj.mp z)
                        have y_m1 : (-1 : Int32).toInt = -1 := by decide
                        have y_0 : (0 : Int32).toInt = 0 := by decide
                        have y_32 : (32 : Int32).toInt = 32 := by decide
                        have y_60 : (60 : Int32).toInt = 60 := by decide
                        have y_62 : (62 : Int32).toInt = 62 := by decide
                        omega
                      have hr_489 : ¬ (48 ≤ (r_419 : Int32).toInt ∧ (r_419 : Int32).toInt ≤ 57) := by
                        have z_1 := Int32.lt_iff_toInt_lt.mp (Int32.not_le.mp c_9)
                        have z_2 : ¬ (r_319 : Int32).toInt = (32 : Int32).toInt := fun z => c_322 (Int32.toInt_inj.mp z)
                        have z_3 := congrArg Int32.toInt c_323
                        have z_4 := congrArg Int32.toInt c_428
                        have z_5 := congrArg Int32.toInt c_435
                        have z_6 : ¬ (r_419 : Int32).toInt = ((-1) : Int32).toInt := fun z => c_436 (Int32.toInt_inj.mp z)
                        have z_7 : ¬ (r_419 : Int32).toInt = (60 : Int32).toInt := fun z => c_444 (Int32.toInt_inj.mp z)
                        have z_8 : ¬ (r_419 : Int32).toInt = (62 : Int32).toInt := fun z => c_479 (Int32.toInt_inj.mp z)
                        have y_m1 : (-1 : Int32).toInt = -1 := by decide
                        have y_0 : (0 : Int32).toInt = 0 := by decide
                        have y_32 : (32 : Int32).toInt = 32 := by decide
                        have y_60 : (60 : Int32).toInt = 60 := by decide
                        have y_62 : (62 : Int32).toInt = 62 := by decide
                        omega
                      have hr_490 : ¬ (r_419 : Int32).toInt = -1 := by
                        have z_1 := Int32.lt_iff_toInt_lt.mp (Int32.not_le.mp c_9)
                        have z_2 : ¬ (r_319 : Int32).toInt = (32 : Int32).toInt := fun z => c_322 (Int32.toInt_inj.mp z)
                        have z_3 := congrArg Int32.toInt c_323
                        have z_4 := congrArg Int32.toInt c_428
                        have z_5 := congrArg Int32.toInt c_435
                        have z_6 : ¬ (r_419 : Int32).toInt = ((-1) : Int32).toInt := fun z => c_436 (Int32.toInt_inj.mp z)
                        have z_7 : ¬ (r_419 : Int32).toInt = (60 : Int32).toInt := fun z => c_444 (Int32.toInt_inj.mp z)
                        have z_8 : ¬ (r_419 : Int32).toInt = (62 : Int32).toInt := fun z => c_479 (Int32.toInt_inj.mp z)
                        have y_m1 : (-1 : Int32).toInt = -1 := by decide
                        have y_0 : (0 : Int32).toInt = 0 := by decide
                        have y_32 : (32 : Int32).toInt = 32 := by decide
                        have y_60 : (60 : Int32).toInt = 60 := by decide
                        have y_62 : (62 : Int32).toInt = 62 := by decide
                        omega
                      have hr_491 : ((Tv 4) : Int32).toInt = 0 := by
                        have z_1 := Int32.lt_iff_toInt_lt.mp (Int32.not_le.mp c_9)
                        have z_2 : ¬ (r_319 : Int32).toInt = (32 : Int32).toInt := fun z => c_322 (Int32.toInt_inj.mp z)
                        have z_3 := congrArg Int32.toInt c_323
                        have z_4 := congrArg Int32.toInt c_428
                        have z_5 := congrArg Int32.toInt c_435
                        have z_6 : ¬ (r_419 : Int32).toInt = ((-1) : Int32).toInt := fun z => c_436 (Int32.toInt_inj.mp z)
                        have z_7 : ¬ (r_419 : Int32).toInt = (60 : Int32).toInt := fun z => c_444 (Int32.toInt_inj.mp z)
                        have z_8 : ¬ (r_419 : Int32).toInt = (62 : Int32).toInt := fun z => c_479 (Int32.toInt_inj.mp z)
                        have y_m1 : (-1 : Int32).toInt = -1 := by decide
                        have y_0 : (0 : Int32).toInt = 0 := by decide
                        have y_32 : (32 : Int32).toInt = 32 := by decide
                        have y_60 : (60 : Int32).toInt = 60 := by decide
                        have y_62 : (62 : Int32).toInt = 62 := by decide
                        omega
                      have hr_492 : (vy_2 : Int32).toInt ≤ 400 := by
                        have z_1 := Int32.lt_iff_toInt_lt.mp (Int32.not_le.mp c_9)
                        have z_2 : ¬ (r_319 : Int32).toInt = (32 : Int32).toInt := fun z => c_322 (Int32.toInt_inj.mp z)
                        have z_3 := congrArg Int32.toInt c_323
                        have z_4 := congrArg Int32.toInt c_428
                        have z_5 := congrArg Int32.toInt c_435
                        have z_6 : ¬ (r_419 : Int32).toInt = ((-1) : Int32).toInt := fun z => c_436 (Int32.toInt_inj.mp z)
                        have z_7 : ¬ (r_419 : Int32).toInt = (60 : Int32).toInt := fun z => c_444 (Int32.toInt_inj.mp z)
                        have z_8 : ¬ (r_419 : Int32).toInt = (62 : Int32).toInt := fun z => c_479 (Int32.toInt_inj.mp z)
                        have y_m1 : (-1 : Int32).toInt = -1 := by decide
                        have y_0 : (0 : Int32).toInt = 0 := by decide
                        have y_32 : (32 : Int32).toInt = 32 := by decide
                        have y_60 : (60 : Int32).toInt = 60 := by decide
                        have y_62 : (62 : Int32).toInt = 62 := by decide
                        omega
                      exact retV hx hb hr hlk hP hD hS (vy_2, x_481, r_419) ⟨rfl, ha_482, (TpB.at h_tb hr_491 h_tape.2.2.2.2.1 pf_7 hr_492 h2_484 (te_1 hr_485 he_420.1 hr_488 hr_489 hr_490 h2_487 hi_486) he_420.1)⟩ [0, 1] rfl rfl dX10_step_242 (Nat.le_of_ble_eq_true rfl) (Nat.le_of_ble_eq_true rfl) rfl
                    · skip
                      refine lv_iconst (v := 1) hx hb dX10_step_198 (by decide) ?_
                      refine lv_goto (tgt := 203) hx hb dX10_step_199 (by decide) ?_
                      refine lv_istore_n (lv' := [(1, .int 1), (0, .ref (Ta 0))]) hx hb dX10_step_203 rfl hl (by decide) rfl (fun ls hl₀ => ?_)
                      replace hl := hl₀
                      clear hl₀
                      refine lv_aload_n hx hb dX10_step_204 rfl (lv_at hl 1 rfl) ?_
                      refine lv_iload_n hx hb dX10_step_205 rfl (lv_at hl 0 rfl) ?_
                      refine lv_if_eq (tgt := 233) hx hb dX10_step_206 (by decide) (fun c_493 => absurd c_493 (by decide)) (fun c_493 => ?_)
                      refine lv_aload_n hx hb dX10_step_209 rfl (lv_at hl 1 rfl) ?_
                      refine lv_aload_n hx hb dX10_step_210 rfl (lv_at hl 1 rfl) ?_
                      refine gf_X10_19 hx hb hts hown hK hP 0 rfl rfl dX10_step_211 ?_
                      refine lv_iconst (v := 1) hx hb dX10_step_214 (by decide) ?_
                      refine lv_iadd hx hb dX10_step_215 ?_
                      refine lv_topi (fun x_494 ex_494 => ?_)
                      have ha_495 : 0 ≤ ((Tv 0) : Int32).toInt ∧ ((Tv 0) : Int32).toInt ≤ 400 ∧ 0 ≤ (vy_2 : Int32).toInt ∧ (vy_2 : Int32).toInt ≤ 400 ∧ 0 ≤ (vy_2 : Int32).toInt ∧ (vy_2 : Int32).toInt ≤ 400 := by
                        have z_1 := Int32.lt_iff_toInt_lt.mp (Int32.not_le.mp c_9)
                        have z_2 : ¬ (r_319 : Int32).toInt = (32 : Int32).toInt := fun z => c_322 (Int32.toInt_inj.mp z)
                        have z_3 := congrArg Int32.toInt c_323
                        have z_4 := congrArg Int32.toInt c_428
                        have z_5 := congrArg Int32.toInt c_435
                        have z_6 : ¬ (r_419 : Int32).toInt = ((-1) : Int32).toInt := fun z => c_436 (Int32.toInt_inj.mp z)
                        have z_7 : ¬ (r_419 : Int32).toInt = (60 : Int32).toInt := fun z => c_444 (Int32.toInt_inj.mp z)
                        have z_8 := congrArg Int32.toInt c_479
                        have y_m1 : (-1 : Int32).toInt = -1 := by decide
                        have y_0 : (0 : Int32).toInt = 0 := by decide
                        have y_32 : (32 : Int32).toInt = 32 := by decide
                        have y_60 : (60 : Int32).toInt = 60 := by decide
                        have y_62 : (62 : Int32).toInt = 62 := by decide
                        have y_1 : (1 : Int32).toInt = 1 := by decide
                        have t_x_494 : x_494.toInt = (vy_2 : Int32).toInt + (1 : Int32).toInt := by rw [ex_494]; exact add_toInt (by omega) (by omega)
                        omega
                      have ha_496 : 0 ≤ x_494.toInt := by
                        have z_1 := Int32.lt_iff_toInt_lt.mp (Int32.not_le.mp c_9)
                        have z_2 : ¬ (r_319 : Int32).toInt = (32 : Int32).toInt := fun z => c_322 (Int32.toInt_inj.mp z)
                        have z_3 := congrArg Int32.toInt c_323
                        have z_4 := congrArg Int32.toInt c_428
                        have z_5 := congrArg Int32.toInt c_435
                        have z_6 : ¬ (r_419 : Int32).toInt = ((-1) : Int32).toInt := fun z => c_436 (Int32.toInt_inj.mp z)
                        have z_7 : ¬ (r_419 : Int32).toInt = (60 : Int32).toInt := fun z => c_444 (Int32.toInt_inj.mp z)
                        have z_8 := congrArg Int32.toInt c_479
                        have y_m1 : (-1 : Int32).toInt = -1 := by decide
                        have y_0 : (0 : Int32).toInt = 0 := by decide
                        have y_32 : (32 : Int32).toInt = 32 := by decide
                        have y_60 : (60 : Int32).toInt = 60 := by decide
                        have y_62 : (62 : Int32).toInt = 62 := by decide
                        have y_1 : (1 : Int32).toInt = 1 := by decide
                        have t_x_494 : x_494.toInt = (vy_2 : Int32).toInt + (1 : Int32).toInt := by rw [ex_494]; exact add_toInt (by omega) (by omega)
                        omega
                      refine cV (a := (Ta 0)) (As := [.int x_494]) (rest := [.ref (Ta 0)]) (wr := []) ⟨hx, hb, hml, hown, hts⟩ hK hX hA (cu_fX10_byteAt l D tc sk (Ta 0) (Ta 1) (Tv 0) vy_2 vy_2 r_419 (Tv 4) (Tf 1) x_494 ha_495 h_by ha_496) k_482 k_479 k_481 k_0 k_96 pl_X10_byteAt ⟨Nat.le_of_ble_eq_true rfl, Nat.le_of_ble_eq_true rfl⟩ rfl rfl (va_recv hK hP (ci := 10) (q0 := 0) rfl rfl) hP hD hS [0, 1] [] rfl rfl rfl rfl rfl (by decide) rfl hl.1 rfl (Nat.le_of_ble_eq_true rfl) dX10_step_216 ⟨Nat.le_of_ble_eq_true rfl, Nat.le_of_ble_eq_true rfl⟩ (fun v_497 u_498 H locs hv_499 hP₀ hD₀ hS₀ => ?_)
                      obtain ⟨r_500, rfl, he_501⟩ := hv_499
                      have he_501 : (r_500.toInt = cB (Tf 1) (Tv 0) x_494.toInt.toNat ∧ (((Tv 0).toInt ≤ x_494.toInt ∧ r_500.toInt = -1) ∨ (x_494.toInt < (Tv 0).toInt ∧ 0 ≤ r_500.toInt ∧ r_500.toInt ≤ 255))) := he_501
                      refine W.eq (g2 := F0 m 219 ls [.int r_500, .ref (Ta 0)]) rfl ?_
                      replace hP : va_P D classes [((Ta 0), .inr (10, [.ref (Ta 1), .int (Tv 0), .int vy_2, .int vy_2, .int r_419, .int (Tv 4)])), ((Ta 1), .inl (tc 0, 400, .inl (Tf 1)))] H := hP₀
                      replace hD : va_D A [((Ta 0), .inr (10, [.ref (Ta 1), .int (Tv 0), .int vy_2, .int vy_2, .int r_419, .int (Tv 4)])), ((Ta 1), .inl (tc 0, 400, .inl (Tf 1)))] := hD₀
                      replace hS := hS₀
                      clear hP₀ hD₀ hS₀
                      refine lv_bipush (v := 61) hx hb dX10_step_219 (by decide) ?_
                      refine lv_icmp_ne (tgt := 233) hx hb dX10_step_221 (by decide) (fun c_503 => ?_) (fun c_503 => ?_)
                      · skip
                        refine lv_aload_n hx hb dX10_step_233 rfl (lv_at hl 1 rfl) ?_
                        refine gf_X10_19 hx hb hts hown hK hP 0 rfl rfl dX10_step_234 ?_
                        refine lv_iconst (v := 1) hx hb dX10_step_237 (by decide) ?_
                        refine lv_iadd hx hb dX10_step_238 ?_
                        refine lv_topi (fun x_504 ex_504 => ?_)
                        refine pf_X10_22 hx hb hts hown hK hP hD hS 0 rfl (Nat.le_of_ble_eq_true rfl) rfl rfl dX10_step_239 (fun H locs hP₀ hD₀ hS₀ => ?_)
                        replace hP : va_P D classes [((Ta 0), .inr (10, [.ref (Ta 1), .int (Tv 0), .int vy_2, .int x_504, .int r_419, .int (Tv 4)])), ((Ta 1), .inl (tc 0, 400, .inl (Tf 1)))] H := hP₀
                        replace hD : va_D A [((Ta 0), .inr (10, [.ref (Ta 1), .int (Tv 0), .int vy_2, .int x_504, .int r_419, .int (Tv 4)])), ((Ta 1), .inl (tc 0, 400, .inl (Tf 1)))] := hD₀
                        replace hS := hS₀
                        clear hP₀ hD₀ hS₀
                        have ha_505 : 0 ≤ ((Tv 0) : Int32).toInt ∧ ((Tv 0) : Int32).toInt ≤ 400 ∧ 0 ≤ (vy_2 : Int32).toInt ∧ (vy_2 : Int32).toInt ≤ 400 ∧ 0 ≤ (x_504 : Int32).toInt ∧ (x_504 : Int32).toInt ≤ 400 := by
                          have z_1 := Int32.lt_iff_toInt_lt.mp (Int32.not_le.mp c_9)
                          have z_2 : ¬ (r_319 : Int32).toInt = (32 : Int32).toInt := fun z => c_322 (Int32.toInt_inj.mp z)
                          have z_3 := congrArg Int32.toInt c_323
                          have z_4 := congrArg Int32.toInt c_428
                          have z_5 := congrArg Int32.toInt c_435
                          have z_6 : ¬ (r_419 : Int32).toInt = ((-1) : Int32).toInt := fun z => c_436 (Int32.toInt_inj.mp z)
                          have z_7 : ¬ (r_419 : Int32).toInt = (60 : Int32).toInt := fun z => c_444 (Int32.toInt_inj.mp z)
                          have z_8 := congrArg Int32.toInt c_479
                          have z_9 : ¬ (r_500 : Int32).toInt = (61 : Int32).toInt := fun z => c_503 (Int32.toInt_inj.mp z)
                          have y_m1 : (-1 : Int32).toInt = -1 := by decide
                          have y_0 : (0 : Int32).toInt = 0 := by decide
                          have y_32 : (32 : Int32).toInt = 32 := by decide
                          have y_60 : (60 : Int32).toInt = 60 := by decide
                          have y_61 : (61 : Int32).toInt = 61 := by decide
                          have y_62 : (62 : Int32).toInt = 62 := by decide
                          have y_1 : (1 : Int32).toInt = 1 := by decide
                          have t_x_504 : x_504.toInt = (vy_2 : Int32).toInt + (1 : Int32).toInt := by rw [ex_504]; exact add_toInt (by omega) (by omega)
                          have t_x_494 : x_494.toInt = (vy_2 : Int32).toInt + (1 : Int32).toInt := by rw [ex_494]; exact add_toInt (by omega) (by omega)
                          omega
                        have rg_506 := cB_rg (n := (Tv 0)) h_by (vy_2 : Int32).toInt.toNat
                        have h2_507 : ¬ cB (Tf 1) (Tv 0) (vy_2 : Int32).toInt.toNat = 32 := by
                          have z_1 := Int32.lt_iff_toInt_lt.mp (Int32.not_le.mp c_9)
                          have z_2 : ¬ (r_319 : Int32).toInt = (32 : Int32).toInt := fun z => c_322 (Int32.toInt_inj.mp z)
                          have z_3 := congrArg Int32.toInt c_323
                          have z_4 := congrArg Int32.toInt c_428
                          have z_5 := congrArg Int32.toInt c_435
                          have z_6 : ¬ (r_419 : Int32).toInt = ((-1) : Int32).toInt := fun z => c_436 (Int32.toInt_inj.mp z)
                          have z_7 : ¬ (r_419 : Int32).toInt = (60 : Int32).toInt := fun z => c_444 (Int32.toInt_inj.mp z)
                          have z_8 := congrArg Int32.toInt c_479
                          have z_9 : ¬ (r_500 : Int32).toInt = (61 : Int32).toInt := fun z => c_503 (Int32.toInt_inj.mp z)
                          have y_m1 : (-1 : Int32).toInt = -1 := by decide
                          have y_0 : (0 : Int32).toInt = 0 := by decide
                          have y_32 : (32 : Int32).toInt = 32 := by decide
                          have y_60 : (60 : Int32).toInt = 60 := by decide
                          have y_61 : (61 : Int32).toInt = 61 := by decide
                          have y_62 : (62 : Int32).toInt = 62 := by decide
                          have y_1 : (1 : Int32).toInt = 1 := by decide
                          have t_x_494 : x_494.toInt = (vy_2 : Int32).toInt + (1 : Int32).toInt := by rw [ex_494]; exact add_toInt (by omega) (by omega)
                          omega
                        have hr_508 : 0 ≤ (vy_2 : Int32).toInt := by
                          have z_1 := Int32.lt_iff_toInt_lt.mp (Int32.not_le.mp c_9)
                          have z_2 : ¬ (r_319 : Int32).toInt = (32 : Int32).toInt := fun z => c_322 (Int32.toInt_inj.mp z)
                          have z_3 := congrArg Int32.toInt c_323
                          have z_4 := congrArg Int32.toInt c_428
                          have z_5 := congrArg Int32.toInt c_435
                          have z_6 : ¬ (r_419 : Int32).toInt = ((-1) : Int32).toInt := fun z => c_436 (Int32.toInt_inj.mp z)
                          have z_7 : ¬ (r_419 : Int32).toInt = (60 : Int32).toInt := fun z => c_444 (Int32.toInt_inj.mp z)
                          have z_8 := congrArg Int32.toInt c_479
                          have z_9 : ¬ (r_500 : Int32).toInt = (61 : Int32).toInt := fun z => c_503 (Int32.toInt_inj.mp z)
                          have y_m1 : (-1 : Int32).toInt = -1 := by decide
                          have y_0 : (0 : Int32).toInt = 0 := by decide
                          have y_32 : (32 : Int32).toInt = 32 := by decide
                          have y_60 : (60 : Int32).toInt = 60 := by decide
                          have y_61 : (61 : Int32).toInt = 61 := by decide
                          have y_62 : (62 : Int32).toInt = 62 := by decide
                          have y_1 : (1 : Int32).toInt = 1 := by decide
                          have t_x_494 : x_494.toInt = (vy_2 : Int32).toInt + (1 : Int32).toInt := by rw [ex_494]; exact add_toInt (by omega) (by omega)
                          omega
                        have hi_509 : (x_504 : Int32).toInt = (vy_2 : Int32).toInt + 1 := by
                          have z_1 := Int32.lt_iff_toInt_lt.mp (Int32.not_le.mp c_9)
                          have z_2 : ¬ (r_319 : Int32).toInt = (32 : Int32).toInt := fun z => c_322 (Int32.toInt_inj.mp z)
                          have z_3 := congrArg Int32.toInt c_323
                          have z_4 := congrArg Int32.toInt c_428
                          have z_5 := congrArg Int32.toInt c_435
                          have z_6 : ¬ (r_419 : Int32).toInt = ((-1) : Int32).toInt := fun z => c_436 (Int32.toInt_inj.mp z)
                          have z_7 : ¬ (r_419 : Int32).toInt = (60 : Int32).toInt := fun z => c_444 (Int32.toInt_inj.mp z)
                          have z_8 := congrArg Int32.toInt c_479
                          have z_9 : ¬ (r_500 : Int32).toInt = (61 : Int32).toInt := fun z => c_503 (Int32.toInt_inj.mp z)
                          have y_m1 : (-1 : Int32).toInt = -1 := by decide
                          have y_0 : (0 : Int32).toInt = 0 := by decide
                          have y_32 : (32 : Int32).toInt = 32 := by decide
                          have y_60 : (60 : Int32).toInt = 60 := by decide
                          have y_61 : (61 : Int32).toInt = 61 := by decide
                          have y_62 : (62 : Int32).toInt = 62 := by decide
                          have y_1 : (1 : Int32).toInt = 1 := by decide
                          have t_x_504 : x_504.toInt = (vy_2 : Int32).toInt + (1 : Int32).toInt := by rw [ex_504]; exact add_toInt (by omega) (by omega)
                          have t_x_494 : x_494.toInt = (vy_2 : Int32).toInt + (1 : Int32).toInt := by rw [ex_494]; exact add_toInt (by omega) (by omega)
                          omega
                        have hx_510 : (x_494 : Int32).toInt.toNat = (vy_2 : Int32).toInt.toNat + 1 := by
                          have z_1 := Int32.lt_iff_toInt_lt.mp (Int32.not_le.mp c_9)
                          have z_2 : ¬ (r_319 : Int32).toInt = (32 : Int32).toInt := fun z => c_322 (Int32.toInt_inj.mp z)
                          have z_3 := congrArg Int32.toInt c_323
                          have z_4 := congrArg Int32.toInt c_428
                          have z_5 := congrArg Int32.toInt c_435
                          have z_6 : ¬ (r_419 : Int32).toInt = ((-1) : Int32).toInt := fun z => c_436 (Int32.toInt_inj.mp z)
                          have z_7 : ¬ (r_419 : Int32).toInt = (60 : Int32).toInt := fun z => c_444 (Int32.toInt_inj.mp z)
                          have z_8 := congrArg Int32.toInt c_479
                          have z_9 : ¬ (r_500 : Int32).toInt = (61 : Int32).toInt := fun z => c_503 (Int32.toInt_inj.mp z)
                          have y_m1 : (-1 : Int32).toInt = -1 := by decide
                          have y_0 : (0 : Int32).toInt = 0 := by decide
                          have y_32 : (32 : Int32).toInt = 32 := by decide
                          have y_60 : (60 : Int32).toInt = 60 := by decide
                          have y_61 : (61 : Int32).toInt = 61 := by decide
                          have y_62 : (62 : Int32).toInt = 62 := by decide
                          have y_1 : (1 : Int32).toInt = 1 := by decide
                          have t_x_494 : x_494.toInt = (vy_2 : Int32).toInt + (1 : Int32).toInt := by rw [ex_494]; exact add_toInt (by omega) (by omega)
                          omega
                        rw [hx_510] at he_501
                        have h2_511 : ¬ (((r_419 : Int32).toInt = 60 ∨ (r_419 : Int32).toInt = 62) ∧ cB (Tf 1) (Tv 0) ((vy_2 : Int32).toInt.toNat + 1) = 61) := by
                          have z_1 := Int32.lt_iff_toInt_lt.mp (Int32.not_le.mp c_9)
                          have z_2 : ¬ (r_319 : Int32).toInt = (32 : Int32).toInt := fun z => c_322 (Int32.toInt_inj.mp z)
                          have z_3 := congrArg Int32.toInt c_323
                          have z_4 := congrArg Int32.toInt c_428
                          have z_5 := congrArg Int32.toInt c_435
                          have z_6 : ¬ (r_419 : Int32).toInt = ((-1) : Int32).toInt := fun z => c_436 (Int32.toInt_inj.mp z)
                          have z_7 : ¬ (r_419 : Int32).toInt = (60 : Int32).toInt := fun z => c_444 (Int32.toInt_inj.mp z)
                          have z_8 := congrArg Int32.toInt c_479
                          have z_9 : ¬ (r_500 : Int32).toInt = (61 : Int32).toInt := fun z => c_503 (Int32.toInt_inj.mp z)
                          have y_m1 : (-1 : Int32).toInt = -1 := by decide
                          have y_0 : (0 : Int32).toInt = 0 := by decide
                          have y_32 : (32 : Int32).toInt = 32 := by decide
                          have y_60 : (60 : Int32).toInt = 60 := by decide
                          have y_61 : (61 : Int32).toInt = 61 := by decide
                          have y_62 : (62 : Int32).toInt = 62 := by decide
                          have y_1 : (1 : Int32).toInt = 1 := by decide
                          have t_x_494 : x_494.toInt = (vy_2 : Int32).toInt + (1 : Int32).toInt := by rw [ex_494]; exact add_toInt (by omega) (by omega)
                          omega
                        have hr_512 : ¬ (97 ≤ (r_419 : Int32).toInt ∧ (r_419 : Int32).toInt ≤ 122) := by
                          have z_1 := Int32.lt_iff_toInt_lt.mp (Int32.not_le.mp c_9)
                          have z_2 : ¬ (r_319 : Int32).toInt = (32 : Int32).toInt := fun z => c_322 (Int32.toInt_inj.mp z)
                          have z_3 := congrArg Int32.toInt c_323
                          have z_4 := congrArg Int32.toInt c_428
                          have z_5 := congrArg Int32.toInt c_435
                          have z_6 : ¬ (r_419 : Int32).toInt = ((-1) : Int32).toInt := fun z => c_436 (Int32.toInt_inj.mp z)
                          have z_7 : ¬ (r_419 : Int32).toInt = (60 : Int32).toInt := fun z => c_444 (Int32.toInt_inj.mp z)
                          have z_8 := congrArg Int32.toInt c_479
                          have z_9 : ¬ (r_500 : Int32).toInt = (61 : Int32).toInt := fun z => c_503 (Int32.toInt_inj.mp z)
                          have y_m1 : (-1 : Int32).toInt = -1 := by decide
                          have y_0 : (0 : Int32).toInt = 0 := by decide
                          have y_32 : (32 : Int32).toInt = 32 := by decide
                          have y_60 : (60 : Int32).toInt = 60 := by decide
                          have y_61 : (61 : Int32).toInt = 61 := by decide
                          have y_62 : (62 : Int32).toInt = 62 := by decide
                          have y_1 : (1 : Int32).toInt = 1 := by decide
                          have t_x_494 : x_494.toInt = (vy_2 : Int32).toInt + (1 : Int32).toInt := by rw [ex_494]; exact add_toInt (by omega) (by omega)
                          omega
                        have hr_513 : ¬ (48 ≤ (r_419 : Int32).toInt ∧ (r_419 : Int32).toInt ≤ 57) := by
                          have z_1 := Int32.lt_iff_toInt_lt.mp (Int32.not_le.mp c_9)
                          have z_2 : ¬ (r_319 : Int32).toInt = (32 : Int32).toInt := fun z => c_322 (Int32.toInt_inj.mp z)
                          have z_3 := congrArg Int32.toInt c_323
                          have z_4 := congrArg Int32.toInt c_428
                          have z_5 := congrArg Int32.toInt c_435
                          have z_6 : ¬ (r_419 : Int32).toInt = ((-1) : Int32).toInt := fun z => c_436 (Int32.toInt_inj.mp z)
                          have z_7 : ¬ (r_419 : Int32).toInt = (60 : Int32).toInt := fun z => c_444 (Int32.toInt_inj.mp z)
                          have z_8 := congrArg Int32.toInt c_479
                          have z_9 : ¬ (r_500 : Int32).toInt = (61 : Int32).toInt := fun z => c_503 (Int32.toInt_inj.mp z)
                          have y_m1 : (-1 : Int32).toInt = -1 := by decide
                          have y_0 : (0 : Int32).toInt = 0 := by decide
                          have y_32 : (32 : Int32).toInt = 32 := by decide
                          have y_60 : (60 : Int32).toInt = 60 := by decide
                          have y_61 : (61 : Int32).toInt = 61 := by decide
                          have y_62 : (62 : Int32).toInt = 62 := by decide
                          have y_1 : (1 : Int32).toInt = 1 := by decide
                          have t_x_494 : x_494.toInt = (vy_2 : Int32).toInt + (1 : Int32).toInt := by rw [ex_494]; exact add_toInt (by omega) (by omega)
                          omega
                        have hr_514 : ¬ (r_419 : Int32).toInt = -1 := by
                          have z_1 := Int32.lt_iff_toInt_lt.mp (Int32.not_le.mp c_9)
                          have z_2 : ¬ (r_319 : Int32).toInt = (32 : Int32).toInt := fun z => c_322 (Int32.toInt_inj.mp z)
                          have z_3 := congrArg Int32.toInt c_323
                          have z_4 := congrArg Int32.toInt c_428
                          have z_5 := congrArg Int32.toInt c_435
                          have z_6 : ¬ (r_419 : Int32).toInt = ((-1) : Int32).toInt := fun z => c_436 (Int32.toInt_inj.mp z)
                          have z_7 : ¬ (r_419 : Int32).toInt = (60 : Int32).toInt := fun z => c_444 (Int32.toInt_inj.mp z)
                          have z_8 := congrArg Int32.toInt c_479
                          have z_9 : ¬ (r_500 : Int32).toInt = (61 : Int32).toInt := fun z => c_503 (Int32.toInt_inj.mp z)
                          have y_m1 : (-1 : Int32).toInt = -1 := by decide
                          have y_0 : (0 : Int32).toInt = 0 := by decide
                          have y_32 : (32 : Int32).toInt = 32 := by decide
                          have y_60 : (60 : Int32).toInt = 60 := by decide
                          have y_61 : (61 : Int32).toInt = 61 := by decide
                          have y_62 : (62 : Int32).toInt = 62 := by decide
                          have y_1 : (1 : Int32).toInt = 1 := by decide
                          have t_x_494 : x_494.toInt = (vy_2 : Int32).toInt + (1 : Int32).toInt := by rw [ex_494]; exact add_toInt (by omega) (by omega)
                          omega
                        have hr_515 : ((Tv 4) : Int32).toInt = 0 := by
                          have z_1 := Int32.lt_iff_toInt_lt.mp (Int32.not_le.mp c_9)
                          have z_2 : ¬ (r_319 : Int32).toInt = (32 : Int32).toInt := fun z => c_322 (Int32.toInt_inj.mp z)
                          have z_3 := congrArg Int32.toInt c_323
                          have z_4 := congrArg Int32.toInt c_428
                          have z_5 := congrArg Int32.toInt c_435
                          have z_6 : ¬ (r_419 : Int32).toInt = ((-1) : Int32).toInt := fun z => c_436 (Int32.toInt_inj.mp z)
                          have z_7 : ¬ (r_419 : Int32).toInt = (60 : Int32).toInt := fun z => c_444 (Int32.toInt_inj.mp z)
                          have z_8 := congrArg Int32.toInt c_479
                          have z_9 : ¬ (r_500 : Int32).toInt = (61 : Int32).toInt := fun z => c_503 (Int32.toInt_inj.mp z)
                          have y_m1 : (-1 : Int32).toInt = -1 := by decide
                          have y_0 : (0 : Int32).toInt = 0 := by decide
                          have y_32 : (32 : Int32).toInt = 32 := by decide
                          have y_60 : (60 : Int32).toInt = 60 := by decide
                          have y_61 : (61 : Int32).toInt = 61 := by decide
                          have y_62 : (62 : Int32).toInt = 62 := by decide
                          have y_1 : (1 : Int32).toInt = 1 := by decide
                          have t_x_494 : x_494.toInt = (vy_2 : Int32).toInt + (1 : Int32).toInt := by rw [ex_494]; exact add_toInt (by omega) (by omega)
                          omega
                        have hr_516 : (vy_2 : Int32).toInt ≤ 400 := by
                          have z_1 := Int32.lt_iff_toInt_lt.mp (Int32.not_le.mp c_9)
                          have z_2 : ¬ (r_319 : Int32).toInt = (32 : Int32).toInt := fun z => c_322 (Int32.toInt_inj.mp z)
                          have z_3 := congrArg Int32.toInt c_323
                          have z_4 := congrArg Int32.toInt c_428
                          have z_5 := congrArg Int32.toInt c_435
                          have z_6 : ¬ (r_419 : Int32).toInt = ((-1) : Int32).toInt := fun z => c_436 (Int32.toInt_inj.mp z)
                          have z_7 : ¬ (r_419 : Int32).toInt = (60 : Int32).toInt := fun z => c_444 (Int32.toInt_inj.mp z)
                          have z_8 := congrArg Int32.toInt c_479
                          have z_9 : ¬ (r_500 : Int32).toInt = (61 : Int32).toInt := fun z => c_503 (Int32.toInt_inj.mp z)
                          have y_m1 : (-1 : Int32).toInt = -1 := by decide
                          have y_0 : (0 : Int32).toInt = 0 := by decide
                          have y_32 : (32 : Int32).toInt = 32 := by decide
                          have y_60 : (60 : Int32).toInt = 60 := by decide
                          have y_61 : (61 : Int32).toInt = 61 := by decide
                          have y_62 : (62 : Int32).toInt = 62 := by decide
                          have y_1 : (1 : Int32).toInt = 1 := by decide
                          have t_x_494 : x_494.toInt = (vy_2 : Int32).toInt + (1 : Int32).toInt := by rw [ex_494]; exact add_toInt (by omega) (by omega)
                          omega
                        exact retV hx hb hr hlk hP hD hS (vy_2, x_504, r_419) ⟨rfl, ha_505, (TpB.at h_tb hr_515 h_tape.2.2.2.2.1 pf_7 hr_516 h2_507 (te_1 hr_508 he_420.1 hr_512 hr_513 hr_514 h2_511 hi_509) he_420.1)⟩ [0, 1] rfl rfl dX10_step_242 (Nat.le_of_ble_eq_true rfl) (Nat.le_of_ble_eq_true rfl) rfl
                      · skip
                        refine lv_aload_n hx hb dX10_step_224 rfl (lv_at hl 1 rfl) ?_
                        refine gf_X10_19 hx hb hts hown hK hP 0 rfl rfl dX10_step_225 ?_
                        refine lv_iconst (v := 2) hx hb dX10_step_228 (by decide) ?_
                        refine lv_iadd hx hb dX10_step_229 ?_
                        refine lv_topi (fun x_517 ex_517 => ?_)
                        refine lv_goto (tgt := 239) hx hb dX10_step_230 (by decide) ?_
                        refine pf_X10_22 hx hb hts hown hK hP hD hS 0 rfl (Nat.le_of_ble_eq_true rfl) rfl rfl dX10_step_239 (fun H locs hP₀ hD₀ hS₀ => ?_)
                        replace hP : va_P D classes [((Ta 0), .inr (10, [.ref (Ta 1), .int (Tv 0), .int vy_2, .int x_517, .int r_419, .int (Tv 4)])), ((Ta 1), .inl (tc 0, 400, .inl (Tf 1)))] H := hP₀
                        replace hD : va_D A [((Ta 0), .inr (10, [.ref (Ta 1), .int (Tv 0), .int vy_2, .int x_517, .int r_419, .int (Tv 4)])), ((Ta 1), .inl (tc 0, 400, .inl (Tf 1)))] := hD₀
                        replace hS := hS₀
                        clear hP₀ hD₀ hS₀
                        have ha_518 : 0 ≤ ((Tv 0) : Int32).toInt ∧ ((Tv 0) : Int32).toInt ≤ 400 ∧ 0 ≤ (vy_2 : Int32).toInt ∧ (vy_2 : Int32).toInt ≤ 400 ∧ 0 ≤ (x_517 : Int32).toInt ∧ (x_517 : Int32).toInt ≤ 400 := by
                          have z_1 := Int32.lt_iff_toInt_lt.mp (Int32.not_le.mp c_9)
                          have z_2 : ¬ (r_319 : Int32).toInt = (32 : Int32).toInt := fun z => c_322 (Int32.toInt_inj.mp z)
                          have z_3 := congrArg Int32.toInt c_323
                          have z_4 := congrArg Int32.toInt c_428
                          have z_5 := congrArg Int32.toInt c_435
                          have z_6 : ¬ (r_419 : Int32).toInt = ((-1) : Int32).toInt := fun z => c_436 (Int32.toInt_inj.mp z)
                          have z_7 : ¬ (r_419 : Int32).toInt = (60 : Int32).toInt := fun z => c_444 (Int32.toInt_inj.mp z)
                          have z_8 := congrArg Int32.toInt c_479
                          have z_9 := congrArg Int32.toInt c_503
                          have y_m1 : (-1 : Int32).toInt = -1 := by decide
                          have y_0 : (0 : Int32).toInt = 0 := by decide
                          have y_32 : (32 : Int32).toInt = 32 := by decide
                          have y_60 : (60 : Int32).toInt = 60 := by decide
                          have y_61 : (61 : Int32).toInt = 61 := by decide
                          have y_62 : (62 : Int32).toInt = 62 := by decide
                          have y_1 : (1 : Int32).toInt = 1 := by decide
                          have y_2 : (2 : Int32).toInt = 2 := by decide
                          have t_x_517 : x_517.toInt = (vy_2 : Int32).toInt + (2 : Int32).toInt := by rw [ex_517]; exact add_toInt (by omega) (by omega)
                          have t_x_494 : x_494.toInt = (vy_2 : Int32).toInt + (1 : Int32).toInt := by rw [ex_494]; exact add_toInt (by omega) (by omega)
                          omega
                        have rg_519 := cB_rg (n := (Tv 0)) h_by (vy_2 : Int32).toInt.toNat
                        have h2_520 : ¬ cB (Tf 1) (Tv 0) (vy_2 : Int32).toInt.toNat = 32 := by
                          have z_1 := Int32.lt_iff_toInt_lt.mp (Int32.not_le.mp c_9)
                          have z_2 : ¬ (r_319 : Int32).toInt = (32 : Int32).toInt := fun z => c_322 (Int32.toInt_inj.mp z)
                          have z_3 := congrArg Int32.toInt c_323
                          have z_4 := congrArg Int32.toInt c_428
                          have z_5 := congrArg Int32.toInt c_435
                          have z_6 : ¬ (r_419 : Int32).toInt = ((-1) : Int32).toInt := fun z => c_436 (Int32.toInt_inj.mp z)
                          have z_7 : ¬ (r_419 : Int32).toInt = (60 : Int32).toInt := fun z => c_444 (Int32.toInt_inj.mp z)
                          have z_8 := congrArg Int32.toInt c_479
                          have z_9 := congrArg Int32.toInt c_503
                          have y_m1 : (-1 : Int32).toInt = -1 := by decide
                          have y_0 : (0 : Int32).toInt = 0 := by decide
                          have y_32 : (32 : Int32).toInt = 32 := by decide
                          have y_60 : (60 : Int32).toInt = 60 := by decide
                          have y_61 : (61 : Int32).toInt = 61 := by decide
                          have y_62 : (62 : Int32).toInt = 62 := by decide
                          have y_1 : (1 : Int32).toInt = 1 := by decide
                          have t_x_494 : x_494.toInt = (vy_2 : Int32).toInt + (1 : Int32).toInt := by rw [ex_494]; exact add_toInt (by omega) (by omega)
                          omega
                        have hr_521 : 0 ≤ (vy_2 : Int32).toInt := by
                          have z_1 := Int32.lt_iff_toInt_lt.mp (Int32.not_le.mp c_9)
                          have z_2 : ¬ (r_319 : Int32).toInt = (32 : Int32).toInt := fun z => c_322 (Int32.toInt_inj.mp z)
                          have z_3 := congrArg Int32.toInt c_323
                          have z_4 := congrArg Int32.toInt c_428
                          have z_5 := congrArg Int32.toInt c_435
                          have z_6 : ¬ (r_419 : Int32).toInt = ((-1) : Int32).toInt := fun z => c_436 (Int32.toInt_inj.mp z)
                          have z_7 : ¬ (r_419 : Int32).toInt = (60 : Int32).toInt := fun z => c_444 (Int32.toInt_inj.mp z)
                          have z_8 := congrArg Int32.toInt c_479
                          have z_9 := congrArg Int32.toInt c_503
                          have y_m1 : (-1 : Int32).toInt = -1 := by decide
                          have y_0 : (0 : Int32).toInt = 0 := by decide
                          have y_32 : (32 : Int32).toInt = 32 := by decide
                          have y_60 : (60 : Int32).toInt = 60 := by decide
                          have y_61 : (61 : Int32).toInt = 61 := by decide
                          have y_62 : (62 : Int32).toInt = 62 := by decide
                          have y_1 : (1 : Int32).toInt = 1 := by decide
                          have t_x_494 : x_494.toInt = (vy_2 : Int32).toInt + (1 : Int32).toInt := by rw [ex_494]; exact add_toInt (by omega) (by omega)
                          omega
                        have hi_522 : (x_517 : Int32).toInt = (vy_2 : Int32).toInt + 2 := by
                          have z_1 := Int32.lt_iff_toInt_lt.mp (Int32.not_le.mp c_9)
                          have z_2 : ¬ (r_319 : Int32).toInt = (32 : Int32).toInt := fun z => c_322 (Int32.toInt_inj.mp z)
                          have z_3 := congrArg Int32.toInt c_323
                          have z_4 := congrArg Int32.toInt c_428
                          have z_5 := congrArg Int32.toInt c_435
                          have z_6 : ¬ (r_419 : Int32).toInt = ((-1) : Int32).toInt := fun z => c_436 (Int32.toInt_inj.mp z)
                          have z_7 : ¬ (r_419 : Int32).toInt = (60 : Int32).toInt := fun z => c_444 (Int32.toInt_inj.mp z)
                          have z_8 := congrArg Int32.toInt c_479
                          have z_9 := congrArg Int32.toInt c_503
                          have y_m1 : (-1 : Int32).toInt = -1 := by decide
                          have y_0 : (0 : Int32).toInt = 0 := by decide
                          have y_32 : (32 : Int32).toInt = 32 := by decide
                          have y_60 : (60 : Int32).toInt = 60 := by decide
                          have y_61 : (61 : Int32).toInt = 61 := by decide
                          have y_62 : (62 : Int32).toInt = 62 := by decide
                          have y_1 : (1 : Int32).toInt = 1 := by decide
                          have y_2 : (2 : Int32).toInt = 2 := by decide
                          have t_x_517 : x_517.toInt = (vy_2 : Int32).toInt + (2 : Int32).toInt := by rw [ex_517]; exact add_toInt (by omega) (by omega)
                          have t_x_494 : x_494.toInt = (vy_2 : Int32).toInt + (1 : Int32).toInt := by rw [ex_494]; exact add_toInt (by omega) (by omega)
                          omega
                        have hx_523 : (x_494 : Int32).toInt.toNat = (vy_2 : Int32).toInt.toNat + 1 := by
                          have z_1 := Int32.lt_iff_toInt_lt.mp (Int32.not_le.mp c_9)
                          have z_2 : ¬ (r_319 : Int32).toInt = (32 : Int32).toInt := fun z => c_322 (Int32.toInt_inj.mp z)
                          have z_3 := congrArg Int32.toInt c_323
                          have z_4 := congrArg Int32.toInt c_428
                          have z_5 := congrArg Int32.toInt c_435
                          have z_6 : ¬ (r_419 : Int32).toInt = ((-1) : Int32).toInt := fun z => c_436 (Int32.toInt_inj.mp z)
                          have z_7 : ¬ (r_419 : Int32).toInt = (60 : Int32).toInt := fun z => c_444 (Int32.toInt_inj.mp z)
                          have z_8 := congrArg Int32.toInt c_479
                          have z_9 := congrArg Int32.toInt c_503
                          have y_m1 : (-1 : Int32).toInt = -1 := by decide
                          have y_0 : (0 : Int32).toInt = 0 := by decide
                          have y_32 : (32 : Int32).toInt = 32 := by decide
                          have y_60 : (60 : Int32).toInt = 60 := by decide
                          have y_61 : (61 : Int32).toInt = 61 := by decide
                          have y_62 : (62 : Int32).toInt = 62 := by decide
                          have y_1 : (1 : Int32).toInt = 1 := by decide
                          have t_x_494 : x_494.toInt = (vy_2 : Int32).toInt + (1 : Int32).toInt := by rw [ex_494]; exact add_toInt (by omega) (by omega)
                          omega
                        rw [hx_523] at he_501
                        have h2_524 : (((r_419 : Int32).toInt = 60 ∨ (r_419 : Int32).toInt = 62) ∧ cB (Tf 1) (Tv 0) ((vy_2 : Int32).toInt.toNat + 1) = 61) := by
                          have z_1 := Int32.lt_iff_toInt_lt.mp (Int32.not_le.mp c_9)
                          have z_2 : ¬ (r_319 : Int32).toInt = (32 : Int32).toInt := fun z => c_322 (Int32.toInt_inj.mp z)
                          have z_3 := congrArg Int32.toInt c_323
                          have z_4 := congrArg Int32.toInt c_428
                          have z_5 := congrArg Int32.toInt c_435
                          have z_6 : ¬ (r_419 : Int32).toInt = ((-1) : Int32).toInt := fun z => c_436 (Int32.toInt_inj.mp z)
                          have z_7 : ¬ (r_419 : Int32).toInt = (60 : Int32).toInt := fun z => c_444 (Int32.toInt_inj.mp z)
                          have z_8 := congrArg Int32.toInt c_479
                          have z_9 := congrArg Int32.toInt c_503
                          have y_m1 : (-1 : Int32).toInt = -1 := by decide
                          have y_0 : (0 : Int32).toInt = 0 := by decide
                          have y_32 : (32 : Int32).toInt = 32 := by decide
                          have y_60 : (60 : Int32).toInt = 60 := by decide
                          have y_61 : (61 : Int32).toInt = 61 := by decide
                          have y_62 : (62 : Int32).toInt = 62 := by decide
                          have y_1 : (1 : Int32).toInt = 1 := by decide
                          have t_x_494 : x_494.toInt = (vy_2 : Int32).toInt + (1 : Int32).toInt := by rw [ex_494]; exact add_toInt (by omega) (by omega)
                          omega
                        have hr_525 : ((Tv 4) : Int32).toInt = 0 := by
                          have z_1 := Int32.lt_iff_toInt_lt.mp (Int32.not_le.mp c_9)
                          have z_2 : ¬ (r_319 : Int32).toInt = (32 : Int32).toInt := fun z => c_322 (Int32.toInt_inj.mp z)
                          have z_3 := congrArg Int32.toInt c_323
                          have z_4 := congrArg Int32.toInt c_428
                          have z_5 := congrArg Int32.toInt c_435
                          have z_6 : ¬ (r_419 : Int32).toInt = ((-1) : Int32).toInt := fun z => c_436 (Int32.toInt_inj.mp z)
                          have z_7 : ¬ (r_419 : Int32).toInt = (60 : Int32).toInt := fun z => c_444 (Int32.toInt_inj.mp z)
                          have z_8 := congrArg Int32.toInt c_479
                          have z_9 := congrArg Int32.toInt c_503
                          have y_m1 : (-1 : Int32).toInt = -1 := by decide
                          have y_0 : (0 : Int32).toInt = 0 := by decide
                          have y_32 : (32 : Int32).toInt = 32 := by decide
                          have y_60 : (60 : Int32).toInt = 60 := by decide
                          have y_61 : (61 : Int32).toInt = 61 := by decide
                          have y_62 : (62 : Int32).toInt = 62 := by decide
                          have y_1 : (1 : Int32).toInt = 1 := by decide
                          have t_x_494 : x_494.toInt = (vy_2 : Int32).toInt + (1 : Int32).toInt := by rw [ex_494]; exact add_toInt (by omega) (by omega)
                          omega
                        have hr_526 : (vy_2 : Int32).toInt ≤ 400 := by
                          have z_1 := Int32.lt_iff_toInt_lt.mp (Int32.not_le.mp c_9)
                          have z_2 : ¬ (r_319 : Int32).toInt = (32 : Int32).toInt := fun z => c_322 (Int32.toInt_inj.mp z)
                          have z_3 := congrArg Int32.toInt c_323
                          have z_4 := congrArg Int32.toInt c_428
                          have z_5 := congrArg Int32.toInt c_435
                          have z_6 : ¬ (r_419 : Int32).toInt = ((-1) : Int32).toInt := fun z => c_436 (Int32.toInt_inj.mp z)
                          have z_7 : ¬ (r_419 : Int32).toInt = (60 : Int32).toInt := fun z => c_444 (Int32.toInt_inj.mp z)
                          have z_8 := congrArg Int32.toInt c_479
                          have z_9 := congrArg Int32.toInt c_503
                          have y_m1 : (-1 : Int32).toInt = -1 := by decide
                          have y_0 : (0 : Int32).toInt = 0 := by decide
                          have y_32 : (32 : Int32).toInt = 32 := by decide
                          have y_60 : (60 : Int32).toInt = 60 := by decide
                          have y_61 : (61 : Int32).toInt = 61 := by decide
                          have y_62 : (62 : Int32).toInt = 62 := by decide
                          have y_1 : (1 : Int32).toInt = 1 := by decide
                          have t_x_494 : x_494.toInt = (vy_2 : Int32).toInt + (1 : Int32).toInt := by rw [ex_494]; exact add_toInt (by omega) (by omega)
                          omega
                        exact retV hx hb hr hlk hP hD hS (vy_2, x_517, r_419) ⟨rfl, ha_518, (TpB.at h_tb hr_525 h_tape.2.2.2.2.1 pf_7 hr_526 h2_520 (te_2 hr_521 he_420.1 h2_524 hi_522) he_420.1)⟩ [0, 1] rfl rfl dX10_step_242 (Nat.le_of_ble_eq_true rfl) (Nat.le_of_ble_eq_true rfl) rfl
              · skip
                have loop_531 : ∀ (n_529 : Nat) (vy_528 : Int32) (H : Heap) (locs : List Loc) (ls : Array Slot), (401 - (vy_528 : Int32).toInt).toNat < n_529 → (0 ≤ (vy_528 : Int32).toInt ∧ (vy_528 : Int32).toInt ≤ 400) → (Rn pz_isD (Tf 1) (Tv 0) vy_2 vy_528) → va_P D classes [((Ta 0), .inr (10, [.ref (Ta 1), .int (Tv 0), .int vy_2, .int vy_528, .int r_419, .int (Tv 4)])), ((Ta 1), .inl (tc 0, 400, .inl (Tf 1)))] H → va_D A [((Ta 0), .inr (10, [.ref (Ta 1), .int (Tv 0), .int vy_2, .int vy_528, .int r_419, .int (Tv 4)])), ((Ta 1), .inl (tc 0, 400, .inl (Tf 1)))] → va_S A s.heap H locs → lv_has ls 2 [(0, .ref (Ta 0))] → W p l e ({ frames := 1, cells := 0, slots := 0, locals := 21 }) s m ([.ref (Ta 0)].toArray) below meth c H locs 0 0 (MQ below (QW (fun (v : Option Value) (u : (Int32) × (Int32) × (Int32)) => match u with | (oo0x1, oo0x2, oo0x3) => v = none ∧ (0 ≤ ((Tv 0) : Int32).toInt ∧ ((Tv 0) : Int32).toInt ≤ 400 ∧ 0 ≤ (oo0x1 : Int32).toInt ∧ (oo0x1 : Int32).toInt ≤ 400 ∧ 0 ≤ (oo0x2 : Int32).toInt ∧ (oo0x2 : Int32).toInt ≤ 400) ∧ (TpR (Tf 1) (Tv 0) (rSK (cB (Tf 1) (Tv 0)) rr) oo0x1 oo0x2 oo0x3 (Tv 4))) (BW D (fun (u : (Int32) × (Int32) × (Int32)) => match u with | (oo0x1, oo0x2, oo0x3) => [((Ta 0), .inr (10, [.ref (Ta 1), .int (Tv 0), .int oo0x1, .int oo0x2, .int oo0x3, .int (Tv 4)])), ((Ta 1), .inl (tc 0, 400, .inl (Tf 1)))]) A) A) ([.ref (Ta 0)].toArray) s 0 0 A) (F0 m 134 ls []) := by
                  clear hP hD hS hl
                  intro n_529
                  induction n_529 with
                  | zero =>
                    intro vy_528 H locs ls h1
                    exact absurd h1 (Nat.not_lt_zero _)
                  | succ n_529 ih_530 =>
                    intro vy_528 H locs ls hn_534 pf_532 pf_533 hP hD hS hl
                    refine lv_aload_n hx hb dX10_step_134 rfl (lv_at hl 0 rfl) ?_
                    refine gf_X10_22 hx hb hts hown hK hP 0 rfl rfl dX10_step_135 ?_
                    refine lv_aload_n hx hb dX10_step_138 rfl (lv_at hl 0 rfl) ?_
                    refine gf_X10_15 hx hb hts hown hK hP 0 rfl rfl dX10_step_139 ?_
                    refine lv_icmp_ge (tgt := 242) hx hb dX10_step_142 (by decide) (fun c_535 => ?_) (fun c_535 => ?_)
                    · skip
                      have ha_536 : 0 ≤ ((Tv 0) : Int32).toInt ∧ ((Tv 0) : Int32).toInt ≤ 400 ∧ 0 ≤ (vy_2 : Int32).toInt ∧ (vy_2 : Int32).toInt ≤ 400 ∧ 0 ≤ (vy_528 : Int32).toInt ∧ (vy_528 : Int32).toInt ≤ 400 := by
                        have z_1 := Int32.lt_iff_toInt_lt.mp (Int32.not_le.mp c_9)
                        have z_2 : ¬ (r_319 : Int32).toInt = (32 : Int32).toInt := fun z => c_322 (Int32.toInt_inj.mp z)
                        have z_3 := congrArg Int32.toInt c_323
                        have z_4 := congrArg Int32.toInt c_428
                        have z_5 : ¬ (r_432 : Int32).toInt = (0 : Int32).toInt := fun z => c_435 (Int32.toInt_inj.mp z)
                        have z_6 := Int32.le_iff_toInt_le.mp c_535
                        have y_0 : (0 : Int32).toInt = 0 := by decide
                        have y_32 : (32 : Int32).toInt = 32 := by decide
                        omega
                      have rg_537 := cB_rg (n := (Tv 0)) h_by (vy_2 : Int32).toInt.toNat
                      have h2_538 : ¬ cB (Tf 1) (Tv 0) (vy_2 : Int32).toInt.toNat = 32 := by
                        have z_1 := Int32.lt_iff_toInt_lt.mp (Int32.not_le.mp c_9)
                        have z_2 : ¬ (r_319 : Int32).toInt = (32 : Int32).toInt := fun z => c_322 (Int32.toInt_inj.mp z)
                        have z_3 := congrArg Int32.toInt c_323
                        have z_4 := congrArg Int32.toInt c_428
                        have z_5 : ¬ (r_432 : Int32).toInt = (0 : Int32).toInt := fun z => c_435 (Int32.toInt_inj.mp z)
                        have z_6 := Int32.le_iff_toInt_le.mp c_535
                        have y_0 : (0 : Int32).toInt = 0 := by decide
                        have y_32 : (32 : Int32).toInt = 32 := by decide
                        omega
                      have hr_539 : 0 ≤ (vy_2 : Int32).toInt := by
                        have z_1 := Int32.lt_iff_toInt_lt.mp (Int32.not_le.mp c_9)
                        have z_2 : ¬ (r_319 : Int32).toInt = (32 : Int32).toInt := fun z => c_322 (Int32.toInt_inj.mp z)
                        have z_3 := congrArg Int32.toInt c_323
                        have z_4 := congrArg Int32.toInt c_428
                        have z_5 : ¬ (r_432 : Int32).toInt = (0 : Int32).toInt := fun z => c_435 (Int32.toInt_inj.mp z)
                        have z_6 := Int32.le_iff_toInt_le.mp c_535
                        have y_0 : (0 : Int32).toInt = 0 := by decide
                        have y_32 : (32 : Int32).toInt = 32 := by decide
                        omega
                      have rg_540 := cB_rg (n := (Tv 0)) h_by (vy_528 : Int32).toInt.toNat
                      have hn_541 : ¬ (48 ≤ cB (Tf 1) (Tv 0) (vy_528 : Int32).toInt.toNat ∧ cB (Tf 1) (Tv 0) (vy_528 : Int32).toInt.toNat ≤ 57) := by
                        have z_1 := Int32.lt_iff_toInt_lt.mp (Int32.not_le.mp c_9)
                        have z_2 : ¬ (r_319 : Int32).toInt = (32 : Int32).toInt := fun z => c_322 (Int32.toInt_inj.mp z)
                        have z_3 := congrArg Int32.toInt c_323
                        have z_4 := congrArg Int32.toInt c_428
                        have z_5 : ¬ (r_432 : Int32).toInt = (0 : Int32).toInt := fun z => c_435 (Int32.toInt_inj.mp z)
                        have z_6 := Int32.le_iff_toInt_le.mp c_535
                        have y_0 : (0 : Int32).toInt = 0 := by decide
                        have y_32 : (32 : Int32).toInt = 32 := by decide
                        omega
                      have hr_542 : 48 ≤ (r_419 : Int32).toInt ∧ (r_419 : Int32).toInt ≤ 57 := by
                        have z_1 := Int32.lt_iff_toInt_lt.mp (Int32.not_le.mp c_9)
                        have z_2 : ¬ (r_319 : Int32).toInt = (32 : Int32).toInt := fun z => c_322 (Int32.toInt_inj.mp z)
                        have z_3 := congrArg Int32.toInt c_323
                        have z_4 := congrArg Int32.toInt c_428
                        have z_5 : ¬ (r_432 : Int32).toInt = (0 : Int32).toInt := fun z => c_435 (Int32.toInt_inj.mp z)
                        have z_6 := Int32.le_iff_toInt_le.mp c_535
                        have y_0 : (0 : Int32).toInt = 0 := by decide
                        have y_32 : (32 : Int32).toInt = 32 := by decide
                        omega
                      have hr_543 : (vy_528 : Int32).toInt ≤ 400 := by
                        have z_1 := Int32.lt_iff_toInt_lt.mp (Int32.not_le.mp c_9)
                        have z_2 : ¬ (r_319 : Int32).toInt = (32 : Int32).toInt := fun z => c_322 (Int32.toInt_inj.mp z)
                        have z_3 := congrArg Int32.toInt c_323
                        have z_4 := congrArg Int32.toInt c_428
                        have z_5 : ¬ (r_432 : Int32).toInt = (0 : Int32).toInt := fun z => c_435 (Int32.toInt_inj.mp z)
                        have z_6 := Int32.le_iff_toInt_le.mp c_535
                        have y_0 : (0 : Int32).toInt = 0 := by decide
                        have y_32 : (32 : Int32).toInt = 32 := by decide
                        omega
                      have hr_544 : ((Tv 4) : Int32).toInt = 0 := by
                        have z_1 := Int32.lt_iff_toInt_lt.mp (Int32.not_le.mp c_9)
                        have z_2 : ¬ (r_319 : Int32).toInt = (32 : Int32).toInt := fun z => c_322 (Int32.toInt_inj.mp z)
                        have z_3 := congrArg Int32.toInt c_323
                        have z_4 := congrArg Int32.toInt c_428
                        have z_5 : ¬ (r_432 : Int32).toInt = (0 : Int32).toInt := fun z => c_435 (Int32.toInt_inj.mp z)
                        have z_6 := Int32.le_iff_toInt_le.mp c_535
                        have y_0 : (0 : Int32).toInt = 0 := by decide
                        have y_32 : (32 : Int32).toInt = 32 := by decide
                        omega
                      have hr_545 : (vy_2 : Int32).toInt ≤ 400 := by
                        have z_1 := Int32.lt_iff_toInt_lt.mp (Int32.not_le.mp c_9)
                        have z_2 : ¬ (r_319 : Int32).toInt = (32 : Int32).toInt := fun z => c_322 (Int32.toInt_inj.mp z)
                        have z_3 := congrArg Int32.toInt c_323
                        have z_4 := congrArg Int32.toInt c_428
                        have z_5 : ¬ (r_432 : Int32).toInt = (0 : Int32).toInt := fun z => c_435 (Int32.toInt_inj.mp z)
                        have z_6 := Int32.le_iff_toInt_le.mp c_535
                        have y_0 : (0 : Int32).toInt = 0 := by decide
                        have y_32 : (32 : Int32).toInt = 32 := by decide
                        omega
                      exact retV hx hb hr hlk hP hD hS (vy_2, vy_528, r_419) ⟨rfl, ha_536, (TpB.at h_tb hr_544 h_tape.2.2.2.2.1 pf_7 hr_545 h2_538 (te_D hr_539 he_420.1 hr_542 pf_533 hr_543 hn_541) he_420.1)⟩ [0, 1] rfl rfl dX10_step_242 (Nat.le_of_ble_eq_true rfl) (Nat.le_of_ble_eq_true rfl) rfl
                    · skip
                      refine lv_aload_n hx hb dX10_step_145 rfl (lv_at hl 0 rfl) ?_
                      refine lv_aload_n hx hb dX10_step_146 rfl (lv_at hl 0 rfl) ?_
                      refine gf_X10_22 hx hb hts hown hK hP 0 rfl rfl dX10_step_147 ?_
                      have ha_546 : 0 ≤ ((Tv 0) : Int32).toInt ∧ ((Tv 0) : Int32).toInt ≤ 400 ∧ 0 ≤ (vy_2 : Int32).toInt ∧ (vy_2 : Int32).toInt ≤ 400 ∧ 0 ≤ (vy_528 : Int32).toInt ∧ (vy_528 : Int32).toInt ≤ 400 := by
                        have z_1 := Int32.lt_iff_toInt_lt.mp (Int32.not_le.mp c_9)
                        have z_2 : ¬ (r_319 : Int32).toInt = (32 : Int32).toInt := fun z => c_322 (Int32.toInt_inj.mp z)
                        have z_3 := congrArg Int32.toInt c_323
                        have z_4 := congrArg Int32.toInt c_428
                        have z_5 : ¬ (r_432 : Int32).toInt = (0 : Int32).toInt := fun z => c_435 (Int32.toInt_inj.mp z)
                        have z_6 := Int32.lt_iff_toInt_lt.mp (Int32.not_le.mp c_535)
                        have y_0 : (0 : Int32).toInt = 0 := by decide
                        have y_32 : (32 : Int32).toInt = 32 := by decide
                        omega
                      have ha_547 : 0 ≤ vy_528.toInt := by
                        have z_1 := Int32.lt_iff_toInt_lt.mp (Int32.not_le.mp c_9)
                        have z_2 : ¬ (r_319 : Int32).toInt = (32 : Int32).toInt := fun z => c_322 (Int32.toInt_inj.mp z)
                        have z_3 := congrArg Int32.toInt c_323
                        have z_4 := congrArg Int32.toInt c_428
                        have z_5 : ¬ (r_432 : Int32).toInt = (0 : Int32).toInt := fun z => c_435 (Int32.toInt_inj.mp z)
                        have z_6 := Int32.lt_iff_toInt_lt.mp (Int32.not_le.mp c_535)
                        have y_0 : (0 : Int32).toInt = 0 := by decide
                        have y_32 : (32 : Int32).toInt = 32 := by decide
                        omega
                      refine cV (a := (Ta 0)) (As := [.int vy_528]) (rest := []) (wr := []) ⟨hx, hb, hml, hown, hts⟩ hK hX hA (cu_fX10_byteAt l D tc sk (Ta 0) (Ta 1) (Tv 0) vy_2 vy_528 r_419 (Tv 4) (Tf 1) vy_528 ha_546 h_by ha_547) k_482 k_479 k_481 k_0 k_96 pl_X10_byteAt ⟨Nat.le_of_ble_eq_true rfl, Nat.le_of_ble_eq_true rfl⟩ rfl rfl (va_recv hK hP (ci := 10) (q0 := 0) rfl rfl) hP hD hS [0, 1] [] rfl rfl rfl rfl rfl (by decide) rfl hl.1 rfl (Nat.le_of_ble_eq_true rfl) dX10_step_150 ⟨Nat.le_of_ble_eq_true rfl, Nat.le_of_ble_eq_true rfl⟩ (fun v_548 u_549 H locs hv_550 hP₀ hD₀ hS₀ => ?_)
                      obtain ⟨r_551, rfl, he_552⟩ := hv_550
                      have he_552 : (r_551.toInt = cB (Tf 1) (Tv 0) vy_528.toInt.toNat ∧ (((Tv 0).toInt ≤ vy_528.toInt ∧ r_551.toInt = -1) ∨ (vy_528.toInt < (Tv 0).toInt ∧ 0 ≤ r_551.toInt ∧ r_551.toInt ≤ 255))) := he_552
                      refine W.eq (g2 := F0 m 153 ls [.int r_551]) rfl ?_
                      replace hP : va_P D classes [((Ta 0), .inr (10, [.ref (Ta 1), .int (Tv 0), .int vy_2, .int vy_528, .int r_419, .int (Tv 4)])), ((Ta 1), .inl (tc 0, 400, .inl (Tf 1)))] H := hP₀
                      replace hD : va_D A [((Ta 0), .inr (10, [.ref (Ta 1), .int (Tv 0), .int vy_2, .int vy_528, .int r_419, .int (Tv 4)])), ((Ta 1), .inl (tc 0, 400, .inl (Tf 1)))] := hD₀
                      replace hS := hS₀
                      clear hP₀ hD₀ hS₀
                      refine cS (As := [.int r_551]) (rest := []) (wr := [((Ta 0), .inr (10, [.ref (Ta 1), .int (Tv 0), .int vy_2, .int vy_528, .int r_419, .int (Tv 4)])), ((Ta 1), .inl (tc 0, 400, .inl (Tf 1)))]) ⟨hx, hb, hml, hown, hts⟩ hK hX hA (ct_fX10_isDigit l D tc sk r_551) k_488 k_486 k_487 k_96 pl_X10_isDigit ⟨Nat.le_of_ble_eq_true rfl, Nat.le_of_ble_eq_true rfl⟩ rfl rfl  hP hD hS [] [0, 1] rfl rfl rfl rfl rfl (by decide) rfl hl.1 rfl (Nat.le_of_ble_eq_true rfl) dX10_step_153 ⟨Nat.le_of_ble_eq_true rfl, Nat.le_of_ble_eq_true rfl⟩ (fun v_554 u_555 H locs hv_556 hP₀ hD₀ hS₀ => ?_)
                      obtain ⟨r_557, rfl, he_558⟩ := hv_556
                      have he_558 : ((r_557.toInt = 1 ∧ 48 ≤ r_551.toInt ∧ r_551.toInt ≤ 57) ∨ (r_557.toInt = 0 ∧ (r_551.toInt < 48 ∨ 57 < r_551.toInt))) := he_558
                      refine W.eq (g2 := F0 m 156 ls [.int r_557]) rfl ?_
                      replace hP : va_P D classes [((Ta 0), .inr (10, [.ref (Ta 1), .int (Tv 0), .int vy_2, .int vy_528, .int r_419, .int (Tv 4)])), ((Ta 1), .inl (tc 0, 400, .inl (Tf 1)))] H := hP₀
                      replace hD : va_D A [((Ta 0), .inr (10, [.ref (Ta 1), .int (Tv 0), .int vy_2, .int vy_528, .int r_419, .int (Tv 4)])), ((Ta 1), .inl (tc 0, 400, .inl (Tf 1)))] := hD₀
                      replace hS := hS₀
                      clear hP₀ hD₀ hS₀
                      refine lv_if_eq (tgt := 242) hx hb dX10_step_156 (by decide) (fun c_560 => ?_) (fun c_560 => ?_)
                      · skip
                        have ha_561 : 0 ≤ ((Tv 0) : Int32).toInt ∧ ((Tv 0) : Int32).toInt ≤ 400 ∧ 0 ≤ (vy_2 : Int32).toInt ∧ (vy_2 : Int32).toInt ≤ 400 ∧ 0 ≤ (vy_528 : Int32).toInt ∧ (vy_528 : Int32).toInt ≤ 400 := by
                          have z_1 := Int32.lt_iff_toInt_lt.mp (Int32.not_le.mp c_9)
                          have z_2 : ¬ (r_319 : Int32).toInt = (32 : Int32).toInt := fun z => c_322 (Int32.toInt_inj.mp z)
                          have z_3 := congrArg Int32.toInt c_323
                          have z_4 := congrArg Int32.toInt c_428
                          have z_5 : ¬ (r_432 : Int32).toInt = (0 : Int32).toInt := fun z => c_435 (Int32.toInt_inj.mp z)
                          have z_6 := Int32.lt_iff_toInt_lt.mp (Int32.not_le.mp c_535)
                          have z_7 := congrArg Int32.toInt c_560
                          have y_0 : (0 : Int32).toInt = 0 := by decide
                          have y_32 : (32 : Int32).toInt = 32 := by decide
                          omega
                        have rg_562 := cB_rg (n := (Tv 0)) h_by (vy_2 : Int32).toInt.toNat
                        have h2_563 : ¬ cB (Tf 1) (Tv 0) (vy_2 : Int32).toInt.toNat = 32 := by
                          have z_1 := Int32.lt_iff_toInt_lt.mp (Int32.not_le.mp c_9)
                          have z_2 : ¬ (r_319 : Int32).toInt = (32 : Int32).toInt := fun z => c_322 (Int32.toInt_inj.mp z)
                          have z_3 := congrArg Int32.toInt c_323
                          have z_4 := congrArg Int32.toInt c_428
                          have z_5 : ¬ (r_432 : Int32).toInt = (0 : Int32).toInt := fun z => c_435 (Int32.toInt_inj.mp z)
                          have z_6 := Int32.lt_iff_toInt_lt.mp (Int32.not_le.mp c_535)
                          have z_7 := congrArg Int32.toInt c_560
                          have y_0 : (0 : Int32).toInt = 0 := by decide
                          have y_32 : (32 : Int32).toInt = 32 := by decide
                          omega
                        have hr_564 : 0 ≤ (vy_2 : Int32).toInt := by
                          have z_1 := Int32.lt_iff_toInt_lt.mp (Int32.not_le.mp c_9)
                          have z_2 : ¬ (r_319 : Int32).toInt = (32 : Int32).toInt := fun z => c_322 (Int32.toInt_inj.mp z)
                          have z_3 := congrArg Int32.toInt c_323
                          have z_4 := congrArg Int32.toInt c_428
                          have z_5 : ¬ (r_432 : Int32).toInt = (0 : Int32).toInt := fun z => c_435 (Int32.toInt_inj.mp z)
                          have z_6 := Int32.lt_iff_toInt_lt.mp (Int32.not_le.mp c_535)
                          have z_7 := congrArg Int32.toInt c_560
                          have y_0 : (0 : Int32).toInt = 0 := by decide
                          have y_32 : (32 : Int32).toInt = 32 := by decide
                          omega
                        have rg_565 := cB_rg (n := (Tv 0)) h_by (vy_528 : Int32).toInt.toNat
                        have hn_566 : ¬ (48 ≤ cB (Tf 1) (Tv 0) (vy_528 : Int32).toInt.toNat ∧ cB (Tf 1) (Tv 0) (vy_528 : Int32).toInt.toNat ≤ 57) := by
                          have z_1 := Int32.lt_iff_toInt_lt.mp (Int32.not_le.mp c_9)
                          have z_2 : ¬ (r_319 : Int32).toInt = (32 : Int32).toInt := fun z => c_322 (Int32.toInt_inj.mp z)
                          have z_3 := congrArg Int32.toInt c_323
                          have z_4 := congrArg Int32.toInt c_428
                          have z_5 : ¬ (r_432 : Int32).toInt = (0 : Int32).toInt := fun z => c_435 (Int32.toInt_inj.mp z)
                          have z_6 := Int32.lt_iff_toInt_lt.mp (Int32.not_le.mp c_535)
                          have z_7 := congrArg Int32.toInt c_560
                          have y_0 : (0 : Int32).toInt = 0 := by decide
                          have y_32 : (32 : Int32).toInt = 32 := by decide
                          omega
                        have hr_567 : 48 ≤ (r_419 : Int32).toInt ∧ (r_419 : Int32).toInt ≤ 57 := by
                          have z_1 := Int32.lt_iff_toInt_lt.mp (Int32.not_le.mp c_9)
                          have z_2 : ¬ (r_319 : Int32).toInt = (32 : Int32).toInt := fun z => c_322 (Int32.toInt_inj.mp z)
                          have z_3 := congrArg Int32.toInt c_323
                          have z_4 := congrArg Int32.toInt c_428
                          have z_5 : ¬ (r_432 : Int32).toInt = (0 : Int32).toInt := fun z => c_435 (Int32.toInt_inj.mp z)
                          have z_6 := Int32.lt_iff_toInt_lt.mp (Int32.not_le.mp c_535)
                          have z_7 := congrArg Int32.toInt c_560
                          have y_0 : (0 : Int32).toInt = 0 := by decide
                          have y_32 : (32 : Int32).toInt = 32 := by decide
                          omega
                        have hr_568 : (vy_528 : Int32).toInt ≤ 400 := by
                          have z_1 := Int32.lt_iff_toInt_lt.mp (Int32.not_le.mp c_9)
                          have z_2 : ¬ (r_319 : Int32).toInt = (32 : Int32).toInt := fun z => c_322 (Int32.toInt_inj.mp z)
                          have z_3 := congrArg Int32.toInt c_323
                          have z_4 := congrArg Int32.toInt c_428
                          have z_5 : ¬ (r_432 : Int32).toInt = (0 : Int32).toInt := fun z => c_435 (Int32.toInt_inj.mp z)
                          have z_6 := Int32.lt_iff_toInt_lt.mp (Int32.not_le.mp c_535)
                          have z_7 := congrArg Int32.toInt c_560
                          have y_0 : (0 : Int32).toInt = 0 := by decide
                          have y_32 : (32 : Int32).toInt = 32 := by decide
                          omega
                        have hr_569 : ((Tv 4) : Int32).toInt = 0 := by
                          have z_1 := Int32.lt_iff_toInt_lt.mp (Int32.not_le.mp c_9)
                          have z_2 : ¬ (r_319 : Int32).toInt = (32 : Int32).toInt := fun z => c_322 (Int32.toInt_inj.mp z)
                          have z_3 := congrArg Int32.toInt c_323
                          have z_4 := congrArg Int32.toInt c_428
                          have z_5 : ¬ (r_432 : Int32).toInt = (0 : Int32).toInt := fun z => c_435 (Int32.toInt_inj.mp z)
                          have z_6 := Int32.lt_iff_toInt_lt.mp (Int32.not_le.mp c_535)
                          have z_7 := congrArg Int32.toInt c_560
                          have y_0 : (0 : Int32).toInt = 0 := by decide
                          have y_32 : (32 : Int32).toInt = 32 := by decide
                          omega
                        have hr_570 : (vy_2 : Int32).toInt ≤ 400 := by
                          have z_1 := Int32.lt_iff_toInt_lt.mp (Int32.not_le.mp c_9)
                          have z_2 : ¬ (r_319 : Int32).toInt = (32 : Int32).toInt := fun z => c_322 (Int32.toInt_inj.mp z)
                          have z_3 := congrArg Int32.toInt c_323
                          have z_4 := congrArg Int32.toInt c_428
                          have z_5 : ¬ (r_432 : Int32).toInt = (0 : Int32).toInt := fun z => c_435 (Int32.toInt_inj.mp z)
                          have z_6 := Int32.lt_iff_toInt_lt.mp (Int32.not_le.mp c_535)
                          have z_7 := congrArg Int32.toInt c_560
                          have y_0 : (0 : Int32).toInt = 0 := by decide
                          have y_32 : (32 : Int32).toInt = 32 := by decide
                          omega
                        exact retV hx hb hr hlk hP hD hS (vy_2, vy_528, r_419) ⟨rfl, ha_561, (TpB.at h_tb hr_569 h_tape.2.2.2.2.1 pf_7 hr_570 h2_563 (te_D hr_564 he_420.1 hr_567 pf_533 hr_568 hn_566) he_420.1)⟩ [0, 1] rfl rfl dX10_step_242 (Nat.le_of_ble_eq_true rfl) (Nat.le_of_ble_eq_true rfl) rfl
                      · skip
                        refine lv_aload_n hx hb dX10_step_159 rfl (lv_at hl 0 rfl) ?_
                        refine lv_dup hx hb dX10_step_160 rfl ?_
                        refine gf_X10_22 hx hb hts hown hK hP 0 rfl rfl dX10_step_161 ?_
                        refine lv_iconst (v := 1) hx hb dX10_step_164 (by decide) ?_
                        refine lv_iadd hx hb dX10_step_165 ?_
                        refine lv_topi (fun x_571 ex_571 => ?_)
                        refine pf_X10_22 hx hb hts hown hK hP hD hS 0 rfl (Nat.le_of_ble_eq_true rfl) rfl rfl dX10_step_166 (fun H locs hP₀ hD₀ hS₀ => ?_)
                        replace hP : va_P D classes [((Ta 0), .inr (10, [.ref (Ta 1), .int (Tv 0), .int vy_2, .int x_571, .int r_419, .int (Tv 4)])), ((Ta 1), .inl (tc 0, 400, .inl (Tf 1)))] H := hP₀
                        replace hD : va_D A [((Ta 0), .inr (10, [.ref (Ta 1), .int (Tv 0), .int vy_2, .int x_571, .int r_419, .int (Tv 4)])), ((Ta 1), .inl (tc 0, 400, .inl (Tf 1)))] := hD₀
                        replace hS := hS₀
                        clear hP₀ hD₀ hS₀
                        refine lv_goto (tgt := 134) hx hb dX10_step_169 (by decide) ?_
                        have hb_572 : 401 - (x_571 : Int32).toInt < 401 - (vy_528 : Int32).toInt ∧ 1 ≤ 401 - (vy_528 : Int32).toInt := by
                          have z_1 := Int32.lt_iff_toInt_lt.mp (Int32.not_le.mp c_9)
                          have z_2 : ¬ (r_319 : Int32).toInt = (32 : Int32).toInt := fun z => c_322 (Int32.toInt_inj.mp z)
                          have z_3 := congrArg Int32.toInt c_323
                          have z_4 := congrArg Int32.toInt c_428
                          have z_5 : ¬ (r_432 : Int32).toInt = (0 : Int32).toInt := fun z => c_435 (Int32.toInt_inj.mp z)
                          have z_6 := Int32.lt_iff_toInt_lt.mp (Int32.not_le.mp c_535)
                          have z_7 : ¬ (r_557 : Int32).toInt = (0 : Int32).toInt := fun z => c_560 (Int32.toInt_inj.mp z)
                          have y_0 : (0 : Int32).toInt = 0 := by decide
                          have y_32 : (32 : Int32).toInt = 32 := by decide
                          have y_1 : (1 : Int32).toInt = 1 := by decide
                          have t_x_571 : x_571.toInt = (vy_528 : Int32).toInt + (1 : Int32).toInt := by rw [ex_571]; exact add_toInt (by omega) (by omega)
                          omega
                        have ha_573 : 0 ≤ (x_571 : Int32).toInt ∧ (x_571 : Int32).toInt ≤ 400 := by
                          have z_1 := Int32.lt_iff_toInt_lt.mp (Int32.not_le.mp c_9)
                          have z_2 : ¬ (r_319 : Int32).toInt = (32 : Int32).toInt := fun z => c_322 (Int32.toInt_inj.mp z)
                          have z_3 := congrArg Int32.toInt c_323
                          have z_4 := congrArg Int32.toInt c_428
                          have z_5 : ¬ (r_432 : Int32).toInt = (0 : Int32).toInt := fun z => c_435 (Int32.toInt_inj.mp z)
                          have z_6 := Int32.lt_iff_toInt_lt.mp (Int32.not_le.mp c_535)
                          have z_7 : ¬ (r_557 : Int32).toInt = (0 : Int32).toInt := fun z => c_560 (Int32.toInt_inj.mp z)
                          have y_0 : (0 : Int32).toInt = 0 := by decide
                          have y_32 : (32 : Int32).toInt = 32 := by decide
                          have y_1 : (1 : Int32).toInt = 1 := by decide
                          have t_x_571 : x_571.toInt = (vy_528 : Int32).toInt + (1 : Int32).toInt := by rw [ex_571]; exact add_toInt (by omega) (by omega)
                          omega
                        have hr_574 : 0 ≤ (vy_528 : Int32).toInt := by
                          have z_1 := Int32.lt_iff_toInt_lt.mp (Int32.not_le.mp c_9)
                          have z_2 : ¬ (r_319 : Int32).toInt = (32 : Int32).toInt := fun z => c_322 (Int32.toInt_inj.mp z)
                          have z_3 := congrArg Int32.toInt c_323
                          have z_4 := congrArg Int32.toInt c_428
                          have z_5 : ¬ (r_432 : Int32).toInt = (0 : Int32).toInt := fun z => c_435 (Int32.toInt_inj.mp z)
                          have z_6 := Int32.lt_iff_toInt_lt.mp (Int32.not_le.mp c_535)
                          have z_7 : ¬ (r_557 : Int32).toInt = (0 : Int32).toInt := fun z => c_560 (Int32.toInt_inj.mp z)
                          have y_0 : (0 : Int32).toInt = 0 := by decide
                          have y_32 : (32 : Int32).toInt = 32 := by decide
                          omega
                        have hr_575 : 48 ≤ (r_551 : Int32).toInt ∧ (r_551 : Int32).toInt ≤ 57 := by
                          have z_1 := Int32.lt_iff_toInt_lt.mp (Int32.not_le.mp c_9)
                          have z_2 : ¬ (r_319 : Int32).toInt = (32 : Int32).toInt := fun z => c_322 (Int32.toInt_inj.mp z)
                          have z_3 := congrArg Int32.toInt c_323
                          have z_4 := congrArg Int32.toInt c_428
                          have z_5 : ¬ (r_432 : Int32).toInt = (0 : Int32).toInt := fun z => c_435 (Int32.toInt_inj.mp z)
                          have z_6 := Int32.lt_iff_toInt_lt.mp (Int32.not_le.mp c_535)
                          have z_7 : ¬ (r_557 : Int32).toInt = (0 : Int32).toInt := fun z => c_560 (Int32.toInt_inj.mp z)
                          have y_0 : (0 : Int32).toInt = 0 := by decide
                          have y_32 : (32 : Int32).toInt = 32 := by decide
                          omega
                        have hi_576 : (x_571 : Int32).toInt = (vy_528 : Int32).toInt + 1 := by
                          have z_1 := Int32.lt_iff_toInt_lt.mp (Int32.not_le.mp c_9)
                          have z_2 : ¬ (r_319 : Int32).toInt = (32 : Int32).toInt := fun z => c_322 (Int32.toInt_inj.mp z)
                          have z_3 := congrArg Int32.toInt c_323
                          have z_4 := congrArg Int32.toInt c_428
                          have z_5 : ¬ (r_432 : Int32).toInt = (0 : Int32).toInt := fun z => c_435 (Int32.toInt_inj.mp z)
                          have z_6 := Int32.lt_iff_toInt_lt.mp (Int32.not_le.mp c_535)
                          have z_7 : ¬ (r_557 : Int32).toInt = (0 : Int32).toInt := fun z => c_560 (Int32.toInt_inj.mp z)
                          have y_0 : (0 : Int32).toInt = 0 := by decide
                          have y_32 : (32 : Int32).toInt = 32 := by decide
                          have y_1 : (1 : Int32).toInt = 1 := by decide
                          have t_x_571 : x_571.toInt = (vy_528 : Int32).toInt + (1 : Int32).toInt := by rw [ex_571]; exact add_toInt (by omega) (by omega)
                          omega
                        exact ih_530 x_571 _ _ _ (by omega) ha_573 (Rn.st pf_533 hr_574 he_552.1 (decide_eq_true hr_575) hi_576) (hP.sub [0, 1] rfl) (hD.sub [0, 1] rfl rfl) hS (lv_sub hl [0] rfl)
                exact loop_531 _ vy_2 _ _ _ (Nat.lt_succ_self _) pf_6 (Rn.rf) hP hD hS hl
            · skip
              have loop_581 : ∀ (n_579 : Nat) (vy_578 : Int32) (H : Heap) (locs : List Loc) (ls : Array Slot), (401 - (vy_578 : Int32).toInt).toNat < n_579 → (0 ≤ (vy_578 : Int32).toInt ∧ (vy_578 : Int32).toInt ≤ 400) → (Rn pz_isL (Tf 1) (Tv 0) vy_2 vy_578) → va_P D classes [((Ta 0), .inr (10, [.ref (Ta 1), .int (Tv 0), .int vy_2, .int vy_578, .int r_419, .int (Tv 4)])), ((Ta 1), .inl (tc 0, 400, .inl (Tf 1)))] H → va_D A [((Ta 0), .inr (10, [.ref (Ta 1), .int (Tv 0), .int vy_2, .int vy_578, .int r_419, .int (Tv 4)])), ((Ta 1), .inl (tc 0, 400, .inl (Tf 1)))] → va_S A s.heap H locs → lv_has ls 2 [(0, .ref (Ta 0))] → W p l e ({ frames := 1, cells := 0, slots := 0, locals := 21 }) s m ([.ref (Ta 0)].toArray) below meth c H locs 0 0 (MQ below (QW (fun (v : Option Value) (u : (Int32) × (Int32) × (Int32)) => match u with | (oo0x1, oo0x2, oo0x3) => v = none ∧ (0 ≤ ((Tv 0) : Int32).toInt ∧ ((Tv 0) : Int32).toInt ≤ 400 ∧ 0 ≤ (oo0x1 : Int32).toInt ∧ (oo0x1 : Int32).toInt ≤ 400 ∧ 0 ≤ (oo0x2 : Int32).toInt ∧ (oo0x2 : Int32).toInt ≤ 400) ∧ (TpR (Tf 1) (Tv 0) (rSK (cB (Tf 1) (Tv 0)) rr) oo0x1 oo0x2 oo0x3 (Tv 4))) (BW D (fun (u : (Int32) × (Int32) × (Int32)) => match u with | (oo0x1, oo0x2, oo0x3) => [((Ta 0), .inr (10, [.ref (Ta 1), .int (Tv 0), .int oo0x1, .int oo0x2, .int oo0x3, .int (Tv 4)])), ((Ta 1), .inl (tc 0, 400, .inl (Tf 1)))]) A) A) ([.ref (Ta 0)].toArray) s 0 0 A) (F0 m 86 ls []) := by
                clear hP hD hS hl
                intro n_579
                induction n_579 with
                | zero =>
                  intro vy_578 H locs ls h1
                  exact absurd h1 (Nat.not_lt_zero _)
                | succ n_579 ih_580 =>
                  intro vy_578 H locs ls hn_584 pf_582 pf_583 hP hD hS hl
                  refine lv_aload_n hx hb dX10_step_86 rfl (lv_at hl 0 rfl) ?_
                  refine gf_X10_22 hx hb hts hown hK hP 0 rfl rfl dX10_step_87 ?_
                  refine lv_aload_n hx hb dX10_step_90 rfl (lv_at hl 0 rfl) ?_
                  refine gf_X10_15 hx hb hts hown hK hP 0 rfl rfl dX10_step_91 ?_
                  refine lv_icmp_ge (tgt := 242) hx hb dX10_step_94 (by decide) (fun c_585 => ?_) (fun c_585 => ?_)
                  · skip
                    have ha_586 : 0 ≤ ((Tv 0) : Int32).toInt ∧ ((Tv 0) : Int32).toInt ≤ 400 ∧ 0 ≤ (vy_2 : Int32).toInt ∧ (vy_2 : Int32).toInt ≤ 400 ∧ 0 ≤ (vy_578 : Int32).toInt ∧ (vy_578 : Int32).toInt ≤ 400 := by
                      have z_1 := Int32.lt_iff_toInt_lt.mp (Int32.not_le.mp c_9)
                      have z_2 : ¬ (r_319 : Int32).toInt = (32 : Int32).toInt := fun z => c_322 (Int32.toInt_inj.mp z)
                      have z_3 := congrArg Int32.toInt c_323
                      have z_4 : ¬ (r_425 : Int32).toInt = (0 : Int32).toInt := fun z => c_428 (Int32.toInt_inj.mp z)
                      have z_5 := Int32.le_iff_toInt_le.mp c_585
                      have y_0 : (0 : Int32).toInt = 0 := by decide
                      have y_32 : (32 : Int32).toInt = 32 := by decide
                      omega
                    have rg_587 := cB_rg (n := (Tv 0)) h_by (vy_2 : Int32).toInt.toNat
                    have h2_588 : ¬ cB (Tf 1) (Tv 0) (vy_2 : Int32).toInt.toNat = 32 := by
                      have z_1 := Int32.lt_iff_toInt_lt.mp (Int32.not_le.mp c_9)
                      have z_2 : ¬ (r_319 : Int32).toInt = (32 : Int32).toInt := fun z => c_322 (Int32.toInt_inj.mp z)
                      have z_3 := congrArg Int32.toInt c_323
                      have z_4 : ¬ (r_425 : Int32).toInt = (0 : Int32).toInt := fun z => c_428 (Int32.toInt_inj.mp z)
                      have z_5 := Int32.le_iff_toInt_le.mp c_585
                      have y_0 : (0 : Int32).toInt = 0 := by decide
                      have y_32 : (32 : Int32).toInt = 32 := by decide
                      omega
                    have hr_589 : 0 ≤ (vy_2 : Int32).toInt := by
                      have z_1 := Int32.lt_iff_toInt_lt.mp (Int32.not_le.mp c_9)
                      have z_2 : ¬ (r_319 : Int32).toInt = (32 : Int32).toInt := fun z => c_322 (Int32.toInt_inj.mp z)
                      have z_3 := congrArg Int32.toInt c_323
                      have z_4 : ¬ (r_425 : Int32).toInt = (0 : Int32).toInt := fun z => c_428 (Int32.toInt_inj.mp z)
                      have z_5 := Int32.le_iff_toInt_le.mp c_585
                      have y_0 : (0 : Int32).toInt = 0 := by decide
                      have y_32 : (32 : Int32).toInt = 32 := by decide
                      omega
                    have rg_590 := cB_rg (n := (Tv 0)) h_by (vy_578 : Int32).toInt.toNat
                    have hn_591 : ¬ (97 ≤ cB (Tf 1) (Tv 0) (vy_578 : Int32).toInt.toNat ∧ cB (Tf 1) (Tv 0) (vy_578 : Int32).toInt.toNat ≤ 122) := by
                      have z_1 := Int32.lt_iff_toInt_lt.mp (Int32.not_le.mp c_9)
                      have z_2 : ¬ (r_319 : Int32).toInt = (32 : Int32).toInt := fun z => c_322 (Int32.toInt_inj.mp z)
                      have z_3 := congrArg Int32.toInt c_323
                      have z_4 : ¬ (r_425 : Int32).toInt = (0 : Int32).toInt := fun z => c_428 (Int32.toInt_inj.mp z)
                      have z_5 := Int32.le_iff_toInt_le.mp c_585
                      have y_0 : (0 : Int32).toInt = 0 := by decide
                      have y_32 : (32 : Int32).toInt = 32 := by decide
                      omega
                    have hr_592 : 97 ≤ (r_419 : Int32).toInt ∧ (r_419 : Int32).toInt ≤ 122 := by
                      have z_1 := Int32.lt_iff_toInt_lt.mp (Int32.not_le.mp c_9)
                      have z_2 : ¬ (r_319 : Int32).toInt = (32 : Int32).toInt := fun z => c_322 (Int32.toInt_inj.mp z)
                      have z_3 := congrArg Int32.toInt c_323
                      have z_4 : ¬ (r_425 : Int32).toInt = (0 : Int32).toInt := fun z => c_428 (Int32.toInt_inj.mp z)
                      have z_5 := Int32.le_iff_toInt_le.mp c_585
                      have y_0 : (0 : Int32).toInt = 0 := by decide
                      have y_32 : (32 : Int32).toInt = 32 := by decide
                      omega
                    have hr_593 : (vy_578 : Int32).toInt ≤ 400 := by
                      have z_1 := Int32.lt_iff_toInt_lt.mp (Int32.not_le.mp c_9)
                      have z_2 : ¬ (r_319 : Int32).toInt = (32 : Int32).toInt := fun z => c_322 (Int32.toInt_inj.mp z)
                      have z_3 := congrArg Int32.toInt c_323
                      have z_4 : ¬ (r_425 : Int32).toInt = (0 : Int32).toInt := fun z => c_428 (Int32.toInt_inj.mp z)
                      have z_5 := Int32.le_iff_toInt_le.mp c_585
                      have y_0 : (0 : Int32).toInt = 0 := by decide
                      have y_32 : (32 : Int32).toInt = 32 := by decide
                      omega
                    have hr_594 : ((Tv 4) : Int32).toInt = 0 := by
                      have z_1 := Int32.lt_iff_toInt_lt.mp (Int32.not_le.mp c_9)
                      have z_2 : ¬ (r_319 : Int32).toInt = (32 : Int32).toInt := fun z => c_322 (Int32.toInt_inj.mp z)
                      have z_3 := congrArg Int32.toInt c_323
                      have z_4 : ¬ (r_425 : Int32).toInt = (0 : Int32).toInt := fun z => c_428 (Int32.toInt_inj.mp z)
                      have z_5 := Int32.le_iff_toInt_le.mp c_585
                      have y_0 : (0 : Int32).toInt = 0 := by decide
                      have y_32 : (32 : Int32).toInt = 32 := by decide
                      omega
                    have hr_595 : (vy_2 : Int32).toInt ≤ 400 := by
                      have z_1 := Int32.lt_iff_toInt_lt.mp (Int32.not_le.mp c_9)
                      have z_2 : ¬ (r_319 : Int32).toInt = (32 : Int32).toInt := fun z => c_322 (Int32.toInt_inj.mp z)
                      have z_3 := congrArg Int32.toInt c_323
                      have z_4 : ¬ (r_425 : Int32).toInt = (0 : Int32).toInt := fun z => c_428 (Int32.toInt_inj.mp z)
                      have z_5 := Int32.le_iff_toInt_le.mp c_585
                      have y_0 : (0 : Int32).toInt = 0 := by decide
                      have y_32 : (32 : Int32).toInt = 32 := by decide
                      omega
                    exact retV hx hb hr hlk hP hD hS (vy_2, vy_578, r_419) ⟨rfl, ha_586, (TpB.at h_tb hr_594 h_tape.2.2.2.2.1 pf_7 hr_595 h2_588 (te_L hr_589 he_420.1 hr_592 pf_583 hr_593 hn_591) he_420.1)⟩ [0, 1] rfl rfl dX10_step_242 (Nat.le_of_ble_eq_true rfl) (Nat.le_of_ble_eq_true rfl) rfl
                  · skip
                    refine lv_aload_n hx hb dX10_step_97 rfl (lv_at hl 0 rfl) ?_
                    refine lv_aload_n hx hb dX10_step_98 rfl (lv_at hl 0 rfl) ?_
                    refine gf_X10_22 hx hb hts hown hK hP 0 rfl rfl dX10_step_99 ?_
                    have ha_596 : 0 ≤ ((Tv 0) : Int32).toInt ∧ ((Tv 0) : Int32).toInt ≤ 400 ∧ 0 ≤ (vy_2 : Int32).toInt ∧ (vy_2 : Int32).toInt ≤ 400 ∧ 0 ≤ (vy_578 : Int32).toInt ∧ (vy_578 : Int32).toInt ≤ 400 := by
                      have z_1 := Int32.lt_iff_toInt_lt.mp (Int32.not_le.mp c_9)
                      have z_2 : ¬ (r_319 : Int32).toInt = (32 : Int32).toInt := fun z => c_322 (Int32.toInt_inj.mp z)
                      have z_3 := congrArg Int32.toInt c_323
                      have z_4 : ¬ (r_425 : Int32).toInt = (0 : Int32).toInt := fun z => c_428 (Int32.toInt_inj.mp z)
                      have z_5 := Int32.lt_iff_toInt_lt.mp (Int32.not_le.mp c_585)
                      have y_0 : (0 : Int32).toInt = 0 := by decide
                      have y_32 : (32 : Int32).toInt = 32 := by decide
                      omega
                    have ha_597 : 0 ≤ vy_578.toInt := by
                      have z_1 := Int32.lt_iff_toInt_lt.mp (Int32.not_le.mp c_9)
                      have z_2 : ¬ (r_319 : Int32).toInt = (32 : Int32).toInt := fun z => c_322 (Int32.toInt_inj.mp z)
                      have z_3 := congrArg Int32.toInt c_323
                      have z_4 : ¬ (r_425 : Int32).toInt = (0 : Int32).toInt := fun z => c_428 (Int32.toInt_inj.mp z)
                      have z_5 := Int32.lt_iff_toInt_lt.mp (Int32.not_le.mp c_585)
                      have y_0 : (0 : Int32).toInt = 0 := by decide
                      have y_32 : (32 : Int32).toInt = 32 := by decide
                      omega
                    refine cV (a := (Ta 0)) (As := [.int vy_578]) (rest := []) (wr := []) ⟨hx, hb, hml, hown, hts⟩ hK hX hA (cu_fX10_byteAt l D tc sk (Ta 0) (Ta 1) (Tv 0) vy_2 vy_578 r_419 (Tv 4) (Tf 1) vy_578 ha_596 h_by ha_597) k_482 k_479 k_481 k_0 k_96 pl_X10_byteAt ⟨Nat.le_of_ble_eq_true rfl, Nat.le_of_ble_eq_true rfl⟩ rfl rfl (va_recv hK hP (ci := 10) (q0 := 0) rfl rfl) hP hD hS [0, 1] [] rfl rfl rfl rfl rfl (by decide) rfl hl.1 rfl (Nat.le_of_ble_eq_true rfl) dX10_step_102 ⟨Nat.le_of_ble_eq_true rfl, Nat.le_of_ble_eq_true rfl⟩ (fun v_598 u_599 H locs hv_600 hP₀ hD₀ hS₀ => ?_)
                    obtain ⟨r_601, rfl, he_602⟩ := hv_600
                    have he_602 : (r_601.toInt = cB (Tf 1) (Tv 0) vy_578.toInt.toNat ∧ (((Tv 0).toInt ≤ vy_578.toInt ∧ r_601.toInt = -1) ∨ (vy_578.toInt < (Tv 0).toInt ∧ 0 ≤ r_601.toInt ∧ r_601.toInt ≤ 255))) := he_602
                    refine W.eq (g2 := F0 m 105 ls [.int r_601]) rfl ?_
                    replace hP : va_P D classes [((Ta 0), .inr (10, [.ref (Ta 1), .int (Tv 0), .int vy_2, .int vy_578, .int r_419, .int (Tv 4)])), ((Ta 1), .inl (tc 0, 400, .inl (Tf 1)))] H := hP₀
                    replace hD : va_D A [((Ta 0), .inr (10, [.ref (Ta 1), .int (Tv 0), .int vy_2, .int vy_578, .int r_419, .int (Tv 4)])), ((Ta 1), .inl (tc 0, 400, .inl (Tf 1)))] := hD₀
                    replace hS := hS₀
                    clear hP₀ hD₀ hS₀
                    refine cS (As := [.int r_601]) (rest := []) (wr := [((Ta 0), .inr (10, [.ref (Ta 1), .int (Tv 0), .int vy_2, .int vy_578, .int r_419, .int (Tv 4)])), ((Ta 1), .inl (tc 0, 400, .inl (Tf 1)))]) ⟨hx, hb, hml, hown, hts⟩ hK hX hA (ct_fX10_isLetter l D tc sk r_601) k_485 k_483 k_484 k_96 pl_X10_isLetter ⟨Nat.le_of_ble_eq_true rfl, Nat.le_of_ble_eq_true rfl⟩ rfl rfl  hP hD hS [] [0, 1] rfl rfl rfl rfl rfl (by decide) rfl hl.1 rfl (Nat.le_of_ble_eq_true rfl) dX10_step_105 ⟨Nat.le_of_ble_eq_true rfl, Nat.le_of_ble_eq_true rfl⟩ (fun v_604 u_605 H locs hv_606 hP₀ hD₀ hS₀ => ?_)
                    obtain ⟨r_607, rfl, he_608⟩ := hv_606
                    have he_608 : ((r_607.toInt = 1 ∧ 97 ≤ r_601.toInt ∧ r_601.toInt ≤ 122) ∨ (r_607.toInt = 0 ∧ (r_601.toInt < 97 ∨ 122 < r_601.toInt))) := he_608
                    refine W.eq (g2 := F0 m 108 ls [.int r_607]) rfl ?_
                    replace hP : va_P D classes [((Ta 0), .inr (10, [.ref (Ta 1), .int (Tv 0), .int vy_2, .int vy_578, .int r_419, .int (Tv 4)])), ((Ta 1), .inl (tc 0, 400, .inl (Tf 1)))] H := hP₀
                    replace hD : va_D A [((Ta 0), .inr (10, [.ref (Ta 1), .int (Tv 0), .int vy_2, .int vy_578, .int r_419, .int (Tv 4)])), ((Ta 1), .inl (tc 0, 400, .inl (Tf 1)))] := hD₀
                    replace hS := hS₀
                    clear hP₀ hD₀ hS₀
                    refine lv_if_eq (tgt := 242) hx hb dX10_step_108 (by decide) (fun c_610 => ?_) (fun c_610 => ?_)
                    · skip
                      have ha_611 : 0 ≤ ((Tv 0) : Int32).toInt ∧ ((Tv 0) : Int32).toInt ≤ 400 ∧ 0 ≤ (vy_2 : Int32).toInt ∧ (vy_2 : Int32).toInt ≤ 400 ∧ 0 ≤ (vy_578 : Int32).toInt ∧ (vy_578 : Int32).toInt ≤ 400 := by
                        have z_1 := Int32.lt_iff_toInt_lt.mp (Int32.not_le.mp c_9)
                        have z_2 : ¬ (r_319 : Int32).toInt = (32 : Int32).toInt := fun z => c_322 (Int32.toInt_inj.mp z)
                        have z_3 := congrArg Int32.toInt c_323
                        have z_4 : ¬ (r_425 : Int32).toInt = (0 : Int32).toInt := fun z => c_428 (Int32.toInt_inj.mp z)
                        have z_5 := Int32.lt_iff_toInt_lt.mp (Int32.not_le.mp c_585)
                        have z_6 := congrArg Int32.toInt c_610
                        have y_0 : (0 : Int32).toInt = 0 := by decide
                        have y_32 : (32 : Int32).toInt = 32 := by decide
                        omega
                      have rg_612 := cB_rg (n := (Tv 0)) h_by (vy_2 : Int32).toInt.toNat
                      have h2_613 : ¬ cB (Tf 1) (Tv 0) (vy_2 : Int32).toInt.toNat = 32 := by
                        have z_1 := Int32.lt_iff_toInt_lt.mp (Int32.not_le.mp c_9)
                        have z_2 : ¬ (r_319 : Int32).toInt = (32 : Int32).toInt := fun z => c_322 (Int32.toInt_inj.mp z)
                        have z_3 := congrArg Int32.toInt c_323
                        have z_4 : ¬ (r_425 : Int32).toInt = (0 : Int32).toInt := fun z => c_428 (Int32.toInt_inj.mp z)
                        have z_5 := Int32.lt_iff_toInt_lt.mp (Int32.not_le.mp c_585)
                        have z_6 := congrArg Int32.toInt c_610
                        have y_0 : (0 : Int32).toInt = 0 := by decide
                        have y_32 : (32 : Int32).toInt = 32 := by decide
                        omega
                      have hr_614 : 0 ≤ (vy_2 : Int32).toInt := by
                        have z_1 := Int32.lt_iff_toInt_lt.mp (Int32.not_le.mp c_9)
                        have z_2 : ¬ (r_319 : Int32).toInt = (32 : Int32).toInt := fun z => c_322 (Int32.toInt_inj.mp z)
                        have z_3 := congrArg Int32.toInt c_323
                        have z_4 : ¬ (r_425 : Int32).toInt = (0 : Int32).toInt := fun z => c_428 (Int32.toInt_inj.mp z)
                        have z_5 := Int32.lt_iff_toInt_lt.mp (Int32.not_le.mp c_585)
                        have z_6 := congrArg Int32.toInt c_610
                        have y_0 : (0 : Int32).toInt = 0 := by decide
                        have y_32 : (32 : Int32).toInt = 32 := by decide
                        omega
                      have rg_615 := cB_rg (n := (Tv 0)) h_by (vy_578 : Int32).toInt.toNat
                      have hn_616 : ¬ (97 ≤ cB (Tf 1) (Tv 0) (vy_578 : Int32).toInt.toNat ∧ cB (Tf 1) (Tv 0) (vy_578 : Int32).toInt.toNat ≤ 122) := by
                        have z_1 := Int32.lt_iff_toInt_lt.mp (Int32.not_le.mp c_9)
                        have z_2 : ¬ (r_319 : Int32).toInt = (32 : Int32).toInt := fun z => c_322 (Int32.toInt_inj.mp z)
                        have z_3 := congrArg Int32.toInt c_323
                        have z_4 : ¬ (r_425 : Int32).toInt = (0 : Int32).toInt := fun z => c_428 (Int32.toInt_inj.mp z)
                        have z_5 := Int32.lt_iff_toInt_lt.mp (Int32.not_le.mp c_585)
                        have z_6 := congrArg Int32.toInt c_610
                        have y_0 : (0 : Int32).toInt = 0 := by decide
                        have y_32 : (32 : Int32).toInt = 32 := by decide
                        omega
                      have hr_617 : 97 ≤ (r_419 : Int32).toInt ∧ (r_419 : Int32).toInt ≤ 122 := by
                        have z_1 := Int32.lt_iff_toInt_lt.mp (Int32.not_le.mp c_9)
                        have z_2 : ¬ (r_319 : Int32).toInt = (32 : Int32).toInt := fun z => c_322 (Int32.toInt_inj.mp z)
                        have z_3 := congrArg Int32.toInt c_323
                        have z_4 : ¬ (r_425 : Int32).toInt = (0 : Int32).toInt := fun z => c_428 (Int32.toInt_inj.mp z)
                        have z_5 := Int32.lt_iff_toInt_lt.mp (Int32.not_le.mp c_585)
                        have z_6 := congrArg Int32.toInt c_610
                        have y_0 : (0 : Int32).toInt = 0 := by decide
                        have y_32 : (32 : Int32).toInt = 32 := by decide
                        omega
                      have hr_618 : (vy_578 : Int32).toInt ≤ 400 := by
                        have z_1 := Int32.lt_iff_toInt_lt.mp (Int32.not_le.mp c_9)
                        have z_2 : ¬ (r_319 : Int32).toInt = (32 : Int32).toInt := fun z => c_322 (Int32.toInt_inj.mp z)
                        have z_3 := congrArg Int32.toInt c_323
                        have z_4 : ¬ (r_425 : Int32).toInt = (0 : Int32).toInt := fun z => c_428 (Int32.toInt_inj.mp z)
                        have z_5 := Int32.lt_iff_toInt_lt.mp (Int32.not_le.mp c_585)
                        have z_6 := congrArg Int32.toInt c_610
                        have y_0 : (0 : Int32).toInt = 0 := by decide
                        have y_32 : (32 : Int32).toInt = 32 := by decide
                        omega
                      have hr_619 : ((Tv 4) : Int32).toInt = 0 := by
                        have z_1 := Int32.lt_iff_toInt_lt.mp (Int32.not_le.mp c_9)
                        have z_2 : ¬ (r_319 : Int32).toInt = (32 : Int32).toInt := fun z => c_322 (Int32.toInt_inj.mp z)
                        have z_3 := congrArg Int32.toInt c_323
                        have z_4 : ¬ (r_425 : Int32).toInt = (0 : Int32).toInt := fun z => c_428 (Int32.toInt_inj.mp z)
                        have z_5 := Int32.lt_iff_toInt_lt.mp (Int32.not_le.mp c_585)
                        have z_6 := congrArg Int32.toInt c_610
                        have y_0 : (0 : Int32).toInt = 0 := by decide
                        have y_32 : (32 : Int32).toInt = 32 := by decide
                        omega
                      have hr_620 : (vy_2 : Int32).toInt ≤ 400 := by
                        have z_1 := Int32.lt_iff_toInt_lt.mp (Int32.not_le.mp c_9)
                        have z_2 : ¬ (r_319 : Int32).toInt = (32 : Int32).toInt := fun z => c_322 (Int32.toInt_inj.mp z)
                        have z_3 := congrArg Int32.toInt c_323
                        have z_4 : ¬ (r_425 : Int32).toInt = (0 : Int32).toInt := fun z => c_428 (Int32.toInt_inj.mp z)
                        have z_5 := Int32.lt_iff_toInt_lt.mp (Int32.not_le.mp c_585)
                        have z_6 := congrArg Int32.toInt c_610
                        have y_0 : (0 : Int32).toInt = 0 := by decide
                        have y_32 : (32 : Int32).toInt = 32 := by decide
                        omega
                      exact retV hx hb hr hlk hP hD hS (vy_2, vy_578, r_419) ⟨rfl, ha_611, (TpB.at h_tb hr_619 h_tape.2.2.2.2.1 pf_7 hr_620 h2_613 (te_L hr_614 he_420.1 hr_617 pf_583 hr_618 hn_616) he_420.1)⟩ [0, 1] rfl rfl dX10_step_242 (Nat.le_of_ble_eq_true rfl) (Nat.le_of_ble_eq_true rfl) rfl
                    · skip
                      refine lv_aload_n hx hb dX10_step_111 rfl (lv_at hl 0 rfl) ?_
                      refine lv_dup hx hb dX10_step_112 rfl ?_
                      refine gf_X10_22 hx hb hts hown hK hP 0 rfl rfl dX10_step_113 ?_
                      refine lv_iconst (v := 1) hx hb dX10_step_116 (by decide) ?_
                      refine lv_iadd hx hb dX10_step_117 ?_
                      refine lv_topi (fun x_621 ex_621 => ?_)
                      refine pf_X10_22 hx hb hts hown hK hP hD hS 0 rfl (Nat.le_of_ble_eq_true rfl) rfl rfl dX10_step_118 (fun H locs hP₀ hD₀ hS₀ => ?_)
                      replace hP : va_P D classes [((Ta 0), .inr (10, [.ref (Ta 1), .int (Tv 0), .int vy_2, .int x_621, .int r_419, .int (Tv 4)])), ((Ta 1), .inl (tc 0, 400, .inl (Tf 1)))] H := hP₀
                      replace hD : va_D A [((Ta 0), .inr (10, [.ref (Ta 1), .int (Tv 0), .int vy_2, .int x_621, .int r_419, .int (Tv 4)])), ((Ta 1), .inl (tc 0, 400, .inl (Tf 1)))] := hD₀
                      replace hS := hS₀
                      clear hP₀ hD₀ hS₀
                      refine lv_goto (tgt := 86) hx hb dX10_step_121 (by decide) ?_
                      have hb_622 : 401 - (x_621 : Int32).toInt < 401 - (vy_578 : Int32).toInt ∧ 1 ≤ 401 - (vy_578 : Int32).toInt := by
                        have z_1 := Int32.lt_iff_toInt_lt.mp (Int32.not_le.mp c_9)
                        have z_2 : ¬ (r_319 : Int32).toInt = (32 : Int32).toInt := fun z => c_322 (Int32.toInt_inj.mp z)
                        have z_3 := congrArg Int32.toInt c_323
                        have z_4 : ¬ (r_425 : Int32).toInt = (0 : Int32).toInt := fun z => c_428 (Int32.toInt_inj.mp z)
                        have z_5 := Int32.lt_iff_toInt_lt.mp (Int32.not_le.mp c_585)
                        have z_6 : ¬ (r_607 : Int32).toInt = (0 : Int32).toInt := fun z => c_610 (Int32.toInt_inj.mp z)
                        have y_0 : (0 : Int32).toInt = 0 := by decide
                        have y_32 : (32 : Int32).toInt = 32 := by decide
                        have y_1 : (1 : Int32).toInt = 1 := by decide
                        have t_x_621 : x_621.toInt = (vy_578 : Int32).toInt + (1 : Int32).toInt := by rw [ex_621]; exact add_toInt (by omega) (by omega)
                        omega
                      have ha_623 : 0 ≤ (x_621 : Int32).toInt ∧ (x_621 : Int32).toInt ≤ 400 := by
                        have z_1 := Int32.lt_iff_toInt_lt.mp (Int32.not_le.mp c_9)
                        have z_2 : ¬ (r_319 : Int32).toInt = (32 : Int32).toInt := fun z => c_322 (Int32.toInt_inj.mp z)
                        have z_3 := congrArg Int32.toInt c_323
                        have z_4 : ¬ (r_425 : Int32).toInt = (0 : Int32).toInt := fun z => c_428 (Int32.toInt_inj.mp z)
                        have z_5 := Int32.lt_iff_toInt_lt.mp (Int32.not_le.mp c_585)
                        have z_6 : ¬ (r_607 : Int32).toInt = (0 : Int32).toInt := fun z => c_610 (Int32.toInt_inj.mp z)
                        have y_0 : (0 : Int32).toInt = 0 := by decide
                        have y_32 : (32 : Int32).toInt = 32 := by decide
                        have y_1 : (1 : Int32).toInt = 1 := by decide
                        have t_x_621 : x_621.toInt = (vy_578 : Int32).toInt + (1 : Int32).toInt := by rw [ex_621]; exact add_toInt (by omega) (by omega)
                        omega
                      have hr_624 : 0 ≤ (vy_578 : Int32).toInt := by
                        have z_1 := Int32.lt_iff_toInt_lt.mp (Int32.not_le.mp c_9)
                        have z_2 : ¬ (r_319 : Int32).toInt = (32 : Int32).toInt := fun z => c_322 (Int32.toInt_inj.mp z)
                        have z_3 := congrArg Int32.toInt c_323
                        have z_4 : ¬ (r_425 : Int32).toInt = (0 : Int32).toInt := fun z => c_428 (Int32.toInt_inj.mp z)
                        have z_5 := Int32.lt_iff_toInt_lt.mp (Int32.not_le.mp c_585)
                        have z_6 : ¬ (r_607 : Int32).toInt = (0 : Int32).toInt := fun z => c_610 (Int32.toInt_inj.mp z)
                        have y_0 : (0 : Int32).toInt = 0 := by decide
                        have y_32 : (32 : Int32).toInt = 32 := by decide
                        omega
                      have hr_625 : 97 ≤ (r_601 : Int32).toInt ∧ (r_601 : Int32).toInt ≤ 122 := by
                        have z_1 := Int32.lt_iff_toInt_lt.mp (Int32.not_le.mp c_9)
                        have z_2 : ¬ (r_319 : Int32).toInt = (32 : Int32).toInt := fun z => c_322 (Int32.toInt_inj.mp z)
                        have z_3 := congrArg Int32.toInt c_323
                        have z_4 : ¬ (r_425 : Int32).toInt = (0 : Int32).toInt := fun z => c_428 (Int32.toInt_inj.mp z)
                        have z_5 := Int32.lt_iff_toInt_lt.mp (Int32.not_le.mp c_585)
                        have z_6 : ¬ (r_607 : Int32).toInt = (0 : Int32).toInt := fun z => c_610 (Int32.toInt_inj.mp z)
                        have y_0 : (0 : Int32).toInt = 0 := by decide
                        have y_32 : (32 : Int32).toInt = 32 := by decide
                        omega
                      have hi_626 : (x_621 : Int32).toInt = (vy_578 : Int32).toInt + 1 := by
                        have z_1 := Int32.lt_iff_toInt_lt.mp (Int32.not_le.mp c_9)
                        have z_2 : ¬ (r_319 : Int32).toInt = (32 : Int32).toInt := fun z => c_322 (Int32.toInt_inj.mp z)
                        have z_3 := congrArg Int32.toInt c_323
                        have z_4 : ¬ (r_425 : Int32).toInt = (0 : Int32).toInt := fun z => c_428 (Int32.toInt_inj.mp z)
                        have z_5 := Int32.lt_iff_toInt_lt.mp (Int32.not_le.mp c_585)
                        have z_6 : ¬ (r_607 : Int32).toInt = (0 : Int32).toInt := fun z => c_610 (Int32.toInt_inj.mp z)
                        have y_0 : (0 : Int32).toInt = 0 := by decide
                        have y_32 : (32 : Int32).toInt = 32 := by decide
                        have y_1 : (1 : Int32).toInt = 1 := by decide
                        have t_x_621 : x_621.toInt = (vy_578 : Int32).toInt + (1 : Int32).toInt := by rw [ex_621]; exact add_toInt (by omega) (by omega)
                        omega
                      exact ih_580 x_621 _ _ _ (by omega) ha_623 (Rn.st pf_583 hr_624 he_602.1 (decide_eq_true hr_625) hi_626) (hP.sub [0, 1] rfl) (hD.sub [0, 1] rfl rfl) hS (lv_sub hl [0] rfl)
              exact loop_581 _ vy_2 _ _ _ (Nat.lt_succ_self _) pf_6 (Rn.rf) hP hD hS hl
        · skip
          refine lv_aload_n hx hb dX10_step_32 rfl (lv_at hl 0 rfl) ?_
          refine lv_dup hx hb dX10_step_33 rfl ?_
          refine gf_X10_19 hx hb hts hown hK hP 0 rfl rfl dX10_step_34 ?_
          refine lv_iconst (v := 1) hx hb dX10_step_37 (by decide) ?_
          refine lv_iadd hx hb dX10_step_38 ?_
          refine lv_topi (fun x_627 ex_627 => ?_)
          refine pf_X10_19 hx hb hts hown hK hP hD hS 0 rfl (Nat.le_of_ble_eq_true rfl) rfl rfl dX10_step_39 (fun H locs hP₀ hD₀ hS₀ => ?_)
          replace hP : va_P D classes [((Ta 0), .inr (10, [.ref (Ta 1), .int (Tv 0), .int x_627, .int (Tv 2), .int (Tv 3), .int (Tv 4)])), ((Ta 1), .inl (tc 0, 400, .inl (Tf 1)))] H := hP₀
          replace hD : va_D A [((Ta 0), .inr (10, [.ref (Ta 1), .int (Tv 0), .int x_627, .int (Tv 2), .int (Tv 3), .int (Tv 4)])), ((Ta 1), .inl (tc 0, 400, .inl (Tf 1)))] := hD₀
          replace hS := hS₀
          clear hP₀ hD₀ hS₀
          refine lv_goto (tgt := 8) hx hb dX10_step_42 (by decide) ?_
          have hb_628 : 401 - (x_627 : Int32).toInt < 401 - (vy_2 : Int32).toInt ∧ 1 ≤ 401 - (vy_2 : Int32).toInt := by
            have z_1 := Int32.lt_iff_toInt_lt.mp (Int32.not_le.mp c_9)
            have z_2 := congrArg Int32.toInt c_322
            have y_32 : (32 : Int32).toInt = 32 := by decide
            have y_1 : (1 : Int32).toInt = 1 := by decide
            have t_x_627 : x_627.toInt = (vy_2 : Int32).toInt + (1 : Int32).toInt := by rw [ex_627]; exact add_toInt (by omega) (by omega)
            omega
          have ha_629 : 0 ≤ (x_627 : Int32).toInt ∧ (x_627 : Int32).toInt ≤ 400 := by
            have z_1 := Int32.lt_iff_toInt_lt.mp (Int32.not_le.mp c_9)
            have z_2 := congrArg Int32.toInt c_322
            have y_32 : (32 : Int32).toInt = 32 := by decide
            have y_1 : (1 : Int32).toInt = 1 := by decide
            have t_x_627 : x_627.toInt = (vy_2 : Int32).toInt + (1 : Int32).toInt := by rw [ex_627]; exact add_toInt (by omega) (by omega)
            omega
          have hr_630 : 0 ≤ (vy_2 : Int32).toInt := by
            have z_1 := Int32.lt_iff_toInt_lt.mp (Int32.not_le.mp c_9)
            have z_2 := congrArg Int32.toInt c_322
            have y_32 : (32 : Int32).toInt = 32 := by decide
            omega
          have hr_631 : (r_319 : Int32).toInt = 32 := by
            have z_1 := Int32.lt_iff_toInt_lt.mp (Int32.not_le.mp c_9)
            have z_2 := congrArg Int32.toInt c_322
            have y_32 : (32 : Int32).toInt = 32 := by decide
            omega
          have hi_632 : (x_627 : Int32).toInt = (vy_2 : Int32).toInt + 1 := by
            have z_1 := Int32.lt_iff_toInt_lt.mp (Int32.not_le.mp c_9)
            have z_2 := congrArg Int32.toInt c_322
            have y_32 : (32 : Int32).toInt = 32 := by decide
            have y_1 : (1 : Int32).toInt = 1 := by decide
            have t_x_627 : x_627.toInt = (vy_2 : Int32).toInt + (1 : Int32).toInt := by rw [ex_627]; exact add_toInt (by omega) (by omega)
            omega
          exact ih_4 x_627 _ _ _ (by omega) ha_629 (Rn.st pf_7 hr_630 he_320.1 (decide_eq_true hr_631) hi_632) (hP.sub [0, 1] rfl) (hD.sub [0, 1] rfl rfl) hS (lv_sub hl [0] rfl)
  have ha_633 : 0 ≤ ((Tv 2) : Int32).toInt ∧ ((Tv 2) : Int32).toInt ≤ 400 := by
    omega
  exact loop_5 _ (Tv 2) _ _ _ (Nat.lt_succ_self _) ha_633 (Rn.rf) hP hD hS hl
