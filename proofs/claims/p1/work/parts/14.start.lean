theorem dL_law_0 : decode cL_law 0 = .ok (.new 7, 3) := by decide +kernel
theorem dL_law_3 : decode cL_law 3 = .ok (.dup, 1) := by decide +kernel
theorem dL_law_4 : decode cL_law 4 = .ok (.invokespecial 9, 3) := by decide +kernel
theorem dL_law_7 : decode cL_law 7 = .ok (.astore_n 1, 1) := by decide +kernel
theorem dL_law_8 : decode cL_law 8 = .ok (.new 10, 3) := by decide +kernel
theorem dL_law_11 : decode cL_law 11 = .ok (.dup, 1) := by decide +kernel
theorem dL_law_12 : decode cL_law 12 = .ok (.invokespecial 12, 3) := by decide +kernel
theorem dL_law_15 : decode cL_law 15 = .ok (.astore_n 2, 1) := by decide +kernel
theorem dL_law_16 : decode cL_law 16 = .ok (.iconst 0, 1) := by decide +kernel
theorem dL_law_17 : decode cL_law 17 = .ok (.istore_n 3, 1) := by decide +kernel
theorem dL_law_27 : decode cL_law 27 = .ok (.aload_n 0, 1) := by decide +kernel
theorem dL_law_28 : decode cL_law 28 = .ok (.iload_n 3, 1) := by decide +kernel
theorem dL_law_29 : decode cL_law 29 = .ok (.iaload, 1) := by decide +kernel
theorem dL_law_30 : decode cL_law 30 = .ok (.bipush 63, 2) := by decide +kernel
theorem dL_law_32 : decode cL_law 32 = .ok (.iand, 1) := by decide +kernel
theorem dL_law_33 : decode cL_law 33 = .ok (.tableswitch 1153 0 33 #[151, 214, 237, 250, 263, 286, 319, 352, 365, 388, 421, 454, 487, 500, 543, 566, 579, 612, 645, 678, 711, 744, 777, 810, 863, 886, 919, 962, 985, 1008, 1031, 1084, 1107, 1130], 151) := by decide +kernel
set_option maxHeartbeats 8000000 in
set_option maxRecDepth 100000 in
/-- THE LAW, from its entry -/
theorem whole_start {p : Program} {e : Env} {s : State} {m : MethodId} {below : List Frame} {meth : Method} {c : Code} (l : Launch) {b L : Nat} {xs : Nat → Int32} (hL : L ≤ 6) (C0 : lw_At p s m meth c b L xs) : W p l e room_1 s m #[Value.ref b] below meth c s.heap [] 0 0 (lw_Z below #[Value.ref b] s) (entryFrame m ([Value.ref b] : List Value).toArray 4) := by
  obtain ⟨hx, hb, hr, hml, hown, hts0, hXs, hbl, hlk, hgv⟩ := id C0
  have hown : s.vm.findClass RL = some m.cls := hown
  obtain ⟨D, tc, sk, hK, hX⟩ := law_env hts0 hgv
  have hts : ∀ w ∈ gT, w.before #[Value.ref b] s = true := fun w hw => hts0 w (List.mem_filter.mp hw).1
  obtain ⟨A, hAe⟩ : ∃ A : Nat → Prop, A = (fun q : Nat => s.heap.size ≤ q) := ⟨_, rfl⟩
  rw [← hAe] at hX
  have hA : ∀ q : Nat, s.heap.size ≤ q → A q := fun q h => by rw [hAe]; exact h
  have hAl : ∀ q : Nat, A q → s.heap.size ≤ q := fun q h => by rw [hAe] at h; exact h
  have hbA : ¬ A b := fun h => Nat.not_le.mpr hbl (hAl b h)
  have hS : va_S A s.heap s.heap [] := va_S.rf
  have hP : va_P D classes [] s.heap := fun k q h => by simp at h
  have hD : va_D A [] := ⟨fun i j p q h => by simp at h, fun k q h => by simp at h⟩
  have hl := lv_entry ([.ref b]) (n := 4) (Nat.le_of_ble_eq_true rfl)
  rw [lg_entry_eq]
  generalize (lg_sl ([.ref b]) ++ List.replicate (4 - (lg_sl ([.ref b])).length) Slot.unset).toArray = ls at hl ⊢
  have hl : lv_has ls 4 [(0, .ref b)] := hl
  refine va_new (ci := 11) (fs := [.null, .null, .null, .null, .int 0, .null, .null, .null, .null, .null, .null, .null]) (C := RX11) (T := TX11) (N := 12) hx hb hts iX11 tyX11 tyX11_ok hown (hts _ k_116) (hts _ k_117) (hts _ k_95) hK hP hD hS hA rfl dfX11 (Nat.le_of_ble_eq_true rfl) (Nat.le_of_ble_eq_true rfl) dL_law_0 (fun q_1 H hP hD hS => ?_)
  have hP : va_P D classes [(q_1, .inr (11, [.null, .null, .null, .null, .int 0, .null, .null, .null, .null, .null, .null, .null]))] H := hP
  have hD : va_D A [(q_1, .inr (11, [.null, .null, .null, .null, .int 0, .null, .null, .null, .null, .null, .null, .null]))] := hD
  refine lv_dup hx hb dL_law_3 rfl ?_
  refine cI (a := q_1) (As := []) (rest := [.ref q_1]) (wr := []) ⟨hx, hb, hml, hown, hts⟩ hK hX hA (ct_X11_init l D tc sk q_1) k_120 k_118 k_119 k_95 rfl pl_X11_init ⟨Nat.le_of_ble_eq_true rfl, Nat.le_of_ble_eq_true rfl⟩ rfl rfl  hP hD hS [0] [] rfl rfl rfl rfl rfl (by decide) rfl hl.1 rfl (Nat.le_of_ble_eq_true rfl) dL_law_4 ⟨Nat.le_of_ble_eq_true rfl, Nat.le_of_ble_eq_true rfl⟩ (fun v_2 u_3 H locs hv_4 hP hD hS => ?_)
  obtain ⟨ta_5, t_6, br_7, b_8, b_9, b_10, b_11, b_12, b_13, b_14, b_15, b_16, rr_17, r_18, ru_19, sc_20, e_21, e_22, e_23, e_24, e_25, e_26, e_27, e_28, e_29, f_30, f_31, f_32, f_33, f_34, f_35, f_36, f_37, f_38, g_39, g_40, g_41, g_42, pa_43, pq_44, im_45, ou_46, ch_47, iq_48⟩ := u_3
  obtain rfl : v_2 = none := hv_4
  refine W.eq (g2 := F0 m 7 ls [.ref q_1]) rfl ?_
  have hP : va_P D classes [(q_1, .inr (11, [.ref ta_5, .ref br_7, .ref rr_17, .ref ru_19, .int 0, .ref sc_20, .ref e_21, .ref pa_43, .ref im_45, .ref ou_46, .ref ch_47, .ref iq_48])), (ta_5, .inr (10, [.ref t_6, .int 0, .int 0, .int 0, .int (-1), .int 0])), (t_6, .inl (tc 0, 400, .inl (fun _ => 0))), (br_7, .inr (0, [.ref b_8])), (b_8, .inr (9, [.int 0, .int 0, .int 0, .int 0, .int 0, .int 0, .ref b_9, .ref b_10, .ref b_11, .ref b_12, .ref b_13, .ref b_14, .ref b_15, .ref b_16])), (b_9, .inl (tc 0, 10, .inl (fun _ => 0))), (b_10, .inl (tc 0, 10, .inl (fun _ => 0))), (b_11, .inl (tc 0, 6, .inl (fun _ => 0))), (b_12, .inl (tc 0, 6, .inl (fun _ => 0))), (b_13, .inl (tc 0, 6, .inl (fun _ => 0))), (b_14, .inl (tc 0, 6, .inl (fun _ => 0))), (b_15, .inl (tc 0, 6, .inl (fun _ => 0))), (b_16, .inl (tc 0, 6, .inl (fun _ => 0))), (rr_17, .inr (7, [.ref r_18, .int 0, .int 0])), (r_18, .inl (tc 0, 400, .inl (fun _ => 0))), (ru_19, .inl (tc 4, 6, .inr (.inr (.inr (.inr (fun _ => none)))))), (sc_20, .inr (8, [.ref e_21, .ref f_30, .ref g_39, .int (-1), .int 0])), (e_21, .inr (9, [.int 0, .int 0, .int 0, .int 0, .int 0, .int 0, .ref e_22, .ref e_23, .ref e_24, .ref e_25, .ref e_26, .ref e_27, .ref e_28, .ref e_29])), (e_22, .inl (tc 0, 10, .inl (fun _ => 0))), (e_23, .inl (tc 0, 10, .inl (fun _ => 0))), (e_24, .inl (tc 0, 6, .inl (fun _ => 0))), (e_25, .inl (tc 0, 6, .inl (fun _ => 0))), (e_26, .inl (tc 0, 6, .inl (fun _ => 0))), (e_27, .inl (tc 0, 6, .inl (fun _ => 0))), (e_28, .inl (tc 0, 6, .inl (fun _ => 0))), (e_29, .inl (tc 0, 6, .inl (fun _ => 0))), (f_30, .inr (9, [.int 0, .int 0, .int 0, .int 0, .int 0, .int 0, .ref f_31, .ref f_32, .ref f_33, .ref f_34, .ref f_35, .ref f_36, .ref f_37, .ref f_38])), (f_31, .inl (tc 0, 10, .inl (fun _ => 0))), (f_32, .inl (tc 0, 10, .inl (fun _ => 0))), (f_33, .inl (tc 0, 6, .inl (fun _ => 0))), (f_34, .inl (tc 0, 6, .inl (fun _ => 0))), (f_35, .inl (tc 0, 6, .inl (fun _ => 0))), (f_36, .inl (tc 0, 6, .inl (fun _ => 0))), (f_37, .inl (tc 0, 6, .inl (fun _ => 0))), (f_38, .inl (tc 0, 6, .inl (fun _ => 0))), (g_39, .inr (3, [.ref g_40, .ref g_41, .ref g_42, .int 0])), (g_40, .inl (tc 0, 10, .inl (fun _ => 0))), (g_41, .inl (tc 0, 10, .inl (fun _ => 0))), (g_42, .inl (tc 0, 10, .inl (fun _ => 0))), (pa_43, .inr (5, [.ref pq_44, .int 0, .int 0])), (im_45, .inl (tc 6, 4, .inr (.inr (.inr (.inr (fun _ => none))))))] H := hP
  have hD : va_D A [(q_1, .inr (11, [.ref ta_5, .ref br_7, .ref rr_17, .ref ru_19, .int 0, .ref sc_20, .ref e_21, .ref pa_43, .ref im_45, .ref ou_46, .ref ch_47, .ref iq_48])), (ta_5, .inr (10, [.ref t_6, .int 0, .int 0, .int 0, .int (-1), .int 0])), (t_6, .inl (tc 0, 400, .inl (fun _ => 0))), (br_7, .inr (0, [.ref b_8])), (b_8, .inr (9, [.int 0, .int 0, .int 0, .int 0, .int 0, .int 0, .ref b_9, .ref b_10, .ref b_11, .ref b_12, .ref b_13, .ref b_14, .ref b_15, .ref b_16])), (b_9, .inl (tc 0, 10, .inl (fun _ => 0))), (b_10, .inl (tc 0, 10, .inl (fun _ => 0))), (b_11, .inl (tc 0, 6, .inl (fun _ => 0))), (b_12, .inl (tc 0, 6, .inl (fun _ => 0))), (b_13, .inl (tc 0, 6, .inl (fun _ => 0))), (b_14, .inl (tc 0, 6, .inl (fun _ => 0))), (b_15, .inl (tc 0, 6, .inl (fun _ => 0))), (b_16, .inl (tc 0, 6, .inl (fun _ => 0))), (rr_17, .inr (7, [.ref r_18, .int 0, .int 0])), (r_18, .inl (tc 0, 400, .inl (fun _ => 0))), (ru_19, .inl (tc 4, 6, .inr (.inr (.inr (.inr (fun _ => none)))))), (sc_20, .inr (8, [.ref e_21, .ref f_30, .ref g_39, .int (-1), .int 0])), (e_21, .inr (9, [.int 0, .int 0, .int 0, .int 0, .int 0, .int 0, .ref e_22, .ref e_23, .ref e_24, .ref e_25, .ref e_26, .ref e_27, .ref e_28, .ref e_29])), (e_22, .inl (tc 0, 10, .inl (fun _ => 0))), (e_23, .inl (tc 0, 10, .inl (fun _ => 0))), (e_24, .inl (tc 0, 6, .inl (fun _ => 0))), (e_25, .inl (tc 0, 6, .inl (fun _ => 0))), (e_26, .inl (tc 0, 6, .inl (fun _ => 0))), (e_27, .inl (tc 0, 6, .inl (fun _ => 0))), (e_28, .inl (tc 0, 6, .inl (fun _ => 0))), (e_29, .inl (tc 0, 6, .inl (fun _ => 0))), (f_30, .inr (9, [.int 0, .int 0, .int 0, .int 0, .int 0, .int 0, .ref f_31, .ref f_32, .ref f_33, .ref f_34, .ref f_35, .ref f_36, .ref f_37, .ref f_38])), (f_31, .inl (tc 0, 10, .inl (fun _ => 0))), (f_32, .inl (tc 0, 10, .inl (fun _ => 0))), (f_33, .inl (tc 0, 6, .inl (fun _ => 0))), (f_34, .inl (tc 0, 6, .inl (fun _ => 0))), (f_35, .inl (tc 0, 6, .inl (fun _ => 0))), (f_36, .inl (tc 0, 6, .inl (fun _ => 0))), (f_37, .inl (tc 0, 6, .inl (fun _ => 0))), (f_38, .inl (tc 0, 6, .inl (fun _ => 0))), (g_39, .inr (3, [.ref g_40, .ref g_41, .ref g_42, .int 0])), (g_40, .inl (tc 0, 10, .inl (fun _ => 0))), (g_41, .inl (tc 0, 10, .inl (fun _ => 0))), (g_42, .inl (tc 0, 10, .inl (fun _ => 0))), (pa_43, .inr (5, [.ref pq_44, .int 0, .int 0])), (im_45, .inl (tc 6, 4, .inr (.inr (.inr (.inr (fun _ => none))))))] := hD
  refine lv_astore_n (lv' := [(1, .ref q_1), (0, .ref b)]) hx hb dL_law_7 rfl hl (by decide) rfl (fun ls hl => ?_)
  refine va_new (ci := 12) (fs := [.null, .int 0, .int 0, .null, .null, .null, .null, .null, .int 0, .int 0, .int 0, .int 0, .int 0, .int 0, .int 0, .null, .int 0, .null, .int 0, .null, .null, .int 0, .int 0, .int 0, .null, .int 0, .null, .null, .null, .null, .null, .long 0, .null, .null, .null, .null]) (C := RX12) (T := TX12) (N := 36) hx hb hts iX12 tyX12 tyX12_ok hown (hts _ k_1069) (hts _ k_1070) (hts _ k_106) hK hP hD hS hA rfl dfX12 (Nat.le_of_ble_eq_true rfl) (Nat.le_of_ble_eq_true rfl) dL_law_8 (fun q_49 H hP hD hS => ?_)
  have hP : va_P D classes [(q_1, .inr (11, [.ref ta_5, .ref br_7, .ref rr_17, .ref ru_19, .int 0, .ref sc_20, .ref e_21, .ref pa_43, .ref im_45, .ref ou_46, .ref ch_47, .ref iq_48])), (ta_5, .inr (10, [.ref t_6, .int 0, .int 0, .int 0, .int (-1), .int 0])), (t_6, .inl (tc 0, 400, .inl (fun _ => 0))), (br_7, .inr (0, [.ref b_8])), (b_8, .inr (9, [.int 0, .int 0, .int 0, .int 0, .int 0, .int 0, .ref b_9, .ref b_10, .ref b_11, .ref b_12, .ref b_13, .ref b_14, .ref b_15, .ref b_16])), (b_9, .inl (tc 0, 10, .inl (fun _ => 0))), (b_10, .inl (tc 0, 10, .inl (fun _ => 0))), (b_11, .inl (tc 0, 6, .inl (fun _ => 0))), (b_12, .inl (tc 0, 6, .inl (fun _ => 0))), (b_13, .inl (tc 0, 6, .inl (fun _ => 0))), (b_14, .inl (tc 0, 6, .inl (fun _ => 0))), (b_15, .inl (tc 0, 6, .inl (fun _ => 0))), (b_16, .inl (tc 0, 6, .inl (fun _ => 0))), (rr_17, .inr (7, [.ref r_18, .int 0, .int 0])), (r_18, .inl (tc 0, 400, .inl (fun _ => 0))), (ru_19, .inl (tc 4, 6, .inr (.inr (.inr (.inr (fun _ => none)))))), (sc_20, .inr (8, [.ref e_21, .ref f_30, .ref g_39, .int (-1), .int 0])), (e_21, .inr (9, [.int 0, .int 0, .int 0, .int 0, .int 0, .int 0, .ref e_22, .ref e_23, .ref e_24, .ref e_25, .ref e_26, .ref e_27, .ref e_28, .ref e_29])), (e_22, .inl (tc 0, 10, .inl (fun _ => 0))), (e_23, .inl (tc 0, 10, .inl (fun _ => 0))), (e_24, .inl (tc 0, 6, .inl (fun _ => 0))), (e_25, .inl (tc 0, 6, .inl (fun _ => 0))), (e_26, .inl (tc 0, 6, .inl (fun _ => 0))), (e_27, .inl (tc 0, 6, .inl (fun _ => 0))), (e_28, .inl (tc 0, 6, .inl (fun _ => 0))), (e_29, .inl (tc 0, 6, .inl (fun _ => 0))), (f_30, .inr (9, [.int 0, .int 0, .int 0, .int 0, .int 0, .int 0, .ref f_31, .ref f_32, .ref f_33, .ref f_34, .ref f_35, .ref f_36, .ref f_37, .ref f_38])), (f_31, .inl (tc 0, 10, .inl (fun _ => 0))), (f_32, .inl (tc 0, 10, .inl (fun _ => 0))), (f_33, .inl (tc 0, 6, .inl (fun _ => 0))), (f_34, .inl (tc 0, 6, .inl (fun _ => 0))), (f_35, .inl (tc 0, 6, .inl (fun _ => 0))), (f_36, .inl (tc 0, 6, .inl (fun _ => 0))), (f_37, .inl (tc 0, 6, .inl (fun _ => 0))), (f_38, .inl (tc 0, 6, .inl (fun _ => 0))), (g_39, .inr (3, [.ref g_40, .ref g_41, .ref g_42, .int 0])), (g_40, .inl (tc 0, 10, .inl (fun _ => 0))), (g_41, .inl (tc 0, 10, .inl (fun _ => 0))), (g_42, .inl (tc 0, 10, .inl (fun _ => 0))), (pa_43, .inr (5, [.ref pq_44, .int 0, .int 0])), (im_45, .inl (tc 6, 4, .inr (.inr (.inr (.inr (fun _ => none)))))), (q_49, .inr (12, [.null, .int 0, .int 0, .null, .null, .null, .null, .null, .int 0, .int 0, .int 0, .int 0, .int 0, .int 0, .int 0, .null, .int 0, .null, .int 0, .null, .null, .int 0, .int 0, .int 0, .null, .int 0, .null, .null, .null, .null, .null, .long 0, .null, .null, .null, .null]))] H := hP
  have hD : va_D A [(q_1, .inr (11, [.ref ta_5, .ref br_7, .ref rr_17, .ref ru_19, .int 0, .ref sc_20, .ref e_21, .ref pa_43, .ref im_45, .ref ou_46, .ref ch_47, .ref iq_48])), (ta_5, .inr (10, [.ref t_6, .int 0, .int 0, .int 0, .int (-1), .int 0])), (t_6, .inl (tc 0, 400, .inl (fun _ => 0))), (br_7, .inr (0, [.ref b_8])), (b_8, .inr (9, [.int 0, .int 0, .int 0, .int 0, .int 0, .int 0, .ref b_9, .ref b_10, .ref b_11, .ref b_12, .ref b_13, .ref b_14, .ref b_15, .ref b_16])), (b_9, .inl (tc 0, 10, .inl (fun _ => 0))), (b_10, .inl (tc 0, 10, .inl (fun _ => 0))), (b_11, .inl (tc 0, 6, .inl (fun _ => 0))), (b_12, .inl (tc 0, 6, .inl (fun _ => 0))), (b_13, .inl (tc 0, 6, .inl (fun _ => 0))), (b_14, .inl (tc 0, 6, .inl (fun _ => 0))), (b_15, .inl (tc 0, 6, .inl (fun _ => 0))), (b_16, .inl (tc 0, 6, .inl (fun _ => 0))), (rr_17, .inr (7, [.ref r_18, .int 0, .int 0])), (r_18, .inl (tc 0, 400, .inl (fun _ => 0))), (ru_19, .inl (tc 4, 6, .inr (.inr (.inr (.inr (fun _ => none)))))), (sc_20, .inr (8, [.ref e_21, .ref f_30, .ref g_39, .int (-1), .int 0])), (e_21, .inr (9, [.int 0, .int 0, .int 0, .int 0, .int 0, .int 0, .ref e_22, .ref e_23, .ref e_24, .ref e_25, .ref e_26, .ref e_27, .ref e_28, .ref e_29])), (e_22, .inl (tc 0, 10, .inl (fun _ => 0))), (e_23, .inl (tc 0, 10, .inl (fun _ => 0))), (e_24, .inl (tc 0, 6, .inl (fun _ => 0))), (e_25, .inl (tc 0, 6, .inl (fun _ => 0))), (e_26, .inl (tc 0, 6, .inl (fun _ => 0))), (e_27, .inl (tc 0, 6, .inl (fun _ => 0))), (e_28, .inl (tc 0, 6, .inl (fun _ => 0))), (e_29, .inl (tc 0, 6, .inl (fun _ => 0))), (f_30, .inr (9, [.int 0, .int 0, .int 0, .int 0, .int 0, .int 0, .ref f_31, .ref f_32, .ref f_33, .ref f_34, .ref f_35, .ref f_36, .ref f_37, .ref f_38])), (f_31, .inl (tc 0, 10, .inl (fun _ => 0))), (f_32, .inl (tc 0, 10, .inl (fun _ => 0))), (f_33, .inl (tc 0, 6, .inl (fun _ => 0))), (f_34, .inl (tc 0, 6, .inl (fun _ => 0))), (f_35, .inl (tc 0, 6, .inl (fun _ => 0))), (f_36, .inl (tc 0, 6, .inl (fun _ => 0))), (f_37, .inl (tc 0, 6, .inl (fun _ => 0))), (f_38, .inl (tc 0, 6, .inl (fun _ => 0))), (g_39, .inr (3, [.ref g_40, .ref g_41, .ref g_42, .int 0])), (g_40, .inl (tc 0, 10, .inl (fun _ => 0))), (g_41, .inl (tc 0, 10, .inl (fun _ => 0))), (g_42, .inl (tc 0, 10, .inl (fun _ => 0))), (pa_43, .inr (5, [.ref pq_44, .int 0, .int 0])), (im_45, .inl (tc 6, 4, .inr (.inr (.inr (.inr (fun _ => none)))))), (q_49, .inr (12, [.null, .int 0, .int 0, .null, .null, .null, .null, .null, .int 0, .int 0, .int 0, .int 0, .int 0, .int 0, .int 0, .null, .int 0, .null, .int 0, .null, .null, .int 0, .int 0, .int 0, .null, .int 0, .null, .null, .null, .null, .null, .long 0, .null, .null, .null, .null]))] := hD
  refine lv_dup hx hb dL_law_11 rfl ?_
  refine cI (a := q_49) (As := []) (rest := [.ref q_49]) (wr := [(q_1, .inr (11, [.ref ta_5, .ref br_7, .ref rr_17, .ref ru_19, .int 0, .ref sc_20, .ref e_21, .ref pa_43, .ref im_45, .ref ou_46, .ref ch_47, .ref iq_48])), (ta_5, .inr (10, [.ref t_6, .int 0, .int 0, .int 0, .int (-1), .int 0])), (t_6, .inl (tc 0, 400, .inl (fun _ => 0))), (br_7, .inr (0, [.ref b_8])), (b_8, .inr (9, [.int 0, .int 0, .int 0, .int 0, .int 0, .int 0, .ref b_9, .ref b_10, .ref b_11, .ref b_12, .ref b_13, .ref b_14, .ref b_15, .ref b_16])), (b_9, .inl (tc 0, 10, .inl (fun _ => 0))), (b_10, .inl (tc 0, 10, .inl (fun _ => 0))), (b_11, .inl (tc 0, 6, .inl (fun _ => 0))), (b_12, .inl (tc 0, 6, .inl (fun _ => 0))), (b_13, .inl (tc 0, 6, .inl (fun _ => 0))), (b_14, .inl (tc 0, 6, .inl (fun _ => 0))), (b_15, .inl (tc 0, 6, .inl (fun _ => 0))), (b_16, .inl (tc 0, 6, .inl (fun _ => 0))), (rr_17, .inr (7, [.ref r_18, .int 0, .int 0])), (r_18, .inl (tc 0, 400, .inl (fun _ => 0))), (ru_19, .inl (tc 4, 6, .inr (.inr (.inr (.inr (fun _ => none)))))), (sc_20, .inr (8, [.ref e_21, .ref f_30, .ref g_39, .int (-1), .int 0])), (e_21, .inr (9, [.int 0, .int 0, .int 0, .int 0, .int 0, .int 0, .ref e_22, .ref e_23, .ref e_24, .ref e_25, .ref e_26, .ref e_27, .ref e_28, .ref e_29])), (e_22, .inl (tc 0, 10, .inl (fun _ => 0))), (e_23, .inl (tc 0, 10, .inl (fun _ => 0))), (e_24, .inl (tc 0, 6, .inl (fun _ => 0))), (e_25, .inl (tc 0, 6, .inl (fun _ => 0))), (e_26, .inl (tc 0, 6, .inl (fun _ => 0))), (e_27, .inl (tc 0, 6, .inl (fun _ => 0))), (e_28, .inl (tc 0, 6, .inl (fun _ => 0))), (e_29, .inl (tc 0, 6, .inl (fun _ => 0))), (f_30, .inr (9, [.int 0, .int 0, .int 0, .int 0, .int 0, .int 0, .ref f_31, .ref f_32, .ref f_33, .ref f_34, .ref f_35, .ref f_36, .ref f_37, .ref f_38])), (f_31, .inl (tc 0, 10, .inl (fun _ => 0))), (f_32, .inl (tc 0, 10, .inl (fun _ => 0))), (f_33, .inl (tc 0, 6, .inl (fun _ => 0))), (f_34, .inl (tc 0, 6, .inl (fun _ => 0))), (f_35, .inl (tc 0, 6, .inl (fun _ => 0))), (f_36, .inl (tc 0, 6, .inl (fun _ => 0))), (f_37, .inl (tc 0, 6, .inl (fun _ => 0))), (f_38, .inl (tc 0, 6, .inl (fun _ => 0))), (g_39, .inr (3, [.ref g_40, .ref g_41, .ref g_42, .int 0])), (g_40, .inl (tc 0, 10, .inl (fun _ => 0))), (g_41, .inl (tc 0, 10, .inl (fun _ => 0))), (g_42, .inl (tc 0, 10, .inl (fun _ => 0))), (pa_43, .inr (5, [.ref pq_44, .int 0, .int 0])), (im_45, .inl (tc 6, 4, .inr (.inr (.inr (.inr (fun _ => none))))))]) ⟨hx, hb, hml, hown, hts⟩ hK hX hA (ct_X12_init l D tc sk q_49) k_1073 k_1071 k_1072 k_106 rfl pl_X12_init ⟨Nat.le_of_ble_eq_true rfl, Nat.le_of_ble_eq_true rfl⟩ rfl rfl  hP hD hS [41] [0, 1, 2, 3, 4, 5, 6, 7, 8, 9, 10, 11, 12, 13, 14, 15, 16, 17, 18, 19, 20, 21, 22, 23, 24, 25, 26, 27, 28, 29, 30, 31, 32, 33, 34, 35, 36, 37, 38, 39, 40] rfl rfl rfl rfl rfl (by decide) rfl hl.1 rfl (Nat.le_of_ble_eq_true rfl) dL_law_12 ⟨Nat.le_of_ble_eq_true rfl, Nat.le_of_ble_eq_true rfl⟩ (fun v_50 u_51 H locs hv_52 hP hD hS => ?_)
  obtain ⟨n_53, n_54, n_55, n_56, n_57, n_58, n_59, n_60, n_61, n_62, n_63, n_64, n_65, n_66, n_67, n_68, n_69, n_70, n_71, n_72⟩ := u_51
  obtain rfl : v_50 = none := hv_52
  refine W.eq (g2 := F0 m 15 ls [.ref q_49]) rfl ?_
  have hP : va_P D classes [(q_1, .inr (11, [.ref ta_5, .ref br_7, .ref rr_17, .ref ru_19, .int 0, .ref sc_20, .ref e_21, .ref pa_43, .ref im_45, .ref ou_46, .ref ch_47, .ref iq_48])), (ta_5, .inr (10, [.ref t_6, .int 0, .int 0, .int 0, .int (-1), .int 0])), (t_6, .inl (tc 0, 400, .inl (fun _ => 0))), (br_7, .inr (0, [.ref b_8])), (b_8, .inr (9, [.int 0, .int 0, .int 0, .int 0, .int 0, .int 0, .ref b_9, .ref b_10, .ref b_11, .ref b_12, .ref b_13, .ref b_14, .ref b_15, .ref b_16])), (b_9, .inl (tc 0, 10, .inl (fun _ => 0))), (b_10, .inl (tc 0, 10, .inl (fun _ => 0))), (b_11, .inl (tc 0, 6, .inl (fun _ => 0))), (b_12, .inl (tc 0, 6, .inl (fun _ => 0))), (b_13, .inl (tc 0, 6, .inl (fun _ => 0))), (b_14, .inl (tc 0, 6, .inl (fun _ => 0))), (b_15, .inl (tc 0, 6, .inl (fun _ => 0))), (b_16, .inl (tc 0, 6, .inl (fun _ => 0))), (rr_17, .inr (7, [.ref r_18, .int 0, .int 0])), (r_18, .inl (tc 0, 400, .inl (fun _ => 0))), (ru_19, .inl (tc 4, 6, .inr (.inr (.inr (.inr (fun _ => none)))))), (sc_20, .inr (8, [.ref e_21, .ref f_30, .ref g_39, .int (-1), .int 0])), (e_21, .inr (9, [.int 0, .int 0, .int 0, .int 0, .int 0, .int 0, .ref e_22, .ref e_23, .ref e_24, .ref e_25, .ref e_26, .ref e_27, .ref e_28, .ref e_29])), (e_22, .inl (tc 0, 10, .inl (fun _ => 0))), (e_23, .inl (tc 0, 10, .inl (fun _ => 0))), (e_24, .inl (tc 0, 6, .inl (fun _ => 0))), (e_25, .inl (tc 0, 6, .inl (fun _ => 0))), (e_26, .inl (tc 0, 6, .inl (fun _ => 0))), (e_27, .inl (tc 0, 6, .inl (fun _ => 0))), (e_28, .inl (tc 0, 6, .inl (fun _ => 0))), (e_29, .inl (tc 0, 6, .inl (fun _ => 0))), (f_30, .inr (9, [.int 0, .int 0, .int 0, .int 0, .int 0, .int 0, .ref f_31, .ref f_32, .ref f_33, .ref f_34, .ref f_35, .ref f_36, .ref f_37, .ref f_38])), (f_31, .inl (tc 0, 10, .inl (fun _ => 0))), (f_32, .inl (tc 0, 10, .inl (fun _ => 0))), (f_33, .inl (tc 0, 6, .inl (fun _ => 0))), (f_34, .inl (tc 0, 6, .inl (fun _ => 0))), (f_35, .inl (tc 0, 6, .inl (fun _ => 0))), (f_36, .inl (tc 0, 6, .inl (fun _ => 0))), (f_37, .inl (tc 0, 6, .inl (fun _ => 0))), (f_38, .inl (tc 0, 6, .inl (fun _ => 0))), (g_39, .inr (3, [.ref g_40, .ref g_41, .ref g_42, .int 0])), (g_40, .inl (tc 0, 10, .inl (fun _ => 0))), (g_41, .inl (tc 0, 10, .inl (fun _ => 0))), (g_42, .inl (tc 0, 10, .inl (fun _ => 0))), (pa_43, .inr (5, [.ref pq_44, .int 0, .int 0])), (im_45, .inl (tc 6, 4, .inr (.inr (.inr (.inr (fun _ => none)))))), (q_49, .inr (12, [.ref n_53, .int 0, .int 0, .ref n_54, .ref n_55, .ref n_56, .ref n_57, .ref n_58, .int 0, .int 0, .int 0, .int 0, .int 0, .int 0, .int 0, .ref n_59, .int 0, .ref n_60, .int 0, .ref n_61, .ref n_62, .int (-1), .int 0, .int 0, .ref n_63, .int 0, .ref n_64, .ref n_65, .ref n_66, .ref n_67, .ref n_68, .long 0, .ref n_69, .ref n_70, .ref n_71, .ref n_72])), (n_53, .inl (tc 2, 400, .inl (fun _ => 0))), (n_55, .inl (tc 0, 7, .inl (fun _ => 0))), (n_57, .inl (tc 0, 6, .inl (fun _ => 0))), (n_58, .inl (tc 0, 95, .inl (fun _ => 0))), (n_62, .inl (tc 0, 126, .inl (fun _ => 0))), (n_69, .inl (tc 0, 504, .inl (fun _ => 0))), (n_70, .inl (tc 0, 4, .inl (fun _ => 0))), (n_71, .inl (tc 0, 4, .inl (fun _ => 0))), (n_72, .inl (tc 3, 4, .inl (fun _ => 0)))] H := hP
  have hD : va_D A [(q_1, .inr (11, [.ref ta_5, .ref br_7, .ref rr_17, .ref ru_19, .int 0, .ref sc_20, .ref e_21, .ref pa_43, .ref im_45, .ref ou_46, .ref ch_47, .ref iq_48])), (ta_5, .inr (10, [.ref t_6, .int 0, .int 0, .int 0, .int (-1), .int 0])), (t_6, .inl (tc 0, 400, .inl (fun _ => 0))), (br_7, .inr (0, [.ref b_8])), (b_8, .inr (9, [.int 0, .int 0, .int 0, .int 0, .int 0, .int 0, .ref b_9, .ref b_10, .ref b_11, .ref b_12, .ref b_13, .ref b_14, .ref b_15, .ref b_16])), (b_9, .inl (tc 0, 10, .inl (fun _ => 0))), (b_10, .inl (tc 0, 10, .inl (fun _ => 0))), (b_11, .inl (tc 0, 6, .inl (fun _ => 0))), (b_12, .inl (tc 0, 6, .inl (fun _ => 0))), (b_13, .inl (tc 0, 6, .inl (fun _ => 0))), (b_14, .inl (tc 0, 6, .inl (fun _ => 0))), (b_15, .inl (tc 0, 6, .inl (fun _ => 0))), (b_16, .inl (tc 0, 6, .inl (fun _ => 0))), (rr_17, .inr (7, [.ref r_18, .int 0, .int 0])), (r_18, .inl (tc 0, 400, .inl (fun _ => 0))), (ru_19, .inl (tc 4, 6, .inr (.inr (.inr (.inr (fun _ => none)))))), (sc_20, .inr (8, [.ref e_21, .ref f_30, .ref g_39, .int (-1), .int 0])), (e_21, .inr (9, [.int 0, .int 0, .int 0, .int 0, .int 0, .int 0, .ref e_22, .ref e_23, .ref e_24, .ref e_25, .ref e_26, .ref e_27, .ref e_28, .ref e_29])), (e_22, .inl (tc 0, 10, .inl (fun _ => 0))), (e_23, .inl (tc 0, 10, .inl (fun _ => 0))), (e_24, .inl (tc 0, 6, .inl (fun _ => 0))), (e_25, .inl (tc 0, 6, .inl (fun _ => 0))), (e_26, .inl (tc 0, 6, .inl (fun _ => 0))), (e_27, .inl (tc 0, 6, .inl (fun _ => 0))), (e_28, .inl (tc 0, 6, .inl (fun _ => 0))), (e_29, .inl (tc 0, 6, .inl (fun _ => 0))), (f_30, .inr (9, [.int 0, .int 0, .int 0, .int 0, .int 0, .int 0, .ref f_31, .ref f_32, .ref f_33, .ref f_34, .ref f_35, .ref f_36, .ref f_37, .ref f_38])), (f_31, .inl (tc 0, 10, .inl (fun _ => 0))), (f_32, .inl (tc 0, 10, .inl (fun _ => 0))), (f_33, .inl (tc 0, 6, .inl (fun _ => 0))), (f_34, .inl (tc 0, 6, .inl (fun _ => 0))), (f_35, .inl (tc 0, 6, .inl (fun _ => 0))), (f_36, .inl (tc 0, 6, .inl (fun _ => 0))), (f_37, .inl (tc 0, 6, .inl (fun _ => 0))), (f_38, .inl (tc 0, 6, .inl (fun _ => 0))), (g_39, .inr (3, [.ref g_40, .ref g_41, .ref g_42, .int 0])), (g_40, .inl (tc 0, 10, .inl (fun _ => 0))), (g_41, .inl (tc 0, 10, .inl (fun _ => 0))), (g_42, .inl (tc 0, 10, .inl (fun _ => 0))), (pa_43, .inr (5, [.ref pq_44, .int 0, .int 0])), (im_45, .inl (tc 6, 4, .inr (.inr (.inr (.inr (fun _ => none)))))), (q_49, .inr (12, [.ref n_53, .int 0, .int 0, .ref n_54, .ref n_55, .ref n_56, .ref n_57, .ref n_58, .int 0, .int 0, .int 0, .int 0, .int 0, .int 0, .int 0, .ref n_59, .int 0, .ref n_60, .int 0, .ref n_61, .ref n_62, .int (-1), .int 0, .int 0, .ref n_63, .int 0, .ref n_64, .ref n_65, .ref n_66, .ref n_67, .ref n_68, .long 0, .ref n_69, .ref n_70, .ref n_71, .ref n_72])), (n_53, .inl (tc 2, 400, .inl (fun _ => 0))), (n_55, .inl (tc 0, 7, .inl (fun _ => 0))), (n_57, .inl (tc 0, 6, .inl (fun _ => 0))), (n_58, .inl (tc 0, 95, .inl (fun _ => 0))), (n_62, .inl (tc 0, 126, .inl (fun _ => 0))), (n_69, .inl (tc 0, 504, .inl (fun _ => 0))), (n_70, .inl (tc 0, 4, .inl (fun _ => 0))), (n_71, .inl (tc 0, 4, .inl (fun _ => 0))), (n_72, .inl (tc 3, 4, .inl (fun _ => 0)))] := hD
  refine lv_astore_n (lv' := [(2, .ref q_49), (1, .ref q_1), (0, .ref b)]) hx hb dL_law_15 rfl hl (by decide) rfl (fun ls hl => ?_)
  refine lv_iconst (v := 0) hx hb dL_law_16 (by decide) ?_
  refine lv_istore_n (lv' := [(3, .int 0), (2, .ref q_49), (1, .ref q_1), (0, .ref b)]) hx hb dL_law_17 rfl hl (by decide) rfl (fun ls hl => ?_)
  have hL6 : L = 0 ∨ L = 1 ∨ L = 2 ∨ L = 3 ∨ L = 4 ∨ L = 5 ∨ L = 6 := by omega
  have CL : LawCx p s m meth c D tc sk A b xs L := ⟨hx, hb, hr, hlk, hml, hown, hts, hK, hX, hA, hAl, hXs, hbl, hbA⟩
  rcases hL6 with rfl | rfl | rfl | rfl | rfl | rfl | rfl
  · exact law_short_0 CL (Nat.le_of_ble_eq_true rfl) (Nat.le_of_ble_eq_true rfl) hS (lv_sub hl [0, 1, 2, 3] rfl)
  · exact law_short_1 CL (Nat.le_of_ble_eq_true rfl) (Nat.le_of_ble_eq_true rfl) hS (lv_sub hl [0, 1, 2, 3] rfl)
  · exact law_short_2 CL (Nat.le_of_ble_eq_true rfl) (Nat.le_of_ble_eq_true rfl) hS (lv_sub hl [0, 1, 2, 3] rfl)
  · exact law_short_3 CL (Nat.le_of_ble_eq_true rfl) (Nat.le_of_ble_eq_true rfl) hS (lv_sub hl [0, 1, 2, 3] rfl)
  · exact law_short_4 CL (Nat.le_of_ble_eq_true rfl) (Nat.le_of_ble_eq_true rfl) hS (lv_sub hl [0, 1, 2, 3] rfl)
  · exact law_short_5 CL (Nat.le_of_ble_eq_true rfl) (Nat.le_of_ble_eq_true rfl) hS (lv_sub hl [0, 1, 2, 3] rfl)
  · skip
    have hl : lv_has ls 4 [(3, .int 0), (2, .ref q_49), (1, .ref q_1), (0, .ref b)] := (lv_sub hl [0, 1, 2, 3] rfl)
    refine lv_iload_n hx hb dL_law_18 rfl (lv_at hl 0 rfl) ?_
    refine lv_aload_n hx hb dL_law_19 rfl (lv_at hl 3 rfl) ?_
    refine va_slen hx hb hXs hbl hbA hS dL_law_20 ?_
    refine lv_lit (v := 6) rfl ?_
    refine lv_bipush (v := 6) hx hb dL_law_21 (by decide) ?_
    refine lv_isub hx hb dL_law_23 ?_
    refine lv_lit (v := 0) (by decide) ?_
    refine lv_icmp_gt (tgt := 1192) hx hb dL_law_24 (by decide) (fun c_73 => absurd c_73 (by decide)) (fun c_73 => ?_)
    refine lv_aload_n hx hb dL_law_27 rfl (lv_at hl 3 rfl) ?_
    refine lv_iload_n hx hb dL_law_28 rfl (lv_at hl 0 rfl) ?_
    refine va_sld hx hb hXs hbl hbA hS (vin_dec (by decide +kernel)) dL_law_29 ?_
    refine lv_lit (v := (xs 0)) rfl ?_
    refine lv_bipush (v := 63) hx hb dL_law_30 (by decide) ?_
    refine lv_iand hx hb dL_law_32 ?_
    refine lv_topi (fun x_74 ex_74 => ?_)
    by_cases c_75 : x_74 = 0
    · skip
      subst c_75
      refine lv_tableIn (off := 151) (tgt := 184) hx hb dL_law_33 (by decide) (by decide) (by decide) (by decide) ?_
      exact law_0 CL q_1 ta_5 br_7 rr_17 ru_19 sc_20 e_21 pa_43 im_45 ou_46 ch_47 iq_48 t_6 q_49 n_53 n_54 n_55 n_56 n_57 n_58 n_59 n_60 n_61 n_62 n_63 n_64 n_65 n_66 n_67 n_68 n_69 n_70 n_71 n_72 (hP.sub [0, 1, 2, 41, 42] rfl) (hD.sub [0, 1, 2, 41, 42] rfl rfl) hS hl
    · skip
      by_cases c_76 : x_74 = 1
      · skip
        subst c_76
        refine lv_tableIn (off := 214) (tgt := 247) hx hb dL_law_33 (by decide) (by decide) (by decide) (by decide) ?_
        exact law_1 CL q_1 ta_5 br_7 rr_17 ru_19 sc_20 e_21 pa_43 im_45 ou_46 ch_47 iq_48 t_6 q_49 n_53 n_54 n_55 n_56 n_57 n_58 n_59 n_60 n_61 n_62 n_63 n_64 n_65 n_66 n_67 n_68 n_69 n_70 n_71 n_72 (hP.sub [0, 1, 41] rfl) (hD.sub [0, 1, 41] rfl rfl) hS hl
      · skip
        by_cases c_77 : x_74 = 2
        · skip
          subst c_77
          refine lv_tableIn (off := 237) (tgt := 270) hx hb dL_law_33 (by decide) (by decide) (by decide) (by decide) ?_
          exact law_2 CL q_1 ta_5 br_7 rr_17 ru_19 sc_20 e_21 pa_43 im_45 ou_46 ch_47 iq_48 t_6 b_8 b_9 b_10 b_11 b_12 b_13 b_14 b_15 b_16 q_49 n_53 n_54 n_55 n_56 n_57 n_58 n_59 n_60 n_61 n_62 n_63 n_64 n_65 n_66 n_67 n_68 n_69 n_70 n_71 n_72 (hP.sub [0, 1, 3, 4, 5, 6, 7, 8, 9, 10, 11, 12, 41, 43, 45] rfl) (hD.sub [0, 1, 3, 4, 5, 6, 7, 8, 9, 10, 11, 12, 41, 43, 45] rfl rfl) hS hl
        · skip
          by_cases c_78 : x_74 = 3
          · skip
            subst c_78
            refine lv_tableIn (off := 250) (tgt := 283) hx hb dL_law_33 (by decide) (by decide) (by decide) (by decide) ?_
            exact law_3 CL q_1 ta_5 br_7 rr_17 ru_19 sc_20 e_21 pa_43 im_45 ou_46 ch_47 iq_48 t_6 r_18 q_49 n_53 n_54 n_55 n_56 n_57 n_58 n_59 n_60 n_61 n_62 n_63 n_64 n_65 n_66 n_67 n_68 n_69 n_70 n_71 n_72 (hP.sub [0, 1, 13, 14, 15, 41, 43, 44] rfl) (hD.sub [0, 1, 13, 14, 15, 41, 43, 44] rfl rfl) hS hl
          · skip
            by_cases c_79 : x_74 = 4
            · skip
              subst c_79
              refine lv_tableIn (off := 263) (tgt := 296) hx hb dL_law_33 (by decide) (by decide) (by decide) (by decide) ?_
              exact law_4 CL q_1 ta_5 br_7 rr_17 ru_19 sc_20 e_21 pa_43 im_45 ou_46 ch_47 iq_48 f_30 g_39 q_49 n_53 n_54 n_55 n_56 n_57 n_58 n_59 n_60 n_61 n_62 n_63 n_64 n_65 n_66 n_67 n_68 n_69 n_70 n_71 n_72 (hP.sub [0, 16, 41] rfl) (hD.sub [0, 16, 41] rfl rfl) hS hl
            · skip
              by_cases c_80 : x_74 = 5
              · skip
                subst c_80
                refine lv_tableIn (off := 286) (tgt := 319) hx hb dL_law_33 (by decide) (by decide) (by decide) (by decide) ?_
                exact law_5 CL q_1 ta_5 br_7 rr_17 ru_19 sc_20 e_21 pa_43 im_45 ou_46 ch_47 iq_48 e_22 e_23 e_24 e_25 e_26 e_27 e_28 e_29 q_49 n_53 n_54 n_55 n_56 n_57 n_58 n_59 n_60 n_61 n_62 n_63 n_64 n_65 n_66 n_67 n_68 n_69 n_70 n_71 n_72 (hP.sub [0, 17, 41, 46] rfl) (hD.sub [0, 17, 41, 46] rfl rfl) hS hl
              · skip
                by_cases c_81 : x_74 = 6
                · skip
                  subst c_81
                  refine lv_tableIn (off := 319) (tgt := 352) hx hb dL_law_33 (by decide) (by decide) (by decide) (by decide) ?_
                  exact law_6 CL q_1 ta_5 br_7 rr_17 ru_19 sc_20 e_21 pa_43 im_45 ou_46 ch_47 iq_48 e_22 e_23 e_24 e_25 e_26 e_27 e_28 e_29 q_49 n_53 n_54 n_55 n_56 n_57 n_58 n_59 n_60 n_61 n_62 n_63 n_64 n_65 n_66 n_67 n_68 n_69 n_70 n_71 n_72 (hP.sub [0, 17, 41, 46] rfl) (hD.sub [0, 17, 41, 46] rfl rfl) hS hl
                · skip
                  by_cases c_82 : x_74 = 7
                  · skip
                    subst c_82
                    refine lv_tableIn (off := 352) (tgt := 385) hx hb dL_law_33 (by decide) (by decide) (by decide) (by decide) ?_
                    exact law_7 CL q_1 ta_5 br_7 rr_17 ru_19 sc_20 e_21 pa_43 im_45 ou_46 ch_47 iq_48 e_22 e_23 e_24 e_25 e_26 e_27 e_28 e_29 q_49 n_53 n_54 n_55 n_56 n_57 n_58 n_59 n_60 n_61 n_62 n_63 n_64 n_65 n_66 n_67 n_68 n_69 n_70 n_71 n_72 (hP.sub [0, 17, 41, 46] rfl) (hD.sub [0, 17, 41, 46] rfl rfl) hS hl
                  · skip
                    by_cases c_83 : x_74 = 8
                    · skip
                      subst c_83
                      refine lv_tableIn (off := 365) (tgt := 398) hx hb dL_law_33 (by decide) (by decide) (by decide) (by decide) ?_
                      exact law_8 CL q_1 ta_5 br_7 rr_17 ru_19 sc_20 e_21 pa_43 im_45 ou_46 ch_47 iq_48 e_22 e_23 e_24 e_25 e_26 e_27 e_28 e_29 q_49 n_53 n_54 n_55 n_56 n_57 n_58 n_59 n_60 n_61 n_62 n_63 n_64 n_65 n_66 n_67 n_68 n_69 n_70 n_71 n_72 (hP.sub [0, 17, 41, 46] rfl) (hD.sub [0, 17, 41, 46] rfl rfl) hS hl
                    · skip
                      by_cases c_84 : x_74 = 9
                      · skip
                        subst c_84
                        refine lv_tableIn (off := 388) (tgt := 421) hx hb dL_law_33 (by decide) (by decide) (by decide) (by decide) ?_
                        exact law_9 CL q_1 ta_5 br_7 rr_17 ru_19 sc_20 e_21 pa_43 im_45 ou_46 ch_47 iq_48 e_22 e_23 e_24 e_25 e_26 e_27 e_28 e_29 q_49 n_53 n_54 n_55 n_56 n_57 n_58 n_59 n_60 n_61 n_62 n_63 n_64 n_65 n_66 n_67 n_68 n_69 n_70 n_71 n_72 (hP.sub [0, 17, 41, 46] rfl) (hD.sub [0, 17, 41, 46] rfl rfl) hS hl
                      · skip
                        by_cases c_85 : x_74 = 10
                        · skip
                          subst c_85
                          refine lv_tableIn (off := 421) (tgt := 454) hx hb dL_law_33 (by decide) (by decide) (by decide) (by decide) ?_
                          exact law_10 CL q_1 ta_5 br_7 rr_17 ru_19 sc_20 e_21 pa_43 im_45 ou_46 ch_47 iq_48 e_22 e_23 e_24 e_25 e_26 e_27 e_28 e_29 q_49 n_53 n_54 n_55 n_56 n_57 n_58 n_59 n_60 n_61 n_62 n_63 n_64 n_65 n_66 n_67 n_68 n_69 n_70 n_71 n_72 (hP.sub [0, 17, 41, 46] rfl) (hD.sub [0, 17, 41, 46] rfl rfl) hS hl
                        · skip
                          by_cases c_86 : x_74 = 11
                          · skip
                            subst c_86
                            refine lv_tableIn (off := 454) (tgt := 487) hx hb dL_law_33 (by decide) (by decide) (by decide) (by decide) ?_
                            exact law_11 CL q_1 ta_5 br_7 rr_17 ru_19 sc_20 e_21 pa_43 im_45 ou_46 ch_47 iq_48 e_22 e_23 e_24 e_25 e_26 e_27 e_28 e_29 q_49 n_53 n_54 n_55 n_56 n_57 n_58 n_59 n_60 n_61 n_62 n_63 n_64 n_65 n_66 n_67 n_68 n_69 n_70 n_71 n_72 (hP.sub [0, 17, 41, 46] rfl) (hD.sub [0, 17, 41, 46] rfl rfl) hS hl
                          · skip
                            by_cases c_87 : x_74 = 12
                            · skip
                              subst c_87
                              refine lv_tableIn (off := 487) (tgt := 520) hx hb dL_law_33 (by decide) (by decide) (by decide) (by decide) ?_
                              exact law_12 CL q_1 ta_5 br_7 rr_17 ru_19 sc_20 e_21 pa_43 im_45 ou_46 ch_47 iq_48 pq_44 q_49 n_53 n_54 n_55 n_56 n_57 n_58 n_59 n_60 n_61 n_62 n_63 n_64 n_65 n_66 n_67 n_68 n_69 n_70 n_71 n_72 (hP.sub [0, 39, 41] rfl) (hD.sub [0, 39, 41] rfl rfl) hS hl
                            · skip
                              by_cases c_88 : x_74 = 13
                              · skip
                                subst c_88
                                refine lv_tableIn (off := 500) (tgt := 533) hx hb dL_law_33 (by decide) (by decide) (by decide) (by decide) ?_
                                exact law_13 CL q_1 ta_5 br_7 rr_17 ru_19 sc_20 e_21 pa_43 im_45 ou_46 ch_47 iq_48 e_22 e_23 e_24 e_25 e_26 e_27 e_28 e_29 q_49 n_53 n_54 n_55 n_56 n_57 n_58 n_59 n_60 n_61 n_62 n_63 n_64 n_65 n_66 n_67 n_68 n_69 n_70 n_71 n_72 (hP.sub [0, 17, 41, 46] rfl) (hD.sub [0, 17, 41, 46] rfl rfl) hS hl
                              · skip
                                by_cases c_89 : x_74 = 14
                                · skip
                                  subst c_89
                                  refine lv_tableIn (off := 543) (tgt := 576) hx hb dL_law_33 (by decide) (by decide) (by decide) (by decide) ?_
                                  exact law_14 CL q_1 ta_5 br_7 rr_17 ru_19 sc_20 e_21 pa_43 im_45 ou_46 ch_47 iq_48 e_22 e_23 e_24 e_25 e_26 e_27 e_28 e_29 q_49 n_53 n_54 n_55 n_56 n_57 n_58 n_59 n_60 n_61 n_62 n_63 n_64 n_65 n_66 n_67 n_68 n_69 n_70 n_71 n_72 (hP.sub [0, 17, 41, 46] rfl) (hD.sub [0, 17, 41, 46] rfl rfl) hS hl
                                · skip
                                  by_cases c_90 : x_74 = 15
                                  · skip
                                    subst c_90
                                    refine lv_tableIn (off := 566) (tgt := 599) hx hb dL_law_33 (by decide) (by decide) (by decide) (by decide) ?_
                                    exact law_15 CL q_1 ta_5 br_7 rr_17 ru_19 sc_20 e_21 pa_43 im_45 ou_46 ch_47 iq_48 e_22 e_23 e_24 e_25 e_26 e_27 e_28 e_29 q_49 n_53 n_54 n_55 n_56 n_57 n_58 n_59 n_60 n_61 n_62 n_63 n_64 n_65 n_66 n_67 n_68 n_69 n_70 n_71 n_72 (hP.sub [0, 17, 41, 46] rfl) (hD.sub [0, 17, 41, 46] rfl rfl) hS hl
                                  · skip
                                    by_cases c_91 : x_74 = 16
                                    · skip
                                      subst c_91
                                      refine lv_tableIn (off := 579) (tgt := 612) hx hb dL_law_33 (by decide) (by decide) (by decide) (by decide) ?_
                                      exact law_16 CL q_1 ta_5 br_7 rr_17 ru_19 sc_20 e_21 pa_43 im_45 ou_46 ch_47 iq_48 e_22 e_23 e_24 e_25 e_26 e_27 e_28 e_29 q_49 n_53 n_54 n_55 n_56 n_57 n_58 n_59 n_60 n_61 n_62 n_63 n_64 n_65 n_66 n_67 n_68 n_69 n_70 n_71 n_72 (hP.sub [0, 17, 41, 46] rfl) (hD.sub [0, 17, 41, 46] rfl rfl) hS hl
                                    · skip
                                      by_cases c_92 : x_74 = 17
                                      · skip
                                        subst c_92
                                        refine lv_tableIn (off := 612) (tgt := 645) hx hb dL_law_33 (by decide) (by decide) (by decide) (by decide) ?_
                                        exact law_17 CL q_1 ta_5 br_7 rr_17 ru_19 sc_20 e_21 pa_43 im_45 ou_46 ch_47 iq_48 e_22 e_23 e_24 e_25 e_26 e_27 e_28 e_29 q_49 n_53 n_54 n_55 n_56 n_57 n_58 n_59 n_60 n_61 n_62 n_63 n_64 n_65 n_66 n_67 n_68 n_69 n_70 n_71 n_72 (hP.sub [0, 17, 41, 46] rfl) (hD.sub [0, 17, 41, 46] rfl rfl) hS hl
                                      · skip
                                        by_cases c_93 : x_74 = 18
                                        · skip
                                          subst c_93
                                          refine lv_tableIn (off := 645) (tgt := 678) hx hb dL_law_33 (by decide) (by decide) (by decide) (by decide) ?_
                                          exact law_18 CL q_1 ta_5 br_7 rr_17 ru_19 sc_20 e_21 pa_43 im_45 ou_46 ch_47 iq_48 e_22 e_23 e_24 e_25 e_26 e_27 e_28 e_29 q_49 n_53 n_54 n_55 n_56 n_57 n_58 n_59 n_60 n_61 n_62 n_63 n_64 n_65 n_66 n_67 n_68 n_69 n_70 n_71 n_72 (hP.sub [0, 17, 41, 46] rfl) (hD.sub [0, 17, 41, 46] rfl rfl) hS hl
                                        · skip
                                          by_cases c_94 : x_74 = 19
                                          · skip
                                            subst c_94
                                            refine lv_tableIn (off := 678) (tgt := 711) hx hb dL_law_33 (by decide) (by decide) (by decide) (by decide) ?_
                                            exact law_19 CL q_1 ta_5 br_7 rr_17 ru_19 sc_20 e_21 pa_43 im_45 ou_46 ch_47 iq_48 e_22 e_23 e_24 e_25 e_26 e_27 e_28 e_29 q_49 n_53 n_54 n_55 n_56 n_57 n_58 n_59 n_60 n_61 n_62 n_63 n_64 n_65 n_66 n_67 n_68 n_69 n_70 n_71 n_72 (hP.sub [0, 17, 41, 46] rfl) (hD.sub [0, 17, 41, 46] rfl rfl) hS hl
                                          · skip
                                            by_cases c_95 : x_74 = 20
                                            · skip
                                              subst c_95
                                              refine lv_tableIn (off := 711) (tgt := 744) hx hb dL_law_33 (by decide) (by decide) (by decide) (by decide) ?_
                                              exact law_20 CL q_1 ta_5 br_7 rr_17 ru_19 sc_20 e_21 pa_43 im_45 ou_46 ch_47 iq_48 e_22 e_23 e_24 e_25 e_26 e_27 e_28 e_29 q_49 n_53 n_54 n_55 n_56 n_57 n_58 n_59 n_60 n_61 n_62 n_63 n_64 n_65 n_66 n_67 n_68 n_69 n_70 n_71 n_72 (hP.sub [0, 17, 41, 46] rfl) (hD.sub [0, 17, 41, 46] rfl rfl) hS hl
                                            · skip
                                              by_cases c_96 : x_74 = 21
                                              · skip
                                                subst c_96
                                                refine lv_tableIn (off := 744) (tgt := 777) hx hb dL_law_33 (by decide) (by decide) (by decide) (by decide) ?_
                                                exact law_21 CL q_1 ta_5 br_7 rr_17 ru_19 sc_20 e_21 pa_43 im_45 ou_46 ch_47 iq_48 e_22 e_23 e_24 e_25 e_26 e_27 e_28 e_29 q_49 n_53 n_54 n_55 n_56 n_57 n_58 n_59 n_60 n_61 n_62 n_63 n_64 n_65 n_66 n_67 n_68 n_69 n_70 n_71 n_72 (hP.sub [0, 17, 41, 46] rfl) (hD.sub [0, 17, 41, 46] rfl rfl) hS hl
                                              · skip
                                                by_cases c_97 : x_74 = 22
                                                · skip
                                                  subst c_97
                                                  refine lv_tableIn (off := 777) (tgt := 810) hx hb dL_law_33 (by decide) (by decide) (by decide) (by decide) ?_
                                                  exact law_22 CL q_1 ta_5 br_7 rr_17 ru_19 sc_20 e_21 pa_43 im_45 ou_46 ch_47 iq_48 e_22 e_23 e_24 e_25 e_26 e_27 e_28 e_29 q_49 n_53 n_54 n_55 n_56 n_57 n_58 n_59 n_60 n_61 n_62 n_63 n_64 n_65 n_66 n_67 n_68 n_69 n_70 n_71 n_72 (hP.sub [0, 17, 41, 46] rfl) (hD.sub [0, 17, 41, 46] rfl rfl) hS hl
                                                · skip
                                                  by_cases c_98 : x_74 = 23
                                                  · skip
                                                    subst c_98
                                                    refine lv_tableIn (off := 810) (tgt := 843) hx hb dL_law_33 (by decide) (by decide) (by decide) (by decide) ?_
                                                    exact law_23 CL q_1 ta_5 br_7 rr_17 ru_19 sc_20 e_21 pa_43 im_45 ou_46 ch_47 iq_48 e_22 e_23 e_24 e_25 e_26 e_27 e_28 e_29 q_49 n_53 n_54 n_55 n_56 n_57 n_58 n_59 n_60 n_61 n_62 n_63 n_64 n_65 n_66 n_67 n_68 n_69 n_70 n_71 n_72 (hP.sub [0, 17, 41, 46] rfl) (hD.sub [0, 17, 41, 46] rfl rfl) hS hl
                                                  · skip
                                                    by_cases c_99 : x_74 = 24
                                                    · skip
                                                      subst c_99
                                                      refine lv_tableIn (off := 863) (tgt := 896) hx hb dL_law_33 (by decide) (by decide) (by decide) (by decide) ?_
                                                      exact law_24 CL q_1 ta_5 br_7 rr_17 ru_19 sc_20 e_21 pa_43 im_45 ou_46 ch_47 iq_48 e_22 e_23 e_24 e_25 e_26 e_27 e_28 e_29 q_49 n_53 n_54 n_55 n_56 n_57 n_58 n_59 n_60 n_61 n_62 n_63 n_64 n_65 n_66 n_67 n_68 n_69 n_70 n_71 n_72 (hP.sub [0, 17, 41, 46] rfl) (hD.sub [0, 17, 41, 46] rfl rfl) hS hl
                                                    · skip
                                                      by_cases c_100 : x_74 = 25
                                                      · skip
                                                        subst c_100
                                                        refine lv_tableIn (off := 886) (tgt := 919) hx hb dL_law_33 (by decide) (by decide) (by decide) (by decide) ?_
                                                        exact law_25 CL q_1 ta_5 br_7 rr_17 ru_19 sc_20 e_21 pa_43 im_45 ou_46 ch_47 iq_48 e_22 e_23 e_24 e_25 e_26 e_27 e_28 e_29 q_49 n_53 n_54 n_55 n_56 n_57 n_58 n_59 n_60 n_61 n_62 n_63 n_64 n_65 n_66 n_67 n_68 n_69 n_70 n_71 n_72 (hP.sub [0, 17, 41, 46] rfl) (hD.sub [0, 17, 41, 46] rfl rfl) hS hl
                                                      · skip
                                                        by_cases c_101 : x_74 = 26
                                                        · skip
                                                          subst c_101
                                                          refine lv_tableIn (off := 919) (tgt := 952) hx hb dL_law_33 (by decide) (by decide) (by decide) (by decide) ?_
                                                          exact law_26 CL q_1 ta_5 br_7 rr_17 ru_19 sc_20 e_21 pa_43 im_45 ou_46 ch_47 iq_48 f_30 g_39 e_22 e_23 e_24 e_25 e_26 e_27 e_28 e_29 g_40 g_41 g_42 q_49 n_53 n_54 n_55 n_56 n_57 n_58 n_59 n_60 n_61 n_62 n_63 n_64 n_65 n_66 n_67 n_68 n_69 n_70 n_71 n_72 (hP.sub [0, 16, 17, 35, 41, 46] rfl) (hD.sub [0, 16, 17, 35, 41, 46] rfl rfl) hS hl
                                                        · skip
                                                          by_cases c_102 : x_74 = 27
                                                          · skip
                                                            subst c_102
                                                            refine lv_tableIn (off := 962) (tgt := 995) hx hb dL_law_33 (by decide) (by decide) (by decide) (by decide) ?_
                                                            exact law_27 CL q_1 ta_5 br_7 rr_17 ru_19 sc_20 e_21 pa_43 im_45 ou_46 ch_47 iq_48 e_22 e_23 e_24 e_25 e_26 e_27 e_28 e_29 q_49 n_53 n_54 n_55 n_56 n_57 n_58 n_59 n_60 n_61 n_62 n_63 n_64 n_65 n_66 n_67 n_68 n_69 n_70 n_71 n_72 (hP.sub [0, 17, 41, 46] rfl) (hD.sub [0, 17, 41, 46] rfl rfl) hS hl
                                                          · skip
                                                            by_cases c_103 : x_74 = 28
                                                            · skip
                                                              subst c_103
                                                              refine lv_tableIn (off := 985) (tgt := 1018) hx hb dL_law_33 (by decide) (by decide) (by decide) (by decide) ?_
                                                              exact law_28 CL q_1 ta_5 br_7 rr_17 ru_19 sc_20 e_21 pa_43 im_45 ou_46 ch_47 iq_48 e_22 e_23 e_24 e_25 e_26 e_27 e_28 e_29 q_49 n_53 n_54 n_55 n_56 n_57 n_58 n_59 n_60 n_61 n_62 n_63 n_64 n_65 n_66 n_67 n_68 n_69 n_70 n_71 n_72 (hP.sub [0, 17, 41, 46] rfl) (hD.sub [0, 17, 41, 46] rfl rfl) hS hl
                                                            · skip
                                                              by_cases c_104 : x_74 = 29
                                                              · skip
                                                                subst c_104
                                                                refine lv_tableIn (off := 1008) (tgt := 1041) hx hb dL_law_33 (by decide) (by decide) (by decide) (by decide) ?_
                                                                exact law_29 CL q_1 ta_5 br_7 rr_17 ru_19 sc_20 e_21 pa_43 im_45 ou_46 ch_47 iq_48 f_30 g_39 q_49 n_53 n_54 n_55 n_56 n_57 n_58 n_59 n_60 n_61 n_62 n_63 n_64 n_65 n_66 n_67 n_68 n_69 n_70 n_71 n_72 (hP.sub [0, 16, 41] rfl) (hD.sub [0, 16, 41] rfl rfl) hS hl
                                                              · skip
                                                                by_cases c_105 : x_74 = 30
                                                                · skip
                                                                  subst c_105
                                                                  refine lv_tableIn (off := 1031) (tgt := 1064) hx hb dL_law_33 (by decide) (by decide) (by decide) (by decide) ?_
                                                                  exact law_30 CL q_1 ta_5 br_7 rr_17 ru_19 sc_20 e_21 pa_43 im_45 ou_46 ch_47 iq_48 e_22 e_23 e_24 e_25 e_26 e_27 e_28 e_29 q_49 n_53 n_54 n_55 n_56 n_57 n_58 n_59 n_60 n_61 n_62 n_63 n_64 n_65 n_66 n_67 n_68 n_69 n_70 n_71 n_72 (hP.sub [0, 17, 41, 46] rfl) (hD.sub [0, 17, 41, 46] rfl rfl) hS hl
                                                                · skip
                                                                  by_cases c_106 : x_74 = 31
                                                                  · skip
                                                                    subst c_106
                                                                    refine lv_tableIn (off := 1084) (tgt := 1117) hx hb dL_law_33 (by decide) (by decide) (by decide) (by decide) ?_
                                                                    exact law_31 CL q_1 ta_5 br_7 rr_17 ru_19 sc_20 e_21 pa_43 im_45 ou_46 ch_47 iq_48 t_6 f_30 g_39 e_22 e_23 e_24 e_25 e_26 e_27 e_28 e_29 g_40 g_41 g_42 pq_44 q_49 n_53 n_54 n_55 n_56 n_57 n_58 n_59 n_60 n_61 n_62 n_63 n_64 n_65 n_66 n_67 n_68 n_69 n_70 n_71 n_72 (hP.sub [0, 1, 16, 17, 35, 39, 41, 46] rfl) (hD.sub [0, 1, 16, 17, 35, 39, 41, 46] rfl rfl) hS hl
                                                                  · skip
                                                                    by_cases c_107 : x_74 = 32
                                                                    · skip
                                                                      subst c_107
                                                                      refine lv_tableIn (off := 1107) (tgt := 1140) hx hb dL_law_33 (by decide) (by decide) (by decide) (by decide) ?_
                                                                      exact law_32 CL q_1 ta_5 br_7 rr_17 ru_19 sc_20 e_21 pa_43 im_45 ou_46 ch_47 iq_48 f_30 g_39 e_22 e_23 e_24 e_25 e_26 e_27 e_28 e_29 f_31 f_32 f_33 f_34 f_35 f_36 f_37 f_38 g_40 g_41 g_42 q_49 n_53 n_54 n_55 n_56 n_57 n_58 n_59 n_60 n_61 n_62 n_63 n_64 n_65 n_66 n_67 n_68 n_69 n_70 n_71 n_72 (hP.sub [0, 16, 17, 18, 19, 20, 21, 22, 23, 24, 25, 26, 27, 28, 29, 30, 31, 32, 33, 34, 35, 36, 37, 38, 40, 41, 46, 47, 48, 49, 50] rfl) (hD.sub [0, 16, 17, 18, 19, 20, 21, 22, 23, 24, 25, 26, 27, 28, 29, 30, 31, 32, 33, 34, 35, 36, 37, 38, 40, 41, 46, 47, 48, 49, 50] rfl rfl) hS hl
                                                                    · skip
                                                                      by_cases c_108 : x_74 = 33
                                                                      · skip
                                                                        subst c_108
                                                                        refine lv_tableIn (off := 1130) (tgt := 1163) hx hb dL_law_33 (by decide) (by decide) (by decide) (by decide) ?_
                                                                        exact law_33 CL q_1 ta_5 br_7 rr_17 ru_19 sc_20 e_21 pa_43 im_45 ou_46 ch_47 iq_48 q_49 n_53 n_54 n_55 n_56 n_57 n_58 n_59 n_60 n_61 n_62 n_63 n_64 n_65 n_66 n_67 n_68 n_69 n_70 n_71 n_72 (hP.sub [0, 40, 41, 50] rfl) (hD.sub [0, 40, 41, 50] rfl rfl) hS hl
                                                                      · skip
                                                                        have ho_109 : (x_74 : Int32).toInt < 0 ∨ 33 < (x_74 : Int32).toInt := by
                                                                          have z_1 : ¬ (x_74 : Int32).toInt = (0 : Int32).toInt := fun z => c_75 (Int32.toInt_inj.mp z)
                                                                          have z_2 : ¬ (x_74 : Int32).toInt = (1 : Int32).toInt := fun z => c_76 (Int32.toInt_inj.mp z)
                                                                          have z_3 : ¬ (x_74 : Int32).toInt = (2 : Int32).toInt := fun z => c_77 (Int32.toInt_inj.mp z)
                                                                          have z_4 : ¬ (x_74 : Int32).toInt = (3 : Int32).toInt := fun z => c_78 (Int32.toInt_inj.mp z)
                                                                          have z_5 : ¬ (x_74 : Int32).toInt = (4 : Int32).toInt := fun z => c_79 (Int32.toInt_inj.mp z)
                                                                          have z_6 : ¬ (x_74 : Int32).toInt = (5 : Int32).toInt := fun z => c_80 (Int32.toInt_inj.mp z)
                                                                          have z_7 : ¬ (x_74 : Int32).toInt = (6 : Int32).toInt := fun z => c_81 (Int32.toInt_inj.mp z)
                                                                          have z_8 : ¬ (x_74 : Int32).toInt = (7 : Int32).toInt := fun z => c_82 (Int32.toInt_inj.mp z)
                                                                          have z_9 : ¬ (x_74 : Int32).toInt = (8 : Int32).toInt := fun z => c_83 (Int32.toInt_inj.mp z)
                                                                          have z_10 : ¬ (x_74 : Int32).toInt = (9 : Int32).toInt := fun z => c_84 (Int32.toInt_inj.mp z)
                                                                          have z_11 : ¬ (x_74 : Int32).toInt = (10 : Int32).toInt := fun z => c_85 (Int32.toInt_inj.mp z)
                                                                          have z_12 : ¬ (x_74 : Int32).toInt = (11 : Int32).toInt := fun z => c_86 (Int32.toInt_inj.mp z)
                                                                          have z_13 : ¬ (x_74 : Int32).toInt = (12 : Int32).toInt := fun z => c_87 (Int32.toInt_inj.mp z)
                                                                          have z_14 : ¬ (x_74 : Int32).toInt = (13 : Int32).toInt := fun z => c_88 (Int32.toInt_inj.mp z)
                                                                          have z_15 : ¬ (x_74 : Int32).toInt = (14 : Int32).toInt := fun z => c_89 (Int32.toInt_inj.mp z)
                                                                          have z_16 : ¬ (x_74 : Int32).toInt = (15 : Int32).toInt := fun z => c_90 (Int32.toInt_inj.mp z)
                                                                          have z_17 : ¬ (x_74 : Int32).toInt = (16 : Int32).toInt := fun z => c_91 (Int32.toInt_inj.mp z)
                                                                          have z_18 : ¬ (x_74 : Int32).toInt = (17 : Int32).toInt := fun z => c_92 (Int32.toInt_inj.mp z)
                                                                          have z_19 : ¬ (x_74 : Int32).toInt = (18 : Int32).toInt := fun z => c_93 (Int32.toInt_inj.mp z)
                                                                          have z_20 : ¬ (x_74 : Int32).toInt = (19 : Int32).toInt := fun z => c_94 (Int32.toInt_inj.mp z)
                                                                          have z_21 : ¬ (x_74 : Int32).toInt = (20 : Int32).toInt := fun z => c_95 (Int32.toInt_inj.mp z)
                                                                          have z_22 : ¬ (x_74 : Int32).toInt = (21 : Int32).toInt := fun z => c_96 (Int32.toInt_inj.mp z)
                                                                          have z_23 : ¬ (x_74 : Int32).toInt = (22 : Int32).toInt := fun z => c_97 (Int32.toInt_inj.mp z)
                                                                          have z_24 : ¬ (x_74 : Int32).toInt = (23 : Int32).toInt := fun z => c_98 (Int32.toInt_inj.mp z)
                                                                          have z_25 : ¬ (x_74 : Int32).toInt = (24 : Int32).toInt := fun z => c_99 (Int32.toInt_inj.mp z)
                                                                          have z_26 : ¬ (x_74 : Int32).toInt = (25 : Int32).toInt := fun z => c_100 (Int32.toInt_inj.mp z)
                                                                          have z_27 : ¬ (x_74 : Int32).toInt = (26 : Int32).toInt := fun z => c_101 (Int32.toInt_inj.mp z)
                                                                          have z_28 : ¬ (x_74 : Int32).toInt = (27 : Int32).toInt := fun z => c_102 (Int32.toInt_inj.mp z)
                                                                          have z_29 : ¬ (x_74 : Int32).toInt = (28 : Int32).toInt := fun z => c_103 (Int32.toInt_inj.mp z)
                                                                          have z_30 : ¬ (x_74 : Int32).toInt = (29 : Int32).toInt := fun z => c_104 (Int32.toInt_inj.mp z)
                                                                          have z_31 : ¬ (x_74 : Int32).toInt = (30 : Int32).toInt := fun z => c_105 (Int32.toInt_inj.mp z)
                                                                          have z_32 : ¬ (x_74 : Int32).toInt = (31 : Int32).toInt := fun z => c_106 (Int32.toInt_inj.mp z)
                                                                          have z_33 : ¬ (x_74 : Int32).toInt = (32 : Int32).toInt := fun z => c_107 (Int32.toInt_inj.mp z)
                                                                          have z_34 : ¬ (x_74 : Int32).toInt = (33 : Int32).toInt := fun z => c_108 (Int32.toInt_inj.mp z)
                                                                          have y_0 : (0 : Int32).toInt = 0 := by decide
                                                                          have y_1 : (1 : Int32).toInt = 1 := by decide
                                                                          have y_2 : (2 : Int32).toInt = 2 := by decide
                                                                          have y_3 : (3 : Int32).toInt = 3 := by decide
                                                                          have y_4 : (4 : Int32).toInt = 4 := by decide
                                                                          have y_5 : (5 : Int32).toInt = 5 := by decide
                                                                          have y_6 : (6 : Int32).toInt = 6 := by decide
                                                                          have y_7 : (7 : Int32).toInt = 7 := by decide
                                                                          have y_8 : (8 : Int32).toInt = 8 := by decide
                                                                          have y_9 : (9 : Int32).toInt = 9 := by decide
                                                                          have y_10 : (10 : Int32).toInt = 10 := by decide
                                                                          have y_11 : (11 : Int32).toInt = 11 := by decide
                                                                          have y_12 : (12 : Int32).toInt = 12 := by decide
                                                                          have y_13 : (13 : Int32).toInt = 13 := by decide
                                                                          have y_14 : (14 : Int32).toInt = 14 := by decide
                                                                          have y_15 : (15 : Int32).toInt = 15 := by decide
                                                                          have y_16 : (16 : Int32).toInt = 16 := by decide
                                                                          have y_17 : (17 : Int32).toInt = 17 := by decide
                                                                          have y_18 : (18 : Int32).toInt = 18 := by decide
                                                                          have y_19 : (19 : Int32).toInt = 19 := by decide
                                                                          have y_20 : (20 : Int32).toInt = 20 := by decide
                                                                          have y_21 : (21 : Int32).toInt = 21 := by decide
                                                                          have y_22 : (22 : Int32).toInt = 22 := by decide
                                                                          have y_23 : (23 : Int32).toInt = 23 := by decide
                                                                          have y_24 : (24 : Int32).toInt = 24 := by decide
                                                                          have y_25 : (25 : Int32).toInt = 25 := by decide
                                                                          have y_26 : (26 : Int32).toInt = 26 := by decide
                                                                          have y_27 : (27 : Int32).toInt = 27 := by decide
                                                                          have y_28 : (28 : Int32).toInt = 28 := by decide
                                                                          have y_29 : (29 : Int32).toInt = 29 := by decide
                                                                          have y_30 : (30 : Int32).toInt = 30 := by decide
                                                                          have y_31 : (31 : Int32).toInt = 31 := by decide
                                                                          have y_32 : (32 : Int32).toInt = 32 := by decide
                                                                          have y_33 : (33 : Int32).toInt = 33 := by decide
                                                                          omega
                                                                        refine lv_tableOut (tgt := 1186) hx hb dL_law_33 ho_109 (by decide) ?_
                                                                        exact law_tail CL (Nat.le_of_ble_eq_true rfl) (Nat.le_of_ble_eq_true rfl) hS hl
