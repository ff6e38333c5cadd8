set_option maxRecDepth 100000 in
theorem cu_dX9_goThroughDay_r (l : Launch) (D : va_G) (tc : Nat → ClassId) (sk : (Nat → Nat) × (Nat → Nat)) (Aa_0 : Nat) (Aa_1 : Nat) (Aa_2 : Nat) (Aa_3 : Nat) (Aa_4 : Nat) (Aa_5 : Nat) (Aa_6 : Nat) (Aa_7 : Nat) (Aa_8 : Nat) (Av_0 : Int32) (Av_1 : Int32) (Av_2 : Int32) (Av_3 : Int32) (Av_4 : Int32) (Av_5 : Int32) (Af_1 : Nat → Int32) (Af_2 : Nat → Int32) (Af_3 : Nat → Int32) (Af_4 : Nat → Int32) (Af_5 : Nat → Int32) (Af_6 : Nat → Int32) (Af_7 : Nat → Int32) (Af_8 : Nat → Int32) (Ra_0 : Nat) (Ra_1 : Nat) (Ra_2 : Nat) (Rf_1 : Nat → Int32) (Rg_2 : Nat → Int64) (Rn : Nat) (hRn : Rn ≤ 400) : Ct l yX9_goThroughDay cX9_goThroughDay 8 (some .int) { frames := 4, cells := 0, slots := 0, locals := 89 } D tc sk [.ref Aa_0, .ref Ra_0] [(Aa_0, .inr (9, [.int Av_0, .int Av_1, .int Av_2, .int Av_3, .int Av_4, .int Av_5, .ref Aa_1, .ref Aa_2, .ref Aa_3, .ref Aa_4, .ref Aa_5, .ref Aa_6, .ref Aa_7, .ref Aa_8])), (Aa_1, .inl (tc 0, 10, .inl Af_1)), (Aa_2, .inl (tc 0, 10, .inl Af_2)), (Aa_3, .inl (tc 0, 6, .inl Af_3)), (Aa_4, .inl (tc 0, 6, .inl Af_4)), (Aa_5, .inl (tc 0, 6, .inl Af_5)), (Aa_6, .inl (tc 0, 6, .inl Af_6)), (Aa_7, .inl (tc 0, 6, .inl Af_7)), (Aa_8, .inl (tc 0, 6, .inl Af_8)), (Ra_0, .inr (6, [.ref Ra_1, .ref Ra_2])), (Ra_1, .inl (tc 0, Rn, .inl Rf_1)), (Ra_2, .inl (tc 1, 64, .inr (.inl Rg_2)))] (fun (v : Option Value) (u : (Int32) × (Int32) × (Int32) × (Nat → Int32) × (Nat → Int32) × (Nat → Int32) × (Nat → Int32) × (Nat → Int64)) => match u with | (oo0x1, oo0x2, oo0x3, oo0x4, oo0x5, oo0x6, oo0x7, oo0x8) => ∃ r : Int32, v = some (.int r) ∧ ((True) ∧ (r, oo0x1, oo0x2, oo0x3, oo0x4, oo0x5, oo0x6, oo0x7, oo0x8) = (dX9_goThroughDay_r Af_1 Af_2 Af_3 Af_4 Af_5 Af_6 Af_7 Af_8 Av_0 Av_1 Av_2 Av_3 Av_4 Av_5 Rf_1 Rg_2 Rn))) (fun (u : (Int32) × (Int32) × (Int32) × (Nat → Int32) × (Nat → Int32) × (Nat → Int32) × (Nat → Int32) × (Nat → Int64)) => match u with | (oo0x1, oo0x2, oo0x3, oo0x4, oo0x5, oo0x6, oo0x7, oo0x8) => [(Aa_0, .inr (9, [.int oo0x1, .int Av_1, .int Av_2, .int Av_3, .int oo0x2, .int oo0x3, .ref Aa_1, .ref Aa_2, .ref Aa_3, .ref Aa_4, .ref Aa_5, .ref Aa_6, .ref Aa_7, .ref Aa_8])), (Aa_1, .inl (tc 0, 10, .inl Af_1)), (Aa_2, .inl (tc 0, 10, .inl Af_2)), (Aa_3, .inl (tc 0, 6, .inl oo0x4)), (Aa_4, .inl (tc 0, 6, .inl Af_4)), (Aa_5, .inl (tc 0, 6, .inl Af_5)), (Aa_6, .inl (tc 0, 6, .inl oo0x5)), (Aa_7, .inl (tc 0, 6, .inl oo0x6)), (Aa_8, .inl (tc 0, 6, .inl oo0x7)), (Ra_0, .inr (6, [.ref Ra_1, .ref Ra_2])), (Ra_1, .inl (tc 0, Rn, .inl Rf_1)), (Ra_2, .inl (tc 1, 64, .inr (.inl oo0x8)))]) 0 0 :=
  ct_dX9_goThroughDay_r l D tc sk (fun k => ([Aa_0, Aa_1, Aa_2, Aa_3, Aa_4, Aa_5, Aa_6, Aa_7, Aa_8] : List (Nat)).getD k 0) (fun k => ([Av_0, Av_1, Av_2, Av_3, Av_4, Av_5] : List (Int32)).getD k 0) (fun k => ([(fun _ => 0), Af_1, Af_2, Af_3, Af_4, Af_5, Af_6, Af_7, Af_8] : List (Nat → Int32)).getD k (fun _ => 0)) (fun k => ([Ra_0, Ra_1, Ra_2] : List (Nat)).getD k 0) (fun k => ([(fun _ => 0), Rf_1] : List (Nat → Int32)).getD k (fun _ => 0)) (fun k => ([(fun _ => 0), (fun _ => 0), Rg_2] : List (Nat → Int64)).getD k (fun _ => 0)) Rn hRn
theorem full_r {v0 v1 v2 v3 v4 v5 fo top : Int32} {f1 f2 f3 f4 f5 f6 f7 f8 s rf sg cl cs : Nat → Int32} {g8 g9 hd0 : Nat → Int64} {rn : Nat} {R : RuA} (hL : CdE rf (ru_fl R)) (hn : (ru_fl R).length = rn) (h4 : rn ≤ 400) (hfo : 0 ≤ fo.toInt ∧ fo.toInt < 6) (hR : RwR sg cl cs fo.toInt.toNat R) (hk : ru_ok R) (h : ShR v0 v1 v2 v3 v4 v5 f1 f2 f3 f4 f5 f6 f7 f8 s) (g : Gs s) (hd : (s 10).toInt ≤ 60) : ∃ who sh so c3 a6 a7 a8 hd1 top' h8 h9 s', dX9_goThroughDay_r f1 f2 f3 f4 f5 f6 f7 f8 v0 v1 v2 v3 v4 v5 rf hd0 rn = (who, sh, v4 + 1, so, c3, a6, a7, a8, hd1) ∧ dX12_passes sg cl cs s g8 g9 top fo 0 = (who, top', h8, h9, s') ∧ ShR sh v1 v2 v3 (v4 + 1) so f1 f2 c3 f4 f5 a6 a7 a8 s' ∧ Gs s' ∧ (s' 10).toInt = (s 10).toInt + 1 ∧ TlS s s' := by
  obtain ⟨ec, ek, k0, k2, k10⟩ := clk g
  have g3 := g.1.2.2.1
  have hst := h.still g
  have hck : dX9_clockOn v2 v4 = dX12_clock s := by rw [h.1.2.2.1, h.1.2.2.2.2.1]; exact ek
  have hpo : f2 (dX9_clockOn v2 v4).toNatClampNeg = s (46 + (dX12_clock s).toInt.toNat) := by
    rw [hck]
    exact (h.2.1 (dX12_clock s).toInt.toNat (by omega)).2
  obtain ⟨w, a0, a5, a3, a6, a8, a7, z, hd1, eC, hS, gS, ew, hl⟩ := day_r hL hn h4 hfo hR hk ((6 - (0 : Int32).toInt).toNat + 1) 0 0 v0 v5 top f3 f6 f8 f7 s hd0 g8 g9 h g StL.rf rfl (by decide) (by rw [t_0]; omega) (by rw [t_0]; omega)
  generalize eP : dX12_passes_l4 sg cl cs fo 0 ((6 - (0 : Int32).toInt).toNat + 1) 0 top g8 g9 s 0 = P at hS gS ew hl
  have hw := weath_all gS hS.1.2.2.2.1 (fun k hk => (hS.2.2 k hk).1)
  obtain ⟨s', sh, e1, e2, hF, hs0, hs99⟩ := fin_r gS hw
  have e10 : P.2.2.2.2.1 10 = s 10 := hl 10 (by omega)
  have hg := gS.fin (by rw [e10]; exact hd) hw hF ⟨hs0, hs99⟩
  refine ⟨w, sh, a5, _, a6, a7, a8, hd1, P.2.1, P.2.2.1, P.2.2.2.1, s', ?_, ?_, hS.fin gS hw hF, hg.1, by rw [hg.2, e10], hl.tl hw hF⟩
  · unfold dX9_goThroughDay_r
    rw [hpo, hck, hasC (n := v2) ⟨k0, by rw [h.1.2.2.1]; exact k2⟩ k10, if_neg one_ne, hst, eC]
    have es : s (36 + (dX12_clock s).toInt.toNat) = P.2.2.2.2.1 (36 + (dX12_clock P.2.2.2.2.1).toInt.toNat) := by rw [hl.clock, hl _ (by omega)]
    rw [es, show v4 = P.2.2.2.2.1 10 by rw [e10]; exact h.1.2.2.2.2.1]
    by_cases q : (P.2.2.2.2.1 10 - P.2.2.2.2.1 10 / 7 * 7) = 6
    · rw [if_pos q, ← e2]
      unfold fnC
      rw [if_pos q, ← hS.1.1, ← hS.1.2.1]
    · rw [if_neg q, ← e2]
      unfold fnC
      rw [if_neg q, ← hS.1.1]
  · rw [passes_is eP, e1, ew]
def dX2_whoOn (Yf_2 : Nat → Int32) (x1 : Int32) (x2 : Int32) : Int32 := (if ((x1 * (61 : Int32)) + x2) < (0 : Int32) then (0 : Int32) else (if (427 : Int32) ≤ ((x1 * (61 : Int32)) + x2) then (0 : Int32) else (Yf_2 (((x1 * (61 : Int32)) + x2)).toNatClampNeg)))
set_option maxHeartbeats 4000000 in
set_option maxRecDepth 100000 in
theorem ct_dX2_whoOn (l : Launch) (D : va_G) (tc : Nat → ClassId) (sk : (Nat → Nat) × (Nat → Nat)) (Ya : Nat → Nat) (Yv : Nat → Int32) (Yf : Nat → Nat → Int32) (Wa : Nat → Nat) (Wv : Nat → Int32) (Wf : Nat → Nat → Int32) (x1 : Int32) (x2 : Int32)  : Ct l yX2_whoOn cX2_whoOn 4 (some .int) { frames := 0, cells := 0, slots := 0, locals := 0 } D tc sk [.ref (Ya 0), .int x1, .int x2] [((Ya 0), .inr (2, [.ref (Wa 0), .ref (Ya 2), .ref (Ya 3), .int (Yv 0)])), ((Ya 2), .inl (tc 0, 427, .inl (Yf 2))), ((Ya 3), .inl (tc 3, 7, .inl (Yf 3))), ((Wa 0), .inr (9, [.int (Wv 0), .int (Wv 1), .int (Wv 2), .int (Wv 3), .int (Wv 4), .int (Wv 5), .ref (Wa 1), .ref (Wa 2), .ref (Wa 3), .ref (Wa 4), .ref (Wa 5), .ref (Wa 6), .ref (Wa 7), .ref (Wa 8)])), ((Wa 1), .inl (tc 0, 10, .inl (Wf 1))), ((Wa 2), .inl (tc 0, 10, .inl (Wf 2))), ((Wa 3), .inl (tc 0, 6, .inl (Wf 3))), ((Wa 4), .inl (tc 0, 6, .inl (Wf 4))), ((Wa 5), .inl (tc 0, 6, .inl (Wf 5))), ((Wa 6), .inl (tc 0, 6, .inl (Wf 6))), ((Wa 7), .inl (tc 0, 6, .inl (Wf 7))), ((Wa 8), .inl (tc 0, 6, .inl (Wf 8)))] (fun (v : Option Value) (_ : Unit) => ∃ r : Int32, v = some (.int r) ∧ ((True) ∧ r = (dX2_whoOn (Yf 2) x1 x2))) (fun (_ : Unit) => [((Ya 0), .inr (2, [.ref (Wa 0), .ref (Ya 2), .ref (Ya 3), .int (Yv 0)])), ((Ya 2), .inl (tc 0, 427, .inl (Yf 2))), ((Ya 3), .inl (tc 3, 7, .inl (Yf 3))), ((Wa 0), .inr (9, [.int (Wv 0), .int (Wv 1), .int (Wv 2), .int (Wv 3), .int (Wv 4), .int (Wv 5), .ref (Wa 1), .ref (Wa 2), .ref (Wa 3), .ref (Wa 4), .ref (Wa 5), .ref (Wa 6), .ref (Wa 7), .ref (Wa 8)])), ((Wa 1), .inl (tc 0, 10, .inl (Wf 1))), ((Wa 2), .inl (tc 0, 10, .inl (Wf 2))), ((Wa 3), .inl (tc 0, 6, .inl (Wf 3))), ((Wa 4), .inl (tc 0, 6, .inl (Wf 4))), ((Wa 5), .inl (tc 0, 6, .inl (Wf 5))), ((Wa 6), .inl (tc 0, 6, .inl (Wf 6))), ((Wa 7), .inl (tc 0, 6, .inl (Wf 7))), ((Wa 8), .inl (tc 0, 6, .inl (Wf 8)))]) 0 0 := by
  refine Ct.start (by decide) (Nat.le_of_ble_eq_true rfl) (fun p e s m below meth c A ls hx hb hr hlk hin hml hown hts hK hX hP hD hA hl hS => ?_)
  have hl : lv_has ls 4 [(0, .ref (Ya 0)), (1, .int x1), (2, .int x2)] := hl
  refine lv_iload_n hx hb dX2_whoOn_0 rfl (lv_at hl 1 rfl) ?_
  refine lv_bipush (v := 61) hx hb dX2_whoOn_1 (by decide) ?_
  refine lv_imul hx hb dX2_whoOn_3 ?_
  refine lv_topi (fun x_1 ex_1 => ?_)
  refine lv_iload_n hx hb dX2_whoOn_4 rfl (lv_at hl 2 rfl) ?_
  refine lv_iadd hx hb dX2_whoOn_5 ?_
  refine lv_topi (fun x_2 ex_2 => ?_)
  refine lv_istore_n (lv' := [(3, .int x_2), (0, .ref (Ya 0)), (1, .int x1), (2, .int x2)]) hx hb dX2_whoOn_6 rfl hl (by decide) rfl (fun ls hl₀ => ?_)
  replace hl := hl₀
  clear hl₀
  refine lv_iload_n hx hb dX2_whoOn_7 rfl (lv_at hl 0 rfl) ?_
  refine lv_if_lt (tgt := 29) hx hb dX2_whoOn_8 (by decide) (fun c_3 => ?_) (fun c_3 => ?_)
  · skip
    refine lv_iconst (v := 0) hx hb dX2_whoOn_29 (by decide) ?_
    have hF_4 : (0 : Int32) = (dX2_whoOn (Yf 2) x1 x2) := by
      clear hP hD hS hl
      replace ex_1 := ex_1.symm; subst ex_1
      replace ex_2 := ex_2.symm; subst ex_2
      unfold dX2_whoOn
      rw [if_pos c_3]
      try rfl
    exact retI (v := 0) hx hb hr hlk (rfl) hP hD hS () ⟨_, rfl, ⟨trivial, hF_4⟩⟩ [0, 1, 2, 3, 4, 5, 6, 7, 8, 9, 10, 11] rfl rfl dX2_whoOn_30 (Nat.le_of_ble_eq_true rfl) (Nat.le_of_ble_eq_true rfl) rfl
  · skip
    refine lv_iload_n hx hb dX2_whoOn_11 rfl (lv_at hl 0 rfl) ?_
    refine lv_aload_n hx hb dX2_whoOn_12 rfl (lv_at hl 1 rfl) ?_
    refine gf_X2_18 hx hb hts hown hK hP 0 rfl rfl dX2_whoOn_13 ?_
    refine va_alen hx hb hK hP 1 0 rfl rfl (v := 427) rfl dX2_whoOn_16 ?_
    refine lv_icmp_ge (tgt := 29) hx hb dX2_whoOn_17 (by decide) (fun c_5 => ?_) (fun c_5 => ?_)
    · skip
      refine lv_iconst (v := 0) hx hb dX2_whoOn_29 (by decide) ?_
      have hF_6 : (0 : Int32) = (dX2_whoOn (Yf 2) x1 x2) := by
        clear hP hD hS hl
        replace ex_1 := ex_1.symm; subst ex_1
        replace ex_2 := ex_2.symm; subst ex_2
        unfold dX2_whoOn
        rw [if_neg c_3, if_pos c_5]
        try rfl
      exact retI (v := 0) hx hb hr hlk (rfl) hP hD hS () ⟨_, rfl, ⟨trivial, hF_6⟩⟩ [0, 1, 2, 3, 4, 5, 6, 7, 8, 9, 10, 11] rfl rfl dX2_whoOn_30 (Nat.le_of_ble_eq_true rfl) (Nat.le_of_ble_eq_true rfl) rfl
    · skip
      refine lv_aload_n hx hb dX2_whoOn_20 rfl (lv_at hl 1 rfl) ?_
      refine gf_X2_18 hx hb hts hown hK hP 0 rfl rfl dX2_whoOn_21 ?_
      refine lv_iload_n hx hb dX2_whoOn_24 rfl (lv_at hl 0 rfl) ?_
      have hi_7 : vp_in x_2 427 := by
        have z_1 := Int32.le_iff_toInt_le.mp (Int32.not_lt.mp c_3)
        have z_2 := Int32.lt_iff_toInt_lt.mp (Int32.not_le.mp c_5)
        have y_0 : (0 : Int32).toInt = 0 := by decide
        have y_427 : (427 : Int32).toInt = 427 := by decide
        refine vp_in_iff.mpr ⟨?_, ?_⟩ <;> omega
      refine va_iald hx hb hK hP 1 0 rfl rfl hi_7 dX2_whoOn_25 ?_
      refine lv_topi (fun x_8 ex_8 => ?_)
      refine lv_goto (tgt := 30) hx hb dX2_whoOn_26 (by decide) ?_
      have hF_9 : x_8 = (dX2_whoOn (Yf 2) x1 x2) := by
        clear hP hD hS hl
        replace ex_1 := ex_1.symm; subst ex_1
        replace ex_2 := ex_2.symm; subst ex_2
        replace ex_8 := ex_8.symm; subst ex_8
        unfold dX2_whoOn
        rw [if_neg c_3, if_neg c_5]
        try rfl
      exact retI (v := x_8) hx hb hr hlk (rfl) hP hD hS () ⟨_, rfl, ⟨trivial, hF_9⟩⟩ [0, 1, 2, 3, 4, 5, 6, 7, 8, 9, 10, 11] rfl rfl dX2_whoOn_30 (Nat.le_of_ble_eq_true rfl) (Nat.le_of_ble_eq_true rfl) rfl
set_option maxRecDepth 100000 in
theorem cu_dX2_whoOn (l : Launch) (D : va_G) (tc : Nat → ClassId) (sk : (Nat → Nat) × (Nat → Nat)) (Ya_0 : Nat) (Ya_2 : Nat) (Ya_3 : Nat) (Yv_0 : Int32) (Yf_2 : Nat → Int32) (Yf_3 : Nat → Int32) (Wa_0 : Nat) (Wa_1 : Nat) (Wa_2 : Nat) (Wa_3 : Nat) (Wa_4 : Nat) (Wa_5 : Nat) (Wa_6 : Nat) (Wa_7 : Nat) (Wa_8 : Nat) (Wv_0 : Int32) (Wv_1 : Int32) (Wv_2 : Int32) (Wv_3 : Int32) (Wv_4 : Int32) (Wv_5 : Int32) (Wf_1 : Nat → Int32) (Wf_2 : Nat → Int32) (Wf_3 : Nat → Int32) (Wf_4 : Nat → Int32) (Wf_5 : Nat → Int32) (Wf_6 : Nat → Int32) (Wf_7 : Nat → Int32) (Wf_8 : Nat → Int32) (x1 : Int32) (x2 : Int32)  : Ct l yX2_whoOn cX2_whoOn 4 (some .int) { frames := 0, cells := 0, slots := 0, locals := 0 } D tc sk [.ref Ya_0, .int x1, .int x2] [(Ya_0, .inr (2, [.ref Wa_0, .ref Ya_2, .ref Ya_3, .int Yv_0])), (Ya_2, .inl (tc 0, 427, .inl Yf_2)), (Ya_3, .inl (tc 3, 7, .inl Yf_3)), (Wa_0, .inr (9, [.int Wv_0, .int Wv_1, .int Wv_2, .int Wv_3, .int Wv_4, .int Wv_5, .ref Wa_1, .ref Wa_2, .ref Wa_3, .ref Wa_4, .ref Wa_5, .ref Wa_6, .ref Wa_7, .ref Wa_8])), (Wa_1, .inl (tc 0, 10, .inl Wf_1)), (Wa_2, .inl (tc 0, 10, .inl Wf_2)), (Wa_3, .inl (tc 0, 6, .inl Wf_3)), (Wa_4, .inl (tc 0, 6, .inl Wf_4)), (Wa_5, .inl (tc 0, 6, .inl Wf_5)), (Wa_6, .inl (tc 0, 6, .inl Wf_6)), (Wa_7, .inl (tc 0, 6, .inl Wf_7)), (Wa_8, .inl (tc 0, 6, .inl Wf_8))] (fun (v : Option Value) (_ : Unit) => ∃ r : Int32, v = some (.int r) ∧ ((True) ∧ r = (dX2_whoOn Yf_2 x1 x2))) (fun (_ : Unit) => [(Ya_0, .inr (2, [.ref Wa_0, .ref Ya_2, .ref Ya_3, .int Yv_0])), (Ya_2, .inl (tc 0, 427, .inl Yf_2)), (Ya_3, .inl (tc 3, 7, .inl Yf_3)), (Wa_0, .inr (9, [.int Wv_0, .int Wv_1, .int Wv_2, .int Wv_3, .int Wv_4, .int Wv_5, .ref Wa_1, .ref Wa_2, .ref Wa_3, .ref Wa_4, .ref Wa_5, .ref Wa_6, .ref Wa_7, .ref Wa_8])), (Wa_1, .inl (tc 0, 10, .inl Wf_1)), (Wa_2, .inl (tc 0, 10, .inl Wf_2)), (Wa_3, .inl (tc 0, 6, .inl Wf_3)), (Wa_4, .inl (tc 0, 6, .inl Wf_4)), (Wa_5, .inl (tc 0, 6, .inl Wf_5)), (Wa_6, .inl (tc 0, 6, .inl Wf_6)), (Wa_7, .inl (tc 0, 6, .inl Wf_7)), (Wa_8, .inl (tc 0, 6, .inl Wf_8))]) 0 0 :=
  ct_dX2_whoOn l D tc sk (fun k => ([Ya_0, 0, Ya_2, Ya_3] : List (Nat)).getD k 0) (fun k => ([Yv_0] : List (Int32)).getD k 0) (fun k => ([(fun _ => 0), (fun _ => 0), Yf_2, Yf_3] : List (Nat → Int32)).getD k (fun _ => 0)) (fun k => ([Wa_0, Wa_1, Wa_2, Wa_3, Wa_4, Wa_5, Wa_6, Wa_7, Wa_8] : List (Nat)).getD k 0) (fun k => ([Wv_0, Wv_1, Wv_2, Wv_3, Wv_4, Wv_5] : List (Int32)).getD k 0) (fun k => ([(fun _ => 0), Wf_1, Wf_2, Wf_3, Wf_4, Wf_5, Wf_6, Wf_7, Wf_8] : List (Nat → Int32)).getD k (fun _ => 0)) x1 x2 
def dX2_agrees_l2 (Nf_1 : Nat → Int32) (Nf_2 : Nat → Int32) (Nf_3 : Nat → Int32) (Nv_0 : Int32) (Yf_2 : Nat → Int32) (zz_301 : Int32) : Nat → Int32 → Int32 × Int32 × Int32
  | 0, _ => (0, 0, 0)
  | n + 1, yy_300 => (if Nv_0 ≤ yy_300 then ((0 : Int32), (0 : Int32), yy_300) else (if (10 : Int32) ≤ yy_300 then ((0 : Int32), (0 : Int32), yy_300) else (if (((dX2_whoOn Yf_2 zz_301 (Nf_1 (yy_300).toNatClampNeg)) >>> ((Nf_2 (yy_300).toNatClampNeg) &&& 31)) &&& (1 : Int32)) = (Nf_3 (yy_300).toNatClampNeg) then dX2_agrees_l2 Nf_1 Nf_2 Nf_3 Nv_0 Yf_2 zz_301 n (yy_300 + 1) else ((1 : Int32), (0 : Int32), yy_300))))
theorem dX2_agrees_l2_s {Nf_1 : Nat → Int32} {Nf_2 : Nat → Int32} {Nf_3 : Nat → Int32} {Nv_0 : Int32} {Yf_2 : Nat → Int32} {zz_301 : Int32} {n : Nat} {yy_300 : Int32} : dX2_agrees_l2 Nf_1 Nf_2 Nf_3 Nv_0 Yf_2 zz_301 (n + 1) yy_300 = (if Nv_0 ≤ yy_300 then ((0 : Int32), (0 : Int32), yy_300) else (if (10 : Int32) ≤ yy_300 then ((0 : Int32), (0 : Int32), yy_300) else (if (((dX2_whoOn Yf_2 zz_301 (Nf_1 (yy_300).toNatClampNeg)) >>> ((Nf_2 (yy_300).toNatClampNeg) &&& 31)) &&& (1 : Int32)) = (Nf_3 (yy_300).toNatClampNeg) then dX2_agrees_l2 Nf_1 Nf_2 Nf_3 Nv_0 Yf_2 zz_301 n (yy_300 + 1) else ((1 : Int32), (0 : Int32), yy_300)))) := rfl
def dX2_agrees (Nf_1 : Nat → Int32) (Nf_2 : Nat → Int32) (Nf_3 : Nat → Int32) (Nv_0 : Int32) (Yf_2 : Nat → Int32) (x1 : Int32) : Int32 := (if (dX2_agrees_l2 Nf_1 Nf_2 Nf_3 Nv_0 Yf_2 x1 ((10 - (0 : Int32).toInt).toNat + 1) (0 : Int32)).1 = (1 : Int32) then (dX2_agrees_l2 Nf_1 Nf_2 Nf_3 Nv_0 Yf_2 x1 ((10 - (0 : Int32).toInt).toNat + 1) (0 : Int32)).2.1 else (1 : Int32))
set_option maxHeartbeats 4000000 in
set_option maxRecDepth 100000 in
theorem ct_dX2_agrees (l : Launch) (D : va_G) (tc : Nat → ClassId) (sk : (Nat → Nat) × (Nat → Nat)) (Ya : Nat → Nat) (Yv : Nat → Int32) (Yf : Nat → Nat → Int32) (Wa : Nat → Nat) (Wv : Nat → Int32) (Wf : Nat → Nat → Int32) (Na : Nat → Nat) (Nv : Nat → Int32) (Nf : Nat → Nat → Int32) (x1 : Int32)  : Ct l yX2_agrees cX2_agrees 4 (some .boolean) { frames := 1, cells := 0, slots := 0, locals := 23 } D tc sk [.ref (Ya 0), .int x1, .ref (Na 0)] [((Ya 0), .inr (2, [.ref (Wa 0), .ref (Ya 2), .ref (Ya 3), .int (Yv 0)])), ((Ya 2), .inl (tc 0, 427, .inl (Yf 2))), ((Ya 3), .inl (tc 3, 7, .inl (Yf 3))), ((Wa 0), .inr (9, [.int (Wv 0), .int (Wv 1), .int (Wv 2), .int (Wv 3), .int (Wv 4), .int (Wv 5), .ref (Wa 1), .ref (Wa 2), .ref (Wa 3), .ref (Wa 4), .ref (Wa 5), .ref (Wa 6), .ref (Wa 7), .ref (Wa 8)])), ((Wa 1), .inl (tc 0, 10, .inl (Wf 1))), ((Wa 2), .inl (tc 0, 10, .inl (Wf 2))), ((Wa 3), .inl (tc 0, 6, .inl (Wf 3))), ((Wa 4), .inl (tc 0, 6, .inl (Wf 4))), ((Wa 5), .inl (tc 0, 6, .inl (Wf 5))), ((Wa 6), .inl (tc 0, 6, .inl (Wf 6))), ((Wa 7), .inl (tc 0, 6, .inl (Wf 7))), ((Wa 8), .inl (tc 0, 6, .inl (Wf 8))), ((Na 0), .inr (3, [.ref (Na 1), .ref (Na 2), .ref (Na 3), .int (Nv 0)])), ((Na 1), .inl (tc 0, 10, .inl (Nf 1))), ((Na 2), .inl (tc 0, 10, .inl (Nf 2))), ((Na 3), .inl (tc 0, 10, .inl (Nf 3)))] (fun (v : Option Value) (_ : Unit) => ∃ r : Int32, v = some (.int r) ∧ (((r.toInt = 0 ∨ r.toInt = 1)) ∧ r = (dX2_agrees (Nf 1) (Nf 2) (Nf 3) (Nv 0) (Yf 2) x1))) (fun (_ : Unit) => [((Ya 0), .inr (2, [.ref (Wa 0), .ref (Ya 2), .ref (Ya 3), .int (Yv 0)])), ((Ya 2), .inl (tc 0, 427, .inl (Yf 2))), ((Ya 3), .inl (tc 3, 7, .inl (Yf 3))), ((Wa 0), .inr (9, [.int (Wv 0), .int (Wv 1), .int (Wv 2), .int (Wv 3), .int (Wv 4), .int (Wv 5), .ref (Wa 1), .ref (Wa 2), .ref (Wa 3), .ref (Wa 4), .ref (Wa 5), .ref (Wa 6), .ref (Wa 7), .ref (Wa 8)])), ((Wa 1), .inl (tc 0, 10, .inl (Wf 1))), ((Wa 2), .inl (tc 0, 10, .inl (Wf 2))), ((Wa 3), .inl (tc 0, 6, .inl (Wf 3))), ((Wa 4), .inl (tc 0, 6, .inl (Wf 4))), ((Wa 5), .inl (tc 0, 6, .inl (Wf 5))), ((Wa 6), .inl (tc 0, 6, .inl (Wf 6))), ((Wa 7), .inl (tc 0, 6, .inl (Wf 7))), ((Wa 8), .inl (tc 0, 6, .inl (Wf 8))), ((Na 0), .inr (3, [.ref (Na 1), .ref (Na 2), .ref (Na 3), .int (Nv 0)])), ((Na 1), .inl (tc 0, 10, .inl (Nf 1))), ((Na 2), .inl (tc 0, 10, .inl (Nf 2))), ((Na 3), .inl (tc 0, 10, .inl (Nf 3)))]) 0 0 := by
  refine Ct.start (by decide) (Nat.le_of_ble_eq_true rfl) (fun p e s m below meth c A ls hx hb hr hlk hin hml hown hts hK hX hP hD hA hl hS => ?_)
  have hl : lv_has ls 4 [(0, .ref (Ya 0)), (1, .int x1), (2, .ref (Na 0))] := hl
  refine lv_iconst (v := 0) hx hb dX2_agrees_0 (by decide) ?_
  refine lv_istore_n (lv' := [(3, .int 0), (0, .ref (Ya 0)), (1, .int x1), (2, .ref (Na 0))]) hx hb dX2_agrees_1 rfl hl (by decide) rfl (fun ls hl₀ => ?_)
  replace hl := hl₀
  clear hl₀
  have loop_3 : ∀ (n_1 : Nat) (yy_300 : Int32) (H : Heap) (locs : List Loc) (ls : Array Slot), (10 - (yy_300 : Int32).toInt).toNat < n_1 → (dX2_agrees_l2 (Nf 1) (Nf 2) (Nf 3) (Nv 0) (Yf 2) x1 ((10 - (0 : Int32).toInt).toNat + 1) (0 : Int32)) = dX2_agrees_l2 (Nf 1) (Nf 2) (Nf 3) (Nv 0) (Yf 2) x1 ((10 - (yy_300 : Int32).toInt).toNat + 1) yy_300 → (0 ≤ (yy_300 : Int32).toInt) → va_P D classes [((Ya 0), .inr (2, [.ref (Wa 0), .ref (Ya 2), .ref (Ya 3), .int (Yv 0)])), ((Ya 2), .inl (tc 0, 427, .inl (Yf 2))), ((Ya 3), .inl (tc 3, 7, .inl (Yf 3))), ((Wa 0), .inr (9, [.int (Wv 0), .int (Wv 1), .int (Wv 2), .int (Wv 3), .int (Wv 4), .int (Wv 5), .ref (Wa 1), .ref (Wa 2), .ref (Wa 3), .ref (Wa 4), .ref (Wa 5), .ref (Wa 6), .ref (Wa 7), .ref (Wa 8)])), ((Wa 1), .inl (tc 0, 10, .inl (Wf 1))), ((Wa 2), .inl (tc 0, 10, .inl (Wf 2))), ((Wa 3), .inl (tc 0, 6, .inl (Wf 3))), ((Wa 4), .inl (tc 0, 6, .inl (Wf 4))), ((Wa 5), .inl (tc 0, 6, .inl (Wf 5))), ((Wa 6), .inl (tc 0, 6, .inl (Wf 6))), ((Wa 7), .inl (tc 0, 6, .inl (Wf 7))), ((Wa 8), .inl (tc 0, 6, .inl (Wf 8))), ((Na 0), .inr (3, [.ref (Na 1), .ref (Na 2), .ref (Na 3), .int (Nv 0)])), ((Na 1), .inl (tc 0, 10, .inl (Nf 1))), ((Na 2), .inl (tc 0, 10, .inl (Nf 2))), ((Na 3), .inl (tc 0, 10, .inl (Nf 3)))] H → va_D A [((Ya 0), .inr (2, [.ref (Wa 0), .ref (Ya 2), .ref (Ya 3), .int (Yv 0)])), ((Ya 2), .inl (tc 0, 427, .inl (Yf 2))), ((Ya 3), .inl (tc 3, 7, .inl (Yf 3))), ((Wa 0), .inr (9, [.int (Wv 0), .int (Wv 1), .int (Wv 2), .int (Wv 3), .int (Wv 4), .int (Wv 5), .ref (Wa 1), .ref (Wa 2), .ref (Wa 3), .ref (Wa 4), .ref (Wa 5), .ref (Wa 6), .ref (Wa 7), .ref (Wa 8)])), ((Wa 1), .inl (tc 0, 10, .inl (Wf 1))), ((Wa 2), .inl (tc 0, 10, .inl (Wf 2))), ((Wa 3), .inl (tc 0, 6, .inl (Wf 3))), ((Wa 4), .inl (tc 0, 6, .inl (Wf 4))), ((Wa 5), .inl (tc 0, 6, .inl (Wf 5))), ((Wa 6), .inl (tc 0, 6, .inl (Wf 6))), ((Wa 7), .inl (tc 0, 6, .inl (Wf 7))), ((Wa 8), .inl (tc 0, 6, .inl (Wf 8))), ((Na 0), .inr (3, [.ref (Na 1), .ref (Na 2), .ref (Na 3), .int (Nv 0)])), ((Na 1), .inl (tc 0, 10, .inl (Nf 1))), ((Na 2), .inl (tc 0, 10, .inl (Nf 2))), ((Na 3), .inl (tc 0, 10, .inl (Nf 3)))] → va_S A s.heap H locs → lv_has ls 4 [(3, .int yy_300), (0, .ref (Ya 0)), (1, .int x1), (2, .ref (Na 0))] → W p l e ({ frames := 1, cells := 0, slots := 0, locals := 23 }) s m ([.ref (Ya 0), .int x1, .ref (Na 0)].toArray) below meth c H locs 0 0 (MQ below (QW (fun (v : Option Value) (_ : Unit) => ∃ r : Int32, v = some (.int r) ∧ (((r.toInt = 0 ∨ r.toInt = 1)) ∧ r = (dX2_agrees (Nf 1) (Nf 2) (Nf 3) (Nv 0) (Yf 2) x1))) (BW D (fun (_ : Unit) => [((Ya 0), .inr (2, [.ref (Wa 0), .ref (Ya 2), .ref (Ya 3), .int (Yv 0)])), ((Ya 2), .inl (tc 0, 427, .inl (Yf 2))), ((Ya 3), .inl (tc 3, 7, .inl (Yf 3))), ((Wa 0), .inr (9, [.int (Wv 0), .int (Wv 1), .int (Wv 2), .int (Wv 3), .int (Wv 4), .int (Wv 5), .ref (Wa 1), .ref (Wa 2), .ref (Wa 3), .ref (Wa 4), .ref (Wa 5), .ref (Wa 6), .ref (Wa 7), .ref (Wa 8)])), ((Wa 1), .inl (tc 0, 10, .inl (Wf 1))), ((Wa 2), .inl (tc 0, 10, .inl (Wf 2))), ((Wa 3), .inl (tc 0, 6, .inl (Wf 3))), ((Wa 4), .inl (tc 0, 6, .inl (Wf 4))), ((Wa 5), .inl (tc 0, 6, .inl (Wf 5))), ((Wa 6), .inl (tc 0, 6, .inl (Wf 6))), ((Wa 7), .inl (tc 0, 6, .inl (Wf 7))), ((Wa 8), .inl (tc 0, 6, .inl (Wf 8))), ((Na 0), .inr (3, [.ref (Na 1), .ref (Na 2), .ref (Na 3), .int (Nv 0)])), ((Na 1), .inl (tc 0, 10, .inl (Nf 1))), ((Na 2), .inl (tc 0, 10, .inl (Nf 2))), ((Na 3), .inl (tc 0, 10, .inl (Nf 3)))]) A) A) ([.ref (Ya 0), .int x1, .ref (Na 0)].toArray) s 0 0 A) (F0 m 2 ls []) := by
    clear hP hD hS hl
    intro n_1
    induction n_1 with
    | zero =>
      intro yy_300 H locs ls h1
      exact absurd h1 (Nat.not_lt_zero _)
    | succ n_1 ih_2 =>
      intro yy_300 H locs ls hn_6 hL_5 pf_4 hP hD hS hl
      refine lv_iload_n hx hb dX2_agrees_2 rfl (lv_at hl 0 rfl) ?_
      refine lv_aload_n hx hb dX2_agrees_3 rfl (lv_at hl 3 rfl) ?_
      refine gf_X2_51 hx hb hts hown hK hP 12 rfl rfl dX2_agrees_4 ?_
      refine lv_icmp_ge (tgt := 53) hx hb dX2_agrees_7 (by decide) (fun c_7 => ?_) (fun c_7 => ?_)
      · skip
        have hb_9 : dX2_agrees_l2 (Nf 1) (Nf 2) (Nf 3) (Nv 0) (Yf 2) x1 ((10 - (yy_300 : Int32).toInt).toNat + 1) yy_300 = ((0 : Int32), (0 : Int32), yy_300) := by
          clear hP hD hS hl ih_2
          rw [dX2_agrees_l2_s]
          rw [if_pos c_7]
          try rfl
        have hX_8 : (dX2_agrees_l2 (Nf 1) (Nf 2) (Nf 3) (Nv 0) (Yf 2) x1 ((10 - (0 : Int32).toInt).toNat + 1) (0 : Int32)) = ((0 : Int32), (0 : Int32), yy_300) := hL_5.trans hb_9
        have hX_8_0 : (dX2_agrees_l2 (Nf 1) (Nf 2) (Nf 3) (Nv 0) (Yf 2) x1 ((10 - (0 : Int32).toInt).toNat + 1) (0 : Int32)).1 = (0 : Int32) := congrArg (fun z => z.1) hX_8
        have hX_8_1 : (dX2_agrees_l2 (Nf 1) (Nf 2) (Nf 3) (Nv 0) (Yf 2) x1 ((10 - (0 : Int32).toInt).toNat + 1) (0 : Int32)).2.1 = (0 : Int32) := congrArg (fun z => z.2.1) hX_8
        have hX_8_2 : (dX2_agrees_l2 (Nf 1) (Nf 2) (Nf 3) (Nv 0) (Yf 2) x1 ((10 - (0 : Int32).toInt).toNat + 1) (0 : Int32)).2.2 = yy_300 := congrArg (fun z => z.2.2) hX_8
        refine lv_iconst (v := 1) hx hb dX2_agrees_53 (by decide) ?_
        have hp_10 : ((1 : Int32).toInt = 0 ∨ (1 : Int32).toInt = 1) := by
          have z_1 := Int32.le_iff_toInt_le.mp c_7
          have y_1 : (1 : Int32).toInt = 1 := by decide
          have yr : (1 : Int32).toInt = 1 := by decide
          omega
        have hF_11 : (1 : Int32) = (dX2_agrees (Nf 1) (Nf 2) (Nf 3) (Nv 0) (Yf 2) x1) := by
          clear hP hD hS hl ih_2
          unfold dX2_agrees
          try rw [hX_8_0]
          try rw [hX_8_1]
          try rw [hX_8_2]
          rw [if_neg (show ¬ (0 : Int32) = (1 : Int32) by decide)]
          try rfl
        exact retI (v := 1) hx hb hr hlk (rfl) hP hD hS () ⟨_, rfl, ⟨hp_10, hF_11⟩⟩ [0, 1, 2, 3, 4, 5, 6, 7, 8, 9, 10, 11, 12, 13, 14, 15] rfl rfl dX2_agrees_54 (Nat.le_of_ble_eq_true rfl) (Nat.le_of_ble_eq_true rfl) rfl
      · skip
        refine lv_iload_n hx hb dX2_agrees_10 rfl (lv_at hl 0 rfl) ?_
        refine lv_bipush (v := 10) hx hb dX2_agrees_11 (by decide) ?_
        refine lv_icmp_ge (tgt := 53) hx hb dX2_agrees_13 (by decide) (fun c_12 => ?_) (fun c_12 => ?_)
        · skip
          have hb_14 : dX2_agrees_l2 (Nf 1) (Nf 2) (Nf 3) (Nv 0) (Yf 2) x1 ((10 - (yy_300 : Int32).toInt).toNat + 1) yy_300 = ((0 : Int32), (0 : Int32), yy_300) := by
            clear hP hD hS hl ih_2
            rw [dX2_agrees_l2_s]
            rw [if_neg c_7, if_pos c_12]
            try rfl
          have hX_13 : (dX2_agrees_l2 (Nf 1) (Nf 2) (Nf 3) (Nv 0) (Yf 2) x1 ((10 - (0 : Int32).toInt).toNat + 1) (0 : Int32)) = ((0 : Int32), (0 : Int32), yy_300) := hL_5.trans hb_14
          have hX_13_0 : (dX2_agrees_l2 (Nf 1) (Nf 2) (Nf 3) (Nv 0) (Yf 2) x1 ((10 - (0 : Int32).toInt).toNat + 1) (0 : Int32)).1 = (0 : Int32) := congrArg (fun z => z.1) hX_13
          have hX_13_1 : (dX2_agrees_l2 (Nf 1) (Nf 2) (Nf 3) (Nv 0) (Yf 2) x1 ((10 - (0 : Int32).toInt).toNat + 1) (0 : Int32)).2.1 = (0 : Int32) := congrArg (fun z => z.2.1) hX_13
          have hX_13_2 : (dX2_agrees_l2 (Nf 1) (Nf 2) (Nf 3) (Nv 0) (Yf 2) x1 ((10 - (0 : Int32).toInt).toNat + 1) (0 : Int32)).2.2 = yy_300 := congrArg (fun z => z.2.2) hX_13
          refine lv_iconst (v := 1) hx hb dX2_agrees_53 (by decide) ?_
          have hp_15 : ((1 : Int32).toInt = 0 ∨ (1 : Int32).toInt = 1) := by
            have z_1 := Int32.lt_iff_toInt_lt.mp (Int32.not_le.mp c_7)
            have z_2 := Int32.le_iff_toInt_le.mp c_12
            have y_10 : (10 : Int32).toInt = 10 := by decide
            have y_1 : (1 : Int32).toInt = 1 := by decide
            have yr : (1 : Int32).toInt = 1 := by decide
            omega
          have hF_16 : (1 : Int32) = (dX2_agrees (Nf 1) (Nf 2) (Nf 3) (Nv 0) (Yf 2) x1) := by
            clear hP hD hS hl ih_2
            unfold dX2_agrees
            try rw [hX_13_0]
            try rw [hX_13_1]
            try rw [hX_13_2]
            rw [if_neg (show ¬ (0 : Int32) = (1 : Int32) by decide)]
            try rfl
          exact retI (v := 1) hx hb hr hlk (rfl) hP hD hS () ⟨_, rfl, ⟨hp_15, hF_16⟩⟩ [0, 1, 2, 3, 4, 5, 6, 7, 8, 9, 10, 11, 12, 13, 14, 15] rfl rfl dX2_agrees_54 (Nat.le_of_ble_eq_true rfl) (Nat.le_of_ble_eq_true rfl) rfl
        · skip
          refine lv_aload_n hx hb dX2_agrees_16 rfl (lv_at hl 1 rfl) ?_
          refine lv_iload_n hx hb dX2_agrees_17 rfl (lv_at hl 2 rfl) ?_
          refine lv_aload_n hx hb dX2_agrees_18 rfl (lv_at hl 3 rfl) ?_
          refine gf_X2_56 hx hb hts hown hK hP 12 rfl rfl dX2_agrees_19 ?_
          refine lv_iload_n hx hb dX2_agrees_22 rfl (lv_at hl 0 rfl) ?_
          have hi_17 : vp_in yy_300 10 := by
            have z_1 := Int32.lt_iff_toInt_lt.mp (Int32.not_le.mp c_7)
            have z_2 := Int32.lt_iff_toInt_lt.mp (Int32.not_le.mp c_12)
            have y_10 : (10 : Int32).toInt = 10 := by decide
            refine vp_in_iff.mpr ⟨?_, ?_⟩ <;> omega
          refine va_iald hx hb hK hP 13 0 rfl rfl hi_17 dX2_agrees_23 ?_
          refine lv_topi (fun x_18 ex_18 => ?_)
          refine cV (a := (Ya 0)) (As := [.int x1, .int x_18]) (rest := []) (wr := [((Na 0), .inr (3, [.ref (Na 1), .ref (Na 2), .ref (Na 3), .int (Nv 0)])), ((Na 1), .inl (tc 0, 10, .inl (Nf 1))), ((Na 2), .inl (tc 0, 10, .inl (Nf 2))), ((Na 3), .inl (tc 0, 10, .inl (Nf 3)))]) ⟨hx, hb, hml, hown, hts⟩ hK hX hA (cu_dX2_whoOn l D tc sk (Ya 0) (Ya 2) (Ya 3) (Yv 0) (Yf 2) (Yf 3) (Wa 0) (Wa 1) (Wa 2) (Wa 3) (Wa 4) (Wa 5) (Wa 6) (Wa 7) (Wa 8) (Wv 0) (Wv 1) (Wv 2) (Wv 3) (Wv 4) (Wv 5) (Wf 1) (Wf 2) (Wf 3) (Wf 4) (Wf 5) (Wf 6) (Wf 7) (Wf 8) x1 x_18) k_991 k_988 k_990 k_20 k_105 pl_X2_whoOn ⟨Nat.le_of_ble_eq_true rfl, Nat.le_of_ble_eq_true rfl⟩ rfl rfl (va_recv hK hP (ci := 2) (q0 := 0) rfl rfl) hP hD hS [0, 1, 2, 3, 4, 5, 6, 7, 8, 9, 10, 11] [12, 13, 14, 15] rfl rfl rfl rfl rfl (by decide) rfl hl.1 rfl (Nat.le_of_ble_eq_true rfl) dX2_agrees_24 ⟨Nat.le_of_ble_eq_true rfl, Nat.le_of_ble_eq_true rfl⟩ (fun v_19 u_20 H locs hv_21 hP₀ hD₀ hS₀ => ?_)
          obtain ⟨r_22, rfl, he_23⟩ := hv_21
          have he_23 : (True) ∧ r_22 = (dX2_whoOn (Yf 2) x1 x_18) := he_23
          refine W.eq (g2 := F0 m 27 ls [.int r_22]) rfl ?_
          replace hP : va_P D classes [((Na 0), .inr (3, [.ref (Na 1), .ref (Na 2), .ref (Na 3), .int (Nv 0)])), ((Na 1), .inl (tc 0, 10, .inl (Nf 1))), ((Na 2), .inl (tc 0, 10, .inl (Nf 2))), ((Na 3), .inl (tc 0, 10, .inl (Nf 3))), ((Ya 0), .inr (2, [.ref (Wa 0), .ref (Ya 2), .ref (Ya 3), .int (Yv 0)])), ((Ya 2), .inl (tc 0, 427, .inl (Yf 2))), ((Ya 3), .inl (tc 3, 7, .inl (Yf 3))), ((Wa 0), .inr (9, [.int (Wv 0), .int (Wv 1), .int (Wv 2), .int (Wv 3), .int (Wv 4), .int (Wv 5), .ref (Wa 1), .ref (Wa 2), .ref (Wa 3), .ref (Wa 4), .ref (Wa 5), .ref (Wa 6), .ref (Wa 7), .ref (Wa 8)])), ((Wa 1), .inl (tc 0, 10, .inl (Wf 1))), ((Wa 2), .inl (tc 0, 10, .inl (Wf 2))), ((Wa 3), .inl (tc 0, 6, .inl (Wf 3))), ((Wa 4), .inl (tc 0, 6, .inl (Wf 4))), ((Wa 5), .inl (tc 0, 6, .inl (Wf 5))), ((Wa 6), .inl (tc 0, 6, .inl (Wf 6))), ((Wa 7), .inl (tc 0, 6, .inl (Wf 7))), ((Wa 8), .inl (tc 0, 6, .inl (Wf 8)))] H := hP₀
          replace hD : va_D A [((Na 0), .inr (3, [.ref (Na 1), .ref (Na 2), .ref (Na 3), .int (Nv 0)])), ((Na 1), .inl (tc 0, 10, .inl (Nf 1))), ((Na 2), .inl (tc 0, 10, .inl (Nf 2))), ((Na 3), .inl (tc 0, 10, .inl (Nf 3))), ((Ya 0), .inr (2, [.ref (Wa 0), .ref (Ya 2), .ref (Ya 3), .int (Yv 0)])), ((Ya 2), .inl (tc 0, 427, .inl (Yf 2))), ((Ya 3), .inl (tc 3, 7, .inl (Yf 3))), ((Wa 0), .inr (9, [.int (Wv 0), .int (Wv 1), .int (Wv 2), .int (Wv 3), .int (Wv 4), .int (Wv 5), .ref (Wa 1), .ref (Wa 2), .ref (Wa 3), .ref (Wa 4), .ref (Wa 5), .ref (Wa 6), .ref (Wa 7), .ref (Wa 8)])), ((Wa 1), .inl (tc 0, 10, .inl (Wf 1))), ((Wa 2), .inl (tc 0, 10, .inl (Wf 2))), ((Wa 3), .inl (tc 0, 6, .inl (Wf 3))), ((Wa 4), .inl (tc 0, 6, .inl (Wf 4))), ((Wa 5), .inl (tc 0, 6, .inl (Wf 5))), ((Wa 6), .inl (tc 0, 6, .inl (Wf 6))), ((Wa 7), .inl (tc 0, 6, .inl (Wf 7))), ((Wa 8), .inl (tc 0, 6, .inl (Wf 8)))] := hD₀
          replace hS := hS₀
          clear hP₀ hD₀ hS₀
          obtain ⟨he_23, hq_25⟩ := he_23
          have er_22 : r_22 = (dX2_whoOn (Yf 2) x1 x_18) := hq_25
          refine lv_aload_n hx hb dX2_agrees_27 rfl (lv_at hl 3 rfl) ?_
          refine gf_X2_63 hx hb hts hown hK hP 0 rfl rfl dX2_agrees_28 ?_
          refine lv_iload_n hx hb dX2_agrees_31 rfl (lv_at hl 0 rfl) ?_
          have hi_26 : vp_in yy_300 10 := by
            have z_1 := Int32.lt_iff_toInt_lt.mp (Int32.not_le.mp c_7)
            have z_2 := Int32.lt_iff_toInt_lt.mp (Int32.not_le.mp c_12)
            have y_10 : (10 : Int32).toInt = 10 := by decide
            refine vp_in_iff.mpr ⟨?_, ?_⟩ <;> omega
          refine va_iald hx hb hK hP 2 0 rfl rfl hi_26 dX2_agrees_32 ?_
          refine lv_topi (fun x_27 ex_27 => ?_)
          refine lv_ishr hx hb dX2_agrees_33 ?_
          refine lv_topi (fun x_28 ex_28 => ?_)
          refine lv_iconst (v := 1) hx hb dX2_agrees_34 (by decide) ?_
          refine lv_iand hx hb dX2_agrees_35 ?_
          refine lv_topi (fun x_29 ex_29 => ?_)
          refine lv_aload_n hx hb dX2_agrees_36 rfl (lv_at hl 3 rfl) ?_
          refine gf_X2_66 hx hb hts hown hK hP 0 rfl rfl dX2_agrees_37 ?_
          refine lv_iload_n hx hb dX2_agrees_40 rfl (lv_at hl 0 rfl) ?_
          have hi_30 : vp_in yy_300 10 := by
            have z_1 := Int32.lt_iff_toInt_lt.mp (Int32.not_le.mp c_7)
            have z_2 := Int32.lt_iff_toInt_lt.mp (Int32.not_le.mp c_12)
            have y_10 : (10 : Int32).toInt = 10 := by decide
            refine vp_in_iff.mpr ⟨?_, ?_⟩ <;> omega
          refine va_iald hx hb hK hP 3 0 rfl rfl hi_30 dX2_agrees_41 ?_
          refine lv_topi (fun x_31 ex_31 => ?_)
          refine lv_icmp_eq (tgt := 47) hx hb dX2_agrees_42 (by decide) (fun c_32 => ?_) (fun c_32 => ?_)
          · skip
            obtain ⟨x_33, ex_33⟩ : ∃ y : Int32, y = yy_300 + 1 := ⟨_, rfl⟩
            refine lv_iinc (v := x_33) (lv' := [(3, .int x_33), (0, .ref (Ya 0)), (1, .int x1), (2, .ref (Na 0))]) hx hb dX2_agrees_47 hl (k := 0) rfl (by rw [ex_33]; rfl) (by decide) rfl (fun ls hl₀ => ?_)
            replace hl := hl₀
            clear hl₀
            refine lv_goto (tgt := 2) hx hb dX2_agrees_50 (by decide) ?_
            have hb_34 : 10 - (x_33 : Int32).toInt < 10 - (yy_300 : Int32).toInt ∧ 1 ≤ 10 - (yy_300 : Int32).toInt := by
              have z_1 := Int32.lt_iff_toInt_lt.mp (Int32.not_le.mp c_7)
              have z_2 := Int32.lt_iff_toInt_lt.mp (Int32.not_le.mp c_12)
              have z_3 := congrArg Int32.toInt c_32
              have y_10 : (10 : Int32).toInt = 10 := by decide
              have y_1 : (1 : Int32).toInt = 1 := by decide
              have t_x_33 : x_33.toInt = (yy_300 : Int32).toInt + (1 : Int32).toInt := by rw [ex_33]; exact add_toInt (by omega) (by omega)
              omega
            have hm_35 : (10 - (yy_300 : Int32).toInt).toNat = (10 - (x_33 : Int32).toInt).toNat + 1 := by
              have z_1 := Int32.lt_iff_toInt_lt.mp (Int32.not_le.mp c_7)
              have z_2 := Int32.lt_iff_toInt_lt.mp (Int32.not_le.mp c_12)
              have z_3 := congrArg Int32.toInt c_32
              have y_10 : (10 : Int32).toInt = 10 := by decide
              have y_1 : (1 : Int32).toInt = 1 := by decide
              have t_x_33 : x_33.toInt = (yy_300 : Int32).toInt + (1 : Int32).toInt := by rw [ex_33]; exact add_toInt (by omega) (by omega)
              omega
            have hb_36 : dX2_agrees_l2 (Nf 1) (Nf 2) (Nf 3) (Nv 0) (Yf 2) x1 ((10 - (yy_300 : Int32).toInt).toNat + 1) yy_300 = dX2_agrees_l2 (Nf 1) (Nf 2) (Nf 3) (Nv 0) (Yf 2) x1 ((10 - (yy_300 : Int32).toInt).toNat) x_33 := by
              clear hP hD hS hl ih_2
              replace ex_18 := ex_18.symm; subst ex_18
              replace er_22 := er_22.symm; subst er_22
              replace ex_27 := ex_27.symm; subst ex_27
              replace ex_28 := ex_28.symm; subst ex_28
              replace ex_29 := ex_29.symm; subst ex_29
              replace ex_31 := ex_31.symm; subst ex_31
              replace ex_33 := ex_33.symm; subst ex_33
              rw [dX2_agrees_l2_s]
              rw [if_neg c_7, if_neg c_12, if_pos c_32]
              try rfl
            have hL_37 : (dX2_agrees_l2 (Nf 1) (Nf 2) (Nf 3) (Nv 0) (Yf 2) x1 ((10 - (0 : Int32).toInt).toNat + 1) (0 : Int32)) = dX2_agrees_l2 (Nf 1) (Nf 2) (Nf 3) (Nv 0) (Yf 2) x1 ((10 - (x_33 : Int32).toInt).toNat + 1) x_33 := by
              rw [hL_5, hb_36, hm_35]
            have ha_38 : 0 ≤ (x_33 : Int32).toInt := by
              have z_1 := Int32.lt_iff_toInt_lt.mp (Int32.not_le.mp c_7)
              have z_2 := Int32.lt_iff_toInt_lt.mp (Int32.not_le.mp c_12)
              have z_3 := congrArg Int32.toInt c_32
              have y_10 : (10 : Int32).toInt = 10 := by decide
              have y_1 : (1 : Int32).toInt = 1 := by decide
              have t_x_33 : x_33.toInt = (yy_300 : Int32).toInt + (1 : Int32).toInt := by rw [ex_33]; exact add_toInt (by omega) (by omega)
              omega
            exact ih_2 x_33 _ _ _ (by omega) hL_37 ha_38 (hP.sub [4, 5, 6, 7, 8, 9, 10, 11, 12, 13, 14, 15, 0, 1, 2, 3] rfl) (hD.sub [4, 5, 6, 7, 8, 9, 10, 11, 12, 13, 14, 15, 0, 1, 2, 3] rfl rfl) hS (lv_sub hl [0, 1, 2, 3] rfl)
          · skip
            refine lv_iconst (v := 0) hx hb dX2_agrees_45 (by decide) ?_
            have hb_40 : dX2_agrees_l2 (Nf 1) (Nf 2) (Nf 3) (Nv 0) (Yf 2) x1 ((10 - (yy_300 : Int32).toInt).toNat + 1) yy_300 = ((1 : Int32), (0 : Int32), yy_300) := by
              clear hP hD hS hl ih_2
              replace ex_18 := ex_18.symm; subst ex_18
              replace er_22 := er_22.symm; subst er_22
              replace ex_27 := ex_27.symm; subst ex_27
              replace ex_28 := ex_28.symm; subst ex_28
              replace ex_29 := ex_29.symm; subst ex_29
              replace ex_31 := ex_31.symm; subst ex_31
              rw [dX2_agrees_l2_s]
              rw [if_neg c_7, if_neg c_12, if_neg c_32]
              try rfl
            have hX_39 : (dX2_agrees_l2 (Nf 1) (Nf 2) (Nf 3) (Nv 0) (Yf 2) x1 ((10 - (0 : Int32).toInt).toNat + 1) (0 : Int32)) = ((1 : Int32), (0 : Int32), yy_300) := hL_5.trans hb_40
            have hX_39_0 : (dX2_agrees_l2 (Nf 1) (Nf 2) (Nf 3) (Nv 0) (Yf 2) x1 ((10 - (0 : Int32).toInt).toNat + 1) (0 : Int32)).1 = (1 : Int32) := congrArg (fun z => z.1) hX_39
            have hX_39_1 : (dX2_agrees_l2 (Nf 1) (Nf 2) (Nf 3) (Nv 0) (Yf 2) x1 ((10 - (0 : Int32).toInt).toNat + 1) (0 : Int32)).2.1 = (0 : Int32) := congrArg (fun z => z.2.1) hX_39
            have hX_39_2 : (dX2_agrees_l2 (Nf 1) (Nf 2) (Nf 3) (Nv 0) (Yf 2) x1 ((10 - (0 : Int32).toInt).toNat + 1) (0 : Int32)).2.2 = yy_300 := congrArg (fun z => z.2.2) hX_39
            have hp_41 : ((0 : Int32).toInt = 0 ∨ (0 : Int32).toInt = 1) := by
              have z_1 := Int32.lt_iff_toInt_lt.mp (Int32.not_le.mp c_7)
              have z_2 := Int32.lt_iff_toInt_lt.mp (Int32.not_le.mp c_12)
              have z_3 : ¬ (x_29 : Int32).toInt = (x_31 : Int32).toInt := fun z => c_32 (Int32.toInt_inj.mp z)
              have y_10 : (10 : Int32).toInt = 10 := by decide
              have y_0 : (0 : Int32).toInt = 0 := by decide
              have yr : (0 : Int32).toInt = 0 := by decide
              omega
            have hF_42 : (0 : Int32) = (dX2_agrees (Nf 1) (Nf 2) (Nf 3) (Nv 0) (Yf 2) x1) := by
              clear hP hD hS hl ih_2
              replace ex_18 := ex_18.symm; subst ex_18
              replace er_22 := er_22.symm; subst er_22
              replace ex_27 := ex_27.symm; subst ex_27
              replace ex_28 := ex_28.symm; subst ex_28
              replace ex_29 := ex_29.symm; subst ex_29
              replace ex_31 := ex_31.symm; subst ex_31
              unfold dX2_agrees
              try rw [hX_39_0]
              try rw [hX_39_1]
              try rw [hX_39_2]
              rw [if_pos (show (1 : Int32) = (1 : Int32) from rfl)]
              try rfl
            exact retI (v := 0) hx hb hr hlk (rfl) hP hD hS () ⟨_, rfl, ⟨hp_41, hF_42⟩⟩ [4, 5, 6, 7, 8, 9, 10, 11, 12, 13, 14, 15, 0, 1, 2, 3] rfl rfl dX2_agrees_46 (Nat.le_of_ble_eq_true rfl) (Nat.le_of_ble_eq_true rfl) rfl
  have ha_43 : 0 ≤ (0 : Int32).toInt := by
    have y_0 : (0 : Int32).toInt = 0 := by decide
    omega
  exact loop_3 _ 0 _ _ _ (Nat.lt_succ_self _) rfl ha_43 hP hD hS hl
set_option maxRecDepth 100000 in
theorem cu_dX2_agrees (l : Launch) (D : va_G) (tc : Nat → ClassId) (sk : (Nat → Nat) × (Nat → Nat)) (Ya_0 : Nat) (Ya_2 : Nat) (Ya_3 : Nat) (Yv_0 : Int32) (Yf_2 : Nat → Int32) (Yf_3 : Nat → Int32) (Wa_0 : Nat) (Wa_1 : Nat) (Wa_2 : Nat) (Wa_3 : Nat) (Wa_4 : Nat) (Wa_5 : Nat) (Wa_6 : Nat) (Wa_7 : Nat) (Wa_8 : Nat) (Wv_0 : Int32) (Wv_1 : Int32) (Wv_2 : Int32) (Wv_3 : Int32) (Wv_4 : Int32) (Wv_5 : Int32) (Wf_1 : Nat → Int32) (Wf_2 : Nat → Int32) (Wf_3 : Nat → Int32) (Wf_4 : Nat → Int32) (Wf_5 : Nat → Int32) (Wf_6 : Nat → Int32) (Wf_7 : Nat → Int32) (Wf_8 : Nat → Int32) (Na_0 : Nat) (Na_1 : Nat) (Na_2 : Nat) (Na_3 : Nat) (Nv_0 : Int32) (Nf_1 : Nat → Int32) (Nf_2 : Nat → Int32) (Nf_3 : Nat → Int32) (x1 : Int32)  : Ct l yX2_agrees cX2_agrees 4 (some .boolean) { frames := 1, cells := 0, slots := 0, locals := 23 } D tc sk [.ref Ya_0, .int x1, .ref Na_0] [(Ya_0, .inr (2, [.ref Wa_0, .ref Ya_2, .ref Ya_3, .int Yv_0])), (Ya_2, .inl (tc 0, 427, .inl Yf_2)), (Ya_3, .inl (tc 3, 7, .inl Yf_3)), (Wa_0, .inr (9, [.int Wv_0, .int Wv_1, .int Wv_2, .int Wv_3, .int Wv_4, .int Wv_5, .ref Wa_1, .ref Wa_2, .ref Wa_3, .ref Wa_4, .ref Wa_5, .ref Wa_6, .ref Wa_7, .ref Wa_8])), (Wa_1, .inl (tc 0, 10, .inl Wf_1)), (Wa_2, .inl (tc 0, 10, .inl Wf_2)), (Wa_3, .inl (tc 0, 6, .inl Wf_3)), (Wa_4, .inl (tc 0, 6, .inl Wf_4)), (Wa_5, .inl (tc 0, 6, .inl Wf_5)), (Wa_6, .inl (tc 0, 6, .inl Wf_6)), (Wa_7, .inl (tc 0, 6, .inl Wf_7)), (Wa_8, .inl (tc 0, 6, .inl Wf_8)), (Na_0, .inr (3, [.ref Na_1, .ref Na_2, .ref Na_3, .int Nv_0])), (Na_1, .inl (tc 0, 10, .inl Nf_1)), (Na_2, .inl (tc 0, 10, .inl Nf_2)), (Na_3, .inl (tc 0, 10, .inl Nf_3))] (fun (v : Option Value) (_ : Unit) => ∃ r : Int32, v = some (.int r) ∧ (((r.toInt = 0 ∨ r.toInt = 1)) ∧ r = (dX2_agrees Nf_1 Nf_2 Nf_3 Nv_0 Yf_2 x1))) (fun (_ : Unit) => [(Ya_0, .inr (2, [.ref Wa_0, .ref Ya_2, .ref Ya_3, .int Yv_0])), (Ya_2, .inl (tc 0, 427, .inl Yf_2)), (Ya_3, .inl (tc 3, 7, .inl Yf_3)), (Wa_0, .inr (9, [.int Wv_0, .int Wv_1, .int Wv_2, .int Wv_3, .int Wv_4, .int Wv_5, .ref Wa_1, .ref Wa_2, .ref Wa_3, .ref Wa_4, .ref Wa_5, .ref Wa_6, .ref Wa_7, .ref Wa_8])), (Wa_1, .inl (tc 0, 10, .inl Wf_1)), (Wa_2, .inl (tc 0, 10, .inl Wf_2)), (Wa_3, .inl (tc 0, 6, .inl Wf_3)), (Wa_4, .inl (tc 0, 6, .inl Wf_4)), (Wa_5, .inl (tc 0, 6, .inl Wf_5)), (Wa_6, .inl (tc 0, 6, .inl Wf_6)), (Wa_7, .inl (tc 0, 6, .inl Wf_7)), (Wa_8, .inl (tc 0, 6, .inl Wf_8)), (Na_0, .inr (3, [.ref Na_1, .ref Na_2, .ref Na_3, .int Nv_0])), (Na_1, .inl (tc 0, 10, .inl Nf_1)), (Na_2, .inl (tc 0, 10, .inl Nf_2)), (Na_3, .inl (tc 0, 10, .inl Nf_3))]) 0 0 :=
  ct_dX2_agrees l D tc sk (fun k => ([Ya_0, 0, Ya_2, Ya_3] : List (Nat)).getD k 0) (fun k => ([Yv_0] : List (Int32)).getD k 0) (fun k => ([(fun _ => 0), (fun _ => 0), Yf_2, Yf_3] : List (Nat → Int32)).getD k (fun _ => 0)) (fun k => ([Wa_0, Wa_1, Wa_2, Wa_3, Wa_4, Wa_5, Wa_6, Wa_7, Wa_8] : List (Nat)).getD k 0) (fun k => ([Wv_0, Wv_1, Wv_2, Wv_3, Wv_4, Wv_5] : List (Int32)).getD k 0) (fun k => ([(fun _ => 0), Wf_1, Wf_2, Wf_3, Wf_4, Wf_5, Wf_6, Wf_7, Wf_8] : List (Nat → Int32)).getD k (fun _ => 0)) (fun k => ([Na_0, Na_1, Na_2, Na_3] : List (Nat)).getD k 0) (fun k => ([Nv_0] : List (Int32)).getD k 0) (fun k => ([(fun _ => 0), Nf_1, Nf_2, Nf_3] : List (Nat → Int32)).getD k (fun _ => 0)) x1 
def dX2_firstFitting_l2 (Yf_3 : Nat → Int32) : Nat → Int32 → Int32 × Int32 × Int32
  | 0, _ => (0, 0, 0)
  | n + 1, yy_300 => (if (7 : Int32) ≤ yy_300 then ((0 : Int32), (0 : Int32), yy_300) else (if (Yf_3 (yy_300).toNatClampNeg) = (0 : Int32) then dX2_firstFitting_l2 Yf_3 n (yy_300 + 1) else ((1 : Int32), (yy_300 - (1 : Int32)), yy_300)))
theorem dX2_firstFitting_l2_s {Yf_3 : Nat → Int32} {n : Nat} {yy_300 : Int32} : dX2_firstFitting_l2 Yf_3 (n + 1) yy_300 = (if (7 : Int32) ≤ yy_300 then ((0 : Int32), (0 : Int32), yy_300) else (if (Yf_3 (yy_300).toNatClampNeg) = (0 : Int32) then dX2_firstFitting_l2 Yf_3 n (yy_300 + 1) else ((1 : Int32), (yy_300 - (1 : Int32)), yy_300))) := rfl
def dX2_firstFitting (Yf_3 : Nat → Int32) : Int32 := (if (dX2_firstFitting_l2 Yf_3 ((7 - (0 : Int32).toInt).toNat + 1) (0 : Int32)).1 = (1 : Int32) then (dX2_firstFitting_l2 Yf_3 ((7 - (0 : Int32).toInt).toNat + 1) (0 : Int32)).2.1 else (-2 : Int32))
set_option maxHeartbeats 4000000 in
set_option maxRecDepth 100000 in
theorem ct_dX2_firstFitting (l : Launch) (D : va_G) (tc : Nat → ClassId) (sk : (Nat → Nat) × (Nat → Nat)) (Ya : Nat → Nat) (Yv : Nat → Int32) (Yf : Nat → Nat → Int32) (Wa : Nat → Nat) (Wv : Nat → Int32) (Wf : Nat → Nat → Int32)  : Ct l yX2_firstFitting cX2_firstFitting 2 (some .int) { frames := 0, cells := 0, slots := 0, locals := 0 } D tc sk [.ref (Ya 0)] [((Ya 0), .inr (2, [.ref (Wa 0), .ref (Ya 2), .ref (Ya 3), .int (Yv 0)])), ((Ya 2), .inl (tc 0, 427, .inl (Yf 2))), ((Ya 3), .inl (tc 3, 7, .inl (Yf 3))), ((Wa 0), .inr (9, [.int (Wv 0), .int (Wv 1), .int (Wv 2), .int (Wv 3), .int (Wv 4), .int (Wv 5), .ref (Wa 1), .ref (Wa 2), .ref (Wa 3), .ref (Wa 4), .ref (Wa 5), .ref (Wa 6), .ref (Wa 7), .ref (Wa 8)])), ((Wa 1), .inl (tc 0, 10, .inl (Wf 1))), ((Wa 2), .inl (tc 0, 10, .inl (Wf 2))), ((Wa 3), .inl (tc 0, 6, .inl (Wf 3))), ((Wa 4), .inl (tc 0, 6, .inl (Wf 4))), ((Wa 5), .inl (tc 0, 6, .inl (Wf 5))), ((Wa 6), .inl (tc 0, 6, .inl (Wf 6))), ((Wa 7), .inl (tc 0, 6, .inl (Wf 7))), ((Wa 8), .inl (tc 0, 6, .inl (Wf 8)))] (fun (v : Option Value) (_ : Unit) => ∃ r : Int32, v = some (.int r) ∧ ((True) ∧ r = (dX2_firstFitting (Yf 3)))) (fun (_ : Unit) => [((Ya 0), .inr (2, [.ref (Wa 0), .ref (Ya 2), .ref (Ya 3), .int (Yv 0)])), ((Ya 2), .inl (tc 0, 427, .inl (Yf 2))), ((Ya 3), .inl (tc 3, 7, .inl (Yf 3))), ((Wa 0), .inr (9, [.int (Wv 0), .int (Wv 1), .int (Wv 2), .int (Wv 3), .int (Wv 4), .int (Wv 5), .ref (Wa 1), .ref (Wa 2), .ref (Wa 3), .ref (Wa 4), .ref (Wa 5), .ref (Wa 6), .ref (Wa 7), .ref (Wa 8)])), ((Wa 1), .inl (tc 0, 10, .inl (Wf 1))), ((Wa 2), .inl (tc 0, 10, .inl (Wf 2))), ((Wa 3), .inl (tc 0, 6, .inl (Wf 3))), ((Wa 4), .inl (tc 0, 6, .inl (Wf 4))), ((Wa 5), .inl (tc 0, 6, .inl (Wf 5))), ((Wa 6), .inl (tc 0, 6, .inl (Wf 6))), ((Wa 7), .inl (tc 0, 6, .inl (Wf 7))), ((Wa 8), .inl (tc 0, 6, .inl (Wf 8)))]) 0 0 := by
  refine Ct.start (by decide) (Nat.le_of_ble_eq_true rfl) (fun p e s m below meth c A ls hx hb hr hlk hin hml hown hts hK hX hP hD hA hl hS => ?_)
  have hl : lv_has ls 2 [(0, .ref (Ya 0))] := hl
  refine lv_iconst (v := 0) hx hb dX2_firstFitting_0 (by decide) ?_
  refine lv_istore_n (lv' := [(1, .int 0), (0, .ref (Ya 0))]) hx hb dX2_firstFitting_1 rfl hl (by decide) rfl (fun ls hl₀ => ?_)
  replace hl := hl₀
  clear hl₀
  have loop_3 : ∀ (n_1 : Nat) (yy_300 : Int32) (H : Heap) (locs : List Loc) (ls : Array Slot), (7 - (yy_300 : Int32).toInt).toNat < n_1 → (dX2_firstFitting_l2 (Yf 3) ((7 - (0 : Int32).toInt).toNat + 1) (0 : Int32)) = dX2_firstFitting_l2 (Yf 3) ((7 - (yy_300 : Int32).toInt).toNat + 1) yy_300 → (0 ≤ (yy_300 : Int32).toInt) → va_P D classes [((Ya 0), .inr (2, [.ref (Wa 0), .ref (Ya 2), .ref (Ya 3), .int (Yv 0)])), ((Ya 2), .inl (tc 0, 427, .inl (Yf 2))), ((Ya 3), .inl (tc 3, 7, .inl (Yf 3))), ((Wa 0), .inr (9, [.int (Wv 0), .int (Wv 1), .int (Wv 2), .int (Wv 3), .int (Wv 4), .int (Wv 5), .ref (Wa 1), .ref (Wa 2), .ref (Wa 3), .ref (Wa 4), .ref (Wa 5), .ref (Wa 6), .ref (Wa 7), .ref (Wa 8)])), ((Wa 1), .inl (tc 0, 10, .inl (Wf 1))), ((Wa 2), .inl (tc 0, 10, .inl (Wf 2))), ((Wa 3), .inl (tc 0, 6, .inl (Wf 3))), ((Wa 4), .inl (tc 0, 6, .inl (Wf 4))), ((Wa 5), .inl (tc 0, 6, .inl (Wf 5))), ((Wa 6), .inl (tc 0, 6, .inl (Wf 6))), ((Wa 7), .inl (tc 0, 6, .inl (Wf 7))), ((Wa 8), .inl (tc 0, 6, .inl (Wf 8)))] H → va_D A [((Ya 0), .inr (2, [.ref (Wa 0), .ref (Ya 2), .ref (Ya 3), .int (Yv 0)])), ((Ya 2), .inl (tc 0, 427, .inl (Yf 2))), ((Ya 3), .inl (tc 3, 7, .inl (Yf 3))), ((Wa 0), .inr (9, [.int (Wv 0), .int (Wv 1), .int (Wv 2), .int (Wv 3), .int (Wv 4), .int (Wv 5), .ref (Wa 1), .ref (Wa 2), .ref (Wa 3), .ref (Wa 4), .ref (Wa 5), .ref (Wa 6), .ref (Wa 7), .ref (Wa 8)])), ((Wa 1), .inl (tc 0, 10, .inl (Wf 1))), ((Wa 2), .inl (tc 0, 10, .inl (Wf 2))), ((Wa 3), .inl (tc 0, 6, .inl (Wf 3))), ((Wa 4), .inl (tc 0, 6, .inl (Wf 4))), ((Wa 5), .inl (tc 0, 6, .inl (Wf 5))), ((Wa 6), .inl (tc 0, 6, .inl (Wf 6))), ((Wa 7), .inl (tc 0, 6, .inl (Wf 7))), ((Wa 8), .inl (tc 0, 6, .inl (Wf 8)))] → va_S A s.heap H locs → lv_has ls 2 [(1, .int yy_300), (0, .ref (Ya 0))] → W p l e ({ frames := 0, cells := 0, slots := 0, locals := 0 }) s m ([.ref (Ya 0)].toArray) below meth c H locs 0 0 (MQ below (QW (fun (v : Option Value) (_ : Unit) => ∃ r : Int32, v = some (.int r) ∧ ((True) ∧ r = (dX2_firstFitting (Yf 3)))) (BW D (fun (_ : Unit) => [((Ya 0), .inr (2, [.ref (Wa 0), .ref (Ya 2), .ref (Ya 3), .int (Yv 0)])), ((Ya 2), .inl (tc 0, 427, .inl (Yf 2))), ((Ya 3), .inl (tc 3, 7, .inl (Yf 3))), ((Wa 0), .inr (9, [.int (Wv 0), .int (Wv 1), .int (Wv 2), .int (Wv 3), .int (Wv 4), .int (Wv 5), .ref (Wa 1), .ref (Wa 2), .ref (Wa 3), .ref (Wa 4), .ref (Wa 5), .ref (Wa 6), .ref (Wa 7), .ref (Wa 8)])), ((Wa 1), .inl (tc 0, 10, .inl (Wf 1))), ((Wa 2), .inl (tc 0, 10, .inl (Wf 2))), ((Wa 3), .inl (tc 0, 6, .inl (Wf 3))), ((Wa 4), .inl (tc 0, 6, .inl (Wf 4))), ((Wa 5), .inl (tc 0, 6, .inl (Wf 5))), ((Wa 6), .inl (tc 0, 6, .inl (Wf 6))), ((Wa 7), .inl (tc 0, 6, .inl (Wf 7))), ((Wa 8), .inl (tc 0, 6, .inl (Wf 8)))]) A) A) ([.ref (Ya 0)].toArray) s 0 0 A) (F0 m 2 ls []) := by
    clear hP hD hS hl
    intro n_1
    induction n_1 with
    | zero =>
      intro yy_300 H locs ls h1
      exact absurd h1 (Nat.not_lt_zero _)
    | succ n_1 ih_2 =>
      intro yy_300 H locs ls hn_6 hL_5 pf_4 hP hD hS hl
      refine lv_iload_n hx hb dX2_firstFitting_2 rfl (lv_at hl 0 rfl) ?_
      refine lv_bipush (v := 7) hx hb dX2_firstFitting_3 (by decide) ?_
      refine lv_icmp_ge (tgt := 27) hx hb dX2_firstFitting_5 (by decide) (fun c_7 => ?_) (fun c_7 => ?_)
      · skip
        have hb_9 : dX2_firstFitting_l2 (Yf 3) ((7 - (yy_300 : Int32).toInt).toNat + 1) yy_300 = ((0 : Int32), (0 : Int32), yy_300) := by
          clear hP hD hS hl ih_2
          rw [dX2_firstFitting_l2_s]
          rw [if_pos c_7]
          try rfl
        have hX_8 : (dX2_firstFitting_l2 (Yf 3) ((7 - (0 : Int32).toInt).toNat + 1) (0 : Int32)) = ((0 : Int32), (0 : Int32), yy_300) := hL_5.trans hb_9
        have hX_8_0 : (dX2_firstFitting_l2 (Yf 3) ((7 - (0 : Int32).toInt).toNat + 1) (0 : Int32)).1 = (0 : Int32) := congrArg (fun z => z.1) hX_8
        have hX_8_1 : (dX2_firstFitting_l2 (Yf 3) ((7 - (0 : Int32).toInt).toNat + 1) (0 : Int32)).2.1 = (0 : Int32) := congrArg (fun z => z.2.1) hX_8
        have hX_8_2 : (dX2_firstFitting_l2 (Yf 3) ((7 - (0 : Int32).toInt).toNat + 1) (0 : Int32)).2.2 = yy_300 := congrArg (fun z => z.2.2) hX_8
        refine lv_bipush (v := (-2)) hx hb dX2_firstFitting_27 (by decide) ?_
        have hF_10 : (-2 : Int32) = (dX2_firstFitting (Yf 3)) := by
          clear hP hD hS hl ih_2
          unfold dX2_firstFitting
          try rw [hX_8_0]
          try rw [hX_8_1]
          try rw [hX_8_2]
          rw [if_neg (show ¬ (0 : Int32) = (1 : Int32) by decide)]
          try rfl
        exact retI (v := (-2)) hx hb hr hlk (rfl) hP hD hS () ⟨_, rfl, ⟨trivial, hF_10⟩⟩ [0, 1, 2, 3, 4, 5, 6, 7, 8, 9, 10, 11] rfl rfl dX2_firstFitting_29 (Nat.le_of_ble_eq_true rfl) (Nat.le_of_ble_eq_true rfl) rfl
      · skip
        refine lv_aload_n hx hb dX2_firstFitting_8 rfl (lv_at hl 1 rfl) ?_
        refine gf_X2_22 hx hb hts hown hK hP 0 rfl rfl dX2_firstFitting_9 ?_
        refine lv_iload_n hx hb dX2_firstFitting_12 rfl (lv_at hl 0 rfl) ?_
        have hi_11 : vp_in yy_300 7 := by
          have z_1 := Int32.lt_iff_toInt_lt.mp (Int32.not_le.mp c_7)
          have y_7 : (7 : Int32).toInt = 7 := by decide
          refine vp_in_iff.mpr ⟨?_, ?_⟩ <;> omega
        refine va_zald hx hb hK hP 2 3 rfl rfl hi_11 dX2_firstFitting_13 ?_
        refine lv_topi (fun x_12 ex_12 => ?_)
        refine lv_if_eq (tgt := 21) hx hb dX2_firstFitting_14 (by decide) (fun c_13 => ?_) (fun c_13 => ?_)
        · skip
          obtain ⟨x_14, ex_14⟩ : ∃ y : Int32, y = yy_300 + 1 := ⟨_, rfl⟩
          refine lv_iinc (v := x_14) (lv' := [(1, .int x_14), (0, .ref (Ya 0))]) hx hb dX2_firstFitting_21 hl (k := 0) rfl (by rw [ex_14]; rfl) (by decide) rfl (fun ls hl₀ => ?_)
          replace hl := hl₀
          clear hl₀
          refine lv_goto (tgt := 2) hx hb dX2_firstFitting_24 (by decide) ?_
          have hb_15 : 7 - (x_14 : Int32).toInt < 7 - (yy_300 : Int32).toInt ∧ 1 ≤ 7 - (yy_300 : Int32).toInt := by
            have z_1 := Int32.lt_iff_toInt_lt.mp (Int32.not_le.mp c_7)
            have z_2 := congrArg Int32.toInt c_13
            have y_0 : (0 : Int32).toInt = 0 := by decide
            have y_7 : (7 : Int32).toInt = 7 := by decide
            have y_1 : (1 : Int32).toInt = 1 := by decide
            have t_x_14 : x_14.toInt = (yy_300 : Int32).toInt + (1 : Int32).toInt := by rw [ex_14]; exact add_toInt (by omega) (by omega)
            omega
          have hm_16 : (7 - (yy_300 : Int32).toInt).toNat = (7 - (x_14 : Int32).toInt).toNat + 1 := by
            have z_1 := Int32.lt_iff_toInt_lt.mp (Int32.not_le.mp c_7)
            have z_2 := congrArg Int32.toInt c_13
            have y_0 : (0 : Int32).toInt = 0 := by decide
            have y_7 : (7 : Int32).toInt = 7 := by decide
            have y_1 : (1 : Int32).toInt = 1 := by decide
            have t_x_14 : x_14.toInt = (yy_300 : Int32).toInt + (1 : Int32).toInt := by rw [ex_14]; exact add_toInt (by omega) (by omega)
            omega
          have hb_17 : dX2_firstFitting_l2 (Yf 3) ((7 - (yy_300 : Int32).toInt).toNat + 1) yy_300 = dX2_firstFitting_l2 (Yf 3) ((7 - (yy_300 : Int32).toInt).toNat) x_14 := by
            clear hP hD hS hl ih_2
            replace ex_12 := ex_12.symm; subst ex_12
            replace ex_14 := ex_14.symm; subst ex_14
            rw [dX2_firstFitting_l2_s]
            rw [if_neg c_7, if_pos c_13]
            try rfl
          have hL_18 : (dX2_firstFitting_l2 (Yf 3) ((7 - (0 : Int32).toInt).toNat + 1) (0 : Int32)) = dX2_firstFitting_l2 (Yf 3) ((7 - (x_14 : Int32).toInt).toNat + 1) x_14 := by
            rw [hL_5, hb_17, hm_16]
          have ha_19 : 0 ≤ (x_14 : Int32).toInt := by
            have z_1 := Int32.lt_iff_toInt_lt.mp (Int32.not_le.mp c_7)
            have z_2 := congrArg Int32.toInt c_13
            have y_0 : (0 : Int32).toInt = 0 := by decide
            have y_7 : (7 : Int32).toInt = 7 := by decide
            have y_1 : (1 : Int32).toInt = 1 := by decide
            have t_x_14 : x_14.toInt = (yy_300 : Int32).toInt + (1 : Int32).toInt := by rw [ex_14]; exact add_toInt (by omega) (by omega)
            omega
          exact ih_2 x_14 _ _ _ (by omega) hL_18 ha_19 (hP.sub [0, 1, 2, 3, 4, 5, 6, 7, 8, 9, 10, 11] rfl) (hD.sub [0, 1, 2, 3, 4, 5, 6, 7, 8, 9, 10, 11] rfl rfl) hS (lv_sub hl [0, 1] rfl)
        · skip
          refine lv_iload_n hx hb dX2_firstFitting_17 rfl (lv_at hl 0 rfl) ?_
          refine lv_iconst (v := 1) hx hb dX2_firstFitting_18 (by decide) ?_
          refine lv_isub hx hb dX2_firstFitting_19 ?_
          refine lv_topi (fun x_20 ex_20 => ?_)
          have hb_22 : dX2_firstFitting_l2 (Yf 3) ((7 - (yy_300 : Int32).toInt).toNat + 1) yy_300 = ((1 : Int32), x_20, yy_300) := by
            clear hP hD hS hl ih_2
            replace ex_12 := ex_12.symm; subst ex_12
            replace ex_20 := ex_20.symm; subst ex_20
            rw [dX2_firstFitting_l2_s]
            rw [if_neg c_7, if_neg c_13]
            try rfl
          have hX_21 : (dX2_firstFitting_l2 (Yf 3) ((7 - (0 : Int32).toInt).toNat + 1) (0 : Int32)) = ((1 : Int32), x_20, yy_300) := hL_5.trans hb_22
          have hX_21_0 : (dX2_firstFitting_l2 (Yf 3) ((7 - (0 : Int32).toInt).toNat + 1) (0 : Int32)).1 = (1 : Int32) := congrArg (fun z => z.1) hX_21
          have hX_21_1 : (dX2_firstFitting_l2 (Yf 3) ((7 - (0 : Int32).toInt).toNat + 1) (0 : Int32)).2.1 = x_20 := congrArg (fun z => z.2.1) hX_21
          have hX_21_2 : (dX2_firstFitting_l2 (Yf 3) ((7 - (0 : Int32).toInt).toNat + 1) (0 : Int32)).2.2 = yy_300 := congrArg (fun z => z.2.2) hX_21
          have hF_23 : x_20 = (dX2_firstFitting (Yf 3)) := by
            clear hP hD hS hl ih_2
            replace ex_12 := ex_12.symm; subst ex_12
            replace ex_20 := ex_20.symm; subst ex_20
            unfold dX2_firstFitting
            try rw [hX_21_0]
            try rw [hX_21_1]
            try rw [hX_21_2]
            rw [if_pos (show (1 : Int32) = (1 : Int32) from rfl)]
            try rfl
          exact retI (v := x_20) hx hb hr hlk (rfl) hP hD hS () ⟨_, rfl, ⟨trivial, hF_23⟩⟩ [0, 1, 2, 3, 4, 5, 6, 7, 8, 9, 10, 11] rfl rfl dX2_firstFitting_20 (Nat.le_of_ble_eq_true rfl) (Nat.le_of_ble_eq_true rfl) rfl
  have ha_24 : 0 ≤ (0 : Int32).toInt := by
    have y_0 : (0 : Int32).toInt = 0 := by decide
    omega
  exact loop_3 _ 0 _ _ _ (Nat.lt_succ_self _) rfl ha_24 hP hD hS hl
set_option maxRecDepth 100000 in
theorem cu_dX2_firstFitting (l : Launch) (D : va_G) (tc : Nat → ClassId) (sk : (Nat → Nat) × (Nat → Nat)) (Ya_0 : Nat) (Ya_2 : Nat) (Ya_3 : Nat) (Yv_0 : Int32) (Yf_2 : Nat → Int32) (Yf_3 : Nat → Int32) (Wa_0 : Nat) (Wa_1 : Nat) (Wa_2 : Nat) (Wa_3 : Nat) (Wa_4 : Nat) (Wa_5 : Nat) (Wa_6 : Nat) (Wa_7 : Nat) (Wa_8 : Nat) (Wv_0 : Int32) (Wv_1 : Int32) (Wv_2 : Int32) (Wv_3 : Int32) (Wv_4 : Int32) (Wv_5 : Int32) (Wf_1 : Nat → Int32) (Wf_2 : Nat → Int32) (Wf_3 : Nat → Int32) (Wf_4 : Nat → Int32) (Wf_5 : Nat → Int32) (Wf_6 : Nat → Int32) (Wf_7 : Nat → Int32) (Wf_8 : Nat → Int32)  : Ct l yX2_firstFitting cX2_firstFitting 2 (some .int) { frames := 0, cells := 0, slots := 0, locals := 0 } D tc sk [.ref Ya_0] [(Ya_0, .inr (2, [.ref Wa_0, .ref Ya_2, .ref Ya_3, .int Yv_0])), (Ya_2, .inl (tc 0, 427, .inl Yf_2)), (Ya_3, .inl (tc 3, 7, .inl Yf_3)), (Wa_0, .inr (9, [.int Wv_0, .int Wv_1, .int Wv_2, .int Wv_3, .int Wv_4, .int Wv_5, .ref Wa_1, .ref Wa_2, .ref Wa_3, .ref Wa_4, .ref Wa_5, .ref Wa_6, .ref Wa_7, .ref Wa_8])), (Wa_1, .inl (tc 0, 10, .inl Wf_1)), (Wa_2, .inl (tc 0, 10, .inl Wf_2)), (Wa_3, .inl (tc 0, 6, .inl Wf_3)), (Wa_4, .inl (tc 0, 6, .inl Wf_4)), (Wa_5, .inl (tc 0, 6, .inl Wf_5)), (Wa_6, .inl (tc 0, 6, .inl Wf_6)), (Wa_7, .inl (tc 0, 6, .inl Wf_7)), (Wa_8, .inl (tc 0, 6, .inl Wf_8))] (fun (v : Option Value) (_ : Unit) => ∃ r : Int32, v = some (.int r) ∧ ((True) ∧ r = (dX2_firstFitting Yf_3))) (fun (_ : Unit) => [(Ya_0, .inr (2, [.ref Wa_0, .ref Ya_2, .ref Ya_3, .int Yv_0])), (Ya_2, .inl (tc 0, 427, .inl Yf_2)), (Ya_3, .inl (tc 3, 7, .inl Yf_3)), (Wa_0, .inr (9, [.int Wv_0, .int Wv_1, .int Wv_2, .int Wv_3, .int Wv_4, .int Wv_5, .ref Wa_1, .ref Wa_2, .ref Wa_3, .ref Wa_4, .ref Wa_5, .ref Wa_6, .ref Wa_7, .ref Wa_8])), (Wa_1, .inl (tc 0, 10, .inl Wf_1)), (Wa_2, .inl (tc 0, 10, .inl Wf_2)), (Wa_3, .inl (tc 0, 6, .inl Wf_3)), (Wa_4, .inl (tc 0, 6, .inl Wf_4)), (Wa_5, .inl (tc 0, 6, .inl Wf_5)), (Wa_6, .inl (tc 0, 6, .inl Wf_6)), (Wa_7, .inl (tc 0, 6, .inl Wf_7)), (Wa_8, .inl (tc 0, 6, .inl Wf_8))]) 0 0 :=
  ct_dX2_firstFitting l D tc sk (fun k => ([Ya_0, 0, Ya_2, Ya_3] : List (Nat)).getD k 0) (fun k => ([Yv_0] : List (Int32)).getD k 0) (fun k => ([(fun _ => 0), (fun _ => 0), Yf_2, Yf_3] : List (Nat → Int32)).getD k (fun _ => 0)) (fun k => ([Wa_0, Wa_1, Wa_2, Wa_3, Wa_4, Wa_5, Wa_6, Wa_7, Wa_8] : List (Nat)).getD k 0) (fun k => ([Wv_0, Wv_1, Wv_2, Wv_3, Wv_4, Wv_5] : List (Int32)).getD k 0) (fun k => ([(fun _ => 0), Wf_1, Wf_2, Wf_3, Wf_4, Wf_5, Wf_6, Wf_7, Wf_8] : List (Nat → Int32)).getD k (fun _ => 0)) 
def dX2_mostAlike_l16 (Yf_2 : Nat → Int32) (Yf_3 : Nat → Int32) (zz_1703 : Int32) (zz_1701 : Int32) : Nat → Int32 → Int32 → Int32 × Int32
  | 0, _, _ => (0, 0)
  | n + 1, yy_1700, yy_1701 => (if (7 : Int32) ≤ yy_1700 then (yy_1700, yy_1701) else (if (Yf_3 (zz_1703).toNatClampNeg) = (0 : Int32) then dX2_mostAlike_l16 Yf_2 Yf_3 zz_1703 zz_1701 n (yy_1700 + 1) yy_1701 else (if (Yf_3 (yy_1700).toNatClampNeg) = (0 : Int32) then dX2_mostAlike_l16 Yf_2 Yf_3 zz_1703 zz_1701 n (yy_1700 + 1) yy_1701 else (if (dX2_whoOn Yf_2 zz_1703 zz_1701) = (dX2_whoOn Yf_2 yy_1700 zz_1701) then dX2_mostAlike_l16 Yf_2 Yf_3 zz_1703 zz_1701 n (yy_1700 + 1) (yy_1701 + 1) else dX2_mostAlike_l16 Yf_2 Yf_3 zz_1703 zz_1701 n (yy_1700 + 1) yy_1701))))
theorem dX2_mostAlike_l16_s {Yf_2 : Nat → Int32} {Yf_3 : Nat → Int32} {zz_1703 : Int32} {zz_1701 : Int32} {n : Nat} {yy_1700 : Int32} {yy_1701 : Int32} : dX2_mostAlike_l16 Yf_2 Yf_3 zz_1703 zz_1701 (n + 1) yy_1700 yy_1701 = (if (7 : Int32) ≤ yy_1700 then (yy_1700, yy_1701) else (if (Yf_3 (zz_1703).toNatClampNeg) = (0 : Int32) then dX2_mostAlike_l16 Yf_2 Yf_3 zz_1703 zz_1701 n (yy_1700 + 1) yy_1701 else (if (Yf_3 (yy_1700).toNatClampNeg) = (0 : Int32) then dX2_mostAlike_l16 Yf_2 Yf_3 zz_1703 zz_1701 n (yy_1700 + 1) yy_1701 else (if (dX2_whoOn Yf_2 zz_1703 zz_1701) = (dX2_whoOn Yf_2 yy_1700 zz_1701) then dX2_mostAlike_l16 Yf_2 Yf_3 zz_1703 zz_1701 n (yy_1700 + 1) (yy_1701 + 1) else dX2_mostAlike_l16 Yf_2 Yf_3 zz_1703 zz_1701 n (yy_1700 + 1) yy_1701)))) := rfl
def dX2_mostAlike_l4 (Yf_2 : Nat → Int32) (Yf_3 : Nat → Int32) (zz_501 : Int32) : Nat → Int32 → Int32 → Int32 × Int32
  | 0, _, _ => (0, 0)
  | n + 1, yy_500, yy_501 => (if (7 : Int32) ≤ yy_500 then (yy_500, yy_501) else dX2_mostAlike_l4 Yf_2 Yf_3 zz_501 n (yy_500 + 1) (if yy_501 < (dX2_mostAlike_l16 Yf_2 Yf_3 yy_500 zz_501 ((7 - (0 : Int32).toInt).toNat + 1) (0 : Int32) (0 : Int32)).2 then (dX2_mostAlike_l16 Yf_2 Yf_3 yy_500 zz_501 ((7 - (0 : Int32).toInt).toNat + 1) (0 : Int32) (0 : Int32)).2 else yy_501))
theorem dX2_mostAlike_l4_s {Yf_2 : Nat → Int32} {Yf_3 : Nat → Int32} {zz_501 : Int32} {n : Nat} {yy_500 : Int32} {yy_501 : Int32} : dX2_mostAlike_l4 Yf_2 Yf_3 zz_501 (n + 1) yy_500 yy_501 = (if (7 : Int32) ≤ yy_500 then (yy_500, yy_501) else dX2_mostAlike_l4 Yf_2 Yf_3 zz_501 n (yy_500 + 1) (if yy_501 < (dX2_mostAlike_l16 Yf_2 Yf_3 yy_500 zz_501 ((7 - (0 : Int32).toInt).toNat + 1) (0 : Int32) (0 : Int32)).2 then (dX2_mostAlike_l16 Yf_2 Yf_3 yy_500 zz_501 ((7 - (0 : Int32).toInt).toNat + 1) (0 : Int32) (0 : Int32)).2 else yy_501)) := rfl
def dX2_mostAlike (Yf_2 : Nat → Int32) (Yf_3 : Nat → Int32) (x1 : Int32) : Int32 := (dX2_mostAlike_l4 Yf_2 Yf_3 x1 ((7 - (0 : Int32).toInt).toNat + 1) (0 : Int32) (0 : Int32)).2
set_option maxHeartbeats 4000000 in
set_option maxRecDepth 100000 in
theorem ct_dX2_mostAlike (l : Launch) (D : va_G) (tc : Nat → ClassId) (sk : (Nat → Nat) × (Nat → Nat)) (Ya : Nat → Nat) (Yv : Nat → Int32) (Yf : Nat → Nat → Int32) (Wa : Nat → Nat) (Wv : Nat → Int32) (Wf : Nat → Nat → Int32) (x1 : Int32)  : Ct l yX2_mostAlike cX2_mostAlike 6 (some .int) { frames := 1, cells := 0, slots := 0, locals := 23 } D tc sk [.ref (Ya 0), .int x1] [((Ya 0), .inr (2, [.ref (Wa 0), .ref (Ya 2), .ref (Ya 3), .int (Yv 0)])), ((Ya 2), .inl (tc 0, 427, .inl (Yf 2))), ((Ya 3), .inl (tc 3, 7, .inl (Yf 3))), ((Wa 0), .inr (9, [.int (Wv 0), .int (Wv 1), .int (Wv 2), .int (Wv 3), .int (Wv 4), .int (Wv 5), .ref (Wa 1), .ref (Wa 2), .ref (Wa 3), .ref (Wa 4), .ref (Wa 5), .ref (Wa 6), .ref (Wa 7), .ref (Wa 8)])), ((Wa 1), .inl (tc 0, 10, .inl (Wf 1))), ((Wa 2), .inl (tc 0, 10, .inl (Wf 2))), ((Wa 3), .inl (tc 0, 6, .inl (Wf 3))), ((Wa 4), .inl (tc 0, 6, .inl (Wf 4))), ((Wa 5), .inl (tc 0, 6, .inl (Wf 5))), ((Wa 6), .inl (tc 0, 6, .inl (Wf 6))), ((Wa 7), .inl (tc 0, 6, .inl (Wf 7))), ((Wa 8), .inl (tc 0, 6, .inl (Wf 8)))] (fun (v : Option Value) (_ : Unit) => ∃ r : Int32, v = some (.int r) ∧ ((True) ∧ r = (dX2_mostAlike (Yf 2) (Yf 3) x1))) (fun (_ : Unit) => [((Ya 0), .inr (2, [.ref (Wa 0), .ref (Ya 2), .ref (Ya 3), .int (Yv 0)])), ((Ya 2), .inl (tc 0, 427, .inl (Yf 2))), ((Ya 3), .inl (tc 3, 7, .inl (Yf 3))), ((Wa 0), .inr (9, [.int (Wv 0), .int (Wv 1), .int (Wv 2), .int (Wv 3), .int (Wv 4), .int (Wv 5), .ref (Wa 1), .ref (Wa 2), .ref (Wa 3), .ref (Wa 4), .ref (Wa 5), .ref (Wa 6), .ref (Wa 7), .ref (Wa 8)])), ((Wa 1), .inl (tc 0, 10, .inl (Wf 1))), ((Wa 2), .inl (tc 0, 10, .inl (Wf 2))), ((Wa 3), .inl (tc 0, 6, .inl (Wf 3))), ((Wa 4), .inl (tc 0, 6, .inl (Wf 4))), ((Wa 5), .inl (tc 0, 6, .inl (Wf 5))), ((Wa 6), .inl (tc 0, 6, .inl (Wf 6))), ((Wa 7), .inl (tc 0, 6, .inl (Wf 7))), ((Wa 8), .inl (tc 0, 6, .inl (Wf 8)))]) 0 0 := by
  refine Ct.start (by decide) (Nat.le_of_ble_eq_true rfl) (fun p e s m below meth c A ls hx hb hr hlk hin hml hown hts hK hX hP hD hA hl hS => ?_)
  have hl : lv_has ls 6 [(0, .ref (Ya 0)), (1, .int x1)] := hl
  refine lv_iconst (v := 0) hx hb dX2_mostAlike_0 (by decide) ?_
  refine lv_istore_n (lv' := [(2, .int 0), (0, .ref (Ya 0)), (1, .int x1)]) hx hb dX2_mostAlike_1 rfl hl (by decide) rfl (fun ls hl₀ => ?_)
  replace hl := hl₀
  clear hl₀
  refine lv_iconst (v := 0) hx hb dX2_mostAlike_2 (by decide) ?_
  refine lv_istore_n (lv' := [(3, .int 0), (2, .int 0), (0, .ref (Ya 0)), (1, .int x1)]) hx hb dX2_mostAlike_3 rfl hl (by decide) rfl (fun ls hl₀ => ?_)
  replace hl := hl₀
  clear hl₀
  have loop_3 : ∀ (n_1 : Nat) (yy_500 : Int32) (yy_501 : Int32) (H : Heap) (locs : List Loc) (ls : Array Slot), (7 - (yy_500 : Int32).toInt).toNat < n_1 → (dX2_mostAlike_l4 (Yf 2) (Yf 3) x1 ((7 - (0 : Int32).toInt).toNat + 1) (0 : Int32) (0 : Int32)) = dX2_mostAlike_l4 (Yf 2) (Yf 3) x1 ((7 - (yy_500 : Int32).toInt).toNat + 1) yy_500 yy_501 → (0 ≤ (yy_500 : Int32).toInt) → va_P D classes [((Ya 0), .inr (2, [.ref (Wa 0), .ref (Ya 2), .ref (Ya 3), .int (Yv 0)])), ((Ya 2), .inl (tc 0, 427, .inl (Yf 2))), ((Ya 3), .inl (tc 3, 7, .inl (Yf 3))), ((Wa 0), .inr (9, [.int (Wv 0), .int (Wv 1), .int (Wv 2), .int (Wv 3), .int (Wv 4), .int (Wv 5), .ref (Wa 1), .ref (Wa 2), .ref (Wa 3), .ref (Wa 4), .ref (Wa 5), .ref (Wa 6), .ref (Wa 7), .ref (Wa 8)])), ((Wa 1), .inl (tc 0, 10, .inl (Wf 1))), ((Wa 2), .inl (tc 0, 10, .inl (Wf 2))), ((Wa 3), .inl (tc 0, 6, .inl (Wf 3))), ((Wa 4), .inl (tc 0, 6, .inl (Wf 4))), ((Wa 5), .inl (tc 0, 6, .inl (Wf 5))), ((Wa 6), .inl (tc 0, 6, .inl (Wf 6))), ((Wa 7), .inl (tc 0, 6, .inl (Wf 7))), ((Wa 8), .inl (tc 0, 6, .inl (Wf 8)))] H → va_D A [((Ya 0), .inr (2, [.ref (Wa 0), .ref (Ya 2), .ref (Ya 3), .int (Yv 0)])), ((Ya 2), .inl (tc 0, 427, .inl (Yf 2))), ((Ya 3), .inl (tc 3, 7, .inl (Yf 3))), ((Wa 0), .inr (9, [.int (Wv 0), .int (Wv 1), .int (Wv 2), .int (Wv 3), .int (Wv 4), .int (Wv 5), .ref (Wa 1), .ref (Wa 2), .ref (Wa 3), .ref (Wa 4), .ref (Wa 5), .ref (Wa 6), .ref (Wa 7), .ref (Wa 8)])), ((Wa 1), .inl (tc 0, 10, .inl (Wf 1))), ((Wa 2), .inl (tc 0, 10, .inl (Wf 2))), ((Wa 3), .inl (tc 0, 6, .inl (Wf 3))), ((Wa 4), .inl (tc 0, 6, .inl (Wf 4))), ((Wa 5), .inl (tc 0, 6, .inl (Wf 5))), ((Wa 6), .inl (tc 0, 6, .inl (Wf 6))), ((Wa 7), .inl (tc 0, 6, .inl (Wf 7))), ((Wa 8), .inl (tc 0, 6, .inl (Wf 8)))] → va_S A s.heap H locs → lv_has ls 6 [(3, .int yy_500), (2, .int yy_501), (0, .ref (Ya 0)), (1, .int x1)] → W p l e ({ frames := 1, cells := 0, slots := 0, locals := 23 }) s m ([.ref (Ya 0), .int x1].toArray) below meth c H locs 0 0 (MQ below (QW (fun (v : Option Value) (_ : Unit) => ∃ r : Int32, v = some (.int r) ∧ ((True) ∧ r = (dX2_mostAlike (Yf 2) (Yf 3) x1))) (BW D (fun (_ : Unit) => [((Ya 0), .inr (2, [.ref (Wa 0), .ref (Ya 2), .ref (Ya 3), .int (Yv 0)])), ((Ya 2), .inl (tc 0, 427, .inl (Yf 2))), ((Ya 3), .inl (tc 3, 7, .inl (Yf 3))), ((Wa 0), .inr (9, [.int (Wv 0), .int (Wv 1), .int (Wv 2), .int (Wv 3), .int (Wv 4), .int (Wv 5), .ref (Wa 1), .ref (Wa 2), .ref (Wa 3), .ref (Wa 4), .ref (Wa 5), .ref (Wa 6), .ref (Wa 7), .ref (Wa 8)])), ((Wa 1), .inl (tc 0, 10, .inl (Wf 1))), ((Wa 2), .inl (tc 0, 10, .inl (Wf 2))), ((Wa 3), .inl (tc 0, 6, .inl (Wf 3))), ((Wa 4), .inl (tc 0, 6, .inl (Wf 4))), ((Wa 5), .inl (tc 0, 6, .inl (Wf 5))), ((Wa 6), .inl (tc 0, 6, .inl (Wf 6))), ((Wa 7), .inl (tc 0, 6, .inl (Wf 7))), ((Wa 8), .inl (tc 0, 6, .inl (Wf 8)))]) A) A) ([.ref (Ya 0), .int x1].toArray) s 0 0 A) (F0 m 4 ls []) := by
    clear hP hD hS hl
    intro n_1
    induction n_1 with
    | zero =>
      intro yy_500 yy_501 H locs ls h1
      exact absurd h1 (Nat.not_lt_zero _)
    | succ n_1 ih_2 =>
      intro yy_500 yy_501 H locs ls hn_6 hL_5 pf_4 hP hD hS hl
      refine lv_iload_n hx hb dX2_mostAlike_4 rfl (lv_at hl 0 rfl) ?_
      refine lv_bipush (v := 7) hx hb dX2_mostAlike_5 (by decide) ?_
      refine lv_icmp_ge (tgt := 80) hx hb dX2_mostAlike_7 (by decide) (fun c_7 => ?_) (fun c_7 => ?_)
      · skip
        have hb_9 : dX2_mostAlike_l4 (Yf 2) (Yf 3) x1 ((7 - (yy_500 : Int32).toInt).toNat + 1) yy_500 yy_501 = (yy_500, yy_501) := by
          clear hP hD hS hl ih_2
          rw [dX2_mostAlike_l4_s]
          rw [if_pos c_7]
          try rfl
        have hX_8 : (dX2_mostAlike_l4 (Yf 2) (Yf 3) x1 ((7 - (0 : Int32).toInt).toNat + 1) (0 : Int32) (0 : Int32)) = (yy_500, yy_501) := hL_5.trans hb_9
        have hX_8_0 : (dX2_mostAlike_l4 (Yf 2) (Yf 3) x1 ((7 - (0 : Int32).toInt).toNat + 1) (0 : Int32) (0 : Int32)).1 = yy_500 := congrArg (fun z => z.1) hX_8
        have hX_8_1 : (dX2_mostAlike_l4 (Yf 2) (Yf 3) x1 ((7 - (0 : Int32).toInt).toNat + 1) (0 : Int32) (0 : Int32)).2 = yy_501 := congrArg (fun z => z.2) hX_8
        refine lv_iload_n hx hb dX2_mostAlike_80 rfl (lv_at hl 1 rfl) ?_
        have hF_10 : yy_501 = (dX2_mostAlike (Yf 2) (Yf 3) x1) := by
          clear hP hD hS hl ih_2
          unfold dX2_mostAlike
          try rw [hX_8_0]
          try rw [hX_8_1]
          try rfl
        exact retI (v := yy_501) hx hb hr hlk (rfl) hP hD hS () ⟨_, rfl, ⟨trivial, hF_10⟩⟩ [0, 1, 2, 3, 4, 5, 6, 7, 8, 9, 10, 11] rfl rfl dX2_mostAlike_81 (Nat.le_of_ble_eq_true rfl) (Nat.le_of_ble_eq_true rfl) rfl
      · skip
        refine lv_iconst (v := 0) hx hb dX2_mostAlike_10 (by decide) ?_
        refine lv_istore (lv' := [(4, .int 0), (3, .int yy_500), (2, .int yy_501), (0, .ref (Ya 0)), (1, .int x1)]) hx hb dX2_mostAlike_11 hl (by decide) rfl (fun ls hl₀ => ?_)
        replace hl := hl₀
        clear hl₀
        refine lv_iconst (v := 0) hx hb dX2_mostAlike_13 (by decide) ?_
        refine lv_istore (lv' := [(5, .int 0), (4, .int 0), (3, .int yy_500), (2, .int yy_501), (0, .ref (Ya 0)), (1, .int x1)]) hx hb dX2_mostAlike_14 hl (by decide) rfl (fun ls hl₀ => ?_)
        replace hl := hl₀
        clear hl₀
        have loop_13 : ∀ (n_11 : Nat) (yy_1700 : Int32) (yy_1701 : Int32) (H : Heap) (locs : List Loc) (ls : Array Slot), (7 - (yy_1700 : Int32).toInt).toNat < n_11 → (dX2_mostAlike_l16 (Yf 2) (Yf 3) yy_500 x1 ((7 - (0 : Int32).toInt).toNat + 1) (0 : Int32) (0 : Int32)) = dX2_mostAlike_l16 (Yf 2) (Yf 3) yy_500 x1 ((7 - (yy_1700 : Int32).toInt).toNat + 1) yy_1700 yy_1701 → (0 ≤ (yy_1700 : Int32).toInt) → va_P D classes [((Ya 0), .inr (2, [.ref (Wa 0), .ref (Ya 2), .ref (Ya 3), .int (Yv 0)])), ((Ya 2), .inl (tc 0, 427, .inl (Yf 2))), ((Ya 3), .inl (tc 3, 7, .inl (Yf 3))), ((Wa 0), .inr (9, [.int (Wv 0), .int (Wv 1), .int (Wv 2), .int (Wv 3), .int (Wv 4), .int (Wv 5), .ref (Wa 1), .ref (Wa 2), .ref (Wa 3), .ref (Wa 4), .ref (Wa 5), .ref (Wa 6), .ref (Wa 7), .ref (Wa 8)])), ((Wa 1), .inl (tc 0, 10, .inl (Wf 1))), ((Wa 2), .inl (tc 0, 10, .inl (Wf 2))), ((Wa 3), .inl (tc 0, 6, .inl (Wf 3))), ((Wa 4), .inl (tc 0, 6, .inl (Wf 4))), ((Wa 5), .inl (tc 0, 6, .inl (Wf 5))), ((Wa 6), .inl (tc 0, 6, .inl (Wf 6))), ((Wa 7), .inl (tc 0, 6, .inl (Wf 7))), ((Wa 8), .inl (tc 0, 6, .inl (Wf 8)))] H → va_D A [((Ya 0), .inr (2, [.ref (Wa 0), .ref (Ya 2), .ref (Ya 3), .int (Yv 0)])), ((Ya 2), .inl (tc 0, 427, .inl (Yf 2))), ((Ya 3), .inl (tc 3, 7, .inl (Yf 3))), ((Wa 0), .inr (9, [.int (Wv 0), .int (Wv 1), .int (Wv 2), .int (Wv 3), .int (Wv 4), .int (Wv 5), .ref (Wa 1), .ref (Wa 2), .ref (Wa 3), .ref (Wa 4), .ref (Wa 5), .ref (Wa 6), .ref (Wa 7), .ref (Wa 8)])), ((Wa 1), .inl (tc 0, 10, .inl (Wf 1))), ((Wa 2), .inl (tc 0, 10, .inl (Wf 2))), ((Wa 3), .inl (tc 0, 6, .inl (Wf 3))), ((Wa 4), .inl (tc 0, 6, .inl (Wf 4))), ((Wa 5), .inl (tc 0, 6, .inl (Wf 5))), ((Wa 6), .inl (tc 0, 6, .inl (Wf 6))), ((Wa 7), .inl (tc 0, 6, .inl (Wf 7))), ((Wa 8), .inl (tc 0, 6, .inl (Wf 8)))] → va_S A s.heap H locs → lv_has ls 6 [(5, .int yy_1700), (4, .int yy_1701), (3, .int yy_500), (2, .int yy_501), (0, .ref (Ya 0)), (1, .int x1)] → W p l e ({ frames := 1, cells := 0, slots := 0, locals := 23 }) s m ([.ref (Ya 0), .int x1].toArray) below meth c H locs 0 0 (MQ below (QW (fun (v : Option Value) (_ : Unit) => ∃ r : Int32, v = some (.int r) ∧ ((True) ∧ r = (dX2_mostAlike (Yf 2) (Yf 3) x1))) (BW D (fun (_ : Unit) => [((Ya 0), .inr (2, [.ref (Wa 0), .ref (Ya 2), .ref (Ya 3), .int (Yv 0)])), ((Ya 2), .inl (tc 0, 427, .inl (Yf 2))), ((Ya 3), .inl (tc 3, 7, .inl (Yf 3))), ((Wa 0), .inr (9, [.int (Wv 0), .int (Wv 1), .int (Wv 2), .int (Wv 3), .int (Wv 4), .int (Wv 5), .ref (Wa 1), .ref (Wa 2), .ref (Wa 3), .ref (Wa 4), .ref (Wa 5), .ref (Wa 6), .ref (Wa 7), .ref (Wa 8)])), ((Wa 1), .inl (tc 0, 10, .inl (Wf 1))), ((Wa 2), .inl (tc 0, 10, .inl (Wf 2))), ((Wa 3), .inl (tc 0, 6, .inl (Wf 3))), ((Wa 4), .inl (tc 0, 6, .inl (Wf 4))), ((Wa 5), .inl (tc 0, 6, .inl (Wf 5))), ((Wa 6), .inl (tc 0, 6, .inl (Wf 6))), ((Wa 7), .inl (tc 0, 6, .inl (Wf 7))), ((Wa 8), .inl (tc 0, 6, .inl (Wf 8)))]) A) A) ([.ref (Ya 0), .int x1].toArray) s 0 0 A) (F0 m 16 ls []) := by
          clear hP hD hS hl
          intro n_11
          induction n_11 with
          | zero =>
            intro yy_1700 yy_1701 H locs ls h1
            exact absurd h1 (Nat.not_lt_zero _)
          | succ n_11 ih_12 =>
            intro yy_1700 yy_1701 H locs ls hn_16 hL_15 pf_14 hP hD hS hl
            refine lv_iload hx hb dX2_mostAlike_16 (lv_at hl 0 rfl) ?_
            refine lv_bipush (v := 7) hx hb dX2_mostAlike_18 (by decide) ?_
            refine lv_icmp_ge (tgt := 67) hx hb dX2_mostAlike_20 (by decide) (fun c_17 => ?_) (fun c_17 => ?_)
            · skip
              have hb_19 : dX2_mostAlike_l16 (Yf 2) (Yf 3) yy_500 x1 ((7 - (yy_1700 : Int32).toInt).toNat + 1) yy_1700 yy_1701 = (yy_1700, yy_1701) := by
                clear hP hD hS hl ih_12 ih_2
                rw [dX2_mostAlike_l16_s]
                rw [if_pos c_17]
                try rfl
              have hX_18 : (dX2_mostAlike_l16 (Yf 2) (Yf 3) yy_500 x1 ((7 - (0 : Int32).toInt).toNat + 1) (0 : Int32) (0 : Int32)) = (yy_1700, yy_1701) := hL_15.trans hb_19
              have hX_18_0 : (dX2_mostAlike_l16 (Yf 2) (Yf 3) yy_500 x1 ((7 - (0 : Int32).toInt).toNat + 1) (0 : Int32) (0 : Int32)).1 = yy_1700 := congrArg (fun z => z.1) hX_18
              have hX_18_1 : (dX2_mostAlike_l16 (Yf 2) (Yf 3) yy_500 x1 ((7 - (0 : Int32).toInt).toNat + 1) (0 : Int32) (0 : Int32)).2 = yy_1701 := congrArg (fun z => z.2) hX_18
              refine lv_iload_n hx hb dX2_mostAlike_67 rfl (lv_at hl 3 rfl) ?_
              refine lv_iload hx hb dX2_mostAlike_68 (lv_at hl 1 rfl) ?_
              refine va_mmax hx hb (hml.trans hl.1.symm) hown (hts _ k_1008) (hts _ k_774) (hts _ k_114) (hts _ k_775) (Nat.le_of_ble_eq_true rfl) (Nat.le_of_ble_eq_true rfl) (Nat.le_of_ble_eq_true rfl) (Nat.le_of_ble_eq_true rfl) dX2_mostAlike_70 ?_
              refine lv_topi (fun x_20 ex_20 => ?_)
              have mx_20 := imax_f ex_20
              refine lv_istore_n (lv' := [(2, .int x_20), (5, .int yy_1700), (4, .int yy_1701), (3, .int yy_500), (0, .ref (Ya 0)), (1, .int x1)]) hx hb dX2_mostAlike_73 rfl hl (by decide) rfl (fun ls hl₀ => ?_)
              replace hl := hl₀
              clear hl₀
              obtain ⟨x_21, ex_21⟩ : ∃ y : Int32, y = yy_500 + 1 := ⟨_, rfl⟩
              refine lv_iinc (v := x_21) (lv' := [(3, .int x_21), (2, .int x_20), (5, .int yy_1700), (4, .int yy_1701), (0, .ref (Ya 0)), (1, .int x1)]) hx hb dX2_mostAlike_74 hl (k := 3) rfl (by rw [ex_21]; rfl) (by decide) rfl (fun ls hl₀ => ?_)
              replace hl := hl₀
              clear hl₀
              refine lv_goto (tgt := 4) hx hb dX2_mostAlike_77 (by decide) ?_
              have hb_22 : 7 - (x_21 : Int32).toInt < 7 - (yy_500 : Int32).toInt ∧ 1 ≤ 7 - (yy_500 : Int32).toInt := by
                have z_1 := Int32.lt_iff_toInt_lt.mp (Int32.not_le.mp c_7)
                have z_2 := Int32.le_iff_toInt_le.mp c_17
                have y_7 : (7 : Int32).toInt = 7 := by decide
                have y_1 : (1 : Int32).toInt = 1 := by decide
                have t_x_21 : x_21.toInt = (yy_500 : Int32).toInt + (1 : Int32).toInt := by rw [ex_21]; exact add_toInt (by omega) (by omega)
                omega
              have hm_23 : (7 - (yy_500 : Int32).toInt).toNat = (7 - (x_21 : Int32).toInt).toNat + 1 := by
                have z_1 := Int32.lt_iff_toInt_lt.mp (Int32.not_le.mp c_7)
                have z_2 := Int32.le_iff_toInt_le.mp c_17
                have y_7 : (7 : Int32).toInt = 7 := by decide
                have y_1 : (1 : Int32).toInt = 1 := by decide
                have t_x_21 : x_21.toInt = (yy_500 : Int32).toInt + (1 : Int32).toInt := by rw [ex_21]; exact add_toInt (by omega) (by omega)
                omega
              have hb_24 : dX2_mostAlike_l4 (Yf 2) (Yf 3) x1 ((7 - (yy_500 : Int32).toInt).toNat + 1) yy_500 yy_501 = dX2_mostAlike_l4 (Yf 2) (Yf 3) x1 ((7 - (yy_500 : Int32).toInt).toNat) x_21 x_20 := by
                clear hP hD hS hl ih_12 ih_2
                replace ex_20 := ex_20.symm; subst ex_20
                replace ex_21 := ex_21.symm; subst ex_21
                rw [dX2_mostAlike_l4_s]
                try rw [hX_18_0]
                try rw [hX_18_1]
                rw [if_neg c_7]
                try rfl
              have hL_25 : (dX2_mostAlike_l4 (Yf 2) (Yf 3) x1 ((7 - (0 : Int32).toInt).toNat + 1) (0 : Int32) (0 : Int32)) = dX2_mostAlike_l4 (Yf 2) (Yf 3) x1 ((7 - (x_21 : Int32).toInt).toNat + 1) x_21 x_20 := by
                rw [hL_5, hb_24, hm_23]
              have ha_26 : 0 ≤ (x_21 : Int32).toInt := by
                have z_1 := Int32.lt_iff_toInt_lt.mp (Int32.not_le.mp c_7)
                have z_2 := Int32.le_iff_toInt_le.mp c_17
                have y_7 : (7 : Int32).toInt = 7 := by decide
                have y_1 : (1 : Int32).toInt = 1 := by decide
                have t_x_21 : x_21.toInt = (yy_500 : Int32).toInt + (1 : Int32).toInt := by rw [ex_21]; exact add_toInt (by omega) (by omega)
                omega
              exact ih_2 x_21 x_20 _ _ _ (by omega) hL_25 ha_26 (hP.sub [0, 1, 2, 3, 4, 5, 6, 7, 8, 9, 10, 11] rfl) (hD.sub [0, 1, 2, 3, 4, 5, 6, 7, 8, 9, 10, 11] rfl rfl) hS (lv_sub hl [0, 1, 4, 5] rfl)
            · skip
              refine lv_aload_n hx hb dX2_mostAlike_23 rfl (lv_at hl 4 rfl) ?_
              refine gf_X2_22 hx hb hts hown hK hP 0 rfl rfl dX2_mostAlike_24 ?_
              refine lv_iload_n hx hb dX2_mostAlike_27 rfl (lv_at hl 2 rfl) ?_
              have hi_27 : vp_in yy_500 7 := by
                have z_1 := Int32.lt_iff_toInt_lt.mp (Int32.not_le.mp c_7)
                have z_2 := Int32.lt_iff_toInt_lt.mp (Int32.not_le.mp c_17)
                have y_7 : (7 : Int32).toInt = 7 := by decide
                refine vp_in_iff.mpr ⟨?_, ?_⟩ <;> omega
              refine va_zald hx hb hK hP 2 3 rfl rfl hi_27 dX2_mostAlike_28 ?_
              refine lv_topi (fun x_28 ex_28 => ?_)
              refine lv_if_eq (tgt := 61) hx hb dX2_mostAlike_29 (by decide) (fun c_29 => ?_) (fun c_29 => ?_)
              · skip
                obtain ⟨x_30, ex_30⟩ : ∃ y : Int32, y = yy_1700 + 1 := ⟨_, rfl⟩
                refine lv_iinc (v := x_30) (lv' := [(5, .int x_30), (4, .int yy_1701), (3, .int yy_500), (2, .int yy_501), (0, .ref (Ya 0)), (1, .int x1)]) hx hb dX2_mostAlike_61 hl (k := 0) rfl (by rw [ex_30]; rfl) (by decide) rfl (fun ls hl₀ => ?_)
                replace hl := hl₀
                clear hl₀
                refine lv_goto (tgt := 16) hx hb dX2_mostAlike_64 (by decide) ?_
                have hb_31 : 7 - (x_30 : Int32).toInt < 7 - (yy_1700 : Int32).toInt ∧ 1 ≤ 7 - (yy_1700 : Int32).toInt := by
                  have z_1 := Int32.lt_iff_toInt_lt.mp (Int32.not_le.mp c_7)
                  have z_2 := Int32.lt_iff_toInt_lt.mp (Int32.not_le.mp c_17)
                  have z_3 := congrArg Int32.toInt c_29
                  have y_0 : (0 : Int32).toInt = 0 := by decide
                  have y_7 : (7 : Int32).toInt = 7 := by decide
                  have y_1 : (1 : Int32).toInt = 1 := by decide
                  have t_x_30 : x_30.toInt = (yy_1700 : Int32).toInt + (1 : Int32).toInt := by rw [ex_30]; exact add_toInt (by omega) (by omega)
                  omega
                have hm_32 : (7 - (yy_1700 : Int32).toInt).toNat = (7 - (x_30 : Int32).toInt).toNat + 1 := by
                  have z_1 := Int32.lt_iff_toInt_lt.mp (Int32.not_le.mp c_7)
                  have z_2 := Int32.lt_iff_toInt_lt.mp (Int32.not_le.mp c_17)
                  have z_3 := congrArg Int32.toInt c_29
                  have y_0 : (0 : Int32).toInt = 0 := by decide
                  have y_7 : (7 : Int32).toInt = 7 := by decide
                  have y_1 : (1 : Int32).toInt = 1 := by decide
                  have t_x_30 : x_30.toInt = (yy_1700 : Int32).toInt + (1 : Int32).toInt := by rw [ex_30]; exact add_toInt (by omega) (by omega)
                  omega
                have hb_33 : dX2_mostAlike_l16 (Yf 2) (Yf 3) yy_500 x1 ((7 - (yy_1700 : Int32).toInt).toNat + 1) yy_1700 yy_1701 = dX2_mostAlike_l16 (Yf 2) (Yf 3) yy_500 x1 ((7 - (yy_1700 : Int32).toInt).toNat) x_30 yy_1701 := by
                  clear hP hD hS hl ih_12 ih_2
                  replace ex_28 := ex_28.symm; subst ex_28
                  replace ex_30 := ex_30.symm; subst ex_30
                  rw [dX2_mostAlike_l16_s]
                  rw [if_neg c_17, if_pos c_29]
                  try rfl
                have hL_34 : (dX2_mostAlike_l16 (Yf 2) (Yf 3) yy_500 x1 ((7 - (0 : Int32).toInt).toNat + 1) (0 : Int32) (0 : Int32)) = dX2_mostAlike_l16 (Yf 2) (Yf 3) yy_500 x1 ((7 - (x_30 : Int32).toInt).toNat + 1) x_30 yy_1701 := by
                  rw [hL_15, hb_33, hm_32]
                have ha_35 : 0 ≤ (x_30 : Int32).toInt := by
                  have z_1 := Int32.lt_iff_toInt_lt.mp (Int32.not_le.mp c_7)
                  have z_2 := Int32.lt_iff_toInt_lt.mp (Int32.not_le.mp c_17)
                  have z_3 := congrArg Int32.toInt c_29
                  have y_0 : (0 : Int32).toInt = 0 := by decide
                  have y_7 : (7 : Int32).toInt = 7 := by decide
                  have y_1 : (1 : Int32).toInt = 1 := by decide
                  have t_x_30 : x_30.toInt = (yy_1700 : Int32).toInt + (1 : Int32).toInt := by rw [ex_30]; exact add_toInt (by omega) (by omega)
                  omega
                exact ih_12 x_30 yy_1701 _ _ _ (by omega) hL_34 ha_35 (hP.sub [0, 1, 2, 3, 4, 5, 6, 7, 8, 9, 10, 11] rfl) (hD.sub [0, 1, 2, 3, 4, 5, 6, 7, 8, 9, 10, 11] rfl rfl) hS (lv_sub hl [0, 1, 2, 3, 4, 5] rfl)
              · skip
                refine lv_aload_n hx hb dX2_mostAlike_32 rfl (lv_at hl 4 rfl) ?_
                refine gf_X2_22 hx hb hts hown hK hP 0 rfl rfl dX2_mostAlike_33 ?_
                refine lv_iload hx hb dX2_mostAlike_36 (lv_at hl 0 rfl) ?_
                have hi_36 : vp_in yy_1700 7 := by
                  have z_1 := Int32.lt_iff_toInt_lt.mp (Int32.not_le.mp c_7)
                  have z_2 := Int32.lt_iff_toInt_lt.mp (Int32.not_le.mp c_17)
                  have z_3 : ¬ (x_28 : Int32).toInt = (0 : Int32).toInt := fun z => c_29 (Int32.toInt_inj.mp z)
                  have y_0 : (0 : Int32).toInt = 0 := by decide
                  have y_7 : (7 : Int32).toInt = 7 := by decide
                  refine vp_in_iff.mpr ⟨?_, ?_⟩ <;> omega
                refine va_zald hx hb hK hP 2 3 rfl rfl hi_36 dX2_mostAlike_38 ?_
                refine lv_topi (fun x_37 ex_37 => ?_)
                refine lv_if_eq (tgt := 61) hx hb dX2_mostAlike_39 (by decide) (fun c_38 => ?_) (fun c_38 => ?_)
                · skip
                  obtain ⟨x_39, ex_39⟩ : ∃ y : Int32, y = yy_1700 + 1 := ⟨_, rfl⟩
                  refine lv_iinc (v := x_39) (lv' := [(5, .int x_39), (4, .int yy_1701), (3, .int yy_500), (2, .int yy_501), (0, .ref (Ya 0)), (1, .int x1)]) hx hb dX2_mostAlike_61 hl (k := 0) rfl (by rw [ex_39]; rfl) (by decide) rfl (fun ls hl₀ => ?_)
                  replace hl := hl₀
                  clear hl₀
                  refine lv_goto (tgt := 16) hx hb dX2_mostAlike_64 (by decide) ?_
                  have hb_40 : 7 - (x_39 : Int32).toInt < 7 - (yy_1700 : Int32).toInt ∧ 1 ≤ 7 - (yy_1700 : Int32).toInt := by
                    have z_1 := Int32.lt_iff_toInt_lt.mp (Int32.not_le.mp c_7)
                    have z_2 := Int32.lt_iff_toInt_lt.mp (Int32.not_le.mp c_17)
                    have z_3 : ¬ (x_28 : Int32).toInt = (0 : Int32).toInt := fun z => c_29 (Int32.toInt_inj.mp z)
                    have z_4 := congrArg Int32.toInt c_38
                    have y_0 : (0 : Int32).toInt = 0 := by decide
                    have y_7 : (7 : Int32).toInt = 7 := by decide
                    have y_1 : (1 : Int32).toInt = 1 := by decide
                    have t_x_39 : x_39.toInt = (yy_1700 : Int32).toInt + (1 : Int32).toInt := by rw [ex_39]; exact add_toInt (by omega) (by omega)
                    omega
                  have hm_41 : (7 - (yy_1700 : Int32).toInt).toNat = (7 - (x_39 : Int32).toInt).toNat + 1 := by
                    have z_1 := Int32.lt_iff_toInt_lt.mp (Int32.not_le.mp c_7)
                    have z_2 := Int32.lt_iff_toInt_lt.mp (Int32.not_le.mp c_17)
                    have z_3 : ¬ (x_28 : Int32).toInt = (0 : Int32).toInt := fun z => c_29 (Int32.toInt_inj.mp z)
                    have z_4 := congrArg Int32.toInt c_38
                    have y_0 : (0 : Int32).toInt = 0 := by decide
                    have y_7 : (7 : Int32).toInt = 7 := by decide
                    have y_1 : (1 : Int32).toInt = 1 := by decide
                    have t_x_39 : x_39.toInt = (yy_1700 : Int32).toInt + (1 : Int32).toInt := by rw [ex_39]; exact add_toInt (by omega) (by omega)
                    omega
                  have hb_42 : dX2_mostAlike_l16 (Yf 2) (Yf 3) yy_500 x1 ((7 - (yy_1700 : Int32).toInt).toNat + 1) yy_1700 yy_1701 = dX2_mostAlike_l16 (Yf 2) (Yf 3) yy_500 x1 ((7 - (yy_1700 : Int32).toInt).toNat) x_39 yy_1701 := by
                    clear hP hD hS hl ih_12 ih_2
                    replace ex_28 := ex_28.symm; subst ex_28
                    replace ex_37 := ex_37.symm; subst ex_37
                    replace ex_39 := ex_39.symm; subst ex_39
                    rw [dX2_mostAlike_l16_s]
                    rw [if_neg c_17, if_neg c_29, if_pos c_38]
                    try rfl
                  have hL_43 : (dX2_mostAlike_l16 (Yf 2) (Yf 3) yy_500 x1 ((7 - (0 : Int32).toInt).toNat + 1) (0 : Int32) (0 : Int32)) = dX2_mostAlike_l16 (Yf 2) (Yf 3) yy_500 x1 ((7 - (x_39 : Int32).toInt).toNat + 1) x_39 yy_1701 := by
                    rw [hL_15, hb_42, hm_41]
                  have ha_44 : 0 ≤ (x_39 : Int32).toInt := by
                    have z_1 := Int32.lt_iff_toInt_lt.mp (Int32.not_le.mp c_7)
                    have z_2 := Int32.lt_iff_toInt_lt.mp (Int32.not_le.mp c_17)
                    have z_3 : ¬ (x_28 : Int32).toInt = (0 : Int32).toInt := fun z => c_29 (Int32.toInt_inj.mp z)
                    have z_4 := congrArg Int32.toInt c_38
                    have y_0 : (0 : Int32).toInt = 0 := by decide
                    have y_7 : (7 : Int32).toInt = 7 := by decide
                    have y_1 : (1 : Int32).toInt = 1 := by decide
                    have t_x_39 : x_39.toInt = (yy_1700 : Int32).toInt + (1 : Int32).toInt := by rw [ex_39]; exact add_toInt (by omega) (by omega)
                    omega
                  exact ih_12 x_39 yy_1701 _ _ _ (by omega) hL_43 ha_44 (hP.sub [0, 1, 2, 3, 4, 5, 6, 7, 8, 9, 10, 11] rfl) (hD.sub [0, 1, 2, 3, 4, 5, 6, 7, 8, 9, 10, 11] rfl rfl) hS (lv_sub hl [0, 1, 2, 3, 4, 5] rfl)
                · skip
                  refine lv_aload_n hx hb dX2_mostAlike_42 rfl (lv_at hl 4 rfl) ?_
                  refine lv_iload_n hx hb dX2_mostAlike_43 rfl (lv_at hl 2 rfl) ?_
                  refine lv_iload_n hx hb dX2_mostAlike_44 rfl (lv_at hl 5 rfl) ?_
                  refine cV (a := (Ya 0)) (As := [.int yy_500, .int x1]) (rest := []) (wr := []) ⟨hx, hb, hml, hown, hts⟩ hK hX hA (cu_dX2_whoOn l D tc sk (Ya 0) (Ya 2) (Ya 3) (Yv 0) (Yf 2) (Yf 3) (Wa 0) (Wa 1) (Wa 2) (Wa 3) (Wa 4) (Wa 5) (Wa 6) (Wa 7) (Wa 8) (Wv 0) (Wv 1) (Wv 2) (Wv 3) (Wv 4) (Wv 5) (Wf 1) (Wf 2) (Wf 3) (Wf 4) (Wf 5) (Wf 6) (Wf 7) (Wf 8) yy_500 x1) k_991 k_988 k_990 k_20 k_105 pl_X2_whoOn ⟨Nat.le_of_ble_eq_true rfl, Nat.le_of_ble_eq_true rfl⟩ rfl rfl (va_recv hK hP (ci := 2) (q0 := 0) rfl rfl) hP hD hS [0, 1, 2, 3, 4, 5, 6, 7, 8, 9, 10, 11] [] rfl rfl rfl rfl rfl (by decide) rfl hl.1 rfl (Nat.le_of_ble_eq_true rfl) dX2_mostAlike_45 ⟨Nat.le_of_ble_eq_true rfl, Nat.le_of_ble_eq_true rfl⟩ (fun v_45 u_46 H locs hv_47 hP₀ hD₀ hS₀ => ?_)
                  obtain ⟨r_48, rfl, he_49⟩ := hv_47
                  have he_49 : (True) ∧ r_48 = (dX2_whoOn (Yf 2) yy_500 x1) := he_49
                  refine W.eq (g2 := F0 m 48 ls [.int r_48]) rfl ?_
                  replace hP : va_P D classes [((Ya 0), .inr (2, [.ref (Wa 0), .ref (Ya 2), .ref (Ya 3), .int (Yv 0)])), ((Ya 2), .inl (tc 0, 427, .inl (Yf 2))), ((Ya 3), .inl (tc 3, 7, .inl (Yf 3))), ((Wa 0), .inr (9, [.int (Wv 0), .int (Wv 1), .int (Wv 2), .int (Wv 3), .int (Wv 4), .int (Wv 5), .ref (Wa 1), .ref (Wa 2), .ref (Wa 3), .ref (Wa 4), .ref (Wa 5), .ref (Wa 6), .ref (Wa 7), .ref (Wa 8)])), ((Wa 1), .inl (tc 0, 10, .inl (Wf 1))), ((Wa 2), .inl (tc 0, 10, .inl (Wf 2))), ((Wa 3), .inl (tc 0, 6, .inl (Wf 3))), ((Wa 4), .inl (tc 0, 6, .inl (Wf 4))), ((Wa 5), .inl (tc 0, 6, .inl (Wf 5))), ((Wa 6), .inl (tc 0, 6, .inl (Wf 6))), ((Wa 7), .inl (tc 0, 6, .inl (Wf 7))), ((Wa 8), .inl (tc 0, 6, .inl (Wf 8)))] H := hP₀
                  replace hD : va_D A [((Ya 0), .inr (2, [.ref (Wa 0), .ref (Ya 2), .ref (Ya 3), .int (Yv 0)])), ((Ya 2), .inl (tc 0, 427, .inl (Yf 2))), ((Ya 3), .inl (tc 3, 7, .inl (Yf 3))), ((Wa 0), .inr (9, [.int (Wv 0), .int (Wv 1), .int (Wv 2), .int (Wv 3), .int (Wv 4), .int (Wv 5), .ref (Wa 1), .ref (Wa 2), .ref (Wa 3), .ref (Wa 4), .ref (Wa 5), .ref (Wa 6), .ref (Wa 7), .ref (Wa 8)])), ((Wa 1), .inl (tc 0, 10, .inl (Wf 1))), ((Wa 2), .inl (tc 0, 10, .inl (Wf 2))), ((Wa 3), .inl (tc 0, 6, .inl (Wf 3))), ((Wa 4), .inl (tc 0, 6, .inl (Wf 4))), ((Wa 5), .inl (tc 0, 6, .inl (Wf 5))), ((Wa 6), .inl (tc 0, 6, .inl (Wf 6))), ((Wa 7), .inl (tc 0, 6, .inl (Wf 7))), ((Wa 8), .inl (tc 0, 6, .inl (Wf 8)))] := hD₀
                  replace hS := hS₀
                  clear hP₀ hD₀ hS₀
                  obtain ⟨he_49, hq_51⟩ := he_49
                  have er_48 : r_48 = (dX2_whoOn (Yf 2) yy_500 x1) := hq_51
                  refine lv_aload_n hx hb dX2_mostAlike_48 rfl (lv_at hl 4 rfl) ?_
                  refine lv_iload hx hb dX2_mostAlike_49 (lv_at hl 0 rfl) ?_
                  refine lv_iload_n hx hb dX2_mostAlike_51 rfl (lv_at hl 5 rfl) ?_
                  refine cV (a := (Ya 0)) (As := [.int yy_1700, .int x1]) (rest := [.int r_48]) (wr := []) ⟨hx, hb, hml, hown, hts⟩ hK hX hA (cu_dX2_whoOn l D tc sk (Ya 0) (Ya 2) (Ya 3) (Yv 0) (Yf 2) (Yf 3) (Wa 0) (Wa 1) (Wa 2) (Wa 3) (Wa 4) (Wa 5) (Wa 6) (Wa 7) (Wa 8) (Wv 0) (Wv 1) (Wv 2) (Wv 3) (Wv 4) (Wv 5) (Wf 1) (Wf 2) (Wf 3) (Wf 4) (Wf 5) (Wf 6) (Wf 7) (Wf 8) yy_1700 x1) k_991 k_988 k_990 k_20 k_105 pl_X2_whoOn ⟨Nat.le_of_ble_eq_true rfl, Nat.le_of_ble_eq_true rfl⟩ rfl rfl (va_recv hK hP (ci := 2) (q0 := 0) rfl rfl) hP hD hS [0, 1, 2, 3, 4, 5, 6, 7, 8, 9, 10, 11] [] rfl rfl rfl rfl rfl (by decide) rfl hl.1 rfl (Nat.le_of_ble_eq_true rfl) dX2_mostAlike_52 ⟨Nat.le_of_ble_eq_true rfl, Nat.le_of_ble_eq_true rfl⟩ (fun v_52 u_53 H locs hv_54 hP₀ hD₀ hS₀ => ?_)
                  obtain ⟨r_55, rfl, he_56⟩ := hv_54
                  have he_56 : (True) ∧ r_55 = (dX2_whoOn (Yf 2) yy_1700 x1) := he_56
                  refine W.eq (g2 := F0 m 55 ls [.int r_55, .int r_48]) rfl ?_
                  replace hP : va_P D classes [((Ya 0), .inr (2, [.ref (Wa 0), .ref (Ya 2), .ref (Ya 3), .int (Yv 0)])), ((Ya 2), .inl (tc 0, 427, .inl (Yf 2))), ((Ya 3), .inl (tc 3, 7, .inl (Yf 3))), ((Wa 0), .inr (9, [.int (Wv 0), .int (Wv 1), .int (Wv 2), .int (Wv 3), .int (Wv 4), .int (Wv 5), .ref (Wa 1), .ref (Wa 2), .ref (Wa 3), .ref (Wa 4), .ref (Wa 5), .ref (Wa 6), .ref (Wa 7), .ref (Wa 8)])), ((Wa 1), .inl (tc 0, 10, .inl (Wf 1))), ((Wa 2), .inl (tc 0, 10, .inl (Wf 2))), ((Wa 3), .inl (tc 0, 6, .inl (Wf 3))), ((Wa 4), .inl (tc 0, 6, .inl (Wf 4))), ((Wa 5), .inl (tc 0, 6, .inl (Wf 5))), ((Wa 6), .inl (tc 0, 6, .inl (Wf 6))), ((Wa 7), .inl (tc 0, 6, .inl (Wf 7))), ((Wa 8), .inl (tc 0, 6, .inl (Wf 8)))] H := hP₀
                  replace hD : va_D A [((Ya 0), .inr (2, [.ref (Wa 0), .ref (Ya 2), .ref (Ya 3), .int (Yv 0)])), ((Ya 2), .inl (tc 0, 427, .inl (Yf 2))), ((Ya 3), .inl (tc 3, 7, .inl (Yf 3))), ((Wa 0), .inr (9, [.int (Wv 0), .int (Wv 1), .int (Wv 2), .int (Wv 3), .int (Wv 4), .int (Wv 5), .ref (Wa 1), .ref (Wa 2), .ref (Wa 3), .ref (Wa 4), .ref (Wa 5), .ref (Wa 6), .ref (Wa 7), .ref (Wa 8)])), ((Wa 1), .inl (tc 0, 10, .inl (Wf 1))), ((Wa 2), .inl (tc 0, 10, .inl (Wf 2))), ((Wa 3), .inl (tc 0, 6, .inl (Wf 3))), ((Wa 4), .inl (tc 0, 6, .inl (Wf 4))), ((Wa 5), .inl (tc 0, 6, .inl (Wf 5))), ((Wa 6), .inl (tc 0, 6, .inl (Wf 6))), ((Wa 7), .inl (tc 0, 6, .inl (Wf 7))), ((Wa 8), .inl (tc 0, 6, .inl (Wf 8)))] := hD₀
                  replace hS := hS₀
                  clear hP₀ hD₀ hS₀
                  obtain ⟨he_56, hq_58⟩ := he_56
                  have er_55 : r_55 = (dX2_whoOn (Yf 2) yy_1700 x1) := hq_58
                  refine lv_icmp_ne (tgt := 61) hx hb dX2_mostAlike_55 (by decide) (fun c_59 => ?_) (fun c_59 => ?_)
                  · skip
                    obtain ⟨x_60, ex_60⟩ : ∃ y : Int32, y = yy_1700 + 1 := ⟨_, rfl⟩
                    refine lv_iinc (v := x_60) (lv' := [(5, .int x_60), (4, .int yy_1701), (3, .int yy_500), (2, .int yy_501), (0, .ref (Ya 0)), (1, .int x1)]) hx hb dX2_mostAlike_61 hl (k := 0) rfl (by rw [ex_60]; rfl) (by decide) rfl (fun ls hl₀ => ?_)
                    replace hl := hl₀
                    clear hl₀
                    refine lv_goto (tgt := 16) hx hb dX2_mostAlike_64 (by decide) ?_
                    have hb_61 : 7 - (x_60 : Int32).toInt < 7 - (yy_1700 : Int32).toInt ∧ 1 ≤ 7 - (yy_1700 : Int32).toInt := by
                      have z_1 := Int32.lt_iff_toInt_lt.mp (Int32.not_le.mp c_7)
                      have z_2 := Int32.lt_iff_toInt_lt.mp (Int32.not_le.mp c_17)
                      have z_3 : ¬ (x_28 : Int32).toInt = (0 : Int32).toInt := fun z => c_29 (Int32.toInt_inj.mp z)
                      have z_4 : ¬ (x_37 : Int32).toInt = (0 : Int32).toInt := fun z => c_38 (Int32.toInt_inj.mp z)
                      have z_5 : ¬ (r_48 : Int32).toInt = (r_55 : Int32).toInt := fun z => c_59 (Int32.toInt_inj.mp z)
                      have y_0 : (0 : Int32).toInt = 0 := by decide
                      have y_7 : (7 : Int32).toInt = 7 := by decide
                      have y_1 : (1 : Int32).toInt = 1 := by decide
                      have t_x_60 : x_60.toInt = (yy_1700 : Int32).toInt + (1 : Int32).toInt := by rw [ex_60]; exact add_toInt (by omega) (by omega)
                      omega
                    have hm_62 : (7 - (yy_1700 : Int32).toInt).toNat = (7 - (x_60 : Int32).toInt).toNat + 1 := by
                      have z_1 := Int32.lt_iff_toInt_lt.mp (Int32.not_le.mp c_7)
                      have z_2 := Int32.lt_iff_toInt_lt.mp (Int32.not_le.mp c_17)
                      have z_3 : ¬ (x_28 : Int32).toInt = (0 : Int32).toInt := fun z => c_29 (Int32.toInt_inj.mp z)
                      have z_4 : ¬ (x_37 : Int32).toInt = (0 : Int32).toInt := fun z => c_38 (Int32.toInt_inj.mp z)
                      have z_5 : ¬ (r_48 : Int32).toInt = (r_55 : Int32).toInt := fun z => c_59 (Int32.toInt_inj.mp z)
                      have y_0 : (0 : Int32).toInt = 0 := by decide
                      have y_7 : (7 : Int32).toInt = 7 := by decide
                      have y_1 : (1 : Int32).toInt = 1 := by decide
                      have t_x_60 : x_60.toInt = (yy_1700 : Int32).toInt + (1 : Int32).toInt := by rw [ex_60]; exact add_toInt (by omega) (by omega)
                      omega
                    have hb_63 : dX2_mostAlike_l16 (Yf 2) (Yf 3) yy_500 x1 ((7 - (yy_1700 : Int32).toInt).toNat + 1) yy_1700 yy_1701 = dX2_mostAlike_l16 (Yf 2) (Yf 3) yy_500 x1 ((7 - (yy_1700 : Int32).toInt).toNat) x_60 yy_1701 := by
                      clear hP hD hS hl ih_12 ih_2
                      replace ex_28 := ex_28.symm; subst ex_28
                      replace ex_37 := ex_37.symm; subst ex_37
                      replace er_48 := er_48.symm; subst er_48
                      replace er_55 := er_55.symm; subst er_55
                      replace ex_60 := ex_60.symm; subst ex_60
                      rw [dX2_mostAlike_l16_s]
                      rw [if_neg c_17, if_neg c_29, if_neg c_38, if_neg c_59]
                      try rfl
                    have hL_64 : (dX2_mostAlike_l16 (Yf 2) (Yf 3) yy_500 x1 ((7 - (0 : Int32).toInt).toNat + 1) (0 : Int32) (0 : Int32)) = dX2_mostAlike_l16 (Yf 2) (Yf 3) yy_500 x1 ((7 - (x_60 : Int32).toInt).toNat + 1) x_60 yy_1701 := by
                      rw [hL_15, hb_63, hm_62]
                    have ha_65 : 0 ≤ (x_60 : Int32).toInt := by
                      have z_1 := Int32.lt_iff_toInt_lt.mp (Int32.not_le.mp c_7)
                      have z_2 := Int32.lt_iff_toInt_lt.mp (Int32.not_le.mp c_17)
                      have z_3 : ¬ (x_28 : Int32).toInt = (0 : Int32).toInt := fun z => c_29 (Int32.toInt_inj.mp z)
                      have z_4 : ¬ (x_37 : Int32).toInt = (0 : Int32).toInt := fun z => c_38 (Int32.toInt_inj.mp z)
                      have z_5 : ¬ (r_48 : Int32).toInt = (r_55 : Int32).toInt := fun z => c_59 (Int32.toInt_inj.mp z)
                      have y_0 : (0 : Int32).toInt = 0 := by decide
                      have y_7 : (7 : Int32).toInt = 7 := by decide
                      have y_1 : (1 : Int32).toInt = 1 := by decide
                      have t_x_60 : x_60.toInt = (yy_1700 : Int32).toInt + (1 : Int32).toInt := by rw [ex_60]; exact add_toInt (by omega) (by omega)
                      omega
                    exact ih_12 x_60 yy_1701 _ _ _ (by omega) hL_64 ha_65 (hP.sub [0, 1, 2, 3, 4, 5, 6, 7, 8, 9, 10, 11] rfl) (hD.sub [0, 1, 2, 3, 4, 5, 6, 7, 8, 9, 10, 11] rfl rfl) hS (lv_sub hl [0, 1, 2, 3, 4, 5] rfl)
                  · skip
                    obtain ⟨x_66, ex_66⟩ : ∃ y : Int32, y = yy_1701 + 1 := ⟨_, rfl⟩
                    refine lv_iinc (v := x_66) (lv' := [(4, .int x_66), (5, .int yy_1700), (3, .int yy_500), (2, .int yy_501), (0, .ref (Ya 0)), (1, .int x1)]) hx hb dX2_mostAlike_58 hl (k := 1) rfl (by rw [ex_66]; rfl) (by decide) rfl (fun ls hl₀ => ?_)
                    replace hl := hl₀
                    clear hl₀
                    obtain ⟨x_67, ex_67⟩ : ∃ y : Int32, y = yy_1700 + 1 := ⟨_, rfl⟩
                    refine lv_iinc (v := x_67) (lv' := [(5, .int x_67), (4, .int x_66), (3, .int yy_500), (2, .int yy_501), (0, .ref (Ya 0)), (1, .int x1)]) hx hb dX2_mostAlike_61 hl (k := 1) rfl (by rw [ex_67]; rfl) (by decide) rfl (fun ls hl₀ => ?_)
                    replace hl := hl₀
                    clear hl₀
                    refine lv_goto (tgt := 16) hx hb dX2_mostAlike_64 (by decide) ?_
                    have hb_68 : 7 - (x_67 : Int32).toInt < 7 - (yy_1700 : Int32).toInt ∧ 1 ≤ 7 - (yy_1700 : Int32).toInt := by
                      have z_1 := Int32.lt_iff_toInt_lt.mp (Int32.not_le.mp c_7)
                      have z_2 := Int32.lt_iff_toInt_lt.mp (Int32.not_le.mp c_17)
                      have z_3 : ¬ (x_28 : Int32).toInt = (0 : Int32).toInt := fun z => c_29 (Int32.toInt_inj.mp z)
                      have z_4 : ¬ (x_37 : Int32).toInt = (0 : Int32).toInt := fun z => c_38 (Int32.toInt_inj.mp z)
                      have z_5 := congrArg Int32.toInt c_59
                      have y_0 : (0 : Int32).toInt = 0 := by decide
                      have y_7 : (7 : Int32).toInt = 7 := by decide
                      have y_1 : (1 : Int32).toInt = 1 := by decide
                      have t_x_67 : x_67.toInt = (yy_1700 : Int32).toInt + (1 : Int32).toInt := by rw [ex_67]; exact add_toInt (by omega) (by omega)
                      omega
                    have hm_69 : (7 - (yy_1700 : Int32).toInt).toNat = (7 - (x_67 : Int32).toInt).toNat + 1 := by
                      have z_1 := Int32.lt_iff_toInt_lt.mp (Int32.not_le.mp c_7)
                      have z_2 := Int32.lt_iff_toInt_lt.mp (Int32.not_le.mp c_17)
                      have z_3 : ¬ (x_28 : Int32).toInt = (0 : Int32).toInt := fun z => c_29 (Int32.toInt_inj.mp z)
                      have z_4 : ¬ (x_37 : Int32).toInt = (0 : Int32).toInt := fun z => c_38 (Int32.toInt_inj.mp z)
                      have z_5 := congrArg Int32.toInt c_59
                      have y_0 : (0 : Int32).toInt = 0 := by decide
                      have y_7 : (7 : Int32).toInt = 7 := by decide
                      have y_1 : (1 : Int32).toInt = 1 := by decide
                      have t_x_67 : x_67.toInt = (yy_1700 : Int32).toInt + (1 : Int32).toInt := by rw [ex_67]; exact add_toInt (by omega) (by omega)
                      omega
                    have hb_70 : dX2_mostAlike_l16 (Yf 2) (Yf 3) yy_500 x1 ((7 - (yy_1700 : Int32).toInt).toNat + 1) yy_1700 yy_1701 = dX2_mostAlike_l16 (Yf 2) (Yf 3) yy_500 x1 ((7 - (yy_1700 : Int32).toInt).toNat) x_67 x_66 := by
                      clear hP hD hS hl ih_12 ih_2
                      replace ex_28 := ex_28.symm; subst ex_28
                      replace ex_37 := ex_37.symm; subst ex_37
                      replace er_48 := er_48.symm; subst er_48
                      replace er_55 := er_55.symm; subst er_55
                      replace ex_66 := ex_66.symm; subst ex_66
                      replace ex_67 := ex_67.symm; subst ex_67
                      rw [dX2_mostAlike_l16_s]
                      rw [if_neg c_17, if_neg c_29, if_neg c_38, if_pos c_59]
                      try rfl
                    have hL_71 : (dX2_mostAlike_l16 (Yf 2) (Yf 3) yy_500 x1 ((7 - (0 : Int32).toInt).toNat + 1) (0 : Int32) (0 : Int32)) = dX2_mostAlike_l16 (Yf 2) (Yf 3) yy_500 x1 ((7 - (x_67 : Int32).toInt).toNat + 1) x_67 x_66 := by
                      rw [hL_15, hb_70, hm_69]
                    have ha_72 : 0 ≤ (x_67 : Int32).toInt := by
                      have z_1 := Int32.lt_iff_toInt_lt.mp (Int32.not_le.mp c_7)
                      have z_2 := Int32.lt_iff_toInt_lt.mp (Int32.not_le.mp c_17)
                      have z_3 : ¬ (x_28 : Int32).toInt = (0 : Int32).toInt := fun z => c_29 (Int32.toInt_inj.mp z)
                      have z_4 : ¬ (x_37 : Int32).toInt = (0 : Int32).toInt := fun z => c_38 (Int32.toInt_inj.mp z)
                      have z_5 := congrArg Int32.toInt c_59
                      have y_0 : (0 : Int32).toInt = 0 := by decide
                      have y_7 : (7 : Int32).toInt = 7 := by decide
                      have y_1 : (1 : Int32).toInt = 1 := by decide
                      have t_x_67 : x_67.toInt = (yy_1700 : Int32).toInt + (1 : Int32).toInt := by rw [ex_67]; exact add_toInt (by omega) (by omega)
                      omega
                    exact ih_12 x_67 x_66 _ _ _ (by omega) hL_71 ha_72 (hP.sub [0, 1, 2, 3, 4, 5, 6, 7, 8, 9, 10, 11] rfl) (hD.sub [0, 1, 2, 3, 4, 5, 6, 7, 8, 9, 10, 11] rfl rfl) hS (lv_sub hl [0, 1, 2, 3, 4, 5] rfl)
        have ha_73 : 0 ≤ (0 : Int32).toInt := by
          have z_1 := Int32.lt_iff_toInt_lt.mp (Int32.not_le.mp c_7)
          have y_7 : (7 : Int32).toInt = 7 := by decide
          have y_0 : (0 : Int32).toInt = 0 := by decide
          omega
        exact loop_13 _ 0 0 _ _ _ (Nat.lt_succ_self _) rfl ha_73 hP hD hS hl
  have ha_74 : 0 ≤ (0 : Int32).toInt := by
    have y_0 : (0 : Int32).toInt = 0 := by decide
    omega
  exact loop_3 _ 0 0 _ _ _ (Nat.lt_succ_self _) rfl ha_74 hP hD hS hl
set_option maxRecDepth 100000 in
theorem cu_dX2_mostAlike (l : Launch) (D : va_G) (tc : Nat → ClassId) (sk : (Nat → Nat) × (Nat → Nat)) (Ya_0 : Nat) (Ya_2 : Nat) (Ya_3 : Nat) (Yv_0 : Int32) (Yf_2 : Nat → Int32) (Yf_3 : Nat → Int32) (Wa_0 : Nat) (Wa_1 : Nat) (Wa_2 : Nat) (Wa_3 : Nat) (Wa_4 : Nat) (Wa_5 : Nat) (Wa_6 : Nat) (Wa_7 : Nat) (Wa_8 : Nat) (Wv_0 : Int32) (Wv_1 : Int32) (Wv_2 : Int32) (Wv_3 : Int32) (Wv_4 : Int32) (Wv_5 : Int32) (Wf_1 : Nat → Int32) (Wf_2 : Nat → Int32) (Wf_3 : Nat → Int32) (Wf_4 : Nat → Int32) (Wf_5 : Nat → Int32) (Wf_6 : Nat → Int32) (Wf_7 : Nat → Int32) (Wf_8 : Nat → Int32) (x1 : Int32)  : Ct l yX2_mostAlike cX2_mostAlike 6 (some .int) { frames := 1, cells := 0, slots := 0, locals := 23 } D tc sk [.ref Ya_0, .int x1] [(Ya_0, .inr (2, [.ref Wa_0, .ref Ya_2, .ref Ya_3, .int Yv_0])), (Ya_2, .inl (tc 0, 427, .inl Yf_2)), (Ya_3, .inl (tc 3, 7, .inl Yf_3)), (Wa_0, .inr (9, [.int Wv_0, .int Wv_1, .int Wv_2, .int Wv_3, .int Wv_4, .int Wv_5, .ref Wa_1, .ref Wa_2, .ref Wa_3, .ref Wa_4, .ref Wa_5, .ref Wa_6, .ref Wa_7, .ref Wa_8])), (Wa_1, .inl (tc 0, 10, .inl Wf_1)), (Wa_2, .inl (tc 0, 10, .inl Wf_2)), (Wa_3, .inl (tc 0, 6, .inl Wf_3)), (Wa_4, .inl (tc 0, 6, .inl Wf_4)), (Wa_5, .inl (tc 0, 6, .inl Wf_5)), (Wa_6, .inl (tc 0, 6, .inl Wf_6)), (Wa_7, .inl (tc 0, 6, .inl Wf_7)), (Wa_8, .inl (tc 0, 6, .inl Wf_8))] (fun (v : Option Value) (_ : Unit) => ∃ r : Int32, v = some (.int r) ∧ ((True) ∧ r = (dX2_mostAlike Yf_2 Yf_3 x1))) (fun (_ : Unit) => [(Ya_0, .inr (2, [.ref Wa_0, .ref Ya_2, .ref Ya_3, .int Yv_0])), (Ya_2, .inl (tc 0, 427, .inl Yf_2)), (Ya_3, .inl (tc 3, 7, .inl Yf_3)), (Wa_0, .inr (9, [.int Wv_0, .int Wv_1, .int Wv_2, .int Wv_3, .int Wv_4, .int Wv_5, .ref Wa_1, .ref Wa_2, .ref Wa_3, .ref Wa_4, .ref Wa_5, .ref Wa_6, .ref Wa_7, .ref Wa_8])), (Wa_1, .inl (tc 0, 10, .inl Wf_1)), (Wa_2, .inl (tc 0, 10, .inl Wf_2)), (Wa_3, .inl (tc 0, 6, .inl Wf_3)), (Wa_4, .inl (tc 0, 6, .inl Wf_4)), (Wa_5, .inl (tc 0, 6, .inl Wf_5)), (Wa_6, .inl (tc 0, 6, .inl Wf_6)), (Wa_7, .inl (tc 0, 6, .inl Wf_7)), (Wa_8, .inl (tc 0, 6, .inl Wf_8))]) 0 0 :=
  ct_dX2_mostAlike l D tc sk (fun k => ([Ya_0, 0, Ya_2, Ya_3] : List (Nat)).getD k 0) (fun k => ([Yv_0] : List (Int32)).getD k 0) (fun k => ([(fun _ => 0), (fun _ => 0), Yf_2, Yf_3] : List (Nat → Int32)).getD k (fun _ => 0)) (fun k => ([Wa_0, Wa_1, Wa_2, Wa_3, Wa_4, Wa_5, Wa_6, Wa_7, Wa_8] : List (Nat)).getD k 0) (fun k => ([Wv_0, Wv_1, Wv_2, Wv_3, Wv_4, Wv_5] : List (Int32)).getD k 0) (fun k => ([(fun _ => 0), Wf_1, Wf_2, Wf_3, Wf_4, Wf_5, Wf_6, Wf_7, Wf_8] : List (Nat → Int32)).getD k (fun _ => 0)) x1 
def dX2_dayToLook_l18 (Yf_2 : Nat → Int32) (Yf_3 : Nat → Int32) : Nat → Int32 → Int32 → Int32 → Int32 × Int32 × Int32
  | 0, _, _, _ => (0, 0, 0)
  | n + 1, yy_1900, yy_1901, yy_1902 => (if (61 : Int32) ≤ yy_1900 then (yy_1900, yy_1901, yy_1902) else (if yy_1901 ≤ (dX2_mostAlike Yf_2 Yf_3 yy_1900) then dX2_dayToLook_l18 Yf_2 Yf_3 n (yy_1900 + 1) yy_1901 yy_1902 else dX2_dayToLook_l18 Yf_2 Yf_3 n (yy_1900 + 1) (dX2_mostAlike Yf_2 Yf_3 yy_1900) yy_1900))
theorem dX2_dayToLook_l18_s {Yf_2 : Nat → Int32} {Yf_3 : Nat → Int32} {n : Nat} {yy_1900 : Int32} {yy_1901 : Int32} {yy_1902 : Int32} : dX2_dayToLook_l18 Yf_2 Yf_3 (n + 1) yy_1900 yy_1901 yy_1902 = (if (61 : Int32) ≤ yy_1900 then (yy_1900, yy_1901, yy_1902) else (if yy_1901 ≤ (dX2_mostAlike Yf_2 Yf_3 yy_1900) then dX2_dayToLook_l18 Yf_2 Yf_3 n (yy_1900 + 1) yy_1901 yy_1902 else dX2_dayToLook_l18 Yf_2 Yf_3 n (yy_1900 + 1) (dX2_mostAlike Yf_2 Yf_3 yy_1900) yy_1900)) := rfl
def dX2_dayToLook (Yf_2 : Nat → Int32) (Yf_3 : Nat → Int32) (Yv_0 : Int32) (x1 : Int32) : Int32 := (if Yv_0 = (0 : Int32) then (-2 : Int32) else (if x1 = (0 : Int32) then (dX2_dayToLook_l18 Yf_2 Yf_3 ((61 - (0 : Int32).toInt).toNat + 1) (0 : Int32) (8 : Int32) (0 : Int32)).2.2 else (dX2_dayToLook_l18 Yf_2 Yf_3 ((61 - (0 : Int32).toInt).toNat + 1) (0 : Int32) (8 : Int32) (0 : Int32)).2.1))
set_option maxHeartbeats 4000000 in
set_option maxRecDepth 100000 in
theorem ct_dX2_dayToLook (l : Launch) (D : va_G) (tc : Nat → ClassId) (sk : (Nat → Nat) × (Nat → Nat)) (Ya : Nat → Nat) (Yv : Nat → Int32) (Yf : Nat → Nat → Int32) (Wa : Nat → Nat) (Wv : Nat → Int32) (Wf : Nat → Nat → Int32) (x1 : Int32)  : Ct l yX2_dayToLook cX2_dayToLook 6 (some .int) { frames := 2, cells := 0, slots := 0, locals := 48 } D tc sk [.ref (Ya 0), .int x1] [((Ya 0), .inr (2, [.ref (Wa 0), .ref (Ya 2), .ref (Ya 3), .int (Yv 0)])), ((Ya 2), .inl (tc 0, 427, .inl (Yf 2))), ((Ya 3), .inl (tc 3, 7, .inl (Yf 3))), ((Wa 0), .inr (9, [.int (Wv 0), .int (Wv 1), .int (Wv 2), .int (Wv 3), .int (Wv 4), .int (Wv 5), .ref (Wa 1), .ref (Wa 2), .ref (Wa 3), .ref (Wa 4), .ref (Wa 5), .ref (Wa 6), .ref (Wa 7), .ref (Wa 8)])), ((Wa 1), .inl (tc 0, 10, .inl (Wf 1))), ((Wa 2), .inl (tc 0, 10, .inl (Wf 2))), ((Wa 3), .inl (tc 0, 6, .inl (Wf 3))), ((Wa 4), .inl (tc 0, 6, .inl (Wf 4))), ((Wa 5), .inl (tc 0, 6, .inl (Wf 5))), ((Wa 6), .inl (tc 0, 6, .inl (Wf 6))), ((Wa 7), .inl (tc 0, 6, .inl (Wf 7))), ((Wa 8), .inl (tc 0, 6, .inl (Wf 8)))] (fun (v : Option Value) (_ : Unit) => ∃ r : Int32, v = some (.int r) ∧ ((True) ∧ r = (dX2_dayToLook (Yf 2) (Yf 3) (Yv 0) x1))) (fun (_ : Unit) => [((Ya 0), .inr (2, [.ref (Wa 0), .ref (Ya 2), .ref (Ya 3), .int (Yv 0)])), ((Ya 2), .inl (tc 0, 427, .inl (Yf 2))), ((Ya 3), .inl (tc 3, 7, .inl (Yf 3))), ((Wa 0), .inr (9, [.int (Wv 0), .int (Wv 1), .int (Wv 2), .int (Wv 3), .int (Wv 4), .int (Wv 5), .ref (Wa 1), .ref (Wa 2), .ref (Wa 3), .ref (Wa 4), .ref (Wa 5), .ref (Wa 6), .ref (Wa 7), .ref (Wa 8)])), ((Wa 1), .inl (tc 0, 10, .inl (Wf 1))), ((Wa 2), .inl (tc 0, 10, .inl (Wf 2))), ((Wa 3), .inl (tc 0, 6, .inl (Wf 3))), ((Wa 4), .inl (tc 0, 6, .inl (Wf 4))), ((Wa 5), .inl (tc 0, 6, .inl (Wf 5))), ((Wa 6), .inl (tc 0, 6, .inl (Wf 6))), ((Wa 7), .inl (tc 0, 6, .inl (Wf 7))), ((Wa 8), .inl (tc 0, 6, .inl (Wf 8)))]) 0 0 := by
  refine Ct.start (by decide) (Nat.le_of_ble_eq_true rfl) (fun p e s m below meth c A ls hx hb hr hlk hin hml hown hts hK hX hP hD hA hl hS => ?_)
  have hl : lv_has ls 6 [(0, .ref (Ya 0)), (1, .int x1)] := hl
  refine lv_aload_n hx hb dX2_dayToLook_0 rfl (lv_at hl 0 rfl) ?_
  refine gf_X2_26 hx hb hts hown hK hP 0 rfl rfl dX2_dayToLook_1 ?_
  refine lv_if_ne (tgt := 10) hx hb dX2_dayToLook_4 (by decide) (fun c_1 => ?_) (fun c_1 => ?_)
  · skip
    refine lv_iconst (v := 0) hx hb dX2_dayToLook_10 (by decide) ?_
    refine lv_istore_n (lv' := [(2, .int 0), (0, .ref (Ya 0)), (1, .int x1)]) hx hb dX2_dayToLook_11 rfl hl (by decide) rfl (fun ls hl₀ => ?_)
    replace hl := hl₀
    clear hl₀
    refine lv_bipush (v := 8) hx hb dX2_dayToLook_12 (by decide) ?_
    refine lv_istore_n (lv' := [(3, .int 8), (2, .int 0), (0, .ref (Ya 0)), (1, .int x1)]) hx hb dX2_dayToLook_14 rfl hl (by decide) rfl (fun ls hl₀ => ?_)
    replace hl := hl₀
    clear hl₀
    refine lv_iconst (v := 0) hx hb dX2_dayToLook_15 (by decide) ?_
    refine lv_istore (lv' := [(4, .int 0), (3, .int 8), (2, .int 0), (0, .ref (Ya 0)), (1, .int x1)]) hx hb dX2_dayToLook_16 hl (by decide) rfl (fun ls hl₀ => ?_)
    replace hl := hl₀
    clear hl₀
    have loop_4 : ∀ (n_2 : Nat) (yy_1900 : Int32) (yy_1901 : Int32) (yy_1902 : Int32) (H : Heap) (locs : List Loc) (ls : Array Slot), (61 - (yy_1900 : Int32).toInt).toNat < n_2 → (dX2_dayToLook_l18 (Yf 2) (Yf 3) ((61 - (0 : Int32).toInt).toNat + 1) (0 : Int32) (8 : Int32) (0 : Int32)) = dX2_dayToLook_l18 (Yf 2) (Yf 3) ((61 - (yy_1900 : Int32).toInt).toNat + 1) yy_1900 yy_1901 yy_1902 → (0 ≤ (yy_1900 : Int32).toInt) → va_P D classes [((Ya 0), .inr (2, [.ref (Wa 0), .ref (Ya 2), .ref (Ya 3), .int (Yv 0)])), ((Ya 2), .inl (tc 0, 427, .inl (Yf 2))), ((Ya 3), .inl (tc 3, 7, .inl (Yf 3))), ((Wa 0), .inr (9, [.int (Wv 0), .int (Wv 1), .int (Wv 2), .int (Wv 3), .int (Wv 4), .int (Wv 5), .ref (Wa 1), .ref (Wa 2), .ref (Wa 3), .ref (Wa 4), .ref (Wa 5), .ref (Wa 6), .ref (Wa 7), .ref (Wa 8)])), ((Wa 1), .inl (tc 0, 10, .inl (Wf 1))), ((Wa 2), .inl (tc 0, 10, .inl (Wf 2))), ((Wa 3), .inl (tc 0, 6, .inl (Wf 3))), ((Wa 4), .inl (tc 0, 6, .inl (Wf 4))), ((Wa 5), .inl (tc 0, 6, .inl (Wf 5))), ((Wa 6), .inl (tc 0, 6, .inl (Wf 6))), ((Wa 7), .inl (tc 0, 6, .inl (Wf 7))), ((Wa 8), .inl (tc 0, 6, .inl (Wf 8)))] H → va_D A [((Ya 0), .inr (2, [.ref (Wa 0), .ref (Ya 2), .ref (Ya 3), .int (Yv 0)])), ((Ya 2), .inl (tc 0, 427, .inl (Yf 2))), ((Ya 3), .inl (tc 3, 7, .inl (Yf 3))), ((Wa 0), .inr (9, [.int (Wv 0), .int (Wv 1), .int (Wv 2), .int (Wv 3), .int (Wv 4), .int (Wv 5), .ref (Wa 1), .ref (Wa 2), .ref (Wa 3), .ref (Wa 4), .ref (Wa 5), .ref (Wa 6), .ref (Wa 7), .ref (Wa 8)])), ((Wa 1), .inl (tc 0, 10, .inl (Wf 1))), ((Wa 2), .inl (tc 0, 10, .inl (Wf 2))), ((Wa 3), .inl (tc 0, 6, .inl (Wf 3))), ((Wa 4), .inl (tc 0, 6, .inl (Wf 4))), ((Wa 5), .inl (tc 0, 6, .inl (Wf 5))), ((Wa 6), .inl (tc 0, 6, .inl (Wf 6))), ((Wa 7), .inl (tc 0, 6, .inl (Wf 7))), ((Wa 8), .inl (tc 0, 6, .inl (Wf 8)))] → va_S A s.heap H locs → lv_has ls 6 [(4, .int yy_1900), (3, .int yy_1901), (2, .int yy_1902), (0, .ref (Ya 0)), (1, .int x1)] → W p l e ({ frames := 2, cells := 0, slots := 0, locals := 48 }) s m ([.ref (Ya 0), .int x1].toArray) below meth c H locs 0 0 (MQ below (QW (fun (v : Option Value) (_ : Unit) => ∃ r : Int32, v = some (.int r) ∧ ((True) ∧ r = (dX2_dayToLook (Yf 2) (Yf 3) (Yv 0) x1))) (BW D (fun (_ : Unit) => [((Ya 0), .inr (2, [.ref (Wa 0), .ref (Ya 2), .ref (Ya 3), .int (Yv 0)])), ((Ya 2), .inl (tc 0, 427, .inl (Yf 2))), ((Ya 3), .inl (tc 3, 7, .inl (Yf 3))), ((Wa 0), .inr (9, [.int (Wv 0), .int (Wv 1), .int (Wv 2), .int (Wv 3), .int (Wv 4), .int (Wv 5), .ref (Wa 1), .ref (Wa 2), .ref (Wa 3), .ref (Wa 4), .ref (Wa 5), .ref (Wa 6), .ref (Wa 7), .ref (Wa 8)])), ((Wa 1), .inl (tc 0, 10, .inl (Wf 1))), ((Wa 2), .inl (tc 0, 10, .inl (Wf 2))), ((Wa 3), .inl (tc 0, 6, .inl (Wf 3))), ((Wa 4), .inl (tc 0, 6, .inl (Wf 4))), ((Wa 5), .inl (tc 0, 6, .inl (Wf 5))), ((Wa 6), .inl (tc 0, 6, .inl (Wf 6))), ((Wa 7), .inl (tc 0, 6, .inl (Wf 7))), ((Wa 8), .inl (tc 0, 6, .inl (Wf 8)))]) A) A) ([.ref (Ya 0), .int x1].toArray) s 0 0 A) (F0 m 18 ls []) := by
      clear hP hD hS hl
      intro n_2
      induction n_2 with
      | zero =>
        intro yy_1900 yy_1901 yy_1902 H locs ls h1
        exact absurd h1 (Nat.not_lt_zero _)
      | succ n_2 ih_3 =>
        intro yy_1900 yy_1901 yy_1902 H locs ls hn_7 hL_6 pf_5 hP hD hS hl
        refine lv_iload hx hb dX2_dayToLook_18 (lv_at hl 0 rfl) ?_
        refine lv_bipush (v := 61) hx hb dX2_dayToLook_20 (by decide) ?_
        refine lv_icmp_ge (tgt := 51) hx hb dX2_dayToLook_22 (by decide) (fun c_8 => ?_) (fun c_8 => ?_)
        · skip
          have hb_10 : dX2_dayToLook_l18 (Yf 2) (Yf 3) ((61 - (yy_1900 : Int32).toInt).toNat + 1) yy_1900 yy_1901 yy_1902 = (yy_1900, yy_1901, yy_1902) := by
            clear hP hD hS hl ih_3
            rw [dX2_dayToLook_l18_s]
            rw [if_pos c_8]
            try rfl
          have hX_9 : (dX2_dayToLook_l18 (Yf 2) (Yf 3) ((61 - (0 : Int32).toInt).toNat + 1) (0 : Int32) (8 : Int32) (0 : Int32)) = (yy_1900, yy_1901, yy_1902) := hL_6.trans hb_10
          have hX_9_0 : (dX2_dayToLook_l18 (Yf 2) (Yf 3) ((61 - (0 : Int32).toInt).toNat + 1) (0 : Int32) (8 : Int32) (0 : Int32)).1 = yy_1900 := congrArg (fun z => z.1) hX_9
          have hX_9_1 : (dX2_dayToLook_l18 (Yf 2) (Yf 3) ((61 - (0 : Int32).toInt).toNat + 1) (0 : Int32) (8 : Int32) (0 : Int32)).2.1 = yy_1901 := congrArg (fun z => z.2.1) hX_9
          have hX_9_2 : (dX2_dayToLook_l18 (Yf 2) (Yf 3) ((61 - (0 : Int32).toInt).toNat + 1) (0 : Int32) (8 : Int32) (0 : Int32)).2.2 = yy_1902 := congrArg (fun z => z.2.2) hX_9
          refine lv_iload_n hx hb dX2_dayToLook_51 rfl (lv_at hl 4 rfl) ?_
          refine lv_if_ne (tgt := 59) hx hb dX2_dayToLook_52 (by decide) (fun c_11 => ?_) (fun c_11 => ?_)
          · skip
            refine lv_iload_n hx hb dX2_dayToLook_59 rfl (lv_at hl 1 rfl) ?_
            have hF_12 : yy_1901 = (dX2_dayToLook (Yf 2) (Yf 3) (Yv 0) x1) := by
              clear hP hD hS hl ih_3
              unfold dX2_dayToLook
              try rw [hX_9_0]
              try rw [hX_9_1]
              try rw [hX_9_2]
              rw [if_neg c_1, if_neg c_11]
              try rfl
            exact retI (v := yy_1901) hx hb hr hlk (rfl) hP hD hS () ⟨_, rfl, ⟨trivial, hF_12⟩⟩ [0, 1, 2, 3, 4, 5, 6, 7, 8, 9, 10, 11] rfl rfl dX2_dayToLook_60 (Nat.le_of_ble_eq_true rfl) (Nat.le_of_ble_eq_true rfl) rfl
          · skip
            refine lv_iload_n hx hb dX2_dayToLook_55 rfl (lv_at hl 2 rfl) ?_
            refine lv_goto (tgt := 60) hx hb dX2_dayToLook_56 (by decide) ?_
            have hF_13 : yy_1902 = (dX2_dayToLook (Yf 2) (Yf 3) (Yv 0) x1) := by
              clear hP hD hS hl ih_3
              unfold dX2_dayToLook
              try rw [hX_9_0]
              try rw [hX_9_1]
              try rw [hX_9_2]
              rw [if_neg c_1, if_pos c_11]
              try rfl
            exact retI (v := yy_1902) hx hb hr hlk (rfl) hP hD hS () ⟨_, rfl, ⟨trivial, hF_13⟩⟩ [0, 1, 2, 3, 4, 5, 6, 7, 8, 9, 10, 11] rfl rfl dX2_dayToLook_60 (Nat.le_of_ble_eq_true rfl) (Nat.le_of_ble_eq_true rfl) rfl
        · skip
          refine lv_aload_n hx hb dX2_dayToLook_25 rfl (lv_at hl 3 rfl) ?_
          refine lv_iload hx hb dX2_dayToLook_26 (lv_at hl 0 rfl) ?_
          refine cV (a := (Ya 0)) (As := [.int yy_1900]) (rest := []) (wr := []) ⟨hx, hb, hml, hown, hts⟩ hK hX hA (cu_dX2_mostAlike l D tc sk (Ya 0) (Ya 2) (Ya 3) (Yv 0) (Yf 2) (Yf 3) (Wa 0) (Wa 1) (Wa 2) (Wa 3) (Wa 4) (Wa 5) (Wa 6) (Wa 7) (Wa 8) (Wv 0) (Wv 1) (Wv 2) (Wv 3) (Wv 4) (Wv 5) (Wf 1) (Wf 2) (Wf 3) (Wf 4) (Wf 5) (Wf 6) (Wf 7) (Wf 8) yy_1900) k_1007 k_1004 k_1006 k_21 k_105 pl_X2_mostAlike ⟨Nat.le_of_ble_eq_true rfl, Nat.le_of_ble_eq_true rfl⟩ rfl rfl (va_recv hK hP (ci := 2) (q0 := 0) rfl rfl) hP hD hS [0, 1, 2, 3, 4, 5, 6, 7, 8, 9, 10, 11] [] rfl rfl rfl rfl rfl (by decide) rfl hl.1 rfl (Nat.le_of_ble_eq_true rfl) dX2_dayToLook_28 ⟨Nat.le_of_ble_eq_true rfl, Nat.le_of_ble_eq_true rfl⟩ (fun v_14 u_15 H locs hv_16 hP₀ hD₀ hS₀ => ?_)
          obtain ⟨r_17, rfl, he_18⟩ := hv_16
          have he_18 : (True) ∧ r_17 = (dX2_mostAlike (Yf 2) (Yf 3) yy_1900) := he_18
          refine W.eq (g2 := F0 m 31 ls [.int r_17]) rfl ?_
          replace hP : va_P D classes [((Ya 0), .inr (2, [.ref (Wa 0), .ref (Ya 2), .ref (Ya 3), .int (Yv 0)])), ((Ya 2), .inl (tc 0, 427, .inl (Yf 2))), ((Ya 3), .inl (tc 3, 7, .inl (Yf 3))), ((Wa 0), .inr (9, [.int (Wv 0), .int (Wv 1), .int (Wv 2), .int (Wv 3), .int (Wv 4), .int (Wv 5), .ref (Wa 1), .ref (Wa 2), .ref (Wa 3), .ref (Wa 4), .ref (Wa 5), .ref (Wa 6), .ref (Wa 7), .ref (Wa 8)])), ((Wa 1), .inl (tc 0, 10, .inl (Wf 1))), ((Wa 2), .inl (tc 0, 10, .inl (Wf 2))), ((Wa 3), .inl (tc 0, 6, .inl (Wf 3))), ((Wa 4), .inl (tc 0, 6, .inl (Wf 4))), ((Wa 5), .inl (tc 0, 6, .inl (Wf 5))), ((Wa 6), .inl (tc 0, 6, .inl (Wf 6))), ((Wa 7), .inl (tc 0, 6, .inl (Wf 7))), ((Wa 8), .inl (tc 0, 6, .inl (Wf 8)))] H := hP₀
          replace hD : va_D A [((Ya 0), .inr (2, [.ref (Wa 0), .ref (Ya 2), .ref (Ya 3), .int (Yv 0)])), ((Ya 2), .inl (tc 0, 427, .inl (Yf 2))), ((Ya 3), .inl (tc 3, 7, .inl (Yf 3))), ((Wa 0), .inr (9, [.int (Wv 0), .int (Wv 1), .int (Wv 2), .int (Wv 3), .int (Wv 4), .int (Wv 5), .ref (Wa 1), .ref (Wa 2), .ref (Wa 3), .ref (Wa 4), .ref (Wa 5), .ref (Wa 6), .ref (Wa 7), .ref (Wa 8)])), ((Wa 1), .inl (tc 0, 10, .inl (Wf 1))), ((Wa 2), .inl (tc 0, 10, .inl (Wf 2))), ((Wa 3), .inl (tc 0, 6, .inl (Wf 3))), ((Wa 4), .inl (tc 0, 6, .inl (Wf 4))), ((Wa 5), .inl (tc 0, 6, .inl (Wf 5))), ((Wa 6), .inl (tc 0, 6, .inl (Wf 6))), ((Wa 7), .inl (tc 0, 6, .inl (Wf 7))), ((Wa 8), .inl (tc 0, 6, .inl (Wf 8)))] := hD₀
          replace hS := hS₀
          clear hP₀ hD₀ hS₀
          obtain ⟨he_18, hq_20⟩ := he_18
          have er_17 : r_17 = (dX2_mostAlike (Yf 2) (Yf 3) yy_1900) := hq_20
          refine lv_istore (lv' := [(5, .int r_17), (4, .int yy_1900), (3, .int yy_1901), (2, .int yy_1902), (0, .ref (Ya 0)), (1, .int x1)]) hx hb dX2_dayToLook_31 hl (by decide) rfl (fun ls hl₀ => ?_)
          replace hl := hl₀
          clear hl₀
          refine lv_iload hx hb dX2_dayToLook_33 (lv_at hl 0 rfl) ?_
          refine lv_iload_n hx hb dX2_dayToLook_35 rfl (lv_at hl 2 rfl) ?_
          refine lv_icmp_ge (tgt := 45) hx hb dX2_dayToLook_36 (by decide) (fun c_21 => ?_) (fun c_21 => ?_)
          · skip
            obtain ⟨x_22, ex_22⟩ : ∃ y : Int32, y = yy_1900 + 1 := ⟨_, rfl⟩
            refine lv_iinc (v := x_22) (lv' := [(4, .int x_22), (5, .int r_17), (3, .int yy_1901), (2, .int yy_1902), (0, .ref (Ya 0)), (1, .int x1)]) hx hb dX2_dayToLook_45 hl (k := 1) rfl (by rw [ex_22]; rfl) (by decide) rfl (fun ls hl₀ => ?_)
            replace hl := hl₀
            clear hl₀
            refine lv_goto (tgt := 18) hx hb dX2_dayToLook_48 (by decide) ?_
            have hb_23 : 61 - (x_22 : Int32).toInt < 61 - (yy_1900 : Int32).toInt ∧ 1 ≤ 61 - (yy_1900 : Int32).toInt := by
              have z_1 : ¬ ((Yv 0) : Int32).toInt = (0 : Int32).toInt := fun z => c_1 (Int32.toInt_inj.mp z)
              have z_2 := Int32.lt_iff_toInt_lt.mp (Int32.not_le.mp c_8)
              have z_3 := Int32.le_iff_toInt_le.mp c_21
              have y_0 : (0 : Int32).toInt = 0 := by decide
              have y_61 : (61 : Int32).toInt = 61 := by decide
              have y_1 : (1 : Int32).toInt = 1 := by decide
              have t_x_22 : x_22.toInt = (yy_1900 : Int32).toInt + (1 : Int32).toInt := by rw [ex_22]; exact add_toInt (by omega) (by omega)
              omega
            have hm_24 : (61 - (yy_1900 : Int32).toInt).toNat = (61 - (x_22 : Int32).toInt).toNat + 1 := by
              have z_1 : ¬ ((Yv 0) : Int32).toInt = (0 : Int32).toInt := fun z => c_1 (Int32.toInt_inj.mp z)
              have z_2 := Int32.lt_iff_toInt_lt.mp (Int32.not_le.mp c_8)
              have z_3 := Int32.le_iff_toInt_le.mp c_21
              have y_0 : (0 : Int32).toInt = 0 := by decide
              have y_61 : (61 : Int32).toInt = 61 := by decide
              have y_1 : (1 : Int32).toInt = 1 := by decide
              have t_x_22 : x_22.toInt = (yy_1900 : Int32).toInt + (1 : Int32).toInt := by rw [ex_22]; exact add_toInt (by omega) (by omega)
              omega
            have hb_25 : dX2_dayToLook_l18 (Yf 2) (Yf 3) ((61 - (yy_1900 : Int32).toInt).toNat + 1) yy_1900 yy_1901 yy_1902 = dX2_dayToLook_l18 (Yf 2) (Yf 3) ((61 - (yy_1900 : Int32).toInt).toNat) x_22 yy_1901 yy_1902 := by
              clear hP hD hS hl ih_3
              replace er_17 := er_17.symm; subst er_17
              replace ex_22 := ex_22.symm; subst ex_22
              rw [dX2_dayToLook_l18_s]
              rw [if_neg c_8, if_pos c_21]
              try rfl
            have hL_26 : (dX2_dayToLook_l18 (Yf 2) (Yf 3) ((61 - (0 : Int32).toInt).toNat + 1) (0 : Int32) (8 : Int32) (0 : Int32)) = dX2_dayToLook_l18 (Yf 2) (Yf 3) ((61 - (x_22 : Int32).toInt).toNat + 1) x_22 yy_1901 yy_1902 := by
              rw [hL_6, hb_25, hm_24]
            have ha_27 : 0 ≤ (x_22 : Int32).toInt := by
              have z_1 : ¬ ((Yv 0) : Int32).toInt = (0 : Int32).toInt := fun z => c_1 (Int32.toInt_inj.mp z)
              have z_2 := Int32.lt_iff_toInt_lt.mp (Int32.not_le.mp c_8)
              have z_3 := Int32.le_iff_toInt_le.mp c_21
              have y_0 : (0 : Int32).toInt = 0 := by decide
              have y_61 : (61 : Int32).toInt = 61 := by decide
              have y_1 : (1 : Int32).toInt = 1 := by decide
              have t_x_22 : x_22.toInt = (yy_1900 : Int32).toInt + (1 : Int32).toInt := by rw [ex_22]; exact add_toInt (by omega) (by omega)
              omega
            exact ih_3 x_22 yy_1901 yy_1902 _ _ _ (by omega) hL_26 ha_27 (hP.sub [0, 1, 2, 3, 4, 5, 6, 7, 8, 9, 10, 11] rfl) (hD.sub [0, 1, 2, 3, 4, 5, 6, 7, 8, 9, 10, 11] rfl rfl) hS (lv_sub hl [0, 2, 3, 4, 5] rfl)
          · skip
            refine lv_iload hx hb dX2_dayToLook_39 (lv_at hl 0 rfl) ?_
            refine lv_istore_n (lv' := [(3, .int r_17), (5, .int r_17), (4, .int yy_1900), (2, .int yy_1902), (0, .ref (Ya 0)), (1, .int x1)]) hx hb dX2_dayToLook_41 rfl hl (by decide) rfl (fun ls hl₀ => ?_)
            replace hl := hl₀
            clear hl₀
            refine lv_iload hx hb dX2_dayToLook_42 (lv_at hl 2 rfl) ?_
            refine lv_istore_n (lv' := [(2, .int yy_1900), (3, .int r_17), (5, .int r_17), (4, .int yy_1900), (0, .ref (Ya 0)), (1, .int x1)]) hx hb dX2_dayToLook_44 rfl hl (by decide) rfl (fun ls hl₀ => ?_)
            replace hl := hl₀
            clear hl₀
            obtain ⟨x_28, ex_28⟩ : ∃ y : Int32, y = yy_1900 + 1 := ⟨_, rfl⟩
            refine lv_iinc (v := x_28) (lv' := [(4, .int x_28), (2, .int yy_1900), (3, .int r_17), (5, .int r_17), (0, .ref (Ya 0)), (1, .int x1)]) hx hb dX2_dayToLook_45 hl (k := 3) rfl (by rw [ex_28]; rfl) (by decide) rfl (fun ls hl₀ => ?_)
            replace hl := hl₀
            clear hl₀
            refine lv_goto (tgt := 18) hx hb dX2_dayToLook_48 (by decide) ?_
            have hb_29 : 61 - (x_28 : Int32).toInt < 61 - (yy_1900 : Int32).toInt ∧ 1 ≤ 61 - (yy_1900 : Int32).toInt := by
              have z_1 : ¬ ((Yv 0) : Int32).toInt = (0 : Int32).toInt := fun z => c_1 (Int32.toInt_inj.mp z)
              have z_2 := Int32.lt_iff_toInt_lt.mp (Int32.not_le.mp c_8)
              have z_3 := Int32.lt_iff_toInt_lt.mp (Int32.not_le.mp c_21)
              have y_0 : (0 : Int32).toInt = 0 := by decide
              have y_61 : (61 : Int32).toInt = 61 := by decide
              have y_1 : (1 : Int32).toInt = 1 := by decide
              have t_x_28 : x_28.toInt = (yy_1900 : Int32).toInt + (1 : Int32).toInt := by rw [ex_28]; exact add_toInt (by omega) (by omega)
              omega
            have hm_30 : (61 - (yy_1900 : Int32).toInt).toNat = (61 - (x_28 : Int32).toInt).toNat + 1 := by
              have z_1 : ¬ ((Yv 0) : Int32).toInt = (0 : Int32).toInt := fun z => c_1 (Int32.toInt_inj.mp z)
              have z_2 := Int32.lt_iff_toInt_lt.mp (Int32.not_le.mp c_8)
              have z_3 := Int32.lt_iff_toInt_lt.mp (Int32.not_le.mp c_21)
              have y_0 : (0 : Int32).toInt = 0 := by decide
              have y_61 : (61 : Int32).toInt = 61 := by decide
              have y_1 : (1 : Int32).toInt = 1 := by decide
              have t_x_28 : x_28.toInt = (yy_1900 : Int32).toInt + (1 : Int32).toInt := by rw [ex_28]; exact add_toInt (by omega) (by omega)
              omega
            have hb_31 : dX2_dayToLook_l18 (Yf 2) (Yf 3) ((61 - (yy_1900 : Int32).toInt).toNat + 1) yy_1900 yy_1901 yy_1902 = dX2_dayToLook_l18 (Yf 2) (Yf 3) ((61 - (yy_1900 : Int32).toInt).toNat) x_28 r_17 yy_1900 := by
              clear hP hD hS hl ih_3
              replace er_17 := er_17.symm; subst er_17
              replace ex_28 := ex_28.symm; subst ex_28
              rw [dX2_dayToLook_l18_s]
              rw [if_neg c_8, if_neg c_21]
              try rfl
            have hL_32 : (dX2_dayToLook_l18 (Yf 2) (Yf 3) ((61 - (0 : Int32).toInt).toNat + 1) (0 : Int32) (8 : Int32) (0 : Int32)) = dX2_dayToLook_l18 (Yf 2) (Yf 3) ((61 - (x_28 : Int32).toInt).toNat + 1) x_28 r_17 yy_1900 := by
              rw [hL_6, hb_31, hm_30]
            have ha_33 : 0 ≤ (x_28 : Int32).toInt := by
              have z_1 : ¬ ((Yv 0) : Int32).toInt = (0 : Int32).toInt := fun z => c_1 (Int32.toInt_inj.mp z)
              have z_2 := Int32.lt_iff_toInt_lt.mp (Int32.not_le.mp c_8)
              have z_3 := Int32.lt_iff_toInt_lt.mp (Int32.not_le.mp c_21)
              have y_0 : (0 : Int32).toInt = 0 := by decide
              have y_61 : (61 : Int32).toInt = 61 := by decide
              have y_1 : (1 : Int32).toInt = 1 := by decide
              have t_x_28 : x_28.toInt = (yy_1900 : Int32).toInt + (1 : Int32).toInt := by rw [ex_28]; exact add_toInt (by omega) (by omega)
              omega
            exact ih_3 x_28 r_17 yy_1900 _ _ _ (by omega) hL_32 ha_33 (hP.sub [0, 1, 2, 3, 4, 5, 6, 7, 8, 9, 10, 11] rfl) (hD.sub [0, 1, 2, 3, 4, 5, 6, 7, 8, 9, 10, 11] rfl rfl) hS (lv_sub hl [0, 2, 1, 4, 5] rfl)
    have ha_34 : 0 ≤ (0 : Int32).toInt := by
      have z_1 : ¬ ((Yv 0) : Int32).toInt = (0 : Int32).toInt := fun z => c_1 (Int32.toInt_inj.mp z)
      have y_0 : (0 : Int32).toInt = 0 := by decide
      omega
    exact loop_4 _ 0 8 0 _ _ _ (Nat.lt_succ_self _) rfl ha_34 hP hD hS hl
  · skip
    refine lv_bipush (v := (-2)) hx hb dX2_dayToLook_7 (by decide) ?_
    have hF_35 : (-2 : Int32) = (dX2_dayToLook (Yf 2) (Yf 3) (Yv 0) x1) := by
      clear hP hD hS hl
      unfold dX2_dayToLook
      rw [if_pos c_1]
      try rfl
    exact retI (v := (-2)) hx hb hr hlk (rfl) hP hD hS () ⟨_, rfl, ⟨trivial, hF_35⟩⟩ [0, 1, 2, 3, 4, 5, 6, 7, 8, 9, 10, 11] rfl rfl dX2_dayToLook_9 (Nat.le_of_ble_eq_true rfl) (Nat.le_of_ble_eq_true rfl) rfl
set_option maxRecDepth 100000 in
theorem cu_dX2_dayToLook (l : Launch) (D : va_G) (tc : Nat → ClassId) (sk : (Nat → Nat) × (Nat → Nat)) (Ya_0 : Nat) (Ya_2 : Nat) (Ya_3 : Nat) (Yv_0 : Int32) (Yf_2 : Nat → Int32) (Yf_3 : Nat → Int32) (Wa_0 : Nat) (Wa_1 : Nat) (Wa_2 : Nat) (Wa_3 : Nat) (Wa_4 : Nat) (Wa_5 : Nat) (Wa_6 : Nat) (Wa_7 : Nat) (Wa_8 : Nat) (Wv_0 : Int32) (Wv_1 : Int32) (Wv_2 : Int32) (Wv_3 : Int32) (Wv_4 : Int32) (Wv_5 : Int32) (Wf_1 : Nat → Int32) (Wf_2 : Nat → Int32) (Wf_3 : Nat → Int32) (Wf_4 : Nat → Int32) (Wf_5 : Nat → Int32) (Wf_6 : Nat → Int32) (Wf_7 : Nat → Int32) (Wf_8 : Nat → Int32) (x1 : Int32)  : Ct l yX2_dayToLook cX2_dayToLook 6 (some .int) { frames := 2, cells := 0, slots := 0, locals := 48 } D tc sk [.ref Ya_0, .int x1] [(Ya_0, .inr (2, [.ref Wa_0, .ref Ya_2, .ref Ya_3, .int Yv_0])), (Ya_2, .inl (tc 0, 427, .inl Yf_2)), (Ya_3, .inl (tc 3, 7, .inl Yf_3)), (Wa_0, .inr (9, [.int Wv_0, .int Wv_1, .int Wv_2, .int Wv_3, .int Wv_4, .int Wv_5, .ref Wa_1, .ref Wa_2, .ref Wa_3, .ref Wa_4, .ref Wa_5, .ref Wa_6, .ref Wa_7, .ref Wa_8])), (Wa_1, .inl (tc 0, 10, .inl Wf_1)), (Wa_2, .inl (tc 0, 10, .inl Wf_2)), (Wa_3, .inl (tc 0, 6, .inl Wf_3)), (Wa_4, .inl (tc 0, 6, .inl Wf_4)), (Wa_5, .inl (tc 0, 6, .inl Wf_5)), (Wa_6, .inl (tc 0, 6, .inl Wf_6)), (Wa_7, .inl (tc 0, 6, .inl Wf_7)), (Wa_8, .inl (tc 0, 6, .inl Wf_8))] (fun (v : Option Value) (_ : Unit) => ∃ r : Int32, v = some (.int r) ∧ ((True) ∧ r = (dX2_dayToLook Yf_2 Yf_3 Yv_0 x1))) (fun (_ : Unit) => [(Ya_0, .inr (2, [.ref Wa_0, .ref Ya_2, .ref Ya_3, .int Yv_0])), (Ya_2, .inl (tc 0, 427, .inl Yf_2)), (Ya_3, .inl (tc 3, 7, .inl Yf_3)), (Wa_0, .inr (9, [.int Wv_0, .int Wv_1, .int Wv_2, .int Wv_3, .int Wv_4, .int Wv_5, .ref Wa_1, .ref Wa_2, .ref Wa_3, .ref Wa_4, .ref Wa_5, .ref Wa_6, .ref Wa_7, .ref Wa_8])), (Wa_1, .inl (tc 0, 10, .inl Wf_1)), (Wa_2, .inl (tc 0, 10, .inl Wf_2)), (Wa_3, .inl (tc 0, 6, .inl Wf_3)), (Wa_4, .inl (tc 0, 6, .inl Wf_4)), (Wa_5, .inl (tc 0, 6, .inl Wf_5)), (Wa_6, .inl (tc 0, 6, .inl Wf_6)), (Wa_7, .inl (tc 0, 6, .inl Wf_7)), (Wa_8, .inl (tc 0, 6, .inl Wf_8))]) 0 0 :=
  ct_dX2_dayToLook l D tc sk (fun k => ([Ya_0, 0, Ya_2, Ya_3] : List (Nat)).getD k 0) (fun k => ([Yv_0] : List (Int32)).getD k 0) (fun k => ([(fun _ => 0), (fun _ => 0), Yf_2, Yf_3] : List (Nat → Int32)).getD k (fun _ => 0)) (fun k => ([Wa_0, Wa_1, Wa_2, Wa_3, Wa_4, Wa_5, Wa_6, Wa_7, Wa_8] : List (Nat)).getD k 0) (fun k => ([Wv_0, Wv_1, Wv_2, Wv_3, Wv_4, Wv_5] : List (Int32)).getD k 0) (fun k => ([(fun _ => 0), Wf_1, Wf_2, Wf_3, Wf_4, Wf_5, Wf_6, Wf_7, Wf_8] : List (Nat → Int32)).getD k (fun _ => 0)) x1 
