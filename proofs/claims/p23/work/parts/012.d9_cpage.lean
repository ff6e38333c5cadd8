set_option maxRecDepth 16384
def dX9_everybody (Av_3 : Int32) : Int32 := (((1 : Int32) <<< (Av_3 &&& 31)) - (1 : Int32))
set_option maxHeartbeats 4000000 in
set_option maxRecDepth 100000 in
theorem ct_dX9_everybody (l : Launch) (D : va_G) (tc : Nat → ClassId) (sk : (Nat → Nat) × (Nat → Nat)) (Aa : Nat → Nat) (Av : Nat → Int32) (Af : Nat → Nat → Int32) (h_buy : 0 ≤ (Av 3).toInt ∧ (Av 3).toInt ≤ 6) : Ct l yX9_everybody cX9_everybody 1 (some .int) { frames := 0, cells := 0, slots := 0, locals := 0 } D tc sk [.ref (Aa 0)] [((Aa 0), .inr (9, [.int (Av 0), .int (Av 1), .int (Av 2), .int (Av 3), .int (Av 4), .int (Av 5), .ref (Aa 1), .ref (Aa 2), .ref (Aa 3), .ref (Aa 4), .ref (Aa 5), .ref (Aa 6), .ref (Aa 7), .ref (Aa 8)])), ((Aa 1), .inl (tc 0, 10, .inl (Af 1))), ((Aa 2), .inl (tc 0, 10, .inl (Af 2))), ((Aa 3), .inl (tc 0, 6, .inl (Af 3))), ((Aa 4), .inl (tc 0, 6, .inl (Af 4))), ((Aa 5), .inl (tc 0, 6, .inl (Af 5))), ((Aa 6), .inl (tc 0, 6, .inl (Af 6))), ((Aa 7), .inl (tc 0, 6, .inl (Af 7))), ((Aa 8), .inl (tc 0, 6, .inl (Af 8)))] (fun (v : Option Value) (_ : Unit) => ∃ r : Int32, v = some (.int r) ∧ (((r.toInt ≤ 63 ∧ 0 ≤ r.toInt)) ∧ r = (dX9_everybody (Av 3)))) (fun (_ : Unit) => [((Aa 0), .inr (9, [.int (Av 0), .int (Av 1), .int (Av 2), .int (Av 3), .int (Av 4), .int (Av 5), .ref (Aa 1), .ref (Aa 2), .ref (Aa 3), .ref (Aa 4), .ref (Aa 5), .ref (Aa 6), .ref (Aa 7), .ref (Aa 8)])), ((Aa 1), .inl (tc 0, 10, .inl (Af 1))), ((Aa 2), .inl (tc 0, 10, .inl (Af 2))), ((Aa 3), .inl (tc 0, 6, .inl (Af 3))), ((Aa 4), .inl (tc 0, 6, .inl (Af 4))), ((Aa 5), .inl (tc 0, 6, .inl (Af 5))), ((Aa 6), .inl (tc 0, 6, .inl (Af 6))), ((Aa 7), .inl (tc 0, 6, .inl (Af 7))), ((Aa 8), .inl (tc 0, 6, .inl (Af 8)))]) 0 0 := by
  refine Ct.start (by decide) (Nat.le_of_ble_eq_true rfl) (fun p e s m below meth c A ls hx hb hr hlk hin hml hown hts hK hX hP hD hA hl hS => ?_)
  have hl : lv_has ls 1 [(0, .ref (Aa 0))] := hl
  refine lv_iconst (v := 1) hx hb dX9_everybody_0 (by decide) ?_
  refine lv_aload_n hx hb dX9_everybody_1 rfl (lv_at hl 0 rfl) ?_
  refine gf_X9_21 hx hb hts hown hK hP 0 rfl rfl dX9_everybody_2 ?_
  refine lv_ishl hx hb dX9_everybody_5 ?_
  refine lv_topi (fun x_1 ex_1 => ?_)
  refine lv_iconst (v := 1) hx hb dX9_everybody_6 (by decide) ?_
  refine lv_isub hx hb dX9_everybody_7 ?_
  refine lv_topi (fun x_2 ex_2 => ?_)
  have hp_3 : (x_2 : Int32).toInt ≤ 63 ∧ 0 ≤ (x_2 : Int32).toInt := by rw [ex_2, ex_1]; exact ev63 h_buy.1 h_buy.2
  have hF_4 : x_2 = (dX9_everybody (Av 3)) := by
    clear hP hD hS hl
    replace ex_1 := ex_1.symm; subst ex_1
    replace ex_2 := ex_2.symm; subst ex_2
    unfold dX9_everybody
    try rfl
  exact retI (v := x_2) hx hb hr hlk (rfl) hP hD hS () ⟨_, rfl, ⟨hp_3, hF_4⟩⟩ [0, 1, 2, 3, 4, 5, 6, 7, 8] rfl rfl dX9_everybody_8 (Nat.le_of_ble_eq_true rfl) (Nat.le_of_ble_eq_true rfl) rfl
set_option maxRecDepth 100000 in
theorem cu_dX9_everybody (l : Launch) (D : va_G) (tc : Nat → ClassId) (sk : (Nat → Nat) × (Nat → Nat)) (Aa_0 : Nat) (Aa_1 : Nat) (Aa_2 : Nat) (Aa_3 : Nat) (Aa_4 : Nat) (Aa_5 : Nat) (Aa_6 : Nat) (Aa_7 : Nat) (Aa_8 : Nat) (Av_0 : Int32) (Av_1 : Int32) (Av_2 : Int32) (Av_3 : Int32) (Av_4 : Int32) (Av_5 : Int32) (Af_1 : Nat → Int32) (Af_2 : Nat → Int32) (Af_3 : Nat → Int32) (Af_4 : Nat → Int32) (Af_5 : Nat → Int32) (Af_6 : Nat → Int32) (Af_7 : Nat → Int32) (Af_8 : Nat → Int32) (h_buy : 0 ≤ Av_3.toInt ∧ Av_3.toInt ≤ 6) : Ct l yX9_everybody cX9_everybody 1 (some .int) { frames := 0, cells := 0, slots := 0, locals := 0 } D tc sk [.ref Aa_0] [(Aa_0, .inr (9, [.int Av_0, .int Av_1, .int Av_2, .int Av_3, .int Av_4, .int Av_5, .ref Aa_1, .ref Aa_2, .ref Aa_3, .ref Aa_4, .ref Aa_5, .ref Aa_6, .ref Aa_7, .ref Aa_8])), (Aa_1, .inl (tc 0, 10, .inl Af_1)), (Aa_2, .inl (tc 0, 10, .inl Af_2)), (Aa_3, .inl (tc 0, 6, .inl Af_3)), (Aa_4, .inl (tc 0, 6, .inl Af_4)), (Aa_5, .inl (tc 0, 6, .inl Af_5)), (Aa_6, .inl (tc 0, 6, .inl Af_6)), (Aa_7, .inl (tc 0, 6, .inl Af_7)), (Aa_8, .inl (tc 0, 6, .inl Af_8))] (fun (v : Option Value) (_ : Unit) => ∃ r : Int32, v = some (.int r) ∧ (((r.toInt ≤ 63 ∧ 0 ≤ r.toInt)) ∧ r = (dX9_everybody Av_3))) (fun (_ : Unit) => [(Aa_0, .inr (9, [.int Av_0, .int Av_1, .int Av_2, .int Av_3, .int Av_4, .int Av_5, .ref Aa_1, .ref Aa_2, .ref Aa_3, .ref Aa_4, .ref Aa_5, .ref Aa_6, .ref Aa_7, .ref Aa_8])), (Aa_1, .inl (tc 0, 10, .inl Af_1)), (Aa_2, .inl (tc 0, 10, .inl Af_2)), (Aa_3, .inl (tc 0, 6, .inl Af_3)), (Aa_4, .inl (tc 0, 6, .inl Af_4)), (Aa_5, .inl (tc 0, 6, .inl Af_5)), (Aa_6, .inl (tc 0, 6, .inl Af_6)), (Aa_7, .inl (tc 0, 6, .inl Af_7)), (Aa_8, .inl (tc 0, 6, .inl Af_8))]) 0 0 :=
  ct_dX9_everybody l D tc sk (fun k => ([Aa_0, Aa_1, Aa_2, Aa_3, Aa_4, Aa_5, Aa_6, Aa_7, Aa_8] : List (Nat)).getD k 0) (fun k => ([Av_0, Av_1, Av_2, Av_3, Av_4, Av_5] : List (Int32)).getD k 0) (fun k => ([(fun _ => 0), Af_1, Af_2, Af_3, Af_4, Af_5, Af_6, Af_7, Af_8] : List (Nat → Int32)).getD k (fun _ => 0)) h_buy
def dX1_grainsOf_l4 (Af_4 : Nat → Int32) (Av_3 : Int32) (zz_501 : Int32) : Nat → Int32 → Int32 → Int32 × Int32
  | 0, _, _ => (0, 0)
  | n + 1, yy_500, yy_501 => (if Av_3 ≤ yy_500 then (yy_500, yy_501) else (if (6 : Int32) ≤ yy_500 then (yy_500, yy_501) else dX1_grainsOf_l4 Af_4 Av_3 zz_501 n (yy_500 + 1) (yy_501 + (((zz_501 >>> (yy_500 &&& 31)) &&& (1 : Int32)) * (Af_4 (yy_500).toNatClampNeg)))))
theorem dX1_grainsOf_l4_s {Af_4 : Nat → Int32} {Av_3 : Int32} {zz_501 : Int32} {n : Nat} {yy_500 : Int32} {yy_501 : Int32} : dX1_grainsOf_l4 Af_4 Av_3 zz_501 (n + 1) yy_500 yy_501 = (if Av_3 ≤ yy_500 then (yy_500, yy_501) else (if (6 : Int32) ≤ yy_500 then (yy_500, yy_501) else dX1_grainsOf_l4 Af_4 Av_3 zz_501 n (yy_500 + 1) (yy_501 + (((zz_501 >>> (yy_500 &&& 31)) &&& (1 : Int32)) * (Af_4 (yy_500).toNatClampNeg))))) := rfl
def dX1_grainsOf (Af_4 : Nat → Int32) (Av_3 : Int32) (x1 : Int32) : Int32 := (dX1_grainsOf_l4 Af_4 Av_3 x1 ((6 - (0 : Int32).toInt).toNat + 1) (0 : Int32) (0 : Int32)).2
set_option maxHeartbeats 4000000 in
set_option maxRecDepth 100000 in
theorem ct_dX1_grainsOf (l : Launch) (D : va_G) (tc : Nat → ClassId) (sk : (Nat → Nat) × (Nat → Nat)) (Aa : Nat → Nat) (Av : Nat → Int32) (Af : Nat → Nat → Int32) (x1 : Int32)  : Ct l yX1_grainsOf cX1_grainsOf 4 (some .int) { frames := 0, cells := 0, slots := 0, locals := 0 } D tc sk [.ref (Aa 0), .int x1] [((Aa 0), .inr (9, [.int (Av 0), .int (Av 1), .int (Av 2), .int (Av 3), .int (Av 4), .int (Av 5), .ref (Aa 1), .ref (Aa 2), .ref (Aa 3), .ref (Aa 4), .ref (Aa 5), .ref (Aa 6), .ref (Aa 7), .ref (Aa 8)])), ((Aa 1), .inl (tc 0, 10, .inl (Af 1))), ((Aa 2), .inl (tc 0, 10, .inl (Af 2))), ((Aa 3), .inl (tc 0, 6, .inl (Af 3))), ((Aa 4), .inl (tc 0, 6, .inl (Af 4))), ((Aa 5), .inl (tc 0, 6, .inl (Af 5))), ((Aa 6), .inl (tc 0, 6, .inl (Af 6))), ((Aa 7), .inl (tc 0, 6, .inl (Af 7))), ((Aa 8), .inl (tc 0, 6, .inl (Af 8)))] (fun (v : Option Value) (_ : Unit) => ∃ r : Int32, v = some (.int r) ∧ ((True) ∧ r = (dX1_grainsOf (Af 4) (Av 3) x1))) (fun (_ : Unit) => [((Aa 0), .inr (9, [.int (Av 0), .int (Av 1), .int (Av 2), .int (Av 3), .int (Av 4), .int (Av 5), .ref (Aa 1), .ref (Aa 2), .ref (Aa 3), .ref (Aa 4), .ref (Aa 5), .ref (Aa 6), .ref (Aa 7), .ref (Aa 8)])), ((Aa 1), .inl (tc 0, 10, .inl (Af 1))), ((Aa 2), .inl (tc 0, 10, .inl (Af 2))), ((Aa 3), .inl (tc 0, 6, .inl (Af 3))), ((Aa 4), .inl (tc 0, 6, .inl (Af 4))), ((Aa 5), .inl (tc 0, 6, .inl (Af 5))), ((Aa 6), .inl (tc 0, 6, .inl (Af 6))), ((Aa 7), .inl (tc 0, 6, .inl (Af 7))), ((Aa 8), .inl (tc 0, 6, .inl (Af 8)))]) 0 0 := by
  refine Ct.start (by decide) (Nat.le_of_ble_eq_true rfl) (fun p e s m below meth c A ls hx hb hr hlk hin hml hown hts hK hX hP hD hA hl hS => ?_)
  have hl : lv_has ls 4 [(0, .ref (Aa 0)), (1, .int x1)] := hl
  refine lv_iconst (v := 0) hx hb dX1_grainsOf_0 (by decide) ?_
  refine lv_istore_n (lv' := [(2, .int 0), (0, .ref (Aa 0)), (1, .int x1)]) hx hb dX1_grainsOf_1 rfl hl (by decide) rfl (fun ls hl₀ => ?_)
  replace hl := hl₀
  clear hl₀
  refine lv_iconst (v := 0) hx hb dX1_grainsOf_2 (by decide) ?_
  refine lv_istore_n (lv' := [(3, .int 0), (2, .int 0), (0, .ref (Aa 0)), (1, .int x1)]) hx hb dX1_grainsOf_3 rfl hl (by decide) rfl (fun ls hl₀ => ?_)
  replace hl := hl₀
  clear hl₀
  have loop_3 : ∀ (n_1 : Nat) (yy_500 : Int32) (yy_501 : Int32) (H : Heap) (locs : List Loc) (ls : Array Slot), (6 - (yy_500 : Int32).toInt).toNat < n_1 → (dX1_grainsOf_l4 (Af 4) (Av 3) x1 ((6 - (0 : Int32).toInt).toNat + 1) (0 : Int32) (0 : Int32)) = dX1_grainsOf_l4 (Af 4) (Av 3) x1 ((6 - (yy_500 : Int32).toInt).toNat + 1) yy_500 yy_501 → (0 ≤ (yy_500 : Int32).toInt) → va_P D classes [((Aa 0), .inr (9, [.int (Av 0), .int (Av 1), .int (Av 2), .int (Av 3), .int (Av 4), .int (Av 5), .ref (Aa 1), .ref (Aa 2), .ref (Aa 3), .ref (Aa 4), .ref (Aa 5), .ref (Aa 6), .ref (Aa 7), .ref (Aa 8)])), ((Aa 1), .inl (tc 0, 10, .inl (Af 1))), ((Aa 2), .inl (tc 0, 10, .inl (Af 2))), ((Aa 3), .inl (tc 0, 6, .inl (Af 3))), ((Aa 4), .inl (tc 0, 6, .inl (Af 4))), ((Aa 5), .inl (tc 0, 6, .inl (Af 5))), ((Aa 6), .inl (tc 0, 6, .inl (Af 6))), ((Aa 7), .inl (tc 0, 6, .inl (Af 7))), ((Aa 8), .inl (tc 0, 6, .inl (Af 8)))] H → va_D A [((Aa 0), .inr (9, [.int (Av 0), .int (Av 1), .int (Av 2), .int (Av 3), .int (Av 4), .int (Av 5), .ref (Aa 1), .ref (Aa 2), .ref (Aa 3), .ref (Aa 4), .ref (Aa 5), .ref (Aa 6), .ref (Aa 7), .ref (Aa 8)])), ((Aa 1), .inl (tc 0, 10, .inl (Af 1))), ((Aa 2), .inl (tc 0, 10, .inl (Af 2))), ((Aa 3), .inl (tc 0, 6, .inl (Af 3))), ((Aa 4), .inl (tc 0, 6, .inl (Af 4))), ((Aa 5), .inl (tc 0, 6, .inl (Af 5))), ((Aa 6), .inl (tc 0, 6, .inl (Af 6))), ((Aa 7), .inl (tc 0, 6, .inl (Af 7))), ((Aa 8), .inl (tc 0, 6, .inl (Af 8)))] → va_S A s.heap H locs → lv_has ls 4 [(3, .int yy_500), (2, .int yy_501), (0, .ref (Aa 0)), (1, .int x1)] → W p l e ({ frames := 0, cells := 0, slots := 0, locals := 0 }) s m ([.ref (Aa 0), .int x1].toArray) below meth c H locs 0 0 (MQ below (QW (fun (v : Option Value) (_ : Unit) => ∃ r : Int32, v = some (.int r) ∧ ((True) ∧ r = (dX1_grainsOf (Af 4) (Av 3) x1))) (BW D (fun (_ : Unit) => [((Aa 0), .inr (9, [.int (Av 0), .int (Av 1), .int (Av 2), .int (Av 3), .int (Av 4), .int (Av 5), .ref (Aa 1), .ref (Aa 2), .ref (Aa 3), .ref (Aa 4), .ref (Aa 5), .ref (Aa 6), .ref (Aa 7), .ref (Aa 8)])), ((Aa 1), .inl (tc 0, 10, .inl (Af 1))), ((Aa 2), .inl (tc 0, 10, .inl (Af 2))), ((Aa 3), .inl (tc 0, 6, .inl (Af 3))), ((Aa 4), .inl (tc 0, 6, .inl (Af 4))), ((Aa 5), .inl (tc 0, 6, .inl (Af 5))), ((Aa 6), .inl (tc 0, 6, .inl (Af 6))), ((Aa 7), .inl (tc 0, 6, .inl (Af 7))), ((Aa 8), .inl (tc 0, 6, .inl (Af 8)))]) A) A) ([.ref (Aa 0), .int x1].toArray) s 0 0 A) (F0 m 4 ls []) := by
    clear hP hD hS hl
    intro n_1
    induction n_1 with
    | zero =>
      intro yy_500 yy_501 H locs ls h1
      exact absurd h1 (Nat.not_lt_zero _)
    | succ n_1 ih_2 =>
      intro yy_500 yy_501 H locs ls hn_6 hL_5 pf_4 hP hD hS hl
      refine lv_iload_n hx hb dX1_grainsOf_4 rfl (lv_at hl 0 rfl) ?_
      refine lv_aload_n hx hb dX1_grainsOf_5 rfl (lv_at hl 2 rfl) ?_
      refine gf_X1_66 hx hb hts hown hK hP 0 rfl rfl dX1_grainsOf_6 ?_
      refine lv_icmp_ge (tgt := 39) hx hb dX1_grainsOf_9 (by decide) (fun c_7 => ?_) (fun c_7 => ?_)
      · skip
        have hb_9 : dX1_grainsOf_l4 (Af 4) (Av 3) x1 ((6 - (yy_500 : Int32).toInt).toNat + 1) yy_500 yy_501 = (yy_500, yy_501) := by
          clear hP hD hS hl ih_2
          rw [dX1_grainsOf_l4_s]
          rw [if_pos c_7]
          try rfl
        have hX_8 : (dX1_grainsOf_l4 (Af 4) (Av 3) x1 ((6 - (0 : Int32).toInt).toNat + 1) (0 : Int32) (0 : Int32)) = (yy_500, yy_501) := hL_5.trans hb_9
        have hX_8_0 : (dX1_grainsOf_l4 (Af 4) (Av 3) x1 ((6 - (0 : Int32).toInt).toNat + 1) (0 : Int32) (0 : Int32)).1 = yy_500 := congrArg (fun z => z.1) hX_8
        have hX_8_1 : (dX1_grainsOf_l4 (Af 4) (Av 3) x1 ((6 - (0 : Int32).toInt).toNat + 1) (0 : Int32) (0 : Int32)).2 = yy_501 := congrArg (fun z => z.2) hX_8
        refine lv_iload_n hx hb dX1_grainsOf_39 rfl (lv_at hl 1 rfl) ?_
        have hF_10 : yy_501 = (dX1_grainsOf (Af 4) (Av 3) x1) := by
          clear hP hD hS hl ih_2
          unfold dX1_grainsOf
          try rw [hX_8_0]
          try rw [hX_8_1]
          try rfl
        exact retI (v := yy_501) hx hb hr hlk (rfl) hP hD hS () ⟨_, rfl, ⟨trivial, hF_10⟩⟩ [0, 1, 2, 3, 4, 5, 6, 7, 8] rfl rfl dX1_grainsOf_40 (Nat.le_of_ble_eq_true rfl) (Nat.le_of_ble_eq_true rfl) rfl
      · skip
        refine lv_iload_n hx hb dX1_grainsOf_12 rfl (lv_at hl 0 rfl) ?_
        refine lv_bipush (v := 6) hx hb dX1_grainsOf_13 (by decide) ?_
        refine lv_icmp_ge (tgt := 39) hx hb dX1_grainsOf_15 (by decide) (fun c_11 => ?_) (fun c_11 => ?_)
        · skip
          have hb_13 : dX1_grainsOf_l4 (Af 4) (Av 3) x1 ((6 - (yy_500 : Int32).toInt).toNat + 1) yy_500 yy_501 = (yy_500, yy_501) := by
            clear hP hD hS hl ih_2
            rw [dX1_grainsOf_l4_s]
            rw [if_neg c_7, if_pos c_11]
            try rfl
          have hX_12 : (dX1_grainsOf_l4 (Af 4) (Av 3) x1 ((6 - (0 : Int32).toInt).toNat + 1) (0 : Int32) (0 : Int32)) = (yy_500, yy_501) := hL_5.trans hb_13
          have hX_12_0 : (dX1_grainsOf_l4 (Af 4) (Av 3) x1 ((6 - (0 : Int32).toInt).toNat + 1) (0 : Int32) (0 : Int32)).1 = yy_500 := congrArg (fun z => z.1) hX_12
          have hX_12_1 : (dX1_grainsOf_l4 (Af 4) (Av 3) x1 ((6 - (0 : Int32).toInt).toNat + 1) (0 : Int32) (0 : Int32)).2 = yy_501 := congrArg (fun z => z.2) hX_12
          refine lv_iload_n hx hb dX1_grainsOf_39 rfl (lv_at hl 1 rfl) ?_
          have hF_14 : yy_501 = (dX1_grainsOf (Af 4) (Av 3) x1) := by
            clear hP hD hS hl ih_2
            unfold dX1_grainsOf
            try rw [hX_12_0]
            try rw [hX_12_1]
            try rfl
          exact retI (v := yy_501) hx hb hr hlk (rfl) hP hD hS () ⟨_, rfl, ⟨trivial, hF_14⟩⟩ [0, 1, 2, 3, 4, 5, 6, 7, 8] rfl rfl dX1_grainsOf_40 (Nat.le_of_ble_eq_true rfl) (Nat.le_of_ble_eq_true rfl) rfl
        · skip
          refine lv_iload_n hx hb dX1_grainsOf_18 rfl (lv_at hl 1 rfl) ?_
          refine lv_iload_n hx hb dX1_grainsOf_19 rfl (lv_at hl 3 rfl) ?_
          refine lv_iload_n hx hb dX1_grainsOf_20 rfl (lv_at hl 0 rfl) ?_
          refine lv_ishr hx hb dX1_grainsOf_21 ?_
          refine lv_topi (fun x_15 ex_15 => ?_)
          refine lv_iconst (v := 1) hx hb dX1_grainsOf_22 (by decide) ?_
          refine lv_iand hx hb dX1_grainsOf_23 ?_
          refine lv_topi (fun x_16 ex_16 => ?_)
          refine lv_aload_n hx hb dX1_grainsOf_24 rfl (lv_at hl 2 rfl) ?_
          refine gf_X1_73 hx hb hts hown hK hP 0 rfl rfl dX1_grainsOf_25 ?_
          refine lv_iload_n hx hb dX1_grainsOf_28 rfl (lv_at hl 0 rfl) ?_
          have hi_17 : vp_in yy_500 6 := by
            have z_1 := Int32.lt_iff_toInt_lt.mp (Int32.not_le.mp c_7)
            have z_2 := Int32.lt_iff_toInt_lt.mp (Int32.not_le.mp c_11)
            have y_6 : (6 : Int32).toInt = 6 := by decide
            refine vp_in_iff.mpr ⟨?_, ?_⟩ <;> omega
          refine va_iald hx hb hK hP 4 0 rfl rfl hi_17 dX1_grainsOf_29 ?_
          refine lv_topi (fun x_18 ex_18 => ?_)
          refine lv_imul hx hb dX1_grainsOf_30 ?_
          refine lv_topi (fun x_19 ex_19 => ?_)
          refine lv_iadd hx hb dX1_grainsOf_31 ?_
          refine lv_topi (fun x_20 ex_20 => ?_)
          refine lv_istore_n (lv' := [(2, .int x_20), (3, .int yy_500), (0, .ref (Aa 0)), (1, .int x1)]) hx hb dX1_grainsOf_32 rfl hl (by decide) rfl (fun ls hl₀ => ?_)
          replace hl := hl₀
          clear hl₀
          obtain ⟨x_21, ex_21⟩ : ∃ y : Int32, y = yy_500 + 1 := ⟨_, rfl⟩
          refine lv_iinc (v := x_21) (lv' := [(3, .int x_21), (2, .int x_20), (0, .ref (Aa 0)), (1, .int x1)]) hx hb dX1_grainsOf_33 hl (k := 1) rfl (by rw [ex_21]; rfl) (by decide) rfl (fun ls hl₀ => ?_)
          replace hl := hl₀
          clear hl₀
          refine lv_goto (tgt := 4) hx hb dX1_grainsOf_36 (by decide) ?_
          have hb_22 : 6 - (x_21 : Int32).toInt < 6 - (yy_500 : Int32).toInt ∧ 1 ≤ 6 - (yy_500 : Int32).toInt := by
            have z_1 := Int32.lt_iff_toInt_lt.mp (Int32.not_le.mp c_7)
            have z_2 := Int32.lt_iff_toInt_lt.mp (Int32.not_le.mp c_11)
            have y_6 : (6 : Int32).toInt = 6 := by decide
            have y_1 : (1 : Int32).toInt = 1 := by decide
            have t_x_21 : x_21.toInt = (yy_500 : Int32).toInt + (1 : Int32).toInt := by rw [ex_21]; exact add_toInt (by omega) (by omega)
            omega
          have hm_23 : (6 - (yy_500 : Int32).toInt).toNat = (6 - (x_21 : Int32).toInt).toNat + 1 := by
            have z_1 := Int32.lt_iff_toInt_lt.mp (Int32.not_le.mp c_7)
            have z_2 := Int32.lt_iff_toInt_lt.mp (Int32.not_le.mp c_11)
            have y_6 : (6 : Int32).toInt = 6 := by decide
            have y_1 : (1 : Int32).toInt = 1 := by decide
            have t_x_21 : x_21.toInt = (yy_500 : Int32).toInt + (1 : Int32).toInt := by rw [ex_21]; exact add_toInt (by omega) (by omega)
            omega
          have hb_24 : dX1_grainsOf_l4 (Af 4) (Av 3) x1 ((6 - (yy_500 : Int32).toInt).toNat + 1) yy_500 yy_501 = dX1_grainsOf_l4 (Af 4) (Av 3) x1 ((6 - (yy_500 : Int32).toInt).toNat) x_21 x_20 := by
            clear hP hD hS hl ih_2
            replace ex_15 := ex_15.symm; subst ex_15
            replace ex_16 := ex_16.symm; subst ex_16
            replace ex_18 := ex_18.symm; subst ex_18
            replace ex_19 := ex_19.symm; subst ex_19
            replace ex_20 := ex_20.symm; subst ex_20
            replace ex_21 := ex_21.symm; subst ex_21
            rw [dX1_grainsOf_l4_s]
            rw [if_neg c_7, if_neg c_11]
            try rfl
          have hL_25 : (dX1_grainsOf_l4 (Af 4) (Av 3) x1 ((6 - (0 : Int32).toInt).toNat + 1) (0 : Int32) (0 : Int32)) = dX1_grainsOf_l4 (Af 4) (Av 3) x1 ((6 - (x_21 : Int32).toInt).toNat + 1) x_21 x_20 := by
            rw [hL_5, hb_24, hm_23]
          have ha_26 : 0 ≤ (x_21 : Int32).toInt := by
            have z_1 := Int32.lt_iff_toInt_lt.mp (Int32.not_le.mp c_7)
            have z_2 := Int32.lt_iff_toInt_lt.mp (Int32.not_le.mp c_11)
            have y_6 : (6 : Int32).toInt = 6 := by decide
            have y_1 : (1 : Int32).toInt = 1 := by decide
            have t_x_21 : x_21.toInt = (yy_500 : Int32).toInt + (1 : Int32).toInt := by rw [ex_21]; exact add_toInt (by omega) (by omega)
            omega
          exact ih_2 x_21 x_20 _ _ _ (by omega) hL_25 ha_26 (hP.sub [0, 1, 2, 3, 4, 5, 6, 7, 8] rfl) (hD.sub [0, 1, 2, 3, 4, 5, 6, 7, 8] rfl rfl) hS (lv_sub hl [0, 1, 2, 3] rfl)
  have ha_27 : 0 ≤ (0 : Int32).toInt := by
    have y_0 : (0 : Int32).toInt = 0 := by decide
    omega
  exact loop_3 _ 0 0 _ _ _ (Nat.lt_succ_self _) rfl ha_27 hP hD hS hl
set_option maxRecDepth 100000 in
theorem cu_dX1_grainsOf (l : Launch) (D : va_G) (tc : Nat → ClassId) (sk : (Nat → Nat) × (Nat → Nat)) (Aa_0 : Nat) (Aa_1 : Nat) (Aa_2 : Nat) (Aa_3 : Nat) (Aa_4 : Nat) (Aa_5 : Nat) (Aa_6 : Nat) (Aa_7 : Nat) (Aa_8 : Nat) (Av_0 : Int32) (Av_1 : Int32) (Av_2 : Int32) (Av_3 : Int32) (Av_4 : Int32) (Av_5 : Int32) (Af_1 : Nat → Int32) (Af_2 : Nat → Int32) (Af_3 : Nat → Int32) (Af_4 : Nat → Int32) (Af_5 : Nat → Int32) (Af_6 : Nat → Int32) (Af_7 : Nat → Int32) (Af_8 : Nat → Int32) (x1 : Int32)  : Ct l yX1_grainsOf cX1_grainsOf 4 (some .int) { frames := 0, cells := 0, slots := 0, locals := 0 } D tc sk [.ref Aa_0, .int x1] [(Aa_0, .inr (9, [.int Av_0, .int Av_1, .int Av_2, .int Av_3, .int Av_4, .int Av_5, .ref Aa_1, .ref Aa_2, .ref Aa_3, .ref Aa_4, .ref Aa_5, .ref Aa_6, .ref Aa_7, .ref Aa_8])), (Aa_1, .inl (tc 0, 10, .inl Af_1)), (Aa_2, .inl (tc 0, 10, .inl Af_2)), (Aa_3, .inl (tc 0, 6, .inl Af_3)), (Aa_4, .inl (tc 0, 6, .inl Af_4)), (Aa_5, .inl (tc 0, 6, .inl Af_5)), (Aa_6, .inl (tc 0, 6, .inl Af_6)), (Aa_7, .inl (tc 0, 6, .inl Af_7)), (Aa_8, .inl (tc 0, 6, .inl Af_8))] (fun (v : Option Value) (_ : Unit) => ∃ r : Int32, v = some (.int r) ∧ ((True) ∧ r = (dX1_grainsOf Af_4 Av_3 x1))) (fun (_ : Unit) => [(Aa_0, .inr (9, [.int Av_0, .int Av_1, .int Av_2, .int Av_3, .int Av_4, .int Av_5, .ref Aa_1, .ref Aa_2, .ref Aa_3, .ref Aa_4, .ref Aa_5, .ref Aa_6, .ref Aa_7, .ref Aa_8])), (Aa_1, .inl (tc 0, 10, .inl Af_1)), (Aa_2, .inl (tc 0, 10, .inl Af_2)), (Aa_3, .inl (tc 0, 6, .inl Af_3)), (Aa_4, .inl (tc 0, 6, .inl Af_4)), (Aa_5, .inl (tc 0, 6, .inl Af_5)), (Aa_6, .inl (tc 0, 6, .inl Af_6)), (Aa_7, .inl (tc 0, 6, .inl Af_7)), (Aa_8, .inl (tc 0, 6, .inl Af_8))]) 0 0 :=
  ct_dX1_grainsOf l D tc sk (fun k => ([Aa_0, Aa_1, Aa_2, Aa_3, Aa_4, Aa_5, Aa_6, Aa_7, Aa_8] : List (Nat)).getD k 0) (fun k => ([Av_0, Av_1, Av_2, Av_3, Av_4, Av_5] : List (Int32)).getD k 0) (fun k => ([(fun _ => 0), Af_1, Af_2, Af_3, Af_4, Af_5, Af_6, Af_7, Af_8] : List (Nat → Int32)).getD k (fun _ => 0)) x1 
def dX1_setsOf_l16 (Af_4 : Nat → Int32) (Av_3 : Int32) (zz_1702 : Int32) : Nat → Int32 → Int32 → Int32 → Int32 → Int32 × Int32 × Int32 × Int32
  | 0, _, _, _, _ => (0, 0, 0, 0)
  | n + 1, yy_1700, yy_1701, yy_1702, yy_1703 => (if (dX9_everybody Av_3) < yy_1700 then (yy_1700, yy_1701, yy_1702, yy_1703) else (if (dX1_grainsOf Af_4 Av_3 yy_1700) = zz_1702 then (if yy_1702 = (0 : Int32) then dX1_setsOf_l16 Af_4 Av_3 zz_1702 n (yy_1700 + 1) (yy_1701 &&& yy_1700) (yy_1702 + 1) yy_1700 else dX1_setsOf_l16 Af_4 Av_3 zz_1702 n (yy_1700 + 1) (yy_1701 &&& yy_1700) (yy_1702 + 1) yy_1703) else dX1_setsOf_l16 Af_4 Av_3 zz_1702 n (yy_1700 + 1) yy_1701 yy_1702 yy_1703))
theorem dX1_setsOf_l16_s {Af_4 : Nat → Int32} {Av_3 : Int32} {zz_1702 : Int32} {n : Nat} {yy_1700 : Int32} {yy_1701 : Int32} {yy_1702 : Int32} {yy_1703 : Int32} : dX1_setsOf_l16 Af_4 Av_3 zz_1702 (n + 1) yy_1700 yy_1701 yy_1702 yy_1703 = (if (dX9_everybody Av_3) < yy_1700 then (yy_1700, yy_1701, yy_1702, yy_1703) else (if (dX1_grainsOf Af_4 Av_3 yy_1700) = zz_1702 then (if yy_1702 = (0 : Int32) then dX1_setsOf_l16 Af_4 Av_3 zz_1702 n (yy_1700 + 1) (yy_1701 &&& yy_1700) (yy_1702 + 1) yy_1700 else dX1_setsOf_l16 Af_4 Av_3 zz_1702 n (yy_1700 + 1) (yy_1701 &&& yy_1700) (yy_1702 + 1) yy_1703) else dX1_setsOf_l16 Af_4 Av_3 zz_1702 n (yy_1700 + 1) yy_1701 yy_1702 yy_1703)) := rfl
def dX1_setsOf (Af_4 : Nat → Int32) (Av_3 : Int32) (x1 : Int32) (x2 : Int32) : Int32 := (if x2 = (0 : Int32) then (dX1_setsOf_l16 Af_4 Av_3 x1 ((64 - (0 : Int32).toInt).toNat + 1) (0 : Int32) (dX9_everybody Av_3) (0 : Int32) (-2 : Int32)).2.2.1 else (if x2 = (1 : Int32) then (dX1_setsOf_l16 Af_4 Av_3 x1 ((64 - (0 : Int32).toInt).toNat + 1) (0 : Int32) (dX9_everybody Av_3) (0 : Int32) (-2 : Int32)).2.2.2 else (if (dX1_setsOf_l16 Af_4 Av_3 x1 ((64 - (0 : Int32).toInt).toNat + 1) (0 : Int32) (dX9_everybody Av_3) (0 : Int32) (-2 : Int32)).2.2.1 = (0 : Int32) then (0 : Int32) else (dX1_setsOf_l16 Af_4 Av_3 x1 ((64 - (0 : Int32).toInt).toNat + 1) (0 : Int32) (dX9_everybody Av_3) (0 : Int32) (-2 : Int32)).2.1)))
set_option maxHeartbeats 4000000 in
set_option maxRecDepth 100000 in
theorem ct_dX1_setsOf (l : Launch) (D : va_G) (tc : Nat → ClassId) (sk : (Nat → Nat) × (Nat → Nat)) (Ca : Nat → Nat) (Cf : Nat → Nat → Int32) (Ha : Nat → Nat) (Hv : Nat → Int32) (Hf : Nat → Nat → Int32) (Aa : Nat → Nat) (Av : Nat → Int32) (Af : Nat → Nat → Int32) (x1 : Int32) (x2 : Int32) (h_buy : 0 ≤ (Av 3).toInt ∧ (Av 3).toInt ≤ 6) : Ct l yX1_setsOf cX1_setsOf 8 (some .int) { frames := 1, cells := 0, slots := 0, locals := 23 } D tc sk [.ref (Ca 0), .ref (Aa 0), .int x1, .int x2] [((Ca 0), .inr (1, [.ref (Ha 0), .ref (Ca 2), .ref (Ca 3)])), ((Ca 2), .inl (tc 0, 25, .inl (Cf 2))), ((Ca 3), .inl (tc 0, 25, .inl (Cf 3))), ((Ha 0), .inr (9, [.int (Hv 0), .int (Hv 1), .int (Hv 2), .int (Hv 3), .int (Hv 4), .int (Hv 5), .ref (Ha 1), .ref (Ha 2), .ref (Ha 3), .ref (Ha 4), .ref (Ha 5), .ref (Ha 6), .ref (Ha 7), .ref (Ha 8)])), ((Ha 1), .inl (tc 0, 10, .inl (Hf 1))), ((Ha 2), .inl (tc 0, 10, .inl (Hf 2))), ((Ha 3), .inl (tc 0, 6, .inl (Hf 3))), ((Ha 4), .inl (tc 0, 6, .inl (Hf 4))), ((Ha 5), .inl (tc 0, 6, .inl (Hf 5))), ((Ha 6), .inl (tc 0, 6, .inl (Hf 6))), ((Ha 7), .inl (tc 0, 6, .inl (Hf 7))), ((Ha 8), .inl (tc 0, 6, .inl (Hf 8))), ((Aa 0), .inr (9, [.int (Av 0), .int (Av 1), .int (Av 2), .int (Av 3), .int (Av 4), .int (Av 5), .ref (Aa 1), .ref (Aa 2), .ref (Aa 3), .ref (Aa 4), .ref (Aa 5), .ref (Aa 6), .ref (Aa 7), .ref (Aa 8)])), ((Aa 1), .inl (tc 0, 10, .inl (Af 1))), ((Aa 2), .inl (tc 0, 10, .inl (Af 2))), ((Aa 3), .inl (tc 0, 6, .inl (Af 3))), ((Aa 4), .inl (tc 0, 6, .inl (Af 4))), ((Aa 5), .inl (tc 0, 6, .inl (Af 5))), ((Aa 6), .inl (tc 0, 6, .inl (Af 6))), ((Aa 7), .inl (tc 0, 6, .inl (Af 7))), ((Aa 8), .inl (tc 0, 6, .inl (Af 8)))] (fun (v : Option Value) (_ : Unit) => ∃ r : Int32, v = some (.int r) ∧ ((True) ∧ r = (dX1_setsOf (Af 4) (Av 3) x1 x2))) (fun (_ : Unit) => [((Ca 0), .inr (1, [.ref (Ha 0), .ref (Ca 2), .ref (Ca 3)])), ((Ca 2), .inl (tc 0, 25, .inl (Cf 2))), ((Ca 3), .inl (tc 0, 25, .inl (Cf 3))), ((Ha 0), .inr (9, [.int (Hv 0), .int (Hv 1), .int (Hv 2), .int (Hv 3), .int (Hv 4), .int (Hv 5), .ref (Ha 1), .ref (Ha 2), .ref (Ha 3), .ref (Ha 4), .ref (Ha 5), .ref (Ha 6), .ref (Ha 7), .ref (Ha 8)])), ((Ha 1), .inl (tc 0, 10, .inl (Hf 1))), ((Ha 2), .inl (tc 0, 10, .inl (Hf 2))), ((Ha 3), .inl (tc 0, 6, .inl (Hf 3))), ((Ha 4), .inl (tc 0, 6, .inl (Hf 4))), ((Ha 5), .inl (tc 0, 6, .inl (Hf 5))), ((Ha 6), .inl (tc 0, 6, .inl (Hf 6))), ((Ha 7), .inl (tc 0, 6, .inl (Hf 7))), ((Ha 8), .inl (tc 0, 6, .inl (Hf 8))), ((Aa 0), .inr (9, [.int (Av 0), .int (Av 1), .int (Av 2), .int (Av 3), .int (Av 4), .int (Av 5), .ref (Aa 1), .ref (Aa 2), .ref (Aa 3), .ref (Aa 4), .ref (Aa 5), .ref (Aa 6), .ref (Aa 7), .ref (Aa 8)])), ((Aa 1), .inl (tc 0, 10, .inl (Af 1))), ((Aa 2), .inl (tc 0, 10, .inl (Af 2))), ((Aa 3), .inl (tc 0, 6, .inl (Af 3))), ((Aa 4), .inl (tc 0, 6, .inl (Af 4))), ((Aa 5), .inl (tc 0, 6, .inl (Af 5))), ((Aa 6), .inl (tc 0, 6, .inl (Af 6))), ((Aa 7), .inl (tc 0, 6, .inl (Af 7))), ((Aa 8), .inl (tc 0, 6, .inl (Af 8)))]) 0 0 := by
  refine Ct.start (by decide) (Nat.le_of_ble_eq_true rfl) (fun p e s m below meth c A ls hx hb hr hlk hin hml hown hts hK hX hP hD hA hl hS => ?_)
  have hl : lv_has ls 8 [(0, .ref (Ca 0)), (1, .ref (Aa 0)), (2, .int x1), (3, .int x2)] := hl
  refine lv_iconst (v := 0) hx hb dX1_setsOf_0 (by decide) ?_
  refine lv_istore (lv' := [(4, .int 0), (0, .ref (Ca 0)), (1, .ref (Aa 0)), (2, .int x1), (3, .int x2)]) hx hb dX1_setsOf_1 hl (by decide) rfl (fun ls hl₀ => ?_)
  replace hl := hl₀
  clear hl₀
  refine lv_bipush (v := (-2)) hx hb dX1_setsOf_3 (by decide) ?_
  refine lv_istore (lv' := [(5, .int (-2)), (4, .int 0), (0, .ref (Ca 0)), (1, .ref (Aa 0)), (2, .int x1), (3, .int x2)]) hx hb dX1_setsOf_5 hl (by decide) rfl (fun ls hl₀ => ?_)
  replace hl := hl₀
  clear hl₀
  refine lv_aload_n hx hb dX1_setsOf_7 rfl (lv_at hl 3 rfl) ?_
  refine cV (a := (Aa 0)) (As := []) (rest := []) (wr := [((Ca 0), .inr (1, [.ref (Ha 0), .ref (Ca 2), .ref (Ca 3)])), ((Ca 2), .inl (tc 0, 25, .inl (Cf 2))), ((Ca 3), .inl (tc 0, 25, .inl (Cf 3))), ((Ha 0), .inr (9, [.int (Hv 0), .int (Hv 1), .int (Hv 2), .int (Hv 3), .int (Hv 4), .int (Hv 5), .ref (Ha 1), .ref (Ha 2), .ref (Ha 3), .ref (Ha 4), .ref (Ha 5), .ref (Ha 6), .ref (Ha 7), .ref (Ha 8)])), ((Ha 1), .inl (tc 0, 10, .inl (Hf 1))), ((Ha 2), .inl (tc 0, 10, .inl (Hf 2))), ((Ha 3), .inl (tc 0, 6, .inl (Hf 3))), ((Ha 4), .inl (tc 0, 6, .inl (Hf 4))), ((Ha 5), .inl (tc 0, 6, .inl (Hf 5))), ((Ha 6), .inl (tc 0, 6, .inl (Hf 6))), ((Ha 7), .inl (tc 0, 6, .inl (Hf 7))), ((Ha 8), .inl (tc 0, 6, .inl (Hf 8)))]) ⟨hx, hb, hml, hown, hts⟩ hK hX hA (cu_dX9_everybody l D tc sk (Aa 0) (Aa 1) (Aa 2) (Aa 3) (Aa 4) (Aa 5) (Aa 6) (Aa 7) (Aa 8) (Av 0) (Av 1) (Av 2) (Av 3) (Av 4) (Av 5) (Af 1) (Af 2) (Af 3) (Af 4) (Af 5) (Af 6) (Af 7) (Af 8) h_buy) k_873 k_870 k_871 k_872 k_98 pl_X9_everybody ⟨Nat.le_of_ble_eq_true rfl, Nat.le_of_ble_eq_true rfl⟩ rfl rfl (va_recv hK hP (ci := 9) (q0 := 12) rfl rfl) hP hD hS [12, 13, 14, 15, 16, 17, 18, 19, 20] [0, 1, 2, 3, 4, 5, 6, 7, 8, 9, 10, 11] rfl rfl rfl rfl rfl (by decide) rfl hl.1 rfl (Nat.le_of_ble_eq_true rfl) dX1_setsOf_8 ⟨Nat.le_of_ble_eq_true rfl, Nat.le_of_ble_eq_true rfl⟩ (fun v_1 u_2 H locs hv_3 hP₀ hD₀ hS₀ => ?_)
  obtain ⟨r_4, rfl, he_5⟩ := hv_3
  have he_5 : ((r_4.toInt ≤ 63 ∧ 0 ≤ r_4.toInt)) ∧ r_4 = (dX9_everybody (Av 3)) := he_5
  refine W.eq (g2 := F0 m 11 ls [.int r_4]) rfl ?_
  replace hP : va_P D classes [((Ca 0), .inr (1, [.ref (Ha 0), .ref (Ca 2), .ref (Ca 3)])), ((Ca 2), .inl (tc 0, 25, .inl (Cf 2))), ((Ca 3), .inl (tc 0, 25, .inl (Cf 3))), ((Ha 0), .inr (9, [.int (Hv 0), .int (Hv 1), .int (Hv 2), .int (Hv 3), .int (Hv 4), .int (Hv 5), .ref (Ha 1), .ref (Ha 2), .ref (Ha 3), .ref (Ha 4), .ref (Ha 5), .ref (Ha 6), .ref (Ha 7), .ref (Ha 8)])), ((Ha 1), .inl (tc 0, 10, .inl (Hf 1))), ((Ha 2), .inl (tc 0, 10, .inl (Hf 2))), ((Ha 3), .inl (tc 0, 6, .inl (Hf 3))), ((Ha 4), .inl (tc 0, 6, .inl (Hf 4))), ((Ha 5), .inl (tc 0, 6, .inl (Hf 5))), ((Ha 6), .inl (tc 0, 6, .inl (Hf 6))), ((Ha 7), .inl (tc 0, 6, .inl (Hf 7))), ((Ha 8), .inl (tc 0, 6, .inl (Hf 8))), ((Aa 0), .inr (9, [.int (Av 0), .int (Av 1), .int (Av 2), .int (Av 3), .int (Av 4), .int (Av 5), .ref (Aa 1), .ref (Aa 2), .ref (Aa 3), .ref (Aa 4), .ref (Aa 5), .ref (Aa 6), .ref (Aa 7), .ref (Aa 8)])), ((Aa 1), .inl (tc 0, 10, .inl (Af 1))), ((Aa 2), .inl (tc 0, 10, .inl (Af 2))), ((Aa 3), .inl (tc 0, 6, .inl (Af 3))), ((Aa 4), .inl (tc 0, 6, .inl (Af 4))), ((Aa 5), .inl (tc 0, 6, .inl (Af 5))), ((Aa 6), .inl (tc 0, 6, .inl (Af 6))), ((Aa 7), .inl (tc 0, 6, .inl (Af 7))), ((Aa 8), .inl (tc 0, 6, .inl (Af 8)))] H := hP₀
  replace hD : va_D A [((Ca 0), .inr (1, [.ref (Ha 0), .ref (Ca 2), .ref (Ca 3)])), ((Ca 2), .inl (tc 0, 25, .inl (Cf 2))), ((Ca 3), .inl (tc 0, 25, .inl (Cf 3))), ((Ha 0), .inr (9, [.int (Hv 0), .int (Hv 1), .int (Hv 2), .int (Hv 3), .int (Hv 4), .int (Hv 5), .ref (Ha 1), .ref (Ha 2), .ref (Ha 3), .ref (Ha 4), .ref (Ha 5), .ref (Ha 6), .ref (Ha 7), .ref (Ha 8)])), ((Ha 1), .inl (tc 0, 10, .inl (Hf 1))), ((Ha 2), .inl (tc 0, 10, .inl (Hf 2))), ((Ha 3), .inl (tc 0, 6, .inl (Hf 3))), ((Ha 4), .inl (tc 0, 6, .inl (Hf 4))), ((Ha 5), .inl (tc 0, 6, .inl (Hf 5))), ((Ha 6), .inl (tc 0, 6, .inl (Hf 6))), ((Ha 7), .inl (tc 0, 6, .inl (Hf 7))), ((Ha 8), .inl (tc 0, 6, .inl (Hf 8))), ((Aa 0), .inr (9, [.int (Av 0), .int (Av 1), .int (Av 2), .int (Av 3), .int (Av 4), .int (Av 5), .ref (Aa 1), .ref (Aa 2), .ref (Aa 3), .ref (Aa 4), .ref (Aa 5), .ref (Aa 6), .ref (Aa 7), .ref (Aa 8)])), ((Aa 1), .inl (tc 0, 10, .inl (Af 1))), ((Aa 2), .inl (tc 0, 10, .inl (Af 2))), ((Aa 3), .inl (tc 0, 6, .inl (Af 3))), ((Aa 4), .inl (tc 0, 6, .inl (Af 4))), ((Aa 5), .inl (tc 0, 6, .inl (Af 5))), ((Aa 6), .inl (tc 0, 6, .inl (Af 6))), ((Aa 7), .inl (tc 0, 6, .inl (Af 7))), ((Aa 8), .inl (tc 0, 6, .inl (Af 8)))] := hD₀
  replace hS := hS₀
  clear hP₀ hD₀ hS₀
  obtain ⟨he_5, hq_7⟩ := he_5
  have er_4 : r_4 = (dX9_everybody (Av 3)) := hq_7
  refine lv_istore (lv' := [(6, .int r_4), (5, .int (-2)), (4, .int 0), (0, .ref (Ca 0)), (1, .ref (Aa 0)), (2, .int x1), (3, .int x2)]) hx hb dX1_setsOf_11 hl (by decide) rfl (fun ls hl₀ => ?_)
  replace hl := hl₀
  clear hl₀
  refine lv_iconst (v := 0) hx hb dX1_setsOf_13 (by decide) ?_
  refine lv_istore (lv' := [(7, .int 0), (6, .int r_4), (5, .int (-2)), (4, .int 0), (0, .ref (Ca 0)), (1, .ref (Aa 0)), (2, .int x1), (3, .int x2)]) hx hb dX1_setsOf_14 hl (by decide) rfl (fun ls hl₀ => ?_)
  replace hl := hl₀
  clear hl₀
  have loop_10 : ∀ (n_8 : Nat) (yy_1700 : Int32) (yy_1701 : Int32) (yy_1702 : Int32) (yy_1703 : Int32) (H : Heap) (locs : List Loc) (ls : Array Slot), (64 - (yy_1700 : Int32).toInt).toNat < n_8 → (dX1_setsOf_l16 (Af 4) (Av 3) x1 ((64 - (0 : Int32).toInt).toNat + 1) (0 : Int32) r_4 (0 : Int32) ((-2) : Int32)) = dX1_setsOf_l16 (Af 4) (Av 3) x1 ((64 - (yy_1700 : Int32).toInt).toNat + 1) yy_1700 yy_1701 yy_1702 yy_1703 → (0 ≤ (yy_1700 : Int32).toInt) → va_P D classes [((Ca 0), .inr (1, [.ref (Ha 0), .ref (Ca 2), .ref (Ca 3)])), ((Ca 2), .inl (tc 0, 25, .inl (Cf 2))), ((Ca 3), .inl (tc 0, 25, .inl (Cf 3))), ((Ha 0), .inr (9, [.int (Hv 0), .int (Hv 1), .int (Hv 2), .int (Hv 3), .int (Hv 4), .int (Hv 5), .ref (Ha 1), .ref (Ha 2), .ref (Ha 3), .ref (Ha 4), .ref (Ha 5), .ref (Ha 6), .ref (Ha 7), .ref (Ha 8)])), ((Ha 1), .inl (tc 0, 10, .inl (Hf 1))), ((Ha 2), .inl (tc 0, 10, .inl (Hf 2))), ((Ha 3), .inl (tc 0, 6, .inl (Hf 3))), ((Ha 4), .inl (tc 0, 6, .inl (Hf 4))), ((Ha 5), .inl (tc 0, 6, .inl (Hf 5))), ((Ha 6), .inl (tc 0, 6, .inl (Hf 6))), ((Ha 7), .inl (tc 0, 6, .inl (Hf 7))), ((Ha 8), .inl (tc 0, 6, .inl (Hf 8))), ((Aa 0), .inr (9, [.int (Av 0), .int (Av 1), .int (Av 2), .int (Av 3), .int (Av 4), .int (Av 5), .ref (Aa 1), .ref (Aa 2), .ref (Aa 3), .ref (Aa 4), .ref (Aa 5), .ref (Aa 6), .ref (Aa 7), .ref (Aa 8)])), ((Aa 1), .inl (tc 0, 10, .inl (Af 1))), ((Aa 2), .inl (tc 0, 10, .inl (Af 2))), ((Aa 3), .inl (tc 0, 6, .inl (Af 3))), ((Aa 4), .inl (tc 0, 6, .inl (Af 4))), ((Aa 5), .inl (tc 0, 6, .inl (Af 5))), ((Aa 6), .inl (tc 0, 6, .inl (Af 6))), ((Aa 7), .inl (tc 0, 6, .inl (Af 7))), ((Aa 8), .inl (tc 0, 6, .inl (Af 8)))] H → va_D A [((Ca 0), .inr (1, [.ref (Ha 0), .ref (Ca 2), .ref (Ca 3)])), ((Ca 2), .inl (tc 0, 25, .inl (Cf 2))), ((Ca 3), .inl (tc 0, 25, .inl (Cf 3))), ((Ha 0), .inr (9, [.int (Hv 0), .int (Hv 1), .int (Hv 2), .int (Hv 3), .int (Hv 4), .int (Hv 5), .ref (Ha 1), .ref (Ha 2), .ref (Ha 3), .ref (Ha 4), .ref (Ha 5), .ref (Ha 6), .ref (Ha 7), .ref (Ha 8)])), ((Ha 1), .inl (tc 0, 10, .inl (Hf 1))), ((Ha 2), .inl (tc 0, 10, .inl (Hf 2))), ((Ha 3), .inl (tc 0, 6, .inl (Hf 3))), ((Ha 4), .inl (tc 0, 6, .inl (Hf 4))), ((Ha 5), .inl (tc 0, 6, .inl (Hf 5))), ((Ha 6), .inl (tc 0, 6, .inl (Hf 6))), ((Ha 7), .inl (tc 0, 6, .inl (Hf 7))), ((Ha 8), .inl (tc 0, 6, .inl (Hf 8))), ((Aa 0), .inr (9, [.int (Av 0), .int (Av 1), .int (Av 2), .int (Av 3), .int (Av 4), .int (Av 5), .ref (Aa 1), .ref (Aa 2), .ref (Aa 3), .ref (Aa 4), .ref (Aa 5), .ref (Aa 6), .ref (Aa 7), .ref (Aa 8)])), ((Aa 1), .inl (tc 0, 10, .inl (Af 1))), ((Aa 2), .inl (tc 0, 10, .inl (Af 2))), ((Aa 3), .inl (tc 0, 6, .inl (Af 3))), ((Aa 4), .inl (tc 0, 6, .inl (Af 4))), ((Aa 5), .inl (tc 0, 6, .inl (Af 5))), ((Aa 6), .inl (tc 0, 6, .inl (Af 6))), ((Aa 7), .inl (tc 0, 6, .inl (Af 7))), ((Aa 8), .inl (tc 0, 6, .inl (Af 8)))] → va_S A s.heap H locs → lv_has ls 8 [(7, .int yy_1700), (6, .int yy_1701), (5, .int yy_1703), (4, .int yy_1702), (0, .ref (Ca 0)), (1, .ref (Aa 0)), (2, .int x1), (3, .int x2)] → W p l e ({ frames := 1, cells := 0, slots := 0, locals := 23 }) s m ([.ref (Ca 0), .ref (Aa 0), .int x1, .int x2].toArray) below meth c H locs 0 0 (MQ below (QW (fun (v : Option Value) (_ : Unit) => ∃ r : Int32, v = some (.int r) ∧ ((True) ∧ r = (dX1_setsOf (Af 4) (Av 3) x1 x2))) (BW D (fun (_ : Unit) => [((Ca 0), .inr (1, [.ref (Ha 0), .ref (Ca 2), .ref (Ca 3)])), ((Ca 2), .inl (tc 0, 25, .inl (Cf 2))), ((Ca 3), .inl (tc 0, 25, .inl (Cf 3))), ((Ha 0), .inr (9, [.int (Hv 0), .int (Hv 1), .int (Hv 2), .int (Hv 3), .int (Hv 4), .int (Hv 5), .ref (Ha 1), .ref (Ha 2), .ref (Ha 3), .ref (Ha 4), .ref (Ha 5), .ref (Ha 6), .ref (Ha 7), .ref (Ha 8)])), ((Ha 1), .inl (tc 0, 10, .inl (Hf 1))), ((Ha 2), .inl (tc 0, 10, .inl (Hf 2))), ((Ha 3), .inl (tc 0, 6, .inl (Hf 3))), ((Ha 4), .inl (tc 0, 6, .inl (Hf 4))), ((Ha 5), .inl (tc 0, 6, .inl (Hf 5))), ((Ha 6), .inl (tc 0, 6, .inl (Hf 6))), ((Ha 7), .inl (tc 0, 6, .inl (Hf 7))), ((Ha 8), .inl (tc 0, 6, .inl (Hf 8))), ((Aa 0), .inr (9, [.int (Av 0), .int (Av 1), .int (Av 2), .int (Av 3), .int (Av 4), .int (Av 5), .ref (Aa 1), .ref (Aa 2), .ref (Aa 3), .ref (Aa 4), .ref (Aa 5), .ref (Aa 6), .ref (Aa 7), .ref (Aa 8)])), ((Aa 1), .inl (tc 0, 10, .inl (Af 1))), ((Aa 2), .inl (tc 0, 10, .inl (Af 2))), ((Aa 3), .inl (tc 0, 6, .inl (Af 3))), ((Aa 4), .inl (tc 0, 6, .inl (Af 4))), ((Aa 5), .inl (tc 0, 6, .inl (Af 5))), ((Aa 6), .inl (tc 0, 6, .inl (Af 6))), ((Aa 7), .inl (tc 0, 6, .inl (Af 7))), ((Aa 8), .inl (tc 0, 6, .inl (Af 8)))]) A) A) ([.ref (Ca 0), .ref (Aa 0), .int x1, .int x2].toArray) s 0 0 A) (F0 m 16 ls []) := by
    clear hP hD hS hl
    intro n_8
    induction n_8 with
    | zero =>
      intro yy_1700 yy_1701 yy_1702 yy_1703 H locs ls h1
      exact absurd h1 (Nat.not_lt_zero _)
    | succ n_8 ih_9 =>
      intro yy_1700 yy_1701 yy_1702 yy_1703 H locs ls hn_13 hL_12 pf_11 hP hD hS hl
      refine lv_iload hx hb dX1_setsOf_16 (lv_at hl 0 rfl) ?_
      refine lv_aload_n hx hb dX1_setsOf_18 rfl (lv_at hl 5 rfl) ?_
      refine cV (a := (Aa 0)) (As := []) (rest := [.int yy_1700]) (wr := [((Ca 0), .inr (1, [.ref (Ha 0), .ref (Ca 2), .ref (Ca 3)])), ((Ca 2), .inl (tc 0, 25, .inl (Cf 2))), ((Ca 3), .inl (tc 0, 25, .inl (Cf 3))), ((Ha 0), .inr (9, [.int (Hv 0), .int (Hv 1), .int (Hv 2), .int (Hv 3), .int (Hv 4), .int (Hv 5), .ref (Ha 1), .ref (Ha 2), .ref (Ha 3), .ref (Ha 4), .ref (Ha 5), .ref (Ha 6), .ref (Ha 7), .ref (Ha 8)])), ((Ha 1), .inl (tc 0, 10, .inl (Hf 1))), ((Ha 2), .inl (tc 0, 10, .inl (Hf 2))), ((Ha 3), .inl (tc 0, 6, .inl (Hf 3))), ((Ha 4), .inl (tc 0, 6, .inl (Hf 4))), ((Ha 5), .inl (tc 0, 6, .inl (Hf 5))), ((Ha 6), .inl (tc 0, 6, .inl (Hf 6))), ((Ha 7), .inl (tc 0, 6, .inl (Hf 7))), ((Ha 8), .inl (tc 0, 6, .inl (Hf 8)))]) ⟨hx, hb, hml, hown, hts⟩ hK hX hA (cu_dX9_everybody l D tc sk (Aa 0) (Aa 1) (Aa 2) (Aa 3) (Aa 4) (Aa 5) (Aa 6) (Aa 7) (Aa 8) (Av 0) (Av 1) (Av 2) (Av 3) (Av 4) (Av 5) (Af 1) (Af 2) (Af 3) (Af 4) (Af 5) (Af 6) (Af 7) (Af 8) h_buy) k_873 k_870 k_871 k_872 k_98 pl_X9_everybody ⟨Nat.le_of_ble_eq_true rfl, Nat.le_of_ble_eq_true rfl⟩ rfl rfl (va_recv hK hP (ci := 9) (q0 := 12) rfl rfl) hP hD hS [12, 13, 14, 15, 16, 17, 18, 19, 20] [0, 1, 2, 3, 4, 5, 6, 7, 8, 9, 10, 11] rfl rfl rfl rfl rfl (by decide) rfl hl.1 rfl (Nat.le_of_ble_eq_true rfl) dX1_setsOf_19 ⟨Nat.le_of_ble_eq_true rfl, Nat.le_of_ble_eq_true rfl⟩ (fun v_14 u_15 H locs hv_16 hP₀ hD₀ hS₀ => ?_)
      obtain ⟨r_17, rfl, he_18⟩ := hv_16
      have he_18 : ((r_17.toInt ≤ 63 ∧ 0 ≤ r_17.toInt)) ∧ r_17 = (dX9_everybody (Av 3)) := he_18
      refine W.eq (g2 := F0 m 22 ls [.int r_17, .int yy_1700]) rfl ?_
      replace hP : va_P D classes [((Ca 0), .inr (1, [.ref (Ha 0), .ref (Ca 2), .ref (Ca 3)])), ((Ca 2), .inl (tc 0, 25, .inl (Cf 2))), ((Ca 3), .inl (tc 0, 25, .inl (Cf 3))), ((Ha 0), .inr (9, [.int (Hv 0), .int (Hv 1), .int (Hv 2), .int (Hv 3), .int (Hv 4), .int (Hv 5), .ref (Ha 1), .ref (Ha 2), .ref (Ha 3), .ref (Ha 4), .ref (Ha 5), .ref (Ha 6), .ref (Ha 7), .ref (Ha 8)])), ((Ha 1), .inl (tc 0, 10, .inl (Hf 1))), ((Ha 2), .inl (tc 0, 10, .inl (Hf 2))), ((Ha 3), .inl (tc 0, 6, .inl (Hf 3))), ((Ha 4), .inl (tc 0, 6, .inl (Hf 4))), ((Ha 5), .inl (tc 0, 6, .inl (Hf 5))), ((Ha 6), .inl (tc 0, 6, .inl (Hf 6))), ((Ha 7), .inl (tc 0, 6, .inl (Hf 7))), ((Ha 8), .inl (tc 0, 6, .inl (Hf 8))), ((Aa 0), .inr (9, [.int (Av 0), .int (Av 1), .int (Av 2), .int (Av 3), .int (Av 4), .int (Av 5), .ref (Aa 1), .ref (Aa 2), .ref (Aa 3), .ref (Aa 4), .ref (Aa 5), .ref (Aa 6), .ref (Aa 7), .ref (Aa 8)])), ((Aa 1), .inl (tc 0, 10, .inl (Af 1))), ((Aa 2), .inl (tc 0, 10, .inl (Af 2))), ((Aa 3), .inl (tc 0, 6, .inl (Af 3))), ((Aa 4), .inl (tc 0, 6, .inl (Af 4))), ((Aa 5), .inl (tc 0, 6, .inl (Af 5))), ((Aa 6), .inl (tc 0, 6, .inl (Af 6))), ((Aa 7), .inl (tc 0, 6, .inl (Af 7))), ((Aa 8), .inl (tc 0, 6, .inl (Af 8)))] H := hP₀
      replace hD : va_D A [((Ca 0), .inr (1, [.ref (Ha 0), .ref (Ca 2), .ref (Ca 3)])), ((Ca 2), .inl (tc 0, 25, .inl (Cf 2))), ((Ca 3), .inl (tc 0, 25, .inl (Cf 3))), ((Ha 0), .inr (9, [.int (Hv 0), .int (Hv 1), .int (Hv 2), .int (Hv 3), .int (Hv 4), .int (Hv 5), .ref (Ha 1), .ref (Ha 2), .ref (Ha 3), .ref (Ha 4), .ref (Ha 5), .ref (Ha 6), .ref (Ha 7), .ref (Ha 8)])), ((Ha 1), .inl (tc 0, 10, .inl (Hf 1))), ((Ha 2), .inl (tc 0, 10, .inl (Hf 2))), ((Ha 3), .inl (tc 0, 6, .inl (Hf 3))), ((Ha 4), .inl (tc 0, 6, .inl (Hf 4))), ((Ha 5), .inl (tc 0, 6, .inl (Hf 5))), ((Ha 6), .inl (tc 0, 6, .inl (Hf 6))), ((Ha 7), .inl (tc 0, 6, .inl (Hf 7))), ((Ha 8), .inl (tc 0, 6, .inl (Hf 8))), ((Aa 0), .inr (9, [.int (Av 0), .int (Av 1), .int (Av 2), .int (Av 3), .int (Av 4), .int (Av 5), .ref (Aa 1), .ref (Aa 2), .ref (Aa 3), .ref (Aa 4), .ref (Aa 5), .ref (Aa 6), .ref (Aa 7), .ref (Aa 8)])), ((Aa 1), .inl (tc 0, 10, .inl (Af 1))), ((Aa 2), .inl (tc 0, 10, .inl (Af 2))), ((Aa 3), .inl (tc 0, 6, .inl (Af 3))), ((Aa 4), .inl (tc 0, 6, .inl (Af 4))), ((Aa 5), .inl (tc 0, 6, .inl (Af 5))), ((Aa 6), .inl (tc 0, 6, .inl (Af 6))), ((Aa 7), .inl (tc 0, 6, .inl (Af 7))), ((Aa 8), .inl (tc 0, 6, .inl (Af 8)))] := hD₀
      replace hS := hS₀
      clear hP₀ hD₀ hS₀
      obtain ⟨he_18, hq_20⟩ := he_18
      have er_17 : r_17 = (dX9_everybody (Av 3)) := hq_20
      refine lv_icmp_gt (tgt := 65) hx hb dX1_setsOf_22 (by decide) (fun c_21 => ?_) (fun c_21 => ?_)
      · skip
        have hb_23 : dX1_setsOf_l16 (Af 4) (Av 3) x1 ((64 - (yy_1700 : Int32).toInt).toNat + 1) yy_1700 yy_1701 yy_1702 yy_1703 = (yy_1700, yy_1701, yy_1702, yy_1703) := by
          clear hP hD hS hl ih_9
          replace er_4 := er_4.symm; subst er_4
          replace er_17 := er_17.symm; subst er_17
          rw [dX1_setsOf_l16_s]
          rw [if_pos c_21]
          try rfl
        have hX_22 : (dX1_setsOf_l16 (Af 4) (Av 3) x1 ((64 - (0 : Int32).toInt).toNat + 1) (0 : Int32) r_4 (0 : Int32) ((-2) : Int32)) = (yy_1700, yy_1701, yy_1702, yy_1703) := hL_12.trans hb_23
        have hX_22_0 : (dX1_setsOf_l16 (Af 4) (Av 3) x1 ((64 - (0 : Int32).toInt).toNat + 1) (0 : Int32) r_4 (0 : Int32) ((-2) : Int32)).1 = yy_1700 := congrArg (fun z => z.1) hX_22
        have hX_22_1 : (dX1_setsOf_l16 (Af 4) (Av 3) x1 ((64 - (0 : Int32).toInt).toNat + 1) (0 : Int32) r_4 (0 : Int32) ((-2) : Int32)).2.1 = yy_1701 := congrArg (fun z => z.2.1) hX_22
        have hX_22_2 : (dX1_setsOf_l16 (Af 4) (Av 3) x1 ((64 - (0 : Int32).toInt).toNat + 1) (0 : Int32) r_4 (0 : Int32) ((-2) : Int32)).2.2.1 = yy_1702 := congrArg (fun z => z.2.2.1) hX_22
        have hX_22_3 : (dX1_setsOf_l16 (Af 4) (Av 3) x1 ((64 - (0 : Int32).toInt).toNat + 1) (0 : Int32) r_4 (0 : Int32) ((-2) : Int32)).2.2.2 = yy_1703 := congrArg (fun z => z.2.2.2) hX_22
        refine lv_iload_n hx hb dX1_setsOf_65 rfl (lv_at hl 7 rfl) ?_
        refine lv_if_ne (tgt := 72) hx hb dX1_setsOf_66 (by decide) (fun c_24 => ?_) (fun c_24 => ?_)
        · skip
          refine lv_iload_n hx hb dX1_setsOf_72 rfl (lv_at hl 7 rfl) ?_
          refine lv_iconst (v := 1) hx hb dX1_setsOf_73 (by decide) ?_
          refine lv_icmp_ne (tgt := 80) hx hb dX1_setsOf_74 (by decide) (fun c_25 => ?_) (fun c_25 => ?_)
          · skip
            refine lv_iload hx hb dX1_setsOf_80 (lv_at hl 3 rfl) ?_
            refine lv_if_ne (tgt := 89) hx hb dX1_setsOf_82 (by decide) (fun c_26 => ?_) (fun c_26 => ?_)
            · skip
              refine lv_iload hx hb dX1_setsOf_89 (lv_at hl 1 rfl) ?_
              have hF_27 : yy_1701 = (dX1_setsOf (Af 4) (Av 3) x1 x2) := by
                clear hP hD hS hl ih_9
                replace er_4 := er_4.symm; subst er_4
                replace er_17 := er_17.symm; subst er_17
                unfold dX1_setsOf
                try rw [hX_22_0]
                try rw [hX_22_1]
                try rw [hX_22_2]
                try rw [hX_22_3]
                rw [if_neg c_24, if_neg c_25, if_neg c_26]
                try rfl
              exact retI (v := yy_1701) hx hb hr hlk (rfl) hP hD hS () ⟨_, rfl, ⟨trivial, hF_27⟩⟩ [0, 1, 2, 3, 4, 5, 6, 7, 8, 9, 10, 11, 12, 13, 14, 15, 16, 17, 18, 19, 20] rfl rfl dX1_setsOf_91 (Nat.le_of_ble_eq_true rfl) (Nat.le_of_ble_eq_true rfl) rfl
            · skip
              refine lv_iconst (v := 0) hx hb dX1_setsOf_85 (by decide) ?_
              refine lv_goto (tgt := 91) hx hb dX1_setsOf_86 (by decide) ?_
              have hF_28 : (0 : Int32) = (dX1_setsOf (Af 4) (Av 3) x1 x2) := by
                clear hP hD hS hl ih_9
                replace er_4 := er_4.symm; subst er_4
                replace er_17 := er_17.symm; subst er_17
                unfold dX1_setsOf
                try rw [hX_22_0]
                try rw [hX_22_1]
                try rw [hX_22_2]
                try rw [hX_22_3]
                rw [if_neg c_24, if_neg c_25, if_pos c_26]
                try rfl
              exact retI (v := 0) hx hb hr hlk (rfl) hP hD hS () ⟨_, rfl, ⟨trivial, hF_28⟩⟩ [0, 1, 2, 3, 4, 5, 6, 7, 8, 9, 10, 11, 12, 13, 14, 15, 16, 17, 18, 19, 20] rfl rfl dX1_setsOf_91 (Nat.le_of_ble_eq_true rfl) (Nat.le_of_ble_eq_true rfl) rfl
          · skip
            refine lv_iload hx hb dX1_setsOf_77 (lv_at hl 2 rfl) ?_
            have hF_29 : yy_1703 = (dX1_setsOf (Af 4) (Av 3) x1 x2) := by
              clear hP hD hS hl ih_9
              replace er_4 := er_4.symm; subst er_4
              replace er_17 := er_17.symm; subst er_17
              unfold dX1_setsOf
              try rw [hX_22_0]
              try rw [hX_22_1]
              try rw [hX_22_2]
              try rw [hX_22_3]
              rw [if_neg c_24, if_pos c_25]
              try rfl
            exact retI (v := yy_1703) hx hb hr hlk (rfl) hP hD hS () ⟨_, rfl, ⟨trivial, hF_29⟩⟩ [0, 1, 2, 3, 4, 5, 6, 7, 8, 9, 10, 11, 12, 13, 14, 15, 16, 17, 18, 19, 20] rfl rfl dX1_setsOf_79 (Nat.le_of_ble_eq_true rfl) (Nat.le_of_ble_eq_true rfl) rfl
        · skip
          refine lv_iload hx hb dX1_setsOf_69 (lv_at hl 3 rfl) ?_
          have hF_30 : yy_1702 = (dX1_setsOf (Af 4) (Av 3) x1 x2) := by
            clear hP hD hS hl ih_9
            replace er_4 := er_4.symm; subst er_4
            replace er_17 := er_17.symm; subst er_17
            unfold dX1_setsOf
            try rw [hX_22_0]
            try rw [hX_22_1]
            try rw [hX_22_2]
            try rw [hX_22_3]
            rw [if_pos c_24]
            try rfl
          exact retI (v := yy_1702) hx hb hr hlk (rfl) hP hD hS () ⟨_, rfl, ⟨trivial, hF_30⟩⟩ [0, 1, 2, 3, 4, 5, 6, 7, 8, 9, 10, 11, 12, 13, 14, 15, 16, 17, 18, 19, 20] rfl rfl dX1_setsOf_71 (Nat.le_of_ble_eq_true rfl) (Nat.le_of_ble_eq_true rfl) rfl
      · skip
        refine lv_aload_n hx hb dX1_setsOf_25 rfl (lv_at hl 5 rfl) ?_
        refine lv_iload hx hb dX1_setsOf_26 (lv_at hl 0 rfl) ?_
        refine cS (As := [.ref (Aa 0), .int yy_1700]) (rest := []) (wr := [((Ca 0), .inr (1, [.ref (Ha 0), .ref (Ca 2), .ref (Ca 3)])), ((Ca 2), .inl (tc 0, 25, .inl (Cf 2))), ((Ca 3), .inl (tc 0, 25, .inl (Cf 3))), ((Ha 0), .inr (9, [.int (Hv 0), .int (Hv 1), .int (Hv 2), .int (Hv 3), .int (Hv 4), .int (Hv 5), .ref (Ha 1), .ref (Ha 2), .ref (Ha 3), .ref (Ha 4), .ref (Ha 5), .ref (Ha 6), .ref (Ha 7), .ref (Ha 8)])), ((Ha 1), .inl (tc 0, 10, .inl (Hf 1))), ((Ha 2), .inl (tc 0, 10, .inl (Hf 2))), ((Ha 3), .inl (tc 0, 6, .inl (Hf 3))), ((Ha 4), .inl (tc 0, 6, .inl (Hf 4))), ((Ha 5), .inl (tc 0, 6, .inl (Hf 5))), ((Ha 6), .inl (tc 0, 6, .inl (Hf 6))), ((Ha 7), .inl (tc 0, 6, .inl (Hf 7))), ((Ha 8), .inl (tc 0, 6, .inl (Hf 8)))]) ⟨hx, hb, hml, hown, hts⟩ hK hX hA (cu_dX1_grainsOf l D tc sk (Aa 0) (Aa 1) (Aa 2) (Aa 3) (Aa 4) (Aa 5) (Aa 6) (Aa 7) (Aa 8) (Av 0) (Av 1) (Av 2) (Av 3) (Av 4) (Av 5) (Af 1) (Af 2) (Af 3) (Af 4) (Af 5) (Af 6) (Af 7) (Af 8) yy_1700) k_913 k_911 k_912 k_104 pl_X1_grainsOf ⟨Nat.le_of_ble_eq_true rfl, Nat.le_of_ble_eq_true rfl⟩ rfl rfl  hP hD hS [12, 13, 14, 15, 16, 17, 18, 19, 20] [0, 1, 2, 3, 4, 5, 6, 7, 8, 9, 10, 11] rfl rfl rfl rfl rfl (by decide) rfl hl.1 rfl (Nat.le_of_ble_eq_true rfl) dX1_setsOf_28 ⟨Nat.le_of_ble_eq_true rfl, Nat.le_of_ble_eq_true rfl⟩ (fun v_31 u_32 H locs hv_33 hP₀ hD₀ hS₀ => ?_)
        obtain ⟨r_34, rfl, he_35⟩ := hv_33
        have he_35 : (True) ∧ r_34 = (dX1_grainsOf (Af 4) (Av 3) yy_1700) := he_35
        refine W.eq (g2 := F0 m 31 ls [.int r_34]) rfl ?_
        replace hP : va_P D classes [((Ca 0), .inr (1, [.ref (Ha 0), .ref (Ca 2), .ref (Ca 3)])), ((Ca 2), .inl (tc 0, 25, .inl (Cf 2))), ((Ca 3), .inl (tc 0, 25, .inl (Cf 3))), ((Ha 0), .inr (9, [.int (Hv 0), .int (Hv 1), .int (Hv 2), .int (Hv 3), .int (Hv 4), .int (Hv 5), .ref (Ha 1), .ref (Ha 2), .ref (Ha 3), .ref (Ha 4), .ref (Ha 5), .ref (Ha 6), .ref (Ha 7), .ref (Ha 8)])), ((Ha 1), .inl (tc 0, 10, .inl (Hf 1))), ((Ha 2), .inl (tc 0, 10, .inl (Hf 2))), ((Ha 3), .inl (tc 0, 6, .inl (Hf 3))), ((Ha 4), .inl (tc 0, 6, .inl (Hf 4))), ((Ha 5), .inl (tc 0, 6, .inl (Hf 5))), ((Ha 6), .inl (tc 0, 6, .inl (Hf 6))), ((Ha 7), .inl (tc 0, 6, .inl (Hf 7))), ((Ha 8), .inl (tc 0, 6, .inl (Hf 8))), ((Aa 0), .inr (9, [.int (Av 0), .int (Av 1), .int (Av 2), .int (Av 3), .int (Av 4), .int (Av 5), .ref (Aa 1), .ref (Aa 2), .ref (Aa 3), .ref (Aa 4), .ref (Aa 5), .ref (Aa 6), .ref (Aa 7), .ref (Aa 8)])), ((Aa 1), .inl (tc 0, 10, .inl (Af 1))), ((Aa 2), .inl (tc 0, 10, .inl (Af 2))), ((Aa 3), .inl (tc 0, 6, .inl (Af 3))), ((Aa 4), .inl (tc 0, 6, .inl (Af 4))), ((Aa 5), .inl (tc 0, 6, .inl (Af 5))), ((Aa 6), .inl (tc 0, 6, .inl (Af 6))), ((Aa 7), .inl (tc 0, 6, .inl (Af 7))), ((Aa 8), .inl (tc 0, 6, .inl (Af 8)))] H := hP₀
        replace hD : va_D A [((Ca 0), .inr (1, [.ref (Ha 0), .ref (Ca 2), .ref (Ca 3)])), ((Ca 2), .inl (tc 0, 25, .inl (Cf 2))), ((Ca 3), .inl (tc 0, 25, .inl (Cf 3))), ((Ha 0), .inr (9, [.int (Hv 0), .int (Hv 1), .int (Hv 2), .int (Hv 3), .int (Hv 4), .int (Hv 5), .ref (Ha 1), .ref (Ha 2), .ref (Ha 3), .ref (Ha 4), .ref (Ha 5), .ref (Ha 6), .ref (Ha 7), .ref (Ha 8)])), ((Ha 1), .inl (tc 0, 10, .inl (Hf 1))), ((Ha 2), .inl (tc 0, 10, .inl (Hf 2))), ((Ha 3), .inl (tc 0, 6, .inl (Hf 3))), ((Ha 4), .inl (tc 0, 6, .inl (Hf 4))), ((Ha 5), .inl (tc 0, 6, .inl (Hf 5))), ((Ha 6), .inl (tc 0, 6, .inl (Hf 6))), ((Ha 7), .inl (tc 0, 6, .inl (Hf 7))), ((Ha 8), .inl (tc 0, 6, .inl (Hf 8))), ((Aa 0), .inr (9, [.int (Av 0), .int (Av 1), .int (Av 2), .int (Av 3), .int (Av 4), .int (Av 5), .ref (Aa 1), .ref (Aa 2), .ref (Aa 3), .ref (Aa 4), .ref (Aa 5), .ref (Aa 6), .ref (Aa 7), .ref (Aa 8)])), ((Aa 1), .inl (tc 0, 10, .inl (Af 1))), ((Aa 2), .inl (tc 0, 10, .inl (Af 2))), ((Aa 3), .inl (tc 0, 6, .inl (Af 3))), ((Aa 4), .inl (tc 0, 6, .inl (Af 4))), ((Aa 5), .inl (tc 0, 6, .inl (Af 5))), ((Aa 6), .inl (tc 0, 6, .inl (Af 6))), ((Aa 7), .inl (tc 0, 6, .inl (Af 7))), ((Aa 8), .inl (tc 0, 6, .inl (Af 8)))] := hD₀
        replace hS := hS₀
        clear hP₀ hD₀ hS₀
        obtain ⟨he_35, hq_37⟩ := he_35
        have er_34 : r_34 = (dX1_grainsOf (Af 4) (Av 3) yy_1700) := hq_37
        refine lv_iload_n hx hb dX1_setsOf_31 rfl (lv_at hl 6 rfl) ?_
        refine lv_icmp_ne (tgt := 59) hx hb dX1_setsOf_32 (by decide) (fun c_38 => ?_) (fun c_38 => ?_)
        · skip
          obtain ⟨x_39, ex_39⟩ : ∃ y : Int32, y = yy_1700 + 1 := ⟨_, rfl⟩
          refine lv_iinc (v := x_39) (lv' := [(7, .int x_39), (6, .int yy_1701), (5, .int yy_1703), (4, .int yy_1702), (0, .ref (Ca 0)), (1, .ref (Aa 0)), (2, .int x1), (3, .int x2)]) hx hb dX1_setsOf_59 hl (k := 0) rfl (by rw [ex_39]; rfl) (by decide) rfl (fun ls hl₀ => ?_)
          replace hl := hl₀
          clear hl₀
          refine lv_goto (tgt := 16) hx hb dX1_setsOf_62 (by decide) ?_
          have hb_40 : 64 - (x_39 : Int32).toInt < 64 - (yy_1700 : Int32).toInt ∧ 1 ≤ 64 - (yy_1700 : Int32).toInt := by
            have z_1 := Int32.le_iff_toInt_le.mp (Int32.not_lt.mp c_21)
            have z_2 : ¬ (r_34 : Int32).toInt = (x1 : Int32).toInt := fun z => c_38 (Int32.toInt_inj.mp z)
            have y_1 : (1 : Int32).toInt = 1 := by decide
            have t_x_39 : x_39.toInt = (yy_1700 : Int32).toInt + (1 : Int32).toInt := by rw [ex_39]; exact add_toInt (by omega) (by omega)
            omega
          have hm_41 : (64 - (yy_1700 : Int32).toInt).toNat = (64 - (x_39 : Int32).toInt).toNat + 1 := by
            have z_1 := Int32.le_iff_toInt_le.mp (Int32.not_lt.mp c_21)
            have z_2 : ¬ (r_34 : Int32).toInt = (x1 : Int32).toInt := fun z => c_38 (Int32.toInt_inj.mp z)
            have y_1 : (1 : Int32).toInt = 1 := by decide
            have t_x_39 : x_39.toInt = (yy_1700 : Int32).toInt + (1 : Int32).toInt := by rw [ex_39]; exact add_toInt (by omega) (by omega)
            omega
          have hb_42 : dX1_setsOf_l16 (Af 4) (Av 3) x1 ((64 - (yy_1700 : Int32).toInt).toNat + 1) yy_1700 yy_1701 yy_1702 yy_1703 = dX1_setsOf_l16 (Af 4) (Av 3) x1 ((64 - (yy_1700 : Int32).toInt).toNat) x_39 yy_1701 yy_1702 yy_1703 := by
            clear hP hD hS hl ih_9
            replace er_4 := er_4.symm; subst er_4
            replace er_17 := er_17.symm; subst er_17
            replace er_34 := er_34.symm; subst er_34
            replace ex_39 := ex_39.symm; subst ex_39
            rw [dX1_setsOf_l16_s]
            rw [if_neg c_21, if_neg c_38]
            try rfl
          have hL_43 : (dX1_setsOf_l16 (Af 4) (Av 3) x1 ((64 - (0 : Int32).toInt).toNat + 1) (0 : Int32) r_4 (0 : Int32) ((-2) : Int32)) = dX1_setsOf_l16 (Af 4) (Av 3) x1 ((64 - (x_39 : Int32).toInt).toNat + 1) x_39 yy_1701 yy_1702 yy_1703 := by
            rw [hL_12, hb_42, hm_41]
          have ha_44 : 0 ≤ (x_39 : Int32).toInt := by
            have z_1 := Int32.le_iff_toInt_le.mp (Int32.not_lt.mp c_21)
            have z_2 : ¬ (r_34 : Int32).toInt = (x1 : Int32).toInt := fun z => c_38 (Int32.toInt_inj.mp z)
            have y_1 : (1 : Int32).toInt = 1 := by decide
            have t_x_39 : x_39.toInt = (yy_1700 : Int32).toInt + (1 : Int32).toInt := by rw [ex_39]; exact add_toInt (by omega) (by omega)
            omega
          exact ih_9 x_39 yy_1701 yy_1702 yy_1703 _ _ _ (by omega) hL_43 ha_44 (hP.sub [0, 1, 2, 3, 4, 5, 6, 7, 8, 9, 10, 11, 12, 13, 14, 15, 16, 17, 18, 19, 20] rfl) (hD.sub [0, 1, 2, 3, 4, 5, 6, 7, 8, 9, 10, 11, 12, 13, 14, 15, 16, 17, 18, 19, 20] rfl rfl) hS (lv_sub hl [0, 1, 2, 3, 4, 5, 6, 7] rfl)
        · skip
          refine lv_iload hx hb dX1_setsOf_35 (lv_at hl 3 rfl) ?_
          refine lv_if_ne (tgt := 45) hx hb dX1_setsOf_37 (by decide) (fun c_45 => ?_) (fun c_45 => ?_)
          · skip
            refine lv_iload hx hb dX1_setsOf_45 (lv_at hl 2 rfl) ?_
            refine lv_istore (lv' := [(5, .int yy_1703), (7, .int yy_1700), (6, .int yy_1701), (4, .int yy_1702), (0, .ref (Ca 0)), (1, .ref (Aa 0)), (2, .int x1), (3, .int x2)]) hx hb dX1_setsOf_47 hl (by decide) rfl (fun ls hl₀ => ?_)
            replace hl := hl₀
            clear hl₀
            refine lv_iload hx hb dX1_setsOf_49 (lv_at hl 2 rfl) ?_
            refine lv_iload hx hb dX1_setsOf_51 (lv_at hl 1 rfl) ?_
            refine lv_iand hx hb dX1_setsOf_53 ?_
            refine lv_topi (fun x_46 ex_46 => ?_)
            refine lv_istore (lv' := [(6, .int x_46), (5, .int yy_1703), (7, .int yy_1700), (4, .int yy_1702), (0, .ref (Ca 0)), (1, .ref (Aa 0)), (2, .int x1), (3, .int x2)]) hx hb dX1_setsOf_54 hl (by decide) rfl (fun ls hl₀ => ?_)
            replace hl := hl₀
            clear hl₀
            obtain ⟨x_47, ex_47⟩ : ∃ y : Int32, y = yy_1702 + 1 := ⟨_, rfl⟩
            refine lv_iinc (v := x_47) (lv' := [(4, .int x_47), (6, .int x_46), (5, .int yy_1703), (7, .int yy_1700), (0, .ref (Ca 0)), (1, .ref (Aa 0)), (2, .int x1), (3, .int x2)]) hx hb dX1_setsOf_56 hl (k := 3) rfl (by rw [ex_47]; rfl) (by decide) rfl (fun ls hl₀ => ?_)
            replace hl := hl₀
            clear hl₀
            obtain ⟨x_48, ex_48⟩ : ∃ y : Int32, y = yy_1700 + 1 := ⟨_, rfl⟩
            refine lv_iinc (v := x_48) (lv' := [(7, .int x_48), (4, .int x_47), (6, .int x_46), (5, .int yy_1703), (0, .ref (Ca 0)), (1, .ref (Aa 0)), (2, .int x1), (3, .int x2)]) hx hb dX1_setsOf_59 hl (k := 3) rfl (by rw [ex_48]; rfl) (by decide) rfl (fun ls hl₀ => ?_)
            replace hl := hl₀
            clear hl₀
            refine lv_goto (tgt := 16) hx hb dX1_setsOf_62 (by decide) ?_
            have hb_49 : 64 - (x_48 : Int32).toInt < 64 - (yy_1700 : Int32).toInt ∧ 1 ≤ 64 - (yy_1700 : Int32).toInt := by
              have z_1 := Int32.le_iff_toInt_le.mp (Int32.not_lt.mp c_21)
              have z_2 := congrArg Int32.toInt c_38
              have z_3 : ¬ (yy_1702 : Int32).toInt = (0 : Int32).toInt := fun z => c_45 (Int32.toInt_inj.mp z)
              have y_0 : (0 : Int32).toInt = 0 := by decide
              have y_1 : (1 : Int32).toInt = 1 := by decide
              have t_x_48 : x_48.toInt = (yy_1700 : Int32).toInt + (1 : Int32).toInt := by rw [ex_48]; exact add_toInt (by omega) (by omega)
              omega
            have hm_50 : (64 - (yy_1700 : Int32).toInt).toNat = (64 - (x_48 : Int32).toInt).toNat + 1 := by
              have z_1 := Int32.le_iff_toInt_le.mp (Int32.not_lt.mp c_21)
              have z_2 := congrArg Int32.toInt c_38
              have z_3 : ¬ (yy_1702 : Int32).toInt = (0 : Int32).toInt := fun z => c_45 (Int32.toInt_inj.mp z)
              have y_0 : (0 : Int32).toInt = 0 := by decide
              have y_1 : (1 : Int32).toInt = 1 := by decide
              have t_x_48 : x_48.toInt = (yy_1700 : Int32).toInt + (1 : Int32).toInt := by rw [ex_48]; exact add_toInt (by omega) (by omega)
              omega
            have hb_51 : dX1_setsOf_l16 (Af 4) (Av 3) x1 ((64 - (yy_1700 : Int32).toInt).toNat + 1) yy_1700 yy_1701 yy_1702 yy_1703 = dX1_setsOf_l16 (Af 4) (Av 3) x1 ((64 - (yy_1700 : Int32).toInt).toNat) x_48 x_46 x_47 yy_1703 := by
              clear hP hD hS hl ih_9
              replace er_4 := er_4.symm; subst er_4
              replace er_17 := er_17.symm; subst er_17
              replace er_34 := er_34.symm; subst er_34
              replace ex_46 := ex_46.symm; subst ex_46
              replace ex_47 := ex_47.symm; subst ex_47
              replace ex_48 := ex_48.symm; subst ex_48
              rw [dX1_setsOf_l16_s]
              rw [if_neg c_21, if_pos c_38, if_neg c_45]
              try rfl
            have hL_52 : (dX1_setsOf_l16 (Af 4) (Av 3) x1 ((64 - (0 : Int32).toInt).toNat + 1) (0 : Int32) r_4 (0 : Int32) ((-2) : Int32)) = dX1_setsOf_l16 (Af 4) (Av 3) x1 ((64 - (x_48 : Int32).toInt).toNat + 1) x_48 x_46 x_47 yy_1703 := by
              rw [hL_12, hb_51, hm_50]
            have ha_53 : 0 ≤ (x_48 : Int32).toInt := by
              have z_1 := Int32.le_iff_toInt_le.mp (Int32.not_lt.mp c_21)
              have z_2 := congrArg Int32.toInt c_38
              have z_3 : ¬ (yy_1702 : Int32).toInt = (0 : Int32).toInt := fun z => c_45 (Int32.toInt_inj.mp z)
              have y_0 : (0 : Int32).toInt = 0 := by decide
              have y_1 : (1 : Int32).toInt = 1 := by decide
              have t_x_48 : x_48.toInt = (yy_1700 : Int32).toInt + (1 : Int32).toInt := by rw [ex_48]; exact add_toInt (by omega) (by omega)
              omega
            exact ih_9 x_48 x_46 x_47 yy_1703 _ _ _ (by omega) hL_52 ha_53 (hP.sub [0, 1, 2, 3, 4, 5, 6, 7, 8, 9, 10, 11, 12, 13, 14, 15, 16, 17, 18, 19, 20] rfl) (hD.sub [0, 1, 2, 3, 4, 5, 6, 7, 8, 9, 10, 11, 12, 13, 14, 15, 16, 17, 18, 19, 20] rfl rfl) hS (lv_sub hl [0, 2, 3, 1, 4, 5, 6, 7] rfl)
          · skip
            refine lv_iload hx hb dX1_setsOf_40 (lv_at hl 0 rfl) ?_
            refine lv_goto (tgt := 47) hx hb dX1_setsOf_42 (by decide) ?_
            refine lv_istore (lv' := [(5, .int yy_1700), (7, .int yy_1700), (6, .int yy_1701), (4, .int yy_1702), (0, .ref (Ca 0)), (1, .ref (Aa 0)), (2, .int x1), (3, .int x2)]) hx hb dX1_setsOf_47 hl (by decide) rfl (fun ls hl₀ => ?_)
            replace hl := hl₀
            clear hl₀
            refine lv_iload hx hb dX1_setsOf_49 (lv_at hl 2 rfl) ?_
            refine lv_iload hx hb dX1_setsOf_51 (lv_at hl 1 rfl) ?_
            refine lv_iand hx hb dX1_setsOf_53 ?_
            refine lv_topi (fun x_54 ex_54 => ?_)
            refine lv_istore (lv' := [(6, .int x_54), (5, .int yy_1700), (7, .int yy_1700), (4, .int yy_1702), (0, .ref (Ca 0)), (1, .ref (Aa 0)), (2, .int x1), (3, .int x2)]) hx hb dX1_setsOf_54 hl (by decide) rfl (fun ls hl₀ => ?_)
            replace hl := hl₀
            clear hl₀
            obtain ⟨x_55, ex_55⟩ : ∃ y : Int32, y = yy_1702 + 1 := ⟨_, rfl⟩
            refine lv_iinc (v := x_55) (lv' := [(4, .int x_55), (6, .int x_54), (5, .int yy_1700), (7, .int yy_1700), (0, .ref (Ca 0)), (1, .ref (Aa 0)), (2, .int x1), (3, .int x2)]) hx hb dX1_setsOf_56 hl (k := 3) rfl (by rw [ex_55]; rfl) (by decide) rfl (fun ls hl₀ => ?_)
            replace hl := hl₀
            clear hl₀
            obtain ⟨x_56, ex_56⟩ : ∃ y : Int32, y = yy_1700 + 1 := ⟨_, rfl⟩
            refine lv_iinc (v := x_56) (lv' := [(7, .int x_56), (4, .int x_55), (6, .int x_54), (5, .int yy_1700), (0, .ref (Ca 0)), (1, .ref (Aa 0)), (2, .int x1), (3, .int x2)]) hx hb dX1_setsOf_59 hl (k := 3) rfl (by rw [ex_56]; rfl) (by decide) rfl (fun ls hl₀ => ?_)
            replace hl := hl₀
            clear hl₀
            refine lv_goto (tgt := 16) hx hb dX1_setsOf_62 (by decide) ?_
            have hb_57 : 64 - (x_56 : Int32).toInt < 64 - (yy_1700 : Int32).toInt ∧ 1 ≤ 64 - (yy_1700 : Int32).toInt := by
              have z_1 := Int32.le_iff_toInt_le.mp (Int32.not_lt.mp c_21)
              have z_2 := congrArg Int32.toInt c_38
              have z_3 := congrArg Int32.toInt c_45
              have y_0 : (0 : Int32).toInt = 0 := by decide
              have y_1 : (1 : Int32).toInt = 1 := by decide
              have t_x_56 : x_56.toInt = (yy_1700 : Int32).toInt + (1 : Int32).toInt := by rw [ex_56]; exact add_toInt (by omega) (by omega)
              omega
            have hm_58 : (64 - (yy_1700 : Int32).toInt).toNat = (64 - (x_56 : Int32).toInt).toNat + 1 := by
              have z_1 := Int32.le_iff_toInt_le.mp (Int32.not_lt.mp c_21)
              have z_2 := congrArg Int32.toInt c_38
              have z_3 := congrArg Int32.toInt c_45
              have y_0 : (0 : Int32).toInt = 0 := by decide
              have y_1 : (1 : Int32).toInt = 1 := by decide
              have t_x_56 : x_56.toInt = (yy_1700 : Int32).toInt + (1 : Int32).toInt := by rw [ex_56]; exact add_toInt (by omega) (by omega)
              omega
            have hb_59 : dX1_setsOf_l16 (Af 4) (Av 3) x1 ((64 - (yy_1700 : Int32).toInt).toNat + 1) yy_1700 yy_1701 yy_1702 yy_1703 = dX1_setsOf_l16 (Af 4) (Av 3) x1 ((64 - (yy_1700 : Int32).toInt).toNat) x_56 x_54 x_55 yy_1700 := by
              clear hP hD hS hl ih_9
              replace er_4 := er_4.symm; subst er_4
              replace er_17 := er_17.symm; subst er_17
              replace er_34 := er_34.symm; subst er_34
              replace ex_54 := ex_54.symm; subst ex_54
              replace ex_55 := ex_55.symm; subst ex_55
              replace ex_56 := ex_56.symm; subst ex_56
              rw [dX1_setsOf_l16_s]
              rw [if_neg c_21, if_pos c_38, if_pos c_45]
              try rfl
            have hL_60 : (dX1_setsOf_l16 (Af 4) (Av 3) x1 ((64 - (0 : Int32).toInt).toNat + 1) (0 : Int32) r_4 (0 : Int32) ((-2) : Int32)) = dX1_setsOf_l16 (Af 4) (Av 3) x1 ((64 - (x_56 : Int32).toInt).toNat + 1) x_56 x_54 x_55 yy_1700 := by
              rw [hL_12, hb_59, hm_58]
            have ha_61 : 0 ≤ (x_56 : Int32).toInt := by
              have z_1 := Int32.le_iff_toInt_le.mp (Int32.not_lt.mp c_21)
              have z_2 := congrArg Int32.toInt c_38
              have z_3 := congrArg Int32.toInt c_45
              have y_0 : (0 : Int32).toInt = 0 := by decide
              have y_1 : (1 : Int32).toInt = 1 := by decide
              have t_x_56 : x_56.toInt = (yy_1700 : Int32).toInt + (1 : Int32).toInt := by rw [ex_56]; exact add_toInt (by omega) (by omega)
              omega
            exact ih_9 x_56 x_54 x_55 yy_1700 _ _ _ (by omega) hL_60 ha_61 (hP.sub [0, 1, 2, 3, 4, 5, 6, 7, 8, 9, 10, 11, 12, 13, 14, 15, 16, 17, 18, 19, 20] rfl) (hD.sub [0, 1, 2, 3, 4, 5, 6, 7, 8, 9, 10, 11, 12, 13, 14, 15, 16, 17, 18, 19, 20] rfl rfl) hS (lv_sub hl [0, 2, 3, 1, 4, 5, 6, 7] rfl)
  have ha_62 : 0 ≤ (0 : Int32).toInt := by
    have y_0 : (0 : Int32).toInt = 0 := by decide
    omega
  exact loop_10 _ 0 r_4 0 (-2) _ _ _ (Nat.lt_succ_self _) rfl ha_62 hP hD hS hl
set_option maxRecDepth 100000 in
theorem cu_dX1_setsOf (l : Launch) (D : va_G) (tc : Nat → ClassId) (sk : (Nat → Nat) × (Nat → Nat)) (Ca_0 : Nat) (Ca_2 : Nat) (Ca_3 : Nat) (Cf_2 : Nat → Int32) (Cf_3 : Nat → Int32) (Ha_0 : Nat) (Ha_1 : Nat) (Ha_2 : Nat) (Ha_3 : Nat) (Ha_4 : Nat) (Ha_5 : Nat) (Ha_6 : Nat) (Ha_7 : Nat) (Ha_8 : Nat) (Hv_0 : Int32) (Hv_1 : Int32) (Hv_2 : Int32) (Hv_3 : Int32) (Hv_4 : Int32) (Hv_5 : Int32) (Hf_1 : Nat → Int32) (Hf_2 : Nat → Int32) (Hf_3 : Nat → Int32) (Hf_4 : Nat → Int32) (Hf_5 : Nat → Int32) (Hf_6 : Nat → Int32) (Hf_7 : Nat → Int32) (Hf_8 : Nat → Int32) (Aa_0 : Nat) (Aa_1 : Nat) (Aa_2 : Nat) (Aa_3 : Nat) (Aa_4 : Nat) (Aa_5 : Nat) (Aa_6 : Nat) (Aa_7 : Nat) (Aa_8 : Nat) (Av_0 : Int32) (Av_1 : Int32) (Av_2 : Int32) (Av_3 : Int32) (Av_4 : Int32) (Av_5 : Int32) (Af_1 : Nat → Int32) (Af_2 : Nat → Int32) (Af_3 : Nat → Int32) (Af_4 : Nat → Int32) (Af_5 : Nat → Int32) (Af_6 : Nat → Int32) (Af_7 : Nat → Int32) (Af_8 : Nat → Int32) (x1 : Int32) (x2 : Int32) (h_buy : 0 ≤ Av_3.toInt ∧ Av_3.toInt ≤ 6) : Ct l yX1_setsOf cX1_setsOf 8 (some .int) { frames := 1, cells := 0, slots := 0, locals := 23 } D tc sk [.ref Ca_0, .ref Aa_0, .int x1, .int x2] [(Ca_0, .inr (1, [.ref Ha_0, .ref Ca_2, .ref Ca_3])), (Ca_2, .inl (tc 0, 25, .inl Cf_2)), (Ca_3, .inl (tc 0, 25, .inl Cf_3)), (Ha_0, .inr (9, [.int Hv_0, .int Hv_1, .int Hv_2, .int Hv_3, .int Hv_4, .int Hv_5, .ref Ha_1, .ref Ha_2, .ref Ha_3, .ref Ha_4, .ref Ha_5, .ref Ha_6, .ref Ha_7, .ref Ha_8])), (Ha_1, .inl (tc 0, 10, .inl Hf_1)), (Ha_2, .inl (tc 0, 10, .inl Hf_2)), (Ha_3, .inl (tc 0, 6, .inl Hf_3)), (Ha_4, .inl (tc 0, 6, .inl Hf_4)), (Ha_5, .inl (tc 0, 6, .inl Hf_5)), (Ha_6, .inl (tc 0, 6, .inl Hf_6)), (Ha_7, .inl (tc 0, 6, .inl Hf_7)), (Ha_8, .inl (tc 0, 6, .inl Hf_8)), (Aa_0, .inr (9, [.int Av_0, .int Av_1, .int Av_2, .int Av_3, .int Av_4, .int Av_5, .ref Aa_1, .ref Aa_2, .ref Aa_3, .ref Aa_4, .ref Aa_5, .ref Aa_6, .ref Aa_7, .ref Aa_8])), (Aa_1, .inl (tc 0, 10, .inl Af_1)), (Aa_2, .inl (tc 0, 10, .inl Af_2)), (Aa_3, .inl (tc 0, 6, .inl Af_3)), (Aa_4, .inl (tc 0, 6, .inl Af_4)), (Aa_5, .inl (tc 0, 6, .inl Af_5)), (Aa_6, .inl (tc 0, 6, .inl Af_6)), (Aa_7, .inl (tc 0, 6, .inl Af_7)), (Aa_8, .inl (tc 0, 6, .inl Af_8))] (fun (v : Option Value) (_ : Unit) => ∃ r : Int32, v = some (.int r) ∧ ((True) ∧ r = (dX1_setsOf Af_4 Av_3 x1 x2))) (fun (_ : Unit) => [(Ca_0, .inr (1, [.ref Ha_0, .ref Ca_2, .ref Ca_3])), (Ca_2, .inl (tc 0, 25, .inl Cf_2)), (Ca_3, .inl (tc 0, 25, .inl Cf_3)), (Ha_0, .inr (9, [.int Hv_0, .int Hv_1, .int Hv_2, .int Hv_3, .int Hv_4, .int Hv_5, .ref Ha_1, .ref Ha_2, .ref Ha_3, .ref Ha_4, .ref Ha_5, .ref Ha_6, .ref Ha_7, .ref Ha_8])), (Ha_1, .inl (tc 0, 10, .inl Hf_1)), (Ha_2, .inl (tc 0, 10, .inl Hf_2)), (Ha_3, .inl (tc 0, 6, .inl Hf_3)), (Ha_4, .inl (tc 0, 6, .inl Hf_4)), (Ha_5, .inl (tc 0, 6, .inl Hf_5)), (Ha_6, .inl (tc 0, 6, .inl Hf_6)), (Ha_7, .inl (tc 0, 6, .inl Hf_7)), (Ha_8, .inl (tc 0, 6, .inl Hf_8)), (Aa_0, .inr (9, [.int Av_0, .int Av_1, .int Av_2, .int Av_3, .int Av_4, .int Av_5, .ref Aa_1, .ref Aa_2, .ref Aa_3, .ref Aa_4, .ref Aa_5, .ref Aa_6, .ref Aa_7, .ref Aa_8])), (Aa_1, .inl (tc 0, 10, .inl Af_1)), (Aa_2, .inl (tc 0, 10, .inl Af_2)), (Aa_3, .inl (tc 0, 6, .inl Af_3)), (Aa_4, .inl (tc 0, 6, .inl Af_4)), (Aa_5, .inl (tc 0, 6, .inl Af_5)), (Aa_6, .inl (tc 0, 6, .inl Af_6)), (Aa_7, .inl (tc 0, 6, .inl Af_7)), (Aa_8, .inl (tc 0, 6, .inl Af_8))]) 0 0 :=
  ct_dX1_setsOf l D tc sk (fun k => ([Ca_0, 0, Ca_2, Ca_3] : List (Nat)).getD k 0) (fun k => ([(fun _ => 0), (fun _ => 0), Cf_2, Cf_3] : List (Nat → Int32)).getD k (fun _ => 0)) (fun k => ([Ha_0, Ha_1, Ha_2, Ha_3, Ha_4, Ha_5, Ha_6, Ha_7, Ha_8] : List (Nat)).getD k 0) (fun k => ([Hv_0, Hv_1, Hv_2, Hv_3, Hv_4, Hv_5] : List (Int32)).getD k 0) (fun k => ([(fun _ => 0), Hf_1, Hf_2, Hf_3, Hf_4, Hf_5, Hf_6, Hf_7, Hf_8] : List (Nat → Int32)).getD k (fun _ => 0)) (fun k => ([Aa_0, Aa_1, Aa_2, Aa_3, Aa_4, Aa_5, Aa_6, Aa_7, Aa_8] : List (Nat)).getD k 0) (fun k => ([Av_0, Av_1, Av_2, Av_3, Av_4, Av_5] : List (Int32)).getD k 0) (fun k => ([(fun _ => 0), Af_1, Af_2, Af_3, Af_4, Af_5, Af_6, Af_7, Af_8] : List (Nat → Int32)).getD k (fun _ => 0)) x1 x2 h_buy
def dX11_isWithin (x1 : Int32) (x2 : Int32) (x3 : Int32) : Int32 := (if x1 < x2 then (0 : Int32) else (if x3 < x1 then (0 : Int32) else (1 : Int32)))
set_option maxHeartbeats 4000000 in
set_option maxRecDepth 100000 in
theorem ct_dX11_isWithin (l : Launch) (D : va_G) (tc : Nat → ClassId) (sk : (Nat → Nat) × (Nat → Nat)) (x1 : Int32) (x2 : Int32) (x3 : Int32)  : Ct l yX11_isWithin cX11_isWithin 3 (some .boolean) { frames := 0, cells := 0, slots := 0, locals := 0 } D tc sk [.int x1, .int x2, .int x3] [] (fun (v : Option Value) (_ : Unit) => ∃ r : Int32, v = some (.int r) ∧ (((r.toInt = 0 ∨ r.toInt = 1)) ∧ r = (dX11_isWithin x1 x2 x3))) (fun (_ : Unit) => []) 0 0 := by
  refine Ct.start (by decide) (Nat.le_of_ble_eq_true rfl) (fun p e s m below meth c A ls hx hb hr hlk hin hml hown hts hK hX hP hD hA hl hS => ?_)
  have hl : lv_has ls 3 [(0, .int x1), (1, .int x2), (2, .int x3)] := hl
  refine lv_iload_n hx hb dX11_isWithin_0 rfl (lv_at hl 0 rfl) ?_
  refine lv_iload_n hx hb dX11_isWithin_1 rfl (lv_at hl 1 rfl) ?_
  refine lv_icmp_lt (tgt := 14) hx hb dX11_isWithin_2 (by decide) (fun c_1 => ?_) (fun c_1 => ?_)
  · skip
    refine lv_iconst (v := 0) hx hb dX11_isWithin_14 (by decide) ?_
    have hp_2 : ((0 : Int32).toInt = 0 ∨ (0 : Int32).toInt = 1) := by
      have z_1 := Int32.lt_iff_toInt_lt.mp c_1
      have y_0 : (0 : Int32).toInt = 0 := by decide
      have yr : (0 : Int32).toInt = 0 := by decide
      omega
    have hF_3 : (0 : Int32) = (dX11_isWithin x1 x2 x3) := by
      clear hP hD hS hl
      unfold dX11_isWithin
      rw [if_pos c_1]
      try rfl
    exact retI (v := 0) hx hb hr hlk (rfl) hP hD hS () ⟨_, rfl, ⟨hp_2, hF_3⟩⟩ [] rfl rfl dX11_isWithin_15 (Nat.le_of_ble_eq_true rfl) (Nat.le_of_ble_eq_true rfl) rfl
  · skip
    refine lv_iload_n hx hb dX11_isWithin_5 rfl (lv_at hl 0 rfl) ?_
    refine lv_iload_n hx hb dX11_isWithin_6 rfl (lv_at hl 2 rfl) ?_
    refine lv_icmp_gt (tgt := 14) hx hb dX11_isWithin_7 (by decide) (fun c_4 => ?_) (fun c_4 => ?_)
    · skip
      refine lv_iconst (v := 0) hx hb dX11_isWithin_14 (by decide) ?_
      have hp_5 : ((0 : Int32).toInt = 0 ∨ (0 : Int32).toInt = 1) := by
        have z_1 := Int32.le_iff_toInt_le.mp (Int32.not_lt.mp c_1)
        have z_2 := Int32.lt_iff_toInt_lt.mp c_4
        have y_0 : (0 : Int32).toInt = 0 := by decide
        have yr : (0 : Int32).toInt = 0 := by decide
        omega
      have hF_6 : (0 : Int32) = (dX11_isWithin x1 x2 x3) := by
        clear hP hD hS hl
        unfold dX11_isWithin
        rw [if_neg c_1, if_pos c_4]
        try rfl
      exact retI (v := 0) hx hb hr hlk (rfl) hP hD hS () ⟨_, rfl, ⟨hp_5, hF_6⟩⟩ [] rfl rfl dX11_isWithin_15 (Nat.le_of_ble_eq_true rfl) (Nat.le_of_ble_eq_true rfl) rfl
    · skip
      refine lv_iconst (v := 1) hx hb dX11_isWithin_10 (by decide) ?_
      refine lv_goto (tgt := 15) hx hb dX11_isWithin_11 (by decide) ?_
      have hp_7 : ((1 : Int32).toInt = 0 ∨ (1 : Int32).toInt = 1) := by
        have z_1 := Int32.le_iff_toInt_le.mp (Int32.not_lt.mp c_1)
        have z_2 := Int32.le_iff_toInt_le.mp (Int32.not_lt.mp c_4)
        have y_1 : (1 : Int32).toInt = 1 := by decide
        have yr : (1 : Int32).toInt = 1 := by decide
        omega
      have hF_8 : (1 : Int32) = (dX11_isWithin x1 x2 x3) := by
        clear hP hD hS hl
        unfold dX11_isWithin
        rw [if_neg c_1, if_neg c_4]
        try rfl
      exact retI (v := 1) hx hb hr hlk (rfl) hP hD hS () ⟨_, rfl, ⟨hp_7, hF_8⟩⟩ [] rfl rfl dX11_isWithin_15 (Nat.le_of_ble_eq_true rfl) (Nat.le_of_ble_eq_true rfl) rfl
def dX11_page (Af_4 : Nat → Int32) (Av_2 : Int32) (Av_3 : Int32) (x1 : Int32) (x2 : Int32) : Int32 := (if (dX9_isTold Av_2) = (0 : Int32) then (-1 : Int32) else (if (dX11_isWithin x1 (0 : Int32) (60 : Int32)) = (0 : Int32) then (-1 : Int32) else (if (dX11_isWithin x2 (0 : Int32) (2 : Int32)) = (0 : Int32) then (-1 : Int32) else (dX1_setsOf Af_4 Av_3 x1 x2))))
set_option maxHeartbeats 4000000 in
set_option maxRecDepth 100000 in
theorem ct_dX11_page (l : Launch) (D : va_G) (tc : Nat → ClassId) (sk : (Nat → Nat) × (Nat → Nat)) (Ga : Nat → Nat) (Gv : Nat → Int32) (Aa : Nat → Nat) (Av : Nat → Int32) (Af : Nat → Nat → Int32) (Ca : Nat → Nat) (Cf : Nat → Nat → Int32) (Ha : Nat → Nat) (Hv : Nat → Int32) (Hf : Nat → Nat → Int32) (x1 : Int32) (x2 : Int32) (h_bA : 0 ≤ ((Av 3) : Int32).toInt ∧ ((Av 3) : Int32).toInt ≤ 6) : Ct l yX11_page cX11_page 3 (some .int) { frames := 2, cells := 0, slots := 0, locals := 50 } D tc sk [.ref (Ga 0), .int x1, .int x2] [((Ga 0), .inr (11, [.ref (Ga 1), .ref (Ga 2), .ref (Ga 3), .ref (Ga 4), .int (Gv 0), .ref (Ga 5), .ref (Aa 0), .ref (Ga 7), .ref (Ga 8), .ref (Ga 9), .ref (Ca 0), .ref (Ga 11)])), ((Aa 0), .inr (9, [.int (Av 0), .int (Av 1), .int (Av 2), .int (Av 3), .int (Av 4), .int (Av 5), .ref (Aa 1), .ref (Aa 2), .ref (Aa 3), .ref (Aa 4), .ref (Aa 5), .ref (Aa 6), .ref (Aa 7), .ref (Aa 8)])), ((Aa 1), .inl (tc 0, 10, .inl (Af 1))), ((Aa 2), .inl (tc 0, 10, .inl (Af 2))), ((Aa 3), .inl (tc 0, 6, .inl (Af 3))), ((Aa 4), .inl (tc 0, 6, .inl (Af 4))), ((Aa 5), .inl (tc 0, 6, .inl (Af 5))), ((Aa 6), .inl (tc 0, 6, .inl (Af 6))), ((Aa 7), .inl (tc 0, 6, .inl (Af 7))), ((Aa 8), .inl (tc 0, 6, .inl (Af 8))), ((Ca 0), .inr (1, [.ref (Ha 0), .ref (Ca 2), .ref (Ca 3)])), ((Ca 2), .inl (tc 0, 25, .inl (Cf 2))), ((Ca 3), .inl (tc 0, 25, .inl (Cf 3))), ((Ha 0), .inr (9, [.int (Hv 0), .int (Hv 1), .int (Hv 2), .int (Hv 3), .int (Hv 4), .int (Hv 5), .ref (Ha 1), .ref (Ha 2), .ref (Ha 3), .ref (Ha 4), .ref (Ha 5), .ref (Ha 6), .ref (Ha 7), .ref (Ha 8)])), ((Ha 1), .inl (tc 0, 10, .inl (Hf 1))), ((Ha 2), .inl (tc 0, 10, .inl (Hf 2))), ((Ha 3), .inl (tc 0, 6, .inl (Hf 3))), ((Ha 4), .inl (tc 0, 6, .inl (Hf 4))), ((Ha 5), .inl (tc 0, 6, .inl (Hf 5))), ((Ha 6), .inl (tc 0, 6, .inl (Hf 6))), ((Ha 7), .inl (tc 0, 6, .inl (Hf 7))), ((Ha 8), .inl (tc 0, 6, .inl (Hf 8)))] (fun (v : Option Value) (_ : Unit) => ∃ r : Int32, v = some (.int r) ∧ ((True) ∧ r = (dX11_page (Af 4) (Av 2) (Av 3) x1 x2))) (fun (_ : Unit) => [((Ga 0), .inr (11, [.ref (Ga 1), .ref (Ga 2), .ref (Ga 3), .ref (Ga 4), .int (Gv 0), .ref (Ga 5), .ref (Aa 0), .ref (Ga 7), .ref (Ga 8), .ref (Ga 9), .ref (Ca 0), .ref (Ga 11)])), ((Aa 0), .inr (9, [.int (Av 0), .int (Av 1), .int (Av 2), .int (Av 3), .int (Av 4), .int (Av 5), .ref (Aa 1), .ref (Aa 2), .ref (Aa 3), .ref (Aa 4), .ref (Aa 5), .ref (Aa 6), .ref (Aa 7), .ref (Aa 8)])), ((Aa 1), .inl (tc 0, 10, .inl (Af 1))), ((Aa 2), .inl (tc 0, 10, .inl (Af 2))), ((Aa 3), .inl (tc 0, 6, .inl (Af 3))), ((Aa 4), .inl (tc 0, 6, .inl (Af 4))), ((Aa 5), .inl (tc 0, 6, .inl (Af 5))), ((Aa 6), .inl (tc 0, 6, .inl (Af 6))), ((Aa 7), .inl (tc 0, 6, .inl (Af 7))), ((Aa 8), .inl (tc 0, 6, .inl (Af 8))), ((Ca 0), .inr (1, [.ref (Ha 0), .ref (Ca 2), .ref (Ca 3)])), ((Ca 2), .inl (tc 0, 25, .inl (Cf 2))), ((Ca 3), .inl (tc 0, 25, .inl (Cf 3))), ((Ha 0), .inr (9, [.int (Hv 0), .int (Hv 1), .int (Hv 2), .int (Hv 3), .int (Hv 4), .int (Hv 5), .ref (Ha 1), .ref (Ha 2), .ref (Ha 3), .ref (Ha 4), .ref (Ha 5), .ref (Ha 6), .ref (Ha 7), .ref (Ha 8)])), ((Ha 1), .inl (tc 0, 10, .inl (Hf 1))), ((Ha 2), .inl (tc 0, 10, .inl (Hf 2))), ((Ha 3), .inl (tc 0, 6, .inl (Hf 3))), ((Ha 4), .inl (tc 0, 6, .inl (Hf 4))), ((Ha 5), .inl (tc 0, 6, .inl (Hf 5))), ((Ha 6), .inl (tc 0, 6, .inl (Hf 6))), ((Ha 7), .inl (tc 0, 6, .inl (Hf 7))), ((Ha 8), .inl (tc 0, 6, .inl (Hf 8)))]) 0 0 := by
  refine Ct.start (by decide) (Nat.le_of_ble_eq_true rfl) (fun p e s m below meth c A ls hx hb hr hlk hin hml hown hts hK hX hP hD hA hl hS => ?_)
  have hl : lv_has ls 3 [(0, .ref (Ga 0)), (1, .int x1), (2, .int x2)] := hl
  refine lv_aload_n hx hb dX11_page_0 rfl (lv_at hl 0 rfl) ?_
  refine gf_X11_51 hx hb hts hown hK hP 0 rfl rfl dX11_page_1 ?_
  refine cV (a := (Aa 0)) (As := []) (rest := []) (wr := [((Ga 0), .inr (11, [.ref (Ga 1), .ref (Ga 2), .ref (Ga 3), .ref (Ga 4), .int (Gv 0), .ref (Ga 5), .ref (Aa 0), .ref (Ga 7), .ref (Ga 8), .ref (Ga 9), .ref (Ca 0), .ref (Ga 11)])), ((Ca 0), .inr (1, [.ref (Ha 0), .ref (Ca 2), .ref (Ca 3)])), ((Ca 2), .inl (tc 0, 25, .inl (Cf 2))), ((Ca 3), .inl (tc 0, 25, .inl (Cf 3))), ((Ha 0), .inr (9, [.int (Hv 0), .int (Hv 1), .int (Hv 2), .int (Hv 3), .int (Hv 4), .int (Hv 5), .ref (Ha 1), .ref (Ha 2), .ref (Ha 3), .ref (Ha 4), .ref (Ha 5), .ref (Ha 6), .ref (Ha 7), .ref (Ha 8)])), ((Ha 1), .inl (tc 0, 10, .inl (Hf 1))), ((Ha 2), .inl (tc 0, 10, .inl (Hf 2))), ((Ha 3), .inl (tc 0, 6, .inl (Hf 3))), ((Ha 4), .inl (tc 0, 6, .inl (Hf 4))), ((Ha 5), .inl (tc 0, 6, .inl (Hf 5))), ((Ha 6), .inl (tc 0, 6, .inl (Hf 6))), ((Ha 7), .inl (tc 0, 6, .inl (Hf 7))), ((Ha 8), .inl (tc 0, 6, .inl (Hf 8)))]) ⟨hx, hb, hml, hown, hts⟩ hK hX hA (cu_dX9_isTold l D tc sk (Aa 0) (Aa 1) (Aa 2) (Aa 3) (Aa 4) (Aa 5) (Aa 6) (Aa 7) (Aa 8) (Av 0) (Av 1) (Av 2) (Av 3) (Av 4) (Av 5) (Af 1) (Af 2) (Af 3) (Af 4) (Af 5) (Af 6) (Af 7) (Af 8)) k_724 k_721 k_722 k_723 k_98 pl_X9_isTold ⟨Nat.le_of_ble_eq_true rfl, Nat.le_of_ble_eq_true rfl⟩ rfl rfl (va_recv hK hP (ci := 9) (q0 := 1) rfl rfl) hP hD hS [1, 2, 3, 4, 5, 6, 7, 8, 9] [0, 10, 11, 12, 13, 14, 15, 16, 17, 18, 19, 20, 21] rfl rfl rfl rfl rfl (by decide) rfl hl.1 rfl (Nat.le_of_ble_eq_true rfl) dX11_page_4 ⟨Nat.le_of_ble_eq_true rfl, Nat.le_of_ble_eq_true rfl⟩ (fun v_1 u_2 H locs hv_3 hP₀ hD₀ hS₀ => ?_)
  obtain ⟨r_4, rfl, he_5⟩ := hv_3
  have he_5 : ((r_4.toInt = 0 ∨ r_4.toInt = 1)) ∧ r_4 = (dX9_isTold (Av 2)) := he_5
  refine W.eq (g2 := F0 m 7 ls [.int r_4]) rfl ?_
  replace hP : va_P D classes [((Ga 0), .inr (11, [.ref (Ga 1), .ref (Ga 2), .ref (Ga 3), .ref (Ga 4), .int (Gv 0), .ref (Ga 5), .ref (Aa 0), .ref (Ga 7), .ref (Ga 8), .ref (Ga 9), .ref (Ca 0), .ref (Ga 11)])), ((Ca 0), .inr (1, [.ref (Ha 0), .ref (Ca 2), .ref (Ca 3)])), ((Ca 2), .inl (tc 0, 25, .inl (Cf 2))), ((Ca 3), .inl (tc 0, 25, .inl (Cf 3))), ((Ha 0), .inr (9, [.int (Hv 0), .int (Hv 1), .int (Hv 2), .int (Hv 3), .int (Hv 4), .int (Hv 5), .ref (Ha 1), .ref (Ha 2), .ref (Ha 3), .ref (Ha 4), .ref (Ha 5), .ref (Ha 6), .ref (Ha 7), .ref (Ha 8)])), ((Ha 1), .inl (tc 0, 10, .inl (Hf 1))), ((Ha 2), .inl (tc 0, 10, .inl (Hf 2))), ((Ha 3), .inl (tc 0, 6, .inl (Hf 3))), ((Ha 4), .inl (tc 0, 6, .inl (Hf 4))), ((Ha 5), .inl (tc 0, 6, .inl (Hf 5))), ((Ha 6), .inl (tc 0, 6, .inl (Hf 6))), ((Ha 7), .inl (tc 0, 6, .inl (Hf 7))), ((Ha 8), .inl (tc 0, 6, .inl (Hf 8))), ((Aa 0), .inr (9, [.int (Av 0), .int (Av 1), .int (Av 2), .int (Av 3), .int (Av 4), .int (Av 5), .ref (Aa 1), .ref (Aa 2), .ref (Aa 3), .ref (Aa 4), .ref (Aa 5), .ref (Aa 6), .ref (Aa 7), .ref (Aa 8)])), ((Aa 1), .inl (tc 0, 10, .inl (Af 1))), ((Aa 2), .inl (tc 0, 10, .inl (Af 2))), ((Aa 3), .inl (tc 0, 6, .inl (Af 3))), ((Aa 4), .inl (tc 0, 6, .inl (Af 4))), ((Aa 5), .inl (tc 0, 6, .inl (Af 5))), ((Aa 6), .inl (tc 0, 6, .inl (Af 6))), ((Aa 7), .inl (tc 0, 6, .inl (Af 7))), ((Aa 8), .inl (tc 0, 6, .inl (Af 8)))] H := hP₀
  replace hD : va_D A [((Ga 0), .inr (11, [.ref (Ga 1), .ref (Ga 2), .ref (Ga 3), .ref (Ga 4), .int (Gv 0), .ref (Ga 5), .ref (Aa 0), .ref (Ga 7), .ref (Ga 8), .ref (Ga 9), .ref (Ca 0), .ref (Ga 11)])), ((Ca 0), .inr (1, [.ref (Ha 0), .ref (Ca 2), .ref (Ca 3)])), ((Ca 2), .inl (tc 0, 25, .inl (Cf 2))), ((Ca 3), .inl (tc 0, 25, .inl (Cf 3))), ((Ha 0), .inr (9, [.int (Hv 0), .int (Hv 1), .int (Hv 2), .int (Hv 3), .int (Hv 4), .int (Hv 5), .ref (Ha 1), .ref (Ha 2), .ref (Ha 3), .ref (Ha 4), .ref (Ha 5), .ref (Ha 6), .ref (Ha 7), .ref (Ha 8)])), ((Ha 1), .inl (tc 0, 10, .inl (Hf 1))), ((Ha 2), .inl (tc 0, 10, .inl (Hf 2))), ((Ha 3), .inl (tc 0, 6, .inl (Hf 3))), ((Ha 4), .inl (tc 0, 6, .inl (Hf 4))), ((Ha 5), .inl (tc 0, 6, .inl (Hf 5))), ((Ha 6), .inl (tc 0, 6, .inl (Hf 6))), ((Ha 7), .inl (tc 0, 6, .inl (Hf 7))), ((Ha 8), .inl (tc 0, 6, .inl (Hf 8))), ((Aa 0), .inr (9, [.int (Av 0), .int (Av 1), .int (Av 2), .int (Av 3), .int (Av 4), .int (Av 5), .ref (Aa 1), .ref (Aa 2), .ref (Aa 3), .ref (Aa 4), .ref (Aa 5), .ref (Aa 6), .ref (Aa 7), .ref (Aa 8)])), ((Aa 1), .inl (tc 0, 10, .inl (Af 1))), ((Aa 2), .inl (tc 0, 10, .inl (Af 2))), ((Aa 3), .inl (tc 0, 6, .inl (Af 3))), ((Aa 4), .inl (tc 0, 6, .inl (Af 4))), ((Aa 5), .inl (tc 0, 6, .inl (Af 5))), ((Aa 6), .inl (tc 0, 6, .inl (Af 6))), ((Aa 7), .inl (tc 0, 6, .inl (Af 7))), ((Aa 8), .inl (tc 0, 6, .inl (Af 8)))] := hD₀
  replace hS := hS₀
  clear hP₀ hD₀ hS₀
  obtain ⟨he_5, hq_7⟩ := he_5
  have er_4 : r_4 = (dX9_isTold (Av 2)) := hq_7
  refine lv_if_eq (tgt := 29) hx hb dX11_page_7 (by decide) (fun c_8 => ?_) (fun c_8 => ?_)
  · skip
    refine lv_iconst (v := (-1)) hx hb dX11_page_29 (by decide) ?_
    have hF_9 : (-1 : Int32) = (dX11_page (Af 4) (Av 2) (Av 3) x1 x2) := by
      clear hP hD hS hl
      replace er_4 := er_4.symm; subst er_4
      unfold dX11_page
      rw [if_pos c_8]
      try rfl
    exact retI (v := (-1)) hx hb hr hlk (rfl) hP hD hS () ⟨_, rfl, ⟨trivial, hF_9⟩⟩ [0, 13, 14, 15, 16, 17, 18, 19, 20, 21, 1, 2, 3, 4, 5, 6, 7, 8, 9, 10, 11, 12] rfl rfl dX11_page_30 (Nat.le_of_ble_eq_true rfl) (Nat.le_of_ble_eq_true rfl) rfl
  · skip
    refine lv_iload_n hx hb dX11_page_10 rfl (lv_at hl 1 rfl) ?_
    refine lv_iconst (v := 0) hx hb dX11_page_11 (by decide) ?_
    refine lv_bipush (v := 60) hx hb dX11_page_12 (by decide) ?_
    refine cS (As := [.int x1, .int 0, .int 60]) (rest := []) (wr := [((Ga 0), .inr (11, [.ref (Ga 1), .ref (Ga 2), .ref (Ga 3), .ref (Ga 4), .int (Gv 0), .ref (Ga 5), .ref (Aa 0), .ref (Ga 7), .ref (Ga 8), .ref (Ga 9), .ref (Ca 0), .ref (Ga 11)])), ((Ca 0), .inr (1, [.ref (Ha 0), .ref (Ca 2), .ref (Ca 3)])), ((Ca 2), .inl (tc 0, 25, .inl (Cf 2))), ((Ca 3), .inl (tc 0, 25, .inl (Cf 3))), ((Ha 0), .inr (9, [.int (Hv 0), .int (Hv 1), .int (Hv 2), .int (Hv 3), .int (Hv 4), .int (Hv 5), .ref (Ha 1), .ref (Ha 2), .ref (Ha 3), .ref (Ha 4), .ref (Ha 5), .ref (Ha 6), .ref (Ha 7), .ref (Ha 8)])), ((Ha 1), .inl (tc 0, 10, .inl (Hf 1))), ((Ha 2), .inl (tc 0, 10, .inl (Hf 2))), ((Ha 3), .inl (tc 0, 6, .inl (Hf 3))), ((Ha 4), .inl (tc 0, 6, .inl (Hf 4))), ((Ha 5), .inl (tc 0, 6, .inl (Hf 5))), ((Ha 6), .inl (tc 0, 6, .inl (Hf 6))), ((Ha 7), .inl (tc 0, 6, .inl (Hf 7))), ((Ha 8), .inl (tc 0, 6, .inl (Hf 8))), ((Aa 0), .inr (9, [.int (Av 0), .int (Av 1), .int (Av 2), .int (Av 3), .int (Av 4), .int (Av 5), .ref (Aa 1), .ref (Aa 2), .ref (Aa 3), .ref (Aa 4), .ref (Aa 5), .ref (Aa 6), .ref (Aa 7), .ref (Aa 8)])), ((Aa 1), .inl (tc 0, 10, .inl (Af 1))), ((Aa 2), .inl (tc 0, 10, .inl (Af 2))), ((Aa 3), .inl (tc 0, 6, .inl (Af 3))), ((Aa 4), .inl (tc 0, 6, .inl (Af 4))), ((Aa 5), .inl (tc 0, 6, .inl (Af 5))), ((Aa 6), .inl (tc 0, 6, .inl (Af 6))), ((Aa 7), .inl (tc 0, 6, .inl (Af 7))), ((Aa 8), .inl (tc 0, 6, .inl (Af 8)))]) ⟨hx, hb, hml, hown, hts⟩ hK hX hA (ct_dX11_isWithin l D tc sk x1 0 60) k_716 k_714 k_715 k_95 pl_X11_isWithin ⟨Nat.le_of_ble_eq_true rfl, Nat.le_of_ble_eq_true rfl⟩ rfl rfl  hP hD hS [] [0, 1, 2, 3, 4, 5, 6, 7, 8, 9, 10, 11, 12, 13, 14, 15, 16, 17, 18, 19, 20, 21] rfl rfl rfl rfl rfl (by decide) rfl hl.1 rfl (Nat.le_of_ble_eq_true rfl) dX11_page_14 ⟨Nat.le_of_ble_eq_true rfl, Nat.le_of_ble_eq_true rfl⟩ (fun v_10 u_11 H locs hv_12 hP₀ hD₀ hS₀ => ?_)
    obtain ⟨r_13, rfl, he_14⟩ := hv_12
    have he_14 : ((r_13.toInt = 0 ∨ r_13.toInt = 1)) ∧ r_13 = (dX11_isWithin x1 (0 : Int32) (60 : Int32)) := he_14
    refine W.eq (g2 := F0 m 17 ls [.int r_13]) rfl ?_
    replace hP : va_P D classes [((Ga 0), .inr (11, [.ref (Ga 1), .ref (Ga 2), .ref (Ga 3), .ref (Ga 4), .int (Gv 0), .ref (Ga 5), .ref (Aa 0), .ref (Ga 7), .ref (Ga 8), .ref (Ga 9), .ref (Ca 0), .ref (Ga 11)])), ((Ca 0), .inr (1, [.ref (Ha 0), .ref (Ca 2), .ref (Ca 3)])), ((Ca 2), .inl (tc 0, 25, .inl (Cf 2))), ((Ca 3), .inl (tc 0, 25, .inl (Cf 3))), ((Ha 0), .inr (9, [.int (Hv 0), .int (Hv 1), .int (Hv 2), .int (Hv 3), .int (Hv 4), .int (Hv 5), .ref (Ha 1), .ref (Ha 2), .ref (Ha 3), .ref (Ha 4), .ref (Ha 5), .ref (Ha 6), .ref (Ha 7), .ref (Ha 8)])), ((Ha 1), .inl (tc 0, 10, .inl (Hf 1))), ((Ha 2), .inl (tc 0, 10, .inl (Hf 2))), ((Ha 3), .inl (tc 0, 6, .inl (Hf 3))), ((Ha 4), .inl (tc 0, 6, .inl (Hf 4))), ((Ha 5), .inl (tc 0, 6, .inl (Hf 5))), ((Ha 6), .inl (tc 0, 6, .inl (Hf 6))), ((Ha 7), .inl (tc 0, 6, .inl (Hf 7))), ((Ha 8), .inl (tc 0, 6, .inl (Hf 8))), ((Aa 0), .inr (9, [.int (Av 0), .int (Av 1), .int (Av 2), .int (Av 3), .int (Av 4), .int (Av 5), .ref (Aa 1), .ref (Aa 2), .ref (Aa 3), .ref (Aa 4), .ref (Aa 5), .ref (Aa 6), .ref (Aa 7), .ref (Aa 8)])), ((Aa 1), .inl (tc 0, 10, .inl (Af 1))), ((Aa 2), .inl (tc 0, 10, .inl (Af 2))), ((Aa 3), .inl (tc 0, 6, .inl (Af 3))), ((Aa 4), .inl (tc 0, 6, .inl (Af 4))), ((Aa 5), .inl (tc 0, 6, .inl (Af 5))), ((Aa 6), .inl (tc 0, 6, .inl (Af 6))), ((Aa 7), .inl (tc 0, 6, .inl (Af 7))), ((Aa 8), .inl (tc 0, 6, .inl (Af 8)))] H := hP₀
    replace hD : va_D A [((Ga 0), .inr (11, [.ref (Ga 1), .ref (Ga 2), .ref (Ga 3), .ref (Ga 4), .int (Gv 0), .ref (Ga 5), .ref (Aa 0), .ref (Ga 7), .ref (Ga 8), .ref (Ga 9), .ref (Ca 0), .ref (Ga 11)])), ((Ca 0), .inr (1, [.ref (Ha 0), .ref (Ca 2), .ref (Ca 3)])), ((Ca 2), .inl (tc 0, 25, .inl (Cf 2))), ((Ca 3), .inl (tc 0, 25, .inl (Cf 3))), ((Ha 0), .inr (9, [.int (Hv 0), .int (Hv 1), .int (Hv 2), .int (Hv 3), .int (Hv 4), .int (Hv 5), .ref (Ha 1), .ref (Ha 2), .ref (Ha 3), .ref (Ha 4), .ref (Ha 5), .ref (Ha 6), .ref (Ha 7), .ref (Ha 8)])), ((Ha 1), .inl (tc 0, 10, .inl (Hf 1))), ((Ha 2), .inl (tc 0, 10, .inl (Hf 2))), ((Ha 3), .inl (tc 0, 6, .inl (Hf 3))), ((Ha 4), .inl (tc 0, 6, .inl (Hf 4))), ((Ha 5), .inl (tc 0, 6, .inl (Hf 5))), ((Ha 6), .inl (tc 0, 6, .inl (Hf 6))), ((Ha 7), .inl (tc 0, 6, .inl (Hf 7))), ((Ha 8), .inl (tc 0, 6, .inl (Hf 8))), ((Aa 0), .inr (9, [.int (Av 0), .int (Av 1), .int (Av 2), .int (Av 3), .int (Av 4), .int (Av 5), .ref (Aa 1), .ref (Aa 2), .ref (Aa 3), .ref (Aa 4), .ref (Aa 5), .ref (Aa 6), .ref (Aa 7), .ref (Aa 8)])), ((Aa 1), .inl (tc 0, 10, .inl (Af 1))), ((Aa 2), .inl (tc 0, 10, .inl (Af 2))), ((Aa 3), .inl (tc 0, 6, .inl (Af 3))), ((Aa 4), .inl (tc 0, 6, .inl (Af 4))), ((Aa 5), .inl (tc 0, 6, .inl (Af 5))), ((Aa 6), .inl (tc 0, 6, .inl (Af 6))), ((Aa 7), .inl (tc 0, 6, .inl (Af 7))), ((Aa 8), .inl (tc 0, 6, .inl (Af 8)))] := hD₀
    replace hS := hS₀
    clear hP₀ hD₀ hS₀
    obtain ⟨he_14, hq_16⟩ := he_14
    have er_13 : r_13 = (dX11_isWithin x1 (0 : Int32) (60 : Int32)) := hq_16
    refine lv_if_eq (tgt := 29) hx hb dX11_page_17 (by decide) (fun c_17 => ?_) (fun c_17 => ?_)
    · skip
      refine lv_iconst (v := (-1)) hx hb dX11_page_29 (by decide) ?_
      have hF_18 : (-1 : Int32) = (dX11_page (Af 4) (Av 2) (Av 3) x1 x2) := by
        clear hP hD hS hl
        replace er_4 := er_4.symm; subst er_4
        replace er_13 := er_13.symm; subst er_13
        unfold dX11_page
        rw [if_neg c_8, if_pos c_17]
        try rfl
      exact retI (v := (-1)) hx hb hr hlk (rfl) hP hD hS () ⟨_, rfl, ⟨trivial, hF_18⟩⟩ [0, 13, 14, 15, 16, 17, 18, 19, 20, 21, 1, 2, 3, 4, 5, 6, 7, 8, 9, 10, 11, 12] rfl rfl dX11_page_30 (Nat.le_of_ble_eq_true rfl) (Nat.le_of_ble_eq_true rfl) rfl
    · skip
      refine lv_iload_n hx hb dX11_page_20 rfl (lv_at hl 2 rfl) ?_
      refine lv_iconst (v := 0) hx hb dX11_page_21 (by decide) ?_
      refine lv_iconst (v := 2) hx hb dX11_page_22 (by decide) ?_
      refine cS (As := [.int x2, .int 0, .int 2]) (rest := []) (wr := [((Ga 0), .inr (11, [.ref (Ga 1), .ref (Ga 2), .ref (Ga 3), .ref (Ga 4), .int (Gv 0), .ref (Ga 5), .ref (Aa 0), .ref (Ga 7), .ref (Ga 8), .ref (Ga 9), .ref (Ca 0), .ref (Ga 11)])), ((Ca 0), .inr (1, [.ref (Ha 0), .ref (Ca 2), .ref (Ca 3)])), ((Ca 2), .inl (tc 0, 25, .inl (Cf 2))), ((Ca 3), .inl (tc 0, 25, .inl (Cf 3))), ((Ha 0), .inr (9, [.int (Hv 0), .int (Hv 1), .int (Hv 2), .int (Hv 3), .int (Hv 4), .int (Hv 5), .ref (Ha 1), .ref (Ha 2), .ref (Ha 3), .ref (Ha 4), .ref (Ha 5), .ref (Ha 6), .ref (Ha 7), .ref (Ha 8)])), ((Ha 1), .inl (tc 0, 10, .inl (Hf 1))), ((Ha 2), .inl (tc 0, 10, .inl (Hf 2))), ((Ha 3), .inl (tc 0, 6, .inl (Hf 3))), ((Ha 4), .inl (tc 0, 6, .inl (Hf 4))), ((Ha 5), .inl (tc 0, 6, .inl (Hf 5))), ((Ha 6), .inl (tc 0, 6, .inl (Hf 6))), ((Ha 7), .inl (tc 0, 6, .inl (Hf 7))), ((Ha 8), .inl (tc 0, 6, .inl (Hf 8))), ((Aa 0), .inr (9, [.int (Av 0), .int (Av 1), .int (Av 2), .int (Av 3), .int (Av 4), .int (Av 5), .ref (Aa 1), .ref (Aa 2), .ref (Aa 3), .ref (Aa 4), .ref (Aa 5), .ref (Aa 6), .ref (Aa 7), .ref (Aa 8)])), ((Aa 1), .inl (tc 0, 10, .inl (Af 1))), ((Aa 2), .inl (tc 0, 10, .inl (Af 2))), ((Aa 3), .inl (tc 0, 6, .inl (Af 3))), ((Aa 4), .inl (tc 0, 6, .inl (Af 4))), ((Aa 5), .inl (tc 0, 6, .inl (Af 5))), ((Aa 6), .inl (tc 0, 6, .inl (Af 6))), ((Aa 7), .inl (tc 0, 6, .inl (Af 7))), ((Aa 8), .inl (tc 0, 6, .inl (Af 8)))]) ⟨hx, hb, hml, hown, hts⟩ hK hX hA (ct_dX11_isWithin l D tc sk x2 0 2) k_716 k_714 k_715 k_95 pl_X11_isWithin ⟨Nat.le_of_ble_eq_true rfl, Nat.le_of_ble_eq_true rfl⟩ rfl rfl  hP hD hS [] [0, 1, 2, 3, 4, 5, 6, 7, 8, 9, 10, 11, 12, 13, 14, 15, 16, 17, 18, 19, 20, 21] rfl rfl rfl rfl rfl (by decide) rfl hl.1 rfl (Nat.le_of_ble_eq_true rfl) dX11_page_23 ⟨Nat.le_of_ble_eq_true rfl, Nat.le_of_ble_eq_true rfl⟩ (fun v_19 u_20 H locs hv_21 hP₀ hD₀ hS₀ => ?_)
      obtain ⟨r_22, rfl, he_23⟩ := hv_21
      have he_23 : ((r_22.toInt = 0 ∨ r_22.toInt = 1)) ∧ r_22 = (dX11_isWithin x2 (0 : Int32) (2 : Int32)) := he_23
      refine W.eq (g2 := F0 m 26 ls [.int r_22]) rfl ?_
      replace hP : va_P D classes [((Ga 0), .inr (11, [.ref (Ga 1), .ref (Ga 2), .ref (Ga 3), .ref (Ga 4), .int (Gv 0), .ref (Ga 5), .ref (Aa 0), .ref (Ga 7), .ref (Ga 8), .ref (Ga 9), .ref (Ca 0), .ref (Ga 11)])), ((Ca 0), .inr (1, [.ref (Ha 0), .ref (Ca 2), .ref (Ca 3)])), ((Ca 2), .inl (tc 0, 25, .inl (Cf 2))), ((Ca 3), .inl (tc 0, 25, .inl (Cf 3))), ((Ha 0), .inr (9, [.int (Hv 0), .int (Hv 1), .int (Hv 2), .int (Hv 3), .int (Hv 4), .int (Hv 5), .ref (Ha 1), .ref (Ha 2), .ref (Ha 3), .ref (Ha 4), .ref (Ha 5), .ref (Ha 6), .ref (Ha 7), .ref (Ha 8)])), ((Ha 1), .inl (tc 0, 10, .inl (Hf 1))), ((Ha 2), .inl (tc 0, 10, .inl (Hf 2))), ((Ha 3), .inl (tc 0, 6, .inl (Hf 3))), ((Ha 4), .inl (tc 0, 6, .inl (Hf 4))), ((Ha 5), .inl (tc 0, 6, .inl (Hf 5))), ((Ha 6), .inl (tc 0, 6, .inl (Hf 6))), ((Ha 7), .inl (tc 0, 6, .inl (Hf 7))), ((Ha 8), .inl (tc 0, 6, .inl (Hf 8))), ((Aa 0), .inr (9, [.int (Av 0), .int (Av 1), .int (Av 2), .int (Av 3), .int (Av 4), .int (Av 5), .ref (Aa 1), .ref (Aa 2), .ref (Aa 3), .ref (Aa 4), .ref (Aa 5), .ref (Aa 6), .ref (Aa 7), .ref (Aa 8)])), ((Aa 1), .inl (tc 0, 10, .inl (Af 1))), ((Aa 2), .inl (tc 0, 10, .inl (Af 2))), ((Aa 3), .inl (tc 0, 6, .inl (Af 3))), ((Aa 4), .inl (tc 0, 6, .inl (Af 4))), ((Aa 5), .inl (tc 0, 6, .inl (Af 5))), ((Aa 6), .inl (tc 0, 6, .inl (Af 6))), ((Aa 7), .inl (tc 0, 6, .inl (Af 7))), ((Aa 8), .inl (tc 0, 6, .inl (Af 8)))] H := hP₀
      replace hD : va_D A [((Ga 0), .inr (11, [.ref (Ga 1), .ref (Ga 2), .ref (Ga 3), .ref (Ga 4), .int (Gv 0), .ref (Ga 5), .ref (Aa 0), .ref (Ga 7), .ref (Ga 8), .ref (Ga 9), .ref (Ca 0), .ref (Ga 11)])), ((Ca 0), .inr (1, [.ref (Ha 0), .ref (Ca 2), .ref (Ca 3)])), ((Ca 2), .inl (tc 0, 25, .inl (Cf 2))), ((Ca 3), .inl (tc 0, 25, .inl (Cf 3))), ((Ha 0), .inr (9, [.int (Hv 0), .int (Hv 1), .int (Hv 2), .int (Hv 3), .int (Hv 4), .int (Hv 5), .ref (Ha 1), .ref (Ha 2), .ref (Ha 3), .ref (Ha 4), .ref (Ha 5), .ref (Ha 6), .ref (Ha 7), .ref (Ha 8)])), ((Ha 1), .inl (tc 0, 10, .inl (Hf 1))), ((Ha 2), .inl (tc 0, 10, .inl (Hf 2))), ((Ha 3), .inl (tc 0, 6, .inl (Hf 3))), ((Ha 4), .inl (tc 0, 6, .inl (Hf 4))), ((Ha 5), .inl (tc 0, 6, .inl (Hf 5))), ((Ha 6), .inl (tc 0, 6, .inl (Hf 6))), ((Ha 7), .inl (tc 0, 6, .inl (Hf 7))), ((Ha 8), .inl (tc 0, 6, .inl (Hf 8))), ((Aa 0), .inr (9, [.int (Av 0), .int (Av 1), .int (Av 2), .int (Av 3), .int (Av 4), .int (Av 5), .ref (Aa 1), .ref (Aa 2), .ref (Aa 3), .ref (Aa 4), .ref (Aa 5), .ref (Aa 6), .ref (Aa 7), .ref (Aa 8)])), ((Aa 1), .inl (tc 0, 10, .inl (Af 1))), ((Aa 2), .inl (tc 0, 10, .inl (Af 2))), ((Aa 3), .inl (tc 0, 6, .inl (Af 3))), ((Aa 4), .inl (tc 0, 6, .inl (Af 4))), ((Aa 5), .inl (tc 0, 6, .inl (Af 5))), ((Aa 6), .inl (tc 0, 6, .inl (Af 6))), ((Aa 7), .inl (tc 0, 6, .inl (Af 7))), ((Aa 8), .inl (tc 0, 6, .inl (Af 8)))] := hD₀
      replace hS := hS₀
      clear hP₀ hD₀ hS₀
      obtain ⟨he_23, hq_25⟩ := he_23
      have er_22 : r_22 = (dX11_isWithin x2 (0 : Int32) (2 : Int32)) := hq_25
      refine lv_if_ne (tgt := 31) hx hb dX11_page_26 (by decide) (fun c_26 => ?_) (fun c_26 => ?_)
      · skip
        refine lv_aload_n hx hb dX11_page_31 rfl (lv_at hl 0 rfl) ?_
        refine gf_X11_75 hx hb hts hown hK hP 0 rfl rfl dX11_page_32 ?_
        refine lv_aload_n hx hb dX11_page_35 rfl (lv_at hl 0 rfl) ?_
        refine gf_X11_51 hx hb hts hown hK hP 0 rfl rfl dX11_page_36 ?_
        refine lv_iload_n hx hb dX11_page_39 rfl (lv_at hl 1 rfl) ?_
        refine lv_iload_n hx hb dX11_page_40 rfl (lv_at hl 2 rfl) ?_
        have ha_27 : 0 ≤ (Av 3).toInt ∧ (Av 3).toInt ≤ 6 := by
          have z_1 : ¬ (r_4 : Int32).toInt = (0 : Int32).toInt := fun z => c_8 (Int32.toInt_inj.mp z)
          have z_2 : ¬ (r_13 : Int32).toInt = (0 : Int32).toInt := fun z => c_17 (Int32.toInt_inj.mp z)
          have z_3 : ¬ (r_22 : Int32).toInt = (0 : Int32).toInt := fun z => c_26 (Int32.toInt_inj.mp z)
          have y_0 : (0 : Int32).toInt = 0 := by decide
          omega
        refine cV (a := (Ca 0)) (As := [.ref (Aa 0), .int x1, .int x2]) (rest := []) (wr := [((Ga 0), .inr (11, [.ref (Ga 1), .ref (Ga 2), .ref (Ga 3), .ref (Ga 4), .int (Gv 0), .ref (Ga 5), .ref (Aa 0), .ref (Ga 7), .ref (Ga 8), .ref (Ga 9), .ref (Ca 0), .ref (Ga 11)]))]) ⟨hx, hb, hml, hown, hts⟩ hK hX hA (cu_dX1_setsOf l D tc sk (Ca 0) (Ca 2) (Ca 3) (Cf 2) (Cf 3) (Ha 0) (Ha 1) (Ha 2) (Ha 3) (Ha 4) (Ha 5) (Ha 6) (Ha 7) (Ha 8) (Hv 0) (Hv 1) (Hv 2) (Hv 3) (Hv 4) (Hv 5) (Hf 1) (Hf 2) (Hf 3) (Hf 4) (Hf 5) (Hf 6) (Hf 7) (Hf 8) (Aa 0) (Aa 1) (Aa 2) (Aa 3) (Aa 4) (Aa 5) (Aa 6) (Aa 7) (Aa 8) (Av 0) (Av 1) (Av 2) (Av 3) (Av 4) (Av 5) (Af 1) (Af 2) (Af 3) (Af 4) (Af 5) (Af 6) (Af 7) (Af 8) x1 x2 ha_27) k_910 k_907 k_908 k_909 k_104 pl_X1_setsOf ⟨Nat.le_of_ble_eq_true rfl, Nat.le_of_ble_eq_true rfl⟩ rfl rfl (va_recv hK hP (ci := 1) (q0 := 1) rfl rfl) hP hD hS [1, 2, 3, 4, 5, 6, 7, 8, 9, 10, 11, 12, 13, 14, 15, 16, 17, 18, 19, 20, 21] [0] rfl rfl rfl rfl rfl (by decide) rfl hl.1 rfl (Nat.le_of_ble_eq_true rfl) dX11_page_41 ⟨Nat.le_of_ble_eq_true rfl, Nat.le_of_ble_eq_true rfl⟩ (fun v_28 u_29 H locs hv_30 hP₀ hD₀ hS₀ => ?_)
        obtain ⟨r_31, rfl, he_32⟩ := hv_30
        have he_32 : (True) ∧ r_31 = (dX1_setsOf (Af 4) (Av 3) x1 x2) := he_32
        refine W.eq (g2 := F0 m 44 ls [.int r_31]) rfl ?_
        replace hP : va_P D classes [((Ga 0), .inr (11, [.ref (Ga 1), .ref (Ga 2), .ref (Ga 3), .ref (Ga 4), .int (Gv 0), .ref (Ga 5), .ref (Aa 0), .ref (Ga 7), .ref (Ga 8), .ref (Ga 9), .ref (Ca 0), .ref (Ga 11)])), ((Ca 0), .inr (1, [.ref (Ha 0), .ref (Ca 2), .ref (Ca 3)])), ((Ca 2), .inl (tc 0, 25, .inl (Cf 2))), ((Ca 3), .inl (tc 0, 25, .inl (Cf 3))), ((Ha 0), .inr (9, [.int (Hv 0), .int (Hv 1), .int (Hv 2), .int (Hv 3), .int (Hv 4), .int (Hv 5), .ref (Ha 1), .ref (Ha 2), .ref (Ha 3), .ref (Ha 4), .ref (Ha 5), .ref (Ha 6), .ref (Ha 7), .ref (Ha 8)])), ((Ha 1), .inl (tc 0, 10, .inl (Hf 1))), ((Ha 2), .inl (tc 0, 10, .inl (Hf 2))), ((Ha 3), .inl (tc 0, 6, .inl (Hf 3))), ((Ha 4), .inl (tc 0, 6, .inl (Hf 4))), ((Ha 5), .inl (tc 0, 6, .inl (Hf 5))), ((Ha 6), .inl (tc 0, 6, .inl (Hf 6))), ((Ha 7), .inl (tc 0, 6, .inl (Hf 7))), ((Ha 8), .inl (tc 0, 6, .inl (Hf 8))), ((Aa 0), .inr (9, [.int (Av 0), .int (Av 1), .int (Av 2), .int (Av 3), .int (Av 4), .int (Av 5), .ref (Aa 1), .ref (Aa 2), .ref (Aa 3), .ref (Aa 4), .ref (Aa 5), .ref (Aa 6), .ref (Aa 7), .ref (Aa 8)])), ((Aa 1), .inl (tc 0, 10, .inl (Af 1))), ((Aa 2), .inl (tc 0, 10, .inl (Af 2))), ((Aa 3), .inl (tc 0, 6, .inl (Af 3))), ((Aa 4), .inl (tc 0, 6, .inl (Af 4))), ((Aa 5), .inl (tc 0, 6, .inl (Af 5))), ((Aa 6), .inl (tc 0, 6, .inl (Af 6))), ((Aa 7), .inl (tc 0, 6, .inl (Af 7))), ((Aa 8), .inl (tc 0, 6, .inl (Af 8)))] H := hP₀
        replace hD : va_D A [((Ga 0), .inr (11, [.ref (Ga 1), .ref (Ga 2), .ref (Ga 3), .ref (Ga 4), .int (Gv 0), .ref (Ga 5), .ref (Aa 0), .ref (Ga 7), .ref (Ga 8), .ref (Ga 9), .ref (Ca 0), .ref (Ga 11)])), ((Ca 0), .inr (1, [.ref (Ha 0), .ref (Ca 2), .ref (Ca 3)])), ((Ca 2), .inl (tc 0, 25, .inl (Cf 2))), ((Ca 3), .inl (tc 0, 25, .inl (Cf 3))), ((Ha 0), .inr (9, [.int (Hv 0), .int (Hv 1), .int (Hv 2), .int (Hv 3), .int (Hv 4), .int (Hv 5), .ref (Ha 1), .ref (Ha 2), .ref (Ha 3), .ref (Ha 4), .ref (Ha 5), .ref (Ha 6), .ref (Ha 7), .ref (Ha 8)])), ((Ha 1), .inl (tc 0, 10, .inl (Hf 1))), ((Ha 2), .inl (tc 0, 10, .inl (Hf 2))), ((Ha 3), .inl (tc 0, 6, .inl (Hf 3))), ((Ha 4), .inl (tc 0, 6, .inl (Hf 4))), ((Ha 5), .inl (tc 0, 6, .inl (Hf 5))), ((Ha 6), .inl (tc 0, 6, .inl (Hf 6))), ((Ha 7), .inl (tc 0, 6, .inl (Hf 7))), ((Ha 8), .inl (tc 0, 6, .inl (Hf 8))), ((Aa 0), .inr (9, [.int (Av 0), .int (Av 1), .int (Av 2), .int (Av 3), .int (Av 4), .int (Av 5), .ref (Aa 1), .ref (Aa 2), .ref (Aa 3), .ref (Aa 4), .ref (Aa 5), .ref (Aa 6), .ref (Aa 7), .ref (Aa 8)])), ((Aa 1), .inl (tc 0, 10, .inl (Af 1))), ((Aa 2), .inl (tc 0, 10, .inl (Af 2))), ((Aa 3), .inl (tc 0, 6, .inl (Af 3))), ((Aa 4), .inl (tc 0, 6, .inl (Af 4))), ((Aa 5), .inl (tc 0, 6, .inl (Af 5))), ((Aa 6), .inl (tc 0, 6, .inl (Af 6))), ((Aa 7), .inl (tc 0, 6, .inl (Af 7))), ((Aa 8), .inl (tc 0, 6, .inl (Af 8)))] := hD₀
        replace hS := hS₀
        clear hP₀ hD₀ hS₀
        obtain ⟨he_32, hq_34⟩ := he_32
        have er_31 : r_31 = (dX1_setsOf (Af 4) (Av 3) x1 x2) := hq_34
        have hF_35 : r_31 = (dX11_page (Af 4) (Av 2) (Av 3) x1 x2) := by
          clear hP hD hS hl
          replace er_4 := er_4.symm; subst er_4
          replace er_13 := er_13.symm; subst er_13
          replace er_22 := er_22.symm; subst er_22
          replace er_31 := er_31.symm; subst er_31
          unfold dX11_page
          rw [if_neg c_8, if_neg c_17, if_neg c_26]
          try rfl
        exact retI (v := r_31) hx hb hr hlk (rfl) hP hD hS () ⟨_, rfl, ⟨trivial, hF_35⟩⟩ [0, 13, 14, 15, 16, 17, 18, 19, 20, 21, 1, 2, 3, 4, 5, 6, 7, 8, 9, 10, 11, 12] rfl rfl dX11_page_44 (Nat.le_of_ble_eq_true rfl) (Nat.le_of_ble_eq_true rfl) rfl
      · skip
        refine lv_iconst (v := (-1)) hx hb dX11_page_29 (by decide) ?_
        have hF_36 : (-1 : Int32) = (dX11_page (Af 4) (Av 2) (Av 3) x1 x2) := by
          clear hP hD hS hl
          replace er_4 := er_4.symm; subst er_4
          replace er_13 := er_13.symm; subst er_13
          replace er_22 := er_22.symm; subst er_22
          unfold dX11_page
          rw [if_neg c_8, if_neg c_17, if_pos c_26]
          try rfl
        exact retI (v := (-1)) hx hb hr hlk (rfl) hP hD hS () ⟨_, rfl, ⟨trivial, hF_36⟩⟩ [0, 13, 14, 15, 16, 17, 18, 19, 20, 21, 1, 2, 3, 4, 5, 6, 7, 8, 9, 10, 11, 12] rfl rfl dX11_page_30 (Nat.le_of_ble_eq_true rfl) (Nat.le_of_ble_eq_true rfl) rfl
set_option maxRecDepth 100000 in
theorem cu_dX11_page (l : Launch) (D : va_G) (tc : Nat → ClassId) (sk : (Nat → Nat) × (Nat → Nat)) (Ga_0 : Nat) (Ga_1 : Nat) (Ga_2 : Nat) (Ga_3 : Nat) (Ga_4 : Nat) (Ga_5 : Nat) (Ga_7 : Nat) (Ga_8 : Nat) (Ga_9 : Nat) (Ga_11 : Nat) (Gv_0 : Int32) (Aa_0 : Nat) (Aa_1 : Nat) (Aa_2 : Nat) (Aa_3 : Nat) (Aa_4 : Nat) (Aa_5 : Nat) (Aa_6 : Nat) (Aa_7 : Nat) (Aa_8 : Nat) (Av_0 : Int32) (Av_1 : Int32) (Av_2 : Int32) (Av_3 : Int32) (Av_4 : Int32) (Av_5 : Int32) (Af_1 : Nat → Int32) (Af_2 : Nat → Int32) (Af_3 : Nat → Int32) (Af_4 : Nat → Int32) (Af_5 : Nat → Int32) (Af_6 : Nat → Int32) (Af_7 : Nat → Int32) (Af_8 : Nat → Int32) (Ca_0 : Nat) (Ca_2 : Nat) (Ca_3 : Nat) (Cf_2 : Nat → Int32) (Cf_3 : Nat → Int32) (Ha_0 : Nat) (Ha_1 : Nat) (Ha_2 : Nat) (Ha_3 : Nat) (Ha_4 : Nat) (Ha_5 : Nat) (Ha_6 : Nat) (Ha_7 : Nat) (Ha_8 : Nat) (Hv_0 : Int32) (Hv_1 : Int32) (Hv_2 : Int32) (Hv_3 : Int32) (Hv_4 : Int32) (Hv_5 : Int32) (Hf_1 : Nat → Int32) (Hf_2 : Nat → Int32) (Hf_3 : Nat → Int32) (Hf_4 : Nat → Int32) (Hf_5 : Nat → Int32) (Hf_6 : Nat → Int32) (Hf_7 : Nat → Int32) (Hf_8 : Nat → Int32) (x1 : Int32) (x2 : Int32) (h_bA : 0 ≤ (Av_3 : Int32).toInt ∧ (Av_3 : Int32).toInt ≤ 6) : Ct l yX11_page cX11_page 3 (some .int) { frames := 2, cells := 0, slots := 0, locals := 50 } D tc sk [.ref Ga_0, .int x1, .int x2] [(Ga_0, .inr (11, [.ref Ga_1, .ref Ga_2, .ref Ga_3, .ref Ga_4, .int Gv_0, .ref Ga_5, .ref Aa_0, .ref Ga_7, .ref Ga_8, .ref Ga_9, .ref Ca_0, .ref Ga_11])), (Aa_0, .inr (9, [.int Av_0, .int Av_1, .int Av_2, .int Av_3, .int Av_4, .int Av_5, .ref Aa_1, .ref Aa_2, .ref Aa_3, .ref Aa_4, .ref Aa_5, .ref Aa_6, .ref Aa_7, .ref Aa_8])), (Aa_1, .inl (tc 0, 10, .inl Af_1)), (Aa_2, .inl (tc 0, 10, .inl Af_2)), (Aa_3, .inl (tc 0, 6, .inl Af_3)), (Aa_4, .inl (tc 0, 6, .inl Af_4)), (Aa_5, .inl (tc 0, 6, .inl Af_5)), (Aa_6, .inl (tc 0, 6, .inl Af_6)), (Aa_7, .inl (tc 0, 6, .inl Af_7)), (Aa_8, .inl (tc 0, 6, .inl Af_8)), (Ca_0, .inr (1, [.ref Ha_0, .ref Ca_2, .ref Ca_3])), (Ca_2, .inl (tc 0, 25, .inl Cf_2)), (Ca_3, .inl (tc 0, 25, .inl Cf_3)), (Ha_0, .inr (9, [.int Hv_0, .int Hv_1, .int Hv_2, .int Hv_3, .int Hv_4, .int Hv_5, .ref Ha_1, .ref Ha_2, .ref Ha_3, .ref Ha_4, .ref Ha_5, .ref Ha_6, .ref Ha_7, .ref Ha_8])), (Ha_1, .inl (tc 0, 10, .inl Hf_1)), (Ha_2, .inl (tc 0, 10, .inl Hf_2)), (Ha_3, .inl (tc 0, 6, .inl Hf_3)), (Ha_4, .inl (tc 0, 6, .inl Hf_4)), (Ha_5, .inl (tc 0, 6, .inl Hf_5)), (Ha_6, .inl (tc 0, 6, .inl Hf_6)), (Ha_7, .inl (tc 0, 6, .inl Hf_7)), (Ha_8, .inl (tc 0, 6, .inl Hf_8))] (fun (v : Option Value) (_ : Unit) => ∃ r : Int32, v = some (.int r) ∧ ((True) ∧ r = (dX11_page Af_4 Av_2 Av_3 x1 x2))) (fun (_ : Unit) => [(Ga_0, .inr (11, [.ref Ga_1, .ref Ga_2, .ref Ga_3, .ref Ga_4, .int Gv_0, .ref Ga_5, .ref Aa_0, .ref Ga_7, .ref Ga_8, .ref Ga_9, .ref Ca_0, .ref Ga_11])), (Aa_0, .inr (9, [.int Av_0, .int Av_1, .int Av_2, .int Av_3, .int Av_4, .int Av_5, .ref Aa_1, .ref Aa_2, .ref Aa_3, .ref Aa_4, .ref Aa_5, .ref Aa_6, .ref Aa_7, .ref Aa_8])), (Aa_1, .inl (tc 0, 10, .inl Af_1)), (Aa_2, .inl (tc 0, 10, .inl Af_2)), (Aa_3, .inl (tc 0, 6, .inl Af_3)), (Aa_4, .inl (tc 0, 6, .inl Af_4)), (Aa_5, .inl (tc 0, 6, .inl Af_5)), (Aa_6, .inl (tc 0, 6, .inl Af_6)), (Aa_7, .inl (tc 0, 6, .inl Af_7)), (Aa_8, .inl (tc 0, 6, .inl Af_8)), (Ca_0, .inr (1, [.ref Ha_0, .ref Ca_2, .ref Ca_3])), (Ca_2, .inl (tc 0, 25, .inl Cf_2)), (Ca_3, .inl (tc 0, 25, .inl Cf_3)), (Ha_0, .inr (9, [.int Hv_0, .int Hv_1, .int Hv_2, .int Hv_3, .int Hv_4, .int Hv_5, .ref Ha_1, .ref Ha_2, .ref Ha_3, .ref Ha_4, .ref Ha_5, .ref Ha_6, .ref Ha_7, .ref Ha_8])), (Ha_1, .inl (tc 0, 10, .inl Hf_1)), (Ha_2, .inl (tc 0, 10, .inl Hf_2)), (Ha_3, .inl (tc 0, 6, .inl Hf_3)), (Ha_4, .inl (tc 0, 6, .inl Hf_4)), (Ha_5, .inl (tc 0, 6, .inl Hf_5)), (Ha_6, .inl (tc 0, 6, .inl Hf_6)), (Ha_7, .inl (tc 0, 6, .inl Hf_7)), (Ha_8, .inl (tc 0, 6, .inl Hf_8))]) 0 0 :=
  ct_dX11_page l D tc sk (fun k => ([Ga_0, Ga_1, Ga_2, Ga_3, Ga_4, Ga_5, 0, Ga_7, Ga_8, Ga_9, 0, Ga_11] : List (Nat)).getD k 0) (fun k => ([Gv_0] : List (Int32)).getD k 0) (fun k => ([Aa_0, Aa_1, Aa_2, Aa_3, Aa_4, Aa_5, Aa_6, Aa_7, Aa_8] : List (Nat)).getD k 0) (fun k => ([Av_0, Av_1, Av_2, Av_3, Av_4, Av_5] : List (Int32)).getD k 0) (fun k => ([(fun _ => 0), Af_1, Af_2, Af_3, Af_4, Af_5, Af_6, Af_7, Af_8] : List (Nat → Int32)).getD k (fun _ => 0)) (fun k => ([Ca_0, 0, Ca_2, Ca_3] : List (Nat)).getD k 0) (fun k => ([(fun _ => 0), (fun _ => 0), Cf_2, Cf_3] : List (Nat → Int32)).getD k (fun _ => 0)) (fun k => ([Ha_0, Ha_1, Ha_2, Ha_3, Ha_4, Ha_5, Ha_6, Ha_7, Ha_8] : List (Nat)).getD k 0) (fun k => ([Hv_0, Hv_1, Hv_2, Hv_3, Hv_4, Hv_5] : List (Int32)).getD k 0) (fun k => ([(fun _ => 0), Hf_1, Hf_2, Hf_3, Hf_4, Hf_5, Hf_6, Hf_7, Hf_8] : List (Nat → Int32)).getD k (fun _ => 0)) x1 x2 h_bA
