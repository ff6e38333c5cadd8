set_option maxRecDepth 16384
theorem fstQ_en {B : Nat → Int} {q : Except Int BkU} : fstQ (bEN B q) = rEN B (fstQ q) := by
  cases q with
  | error e => rfl
  | ok u =>
    show fstQ (pz_b (pz_end B u.1.1) _) = pz_b (pz_end B u.1.1) _
    cases pz_end B u.1.1 <;> rfl
theorem BkR.of {f : Nat → Int32} {n : Int32} {q : Except Int BkU} {a b c d rd bn : Int32} (hr : pz_bookR (cB f n) = bEN (cB f n) q) (h : TpR f n (rEN (cB f n) (fstQ q)) a b c d) (hq : BkQ q rd bn) : BkR (cB f n) d bn := by
  rw [← fstQ_en, ← hr] at h
  cases e : pz_bookR (cB f n) with
  | error z =>
    rw [e] at h
    have h1 := h.1
    have h2 := h.2.1
    exact Or.inr ⟨by rw [h1]; exact h2, by rw [e, h1]⟩
  | ok u =>
    rw [e] at h
    refine Or.inl ⟨h.1, u, e, ?_⟩
    rw [e] at hr
    cases q with
    | error z => cases hr
    | ok v =>
      have hr : Except.ok u = pz_b (pz_end (cB f n) v.1.1) (fun _ => .ok v) := hr
      cases e2 : pz_end (cB f n) v.1.1 with
      | error z => rw [e2] at hr; cases hr
      | ok z => rw [e2] at hr; cases hr; exact (hq u rfl).2.1
theorem pz_wa_ge {B : Nat → Int} {p : Nat} : ∀ (ws : List (List Int)) (k : Int), 0 ≤ k → -1 ≤ pz_wa B p ws k
  | [], k, _ => by show (-1 : Int) ≤ -1; omega
  | w :: t, k, h => by
    show -1 ≤ (if pz_wd B p w = true then k else pz_wa B p t (k + 1))
    by_cases z : pz_wd B p w = true
    · rw [if_pos z]; omega
    · rw [if_neg z]; exact pz_wa_ge t (k + 1) (by omega)
theorem waR_ge {B : Nat → Int} {ws : List (List Int)} {r : Except Int (Nat × Nat)} : -1 ≤ waR B ws 0 r := by
  cases r with
  | error e => exact Int.le_refl _
  | ok s => exact pz_wa_ge ws 0 (Int.le_refl _)
def RgE (r : Except Int (Nat × Nat)) (wr : Int32) : Prop := r = .error wr.toInt
theorem BfO.of {r : Except Int (Nat × Nat)} {B : Nat → Int} {wr nx rd bn : Int32} {v : Int × Int} (h : RgO r B wr nx) (hv : v = (rd.toInt, bn.toInt)) : BfO (pz_b r (fun s => .ok (s, v))) B wr nx rd bn := by
  subst hv
  refine ⟨?_, h.2⟩
  rw [h.1]; rfl
theorem BfE.of {r : Except Int (Nat × Nat)} {wr : Int32} {v : Int × Int} (h : RgE r wr) : BfE (pz_b r (fun s => .ok (s, v))) wr := by
  unfold RgE at h; unfold BfE; rw [h]; rfl
def Sd3 (f g : Nat → Int32) : Prop := g 3 = f 3
theorem Sd3.rf {f : Nat → Int32} : Sd3 f f := rfl
set_option maxHeartbeats 4000000 in
set_option maxRecDepth 100000 in
theorem ct_gX11_isWithin (l : Launch) (D : va_G) (tc : Nat → ClassId) (sk : (Nat → Nat) × (Nat → Nat)) (x1 : Int32) (x2 : Int32) (x3 : Int32)  : Ct l yX11_isWithin cX11_isWithin 3 (some .boolean) { frames := 0, cells := 0, slots := 0, locals := 0 } D tc sk [.int x1, .int x2, .int x3] [] (fun (v : Option Value) (_ : Unit) => ∃ r : Int32, v = some (.int r) ∧ (((r.toInt = 0 ∧ (x1.toInt < x2.toInt ∨ x3.toInt < x1.toInt)) ∨ (r.toInt = 1 ∧ x2.toInt ≤ x1.toInt ∧ x1.toInt ≤ x3.toInt)))) (fun (_ : Unit) => []) 0 0 := by
  refine Ct.start (by decide) (Nat.le_of_ble_eq_true rfl) (fun p e s m below meth c A ls hx hb hr hlk hin hml hown hts hK hX hP hD hA hl hS => ?_)
  have hl : lv_has ls 3 [(0, .int x1), (1, .int x2), (2, .int x3)] := hl
  refine lv_iload_n hx hb dX11_isWithin_0 rfl (lv_at hl 0 rfl) ?_
  refine lv_iload_n hx hb dX11_isWithin_1 rfl (lv_at hl 1 rfl) ?_
  refine lv_icmp_lt (tgt := 14) hx hb dX11_isWithin_2 (by decide) (fun c_1 => ?_) (fun c_1 => ?_)
  · skip
    refine lv_iconst (v := 0) hx hb dX11_isWithin_14 (by decide) ?_
    have hp_2 : (((0 : Int32).toInt = 0 ∧ (x1.toInt < x2.toInt ∨ x3.toInt < x1.toInt)) ∨ ((0 : Int32).toInt = 1 ∧ x2.toInt ≤ x1.toInt ∧ x1.toInt ≤ x3.toInt)) := by
      have z_1 := Int32.lt_iff_toInt_lt.mp c_1
      have y_0 : (0 : Int32).toInt = 0 := by decide
      have yr : (0 : Int32).toInt = 0 := by decide
      omega
    exact retI (v := 0) hx hb hr hlk (rfl) hP hD hS () ⟨_, rfl, hp_2⟩ [] rfl rfl dX11_isWithin_15 (Nat.le_of_ble_eq_true rfl) (Nat.le_of_ble_eq_true rfl) rfl
  · skip
    refine lv_iload_n hx hb dX11_isWithin_5 rfl (lv_at hl 0 rfl) ?_
    refine lv_iload_n hx hb dX11_isWithin_6 rfl (lv_at hl 2 rfl) ?_
    refine lv_icmp_gt (tgt := 14) hx hb dX11_isWithin_7 (by decide) (fun c_3 => ?_) (fun c_3 => ?_)
    · skip
      refine lv_iconst (v := 0) hx hb dX11_isWithin_14 (by decide) ?_
      have hp_4 : (((0 : Int32).toInt = 0 ∧ (x1.toInt < x2.toInt ∨ x3.toInt < x1.toInt)) ∨ ((0 : Int32).toInt = 1 ∧ x2.toInt ≤ x1.toInt ∧ x1.toInt ≤ x3.toInt)) := by
        have z_1 := Int32.le_iff_toInt_le.mp (Int32.not_lt.mp c_1)
        have z_2 := Int32.lt_iff_toInt_lt.mp c_3
        have y_0 : (0 : Int32).toInt = 0 := by decide
        have yr : (0 : Int32).toInt = 0 := by decide
        omega
      exact retI (v := 0) hx hb hr hlk (rfl) hP hD hS () ⟨_, rfl, hp_4⟩ [] rfl rfl dX11_isWithin_15 (Nat.le_of_ble_eq_true rfl) (Nat.le_of_ble_eq_true rfl) rfl
    · skip
      refine lv_iconst (v := 1) hx hb dX11_isWithin_10 (by decide) ?_
      refine lv_goto (tgt := 15) hx hb dX11_isWithin_11 (by decide) ?_
      have hp_5 : (((1 : Int32).toInt = 0 ∧ (x1.toInt < x2.toInt ∨ x3.toInt < x1.toInt)) ∨ ((1 : Int32).toInt = 1 ∧ x2.toInt ≤ x1.toInt ∧ x1.toInt ≤ x3.toInt)) := by
        have z_1 := Int32.le_iff_toInt_le.mp (Int32.not_lt.mp c_1)
        have z_2 := Int32.le_iff_toInt_le.mp (Int32.not_lt.mp c_3)
        have y_1 : (1 : Int32).toInt = 1 := by decide
        have yr : (1 : Int32).toInt = 1 := by decide
        omega
      exact retI (v := 1) hx hb hr hlk (rfl) hP hD hS () ⟨_, rfl, hp_5⟩ [] rfl rfl dX11_isWithin_15 (Nat.le_of_ble_eq_true rfl) (Nat.le_of_ble_eq_true rfl) rfl
set_option maxHeartbeats 4000000 in
set_option maxRecDepth 100000 in
theorem ct_gX9_hasBuyer (l : Launch) (D : va_G) (tc : Nat → ClassId) (sk : (Nat → Nat) × (Nat → Nat)) (Aa : Nat → Nat) (Av : Nat → Int32) (Af : Nat → Nat → Int32) (x1 : Int32)  : Ct l yX9_hasBuyer cX9_hasBuyer 2 (some .boolean) { frames := 0, cells := 0, slots := 0, locals := 0 } D tc sk [.ref (Aa 0), .int x1] [((Aa 0), .inr (9, [.int (Av 0), .int (Av 1), .int (Av 2), .int (Av 3), .int (Av 4), .int (Av 5), .ref (Aa 1), .ref (Aa 2), .ref (Aa 3), .ref (Aa 4), .ref (Aa 5), .ref (Aa 6), .ref (Aa 7), .ref (Aa 8)])), ((Aa 1), .inl (tc 0, 10, .inl (Af 1))), ((Aa 2), .inl (tc 0, 10, .inl (Af 2))), ((Aa 3), .inl (tc 0, 6, .inl (Af 3))), ((Aa 4), .inl (tc 0, 6, .inl (Af 4))), ((Aa 5), .inl (tc 0, 6, .inl (Af 5))), ((Aa 6), .inl (tc 0, 6, .inl (Af 6))), ((Aa 7), .inl (tc 0, 6, .inl (Af 7))), ((Aa 8), .inl (tc 0, 6, .inl (Af 8)))] (fun (v : Option Value) (_ : Unit) => ∃ r : Int32, v = some (.int r) ∧ (((r.toInt = 0 ∧ (x1.toInt < 0 ∨ (Av 3).toInt ≤ x1.toInt ∨ 6 ≤ x1.toInt)) ∨ (r.toInt = 1 ∧ 0 ≤ x1.toInt ∧ x1.toInt < (Av 3).toInt ∧ x1.toInt < 6)))) (fun (_ : Unit) => [((Aa 0), .inr (9, [.int (Av 0), .int (Av 1), .int (Av 2), .int (Av 3), .int (Av 4), .int (Av 5), .ref (Aa 1), .ref (Aa 2), .ref (Aa 3), .ref (Aa 4), .ref (Aa 5), .ref (Aa 6), .ref (Aa 7), .ref (Aa 8)])), ((Aa 1), .inl (tc 0, 10, .inl (Af 1))), ((Aa 2), .inl (tc 0, 10, .inl (Af 2))), ((Aa 3), .inl (tc 0, 6, .inl (Af 3))), ((Aa 4), .inl (tc 0, 6, .inl (Af 4))), ((Aa 5), .inl (tc 0, 6, .inl (Af 5))), ((Aa 6), .inl (tc 0, 6, .inl (Af 6))), ((Aa 7), .inl (tc 0, 6, .inl (Af 7))), ((Aa 8), .inl (tc 0, 6, .inl (Af 8)))]) 0 0 := by
  refine Ct.start (by decide) (Nat.le_of_ble_eq_true rfl) (fun p e s m below meth c A ls hx hb hr hlk hin hml hown hts hK hX hP hD hA hl hS => ?_)
  have hl : lv_has ls 2 [(0, .ref (Aa 0)), (1, .int x1)] := hl
  refine lv_iload_n hx hb dX9_hasBuyer_0 rfl (lv_at hl 1 rfl) ?_
  refine lv_if_lt (tgt := 22) hx hb dX9_hasBuyer_1 (by decide) (fun c_1 => ?_) (fun c_1 => ?_)
  · skip
    refine lv_iconst (v := 0) hx hb dX9_hasBuyer_22 (by decide) ?_
    have hp_2 : (((0 : Int32).toInt = 0 ∧ (x1.toInt < 0 ∨ (Av 3).toInt ≤ x1.toInt ∨ 6 ≤ x1.toInt)) ∨ ((0 : Int32).toInt = 1 ∧ 0 ≤ x1.toInt ∧ x1.toInt < (Av 3).toInt ∧ x1.toInt < 6)) := by
      have z_1 := Int32.lt_iff_toInt_lt.mp c_1
      have y_0 : (0 : Int32).toInt = 0 := by decide
      omega
    exact retI (v := 0) hx hb hr hlk (rfl) hP hD hS () ⟨_, rfl, hp_2⟩ [0, 1, 2, 3, 4, 5, 6, 7, 8] rfl rfl dX9_hasBuyer_23 (Nat.le_of_ble_eq_true rfl) (Nat.le_of_ble_eq_true rfl) rfl
  · skip
    refine lv_iload_n hx hb dX9_hasBuyer_4 rfl (lv_at hl 1 rfl) ?_
    refine lv_aload_n hx hb dX9_hasBuyer_5 rfl (lv_at hl 0 rfl) ?_
    refine gf_X9_21 hx hb hts hown hK hP 0 rfl rfl dX9_hasBuyer_6 ?_
    refine lv_icmp_ge (tgt := 22) hx hb dX9_hasBuyer_9 (by decide) (fun c_3 => ?_) (fun c_3 => ?_)
    · skip
      refine lv_iconst (v := 0) hx hb dX9_hasBuyer_22 (by decide) ?_
      have hp_4 : (((0 : Int32).toInt = 0 ∧ (x1.toInt < 0 ∨ (Av 3).toInt ≤ x1.toInt ∨ 6 ≤ x1.toInt)) ∨ ((0 : Int32).toInt = 1 ∧ 0 ≤ x1.toInt ∧ x1.toInt < (Av 3).toInt ∧ x1.toInt < 6)) := by
        have z_1 := Int32.le_iff_toInt_le.mp (Int32.not_lt.mp c_1)
        have z_2 := Int32.le_iff_toInt_le.mp c_3
        have y_0 : (0 : Int32).toInt = 0 := by decide
        omega
      exact retI (v := 0) hx hb hr hlk (rfl) hP hD hS () ⟨_, rfl, hp_4⟩ [0, 1, 2, 3, 4, 5, 6, 7, 8] rfl rfl dX9_hasBuyer_23 (Nat.le_of_ble_eq_true rfl) (Nat.le_of_ble_eq_true rfl) rfl
    · skip
      refine lv_iload_n hx hb dX9_hasBuyer_12 rfl (lv_at hl 1 rfl) ?_
      refine lv_bipush (v := 6) hx hb dX9_hasBuyer_13 (by decide) ?_
      refine lv_icmp_ge (tgt := 22) hx hb dX9_hasBuyer_15 (by decide) (fun c_5 => ?_) (fun c_5 => ?_)
      · skip
        refine lv_iconst (v := 0) hx hb dX9_hasBuyer_22 (by decide) ?_
        have hp_6 : (((0 : Int32).toInt = 0 ∧ (x1.toInt < 0 ∨ (Av 3).toInt ≤ x1.toInt ∨ 6 ≤ x1.toInt)) ∨ ((0 : Int32).toInt = 1 ∧ 0 ≤ x1.toInt ∧ x1.toInt < (Av 3).toInt ∧ x1.toInt < 6)) := by
          have z_1 := Int32.le_iff_toInt_le.mp (Int32.not_lt.mp c_1)
          have z_2 := Int32.lt_iff_toInt_lt.mp (Int32.not_le.mp c_3)
          have z_3 := Int32.le_iff_toInt_le.mp c_5
          have y_0 : (0 : Int32).toInt = 0 := by decide
          have y_6 : (6 : Int32).toInt = 6 := by decide
          omega
        exact retI (v := 0) hx hb hr hlk (rfl) hP hD hS () ⟨_, rfl, hp_6⟩ [0, 1, 2, 3, 4, 5, 6, 7, 8] rfl rfl dX9_hasBuyer_23 (Nat.le_of_ble_eq_true rfl) (Nat.le_of_ble_eq_true rfl) rfl
      · skip
        refine lv_iconst (v := 1) hx hb dX9_hasBuyer_18 (by decide) ?_
        refine lv_goto (tgt := 23) hx hb dX9_hasBuyer_19 (by decide) ?_
        have hp_7 : (((1 : Int32).toInt = 0 ∧ (x1.toInt < 0 ∨ (Av 3).toInt ≤ x1.toInt ∨ 6 ≤ x1.toInt)) ∨ ((1 : Int32).toInt = 1 ∧ 0 ≤ x1.toInt ∧ x1.toInt < (Av 3).toInt ∧ x1.toInt < 6)) := by
          have z_1 := Int32.le_iff_toInt_le.mp (Int32.not_lt.mp c_1)
          have z_2 := Int32.lt_iff_toInt_lt.mp (Int32.not_le.mp c_3)
          have z_3 := Int32.lt_iff_toInt_lt.mp (Int32.not_le.mp c_5)
          have y_0 : (0 : Int32).toInt = 0 := by decide
          have y_6 : (6 : Int32).toInt = 6 := by decide
          have y_1 : (1 : Int32).toInt = 1 := by decide
          have yr : (1 : Int32).toInt = 1 := by decide
          omega
        exact retI (v := 1) hx hb hr hlk (rfl) hP hD hS () ⟨_, rfl, hp_7⟩ [0, 1, 2, 3, 4, 5, 6, 7, 8] rfl rfl dX9_hasBuyer_23 (Nat.le_of_ble_eq_true rfl) (Nat.le_of_ble_eq_true rfl) rfl
set_option maxRecDepth 100000 in
theorem cu_gX9_hasBuyer (l : Launch) (D : va_G) (tc : Nat → ClassId) (sk : (Nat → Nat) × (Nat → Nat)) (Aa_0 : Nat) (Aa_1 : Nat) (Aa_2 : Nat) (Aa_3 : Nat) (Aa_4 : Nat) (Aa_5 : Nat) (Aa_6 : Nat) (Aa_7 : Nat) (Aa_8 : Nat) (Av_0 : Int32) (Av_1 : Int32) (Av_2 : Int32) (Av_3 : Int32) (Av_4 : Int32) (Av_5 : Int32) (Af_1 : Nat → Int32) (Af_2 : Nat → Int32) (Af_3 : Nat → Int32) (Af_4 : Nat → Int32) (Af_5 : Nat → Int32) (Af_6 : Nat → Int32) (Af_7 : Nat → Int32) (Af_8 : Nat → Int32) (x1 : Int32)  : Ct l yX9_hasBuyer cX9_hasBuyer 2 (some .boolean) { frames := 0, cells := 0, slots := 0, locals := 0 } D tc sk [.ref Aa_0, .int x1] [(Aa_0, .inr (9, [.int Av_0, .int Av_1, .int Av_2, .int Av_3, .int Av_4, .int Av_5, .ref Aa_1, .ref Aa_2, .ref Aa_3, .ref Aa_4, .ref Aa_5, .ref Aa_6, .ref Aa_7, .ref Aa_8])), (Aa_1, .inl (tc 0, 10, .inl Af_1)), (Aa_2, .inl (tc 0, 10, .inl Af_2)), (Aa_3, .inl (tc 0, 6, .inl Af_3)), (Aa_4, .inl (tc 0, 6, .inl Af_4)), (Aa_5, .inl (tc 0, 6, .inl Af_5)), (Aa_6, .inl (tc 0, 6, .inl Af_6)), (Aa_7, .inl (tc 0, 6, .inl Af_7)), (Aa_8, .inl (tc 0, 6, .inl Af_8))] (fun (v : Option Value) (_ : Unit) => ∃ r : Int32, v = some (.int r) ∧ (((r.toInt = 0 ∧ (x1.toInt < 0 ∨ Av_3.toInt ≤ x1.toInt ∨ 6 ≤ x1.toInt)) ∨ (r.toInt = 1 ∧ 0 ≤ x1.toInt ∧ x1.toInt < Av_3.toInt ∧ x1.toInt < 6)))) (fun (_ : Unit) => [(Aa_0, .inr (9, [.int Av_0, .int Av_1, .int Av_2, .int Av_3, .int Av_4, .int Av_5, .ref Aa_1, .ref Aa_2, .ref Aa_3, .ref Aa_4, .ref Aa_5, .ref Aa_6, .ref Aa_7, .ref Aa_8])), (Aa_1, .inl (tc 0, 10, .inl Af_1)), (Aa_2, .inl (tc 0, 10, .inl Af_2)), (Aa_3, .inl (tc 0, 6, .inl Af_3)), (Aa_4, .inl (tc 0, 6, .inl Af_4)), (Aa_5, .inl (tc 0, 6, .inl Af_5)), (Aa_6, .inl (tc 0, 6, .inl Af_6)), (Aa_7, .inl (tc 0, 6, .inl Af_7)), (Aa_8, .inl (tc 0, 6, .inl Af_8))]) 0 0 :=
  ct_gX9_hasBuyer l D tc sk (fun k => ([Aa_0, Aa_1, Aa_2, Aa_3, Aa_4, Aa_5, Aa_6, Aa_7, Aa_8] : List (Nat)).getD k 0) (fun k => ([Av_0, Av_1, Av_2, Av_3, Av_4, Av_5] : List (Int32)).getD k 0) (fun k => ([(fun _ => 0), Af_1, Af_2, Af_3, Af_4, Af_5, Af_6, Af_7, Af_8] : List (Nat → Int32)).getD k (fun _ => 0)) x1 
theorem TlS.rf {s : Nat → Int32} : TlS s s := fun _ _ => rfl
set_option maxHeartbeats 4000000 in
set_option maxRecDepth 100000 in
theorem ct_kX7_put (l : Launch) (D : va_G) (tc : Nat → ClassId) (sk : (Nat → Nat) × (Nat → Nat)) (Va : Nat → Nat) (Vv : Nat → Int32) (Vf : Nat → Nat → Int32) (x1 : Int32) (rr : Except Int (Nat × Nat)) (ll : List Int) (h_u : 0 ≤ ((Vv 0) : Int32).toInt ∧ ((Vv 0) : Int32).toInt ≤ 400) (h_cd : CdK (Vf 1) (Vv 0) rr ll) : Ct l yX7_put cX7_put 2 none { frames := 0, cells := 0, slots := 0, locals := 0 } D tc sk [.ref (Va 0), .int x1] [((Va 0), .inr (7, [.ref (Va 1), .int (Vv 0), .int (Vv 1)])), ((Va 1), .inl (tc 0, 400, .inl (Vf 1)))] (fun (v : Option Value) (u : (Int32) × (Nat → Int32)) => match u with | (oo0x1, oo0x2) => v = none ∧ (0 ≤ (oo0x1 : Int32).toInt ∧ (oo0x1 : Int32).toInt ≤ 400) ∧ (CdK oo0x2 oo0x1 rr (ll ++ [x1.toInt]))) (fun (u : (Int32) × (Nat → Int32)) => match u with | (oo0x1, oo0x2) => [((Va 0), .inr (7, [.ref (Va 1), .int oo0x1, .int (Vv 1)])), ((Va 1), .inl (tc 0, 400, .inl oo0x2))]) 0 0 := by
  refine Ct.start (by decide) (Nat.le_of_ble_eq_true rfl) (fun p e s m below meth c A ls hx hb hr hlk hin hml hown hts hK hX hP hD hA hl hS => ?_)
  have hl : lv_has ls 2 [(0, .ref (Va 0)), (1, .int x1)] := hl
  refine lv_aload_n hx hb dX7_put_0 rfl (lv_at hl 0 rfl) ?_
  refine gf_X7_15 hx hb hts hown hK hP 0 rfl rfl dX7_put_1 ?_
  refine lv_if_lt (tgt := 39) hx hb dX7_put_4 (by decide) (fun c_1 => ?_) (fun c_1 => ?_)
  · skip
    have hr_2 : 400 ≤ (Vv 0).toInt := by
      have z_1 := Int32.lt_iff_toInt_lt.mp c_1
      have y_0 : (0 : Int32).toInt = 0 := by decide
      omega
    exact retV hx hb hr hlk hP hD hS ((Vv 0), (Vf 1)) ⟨rfl, h_u, (CdK.full h_cd hr_2)⟩ [0, 1] rfl rfl dX7_put_39 (Nat.le_of_ble_eq_true rfl) (Nat.le_of_ble_eq_true rfl) rfl
  · skip
    refine lv_aload_n hx hb dX7_put_7 rfl (lv_at hl 0 rfl) ?_
    refine gf_X7_15 hx hb hts hown hK hP 0 rfl rfl dX7_put_8 ?_
    refine lv_aload_n hx hb dX7_put_11 rfl (lv_at hl 0 rfl) ?_
    refine gf_X7_9 hx hb hts hown hK hP 0 rfl rfl dX7_put_12 ?_
    refine va_alen hx hb hK hP 1 0 rfl rfl (v := 400) rfl dX7_put_15 ?_
    refine lv_icmp_ge (tgt := 39) hx hb dX7_put_16 (by decide) (fun c_3 => ?_) (fun c_3 => ?_)
    · skip
      have hr_4 : 400 ≤ (Vv 0).toInt := by
        have z_1 := Int32.le_iff_toInt_le.mp (Int32.not_lt.mp c_1)
        have z_2 := Int32.le_iff_toInt_le.mp c_3
        have y_0 : (0 : Int32).toInt = 0 := by decide
        have y_400 : (400 : Int32).toInt = 400 := by decide
        omega
      exact retV hx hb hr hlk hP hD hS ((Vv 0), (Vf 1)) ⟨rfl, h_u, (CdK.full h_cd hr_4)⟩ [0, 1] rfl rfl dX7_put_39 (Nat.le_of_ble_eq_true rfl) (Nat.le_of_ble_eq_true rfl) rfl
    · skip
      refine lv_aload_n hx hb dX7_put_19 rfl (lv_at hl 0 rfl) ?_
      refine gf_X7_9 hx hb hts hown hK hP 0 rfl rfl dX7_put_20 ?_
      refine lv_aload_n hx hb dX7_put_23 rfl (lv_at hl 0 rfl) ?_
      refine gf_X7_15 hx hb hts hown hK hP 0 rfl rfl dX7_put_24 ?_
      refine lv_iload_n hx hb dX7_put_27 rfl (lv_at hl 1 rfl) ?_
      have hi_5 : vp_in (Vv 0) 400 := by
        have z_1 := Int32.le_iff_toInt_le.mp (Int32.not_lt.mp c_1)
        have z_2 := Int32.lt_iff_toInt_lt.mp (Int32.not_le.mp c_3)
        have y_0 : (0 : Int32).toInt = 0 := by decide
        have y_400 : (400 : Int32).toInt = 400 := by decide
        refine vp_in_iff.mpr ⟨?_, ?_⟩ <;> omega
      refine st_int hx hb hK hP hD hS 1 0 rfl rfl hi_5 dX7_put_28 (fun g_6 H locs eg_6 hP₀ hD₀ hS₀ => ?_)
      replace hP : va_P D classes [((Va 0), .inr (7, [.ref (Va 1), .int (Vv 0), .int (Vv 1)])), ((Va 1), .inl (tc 0, 400, .inl g_6))] H := hP₀
      replace hD : va_D A [((Va 0), .inr (7, [.ref (Va 1), .int (Vv 0), .int (Vv 1)])), ((Va 1), .inl (tc 0, 400, .inl g_6))] := hD₀
      replace hS := hS₀
      clear hP₀ hD₀ hS₀
      refine lv_aload_n hx hb dX7_put_29 rfl (lv_at hl 0 rfl) ?_
      refine lv_dup hx hb dX7_put_30 rfl ?_
      refine gf_X7_15 hx hb hts hown hK hP 0 rfl rfl dX7_put_31 ?_
      refine lv_iconst (v := 1) hx hb dX7_put_34 (by decide) ?_
      refine lv_iadd hx hb dX7_put_35 ?_
      refine lv_topi (fun x_7 ex_7 => ?_)
      refine pf_X7_15 hx hb hts hown hK hP hD hS 0 rfl (Nat.le_of_ble_eq_true rfl) rfl rfl dX7_put_36 (fun H locs hP₀ hD₀ hS₀ => ?_)
      replace hP : va_P D classes [((Va 0), .inr (7, [.ref (Va 1), .int x_7, .int (Vv 1)])), ((Va 1), .inl (tc 0, 400, .inl g_6))] H := hP₀
      replace hD : va_D A [((Va 0), .inr (7, [.ref (Va 1), .int x_7, .int (Vv 1)])), ((Va 1), .inl (tc 0, 400, .inl g_6))] := hD₀
      replace hS := hS₀
      clear hP₀ hD₀ hS₀
      have ha_8 : 0 ≤ (x_7 : Int32).toInt ∧ (x_7 : Int32).toInt ≤ 400 := by
        have z_1 := Int32.le_iff_toInt_le.mp (Int32.not_lt.mp c_1)
        have z_2 := Int32.lt_iff_toInt_lt.mp (Int32.not_le.mp c_3)
        have y_0 : (0 : Int32).toInt = 0 := by decide
        have y_400 : (400 : Int32).toInt = 400 := by decide
        have y_1 : (1 : Int32).toInt = 1 := by decide
        have t_x_7 : x_7.toInt = ((Vv 0) : Int32).toInt + (1 : Int32).toInt := by rw [ex_7]; exact add_toInt (by omega) (by omega)
        omega
      have hi_9 : (x_7 : Int32).toInt = (Vv 0).toInt + 1 := by
        have z_1 := Int32.le_iff_toInt_le.mp (Int32.not_lt.mp c_1)
        have z_2 := Int32.lt_iff_toInt_lt.mp (Int32.not_le.mp c_3)
        have y_0 : (0 : Int32).toInt = 0 := by decide
        have y_400 : (400 : Int32).toInt = 400 := by decide
        have y_1 : (1 : Int32).toInt = 1 := by decide
        have t_x_7 : x_7.toInt = ((Vv 0) : Int32).toInt + (1 : Int32).toInt := by rw [ex_7]; exact add_toInt (by omega) (by omega)
        omega
      exact retV hx hb hr hlk hP hD hS (x_7, g_6) ⟨rfl, ha_8, (CdK.put h_cd eg_6 hi_9)⟩ [0, 1] rfl rfl dX7_put_39 (Nat.le_of_ble_eq_true rfl) (Nat.le_of_ble_eq_true rfl) rfl
set_option maxRecDepth 100000 in
theorem cu_kX7_put (l : Launch) (D : va_G) (tc : Nat → ClassId) (sk : (Nat → Nat) × (Nat → Nat)) (Va_0 : Nat) (Va_1 : Nat) (Vv_0 : Int32) (Vv_1 : Int32) (Vf_1 : Nat → Int32) (x1 : Int32) (rr : Except Int (Nat × Nat)) (ll : List Int) (h_u : 0 ≤ (Vv_0 : Int32).toInt ∧ (Vv_0 : Int32).toInt ≤ 400) (h_cd : CdK Vf_1 Vv_0 rr ll) : Ct l yX7_put cX7_put 2 none { frames := 0, cells := 0, slots := 0, locals := 0 } D tc sk [.ref Va_0, .int x1] [(Va_0, .inr (7, [.ref Va_1, .int Vv_0, .int Vv_1])), (Va_1, .inl (tc 0, 400, .inl Vf_1))] (fun (v : Option Value) (u : (Int32) × (Nat → Int32)) => match u with | (oo0x1, oo0x2) => v = none ∧ (0 ≤ (oo0x1 : Int32).toInt ∧ (oo0x1 : Int32).toInt ≤ 400) ∧ (CdK oo0x2 oo0x1 rr (ll ++ [x1.toInt]))) (fun (u : (Int32) × (Nat → Int32)) => match u with | (oo0x1, oo0x2) => [(Va_0, .inr (7, [.ref Va_1, .int oo0x1, .int Vv_1])), (Va_1, .inl (tc 0, 400, .inl oo0x2))]) 0 0 :=
  ct_kX7_put l D tc sk (fun k => ([Va_0, Va_1] : List (Nat)).getD k 0) (fun k => ([Vv_0, Vv_1] : List (Int32)).getD k 0) (fun k => ([(fun _ => 0), Vf_1] : List (Nat → Int32)).getD k (fun _ => 0)) x1 rr ll h_u h_cd
set_option maxHeartbeats 4000000 in
set_option maxRecDepth 100000 in
theorem ct_kX7_arithmetic (l : Launch) (D : va_G) (tc : Nat → ClassId) (sk : (Nat → Nat) × (Nat → Nat)) (Ta : Nat → Nat) (Tv : Nat → Int32) (Tf : Nat → Nat → Int32) (h_tape : 0 ≤ ((Tv 0) : Int32).toInt ∧ ((Tv 0) : Int32).toInt ≤ 400 ∧ 0 ≤ ((Tv 1) : Int32).toInt ∧ ((Tv 1) : Int32).toInt ≤ 400 ∧ 0 ≤ ((Tv 2) : Int32).toInt ∧ ((Tv 2) : Int32).toInt ≤ 400) : Ct l yX7_arithmetic cX7_arithmetic 1 (some .int) { frames := 0, cells := 0, slots := 0, locals := 0 } D tc sk [.ref (Ta 0)] [((Ta 0), .inr (10, [.ref (Ta 1), .int (Tv 0), .int (Tv 1), .int (Tv 2), .int (Tv 3), .int (Tv 4)])), ((Ta 1), .inl (tc 0, 400, .inl (Tf 1)))] (fun (v : Option Value) (_ : Unit) => ∃ r : Int32, v = some (.int r) ∧ ((((r.toInt = -1 ∧ ¬ ((Tv 3).toInt = 43 ∨ (Tv 3).toInt = 45 ∨ (Tv 3).toInt = 42 ∨ (Tv 3).toInt = 47 ∨ (Tv 3).toInt = 37)) ∨ (r.toInt ≤ -12 ∧ ((Tv 3).toInt = 43 ∨ (Tv 3).toInt = 45 ∨ (Tv 3).toInt = 42 ∨ (Tv 3).toInt = 47 ∨ (Tv 3).toInt = 37))) ∧ r.toInt = ec_o (Tv 3).toInt))) (fun (_ : Unit) => [((Ta 0), .inr (10, [.ref (Ta 1), .int (Tv 0), .int (Tv 1), .int (Tv 2), .int (Tv 3), .int (Tv 4)])), ((Ta 1), .inl (tc 0, 400, .inl (Tf 1)))]) 0 0 := by
  refine Ct.start (by decide) (Nat.le_of_ble_eq_true rfl) (fun p e s m below meth c A ls hx hb hr hlk hin hml hown hts hK hX hP hD hA hl hS => ?_)
  have hl : lv_has ls 1 [(0, .ref (Ta 0))] := hl
  refine lv_aload_n hx hb dX7_arithmetic_0 rfl (lv_at hl 0 rfl) ?_
  refine gf_X7_86 hx hb hts hown hK hP 0 rfl rfl dX7_arithmetic_1 ?_
  refine lv_topi (fun x_1 ex_1 => ?_)
  by_cases c_2 : x_1 = 37
  · skip
    subst c_2
    have sw_c_2 := congrArg Int32.toInt ex_1
    have swy_c_2 : (37 : Int32).toInt = 37 := by decide
    refine lv_tableIn (off := 72) (tgt := 76) hx hb dX7_arithmetic_4 (by decide) (by decide) (by decide) (by decide) ?_
    refine lv_bipush (v := (-16)) hx hb dX7_arithmetic_76 (by decide) ?_
    have hp_3 : (((-16) : Int32).toInt = -1 ∧ ¬ ((Tv 3).toInt = 43 ∨ (Tv 3).toInt = 45 ∨ (Tv 3).toInt = 42 ∨ (Tv 3).toInt = 47 ∨ (Tv 3).toInt = 37)) ∨ (((-16) : Int32).toInt ≤ -12 ∧ ((Tv 3).toInt = 43 ∨ (Tv 3).toInt = 45 ∨ (Tv 3).toInt = 42 ∨ (Tv 3).toInt = 47 ∨ (Tv 3).toInt = 37)) := by
      have y_m16 : (-16 : Int32).toInt = -16 := by decide
      have yr : ((-16) : Int32).toInt = -16 := by decide
      omega
    have hp_4 : ((-16) : Int32).toInt = ec_o (Tv 3).toInt := by
      have hk : (Tv 3).toInt = 37 := by
        omega
      rw [hk]
      decide
    exact retI (v := (-16)) hx hb hr hlk (rfl) hP hD hS () ⟨_, rfl, ⟨hp_3, hp_4⟩⟩ [0, 1] rfl rfl dX7_arithmetic_78 (Nat.le_of_ble_eq_true rfl) (Nat.le_of_ble_eq_true rfl) rfl
  · skip
    by_cases c_5 : x_1 = 38
    · skip
      subst c_5
      have sw_c_5 := congrArg Int32.toInt ex_1
      have swy_c_5 : (38 : Int32).toInt = 38 := by decide
      refine lv_tableIn (off := 75) (tgt := 79) hx hb dX7_arithmetic_4 (by decide) (by decide) (by decide) (by decide) ?_
      refine lv_iconst (v := (-1)) hx hb dX7_arithmetic_79 (by decide) ?_
      have hp_6 : (((-1) : Int32).toInt = -1 ∧ ¬ ((Tv 3).toInt = 43 ∨ (Tv 3).toInt = 45 ∨ (Tv 3).toInt = 42 ∨ (Tv 3).toInt = 47 ∨ (Tv 3).toInt = 37)) ∨ (((-1) : Int32).toInt ≤ -12 ∧ ((Tv 3).toInt = 43 ∨ (Tv 3).toInt = 45 ∨ (Tv 3).toInt = 42 ∨ (Tv 3).toInt = 47 ∨ (Tv 3).toInt = 37)) := by
        have y_m1 : (-1 : Int32).toInt = -1 := by decide
        have yr : ((-1) : Int32).toInt = -1 := by decide
        omega
      have hp_7 : ((-1) : Int32).toInt = ec_o (Tv 3).toInt := by
        have yr : ((-1) : Int32).toInt = -1 := by decide
        have hz := hp_6
        have hq : ¬ ((Tv 3).toInt = 43 ∨ (Tv 3).toInt = 45 ∨ (Tv 3).toInt = 42 ∨ (Tv 3).toInt = 47 ∨ (Tv 3).toInt = 37) := by omega
        exact yr.trans (ec_o_no.mpr hq).symm
      exact retI (v := (-1)) hx hb hr hlk (rfl) hP hD hS () ⟨_, rfl, ⟨hp_6, hp_7⟩⟩ [0, 1] rfl rfl dX7_arithmetic_80 (Nat.le_of_ble_eq_true rfl) (Nat.le_of_ble_eq_true rfl) rfl
    · skip
      by_cases c_8 : x_1 = 39
      · skip
        subst c_8
        have sw_c_8 := congrArg Int32.toInt ex_1
        have swy_c_8 : (39 : Int32).toInt = 39 := by decide
        refine lv_tableIn (off := 75) (tgt := 79) hx hb dX7_arithmetic_4 (by decide) (by decide) (by decide) (by decide) ?_
        refine lv_iconst (v := (-1)) hx hb dX7_arithmetic_79 (by decide) ?_
        have hp_9 : (((-1) : Int32).toInt = -1 ∧ ¬ ((Tv 3).toInt = 43 ∨ (Tv 3).toInt = 45 ∨ (Tv 3).toInt = 42 ∨ (Tv 3).toInt = 47 ∨ (Tv 3).toInt = 37)) ∨ (((-1) : Int32).toInt ≤ -12 ∧ ((Tv 3).toInt = 43 ∨ (Tv 3).toInt = 45 ∨ (Tv 3).toInt = 42 ∨ (Tv 3).toInt = 47 ∨ (Tv 3).toInt = 37)) := by
          have y_m1 : (-1 : Int32).toInt = -1 := by decide
          have yr : ((-1) : Int32).toInt = -1 := by decide
          omega
        have hp_10 : ((-1) : Int32).toInt = ec_o (Tv 3).toInt := by
          have yr : ((-1) : Int32).toInt = -1 := by decide
          have hz := hp_9
          have hq : ¬ ((Tv 3).toInt = 43 ∨ (Tv 3).toInt = 45 ∨ (Tv 3).toInt = 42 ∨ (Tv 3).toInt = 47 ∨ (Tv 3).toInt = 37) := by omega
          exact yr.trans (ec_o_no.mpr hq).symm
        exact retI (v := (-1)) hx hb hr hlk (rfl) hP hD hS () ⟨_, rfl, ⟨hp_9, hp_10⟩⟩ [0, 1] rfl rfl dX7_arithmetic_80 (Nat.le_of_ble_eq_true rfl) (Nat.le_of_ble_eq_true rfl) rfl
      · skip
        by_cases c_11 : x_1 = 40
        · skip
          subst c_11
          have sw_c_11 := congrArg Int32.toInt ex_1
          have swy_c_11 : (40 : Int32).toInt = 40 := by decide
          refine lv_tableIn (off := 75) (tgt := 79) hx hb dX7_arithmetic_4 (by decide) (by decide) (by decide) (by decide) ?_
          refine lv_iconst (v := (-1)) hx hb dX7_arithmetic_79 (by decide) ?_
          have hp_12 : (((-1) : Int32).toInt = -1 ∧ ¬ ((Tv 3).toInt = 43 ∨ (Tv 3).toInt = 45 ∨ (Tv 3).toInt = 42 ∨ (Tv 3).toInt = 47 ∨ (Tv 3).toInt = 37)) ∨ (((-1) : Int32).toInt ≤ -12 ∧ ((Tv 3).toInt = 43 ∨ (Tv 3).toInt = 45 ∨ (Tv 3).toInt = 42 ∨ (Tv 3).toInt = 47 ∨ (Tv 3).toInt = 37)) := by
            have y_m1 : (-1 : Int32).toInt = -1 := by decide
            have yr : ((-1) : Int32).toInt = -1 := by decide
            omega
          have hp_13 : ((-1) : Int32).toInt = ec_o (Tv 3).toInt := by
            have yr : ((-1) : Int32).toInt = -1 := by decide
            have hz := hp_12
            have hq : ¬ ((Tv 3).toInt = 43 ∨ (Tv 3).toInt = 45 ∨ (Tv 3).toInt = 42 ∨ (Tv 3).toInt = 47 ∨ (Tv 3).toInt = 37) := by omega
            exact yr.trans (ec_o_no.mpr hq).symm
          exact retI (v := (-1)) hx hb hr hlk (rfl) hP hD hS () ⟨_, rfl, ⟨hp_12, hp_13⟩⟩ [0, 1] rfl rfl dX7_arithmetic_80 (Nat.le_of_ble_eq_true rfl) (Nat.le_of_ble_eq_true rfl) rfl
        · skip
          by_cases c_14 : x_1 = 41
          · skip
            subst c_14
            have sw_c_14 := congrArg Int32.toInt ex_1
            have swy_c_14 : (41 : Int32).toInt = 41 := by decide
            refine lv_tableIn (off := 75) (tgt := 79) hx hb dX7_arithmetic_4 (by decide) (by decide) (by decide) (by decide) ?_
            refine lv_iconst (v := (-1)) hx hb dX7_arithmetic_79 (by decide) ?_
            have hp_15 : (((-1) : Int32).toInt = -1 ∧ ¬ ((Tv 3).toInt = 43 ∨ (Tv 3).toInt = 45 ∨ (Tv 3).toInt = 42 ∨ (Tv 3).toInt = 47 ∨ (Tv 3).toInt = 37)) ∨ (((-1) : Int32).toInt ≤ -12 ∧ ((Tv 3).toInt = 43 ∨ (Tv 3).toInt = 45 ∨ (Tv 3).toInt = 42 ∨ (Tv 3).toInt = 47 ∨ (Tv 3).toInt = 37)) := by
              have y_m1 : (-1 : Int32).toInt = -1 := by decide
              have yr : ((-1) : Int32).toInt = -1 := by decide
              omega
            have hp_16 : ((-1) : Int32).toInt = ec_o (Tv 3).toInt := by
              have yr : ((-1) : Int32).toInt = -1 := by decide
              have hz := hp_15
              have hq : ¬ ((Tv 3).toInt = 43 ∨ (Tv 3).toInt = 45 ∨ (Tv 3).toInt = 42 ∨ (Tv 3).toInt = 47 ∨ (Tv 3).toInt = 37) := by omega
              exact yr.trans (ec_o_no.mpr hq).symm
            exact retI (v := (-1)) hx hb hr hlk (rfl) hP hD hS () ⟨_, rfl, ⟨hp_15, hp_16⟩⟩ [0, 1] rfl rfl dX7_arithmetic_80 (Nat.le_of_ble_eq_true rfl) (Nat.le_of_ble_eq_true rfl) rfl
          · skip
            by_cases c_17 : x_1 = 42
            · skip
              subst c_17
              have sw_c_17 := congrArg Int32.toInt ex_1
              have swy_c_17 : (42 : Int32).toInt = 42 := by decide
              refine lv_tableIn (off := 66) (tgt := 70) hx hb dX7_arithmetic_4 (by decide) (by decide) (by decide) (by decide) ?_
              refine lv_bipush (v := (-14)) hx hb dX7_arithmetic_70 (by decide) ?_
              have hp_18 : (((-14) : Int32).toInt = -1 ∧ ¬ ((Tv 3).toInt = 43 ∨ (Tv 3).toInt = 45 ∨ (Tv 3).toInt = 42 ∨ (Tv 3).toInt = 47 ∨ (Tv 3).toInt = 37)) ∨ (((-14) : Int32).toInt ≤ -12 ∧ ((Tv 3).toInt = 43 ∨ (Tv 3).toInt = 45 ∨ (Tv 3).toInt = 42 ∨ (Tv 3).toInt = 47 ∨ (Tv 3).toInt = 37)) := by
                have y_m14 : (-14 : Int32).toInt = -14 := by decide
                have yr : ((-14) : Int32).toInt = -14 := by decide
                omega
              have hp_19 : ((-14) : Int32).toInt = ec_o (Tv 3).toInt := by
                have hk : (Tv 3).toInt = 42 := by
                  omega
                rw [hk]
                decide
              exact retI (v := (-14)) hx hb hr hlk (rfl) hP hD hS () ⟨_, rfl, ⟨hp_18, hp_19⟩⟩ [0, 1] rfl rfl dX7_arithmetic_72 (Nat.le_of_ble_eq_true rfl) (Nat.le_of_ble_eq_true rfl) rfl
            · skip
              by_cases c_20 : x_1 = 43
              · skip
                subst c_20
                have sw_c_20 := congrArg Int32.toInt ex_1
                have swy_c_20 : (43 : Int32).toInt = 43 := by decide
                refine lv_tableIn (off := 60) (tgt := 64) hx hb dX7_arithmetic_4 (by decide) (by decide) (by decide) (by decide) ?_
                refine lv_bipush (v := (-12)) hx hb dX7_arithmetic_64 (by decide) ?_
                have hp_21 : (((-12) : Int32).toInt = -1 ∧ ¬ ((Tv 3).toInt = 43 ∨ (Tv 3).toInt = 45 ∨ (Tv 3).toInt = 42 ∨ (Tv 3).toInt = 47 ∨ (Tv 3).toInt = 37)) ∨ (((-12) : Int32).toInt ≤ -12 ∧ ((Tv 3).toInt = 43 ∨ (Tv 3).toInt = 45 ∨ (Tv 3).toInt = 42 ∨ (Tv 3).toInt = 47 ∨ (Tv 3).toInt = 37)) := by
                  have y_m12 : (-12 : Int32).toInt = -12 := by decide
                  have yr : ((-12) : Int32).toInt = -12 := by decide
                  omega
                have hp_22 : ((-12) : Int32).toInt = ec_o (Tv 3).toInt := by
                  have hk : (Tv 3).toInt = 43 := by
                    omega
                  rw [hk]
                  decide
                exact retI (v := (-12)) hx hb hr hlk (rfl) hP hD hS () ⟨_, rfl, ⟨hp_21, hp_22⟩⟩ [0, 1] rfl rfl dX7_arithmetic_66 (Nat.le_of_ble_eq_true rfl) (Nat.le_of_ble_eq_true rfl) rfl
              · skip
                by_cases c_23 : x_1 = 44
                · skip
                  subst c_23
                  have sw_c_23 := congrArg Int32.toInt ex_1
                  have swy_c_23 : (44 : Int32).toInt = 44 := by decide
                  refine lv_tableIn (off := 75) (tgt := 79) hx hb dX7_arithmetic_4 (by decide) (by decide) (by decide) (by decide) ?_
                  refine lv_iconst (v := (-1)) hx hb dX7_arithmetic_79 (by decide) ?_
                  have hp_24 : (((-1) : Int32).toInt = -1 ∧ ¬ ((Tv 3).toInt = 43 ∨ (Tv 3).toInt = 45 ∨ (Tv 3).toInt = 42 ∨ (Tv 3).toInt = 47 ∨ (Tv 3).toInt = 37)) ∨ (((-1) : Int32).toInt ≤ -12 ∧ ((Tv 3).toInt = 43 ∨ (Tv 3).toInt = 45 ∨ (Tv 3).toInt = 42 ∨ (Tv 3).toInt = 47 ∨ (Tv 3).toInt = 37)) := by
                    have y_m1 : (-1 : Int32).toInt = -1 := by decide
                    have yr : ((-1) : Int32).toInt = -1 := by decide
                    omega
                  have hp_25 : ((-1) : Int32).toInt = ec_o (Tv 3).toInt := by
                    have yr : ((-1) : Int32).toInt = -1 := by decide
                    have hz := hp_24
                    have hq : ¬ ((Tv 3).toInt = 43 ∨ (Tv 3).toInt = 45 ∨ (Tv 3).toInt = 42 ∨ (Tv 3).toInt = 47 ∨ (Tv 3).toInt = 37) := by omega
                    exact yr.trans (ec_o_no.mpr hq).symm
                  exact retI (v := (-1)) hx hb hr hlk (rfl) hP hD hS () ⟨_, rfl, ⟨hp_24, hp_25⟩⟩ [0, 1] rfl rfl dX7_arithmetic_80 (Nat.le_of_ble_eq_true rfl) (Nat.le_of_ble_eq_true rfl) rfl
                · skip
                  by_cases c_26 : x_1 = 45
                  · skip
                    subst c_26
                    have sw_c_26 := congrArg Int32.toInt ex_1
                    have swy_c_26 : (45 : Int32).toInt = 45 := by decide
                    refine lv_tableIn (off := 63) (tgt := 67) hx hb dX7_arithmetic_4 (by decide) (by decide) (by decide) (by decide) ?_
                    refine lv_bipush (v := (-13)) hx hb dX7_arithmetic_67 (by decide) ?_
                    have hp_27 : (((-13) : Int32).toInt = -1 ∧ ¬ ((Tv 3).toInt = 43 ∨ (Tv 3).toInt = 45 ∨ (Tv 3).toInt = 42 ∨ (Tv 3).toInt = 47 ∨ (Tv 3).toInt = 37)) ∨ (((-13) : Int32).toInt ≤ -12 ∧ ((Tv 3).toInt = 43 ∨ (Tv 3).toInt = 45 ∨ (Tv 3).toInt = 42 ∨ (Tv 3).toInt = 47 ∨ (Tv 3).toInt = 37)) := by
                      have y_m13 : (-13 : Int32).toInt = -13 := by decide
                      have yr : ((-13) : Int32).toInt = -13 := by decide
                      omega
                    have hp_28 : ((-13) : Int32).toInt = ec_o (Tv 3).toInt := by
                      have hk : (Tv 3).toInt = 45 := by
                        omega
                      rw [hk]
                      decide
                    exact retI (v := (-13)) hx hb hr hlk (rfl) hP hD hS () ⟨_, rfl, ⟨hp_27, hp_28⟩⟩ [0, 1] rfl rfl dX7_arithmetic_69 (Nat.le_of_ble_eq_true rfl) (Nat.le_of_ble_eq_true rfl) rfl
                  · skip
                    by_cases c_29 : x_1 = 46
                    · skip
                      subst c_29
                      have sw_c_29 := congrArg Int32.toInt ex_1
                      have swy_c_29 : (46 : Int32).toInt = 46 := by decide
                      refine lv_tableIn (off := 75) (tgt := 79) hx hb dX7_arithmetic_4 (by decide) (by decide) (by decide) (by decide) ?_
                      refine lv_iconst (v := (-1)) hx hb dX7_arithmetic_79 (by decide) ?_
                      have hp_30 : (((-1) : Int32).toInt = -1 ∧ ¬ ((Tv 3).toInt = 43 ∨ (Tv 3).toInt = 45 ∨ (Tv 3).toInt = 42 ∨ (Tv 3).toInt = 47 ∨ (Tv 3).toInt = 37)) ∨ (((-1) : Int32).toInt ≤ -12 ∧ ((Tv 3).toInt = 43 ∨ (Tv 3).toInt = 45 ∨ (Tv 3).toInt = 42 ∨ (Tv 3).toInt = 47 ∨ (Tv 3).toInt = 37)) := by
                        have y_m1 : (-1 : Int32).toInt = -1 := by decide
                        have yr : ((-1) : Int32).toInt = -1 := by decide
                        omega
                      have hp_31 : ((-1) : Int32).toInt = ec_o (Tv 3).toInt := by
                        have yr : ((-1) : Int32).toInt = -1 := by decide
                        have hz := hp_30
                        have hq : ¬ ((Tv 3).toInt = 43 ∨ (Tv 3).toInt = 45 ∨ (Tv 3).toInt = 42 ∨ (Tv 3).toInt = 47 ∨ (Tv 3).toInt = 37) := by omega
                        exact yr.trans (ec_o_no.mpr hq).symm
                      exact retI (v := (-1)) hx hb hr hlk (rfl) hP hD hS () ⟨_, rfl, ⟨hp_30, hp_31⟩⟩ [0, 1] rfl rfl dX7_arithmetic_80 (Nat.le_of_ble_eq_true rfl) (Nat.le_of_ble_eq_true rfl) rfl
                    · skip
                      by_cases c_32 : x_1 = 47
                      · skip
                        subst c_32
                        have sw_c_32 := congrArg Int32.toInt ex_1
                        have swy_c_32 : (47 : Int32).toInt = 47 := by decide
                        refine lv_tableIn (off := 69) (tgt := 73) hx hb dX7_arithmetic_4 (by decide) (by decide) (by decide) (by decide) ?_
                        refine lv_bipush (v := (-15)) hx hb dX7_arithmetic_73 (by decide) ?_
                        have hp_33 : (((-15) : Int32).toInt = -1 ∧ ¬ ((Tv 3).toInt = 43 ∨ (Tv 3).toInt = 45 ∨ (Tv 3).toInt = 42 ∨ (Tv 3).toInt = 47 ∨ (Tv 3).toInt = 37)) ∨ (((-15) : Int32).toInt ≤ -12 ∧ ((Tv 3).toInt = 43 ∨ (Tv 3).toInt = 45 ∨ (Tv 3).toInt = 42 ∨ (Tv 3).toInt = 47 ∨ (Tv 3).toInt = 37)) := by
                          have y_m15 : (-15 : Int32).toInt = -15 := by decide
                          have yr : ((-15) : Int32).toInt = -15 := by decide
                          omega
                        have hp_34 : ((-15) : Int32).toInt = ec_o (Tv 3).toInt := by
                          have hk : (Tv 3).toInt = 47 := by
                            omega
                          rw [hk]
                          decide
                        exact retI (v := (-15)) hx hb hr hlk (rfl) hP hD hS () ⟨_, rfl, ⟨hp_33, hp_34⟩⟩ [0, 1] rfl rfl dX7_arithmetic_75 (Nat.le_of_ble_eq_true rfl) (Nat.le_of_ble_eq_true rfl) rfl
                      · skip
                        have swo := congrArg Int32.toInt ex_1
                        have ho_35 : (x_1 : Int32).toInt < 37 ∨ 47 < (x_1 : Int32).toInt := by
                          have z_1 : ¬ (x_1 : Int32).toInt = (37 : Int32).toInt := fun z => c_2 (Int32.toInt_inj.mp z)
                          have z_2 : ¬ (x_1 : Int32).toInt = (38 : Int32).toInt := fun z => c_5 (Int32.toInt_inj.mp z)
                          have z_3 : ¬ (x_1 : Int32).toInt = (39 : Int32).toInt := fun z => c_8 (Int32.toInt_inj.mp z)
                          have z_4 : ¬ (x_1 : Int32).toInt = (40 : Int32).toInt := fun z => c_11 (Int32.toInt_inj.mp z)
                          have z_5 : ¬ (x_1 : Int32).toInt = (41 : Int32).toInt := fun z => c_14 (Int32.toInt_inj.mp z)
                          have z_6 : ¬ (x_1 : Int32).toInt = (42 : Int32).toInt := fun z => c_17 (Int32.toInt_inj.mp z)
                          have z_7 : ¬ (x_1 : Int32).toInt = (43 : Int32).toInt := fun z => c_20 (Int32.toInt_inj.mp z)
                          have z_8 : ¬ (x_1 : Int32).toInt = (44 : Int32).toInt := fun z => c_23 (Int32.toInt_inj.mp z)
                          have z_9 : ¬ (x_1 : Int32).toInt = (45 : Int32).toInt := fun z => c_26 (Int32.toInt_inj.mp z)
                          have z_10 : ¬ (x_1 : Int32).toInt = (46 : Int32).toInt := fun z => c_29 (Int32.toInt_inj.mp z)
                          have z_11 : ¬ (x_1 : Int32).toInt = (47 : Int32).toInt := fun z => c_32 (Int32.toInt_inj.mp z)
                          have y_37 : (37 : Int32).toInt = 37 := by decide
                          have y_38 : (38 : Int32).toInt = 38 := by decide
                          have y_39 : (39 : Int32).toInt = 39 := by decide
                          have y_40 : (40 : Int32).toInt = 40 := by decide
                          have y_41 : (41 : Int32).toInt = 41 := by decide
                          have y_42 : (42 : Int32).toInt = 42 := by decide
                          have y_43 : (43 : Int32).toInt = 43 := by decide
                          have y_44 : (44 : Int32).toInt = 44 := by decide
                          have y_45 : (45 : Int32).toInt = 45 := by decide
                          have y_46 : (46 : Int32).toInt = 46 := by decide
                          have y_47 : (47 : Int32).toInt = 47 := by decide
                          omega
                        refine lv_tableOut (tgt := 79) hx hb dX7_arithmetic_4 ho_35 (by decide) ?_
                        refine lv_iconst (v := (-1)) hx hb dX7_arithmetic_79 (by decide) ?_
                        have hp_36 : (((-1) : Int32).toInt = -1 ∧ ¬ ((Tv 3).toInt = 43 ∨ (Tv 3).toInt = 45 ∨ (Tv 3).toInt = 42 ∨ (Tv 3).toInt = 47 ∨ (Tv 3).toInt = 37)) ∨ (((-1) : Int32).toInt ≤ -12 ∧ ((Tv 3).toInt = 43 ∨ (Tv 3).toInt = 45 ∨ (Tv 3).toInt = 42 ∨ (Tv 3).toInt = 47 ∨ (Tv 3).toInt = 37)) := by
                          have z_1 : ¬ (x_1 : Int32).toInt = (37 : Int32).toInt := fun z => c_2 (Int32.toInt_inj.mp z)
                          have z_2 : ¬ (x_1 : Int32).toInt = (38 : Int32).toInt := fun z => c_5 (Int32.toInt_inj.mp z)
                          have z_3 : ¬ (x_1 : Int32).toInt = (39 : Int32).toInt := fun z => c_8 (Int32.toInt_inj.mp z)
                          have z_4 : ¬ (x_1 : Int32).toInt = (40 : Int32).toInt := fun z => c_11 (Int32.toInt_inj.mp z)
                          have z_5 : ¬ (x_1 : Int32).toInt = (41 : Int32).toInt := fun z => c_14 (Int32.toInt_inj.mp z)
                          have z_6 : ¬ (x_1 : Int32).toInt = (42 : Int32).toInt := fun z => c_17 (Int32.toInt_inj.mp z)
                          have z_7 : ¬ (x_1 : Int32).toInt = (43 : Int32).toInt := fun z => c_20 (Int32.toInt_inj.mp z)
                          have z_8 : ¬ (x_1 : Int32).toInt = (44 : Int32).toInt := fun z => c_23 (Int32.toInt_inj.mp z)
                          have z_9 : ¬ (x_1 : Int32).toInt = (45 : Int32).toInt := fun z => c_26 (Int32.toInt_inj.mp z)
                          have z_10 : ¬ (x_1 : Int32).toInt = (46 : Int32).toInt := fun z => c_29 (Int32.toInt_inj.mp z)
                          have z_11 : ¬ (x_1 : Int32).toInt = (47 : Int32).toInt := fun z => c_32 (Int32.toInt_inj.mp z)
                          have y_37 : (37 : Int32).toInt = 37 := by decide
                          have y_38 : (38 : Int32).toInt = 38 := by decide
                          have y_39 : (39 : Int32).toInt = 39 := by decide
                          have y_40 : (40 : Int32).toInt = 40 := by decide
                          have y_41 : (41 : Int32).toInt = 41 := by decide
                          have y_42 : (42 : Int32).toInt = 42 := by decide
                          have y_43 : (43 : Int32).toInt = 43 := by decide
                          have y_44 : (44 : Int32).toInt = 44 := by decide
                          have y_45 : (45 : Int32).toInt = 45 := by decide
                          have y_46 : (46 : Int32).toInt = 46 := by decide
                          have y_47 : (47 : Int32).toInt = 47 := by decide
                          have y_m1 : (-1 : Int32).toInt = -1 := by decide
                          have yr : ((-1) : Int32).toInt = -1 := by decide
                          omega
                        have hp_37 : ((-1) : Int32).toInt = ec_o (Tv 3).toInt := by
                          have yr : ((-1) : Int32).toInt = -1 := by decide
                          have hz := hp_36
                          have hq : ¬ ((Tv 3).toInt = 43 ∨ (Tv 3).toInt = 45 ∨ (Tv 3).toInt = 42 ∨ (Tv 3).toInt = 47 ∨ (Tv 3).toInt = 37) := by omega
                          exact yr.trans (ec_o_no.mpr hq).symm
                        exact retI (v := (-1)) hx hb hr hlk (rfl) hP hD hS () ⟨_, rfl, ⟨hp_36, hp_37⟩⟩ [0, 1] rfl rfl dX7_arithmetic_80 (Nat.le_of_ble_eq_true rfl) (Nat.le_of_ble_eq_true rfl) rfl
set_option maxRecDepth 100000 in
theorem cu_kX7_arithmetic (l : Launch) (D : va_G) (tc : Nat → ClassId) (sk : (Nat → Nat) × (Nat → Nat)) (Ta_0 : Nat) (Ta_1 : Nat) (Tv_0 : Int32) (Tv_1 : Int32) (Tv_2 : Int32) (Tv_3 : Int32) (Tv_4 : Int32) (Tf_1 : Nat → Int32) (h_tape : 0 ≤ (Tv_0 : Int32).toInt ∧ (Tv_0 : Int32).toInt ≤ 400 ∧ 0 ≤ (Tv_1 : Int32).toInt ∧ (Tv_1 : Int32).toInt ≤ 400 ∧ 0 ≤ (Tv_2 : Int32).toInt ∧ (Tv_2 : Int32).toInt ≤ 400) : Ct l yX7_arithmetic cX7_arithmetic 1 (some .int) { frames := 0, cells := 0, slots := 0, locals := 0 } D tc sk [.ref Ta_0] [(Ta_0, .inr (10, [.ref Ta_1, .int Tv_0, .int Tv_1, .int Tv_2, .int Tv_3, .int Tv_4])), (Ta_1, .inl (tc 0, 400, .inl Tf_1))] (fun (v : Option Value) (_ : Unit) => ∃ r : Int32, v = some (.int r) ∧ ((((r.toInt = -1 ∧ ¬ (Tv_3.toInt = 43 ∨ Tv_3.toInt = 45 ∨ Tv_3.toInt = 42 ∨ Tv_3.toInt = 47 ∨ Tv_3.toInt = 37)) ∨ (r.toInt ≤ -12 ∧ (Tv_3.toInt = 43 ∨ Tv_3.toInt = 45 ∨ Tv_3.toInt = 42 ∨ Tv_3.toInt = 47 ∨ Tv_3.toInt = 37))) ∧ r.toInt = ec_o Tv_3.toInt))) (fun (_ : Unit) => [(Ta_0, .inr (10, [.ref Ta_1, .int Tv_0, .int Tv_1, .int Tv_2, .int Tv_3, .int Tv_4])), (Ta_1, .inl (tc 0, 400, .inl Tf_1))]) 0 0 :=
  ct_kX7_arithmetic l D tc sk (fun k => ([Ta_0, Ta_1] : List (Nat)).getD k 0) (fun k => ([Tv_0, Tv_1, Tv_2, Tv_3, Tv_4] : List (Int32)).getD k 0) (fun k => ([(fun _ => 0), Tf_1] : List (Nat → Int32)).getD k (fun _ => 0)) h_tape
set_option maxHeartbeats 4000000 in
set_option maxRecDepth 100000 in
theorem ct_kX7_comparison (l : Launch) (D : va_G) (tc : Nat → ClassId) (sk : (Nat → Nat) × (Nat → Nat)) (Ta : Nat → Nat) (Tv : Nat → Int32) (Tf : Nat → Nat → Int32) (h_tape : 0 ≤ ((Tv 0) : Int32).toInt ∧ ((Tv 0) : Int32).toInt ≤ 400 ∧ 0 ≤ ((Tv 1) : Int32).toInt ∧ ((Tv 1) : Int32).toInt ≤ 400 ∧ 0 ≤ ((Tv 2) : Int32).toInt ∧ ((Tv 2) : Int32).toInt ≤ 400) : Ct l yX7_comparison cX7_comparison 2 (some .int) { frames := 0, cells := 0, slots := 0, locals := 0 } D tc sk [.ref (Ta 0)] [((Ta 0), .inr (10, [.ref (Ta 1), .int (Tv 0), .int (Tv 1), .int (Tv 2), .int (Tv 3), .int (Tv 4)])), ((Ta 1), .inl (tc 0, 400, .inl (Tf 1)))] (fun (v : Option Value) (_ : Unit) => ∃ r : Int32, v = some (.int r) ∧ ((((r.toInt = -1 ∧ ¬ (60 ≤ (Tv 3).toInt ∧ (Tv 3).toInt ≤ 62)) ∨ (r.toInt ≤ -7 ∧ 60 ≤ (Tv 3).toInt ∧ (Tv 3).toInt ≤ 62)) ∧ ((60 ≤ (Tv 3).toInt ∧ (Tv 3).toInt ≤ 62) → r.toInt = ec_cc (Tv 3).toInt ((Tv 2).toInt - (Tv 1).toInt))))) (fun (_ : Unit) => [((Ta 0), .inr (10, [.ref (Ta 1), .int (Tv 0), .int (Tv 1), .int (Tv 2), .int (Tv 3), .int (Tv 4)])), ((Ta 1), .inl (tc 0, 400, .inl (Tf 1)))]) 0 0 := by
  refine Ct.start (by decide) (Nat.le_of_ble_eq_true rfl) (fun p e s m below meth c A ls hx hb hr hlk hin hml hown hts hK hX hP hD hA hl hS => ?_)
  have hl : lv_has ls 2 [(0, .ref (Ta 0))] := hl
  refine lv_aload_n hx hb dX7_comparison_0 rfl (lv_at hl 0 rfl) ?_
  refine gf_X7_118 hx hb hts hown hK hP 0 rfl rfl dX7_comparison_1 ?_
  refine lv_aload_n hx hb dX7_comparison_4 rfl (lv_at hl 0 rfl) ?_
  refine gf_X7_121 hx hb hts hown hK hP 0 rfl rfl dX7_comparison_5 ?_
  refine lv_isub hx hb dX7_comparison_8 ?_
  refine lv_topi (fun x_1 ex_1 => ?_)
  refine lv_iconst (v := 2) hx hb dX7_comparison_9 (by decide) ?_
  refine lv_icmp_ne (tgt := 17) hx hb dX7_comparison_10 (by decide) (fun c_2 => ?_) (fun c_2 => ?_)
  · skip
    refine lv_iconst (v := 0) hx hb dX7_comparison_17 (by decide) ?_
    refine lv_istore_n (lv' := [(1, .int 0), (0, .ref (Ta 0))]) hx hb dX7_comparison_18 rfl hl (by decide) rfl (fun ls hl₀ => ?_)
    replace hl := hl₀
    clear hl₀
    refine lv_aload_n hx hb dX7_comparison_19 rfl (lv_at hl 1 rfl) ?_
    refine gf_X7_86 hx hb hts hown hK hP 0 rfl rfl dX7_comparison_20 ?_
    refine lv_topi (fun x_3 ex_3 => ?_)
    by_cases c_4 : x_3 = 60
    · skip
      subst c_4
      have sw_c_4 := congrArg Int32.toInt ex_3
      have swy_c_4 : (60 : Int32).toInt = 60 := by decide
      refine lv_tableIn (off := 25) (tgt := 48) hx hb dX7_comparison_23 (by decide) (by decide) (by decide) (by decide) ?_
      refine lv_iload_n hx hb dX7_comparison_48 rfl (lv_at hl 0 rfl) ?_
      refine lv_if_eq (tgt := 57) hx hb dX7_comparison_49 (by decide) (fun c_5 => ?_) (fun c_5 => absurd c_5 (by decide))
      refine lv_bipush (v := (-7)) hx hb dX7_comparison_57 (by decide) ?_
      have hp_6 : (((-7) : Int32).toInt = -1 ∧ ¬ (60 ≤ (Tv 3).toInt ∧ (Tv 3).toInt ≤ 62)) ∨ (((-7) : Int32).toInt ≤ -7 ∧ 60 ≤ (Tv 3).toInt ∧ (Tv 3).toInt ≤ 62) := by
        have z_1 : ¬ (x_1 : Int32).toInt = (2 : Int32).toInt := fun z => c_2 (Int32.toInt_inj.mp z)
        have y_2 : (2 : Int32).toInt = 2 := by decide
        have y_m7 : (-7 : Int32).toInt = -7 := by decide
        have t_x_1 : x_1.toInt = ((Tv 2) : Int32).toInt - ((Tv 1) : Int32).toInt := by rw [ex_1]; exact sub_toInt (by omega) (by omega)
        have yr : ((-7) : Int32).toInt = -7 := by decide
        omega
      have hp_7 : (60 ≤ (Tv 3).toInt ∧ (Tv 3).toInt ≤ 62) → ((-7) : Int32).toInt = ec_cc (Tv 3).toInt ((Tv 2).toInt - (Tv 1).toInt) := by
        intro hz
        have hk : (Tv 3).toInt = 60 := by
          have z_1 : ¬ (x_1 : Int32).toInt = (2 : Int32).toInt := fun z => c_2 (Int32.toInt_inj.mp z)
          have y_2 : (2 : Int32).toInt = 2 := by decide
          have t_x_1 : x_1.toInt = ((Tv 2) : Int32).toInt - ((Tv 1) : Int32).toInt := by rw [ex_1]; exact sub_toInt (by omega) (by omega)
          omega
        have yr : ((-7) : Int32).toInt = -7 := by decide
        unfold ec_cc
        rw [hk, yr]
        have hd : ¬ ((Tv 2).toInt - (Tv 1).toInt = 2) := by
          have z_1 : ¬ (x_1 : Int32).toInt = (2 : Int32).toInt := fun z => c_2 (Int32.toInt_inj.mp z)
          have y_2 : (2 : Int32).toInt = 2 := by decide
          have t_x_1 : x_1.toInt = ((Tv 2) : Int32).toInt - ((Tv 1) : Int32).toInt := by rw [ex_1]; exact sub_toInt (by omega) (by omega)
          omega
        simp only [if_neg hd]
        try decide
      exact retI (v := (-7)) hx hb hr hlk (rfl) hP hD hS () ⟨_, rfl, ⟨hp_6, hp_7⟩⟩ [0, 1] rfl rfl dX7_comparison_59 (Nat.le_of_ble_eq_true rfl) (Nat.le_of_ble_eq_true rfl) rfl
    · skip
      by_cases c_8 : x_3 = 61
      · skip
        subst c_8
        have sw_c_8 := congrArg Int32.toInt ex_3
        have swy_c_8 : (61 : Int32).toInt = 61 := by decide
        refine lv_tableIn (off := 37) (tgt := 60) hx hb dX7_comparison_23 (by decide) (by decide) (by decide) (by decide) ?_
        refine lv_bipush (v := (-9)) hx hb dX7_comparison_60 (by decide) ?_
        have hp_9 : (((-9) : Int32).toInt = -1 ∧ ¬ (60 ≤ (Tv 3).toInt ∧ (Tv 3).toInt ≤ 62)) ∨ (((-9) : Int32).toInt ≤ -7 ∧ 60 ≤ (Tv 3).toInt ∧ (Tv 3).toInt ≤ 62) := by
          have z_1 : ¬ (x_1 : Int32).toInt = (2 : Int32).toInt := fun z => c_2 (Int32.toInt_inj.mp z)
          have y_2 : (2 : Int32).toInt = 2 := by decide
          have y_m9 : (-9 : Int32).toInt = -9 := by decide
          have t_x_1 : x_1.toInt = ((Tv 2) : Int32).toInt - ((Tv 1) : Int32).toInt := by rw [ex_1]; exact sub_toInt (by omega) (by omega)
          have yr : ((-9) : Int32).toInt = -9 := by decide
          omega
        have hp_10 : (60 ≤ (Tv 3).toInt ∧ (Tv 3).toInt ≤ 62) → ((-9) : Int32).toInt = ec_cc (Tv 3).toInt ((Tv 2).toInt - (Tv 1).toInt) := by
          intro hz
          have hk : (Tv 3).toInt = 61 := by
            have z_1 : ¬ (x_1 : Int32).toInt = (2 : Int32).toInt := fun z => c_2 (Int32.toInt_inj.mp z)
            have y_2 : (2 : Int32).toInt = 2 := by decide
            have t_x_1 : x_1.toInt = ((Tv 2) : Int32).toInt - ((Tv 1) : Int32).toInt := by rw [ex_1]; exact sub_toInt (by omega) (by omega)
            omega
          have yr : ((-9) : Int32).toInt = -9 := by decide
          unfold ec_cc
          rw [hk, yr]
          rw [if_neg (show ¬ (61 : Int) = 60 by decide), if_pos (show (61 : Int) = 61 from rfl)]
        exact retI (v := (-9)) hx hb hr hlk (rfl) hP hD hS () ⟨_, rfl, ⟨hp_9, hp_10⟩⟩ [0, 1] rfl rfl dX7_comparison_62 (Nat.le_of_ble_eq_true rfl) (Nat.le_of_ble_eq_true rfl) rfl
      · skip
        by_cases c_11 : x_3 = 62
        · skip
          subst c_11
          have sw_c_11 := congrArg Int32.toInt ex_3
          have swy_c_11 : (62 : Int32).toInt = 62 := by decide
          refine lv_tableIn (off := 40) (tgt := 63) hx hb dX7_comparison_23 (by decide) (by decide) (by decide) (by decide) ?_
          refine lv_iload_n hx hb dX7_comparison_63 rfl (lv_at hl 0 rfl) ?_
          refine lv_if_eq (tgt := 72) hx hb dX7_comparison_64 (by decide) (fun c_12 => ?_) (fun c_12 => absurd c_12 (by decide))
          refine lv_bipush (v := (-11)) hx hb dX7_comparison_72 (by decide) ?_
          have hp_13 : (((-11) : Int32).toInt = -1 ∧ ¬ (60 ≤ (Tv 3).toInt ∧ (Tv 3).toInt ≤ 62)) ∨ (((-11) : Int32).toInt ≤ -7 ∧ 60 ≤ (Tv 3).toInt ∧ (Tv 3).toInt ≤ 62) := by
            have z_1 : ¬ (x_1 : Int32).toInt = (2 : Int32).toInt := fun z => c_2 (Int32.toInt_inj.mp z)
            have y_2 : (2 : Int32).toInt = 2 := by decide
            have y_m11 : (-11 : Int32).toInt = -11 := by decide
            have t_x_1 : x_1.toInt = ((Tv 2) : Int32).toInt - ((Tv 1) : Int32).toInt := by rw [ex_1]; exact sub_toInt (by omega) (by omega)
            have yr : ((-11) : Int32).toInt = -11 := by decide
            omega
          have hp_14 : (60 ≤ (Tv 3).toInt ∧ (Tv 3).toInt ≤ 62) → ((-11) : Int32).toInt = ec_cc (Tv 3).toInt ((Tv 2).toInt - (Tv 1).toInt) := by
            intro hz
            have hk : (Tv 3).toInt = 62 := by
              have z_1 : ¬ (x_1 : Int32).toInt = (2 : Int32).toInt := fun z => c_2 (Int32.toInt_inj.mp z)
              have y_2 : (2 : Int32).toInt = 2 := by decide
              have t_x_1 : x_1.toInt = ((Tv 2) : Int32).toInt - ((Tv 1) : Int32).toInt := by rw [ex_1]; exact sub_toInt (by omega) (by omega)
              omega
            have yr : ((-11) : Int32).toInt = -11 := by decide
            unfold ec_cc
            rw [hk, yr]
            have hd : ¬ ((Tv 2).toInt - (Tv 1).toInt = 2) := by
              have z_1 : ¬ (x_1 : Int32).toInt = (2 : Int32).toInt := fun z => c_2 (Int32.toInt_inj.mp z)
              have y_2 : (2 : Int32).toInt = 2 := by decide
              have t_x_1 : x_1.toInt = ((Tv 2) : Int32).toInt - ((Tv 1) : Int32).toInt := by rw [ex_1]; exact sub_toInt (by omega) (by omega)
              omega
            simp only [if_neg hd]
            try decide
          exact retI (v := (-11)) hx hb hr hlk (rfl) hP hD hS () ⟨_, rfl, ⟨hp_13, hp_14⟩⟩ [0, 1] rfl rfl dX7_comparison_74 (Nat.le_of_ble_eq_true rfl) (Nat.le_of_ble_eq_true rfl) rfl
        · skip
          have swo := congrArg Int32.toInt ex_3
          have ho_15 : (x_3 : Int32).toInt < 60 ∨ 62 < (x_3 : Int32).toInt := by
            have z_1 : ¬ (x_1 : Int32).toInt = (2 : Int32).toInt := fun z => c_2 (Int32.toInt_inj.mp z)
            have z_2 : ¬ (x_3 : Int32).toInt = (60 : Int32).toInt := fun z => c_4 (Int32.toInt_inj.mp z)
            have z_3 : ¬ (x_3 : Int32).toInt = (61 : Int32).toInt := fun z => c_8 (Int32.toInt_inj.mp z)
            have z_4 : ¬ (x_3 : Int32).toInt = (62 : Int32).toInt := fun z => c_11 (Int32.toInt_inj.mp z)
            have y_2 : (2 : Int32).toInt = 2 := by decide
            have y_60 : (60 : Int32).toInt = 60 := by decide
            have y_61 : (61 : Int32).toInt = 61 := by decide
            have y_62 : (62 : Int32).toInt = 62 := by decide
            have t_x_1 : x_1.toInt = ((Tv 2) : Int32).toInt - ((Tv 1) : Int32).toInt := by rw [ex_1]; exact sub_toInt (by omega) (by omega)
            omega
          refine lv_tableOut (tgt := 75) hx hb dX7_comparison_23 ho_15 (by decide) ?_
          refine lv_iconst (v := (-1)) hx hb dX7_comparison_75 (by decide) ?_
          have hp_16 : (((-1) : Int32).toInt = -1 ∧ ¬ (60 ≤ (Tv 3).toInt ∧ (Tv 3).toInt ≤ 62)) ∨ (((-1) : Int32).toInt ≤ -7 ∧ 60 ≤ (Tv 3).toInt ∧ (Tv 3).toInt ≤ 62) := by
            have z_1 : ¬ (x_1 : Int32).toInt = (2 : Int32).toInt := fun z => c_2 (Int32.toInt_inj.mp z)
            have z_2 : ¬ (x_3 : Int32).toInt = (60 : Int32).toInt := fun z => c_4 (Int32.toInt_inj.mp z)
            have z_3 : ¬ (x_3 : Int32).toInt = (61 : Int32).toInt := fun z => c_8 (Int32.toInt_inj.mp z)
            have z_4 : ¬ (x_3 : Int32).toInt = (62 : Int32).toInt := fun z => c_11 (Int32.toInt_inj.mp z)
            have y_2 : (2 : Int32).toInt = 2 := by decide
            have y_60 : (60 : Int32).toInt = 60 := by decide
            have y_61 : (61 : Int32).toInt = 61 := by decide
            have y_62 : (62 : Int32).toInt = 62 := by decide
            have y_m1 : (-1 : Int32).toInt = -1 := by decide
            have t_x_1 : x_1.toInt = ((Tv 2) : Int32).toInt - ((Tv 1) : Int32).toInt := by rw [ex_1]; exact sub_toInt (by omega) (by omega)
            have yr : ((-1) : Int32).toInt = -1 := by decide
            omega
          have hp_17 : (60 ≤ (Tv 3).toInt ∧ (Tv 3).toInt ≤ 62) → ((-1) : Int32).toInt = ec_cc (Tv 3).toInt ((Tv 2).toInt - (Tv 1).toInt) := by
            intro hz
            exfalso
            have yr : ((-1) : Int32).toInt = -1 := by decide
            have hy := hp_16
            omega
          exact retI (v := (-1)) hx hb hr hlk (rfl) hP hD hS () ⟨_, rfl, ⟨hp_16, hp_17⟩⟩ [0, 1] rfl rfl dX7_comparison_76 (Nat.le_of_ble_eq_true rfl) (Nat.le_of_ble_eq_true rfl) rfl
  · skip
    refine lv_iconst (v := 1) hx hb dX7_comparison_13 (by decide) ?_
    refine lv_goto (tgt := 18) hx hb dX7_comparison_14 (by decide) ?_
    refine lv_istore_n (lv' := [(1, .int 1), (0, .ref (Ta 0))]) hx hb dX7_comparison_18 rfl hl (by decide) rfl (fun ls hl₀ => ?_)
    replace hl := hl₀
    clear hl₀
    refine lv_aload_n hx hb dX7_comparison_19 rfl (lv_at hl 1 rfl) ?_
    refine gf_X7_86 hx hb hts hown hK hP 0 rfl rfl dX7_comparison_20 ?_
    refine lv_topi (fun x_18 ex_18 => ?_)
    by_cases c_19 : x_18 = 60
    · skip
      subst c_19
      have sw_c_19 := congrArg Int32.toInt ex_18
      have swy_c_19 : (60 : Int32).toInt = 60 := by decide
      refine lv_tableIn (off := 25) (tgt := 48) hx hb dX7_comparison_23 (by decide) (by decide) (by decide) (by decide) ?_
      refine lv_iload_n hx hb dX7_comparison_48 rfl (lv_at hl 0 rfl) ?_
      refine lv_if_eq (tgt := 57) hx hb dX7_comparison_49 (by decide) (fun c_20 => absurd c_20 (by decide)) (fun c_20 => ?_)
      refine lv_bipush (v := (-8)) hx hb dX7_comparison_52 (by decide) ?_
      refine lv_goto (tgt := 59) hx hb dX7_comparison_54 (by decide) ?_
      have hp_21 : (((-8) : Int32).toInt = -1 ∧ ¬ (60 ≤ (Tv 3).toInt ∧ (Tv 3).toInt ≤ 62)) ∨ (((-8) : Int32).toInt ≤ -7 ∧ 60 ≤ (Tv 3).toInt ∧ (Tv 3).toInt ≤ 62) := by
        have z_1 := congrArg Int32.toInt c_2
        have y_2 : (2 : Int32).toInt = 2 := by decide
        have y_m8 : (-8 : Int32).toInt = -8 := by decide
        have t_x_1 : x_1.toInt = ((Tv 2) : Int32).toInt - ((Tv 1) : Int32).toInt := by rw [ex_1]; exact sub_toInt (by omega) (by omega)
        have yr : ((-8) : Int32).toInt = -8 := by decide
        omega
      have hp_22 : (60 ≤ (Tv 3).toInt ∧ (Tv 3).toInt ≤ 62) → ((-8) : Int32).toInt = ec_cc (Tv 3).toInt ((Tv 2).toInt - (Tv 1).toInt) := by
        intro hz
        have hk : (Tv 3).toInt = 60 := by
          have z_1 := congrArg Int32.toInt c_2
          have y_2 : (2 : Int32).toInt = 2 := by decide
          have t_x_1 : x_1.toInt = ((Tv 2) : Int32).toInt - ((Tv 1) : Int32).toInt := by rw [ex_1]; exact sub_toInt (by omega) (by omega)
          omega
        have yr : ((-8) : Int32).toInt = -8 := by decide
        unfold ec_cc
        rw [hk, yr]
        have hd : ((Tv 2).toInt - (Tv 1).toInt = 2) := by
          have z_1 := congrArg Int32.toInt c_2
          have y_2 : (2 : Int32).toInt = 2 := by decide
          have t_x_1 : x_1.toInt = ((Tv 2) : Int32).toInt - ((Tv 1) : Int32).toInt := by rw [ex_1]; exact sub_toInt (by omega) (by omega)
          omega
        simp only [if_pos hd]
        try decide
      exact retI (v := (-8)) hx hb hr hlk (rfl) hP hD hS () ⟨_, rfl, ⟨hp_21, hp_22⟩⟩ [0, 1] rfl rfl dX7_comparison_59 (Nat.le_of_ble_eq_true rfl) (Nat.le_of_ble_eq_true rfl) rfl
    · skip
      by_cases c_23 : x_18 = 61
      · skip
        subst c_23
        have sw_c_23 := congrArg Int32.toInt ex_18
        have swy_c_23 : (61 : Int32).toInt = 61 := by decide
        refine lv_tableIn (off := 37) (tgt := 60) hx hb dX7_comparison_23 (by decide) (by decide) (by decide) (by decide) ?_
        refine lv_bipush (v := (-9)) hx hb dX7_comparison_60 (by decide) ?_
        have hp_24 : (((-9) : Int32).toInt = -1 ∧ ¬ (60 ≤ (Tv 3).toInt ∧ (Tv 3).toInt ≤ 62)) ∨ (((-9) : Int32).toInt ≤ -7 ∧ 60 ≤ (Tv 3).toInt ∧ (Tv 3).toInt ≤ 62) := by
          have z_1 := congrArg Int32.toInt c_2
          have y_2 : (2 : Int32).toInt = 2 := by decide
          have y_m9 : (-9 : Int32).toInt = -9 := by decide
          have t_x_1 : x_1.toInt = ((Tv 2) : Int32).toInt - ((Tv 1) : Int32).toInt := by rw [ex_1]; exact sub_toInt (by omega) (by omega)
          have yr : ((-9) : Int32).toInt = -9 := by decide
          omega
        have hp_25 : (60 ≤ (Tv 3).toInt ∧ (Tv 3).toInt ≤ 62) → ((-9) : Int32).toInt = ec_cc (Tv 3).toInt ((Tv 2).toInt - (Tv 1).toInt) := by
          intro hz
          have hk : (Tv 3).toInt = 61 := by
            have z_1 := congrArg Int32.toInt c_2
            have y_2 : (2 : Int32).toInt = 2 := by decide
            have t_x_1 : x_1.toInt = ((Tv 2) : Int32).toInt - ((Tv 1) : Int32).toInt := by rw [ex_1]; exact sub_toInt (by omega) (by omega)
            omega
          have yr : ((-9) : Int32).toInt = -9 := by decide
          unfold ec_cc
          rw [hk, yr]
          rw [if_neg (show ¬ (61 : Int) = 60 by decide), if_pos (show (61 : Int) = 61 from rfl)]
        exact retI (v := (-9)) hx hb hr hlk (rfl) hP hD hS () ⟨_, rfl, ⟨hp_24, hp_25⟩⟩ [0, 1] rfl rfl dX7_comparison_62 (Nat.le_of_ble_eq_true rfl) (Nat.le_of_ble_eq_true rfl) rfl
      · skip
        by_cases c_26 : x_18 = 62
        · skip
          subst c_26
          have sw_c_26 := congrArg Int32.toInt ex_18
          have swy_c_26 : (62 : Int32).toInt = 62 := by decide
          refine lv_tableIn (off := 40) (tgt := 63) hx hb dX7_comparison_23 (by decide) (by decide) (by decide) (by decide) ?_
          refine lv_iload_n hx hb dX7_comparison_63 rfl (lv_at hl 0 rfl) ?_
          refine lv_if_eq (tgt := 72) hx hb dX7_comparison_64 (by decide) (fun c_27 => absurd c_27 (by decide)) (fun c_27 => ?_)
          refine lv_bipush (v := (-10)) hx hb dX7_comparison_67 (by decide) ?_
          refine lv_goto (tgt := 74) hx hb dX7_comparison_69 (by decide) ?_
          have hp_28 : (((-10) : Int32).toInt = -1 ∧ ¬ (60 ≤ (Tv 3).toInt ∧ (Tv 3).toInt ≤ 62)) ∨ (((-10) : Int32).toInt ≤ -7 ∧ 60 ≤ (Tv 3).toInt ∧ (Tv 3).toInt ≤ 62) := by
            have z_1 := congrArg Int32.toInt c_2
            have y_2 : (2 : Int32).toInt = 2 := by decide
            have y_m10 : (-10 : Int32).toInt = -10 := by decide
            have t_x_1 : x_1.toInt = ((Tv 2) : Int32).toInt - ((Tv 1) : Int32).toInt := by rw [ex_1]; exact sub_toInt (by omega) (by omega)
            have yr : ((-10) : Int32).toInt = -10 := by decide
            omega
          have hp_29 : (60 ≤ (Tv 3).toInt ∧ (Tv 3).toInt ≤ 62) → ((-10) : Int32).toInt = ec_cc (Tv 3).toInt ((Tv 2).toInt - (Tv 1).toInt) := by
            intro hz
            have hk : (Tv 3).toInt = 62 := by
              have z_1 := congrArg Int32.toInt c_2
              have y_2 : (2 : Int32).toInt = 2 := by decide
              have t_x_1 : x_1.toInt = ((Tv 2) : Int32).toInt - ((Tv 1) : Int32).toInt := by rw [ex_1]; exact sub_toInt (by omega) (by omega)
              omega
            have yr : ((-10) : Int32).toInt = -10 := by decide
            unfold ec_cc
            rw [hk, yr]
            have hd : ((Tv 2).toInt - (Tv 1).toInt = 2) := by
              have z_1 := congrArg Int32.toInt c_2
              have y_2 : (2 : Int32).toInt = 2 := by decide
              have t_x_1 : x_1.toInt = ((Tv 2) : Int32).toInt - ((Tv 1) : Int32).toInt := by rw [ex_1]; exact sub_toInt (by omega) (by omega)
              omega
            simp only [if_pos hd]
            try decide
          exact retI (v := (-10)) hx hb hr hlk (rfl) hP hD hS () ⟨_, rfl, ⟨hp_28, hp_29⟩⟩ [0, 1] rfl rfl dX7_comparison_74 (Nat.le_of_ble_eq_true rfl) (Nat.le_of_ble_eq_true rfl) rfl
        · skip
          have swo := congrArg Int32.toInt ex_18
          have ho_30 : (x_18 : Int32).toInt < 60 ∨ 62 < (x_18 : Int32).toInt := by
            have z_1 := congrArg Int32.toInt c_2
            have z_2 : ¬ (x_18 : Int32).toInt = (60 : Int32).toInt := fun z => c_19 (Int32.toInt_inj.mp z)
            have z_3 : ¬ (x_18 : Int32).toInt = (61 : Int32).toInt := fun z => c_23 (Int32.toInt_inj.mp z)
            have z_4 : ¬ (x_18 : Int32).toInt = (62 : Int32).toInt := fun z => c_26 (Int32.toInt_inj.mp z)
            have y_2 : (2 : Int32).toInt = 2 := by decide
            have y_60 : (60 : Int32).toInt = 60 := by decide
            have y_61 : (61 : Int32).toInt = 61 := by decide
            have y_62 : (62 : Int32).toInt = 62 := by decide
            have t_x_1 : x_1.toInt = ((Tv 2) : Int32).toInt - ((Tv 1) : Int32).toInt := by rw [ex_1]; exact sub_toInt (by omega) (by omega)
            omega
          refine lv_tableOut (tgt := 75) hx hb dX7_comparison_23 ho_30 (by decide) ?_
          refine lv_iconst (v := (-1)) hx hb dX7_comparison_75 (by decide) ?_
          have hp_31 : (((-1) : Int32).toInt = -1 ∧ ¬ (60 ≤ (Tv 3).toInt ∧ (Tv 3).toInt ≤ 62)) ∨ (((-1) : Int32).toInt ≤ -7 ∧ 60 ≤ (Tv 3).toInt ∧ (Tv 3).toInt ≤ 62) := by
            have z_1 := congrArg Int32.toInt c_2
            have z_2 : ¬ (x_18 : Int32).toInt = (60 : Int32).toInt := fun z => c_19 (Int32.toInt_inj.mp z)
            have z_3 : ¬ (x_18 : Int32).toInt = (61 : Int32).toInt := fun z => c_23 (Int32.toInt_inj.mp z)
            have z_4 : ¬ (x_18 : Int32).toInt = (62 : Int32).toInt := fun z => c_26 (Int32.toInt_inj.mp z)
            have y_2 : (2 : Int32).toInt = 2 := by decide
            have y_60 : (60 : Int32).toInt = 60 := by decide
            have y_61 : (61 : Int32).toInt = 61 := by decide
            have y_62 : (62 : Int32).toInt = 62 := by decide
            have y_m1 : (-1 : Int32).toInt = -1 := by decide
            have t_x_1 : x_1.toInt = ((Tv 2) : Int32).toInt - ((Tv 1) : Int32).toInt := by rw [ex_1]; exact sub_toInt (by omega) (by omega)
            have yr : ((-1) : Int32).toInt = -1 := by decide
            omega
          have hp_32 : (60 ≤ (Tv 3).toInt ∧ (Tv 3).toInt ≤ 62) → ((-1) : Int32).toInt = ec_cc (Tv 3).toInt ((Tv 2).toInt - (Tv 1).toInt) := by
            intro hz
            exfalso
            have yr : ((-1) : Int32).toInt = -1 := by decide
            have hy := hp_31
            omega
          exact retI (v := (-1)) hx hb hr hlk (rfl) hP hD hS () ⟨_, rfl, ⟨hp_31, hp_32⟩⟩ [0, 1] rfl rfl dX7_comparison_76 (Nat.le_of_ble_eq_true rfl) (Nat.le_of_ble_eq_true rfl) rfl
set_option maxRecDepth 100000 in
theorem cu_kX7_comparison (l : Launch) (D : va_G) (tc : Nat → ClassId) (sk : (Nat → Nat) × (Nat → Nat)) (Ta_0 : Nat) (Ta_1 : Nat) (Tv_0 : Int32) (Tv_1 : Int32) (Tv_2 : Int32) (Tv_3 : Int32) (Tv_4 : Int32) (Tf_1 : Nat → Int32) (h_tape : 0 ≤ (Tv_0 : Int32).toInt ∧ (Tv_0 : Int32).toInt ≤ 400 ∧ 0 ≤ (Tv_1 : Int32).toInt ∧ (Tv_1 : Int32).toInt ≤ 400 ∧ 0 ≤ (Tv_2 : Int32).toInt ∧ (Tv_2 : Int32).toInt ≤ 400) : Ct l yX7_comparison cX7_comparison 2 (some .int) { frames := 0, cells := 0, slots := 0, locals := 0 } D tc sk [.ref Ta_0] [(Ta_0, .inr (10, [.ref Ta_1, .int Tv_0, .int Tv_1, .int Tv_2, .int Tv_3, .int Tv_4])), (Ta_1, .inl (tc 0, 400, .inl Tf_1))] (fun (v : Option Value) (_ : Unit) => ∃ r : Int32, v = some (.int r) ∧ ((((r.toInt = -1 ∧ ¬ (60 ≤ Tv_3.toInt ∧ Tv_3.toInt ≤ 62)) ∨ (r.toInt ≤ -7 ∧ 60 ≤ Tv_3.toInt ∧ Tv_3.toInt ≤ 62)) ∧ ((60 ≤ Tv_3.toInt ∧ Tv_3.toInt ≤ 62) → r.toInt = ec_cc Tv_3.toInt (Tv_2.toInt - Tv_1.toInt))))) (fun (_ : Unit) => [(Ta_0, .inr (10, [.ref Ta_1, .int Tv_0, .int Tv_1, .int Tv_2, .int Tv_3, .int Tv_4])), (Ta_1, .inl (tc 0, 400, .inl Tf_1))]) 0 0 :=
  ct_kX7_comparison l D tc sk (fun k => ([Ta_0, Ta_1] : List (Nat)).getD k 0) (fun k => ([Tv_0, Tv_1, Tv_2, Tv_3, Tv_4] : List (Int32)).getD k 0) (fun k => ([(fun _ => 0), Tf_1] : List (Nat → Int32)).getD k (fun _ => 0)) h_tape
set_option maxHeartbeats 4000000 in
set_option maxRecDepth 100000 in
theorem ct_kX7_readValue (l : Launch) (D : va_G) (tc : Nat → ClassId) (sk : (Nat → Nat) × (Nat → Nat)) (Va : Nat → Nat) (Vv : Nat → Int32) (Vf : Nat → Nat → Int32) (Ta : Nat → Nat) (Tv : Nat → Int32) (Tf : Nat → Nat → Int32) (rr : Except Int (Nat × Nat)) (ll : List Int) (h_tape : 0 ≤ ((Tv 0) : Int32).toInt ∧ ((Tv 0) : Int32).toInt ≤ 400 ∧ 0 ≤ ((Tv 1) : Int32).toInt ∧ ((Tv 1) : Int32).toInt ≤ 400 ∧ 0 ≤ ((Tv 2) : Int32).toInt ∧ ((Tv 2) : Int32).toInt ≤ 400) (h_u : 0 ≤ ((Vv 0) : Int32).toInt ∧ ((Vv 0) : Int32).toInt ≤ 400) (h_by : Byt (Tf 1)) (h_r : TpR (Tf 1) (Tv 0) rr (Tv 1) (Tv 2) (Tv 3) (Tv 4)) (h_ct : Ctd rr (Vv 1)) (h_cd : CdK (Vf 1) (Vv 0) rr ll) : Ct l yX7_readValue cX7_readValue 4 none { frames := 6, cells := 0, slots := 0, locals := 133 } D tc sk [.ref (Va 0), .ref (Ta 0)] [((Va 0), .inr (7, [.ref (Va 1), .int (Vv 0), .int (Vv 1)])), ((Va 1), .inl (tc 0, 400, .inl (Vf 1))), ((Ta 0), .inr (10, [.ref (Ta 1), .int (Tv 0), .int (Tv 1), .int (Tv 2), .int (Tv 3), .int (Tv 4)])), ((Ta 1), .inl (tc 0, 400, .inl (Tf 1)))] (fun (v : Option Value) (u : (Int32) × (Int32) × (Nat → Int32) × (Int32) × (Int32) × (Int32) × (Int32)) => match u with | (oo0x1, oo0x2, oo0x3, oo0x4, oo0x5, oo0x6, oo0x7) => v = none ∧ (0 ≤ ((Tv 0) : Int32).toInt ∧ ((Tv 0) : Int32).toInt ≤ 400 ∧ 0 ≤ (oo0x4 : Int32).toInt ∧ (oo0x4 : Int32).toInt ≤ 400 ∧ 0 ≤ (oo0x5 : Int32).toInt ∧ (oo0x5 : Int32).toInt ≤ 400) ∧ (0 ≤ (oo0x1 : Int32).toInt ∧ (oo0x1 : Int32).toInt ≤ 400) ∧ (TpR (Tf 1) (Tv 0) (pz_b rr (pz_val (cB (Tf 1) (Tv 0)))) oo0x4 oo0x5 oo0x6 oo0x7) ∧ (Ctd (pz_b rr (pz_val (cB (Tf 1) (Tv 0)))) oo0x2) ∧ (CdK oo0x3 oo0x1 (pz_b rr (pz_val (cB (Tf 1) (Tv 0)))) (Ap rr (lval (cB (Tf 1) (Tv 0))) ll))) (fun (u : (Int32) × (Int32) × (Nat → Int32) × (Int32) × (Int32) × (Int32) × (Int32)) => match u with | (oo0x1, oo0x2, oo0x3, oo0x4, oo0x5, oo0x6, oo0x7) => [((Va 0), .inr (7, [.ref (Va 1), .int oo0x1, .int oo0x2])), ((Va 1), .inl (tc 0, 400, .inl oo0x3)), ((Ta 0), .inr (10, [.ref (Ta 1), .int (Tv 0), .int oo0x4, .int oo0x5, .int oo0x6, .int oo0x7])), ((Ta 1), .inl (tc 0, 400, .inl (Tf 1)))]) 0 0 := by
  refine Ct.start (by decide) (Nat.le_of_ble_eq_true rfl) (fun p e s m below meth c A ls hx hb hr hlk hin hml hown hts hK hX hP hD hA hl hS => ?_)
  have hl : lv_has ls 4 [(0, .ref (Va 0)), (1, .ref (Ta 0))] := hl
  have tb_1 : TpB (rTE (cB (Tf 1) (Tv 0)) rr) (Tv 2) (Tv 4) := TpR.tb h_r
  refine lv_iconst (v := 0) hx hb dX7_readValue_0 (by decide) ?_
  refine lv_istore_n (lv' := [(2, .int 0), (0, .ref (Va 0)), (1, .ref (Ta 0))]) hx hb dX7_readValue_1 rfl hl (by decide) rfl (fun ls hl₀ => ?_)
  replace hl := hl₀
  clear hl₀
  refine lv_aload_n hx hb dX7_readValue_2 rfl (lv_at hl 2 rfl) ?_
  refine gf_X7_86 hx hb hts hown hK hP 2 rfl rfl dX7_readValue_3 ?_
  refine cS (As := [.int (Tv 3)]) (rest := []) (wr := [((Va 0), .inr (7, [.ref (Va 1), .int (Vv 0), .int (Vv 1)])), ((Va 1), .inl (tc 0, 400, .inl (Vf 1))), ((Ta 0), .inr (10, [.ref (Ta 1), .int (Tv 0), .int (Tv 1), .int (Tv 2), .int (Tv 3), .int (Tv 4)])), ((Ta 1), .inl (tc 0, 400, .inl (Tf 1)))]) ⟨hx, hb, hml, hown, hts⟩ hK hX hA (ct_fX10_isDigit l D tc sk (Tv 3)) k_488 k_629 k_487 k_96 pl_X10_isDigit ⟨Nat.le_of_ble_eq_true rfl, Nat.le_of_ble_eq_true rfl⟩ rfl rfl  hP hD hS [] [0, 1, 2, 3] rfl rfl rfl rfl rfl (by decide) rfl hl.1 rfl (Nat.le_of_ble_eq_true rfl) dX7_readValue_6 ⟨Nat.le_of_ble_eq_true rfl, Nat.le_of_ble_eq_true rfl⟩ (fun v_2 u_3 H locs hv_4 hP₀ hD₀ hS₀ => ?_)
  obtain ⟨r_5, rfl, he_6⟩ := hv_4
  have he_6 : ((r_5.toInt = 1 ∧ 48 ≤ (Tv 3).toInt ∧ (Tv 3).toInt ≤ 57) ∨ (r_5.toInt = 0 ∧ ((Tv 3).toInt < 48 ∨ 57 < (Tv 3).toInt))) := he_6
  refine W.eq (g2 := F0 m 9 ls [.int r_5]) rfl ?_
  replace hP : va_P D classes [((Va 0), .inr (7, [.ref (Va 1), .int (Vv 0), .int (Vv 1)])), ((Va 1), .inl (tc 0, 400, .inl (Vf 1))), ((Ta 0), .inr (10, [.ref (Ta 1), .int (Tv 0), .int (Tv 1), .int (Tv 2), .int (Tv 3), .int (Tv 4)])), ((Ta 1), .inl (tc 0, 400, .inl (Tf 1)))] H := hP₀
  replace hD : va_D A [((Va 0), .inr (7, [.ref (Va 1), .int (Vv 0), .int (Vv 1)])), ((Va 1), .inl (tc 0, 400, .inl (Vf 1))), ((Ta 0), .inr (10, [.ref (Ta 1), .int (Tv 0), .int (Tv 1), .int (Tv 2), .int (Tv 3), .int (Tv 4)])), ((Ta 1), .inl (tc 0, 400, .inl (Tf 1)))] := hD₀
  replace hS := hS₀
  clear hP₀ hD₀ hS₀
  refine lv_if_eq (tgt := 23) hx hb dX7_readValue_9 (by decide) (fun c_8 => ?_) (fun c_8 => ?_)
  · skip
    refine lv_aload_n hx hb dX7_readValue_23 rfl (lv_at hl 2 rfl) ?_
    refine va_ldcS hx hb hown (sx_2 hX) dX7_readValue_24 ?_
    have ha_9 : (2 : Nat) < 7 := by
      have z_1 := congrArg Int32.toInt c_8
      have y_0 : (0 : Int32).toInt = 0 := by decide
      have y_2 : (2 : Int32).toInt = 2 := by decide
      omega
    refine cV (a := (Ta 0)) (As := [.ref (sk.1 2)]) (rest := []) (wr := [((Va 0), .inr (7, [.ref (Va 1), .int (Vv 0), .int (Vv 1)])), ((Va 1), .inl (tc 0, 400, .inl (Vf 1)))]) ⟨hx, hb, hml, hown, hts⟩ hK hX hA (cu_fX10_wordAmong l D tc sk (Ta 0) (Ta 1) (Tv 0) (Tv 1) (Tv 2) (Tv 3) (Tv 4) (Tf 1) 2 rr ha_9 h_tape h_by h_r) k_501 k_633 k_499 k_500 k_96 pl_X10_wordAmong ⟨Nat.le_of_ble_eq_true rfl, Nat.le_of_ble_eq_true rfl⟩ rfl rfl (va_recv hK hP (ci := 10) (q0 := 2) rfl rfl) hP hD hS [2, 3] [0, 1] rfl rfl rfl rfl rfl (by decide) rfl hl.1 rfl (Nat.le_of_ble_eq_true rfl) dX7_readValue_26 ⟨Nat.le_of_ble_eq_true rfl, Nat.le_of_ble_eq_true rfl⟩ (fun v_10 u_11 H locs hv_12 hP₀ hD₀ hS₀ => ?_)
    obtain ⟨r_13, rfl, he_14⟩ := hv_12
    have he_14 : r_13.toInt = waR (cB (Tf 1) (Tv 0)) (wL (2 : Nat)) 0 rr := he_14
    refine W.eq (g2 := F0 m 29 ls [.int r_13]) rfl ?_
    replace hP : va_P D classes [((Va 0), .inr (7, [.ref (Va 1), .int (Vv 0), .int (Vv 1)])), ((Va 1), .inl (tc 0, 400, .inl (Vf 1))), ((Ta 0), .inr (10, [.ref (Ta 1), .int (Tv 0), .int (Tv 1), .int (Tv 2), .int (Tv 3), .int (Tv 4)])), ((Ta 1), .inl (tc 0, 400, .inl (Tf 1)))] H := hP₀
    replace hD : va_D A [((Va 0), .inr (7, [.ref (Va 1), .int (Vv 0), .int (Vv 1)])), ((Va 1), .inl (tc 0, 400, .inl (Vf 1))), ((Ta 0), .inr (10, [.ref (Ta 1), .int (Tv 0), .int (Tv 1), .int (Tv 2), .int (Tv 3), .int (Tv 4)])), ((Ta 1), .inl (tc 0, 400, .inl (Tf 1)))] := hD₀
    replace hS := hS₀
    clear hP₀ hD₀ hS₀
    have hrg := waR_rg (B := (cB (Tf 1) (Tv 0))) (r := rr)
    refine lv_istore_n (lv' := [(3, .int r_13), (2, .int 0), (0, .ref (Va 0)), (1, .ref (Ta 0))]) hx hb dX7_readValue_29 rfl hl (by decide) rfl (fun ls hl₀ => ?_)
    replace hl := hl₀
    clear hl₀
    refine lv_iload_n hx hb dX7_readValue_30 rfl (lv_at hl 0 rfl) ?_
    refine lv_iconst (v := (-1)) hx hb dX7_readValue_31 (by decide) ?_
    refine lv_icmp_ne (tgt := 43) hx hb dX7_readValue_32 (by decide) (fun c_16 => ?_) (fun c_16 => ?_)
    · skip
      refine lv_ldc hx hb hown (hts _ k_634) dX7_readValue_43 ?_
      refine lv_iload_n hx hb dX7_readValue_45 rfl (lv_at hl 0 rfl) ?_
      refine lv_iadd hx hb dX7_readValue_46 ?_
      refine lv_topi (fun x_17 ex_17 => ?_)
      refine lv_istore_n (lv' := [(2, .int x_17), (3, .int r_13), (0, .ref (Va 0)), (1, .ref (Ta 0))]) hx hb dX7_readValue_47 rfl hl (by decide) rfl (fun ls hl₀ => ?_)
      replace hl := hl₀
      clear hl₀
      refine lv_aload_n hx hb dX7_readValue_48 rfl (lv_at hl 2 rfl) ?_
      refine lv_aload_n hx hb dX7_readValue_49 rfl (lv_at hl 3 rfl) ?_
      refine cV (a := (Va 0)) (As := [.ref (Ta 0)]) (rest := []) (wr := []) ⟨hx, hb, hml, hown, hts⟩ hK hX hA (cu_fX7_countOne l D tc sk (Va 0) (Va 1) (Vv 0) (Vv 1) (Vf 1) (Ta 0) (Ta 1) (Tv 0) (Tv 1) (Tv 2) (Tv 3) (Tv 4) (Tf 1) rr h_tape h_u h_by h_r h_ct) k_638 k_635 k_637 k_9 k_99 pl_X7_countOne ⟨Nat.le_of_ble_eq_true rfl, Nat.le_of_ble_eq_true rfl⟩ rfl rfl (va_recv hK hP (ci := 7) (q0 := 0) rfl rfl) hP hD hS [0, 1, 2, 3] [] rfl rfl rfl rfl rfl (by decide) rfl hl.1 rfl (Nat.le_of_ble_eq_true rfl) dX7_readValue_50 ⟨Nat.le_of_ble_eq_true rfl, Nat.le_of_ble_eq_true rfl⟩ (fun v_18 u_19 H locs hv_20 hP₀ hD₀ hS₀ => ?_)
      obtain ⟨sv_21, sv_22, sv_23⟩ := u_19
      obtain ⟨rfl, pf_24, pf_25, pf_26, pf_27⟩ := hv_20
      have pf_24 : 0 ≤ ((Tv 0) : Int32).toInt ∧ ((Tv 0) : Int32).toInt ≤ 400 ∧ 0 ≤ ((Tv 1) : Int32).toInt ∧ ((Tv 1) : Int32).toInt ≤ 400 ∧ 0 ≤ ((Tv 2) : Int32).toInt ∧ ((Tv 2) : Int32).toInt ≤ 400 := pf_24
      have pf_25 : 0 ≤ ((Vv 0) : Int32).toInt ∧ ((Vv 0) : Int32).toInt ≤ 400 := pf_25
      have pf_26 : TpR (Tf 1) (Tv 0) (rC1 rr) (Tv 1) (Tv 2) sv_22 sv_23 := pf_26
      obtain ⟨ro_28, ero_28⟩ : ∃ z : Except Int (Nat × Nat), z = (rC1 rr) := ⟨_, rfl⟩
      rw [← ero_28] at pf_26
      have tb_29 : TpB (rTE (cB (Tf 1) (Tv 0)) ro_28) (Tv 2) sv_23 := TpR.tb pf_26
      have ck_30 : CdK (Vf 1) (Vv 0) ro_28 ll := by rw [ero_28]; exact (CdK.c1 h_cd)
      have pf_27 : Ctd (rC1 rr) sv_21 := pf_27
      rw [← ero_28] at pf_27
      refine W.eq (g2 := F0 m 53 ls []) rfl ?_
      replace hP : va_P D classes [((Va 0), .inr (7, [.ref (Va 1), .int (Vv 0), .int sv_21])), ((Va 1), .inl (tc 0, 400, .inl (Vf 1))), ((Ta 0), .inr (10, [.ref (Ta 1), .int (Tv 0), .int (Tv 1), .int (Tv 2), .int sv_22, .int sv_23])), ((Ta 1), .inl (tc 0, 400, .inl (Tf 1)))] H := hP₀
      replace hD : va_D A [((Va 0), .inr (7, [.ref (Va 1), .int (Vv 0), .int sv_21])), ((Va 1), .inl (tc 0, 400, .inl (Vf 1))), ((Ta 0), .inr (10, [.ref (Ta 1), .int (Tv 0), .int (Tv 1), .int (Tv 2), .int sv_22, .int sv_23])), ((Ta 1), .inl (tc 0, 400, .inl (Tf 1)))] := hD₀
      replace hS := hS₀
      clear hP₀ hD₀ hS₀
      refine lv_aload_n hx hb dX7_readValue_53 rfl (lv_at hl 2 rfl) ?_
      refine lv_iload_n hx hb dX7_readValue_54 rfl (lv_at hl 0 rfl) ?_
      refine cV (a := (Va 0)) (As := [.int x_17]) (rest := []) (wr := [((Ta 0), .inr (10, [.ref (Ta 1), .int (Tv 0), .int (Tv 1), .int (Tv 2), .int sv_22, .int sv_23])), ((Ta 1), .inl (tc 0, 400, .inl (Tf 1)))]) ⟨hx, hb, hml, hown, hts⟩ hK hX hA (cu_kX7_put l D tc sk (Va 0) (Va 1) (Vv 0) sv_21 (Vf 1) x_17 ro_28 ll pf_25 ck_30) k_642 k_639 k_641 k_10 k_99 pl_X7_put ⟨Nat.le_of_ble_eq_true rfl, Nat.le_of_ble_eq_true rfl⟩ rfl rfl (va_recv hK hP (ci := 7) (q0 := 0) rfl rfl) hP hD hS [0, 1] [2, 3] rfl rfl rfl rfl rfl (by decide) rfl hl.1 rfl (Nat.le_of_ble_eq_true rfl) dX7_readValue_55 ⟨Nat.le_of_ble_eq_true rfl, Nat.le_of_ble_eq_true rfl⟩ (fun v_31 u_32 H locs hv_33 hP₀ hD₀ hS₀ => ?_)
      obtain ⟨sv_34, sv_35⟩ := u_32
      obtain ⟨rfl, pf_36, pf_37⟩ := hv_33
      have pf_36 : 0 ≤ (sv_34 : Int32).toInt ∧ (sv_34 : Int32).toInt ≤ 400 := pf_36
      have pf_37 : CdK sv_35 sv_34 ro_28 (ll ++ [x_17.toInt]) := pf_37
      obtain ⟨ro_38, ero_38⟩ : ∃ z : List Int, z = (ll ++ [x_17.toInt]) := ⟨_, rfl⟩
      rw [← ero_38] at pf_37
      refine W.eq (g2 := F0 m 58 ls []) rfl ?_
      replace hP : va_P D classes [((Ta 0), .inr (10, [.ref (Ta 1), .int (Tv 0), .int (Tv 1), .int (Tv 2), .int sv_22, .int sv_23])), ((Ta 1), .inl (tc 0, 400, .inl (Tf 1))), ((Va 0), .inr (7, [.ref (Va 1), .int sv_34, .int sv_21])), ((Va 1), .inl (tc 0, 400, .inl sv_35))] H := hP₀
      replace hD : va_D A [((Ta 0), .inr (10, [.ref (Ta 1), .int (Tv 0), .int (Tv 1), .int (Tv 2), .int sv_22, .int sv_23])), ((Ta 1), .inl (tc 0, 400, .inl (Tf 1))), ((Va 0), .inr (7, [.ref (Va 1), .int sv_34, .int sv_21])), ((Va 1), .inl (tc 0, 400, .inl sv_35))] := hD₀
      replace hS := hS₀
      clear hP₀ hD₀ hS₀
      refine lv_aload_n hx hb dX7_readValue_58 rfl (lv_at hl 3 rfl) ?_
      refine cV (a := (Ta 0)) (As := []) (rest := []) (wr := [((Va 0), .inr (7, [.ref (Va 1), .int sv_34, .int sv_21])), ((Va 1), .inl (tc 0, 400, .inl sv_35))]) ⟨hx, hb, hml, hown, hts⟩ hK hX hA (cu_fX10_step l D tc sk (Ta 0) (Ta 1) (Tv 0) (Tv 1) (Tv 2) sv_22 sv_23 (Tf 1) (rTE (cB (Tf 1) (Tv 0)) ro_28) pf_24 h_by tb_29) k_478 k_620 k_476 k_477 k_96 pl_X10_step ⟨Nat.le_of_ble_eq_true rfl, Nat.le_of_ble_eq_true rfl⟩ rfl rfl (va_recv hK hP (ci := 10) (q0 := 0) rfl rfl) hP hD hS [0, 1] [2, 3] rfl rfl rfl rfl rfl (by decide) rfl hl.1 rfl (Nat.le_of_ble_eq_true rfl) dX7_readValue_59 ⟨Nat.le_of_ble_eq_true rfl, Nat.le_of_ble_eq_true rfl⟩ (fun v_39 u_40 H locs hv_41 hP₀ hD₀ hS₀ => ?_)
      obtain ⟨sv_42, sv_43, sv_44⟩ := u_40
      obtain ⟨rfl, pf_45, pf_46⟩ := hv_41
      have pf_45 : 0 ≤ ((Tv 0) : Int32).toInt ∧ ((Tv 0) : Int32).toInt ≤ 400 ∧ 0 ≤ (sv_42 : Int32).toInt ∧ (sv_42 : Int32).toInt ≤ 400 ∧ 0 ≤ (sv_43 : Int32).toInt ∧ (sv_43 : Int32).toInt ≤ 400 := pf_45
      have pf_46 : TpR (Tf 1) (Tv 0) (rSK (cB (Tf 1) (Tv 0)) (rTE (cB (Tf 1) (Tv 0)) ro_28)) sv_42 sv_43 sv_44 sv_23 := pf_46
      rw [rNX_eq] at pf_46
      obtain ⟨ro_47, ero_47⟩ : ∃ z : Except Int (Nat × Nat), z = (rNX (cB (Tf 1) (Tv 0)) ro_28) := ⟨_, rfl⟩
      rw [← ero_47] at pf_46
      have tb_48 : TpB (rTE (cB (Tf 1) (Tv 0)) ro_47) sv_43 sv_23 := TpR.tb pf_46
      have cd_49 : Ctd ro_47 sv_21 := by rw [ero_47]; exact (Ctd.nx pf_27)
      have ck_50 : CdK sv_35 sv_34 ro_47 ro_38 := by rw [ero_47]; exact (CdK.nx pf_37)
      refine W.eq (g2 := F0 m 62 ls []) rfl ?_
      replace hP : va_P D classes [((Va 0), .inr (7, [.ref (Va 1), .int sv_34, .int sv_21])), ((Va 1), .inl (tc 0, 400, .inl sv_35)), ((Ta 0), .inr (10, [.ref (Ta 1), .int (Tv 0), .int sv_42, .int sv_43, .int sv_44, .int sv_23])), ((Ta 1), .inl (tc 0, 400, .inl (Tf 1)))] H := hP₀
      replace hD : va_D A [((Va 0), .inr (7, [.ref (Va 1), .int sv_34, .int sv_21])), ((Va 1), .inl (tc 0, 400, .inl sv_35)), ((Ta 0), .inr (10, [.ref (Ta 1), .int (Tv 0), .int sv_42, .int sv_43, .int sv_44, .int sv_23])), ((Ta 1), .inl (tc 0, 400, .inl (Tf 1)))] := hD₀
      replace hS := hS₀
      clear hP₀ hD₀ hS₀
      have hf_51 : TpR (Tf 1) (Tv 0) (pz_b rr (pz_val (cB (Tf 1) (Tv 0)))) sv_42 sv_43 sv_44 sv_23 := by
        have hE_52 : (pz_b rr (pz_val (cB (Tf 1) (Tv 0)))) = ro_47 := by
          rw [ero_47, ero_28]
          have hr_53 : ¬ (48 ≤ (Tv 3).toInt ∧ (Tv 3).toInt ≤ 57) := by
            have z_1 := congrArg Int32.toInt c_8
            have z_2 : ¬ (r_13 : Int32).toInt = ((-1) : Int32).toInt := fun z => c_16 (Int32.toInt_inj.mp z)
            have y_m1 : (-1 : Int32).toInt = -1 := by decide
            have y_0 : (0 : Int32).toInt = 0 := by decide
            omega
          have hr_54 : ¬ (r_13 : Int32).toInt = -1 := by
            have z_1 := congrArg Int32.toInt c_8
            have z_2 : ¬ (r_13 : Int32).toInt = ((-1) : Int32).toInt := fun z => c_16 (Int32.toInt_inj.mp z)
            have y_m1 : (-1 : Int32).toInt = -1 := by decide
            have y_0 : (0 : Int32).toInt = 0 := by decide
            omega
          exact (val_wd h_r hr_53 (fun z => hr_54 (he_14.trans z)))
        rw [hE_52]
        exact pf_46
      have hf_55 : Ctd (pz_b rr (pz_val (cB (Tf 1) (Tv 0)))) sv_21 := by
        have hE_56 : (pz_b rr (pz_val (cB (Tf 1) (Tv 0)))) = ro_47 := by
          rw [ero_47, ero_28]
          have hr_57 : ¬ (48 ≤ (Tv 3).toInt ∧ (Tv 3).toInt ≤ 57) := by
            have z_1 := congrArg Int32.toInt c_8
            have z_2 : ¬ (r_13 : Int32).toInt = ((-1) : Int32).toInt := fun z => c_16 (Int32.toInt_inj.mp z)
            have y_m1 : (-1 : Int32).toInt = -1 := by decide
            have y_0 : (0 : Int32).toInt = 0 := by decide
            omega
          have hr_58 : ¬ (r_13 : Int32).toInt = -1 := by
            have z_1 := congrArg Int32.toInt c_8
            have z_2 : ¬ (r_13 : Int32).toInt = ((-1) : Int32).toInt := fun z => c_16 (Int32.toInt_inj.mp z)
            have y_m1 : (-1 : Int32).toInt = -1 := by decide
            have y_0 : (0 : Int32).toInt = 0 := by decide
            omega
          exact (val_wd h_r hr_57 (fun z => hr_58 (he_14.trans z)))
        rw [hE_56]
        exact cd_49
      have hE_59 : (pz_b rr (pz_val (cB (Tf 1) (Tv 0)))) = ro_47 := by
        rw [ero_47, ero_28]
        have hr_60 : ¬ (48 ≤ (Tv 3).toInt ∧ (Tv 3).toInt ≤ 57) := by
          have z_1 := congrArg Int32.toInt c_8
          have z_2 : ¬ (r_13 : Int32).toInt = ((-1) : Int32).toInt := fun z => c_16 (Int32.toInt_inj.mp z)
          have y_m1 : (-1 : Int32).toInt = -1 := by decide
          have y_0 : (0 : Int32).toInt = 0 := by decide
          omega
        have hr_61 : ¬ (r_13 : Int32).toInt = -1 := by
          have z_1 := congrArg Int32.toInt c_8
          have z_2 : ¬ (r_13 : Int32).toInt = ((-1) : Int32).toInt := fun z => c_16 (Int32.toInt_inj.mp z)
          have y_m1 : (-1 : Int32).toInt = -1 := by decide
          have y_0 : (0 : Int32).toInt = 0 := by decide
          omega
        exact (val_wd h_r hr_60 (fun z => hr_61 (he_14.trans z)))
      have hf_62 : CdK sv_35 sv_34 (pz_b rr (pz_val (cB (Tf 1) (Tv 0)))) (Ap rr (lval (cB (Tf 1) (Tv 0))) ll) := CdK.to ck_50 hE_59 (fun t ht => by
        rw [ero_38]
        have hr_63 : ¬ (48 ≤ (Tv 3).toInt ∧ (Tv 3).toInt ≤ 57) := by
          have z_1 := congrArg Int32.toInt c_8
          have z_2 : ¬ (r_13 : Int32).toInt = ((-1) : Int32).toInt := fun z => c_16 (Int32.toInt_inj.mp z)
          have y_m1 : (-1 : Int32).toInt = -1 := by decide
          have y_0 : (0 : Int32).toInt = 0 := by decide
          omega
        have hi_64 : (x_17 : Int32).toInt = 100000 + (r_13 : Int32).toInt := by
          have z_1 := congrArg Int32.toInt c_8
          have z_2 : ¬ (r_13 : Int32).toInt = ((-1) : Int32).toInt := fun z => c_16 (Int32.toInt_inj.mp z)
          have y_m1 : (-1 : Int32).toInt = -1 := by decide
          have y_0 : (0 : Int32).toInt = 0 := by decide
          have y_100000 : (100000 : Int32).toInt = 100000 := by decide
          have t_x_17 : x_17.toInt = (100000 : Int32).toInt + (r_13 : Int32).toInt := by rw [ex_17]; exact add_toInt (by omega) (by omega)
          omega
        exact (vl_wd h_r hr_63 he_14 hi_64) t ht)
      exact retV hx hb hr hlk hP hD hS (sv_34, sv_21, sv_35, sv_42, sv_43, sv_44, sv_23) ⟨rfl, pf_45, pf_36, hf_51, hf_55, hf_62⟩ [0, 1, 2, 3] rfl rfl dX7_readValue_62 (Nat.le_of_ble_eq_true rfl) (Nat.le_of_ble_eq_true rfl) rfl
    · skip
      refine lv_aload_n hx hb dX7_readValue_35 rfl (lv_at hl 3 rfl) ?_
      refine lv_iconst (v := 0) hx hb dX7_readValue_36 (by decide) ?_
      have ha_65 : 0 ≤ (0 : Int32).toInt ∧ (0 : Int32).toInt ≤ 4 := by
        have z_1 := congrArg Int32.toInt c_8
        have z_2 := congrArg Int32.toInt c_16
        have y_m1 : (-1 : Int32).toInt = -1 := by decide
        have y_0 : (0 : Int32).toInt = 0 := by decide
        omega
      have ha_66 : (0 : Int32).toInt = (0 : Int) := by
        have z_1 := congrArg Int32.toInt c_8
        have z_2 := congrArg Int32.toInt c_16
        have y_m1 : (-1 : Int32).toInt = -1 := by decide
        have y_0 : (0 : Int32).toInt = 0 := by decide
        omega
      refine cV (a := (Ta 0)) (As := [.int 0]) (rest := []) (wr := [((Va 0), .inr (7, [.ref (Va 1), .int (Vv 0), .int (Vv 1)])), ((Va 1), .inl (tc 0, 400, .inl (Vf 1)))]) ⟨hx, hb, hml, hown, hts⟩ hK hX hA (cu_fX10_fail l D tc sk (Ta 0) (Ta 1) (Tv 0) (Tv 1) (Tv 2) (Tv 3) (Tv 4) (Tf 1) 0 rr 0 h_tape h_r ha_65 ha_66) k_557 k_619 k_555 k_556 k_96 pl_X10_fail ⟨Nat.le_of_ble_eq_true rfl, Nat.le_of_ble_eq_true rfl⟩ rfl rfl (va_recv hK hP (ci := 10) (q0 := 2) rfl rfl) hP hD hS [2, 3] [0, 1] rfl rfl rfl rfl rfl (by decide) rfl hl.1 rfl (Nat.le_of_ble_eq_true rfl) dX7_readValue_37 ⟨Nat.le_of_ble_eq_true rfl, Nat.le_of_ble_eq_true rfl⟩ (fun v_67 u_68 H locs hv_69 hP₀ hD₀ hS₀ => ?_)
      obtain ⟨sv_70, sv_71⟩ := u_68
      obtain ⟨rfl, pf_72, pf_73⟩ := hv_69
      have pf_72 : 0 ≤ ((Tv 0) : Int32).toInt ∧ ((Tv 0) : Int32).toInt ≤ 400 ∧ 0 ≤ ((Tv 1) : Int32).toInt ∧ ((Tv 1) : Int32).toInt ≤ 400 ∧ 0 ≤ ((Tv 2) : Int32).toInt ∧ ((Tv 2) : Int32).toInt ≤ 400 := pf_72
      have pf_73 : TpR (Tf 1) (Tv 0) (rER (0 : Int) rr) (Tv 1) (Tv 2) sv_70 sv_71 := pf_73
      obtain ⟨ro_74, ero_74⟩ : ∃ z : Except Int (Nat × Nat), z = (rER 0 rr) := ⟨_, rfl⟩
      rw [← ero_74] at pf_73
      have tb_75 : TpB (rTE (cB (Tf 1) (Tv 0)) ro_74) (Tv 2) sv_71 := TpR.tb pf_73
      have cd_76 : Ctd ro_74 (Vv 1) := by rw [ero_74]; exact (Ctd.er)
      have ck_77 : CdK (Vf 1) (Vv 0) ro_74 ll := by rw [ero_74]; exact (CdK.er)
      refine W.eq (g2 := F0 m 40 ls []) rfl ?_
      replace hP : va_P D classes [((Va 0), .inr (7, [.ref (Va 1), .int (Vv 0), .int (Vv 1)])), ((Va 1), .inl (tc 0, 400, .inl (Vf 1))), ((Ta 0), .inr (10, [.ref (Ta 1), .int (Tv 0), .int (Tv 1), .int (Tv 2), .int sv_70, .int sv_71])), ((Ta 1), .inl (tc 0, 400, .inl (Tf 1)))] H := hP₀
      replace hD : va_D A [((Va 0), .inr (7, [.ref (Va 1), .int (Vv 0), .int (Vv 1)])), ((Va 1), .inl (tc 0, 400, .inl (Vf 1))), ((Ta 0), .inr (10, [.ref (Ta 1), .int (Tv 0), .int (Tv 1), .int (Tv 2), .int sv_70, .int sv_71])), ((Ta 1), .inl (tc 0, 400, .inl (Tf 1)))] := hD₀
      replace hS := hS₀
      clear hP₀ hD₀ hS₀
      refine lv_goto (tgt := 48) hx hb dX7_readValue_40 (by decide) ?_
      refine lv_aload_n hx hb dX7_readValue_48 rfl (lv_at hl 2 rfl) ?_
      refine lv_aload_n hx hb dX7_readValue_49 rfl (lv_at hl 3 rfl) ?_
      refine cV (a := (Va 0)) (As := [.ref (Ta 0)]) (rest := []) (wr := []) ⟨hx, hb, hml, hown, hts⟩ hK hX hA (cu_fX7_countOne l D tc sk (Va 0) (Va 1) (Vv 0) (Vv 1) (Vf 1) (Ta 0) (Ta 1) (Tv 0) (Tv 1) (Tv 2) sv_70 sv_71 (Tf 1) ro_74 pf_72 h_u h_by pf_73 cd_76) k_638 k_635 k_637 k_9 k_99 pl_X7_countOne ⟨Nat.le_of_ble_eq_true rfl, Nat.le_of_ble_eq_true rfl⟩ rfl rfl (va_recv hK hP (ci := 7) (q0 := 0) rfl rfl) hP hD hS [0, 1, 2, 3] [] rfl rfl rfl rfl rfl (by decide) rfl hl.1 rfl (Nat.le_of_ble_eq_true rfl) dX7_readValue_50 ⟨Nat.le_of_ble_eq_true rfl, Nat.le_of_ble_eq_true rfl⟩ (fun v_78 u_79 H locs hv_80 hP₀ hD₀ hS₀ => ?_)
      obtain ⟨sv_81, sv_82, sv_83⟩ := u_79
      obtain ⟨rfl, pf_84, pf_85, pf_86, pf_87⟩ := hv_80
      have pf_84 : 0 ≤ ((Tv 0) : Int32).toInt ∧ ((Tv 0) : Int32).toInt ≤ 400 ∧ 0 ≤ ((Tv 1) : Int32).toInt ∧ ((Tv 1) : Int32).toInt ≤ 400 ∧ 0 ≤ ((Tv 2) : Int32).toInt ∧ ((Tv 2) : Int32).toInt ≤ 400 := pf_84
      have pf_85 : 0 ≤ ((Vv 0) : Int32).toInt ∧ ((Vv 0) : Int32).toInt ≤ 400 := pf_85
      have pf_86 : TpR (Tf 1) (Tv 0) (rC1 ro_74) (Tv 1) (Tv 2) sv_82 sv_83 := pf_86
      obtain ⟨ro_88, ero_88⟩ : ∃ z : Except Int (Nat × Nat), z = (rC1 ro_74) := ⟨_, rfl⟩
      rw [← ero_88] at pf_86
      have tb_89 : TpB (rTE (cB (Tf 1) (Tv 0)) ro_88) (Tv 2) sv_83 := TpR.tb pf_86
      have ck_90 : CdK (Vf 1) (Vv 0) ro_88 ll := by rw [ero_88]; exact (CdK.c1 ck_77)
      have pf_87 : Ctd (rC1 ro_74) sv_81 := pf_87
      rw [← ero_88] at pf_87
      refine W.eq (g2 := F0 m 53 ls []) rfl ?_
      replace hP : va_P D classes [((Va 0), .inr (7, [.ref (Va 1), .int (Vv 0), .int sv_81])), ((Va 1), .inl (tc 0, 400, .inl (Vf 1))), ((Ta 0), .inr (10, [.ref (Ta 1), .int (Tv 0), .int (Tv 1), .int (Tv 2), .int sv_82, .int sv_83])), ((Ta 1), .inl (tc 0, 400, .inl (Tf 1)))] H := hP₀
      replace hD : va_D A [((Va 0), .inr (7, [.ref (Va 1), .int (Vv 0), .int sv_81])), ((Va 1), .inl (tc 0, 400, .inl (Vf 1))), ((Ta 0), .inr (10, [.ref (Ta 1), .int (Tv 0), .int (Tv 1), .int (Tv 2), .int sv_82, .int sv_83])), ((Ta 1), .inl (tc 0, 400, .inl (Tf 1)))] := hD₀
      replace hS := hS₀
      clear hP₀ hD₀ hS₀
      refine lv_aload_n hx hb dX7_readValue_53 rfl (lv_at hl 2 rfl) ?_
      refine lv_iload_n hx hb dX7_readValue_54 rfl (lv_at hl 1 rfl) ?_
      refine cV (a := (Va 0)) (As := [.int 0]) (rest := []) (wr := [((Ta 0), .inr (10, [.ref (Ta 1), .int (Tv 0), .int (Tv 1), .int (Tv 2), .int sv_82, .int sv_83])), ((Ta 1), .inl (tc 0, 400, .inl (Tf 1)))]) ⟨hx, hb, hml, hown, hts⟩ hK hX hA (cu_kX7_put l D tc sk (Va 0) (Va 1) (Vv 0) sv_81 (Vf 1) 0 ro_88 ll pf_85 ck_90) k_642 k_639 k_641 k_10 k_99 pl_X7_put ⟨Nat.le_of_ble_eq_true rfl, Nat.le_of_ble_eq_true rfl⟩ rfl rfl (va_recv hK hP (ci := 7) (q0 := 0) rfl rfl) hP hD hS [0, 1] [2, 3] rfl rfl rfl rfl rfl (by decide) rfl hl.1 rfl (Nat.le_of_ble_eq_true rfl) dX7_readValue_55 ⟨Nat.le_of_ble_eq_true rfl, Nat.le_of_ble_eq_true rfl⟩ (fun v_91 u_92 H locs hv_93 hP₀ hD₀ hS₀ => ?_)
      obtain ⟨sv_94, sv_95⟩ := u_92
      obtain ⟨rfl, pf_96, pf_97⟩ := hv_93
      have pf_96 : 0 ≤ (sv_94 : Int32).toInt ∧ (sv_94 : Int32).toInt ≤ 400 := pf_96
      have pf_97 : CdK sv_95 sv_94 ro_88 (ll ++ [(0 : Int32).toInt]) := pf_97
      rw [show (0 : Int32).toInt = 0 by decide] at pf_97
      obtain ⟨ro_98, ero_98⟩ : ∃ z : List Int, z = (ll ++ [0]) := ⟨_, rfl⟩
      rw [← ero_98] at pf_97
      refine W.eq (g2 := F0 m 58 ls []) rfl ?_
      replace hP : va_P D classes [((Ta 0), .inr (10, [.ref (Ta 1), .int (Tv 0), .int (Tv 1), .int (Tv 2), .int sv_82, .int sv_83])), ((Ta 1), .inl (tc 0, 400, .inl (Tf 1))), ((Va 0), .inr (7, [.ref (Va 1), .int sv_94, .int sv_81])), ((Va 1), .inl (tc 0, 400, .inl sv_95))] H := hP₀
      replace hD : va_D A [((Ta 0), .inr (10, [.ref (Ta 1), .int (Tv 0), .int (Tv 1), .int (Tv 2), .int sv_82, .int sv_83])), ((Ta 1), .inl (tc 0, 400, .inl (Tf 1))), ((Va 0), .inr (7, [.ref (Va 1), .int sv_94, .int sv_81])), ((Va 1), .inl (tc 0, 400, .inl sv_95))] := hD₀
      replace hS := hS₀
      clear hP₀ hD₀ hS₀
      refine lv_aload_n hx hb dX7_readValue_58 rfl (lv_at hl 3 rfl) ?_
      refine cV (a := (Ta 0)) (As := []) (rest := []) (wr := [((Va 0), .inr (7, [.ref (Va 1), .int sv_94, .int sv_81])), ((Va 1), .inl (tc 0, 400, .inl sv_95))]) ⟨hx, hb, hml, hown, hts⟩ hK hX hA (cu_fX10_step l D tc sk (Ta 0) (Ta 1) (Tv 0) (Tv 1) (Tv 2) sv_82 sv_83 (Tf 1) (rTE (cB (Tf 1) (Tv 0)) ro_88) pf_84 h_by tb_89) k_478 k_620 k_476 k_477 k_96 pl_X10_step ⟨Nat.le_of_ble_eq_true rfl, Nat.le_of_ble_eq_true rfl⟩ rfl rfl (va_recv hK hP (ci := 10) (q0 := 0) rfl rfl) hP hD hS [0, 1] [2, 3] rfl rfl rfl rfl rfl (by decide) rfl hl.1 rfl (Nat.le_of_ble_eq_true rfl) dX7_readValue_59 ⟨Nat.le_of_ble_eq_true rfl, Nat.le_of_ble_eq_true rfl⟩ (fun v_99 u_100 H locs hv_101 hP₀ hD₀ hS₀ => ?_)
      obtain ⟨sv_102, sv_103, sv_104⟩ := u_100
      obtain ⟨rfl, pf_105, pf_106⟩ := hv_101
      have pf_105 : 0 ≤ ((Tv 0) : Int32).toInt ∧ ((Tv 0) : Int32).toInt ≤ 400 ∧ 0 ≤ (sv_102 : Int32).toInt ∧ (sv_102 : Int32).toInt ≤ 400 ∧ 0 ≤ (sv_103 : Int32).toInt ∧ (sv_103 : Int32).toInt ≤ 400 := pf_105
      have pf_106 : TpR (Tf 1) (Tv 0) (rSK (cB (Tf 1) (Tv 0)) (rTE (cB (Tf 1) (Tv 0)) ro_88)) sv_102 sv_103 sv_104 sv_83 := pf_106
      rw [rNX_eq] at pf_106
      obtain ⟨ro_107, ero_107⟩ : ∃ z : Except Int (Nat × Nat), z = (rNX (cB (Tf 1) (Tv 0)) ro_88) := ⟨_, rfl⟩
      rw [← ero_107] at pf_106
      have tb_108 : TpB (rTE (cB (Tf 1) (Tv 0)) ro_107) sv_103 sv_83 := TpR.tb pf_106
      have cd_109 : Ctd ro_107 sv_81 := by rw [ero_107]; exact (Ctd.nx pf_87)
      have ck_110 : CdK sv_95 sv_94 ro_107 ro_98 := by rw [ero_107]; exact (CdK.nx pf_97)
      refine W.eq (g2 := F0 m 62 ls []) rfl ?_
      replace hP : va_P D classes [((Va 0), .inr (7, [.ref (Va 1), .int sv_94, .int sv_81])), ((Va 1), .inl (tc 0, 400, .inl sv_95)), ((Ta 0), .inr (10, [.ref (Ta 1), .int (Tv 0), .int sv_102, .int sv_103, .int sv_104, .int sv_83])), ((Ta 1), .inl (tc 0, 400, .inl (Tf 1)))] H := hP₀
      replace hD : va_D A [((Va 0), .inr (7, [.ref (Va 1), .int sv_94, .int sv_81])), ((Va 1), .inl (tc 0, 400, .inl sv_95)), ((Ta 0), .inr (10, [.ref (Ta 1), .int (Tv 0), .int sv_102, .int sv_103, .int sv_104, .int sv_83])), ((Ta 1), .inl (tc 0, 400, .inl (Tf 1)))] := hD₀
      replace hS := hS₀
      clear hP₀ hD₀ hS₀
      have hf_111 : TpR (Tf 1) (Tv 0) (pz_b rr (pz_val (cB (Tf 1) (Tv 0)))) sv_102 sv_103 sv_104 sv_83 := by
        have hE_112 : (pz_b rr (pz_val (cB (Tf 1) (Tv 0)))) = ro_107 := by
          rw [ero_107, ero_88, ero_74]
          have hr_113 : ¬ (48 ≤ (Tv 3).toInt ∧ (Tv 3).toInt ≤ 57) := by
            have z_1 := congrArg Int32.toInt c_8
            have z_2 := congrArg Int32.toInt c_16
            have y_m1 : (-1 : Int32).toInt = -1 := by decide
            have y_0 : (0 : Int32).toInt = 0 := by decide
            omega
          have hr_114 : (r_13 : Int32).toInt = -1 := by
            have z_1 := congrArg Int32.toInt c_8
            have z_2 := congrArg Int32.toInt c_16
            have y_m1 : (-1 : Int32).toInt = -1 := by decide
            have y_0 : (0 : Int32).toInt = 0 := by decide
            omega
          exact (val_no h_r hr_113 (he_14.symm.trans hr_114))
        rw [hE_112]
        exact pf_106
      have hf_115 : Ctd (pz_b rr (pz_val (cB (Tf 1) (Tv 0)))) sv_81 := by
        have hE_116 : (pz_b rr (pz_val (cB (Tf 1) (Tv 0)))) = ro_107 := by
          rw [ero_107, ero_88, ero_74]
          have hr_117 : ¬ (48 ≤ (Tv 3).toInt ∧ (Tv 3).toInt ≤ 57) := by
            have z_1 := congrArg Int32.toInt c_8
            have z_2 := congrArg Int32.toInt c_16
            have y_m1 : (-1 : Int32).toInt = -1 := by decide
            have y_0 : (0 : Int32).toInt = 0 := by decide
            omega
          have hr_118 : (r_13 : Int32).toInt = -1 := by
            have z_1 := congrArg Int32.toInt c_8
            have z_2 := congrArg Int32.toInt c_16
            have y_m1 : (-1 : Int32).toInt = -1 := by decide
            have y_0 : (0 : Int32).toInt = 0 := by decide
            omega
          exact (val_no h_r hr_117 (he_14.symm.trans hr_118))
        rw [hE_116]
        exact cd_109
      have hE_119 : (pz_b rr (pz_val (cB (Tf 1) (Tv 0)))) = ro_107 := by
        rw [ero_107, ero_88, ero_74]
        have hr_120 : ¬ (48 ≤ (Tv 3).toInt ∧ (Tv 3).toInt ≤ 57) := by
          have z_1 := congrArg Int32.toInt c_8
          have z_2 := congrArg Int32.toInt c_16
          have y_m1 : (-1 : Int32).toInt = -1 := by decide
          have y_0 : (0 : Int32).toInt = 0 := by decide
          omega
        have hr_121 : (r_13 : Int32).toInt = -1 := by
          have z_1 := congrArg Int32.toInt c_8
          have z_2 := congrArg Int32.toInt c_16
          have y_m1 : (-1 : Int32).toInt = -1 := by decide
          have y_0 : (0 : Int32).toInt = 0 := by decide
          omega
        exact (val_no h_r hr_120 (he_14.symm.trans hr_121))
      have hf_122 : CdK sv_95 sv_94 (pz_b rr (pz_val (cB (Tf 1) (Tv 0)))) (Ap rr (lval (cB (Tf 1) (Tv 0))) ll) := CdK.to ck_110 hE_119 (fun t ht => by
        rw [ero_98]
        have hr_123 : ¬ (48 ≤ (Tv 3).toInt ∧ (Tv 3).toInt ≤ 57) := by
          have z_1 := congrArg Int32.toInt c_8
          have z_2 := congrArg Int32.toInt c_16
          have y_m1 : (-1 : Int32).toInt = -1 := by decide
          have y_0 : (0 : Int32).toInt = 0 := by decide
          omega
        have hr_124 : (r_13 : Int32).toInt = -1 := by
          have z_1 := congrArg Int32.toInt c_8
          have z_2 := congrArg Int32.toInt c_16
          have y_m1 : (-1 : Int32).toInt = -1 := by decide
          have y_0 : (0 : Int32).toInt = 0 := by decide
          omega
        exact (vl_no (val_no h_r hr_123 (he_14.symm.trans hr_124))) t ht)
      exact retV hx hb hr hlk hP hD hS (sv_94, sv_81, sv_95, sv_102, sv_103, sv_104, sv_83) ⟨rfl, pf_105, pf_96, hf_111, hf_115, hf_122⟩ [0, 1, 2, 3] rfl rfl dX7_readValue_62 (Nat.le_of_ble_eq_true rfl) (Nat.le_of_ble_eq_true rfl) rfl
  · skip
    refine lv_aload_n hx hb dX7_readValue_12 rfl (lv_at hl 2 rfl) ?_
    refine lv_iconst (v := 0) hx hb dX7_readValue_13 (by decide) ?_
    refine lv_ldc hx hb hown (hts _ k_630) dX7_readValue_14 ?_
    have ha_125 : (0 : Int32).toInt = (0 : Int) := by
      have z_1 : ¬ (r_5 : Int32).toInt = (0 : Int32).toInt := fun z => c_8 (Int32.toInt_inj.mp z)
      have y_0 : (0 : Int32).toInt = 0 := by decide
      omega
    have ha_126 : (99999 : Int32).toInt = (99999 : Int) := by
      have z_1 : ¬ (r_5 : Int32).toInt = (0 : Int32).toInt := fun z => c_8 (Int32.toInt_inj.mp z)
      have y_0 : (0 : Int32).toInt = 0 := by decide
      have y_99999 : (99999 : Int32).toInt = 99999 := by decide
      omega
    refine cV (a := (Ta 0)) (As := [.int 0, .int 99999]) (rest := []) (wr := [((Va 0), .inr (7, [.ref (Va 1), .int (Vv 0), .int (Vv 1)])), ((Va 1), .inl (tc 0, 400, .inl (Vf 1)))]) ⟨hx, hb, hml, hown, hts⟩ hK hX hA (cu_fX10_numberHere l D tc sk (Ta 0) (Ta 1) (Tv 0) (Tv 1) (Tv 2) (Tv 3) (Tv 4) (Tf 1) 0 99999 rr 0 99999 h_tape h_by h_r ha_125 ha_126) k_570 k_631 k_568 k_569 k_96 pl_X10_numberHere ⟨Nat.le_of_ble_eq_true rfl, Nat.le_of_ble_eq_true rfl⟩ rfl rfl (va_recv hK hP (ci := 10) (q0 := 2) rfl rfl) hP hD hS [2, 3] [0, 1] rfl rfl rfl rfl rfl (by decide) rfl hl.1 rfl (Nat.le_of_ble_eq_true rfl) dX7_readValue_16 ⟨Nat.le_of_ble_eq_true rfl, Nat.le_of_ble_eq_true rfl⟩ (fun v_127 u_128 H locs hv_129 hP₀ hD₀ hS₀ => ?_)
    obtain ⟨sv_130, sv_131⟩ := u_128
    obtain ⟨r_134, rfl, he_135, pf_132, pf_133⟩ := hv_129
    have he_135 : NuV (cB (Tf 1) (Tv 0)) (0 : Int) (99999 : Int) rr r_134 := he_135
    have pf_132 : 0 ≤ ((Tv 0) : Int32).toInt ∧ ((Tv 0) : Int32).toInt ≤ 400 ∧ 0 ≤ ((Tv 1) : Int32).toInt ∧ ((Tv 1) : Int32).toInt ≤ 400 ∧ 0 ≤ ((Tv 2) : Int32).toInt ∧ ((Tv 2) : Int32).toInt ≤ 400 := pf_132
    have pf_133 : TpR (Tf 1) (Tv 0) (rNU (cB (Tf 1) (Tv 0)) (0 : Int) (99999 : Int) rr) (Tv 1) (Tv 2) sv_130 sv_131 := pf_133
    obtain ⟨ro_137, ero_137⟩ : ∃ z : Except Int (Nat × Nat), z = (rNU (cB (Tf 1) (Tv 0)) 0 99999 rr) := ⟨_, rfl⟩
    rw [← ero_137] at pf_133
    have tb_138 : TpB (rTE (cB (Tf 1) (Tv 0)) ro_137) (Tv 2) sv_131 := TpR.tb pf_133
    have cd_139 : Ctd ro_137 (Vv 1) := by rw [ero_137]; exact (Ctd.nu h_ct)
    have ck_140 : CdK (Vf 1) (Vv 0) ro_137 ll := by rw [ero_137]; exact (CdK.nu h_cd)
    refine W.eq (g2 := F0 m 19 ls [.int r_134]) rfl ?_
    replace hP : va_P D classes [((Va 0), .inr (7, [.ref (Va 1), .int (Vv 0), .int (Vv 1)])), ((Va 1), .inl (tc 0, 400, .inl (Vf 1))), ((Ta 0), .inr (10, [.ref (Ta 1), .int (Tv 0), .int (Tv 1), .int (Tv 2), .int sv_130, .int sv_131])), ((Ta 1), .inl (tc 0, 400, .inl (Tf 1)))] H := hP₀
    replace hD : va_D A [((Va 0), .inr (7, [.ref (Va 1), .int (Vv 0), .int (Vv 1)])), ((Va 1), .inl (tc 0, 400, .inl (Vf 1))), ((Ta 0), .inr (10, [.ref (Ta 1), .int (Tv 0), .int (Tv 1), .int (Tv 2), .int sv_130, .int sv_131])), ((Ta 1), .inl (tc 0, 400, .inl (Tf 1)))] := hD₀
    replace hS := hS₀
    clear hP₀ hD₀ hS₀
    refine lv_istore_n (lv' := [(2, .int r_134), (0, .ref (Va 0)), (1, .ref (Ta 0))]) hx hb dX7_readValue_19 rfl hl (by decide) rfl (fun ls hl₀ => ?_)
    replace hl := hl₀
    clear hl₀
    refine lv_goto (tgt := 48) hx hb dX7_readValue_20 (by decide) ?_
    refine lv_aload_n hx hb dX7_readValue_48 rfl (lv_at hl 1 rfl) ?_
    refine lv_aload_n hx hb dX7_readValue_49 rfl (lv_at hl 2 rfl) ?_
    refine cV (a := (Va 0)) (As := [.ref (Ta 0)]) (rest := []) (wr := []) ⟨hx, hb, hml, hown, hts⟩ hK hX hA (cu_fX7_countOne l D tc sk (Va 0) (Va 1) (Vv 0) (Vv 1) (Vf 1) (Ta 0) (Ta 1) (Tv 0) (Tv 1) (Tv 2) sv_130 sv_131 (Tf 1) ro_137 pf_132 h_u h_by pf_133 cd_139) k_638 k_635 k_637 k_9 k_99 pl_X7_countOne ⟨Nat.le_of_ble_eq_true rfl, Nat.le_of_ble_eq_true rfl⟩ rfl rfl (va_recv hK hP (ci := 7) (q0 := 0) rfl rfl) hP hD hS [0, 1, 2, 3] [] rfl rfl rfl rfl rfl (by decide) rfl hl.1 rfl (Nat.le_of_ble_eq_true rfl) dX7_readValue_50 ⟨Nat.le_of_ble_eq_true rfl, Nat.le_of_ble_eq_true rfl⟩ (fun v_141 u_142 H locs hv_143 hP₀ hD₀ hS₀ => ?_)
    obtain ⟨sv_144, sv_145, sv_146⟩ := u_142
    obtain ⟨rfl, pf_147, pf_148, pf_149, pf_150⟩ := hv_143
    have pf_147 : 0 ≤ ((Tv 0) : Int32).toInt ∧ ((Tv 0) : Int32).toInt ≤ 400 ∧ 0 ≤ ((Tv 1) : Int32).toInt ∧ ((Tv 1) : Int32).toInt ≤ 400 ∧ 0 ≤ ((Tv 2) : Int32).toInt ∧ ((Tv 2) : Int32).toInt ≤ 400 := pf_147
    have pf_148 : 0 ≤ ((Vv 0) : Int32).toInt ∧ ((Vv 0) : Int32).toInt ≤ 400 := pf_148
    have pf_149 : TpR (Tf 1) (Tv 0) (rC1 ro_137) (Tv 1) (Tv 2) sv_145 sv_146 := pf_149
    obtain ⟨ro_151, ero_151⟩ : ∃ z : Except Int (Nat × Nat), z = (rC1 ro_137) := ⟨_, rfl⟩
    rw [← ero_151] at pf_149
    have tb_152 : TpB (rTE (cB (Tf 1) (Tv 0)) ro_151) (Tv 2) sv_146 := TpR.tb pf_149
    have ck_153 : CdK (Vf 1) (Vv 0) ro_151 ll := by rw [ero_151]; exact (CdK.c1 ck_140)
    have pf_150 : Ctd (rC1 ro_137) sv_144 := pf_150
    rw [← ero_151] at pf_150
    refine W.eq (g2 := F0 m 53 ls []) rfl ?_
    replace hP : va_P D classes [((Va 0), .inr (7, [.ref (Va 1), .int (Vv 0), .int sv_144])), ((Va 1), .inl (tc 0, 400, .inl (Vf 1))), ((Ta 0), .inr (10, [.ref (Ta 1), .int (Tv 0), .int (Tv 1), .int (Tv 2), .int sv_145, .int sv_146])), ((Ta 1), .inl (tc 0, 400, .inl (Tf 1)))] H := hP₀
    replace hD : va_D A [((Va 0), .inr (7, [.ref (Va 1), .int (Vv 0), .int sv_144])), ((Va 1), .inl (tc 0, 400, .inl (Vf 1))), ((Ta 0), .inr (10, [.ref (Ta 1), .int (Tv 0), .int (Tv 1), .int (Tv 2), .int sv_145, .int sv_146])), ((Ta 1), .inl (tc 0, 400, .inl (Tf 1)))] := hD₀
    replace hS := hS₀
    clear hP₀ hD₀ hS₀
    refine lv_aload_n hx hb dX7_readValue_53 rfl (lv_at hl 1 rfl) ?_
    refine lv_iload_n hx hb dX7_readValue_54 rfl (lv_at hl 0 rfl) ?_
    refine cV (a := (Va 0)) (As := [.int r_134]) (rest := []) (wr := [((Ta 0), .inr (10, [.ref (Ta 1), .int (Tv 0), .int (Tv 1), .int (Tv 2), .int sv_145, .int sv_146])), ((Ta 1), .inl (tc 0, 400, .inl (Tf 1)))]) ⟨hx, hb, hml, hown, hts⟩ hK hX hA (cu_kX7_put l D tc sk (Va 0) (Va 1) (Vv 0) sv_144 (Vf 1) r_134 ro_151 ll pf_148 ck_153) k_642 k_639 k_641 k_10 k_99 pl_X7_put ⟨Nat.le_of_ble_eq_true rfl, Nat.le_of_ble_eq_true rfl⟩ rfl rfl (va_recv hK hP (ci := 7) (q0 := 0) rfl rfl) hP hD hS [0, 1] [2, 3] rfl rfl rfl rfl rfl (by decide) rfl hl.1 rfl (Nat.le_of_ble_eq_true rfl) dX7_readValue_55 ⟨Nat.le_of_ble_eq_true rfl, Nat.le_of_ble_eq_true rfl⟩ (fun v_154 u_155 H locs hv_156 hP₀ hD₀ hS₀ => ?_)
    obtain ⟨sv_157, sv_158⟩ := u_155
    obtain ⟨rfl, pf_159, pf_160⟩ := hv_156
    have pf_159 : 0 ≤ (sv_157 : Int32).toInt ∧ (sv_157 : Int32).toInt ≤ 400 := pf_159
    have pf_160 : CdK sv_158 sv_157 ro_151 (ll ++ [r_134.toInt]) := pf_160
    obtain ⟨ro_161, ero_161⟩ : ∃ z : List Int, z = (ll ++ [r_134.toInt]) := ⟨_, rfl⟩
    rw [← ero_161] at pf_160
    refine W.eq (g2 := F0 m 58 ls []) rfl ?_
    replace hP : va_P D classes [((Ta 0), .inr (10, [.ref (Ta 1), .int (Tv 0), .int (Tv 1), .int (Tv 2), .int sv_145, .int sv_146])), ((Ta 1), .inl (tc 0, 400, .inl (Tf 1))), ((Va 0), .inr (7, [.ref (Va 1), .int sv_157, .int sv_144])), ((Va 1), .inl (tc 0, 400, .inl sv_158))] H := hP₀
    replace hD : va_D A [((Ta 0), .inr (10, [.ref (Ta 1), .int (Tv 0), .int (Tv 1), .int (Tv 2), .int sv_145, .int sv_146])), ((Ta 1), .inl (tc 0, 400, .inl (Tf 1))), ((Va 0), .inr (7, [.ref (Va 1), .int sv_157, .int sv_144])), ((Va 1), .inl (tc 0, 400, .inl sv_158))] := hD₀
    replace hS := hS₀
    clear hP₀ hD₀ hS₀
    refine lv_aload_n hx hb dX7_readValue_58 rfl (lv_at hl 2 rfl) ?_
    refine cV (a := (Ta 0)) (As := []) (rest := []) (wr := [((Va 0), .inr (7, [.ref (Va 1), .int sv_157, .int sv_144])), ((Va 1), .inl (tc 0, 400, .inl sv_158))]) ⟨hx, hb, hml, hown, hts⟩ hK hX hA (cu_fX10_step l D tc sk (Ta 0) (Ta 1) (Tv 0) (Tv 1) (Tv 2) sv_145 sv_146 (Tf 1) (rTE (cB (Tf 1) (Tv 0)) ro_151) pf_147 h_by tb_152) k_478 k_620 k_476 k_477 k_96 pl_X10_step ⟨Nat.le_of_ble_eq_true rfl, Nat.le_of_ble_eq_true rfl⟩ rfl rfl (va_recv hK hP (ci := 10) (q0 := 0) rfl rfl) hP hD hS [0, 1] [2, 3] rfl rfl rfl rfl rfl (by decide) rfl hl.1 rfl (Nat.le_of_ble_eq_true rfl) dX7_readValue_59 ⟨Nat.le_of_ble_eq_true rfl, Nat.le_of_ble_eq_true rfl⟩ (fun v_162 u_163 H locs hv_164 hP₀ hD₀ hS₀ => ?_)
    obtain ⟨sv_165, sv_166, sv_167⟩ := u_163
    obtain ⟨rfl, pf_168, pf_169⟩ := hv_164
    have pf_168 : 0 ≤ ((Tv 0) : Int32).toInt ∧ ((Tv 0) : Int32).toInt ≤ 400 ∧ 0 ≤ (sv_165 : Int32).toInt ∧ (sv_165 : Int32).toInt ≤ 400 ∧ 0 ≤ (sv_166 : Int32).toInt ∧ (sv_166 : Int32).toInt ≤ 400 := pf_168
    have pf_169 : TpR (Tf 1) (Tv 0) (rSK (cB (Tf 1) (Tv 0)) (rTE (cB (Tf 1) (Tv 0)) ro_151)) sv_165 sv_166 sv_167 sv_146 := pf_169
    rw [rNX_eq] at pf_169
    obtain ⟨ro_170, ero_170⟩ : ∃ z : Except Int (Nat × Nat), z = (rNX (cB (Tf 1) (Tv 0)) ro_151) := ⟨_, rfl⟩
    rw [← ero_170] at pf_169
    have tb_171 : TpB (rTE (cB (Tf 1) (Tv 0)) ro_170) sv_166 sv_146 := TpR.tb pf_169
    have cd_172 : Ctd ro_170 sv_144 := by rw [ero_170]; exact (Ctd.nx pf_150)
    have ck_173 : CdK sv_158 sv_157 ro_170 ro_161 := by rw [ero_170]; exact (CdK.nx pf_160)
    refine W.eq (g2 := F0 m 62 ls []) rfl ?_
    replace hP : va_P D classes [((Va 0), .inr (7, [.ref (Va 1), .int sv_157, .int sv_144])), ((Va 1), .inl (tc 0, 400, .inl sv_158)), ((Ta 0), .inr (10, [.ref (Ta 1), .int (Tv 0), .int sv_165, .int sv_166, .int sv_167, .int sv_146])), ((Ta 1), .inl (tc 0, 400, .inl (Tf 1)))] H := hP₀
    replace hD : va_D A [((Va 0), .inr (7, [.ref (Va 1), .int sv_157, .int sv_144])), ((Va 1), .inl (tc 0, 400, .inl sv_158)), ((Ta 0), .inr (10, [.ref (Ta 1), .int (Tv 0), .int sv_165, .int sv_166, .int sv_167, .int sv_146])), ((Ta 1), .inl (tc 0, 400, .inl (Tf 1)))] := hD₀
    replace hS := hS₀
    clear hP₀ hD₀ hS₀
    have hf_174 : TpR (Tf 1) (Tv 0) (pz_b rr (pz_val (cB (Tf 1) (Tv 0)))) sv_165 sv_166 sv_167 sv_146 := by
      have hE_175 : (pz_b rr (pz_val (cB (Tf 1) (Tv 0)))) = ro_170 := by
        rw [ero_170, ero_151, ero_137]
        have hr_176 : 48 ≤ (Tv 3).toInt ∧ (Tv 3).toInt ≤ 57 := by
          have z_1 : ¬ (r_5 : Int32).toInt = (0 : Int32).toInt := fun z => c_8 (Int32.toInt_inj.mp z)
          have y_0 : (0 : Int32).toInt = 0 := by decide
          omega
        exact (val_dig h_r hr_176)
      rw [hE_175]
      exact pf_169
    have hf_177 : Ctd (pz_b rr (pz_val (cB (Tf 1) (Tv 0)))) sv_144 := by
      have hE_178 : (pz_b rr (pz_val (cB (Tf 1) (Tv 0)))) = ro_170 := by
        rw [ero_170, ero_151, ero_137]
        have hr_179 : 48 ≤ (Tv 3).toInt ∧ (Tv 3).toInt ≤ 57 := by
          have z_1 : ¬ (r_5 : Int32).toInt = (0 : Int32).toInt := fun z => c_8 (Int32.toInt_inj.mp z)
          have y_0 : (0 : Int32).toInt = 0 := by decide
          omega
        exact (val_dig h_r hr_179)
      rw [hE_178]
      exact cd_172
    have hE_180 : (pz_b rr (pz_val (cB (Tf 1) (Tv 0)))) = ro_170 := by
      rw [ero_170, ero_151, ero_137]
      have hr_181 : 48 ≤ (Tv 3).toInt ∧ (Tv 3).toInt ≤ 57 := by
        have z_1 : ¬ (r_5 : Int32).toInt = (0 : Int32).toInt := fun z => c_8 (Int32.toInt_inj.mp z)
        have y_0 : (0 : Int32).toInt = 0 := by decide
        omega
      exact (val_dig h_r hr_181)
    have hf_182 : CdK sv_158 sv_157 (pz_b rr (pz_val (cB (Tf 1) (Tv 0)))) (Ap rr (lval (cB (Tf 1) (Tv 0))) ll) := CdK.to ck_173 hE_180 (fun t ht => by
      rw [ero_161]
      have hr_183 : 48 ≤ (Tv 3).toInt ∧ (Tv 3).toInt ≤ 57 := by
        have z_1 : ¬ (r_5 : Int32).toInt = (0 : Int32).toInt := fun z => c_8 (Int32.toInt_inj.mp z)
        have y_0 : (0 : Int32).toInt = 0 := by decide
        omega
      exact (vl_dig h_r hr_183 he_135) t ht)
    exact retV hx hb hr hlk hP hD hS (sv_157, sv_144, sv_158, sv_165, sv_166, sv_167, sv_146) ⟨rfl, pf_168, pf_159, hf_174, hf_177, hf_182⟩ [0, 1, 2, 3] rfl rfl dX7_readValue_62 (Nat.le_of_ble_eq_true rfl) (Nat.le_of_ble_eq_true rfl) rfl
set_option maxRecDepth 100000 in
theorem cu_kX7_readValue (l : Launch) (D : va_G) (tc : Nat → ClassId) (sk : (Nat → Nat) × (Nat → Nat)) (Va_0 : Nat) (Va_1 : Nat) (Vv_0 : Int32) (Vv_1 : Int32) (Vf_1 : Nat → Int32) (Ta_0 : Nat) (Ta_1 : Nat) (Tv_0 : Int32) (Tv_1 : Int32) (Tv_2 : Int32) (Tv_3 : Int32) (Tv_4 : Int32) (Tf_1 : Nat → Int32) (rr : Except Int (Nat × Nat)) (ll : List Int) (h_tape : 0 ≤ (Tv_0 : Int32).toInt ∧ (Tv_0 : Int32).toInt ≤ 400 ∧ 0 ≤ (Tv_1 : Int32).toInt ∧ (Tv_1 : Int32).toInt ≤ 400 ∧ 0 ≤ (Tv_2 : Int32).toInt ∧ (Tv_2 : Int32).toInt ≤ 400) (h_u : 0 ≤ (Vv_0 : Int32).toInt ∧ (Vv_0 : Int32).toInt ≤ 400) (h_by : Byt Tf_1) (h_r : TpR Tf_1 Tv_0 rr Tv_1 Tv_2 Tv_3 Tv_4) (h_ct : Ctd rr Vv_1) (h_cd : CdK Vf_1 Vv_0 rr ll) : Ct l yX7_readValue cX7_readValue 4 none { frames := 6, cells := 0, slots := 0, locals := 133 } D tc sk [.ref Va_0, .ref Ta_0] [(Va_0, .inr (7, [.ref Va_1, .int Vv_0, .int Vv_1])), (Va_1, .inl (tc 0, 400, .inl Vf_1)), (Ta_0, .inr (10, [.ref Ta_1, .int Tv_0, .int Tv_1, .int Tv_2, .int Tv_3, .int Tv_4])), (Ta_1, .inl (tc 0, 400, .inl Tf_1))] (fun (v : Option Value) (u : (Int32) × (Int32) × (Nat → Int32) × (Int32) × (Int32) × (Int32) × (Int32)) => match u with | (oo0x1, oo0x2, oo0x3, oo0x4, oo0x5, oo0x6, oo0x7) => v = none ∧ (0 ≤ (Tv_0 : Int32).toInt ∧ (Tv_0 : Int32).toInt ≤ 400 ∧ 0 ≤ (oo0x4 : Int32).toInt ∧ (oo0x4 : Int32).toInt ≤ 400 ∧ 0 ≤ (oo0x5 : Int32).toInt ∧ (oo0x5 : Int32).toInt ≤ 400) ∧ (0 ≤ (oo0x1 : Int32).toInt ∧ (oo0x1 : Int32).toInt ≤ 400) ∧ (TpR Tf_1 Tv_0 (pz_b rr (pz_val (cB Tf_1 Tv_0))) oo0x4 oo0x5 oo0x6 oo0x7) ∧ (Ctd (pz_b rr (pz_val (cB Tf_1 Tv_0))) oo0x2) ∧ (CdK oo0x3 oo0x1 (pz_b rr (pz_val (cB Tf_1 Tv_0))) (Ap rr (lval (cB Tf_1 Tv_0)) ll))) (fun (u : (Int32) × (Int32) × (Nat → Int32) × (Int32) × (Int32) × (Int32) × (Int32)) => match u with | (oo0x1, oo0x2, oo0x3, oo0x4, oo0x5, oo0x6, oo0x7) => [(Va_0, .inr (7, [.ref Va_1, .int oo0x1, .int oo0x2])), (Va_1, .inl (tc 0, 400, .inl oo0x3)), (Ta_0, .inr (10, [.ref Ta_1, .int Tv_0, .int oo0x4, .int oo0x5, .int oo0x6, .int oo0x7])), (Ta_1, .inl (tc 0, 400, .inl Tf_1))]) 0 0 :=
  ct_kX7_readValue l D tc sk (fun k => ([Va_0, Va_1] : List (Nat)).getD k 0) (fun k => ([Vv_0, Vv_1] : List (Int32)).getD k 0) (fun k => ([(fun _ => 0), Vf_1] : List (Nat → Int32)).getD k (fun _ => 0)) (fun k => ([Ta_0, Ta_1] : List (Nat)).getD k 0) (fun k => ([Tv_0, Tv_1, Tv_2, Tv_3, Tv_4] : List (Int32)).getD k 0) (fun k => ([(fun _ => 0), Tf_1] : List (Nat → Int32)).getD k (fun _ => 0)) rr ll h_tape h_u h_by h_r h_ct h_cd
set_option maxHeartbeats 4000000 in
set_option maxRecDepth 100000 in
theorem ct_kX7_readSum (l : Launch) (D : va_G) (tc : Nat → ClassId) (sk : (Nat → Nat) × (Nat → Nat)) (Va : Nat → Nat) (Vv : Nat → Int32) (Vf : Nat → Nat → Int32) (Ta : Nat → Nat) (Tv : Nat → Int32) (Tf : Nat → Nat → Int32) (rr : Except Int (Nat × Nat)) (ll : List Int) (h_tape : 0 ≤ ((Tv 0) : Int32).toInt ∧ ((Tv 0) : Int32).toInt ≤ 400 ∧ 0 ≤ ((Tv 1) : Int32).toInt ∧ ((Tv 1) : Int32).toInt ≤ 400 ∧ 0 ≤ ((Tv 2) : Int32).toInt ∧ ((Tv 2) : Int32).toInt ≤ 400) (h_u : 0 ≤ ((Vv 0) : Int32).toInt ∧ ((Vv 0) : Int32).toInt ≤ 400) (h_by : Byt (Tf 1)) (h_r : TpR (Tf 1) (Tv 0) rr (Tv 1) (Tv 2) (Tv 3) (Tv 4)) (h_ct : Ctd rr (Vv 1)) (h_cd : CdK (Vf 1) (Vv 0) rr ll) : Ct l yX7_readSum cX7_readSum 5 none { frames := 7, cells := 0, slots := 0, locals := 156 } D tc sk [.ref (Va 0), .ref (Ta 0)] [((Va 0), .inr (7, [.ref (Va 1), .int (Vv 0), .int (Vv 1)])), ((Va 1), .inl (tc 0, 400, .inl (Vf 1))), ((Ta 0), .inr (10, [.ref (Ta 1), .int (Tv 0), .int (Tv 1), .int (Tv 2), .int (Tv 3), .int (Tv 4)])), ((Ta 1), .inl (tc 0, 400, .inl (Tf 1)))] (fun (v : Option Value) (u : (Int32) × (Int32) × (Nat → Int32) × (Int32) × (Int32) × (Int32) × (Int32)) => match u with | (oo0x1, oo0x2, oo0x3, oo0x4, oo0x5, oo0x6, oo0x7) => v = none ∧ (0 ≤ ((Tv 0) : Int32).toInt ∧ ((Tv 0) : Int32).toInt ≤ 400 ∧ 0 ≤ (oo0x4 : Int32).toInt ∧ (oo0x4 : Int32).toInt ≤ 400 ∧ 0 ≤ (oo0x5 : Int32).toInt ∧ (oo0x5 : Int32).toInt ≤ 400) ∧ (0 ≤ (oo0x1 : Int32).toInt ∧ (oo0x1 : Int32).toInt ≤ 400) ∧ (TpR (Tf 1) (Tv 0) (pz_b rr (pz_sum (cB (Tf 1) (Tv 0)))) oo0x4 oo0x5 oo0x6 oo0x7) ∧ (Ctd (pz_b rr (pz_sum (cB (Tf 1) (Tv 0)))) oo0x2) ∧ (CdK oo0x3 oo0x1 (pz_b rr (pz_sum (cB (Tf 1) (Tv 0)))) (Ap rr (lsum (cB (Tf 1) (Tv 0))) ll))) (fun (u : (Int32) × (Int32) × (Nat → Int32) × (Int32) × (Int32) × (Int32) × (Int32)) => match u with | (oo0x1, oo0x2, oo0x3, oo0x4, oo0x5, oo0x6, oo0x7) => [((Va 0), .inr (7, [.ref (Va 1), .int oo0x1, .int oo0x2])), ((Va 1), .inl (tc 0, 400, .inl oo0x3)), ((Ta 0), .inr (10, [.ref (Ta 1), .int (Tv 0), .int oo0x4, .int oo0x5, .int oo0x6, .int oo0x7])), ((Ta 1), .inl (tc 0, 400, .inl (Tf 1)))]) 0 0 := by
  refine Ct.start (by decide) (Nat.le_of_ble_eq_true rfl) (fun p e s m below meth c A ls hx hb hr hlk hin hml hown hts hK hX hP hD hA hl hS => ?_)
  have hl : lv_has ls 5 [(0, .ref (Va 0)), (1, .ref (Ta 0))] := hl
  have tb_1 : TpB (rTE (cB (Tf 1) (Tv 0)) rr) (Tv 2) (Tv 4) := TpR.tb h_r
  refine lv_aload_n hx hb dX7_readSum_0 rfl (lv_at hl 0 rfl) ?_
  refine lv_aload_n hx hb dX7_readSum_1 rfl (lv_at hl 1 rfl) ?_
  refine cV (a := (Va 0)) (As := [.ref (Ta 0)]) (rest := []) (wr := []) ⟨hx, hb, hml, hown, hts⟩ hK hX hA (cu_kX7_readValue l D tc sk (Va 0) (Va 1) (Vv 0) (Vv 1) (Vf 1) (Ta 0) (Ta 1) (Tv 0) (Tv 1) (Tv 2) (Tv 3) (Tv 4) (Tf 1) rr ll h_tape h_u h_by h_r h_ct h_cd) k_628 k_625 k_627 k_8 k_99 pl_X7_readValue ⟨Nat.le_of_ble_eq_true rfl, Nat.le_of_ble_eq_true rfl⟩ rfl rfl (va_recv hK hP (ci := 7) (q0 := 0) rfl rfl) hP hD hS [0, 1, 2, 3] [] rfl rfl rfl rfl rfl (by decide) rfl hl.1 rfl (Nat.le_of_ble_eq_true rfl) dX7_readSum_2 ⟨Nat.le_of_ble_eq_true rfl, Nat.le_of_ble_eq_true rfl⟩ (fun v_2 u_3 H locs hv_4 hP₀ hD₀ hS₀ => ?_)
  obtain ⟨sv_5, sv_6, sv_7, sv_8, sv_9, sv_10, sv_11⟩ := u_3
  obtain ⟨rfl, pf_12, pf_13, pf_14, pf_15, pf_16⟩ := hv_4
  have pf_12 : 0 ≤ ((Tv 0) : Int32).toInt ∧ ((Tv 0) : Int32).toInt ≤ 400 ∧ 0 ≤ (sv_8 : Int32).toInt ∧ (sv_8 : Int32).toInt ≤ 400 ∧ 0 ≤ (sv_9 : Int32).toInt ∧ (sv_9 : Int32).toInt ≤ 400 := pf_12
  have pf_13 : 0 ≤ (sv_5 : Int32).toInt ∧ (sv_5 : Int32).toInt ≤ 400 := pf_13
  have pf_14 : TpR (Tf 1) (Tv 0) (pz_b rr (pz_val (cB (Tf 1) (Tv 0)))) sv_8 sv_9 sv_10 sv_11 := pf_14
  obtain ⟨ro_17, ero_17⟩ : ∃ z : Except Int (Nat × Nat), z = (pz_b rr (pz_val (cB (Tf 1) (Tv 0)))) := ⟨_, rfl⟩
  rw [← ero_17] at pf_14
  have tb_18 : TpB (rTE (cB (Tf 1) (Tv 0)) ro_17) sv_9 sv_11 := TpR.tb pf_14
  have pf_15 : Ctd (pz_b rr (pz_val (cB (Tf 1) (Tv 0)))) sv_6 := pf_15
  rw [← ero_17] at pf_15
  have pf_16 : CdK sv_7 sv_5 (pz_b rr (pz_val (cB (Tf 1) (Tv 0)))) (Ap rr (lval (cB (Tf 1) (Tv 0))) ll) := pf_16
  rw [← ero_17] at pf_16
  obtain ⟨ro_19, ero_19⟩ : ∃ z : List Int, z = (Ap rr (lval (cB (Tf 1) (Tv 0))) ll) := ⟨_, rfl⟩
  rw [← ero_19] at pf_16
  refine W.eq (g2 := F0 m 5 ls []) rfl ?_
  replace hP : va_P D classes [((Va 0), .inr (7, [.ref (Va 1), .int sv_5, .int sv_6])), ((Va 1), .inl (tc 0, 400, .inl sv_7)), ((Ta 0), .inr (10, [.ref (Ta 1), .int (Tv 0), .int sv_8, .int sv_9, .int sv_10, .int sv_11])), ((Ta 1), .inl (tc 0, 400, .inl (Tf 1)))] H := hP₀
  replace hD : va_D A [((Va 0), .inr (7, [.ref (Va 1), .int sv_5, .int sv_6])), ((Va 1), .inl (tc 0, 400, .inl sv_7)), ((Ta 0), .inr (10, [.ref (Ta 1), .int (Tv 0), .int sv_8, .int sv_9, .int sv_10, .int sv_11])), ((Ta 1), .inl (tc 0, 400, .inl (Tf 1)))] := hD₀
  replace hS := hS₀
  clear hP₀ hD₀ hS₀
  refine lv_iconst (v := (-1)) hx hb dX7_readSum_5 (by decide) ?_
  refine lv_istore_n (lv' := [(2, .int (-1)), (0, .ref (Va 0)), (1, .ref (Ta 0))]) hx hb dX7_readSum_6 rfl hl (by decide) rfl (fun ls hl₀ => ?_)
  replace hl := hl₀
  clear hl₀
  refine lv_iconst (v := 0) hx hb dX7_readSum_7 (by decide) ?_
  refine lv_istore_n (lv' := [(3, .int 0), (2, .int (-1)), (0, .ref (Va 0)), (1, .ref (Ta 0))]) hx hb dX7_readSum_8 rfl hl (by decide) rfl (fun ls hl₀ => ?_)
  replace hl := hl₀
  clear hl₀
  have loop_40 : ∀ (n_38 : Nat) (vy_29 : Int32) (vy_30 : Int32) (vy_31 : Int32) (vy_32 : Int32) (vy_33 : Nat → Int32) (vy_34 : Int32) (vy_35 : Int32) (vy_36 : Int32) (vy_37 : Int32) (H : Heap) (locs : List Loc) (ls : Array Slot), (401 - (vy_29 : Int32).toInt).toNat < n_38 → (0 ≤ (vy_29 : Int32).toInt ∧ (vy_29 : Int32).toInt ≤ 400) → (0 ≤ ((Tv 0) : Int32).toInt ∧ ((Tv 0) : Int32).toInt ≤ 400 ∧ 0 ≤ (vy_34 : Int32).toInt ∧ (vy_34 : Int32).toInt ≤ 400 ∧ 0 ≤ (vy_35 : Int32).toInt ∧ (vy_35 : Int32).toInt ≤ 400) → (0 ≤ (vy_31 : Int32).toInt ∧ (vy_31 : Int32).toInt ≤ 400) → (SmC (Tf 1) (Tv 0) (pz_b rr (pz_sum (cB (Tf 1) (Tv 0)))) vy_34 vy_35 vy_36 vy_37 vy_32 vy_29 vy_33 vy_31 vy_30 (Ap rr (lsum (cB (Tf 1) (Tv 0))) ll)) → va_P D classes [((Va 0), .inr (7, [.ref (Va 1), .int vy_31, .int vy_32])), ((Va 1), .inl (tc 0, 400, .inl vy_33)), ((Ta 0), .inr (10, [.ref (Ta 1), .int (Tv 0), .int vy_34, .int vy_35, .int vy_36, .int vy_37])), ((Ta 1), .inl (tc 0, 400, .inl (Tf 1)))] H → va_D A [((Va 0), .inr (7, [.ref (Va 1), .int vy_31, .int vy_32])), ((Va 1), .inl (tc 0, 400, .inl vy_33)), ((Ta 0), .inr (10, [.ref (Ta 1), .int (Tv 0), .int vy_34, .int vy_35, .int vy_36, .int vy_37])), ((Ta 1), .inl (tc 0, 400, .inl (Tf 1)))] → va_S A s.heap H locs → lv_has ls 5 [(3, .int vy_29), (2, .int vy_30), (0, .ref (Va 0)), (1, .ref (Ta 0))] → W p l e ({ frames := 7, cells := 0, slots := 0, locals := 156 }) s m ([.ref (Va 0), .ref (Ta 0)].toArray) below meth c H locs 0 0 (MQ below (QW (fun (v : Option Value) (u : (Int32) × (Int32) × (Nat → Int32) × (Int32) × (Int32) × (Int32) × (Int32)) => match u with | (oo0x1, oo0x2, oo0x3, oo0x4, oo0x5, oo0x6, oo0x7) => v = none ∧ (0 ≤ ((Tv 0) : Int32).toInt ∧ ((Tv 0) : Int32).toInt ≤ 400 ∧ 0 ≤ (oo0x4 : Int32).toInt ∧ (oo0x4 : Int32).toInt ≤ 400 ∧ 0 ≤ (oo0x5 : Int32).toInt ∧ (oo0x5 : Int32).toInt ≤ 400) ∧ (0 ≤ (oo0x1 : Int32).toInt ∧ (oo0x1 : Int32).toInt ≤ 400) ∧ (TpR (Tf 1) (Tv 0) (pz_b rr (pz_sum (cB (Tf 1) (Tv 0)))) oo0x4 oo0x5 oo0x6 oo0x7) ∧ (Ctd (pz_b rr (pz_sum (cB (Tf 1) (Tv 0)))) oo0x2) ∧ (CdK oo0x3 oo0x1 (pz_b rr (pz_sum (cB (Tf 1) (Tv 0)))) (Ap rr (lsum (cB (Tf 1) (Tv 0))) ll))) (BW D (fun (u : (Int32) × (Int32) × (Nat → Int32) × (Int32) × (Int32) × (Int32) × (Int32)) => match u with | (oo0x1, oo0x2, oo0x3, oo0x4, oo0x5, oo0x6, oo0x7) => [((Va 0), .inr (7, [.ref (Va 1), .int oo0x1, .int oo0x2])), ((Va 1), .inl (tc 0, 400, .inl oo0x3)), ((Ta 0), .inr (10, [.ref (Ta 1), .int (Tv 0), .int oo0x4, .int oo0x5, .int oo0x6, .int oo0x7])), ((Ta 1), .inl (tc 0, 400, .inl (Tf 1)))]) A) A) ([.ref (Va 0), .ref (Ta 0)].toArray) s 0 0 A) (F0 m 9 ls []) := by
    clear hP hD hS hl
    intro n_38
    induction n_38 with
    | zero =>
      intro vy_29 vy_30 vy_31 vy_32 vy_33 vy_34 vy_35 vy_36 vy_37 H locs ls h1
      exact absurd h1 (Nat.not_lt_zero _)
    | succ n_38 ih_39 =>
      intro vy_29 vy_30 vy_31 vy_32 vy_33 vy_34 vy_35 vy_36 vy_37 H locs ls hn_45 pf_41 pf_42 pf_43 pf_44 hP hD hS hl
      obtain ⟨rq_46, pf_47, pf_48, pf_49, pf_50, lq_51, pf_52, pf_53⟩ := id pf_44
      have tb_54 : TpB (rTE (cB (Tf 1) (Tv 0)) rq_46) vy_35 vy_37 := TpR.tb pf_47
      refine lv_iload_n hx hb dX7_readSum_9 rfl (lv_at hl 0 rfl) ?_
      refine lv_sipush (v := 400) hx hb dX7_readSum_10 (by decide) ?_
      refine lv_icmp_ge (tgt := 86) hx hb dX7_readSum_13 (by decide) (fun c_55 => ?_) (fun c_55 => ?_)
      · skip
        refine lv_iload_n hx hb dX7_readSum_86 rfl (lv_at hl 1 rfl) ?_
        refine lv_iconst (v := (-1)) hx hb dX7_readSum_87 (by decide) ?_
        refine lv_icmp_eq (tgt := 96) hx hb dX7_readSum_88 (by decide) (fun c_56 => ?_) (fun c_56 => ?_)
        · skip
          have hf_57 : TpR (Tf 1) (Tv 0) (pz_b rr (pz_sum (cB (Tf 1) (Tv 0)))) vy_34 vy_35 vy_36 vy_37 := by
            have hr_58 : 400 ≤ (vy_29 : Int32).toInt ∨ ¬ ((vy_36 : Int32).toInt = 43 ∨ (vy_36 : Int32).toInt = 45 ∨ (vy_36 : Int32).toInt = 42 ∨ (vy_36 : Int32).toInt = 47 ∨ (vy_36 : Int32).toInt = 37) := by
              have z_1 := Int32.le_iff_toInt_le.mp c_55
              have z_2 := congrArg Int32.toInt c_56
              have y_m1 : (-1 : Int32).toInt = -1 := by decide
              have y_400 : (400 : Int32).toInt = 400 := by decide
              omega
            rw [pf_49, sum_end h_tape.2.1 pf_47 pf_50 hr_58]
            exact pf_47
          have hf_59 : Ctd (pz_b rr (pz_sum (cB (Tf 1) (Tv 0)))) vy_32 := by
            have hr_60 : 400 ≤ (vy_29 : Int32).toInt ∨ ¬ ((vy_36 : Int32).toInt = 43 ∨ (vy_36 : Int32).toInt = 45 ∨ (vy_36 : Int32).toInt = 42 ∨ (vy_36 : Int32).toInt = 47 ∨ (vy_36 : Int32).toInt = 37) := by
              have z_1 := Int32.le_iff_toInt_le.mp c_55
              have z_2 := congrArg Int32.toInt c_56
              have y_m1 : (-1 : Int32).toInt = -1 := by decide
              have y_400 : (400 : Int32).toInt = 400 := by decide
              omega
            rw [pf_49, sum_end h_tape.2.1 pf_47 pf_50 hr_60]
            exact pf_48
          have hr_61 : 400 ≤ (vy_29 : Int32).toInt ∨ ¬ ((vy_36 : Int32).toInt = 43 ∨ (vy_36 : Int32).toInt = 45 ∨ (vy_36 : Int32).toInt = 42 ∨ (vy_36 : Int32).toInt = 47 ∨ (vy_36 : Int32).toInt = 37) := by
            have z_1 := Int32.le_iff_toInt_le.mp c_55
            have z_2 := congrArg Int32.toInt c_56
            have y_m1 : (-1 : Int32).toInt = -1 := by decide
            have y_400 : (400 : Int32).toInt = 400 := by decide
            omega
          have hr_62 : (vy_30 : Int32).toInt = -1 := by
            have z_1 := Int32.le_iff_toInt_le.mp c_55
            have z_2 := congrArg Int32.toInt c_56
            have y_m1 : (-1 : Int32).toInt = -1 := by decide
            have y_400 : (400 : Int32).toInt = 400 := by decide
            omega
          exact retV hx hb hr hlk hP hD hS (vy_31, vy_32, vy_33, vy_34, vy_35, vy_36, vy_37) ⟨rfl, pf_42, pf_43, hf_57, hf_59, (SmC.end0 h_tape.2.1 pf_47 pf_49 pf_50 pf_53 hr_62 hr_61 pf_52)⟩ [0, 1, 2, 3] rfl rfl dX7_readSum_96 (Nat.le_of_ble_eq_true rfl) (Nat.le_of_ble_eq_true rfl) rfl
        · skip
          refine lv_aload_n hx hb dX7_readSum_91 rfl (lv_at hl 2 rfl) ?_
          refine lv_iload_n hx hb dX7_readSum_92 rfl (lv_at hl 1 rfl) ?_
          refine cV (a := (Va 0)) (As := [.int vy_30]) (rest := []) (wr := [((Ta 0), .inr (10, [.ref (Ta 1), .int (Tv 0), .int vy_34, .int vy_35, .int vy_36, .int vy_37])), ((Ta 1), .inl (tc 0, 400, .inl (Tf 1)))]) ⟨hx, hb, hml, hown, hts⟩ hK hX hA (cu_kX7_put l D tc sk (Va 0) (Va 1) vy_31 vy_32 vy_33 vy_30 rq_46 lq_51 pf_43 pf_52) k_642 k_639 k_641 k_10 k_99 pl_X7_put ⟨Nat.le_of_ble_eq_true rfl, Nat.le_of_ble_eq_true rfl⟩ rfl rfl (va_recv hK hP (ci := 7) (q0 := 0) rfl rfl) hP hD hS [0, 1] [2, 3] rfl rfl rfl rfl rfl (by decide) rfl hl.1 rfl (Nat.le_of_ble_eq_true rfl) dX7_readSum_93 ⟨Nat.le_of_ble_eq_true rfl, Nat.le_of_ble_eq_true rfl⟩ (fun v_63 u_64 H locs hv_65 hP₀ hD₀ hS₀ => ?_)
          obtain ⟨sv_66, sv_67⟩ := u_64
          obtain ⟨rfl, pf_68, pf_69⟩ := hv_65
          have pf_68 : 0 ≤ (sv_66 : Int32).toInt ∧ (sv_66 : Int32).toInt ≤ 400 := pf_68
          have pf_69 : CdK sv_67 sv_66 rq_46 (lq_51 ++ [vy_30.toInt]) := pf_69
          obtain ⟨ro_70, ero_70⟩ : ∃ z : List Int, z = (lq_51 ++ [vy_30.toInt]) := ⟨_, rfl⟩
          rw [← ero_70] at pf_69
          refine W.eq (g2 := F0 m 96 ls []) rfl ?_
          replace hP : va_P D classes [((Ta 0), .inr (10, [.ref (Ta 1), .int (Tv 0), .int vy_34, .int vy_35, .int vy_36, .int vy_37])), ((Ta 1), .inl (tc 0, 400, .inl (Tf 1))), ((Va 0), .inr (7, [.ref (Va 1), .int sv_66, .int vy_32])), ((Va 1), .inl (tc 0, 400, .inl sv_67))] H := hP₀
          replace hD : va_D A [((Ta 0), .inr (10, [.ref (Ta 1), .int (Tv 0), .int vy_34, .int vy_35, .int vy_36, .int vy_37])), ((Ta 1), .inl (tc 0, 400, .inl (Tf 1))), ((Va 0), .inr (7, [.ref (Va 1), .int sv_66, .int vy_32])), ((Va 1), .inl (tc 0, 400, .inl sv_67))] := hD₀
          replace hS := hS₀
          clear hP₀ hD₀ hS₀
          have hf_71 : TpR (Tf 1) (Tv 0) (pz_b rr (pz_sum (cB (Tf 1) (Tv 0)))) vy_34 vy_35 vy_36 vy_37 := by
            have hr_72 : 400 ≤ (vy_29 : Int32).toInt ∨ ¬ ((vy_36 : Int32).toInt = 43 ∨ (vy_36 : Int32).toInt = 45 ∨ (vy_36 : Int32).toInt = 42 ∨ (vy_36 : Int32).toInt = 47 ∨ (vy_36 : Int32).toInt = 37) := by
              have z_1 := Int32.le_iff_toInt_le.mp c_55
              have z_2 : ¬ (vy_30 : Int32).toInt = ((-1) : Int32).toInt := fun z => c_56 (Int32.toInt_inj.mp z)
              have y_m1 : (-1 : Int32).toInt = -1 := by decide
              have y_400 : (400 : Int32).toInt = 400 := by decide
              omega
            rw [pf_49, sum_end h_tape.2.1 pf_47 pf_50 hr_72]
            exact pf_47
          have hf_73 : Ctd (pz_b rr (pz_sum (cB (Tf 1) (Tv 0)))) vy_32 := by
            have hr_74 : 400 ≤ (vy_29 : Int32).toInt ∨ ¬ ((vy_36 : Int32).toInt = 43 ∨ (vy_36 : Int32).toInt = 45 ∨ (vy_36 : Int32).toInt = 42 ∨ (vy_36 : Int32).toInt = 47 ∨ (vy_36 : Int32).toInt = 37) := by
              have z_1 := Int32.le_iff_toInt_le.mp c_55
              have z_2 : ¬ (vy_30 : Int32).toInt = ((-1) : Int32).toInt := fun z => c_56 (Int32.toInt_inj.mp z)
              have y_m1 : (-1 : Int32).toInt = -1 := by decide
              have y_400 : (400 : Int32).toInt = 400 := by decide
              omega
            rw [pf_49, sum_end h_tape.2.1 pf_47 pf_50 hr_74]
            exact pf_48
          have hr_75 : 400 ≤ (vy_29 : Int32).toInt ∨ ¬ ((vy_36 : Int32).toInt = 43 ∨ (vy_36 : Int32).toInt = 45 ∨ (vy_36 : Int32).toInt = 42 ∨ (vy_36 : Int32).toInt = 47 ∨ (vy_36 : Int32).toInt = 37) := by
            have z_1 := Int32.le_iff_toInt_le.mp c_55
            have z_2 : ¬ (vy_30 : Int32).toInt = ((-1) : Int32).toInt := fun z => c_56 (Int32.toInt_inj.mp z)
            have y_m1 : (-1 : Int32).toInt = -1 := by decide
            have y_400 : (400 : Int32).toInt = 400 := by decide
            omega
          have hu_76 : CdK sv_67 sv_66 rq_46 (lq_51 ++ [vy_30.toInt]) := by
            rw [← ero_70]
            exact pf_69
          have hr_77 : ¬ (vy_30 : Int32).toInt = -1 := by
            have z_1 := Int32.le_iff_toInt_le.mp c_55
            have z_2 : ¬ (vy_30 : Int32).toInt = ((-1) : Int32).toInt := fun z => c_56 (Int32.toInt_inj.mp z)
            have y_m1 : (-1 : Int32).toInt = -1 := by decide
            have y_400 : (400 : Int32).toInt = 400 := by decide
            omega
          exact retV hx hb hr hlk hP hD hS (sv_66, vy_32, sv_67, vy_34, vy_35, vy_36, vy_37) ⟨rfl, pf_42, pf_68, hf_71, hf_73, (SmC.end1 h_tape.2.1 pf_47 pf_49 pf_50 pf_53 hr_77 hr_75 hu_76)⟩ [2, 3, 0, 1] rfl rfl dX7_readSum_96 (Nat.le_of_ble_eq_true rfl) (Nat.le_of_ble_eq_true rfl) rfl
      · skip
        refine lv_aload_n hx hb dX7_readSum_16 rfl (lv_at hl 3 rfl) ?_
        refine cS (As := [.ref (Ta 0)]) (rest := []) (wr := [((Va 0), .inr (7, [.ref (Va 1), .int vy_31, .int vy_32])), ((Va 1), .inl (tc 0, 400, .inl vy_33))]) ⟨hx, hb, hml, hown, hts⟩ hK hX hA (cu_kX7_arithmetic l D tc sk (Ta 0) (Ta 1) (Tv 0) vy_34 vy_35 vy_36 vy_37 (Tf 1) pf_42) k_645 k_643 k_644 k_99 pl_X7_arithmetic ⟨Nat.le_of_ble_eq_true rfl, Nat.le_of_ble_eq_true rfl⟩ rfl rfl  hP hD hS [2, 3] [0, 1] rfl rfl rfl rfl rfl (by decide) rfl hl.1 rfl (Nat.le_of_ble_eq_true rfl) dX7_readSum_17 ⟨Nat.le_of_ble_eq_true rfl, Nat.le_of_ble_eq_true rfl⟩ (fun v_78 u_79 H locs hv_80 hP₀ hD₀ hS₀ => ?_)
        obtain ⟨r_81, rfl, he_82⟩ := hv_80
        have he_82 : (((r_81.toInt = -1 ∧ ¬ (vy_36.toInt = 43 ∨ vy_36.toInt = 45 ∨ vy_36.toInt = 42 ∨ vy_36.toInt = 47 ∨ vy_36.toInt = 37)) ∨ (r_81.toInt ≤ -12 ∧ (vy_36.toInt = 43 ∨ vy_36.toInt = 45 ∨ vy_36.toInt = 42 ∨ vy_36.toInt = 47 ∨ vy_36.toInt = 37))) ∧ r_81.toInt = ec_o vy_36.toInt) := he_82
        refine W.eq (g2 := F0 m 20 ls [.int r_81]) rfl ?_
        replace hP : va_P D classes [((Va 0), .inr (7, [.ref (Va 1), .int vy_31, .int vy_32])), ((Va 1), .inl (tc 0, 400, .inl vy_33)), ((Ta 0), .inr (10, [.ref (Ta 1), .int (Tv 0), .int vy_34, .int vy_35, .int vy_36, .int vy_37])), ((Ta 1), .inl (tc 0, 400, .inl (Tf 1)))] H := hP₀
        replace hD : va_D A [((Va 0), .inr (7, [.ref (Va 1), .int vy_31, .int vy_32])), ((Va 1), .inl (tc 0, 400, .inl vy_33)), ((Ta 0), .inr (10, [.ref (Ta 1), .int (Tv 0), .int vy_34, .int vy_35, .int vy_36, .int vy_37])), ((Ta 1), .inl (tc 0, 400, .inl (Tf 1)))] := hD₀
        replace hS := hS₀
        clear hP₀ hD₀ hS₀
        refine lv_iconst (v := (-1)) hx hb dX7_readSum_20 (by decide) ?_
        refine lv_icmp_eq (tgt := 86) hx hb dX7_readSum_21 (by decide) (fun c_84 => ?_) (fun c_84 => ?_)
        · skip
          refine lv_iload_n hx hb dX7_readSum_86 rfl (lv_at hl 1 rfl) ?_
          refine lv_iconst (v := (-1)) hx hb dX7_readSum_87 (by decide) ?_
          refine lv_icmp_eq (tgt := 96) hx hb dX7_readSum_88 (by decide) (fun c_85 => ?_) (fun c_85 => ?_)
          · skip
            have hf_86 : TpR (Tf 1) (Tv 0) (pz_b rr (pz_sum (cB (Tf 1) (Tv 0)))) vy_34 vy_35 vy_36 vy_37 := by
              have hr_87 : 400 ≤ (vy_29 : Int32).toInt ∨ ¬ ((vy_36 : Int32).toInt = 43 ∨ (vy_36 : Int32).toInt = 45 ∨ (vy_36 : Int32).toInt = 42 ∨ (vy_36 : Int32).toInt = 47 ∨ (vy_36 : Int32).toInt = 37) := by
                have z_1 := Int32.lt_iff_toInt_lt.mp (Int32.not_le.mp c_55)
                have z_2 := congrArg Int32.toInt c_84
                have z_3 := congrArg Int32.toInt c_85
                have y_m1 : (-1 : Int32).toInt = -1 := by decide
                have y_400 : (400 : Int32).toInt = 400 := by decide
                omega
              rw [pf_49, sum_end h_tape.2.1 pf_47 pf_50 hr_87]
              exact pf_47
            have hf_88 : Ctd (pz_b rr (pz_sum (cB (Tf 1) (Tv 0)))) vy_32 := by
              have hr_89 : 400 ≤ (vy_29 : Int32).toInt ∨ ¬ ((vy_36 : Int32).toInt = 43 ∨ (vy_36 : Int32).toInt = 45 ∨ (vy_36 : Int32).toInt = 42 ∨ (vy_36 : Int32).toInt = 47 ∨ (vy_36 : Int32).toInt = 37) := by
                have z_1 := Int32.lt_iff_toInt_lt.mp (Int32.not_le.mp c_55)
                have z_2 := congrArg Int32.toInt c_84
                have z_3 := congrArg Int32.toInt c_85
                have y_m1 : (-1 : Int32).toInt = -1 := by decide
                have y_400 : (400 : Int32).toInt = 400 := by decide
                omega
              rw [pf_49, sum_end h_tape.2.1 pf_47 pf_50 hr_89]
              exact pf_48
            have hr_90 : 400 ≤ (vy_29 : Int32).toInt ∨ ¬ ((vy_36 : Int32).toInt = 43 ∨ (vy_36 : Int32).toInt = 45 ∨ (vy_36 : Int32).toInt = 42 ∨ (vy_36 : Int32).toInt = 47 ∨ (vy_36 : Int32).toInt = 37) := by
              have z_1 := Int32.lt_iff_toInt_lt.mp (Int32.not_le.mp c_55)
              have z_2 := congrArg Int32.toInt c_84
              have z_3 := congrArg Int32.toInt c_85
              have y_m1 : (-1 : Int32).toInt = -1 := by decide
              have y_400 : (400 : Int32).toInt = 400 := by decide
              omega
            have hr_91 : (vy_30 : Int32).toInt = -1 := by
              have z_1 := Int32.lt_iff_toInt_lt.mp (Int32.not_le.mp c_55)
              have z_2 := congrArg Int32.toInt c_84
              have z_3 := congrArg Int32.toInt c_85
              have y_m1 : (-1 : Int32).toInt = -1 := by decide
              have y_400 : (400 : Int32).toInt = 400 := by decide
              omega
            exact retV hx hb hr hlk hP hD hS (vy_31, vy_32, vy_33, vy_34, vy_35, vy_36, vy_37) ⟨rfl, pf_42, pf_43, hf_86, hf_88, (SmC.end0 h_tape.2.1 pf_47 pf_49 pf_50 pf_53 hr_91 hr_90 pf_52)⟩ [0, 1, 2, 3] rfl rfl dX7_readSum_96 (Nat.le_of_ble_eq_true rfl) (Nat.le_of_ble_eq_true rfl) rfl
          · skip
            refine lv_aload_n hx hb dX7_readSum_91 rfl (lv_at hl 2 rfl) ?_
            refine lv_iload_n hx hb dX7_readSum_92 rfl (lv_at hl 1 rfl) ?_
            refine cV (a := (Va 0)) (As := [.int vy_30]) (rest := []) (wr := [((Ta 0), .inr (10, [.ref (Ta 1), .int (Tv 0), .int vy_34, .int vy_35, .int vy_36, .int vy_37])), ((Ta 1), .inl (tc 0, 400, .inl (Tf 1)))]) ⟨hx, hb, hml, hown, hts⟩ hK hX hA (cu_kX7_put l D tc sk (Va 0) (Va 1) vy_31 vy_32 vy_33 vy_30 rq_46 lq_51 pf_43 pf_52) k_642 k_639 k_641 k_10 k_99 pl_X7_put ⟨Nat.le_of_ble_eq_true rfl, Nat.le_of_ble_eq_true rfl⟩ rfl rfl (va_recv hK hP (ci := 7) (q0 := 0) rfl rfl) hP hD hS [0, 1] [2, 3] rfl rfl rfl rfl rfl (by decide) rfl hl.1 rfl (Nat.le_of_ble_eq_true rfl) dX7_readSum_93 ⟨Nat.le_of_ble_eq_true rfl, Nat.le_of_ble_eq_true rfl⟩ (fun v_92 u_93 H locs hv_94 hP₀ hD₀ hS₀ => ?_)
            obtain ⟨sv_95, sv_96⟩ := u_93
            obtain ⟨rfl, pf_97, pf_98⟩ := hv_94
            have pf_97 : 0 ≤ (sv_95 : Int32).toInt ∧ (sv_95 : Int32).toInt ≤ 400 := pf_97
            have pf_98 : CdK sv_96 sv_95 rq_46 (lq_51 ++ [vy_30.toInt]) := pf_98
            obtain ⟨ro_99, ero_99⟩ : ∃ z : List Int, z = (lq_51 ++ [vy_30.toInt]) := ⟨_, rfl⟩
            rw [← ero_99] at pf_98
            refine W.eq (g2 := F0 m 96 ls []) rfl ?_
            replace hP : va_P D classes [((Ta 0), .inr (10, [.ref (Ta 1), .int (Tv 0), .int vy_34, .int vy_35, .int vy_36, .int vy_37])), ((Ta 1), .inl (tc 0, 400, .inl (Tf 1))), ((Va 0), .inr (7, [.ref (Va 1), .int sv_95, .int vy_32])), ((Va 1), .inl (tc 0, 400, .inl sv_96))] H := hP₀
            replace hD : va_D A [((Ta 0), .inr (10, [.ref (Ta 1), .int (Tv 0), .int vy_34, .int vy_35, .int vy_36, .int vy_37])), ((Ta 1), .inl (tc 0, 400, .inl (Tf 1))), ((Va 0), .inr (7, [.ref (Va 1), .int sv_95, .int vy_32])), ((Va 1), .inl (tc 0, 400, .inl sv_96))] := hD₀
            replace hS := hS₀
            clear hP₀ hD₀ hS₀
            have hf_100 : TpR (Tf 1) (Tv 0) (pz_b rr (pz_sum (cB (Tf 1) (Tv 0)))) vy_34 vy_35 vy_36 vy_37 := by
              have hr_101 : 400 ≤ (vy_29 : Int32).toInt ∨ ¬ ((vy_36 : Int32).toInt = 43 ∨ (vy_36 : Int32).toInt = 45 ∨ (vy_36 : Int32).toInt = 42 ∨ (vy_36 : Int32).toInt = 47 ∨ (vy_36 : Int32).toInt = 37) := by
                have z_1 := Int32.lt_iff_toInt_lt.mp (Int32.not_le.mp c_55)
                have z_2 := congrArg Int32.toInt c_84
                have z_3 : ¬ (vy_30 : Int32).toInt = ((-1) : Int32).toInt := fun z => c_85 (Int32.toInt_inj.mp z)
                have y_m1 : (-1 : Int32).toInt = -1 := by decide
                have y_400 : (400 : Int32).toInt = 400 := by decide
                omega
              rw [pf_49, sum_end h_tape.2.1 pf_47 pf_50 hr_101]
              exact pf_47
            have hf_102 : Ctd (pz_b rr (pz_sum (cB (Tf 1) (Tv 0)))) vy_32 := by
              have hr_103 : 400 ≤ (vy_29 : Int32).toInt ∨ ¬ ((vy_36 : Int32).toInt = 43 ∨ (vy_36 : Int32).toInt = 45 ∨ (vy_36 : Int32).toInt = 42 ∨ (vy_36 : Int32).toInt = 47 ∨ (vy_36 : Int32).toInt = 37) := by
                have z_1 := Int32.lt_iff_toInt_lt.mp (Int32.not_le.mp c_55)
                have z_2 := congrArg Int32.toInt c_84
                have z_3 : ¬ (vy_30 : Int32).toInt = ((-1) : Int32).toInt := fun z => c_85 (Int32.toInt_inj.mp z)
                have y_m1 : (-1 : Int32).toInt = -1 := by decide
                have y_400 : (400 : Int32).toInt = 400 := by decide
                omega
              rw [pf_49, sum_end h_tape.2.1 pf_47 pf_50 hr_103]
              exact pf_48
            have hr_104 : 400 ≤ (vy_29 : Int32).toInt ∨ ¬ ((vy_36 : Int32).toInt = 43 ∨ (vy_36 : Int32).toInt = 45 ∨ (vy_36 : Int32).toInt = 42 ∨ (vy_36 : Int32).toInt = 47 ∨ (vy_36 : Int32).toInt = 37) := by
              have z_1 := Int32.lt_iff_toInt_lt.mp (Int32.not_le.mp c_55)
              have z_2 := congrArg Int32.toInt c_84
              have z_3 : ¬ (vy_30 : Int32).toInt = ((-1) : Int32).toInt := fun z => c_85 (Int32.toInt_inj.mp z)
              have y_m1 : (-1 : Int32).toInt = -1 := by decide
              have y_400 : (400 : Int32).toInt = 400 := by decide
              omega
            have hu_105 : CdK sv_96 sv_95 rq_46 (lq_51 ++ [vy_30.toInt]) := by
              rw [← ero_99]
              exact pf_98
            have hr_106 : ¬ (vy_30 : Int32).toInt = -1 := by
              have z_1 := Int32.lt_iff_toInt_lt.mp (Int32.not_le.mp c_55)
              have z_2 := congrArg Int32.toInt c_84
              have z_3 : ¬ (vy_30 : Int32).toInt = ((-1) : Int32).toInt := fun z => c_85 (Int32.toInt_inj.mp z)
              have y_m1 : (-1 : Int32).toInt = -1 := by decide
              have y_400 : (400 : Int32).toInt = 400 := by decide
              omega
            exact retV hx hb hr hlk hP hD hS (sv_95, vy_32, sv_96, vy_34, vy_35, vy_36, vy_37) ⟨rfl, pf_42, pf_97, hf_100, hf_102, (SmC.end1 h_tape.2.1 pf_47 pf_49 pf_50 pf_53 hr_106 hr_104 hu_105)⟩ [2, 3, 0, 1] rfl rfl dX7_readSum_96 (Nat.le_of_ble_eq_true rfl) (Nat.le_of_ble_eq_true rfl) rfl
        · skip
          refine lv_aload_n hx hb dX7_readSum_24 rfl (lv_at hl 3 rfl) ?_
          refine cS (As := [.ref (Ta 0)]) (rest := []) (wr := [((Va 0), .inr (7, [.ref (Va 1), .int vy_31, .int vy_32])), ((Va 1), .inl (tc 0, 400, .inl vy_33))]) ⟨hx, hb, hml, hown, hts⟩ hK hX hA (cu_kX7_arithmetic l D tc sk (Ta 0) (Ta 1) (Tv 0) vy_34 vy_35 vy_36 vy_37 (Tf 1) pf_42) k_645 k_643 k_644 k_99 pl_X7_arithmetic ⟨Nat.le_of_ble_eq_true rfl, Nat.le_of_ble_eq_true rfl⟩ rfl rfl  hP hD hS [2, 3] [0, 1] rfl rfl rfl rfl rfl (by decide) rfl hl.1 rfl (Nat.le_of_ble_eq_true rfl) dX7_readSum_25 ⟨Nat.le_of_ble_eq_true rfl, Nat.le_of_ble_eq_true rfl⟩ (fun v_107 u_108 H locs hv_109 hP₀ hD₀ hS₀ => ?_)
          obtain ⟨r_110, rfl, he_111⟩ := hv_109
          have he_111 : (((r_110.toInt = -1 ∧ ¬ (vy_36.toInt = 43 ∨ vy_36.toInt = 45 ∨ vy_36.toInt = 42 ∨ vy_36.toInt = 47 ∨ vy_36.toInt = 37)) ∨ (r_110.toInt ≤ -12 ∧ (vy_36.toInt = 43 ∨ vy_36.toInt = 45 ∨ vy_36.toInt = 42 ∨ vy_36.toInt = 47 ∨ vy_36.toInt = 37))) ∧ r_110.toInt = ec_o vy_36.toInt) := he_111
          refine W.eq (g2 := F0 m 28 ls [.int r_110]) rfl ?_
          replace hP : va_P D classes [((Va 0), .inr (7, [.ref (Va 1), .int vy_31, .int vy_32])), ((Va 1), .inl (tc 0, 400, .inl vy_33)), ((Ta 0), .inr (10, [.ref (Ta 1), .int (Tv 0), .int vy_34, .int vy_35, .int vy_36, .int vy_37])), ((Ta 1), .inl (tc 0, 400, .inl (Tf 1)))] H := hP₀
          replace hD : va_D A [((Va 0), .inr (7, [.ref (Va 1), .int vy_31, .int vy_32])), ((Va 1), .inl (tc 0, 400, .inl vy_33)), ((Ta 0), .inr (10, [.ref (Ta 1), .int (Tv 0), .int vy_34, .int vy_35, .int vy_36, .int vy_37])), ((Ta 1), .inl (tc 0, 400, .inl (Tf 1)))] := hD₀
          replace hS := hS₀
          clear hP₀ hD₀ hS₀
          refine lv_istore (lv' := [(4, .int r_110), (3, .int vy_29), (2, .int vy_30), (0, .ref (Va 0)), (1, .ref (Ta 0))]) hx hb dX7_readSum_28 hl (by decide) rfl (fun ls hl₀ => ?_)
          replace hl := hl₀
          clear hl₀
          refine lv_aload_n hx hb dX7_readSum_30 rfl (lv_at hl 4 rfl) ?_
          refine cV (a := (Ta 0)) (As := []) (rest := []) (wr := [((Va 0), .inr (7, [.ref (Va 1), .int vy_31, .int vy_32])), ((Va 1), .inl (tc 0, 400, .inl vy_33))]) ⟨hx, hb, hml, hown, hts⟩ hK hX hA (cu_fX10_step l D tc sk (Ta 0) (Ta 1) (Tv 0) vy_34 vy_35 vy_36 vy_37 (Tf 1) (rTE (cB (Tf 1) (Tv 0)) rq_46) pf_42 h_by tb_54) k_478 k_620 k_476 k_477 k_96 pl_X10_step ⟨Nat.le_of_ble_eq_true rfl, Nat.le_of_ble_eq_true rfl⟩ rfl rfl (va_recv hK hP (ci := 10) (q0 := 2) rfl rfl) hP hD hS [2, 3] [0, 1] rfl rfl rfl rfl rfl (by decide) rfl hl.1 rfl (Nat.le_of_ble_eq_true rfl) dX7_readSum_31 ⟨Nat.le_of_ble_eq_true rfl, Nat.le_of_ble_eq_true rfl⟩ (fun v_113 u_114 H locs hv_115 hP₀ hD₀ hS₀ => ?_)
          obtain ⟨sv_116, sv_117, sv_118⟩ := u_114
          obtain ⟨rfl, pf_119, pf_120⟩ := hv_115
          have pf_119 : 0 ≤ ((Tv 0) : Int32).toInt ∧ ((Tv 0) : Int32).toInt ≤ 400 ∧ 0 ≤ (sv_116 : Int32).toInt ∧ (sv_116 : Int32).toInt ≤ 400 ∧ 0 ≤ (sv_117 : Int32).toInt ∧ (sv_117 : Int32).toInt ≤ 400 := pf_119
          have pf_120 : TpR (Tf 1) (Tv 0) (rSK (cB (Tf 1) (Tv 0)) (rTE (cB (Tf 1) (Tv 0)) rq_46)) sv_116 sv_117 sv_118 vy_37 := pf_120
          rw [rNX_eq] at pf_120
          obtain ⟨ro_121, ero_121⟩ : ∃ z : Except Int (Nat × Nat), z = (rNX (cB (Tf 1) (Tv 0)) rq_46) := ⟨_, rfl⟩
          rw [← ero_121] at pf_120
          have tb_122 : TpB (rTE (cB (Tf 1) (Tv 0)) ro_121) sv_117 vy_37 := TpR.tb pf_120
          have cd_123 : Ctd ro_121 vy_32 := by rw [ero_121]; exact (Ctd.nx pf_48)
          have ck_124 : CdK vy_33 vy_31 ro_121 lq_51 := by rw [ero_121]; exact (CdK.nx pf_52)
          refine W.eq (g2 := F0 m 34 ls []) rfl ?_
          replace hP : va_P D classes [((Va 0), .inr (7, [.ref (Va 1), .int vy_31, .int vy_32])), ((Va 1), .inl (tc 0, 400, .inl vy_33)), ((Ta 0), .inr (10, [.ref (Ta 1), .int (Tv 0), .int sv_116, .int sv_117, .int sv_118, .int vy_37])), ((Ta 1), .inl (tc 0, 400, .inl (Tf 1)))] H := hP₀
          replace hD : va_D A [((Va 0), .inr (7, [.ref (Va 1), .int vy_31, .int vy_32])), ((Va 1), .inl (tc 0, 400, .inl vy_33)), ((Ta 0), .inr (10, [.ref (Ta 1), .int (Tv 0), .int sv_116, .int sv_117, .int sv_118, .int vy_37])), ((Ta 1), .inl (tc 0, 400, .inl (Tf 1)))] := hD₀
          replace hS := hS₀
          clear hP₀ hD₀ hS₀
          refine lv_iload hx hb dX7_readSum_34 (lv_at hl 0 rfl) ?_
          refine lv_bipush (v := (-12)) hx hb dX7_readSum_36 (by decide) ?_
          refine lv_icmp_eq (tgt := 48) hx hb dX7_readSum_38 (by decide) (fun c_125 => ?_) (fun c_125 => ?_)
          · skip
            refine lv_iload_n hx hb dX7_readSum_48 rfl (lv_at hl 2 rfl) ?_
            refine lv_iconst (v := (-1)) hx hb dX7_readSum_49 (by decide) ?_
            refine lv_icmp_eq (tgt := 58) hx hb dX7_readSum_50 (by decide) (fun c_126 => ?_) (fun c_126 => ?_)
            · skip
              refine lv_iload hx hb dX7_readSum_58 (lv_at hl 0 rfl) ?_
              refine lv_istore_n (lv' := [(2, .int r_110), (4, .int r_110), (3, .int vy_29), (0, .ref (Va 0)), (1, .ref (Ta 0))]) hx hb dX7_readSum_60 rfl hl (by decide) rfl (fun ls hl₀ => ?_)
              replace hl := hl₀
              clear hl₀
              refine lv_aload_n hx hb dX7_readSum_61 rfl (lv_at hl 3 rfl) ?_
              refine lv_aload_n hx hb dX7_readSum_62 rfl (lv_at hl 4 rfl) ?_
              refine cV (a := (Va 0)) (As := [.ref (Ta 0)]) (rest := []) (wr := []) ⟨hx, hb, hml, hown, hts⟩ hK hX hA (cu_kX7_readValue l D tc sk (Va 0) (Va 1) vy_31 vy_32 vy_33 (Ta 0) (Ta 1) (Tv 0) sv_116 sv_117 sv_118 vy_37 (Tf 1) ro_121 lq_51 pf_119 pf_43 h_by pf_120 cd_123 ck_124) k_628 k_625 k_627 k_8 k_99 pl_X7_readValue ⟨Nat.le_of_ble_eq_true rfl, Nat.le_of_ble_eq_true rfl⟩ rfl rfl (va_recv hK hP (ci := 7) (q0 := 0) rfl rfl) hP hD hS [0, 1, 2, 3] [] rfl rfl rfl rfl rfl (by decide) rfl hl.1 rfl (Nat.le_of_ble_eq_true rfl) dX7_readSum_63 ⟨Nat.le_of_ble_eq_true rfl, Nat.le_of_ble_eq_true rfl⟩ (fun v_127 u_128 H locs hv_129 hP₀ hD₀ hS₀ => ?_)
              obtain ⟨sv_130, sv_131, sv_132, sv_133, sv_134, sv_135, sv_136⟩ := u_128
              obtain ⟨rfl, pf_137, pf_138, pf_139, pf_140, pf_141⟩ := hv_129
              have pf_137 : 0 ≤ ((Tv 0) : Int32).toInt ∧ ((Tv 0) : Int32).toInt ≤ 400 ∧ 0 ≤ (sv_133 : Int32).toInt ∧ (sv_133 : Int32).toInt ≤ 400 ∧ 0 ≤ (sv_134 : Int32).toInt ∧ (sv_134 : Int32).toInt ≤ 400 := pf_137
              have pf_138 : 0 ≤ (sv_130 : Int32).toInt ∧ (sv_130 : Int32).toInt ≤ 400 := pf_138
              have pf_139 : TpR (Tf 1) (Tv 0) (pz_b ro_121 (pz_val (cB (Tf 1) (Tv 0)))) sv_133 sv_134 sv_135 sv_136 := pf_139
              obtain ⟨ro_142, ero_142⟩ : ∃ z : Except Int (Nat × Nat), z = (pz_b ro_121 (pz_val (cB (Tf 1) (Tv 0)))) := ⟨_, rfl⟩
              rw [← ero_142] at pf_139
              have tb_143 : TpB (rTE (cB (Tf 1) (Tv 0)) ro_142) sv_134 sv_136 := TpR.tb pf_139
              have pf_140 : Ctd (pz_b ro_121 (pz_val (cB (Tf 1) (Tv 0)))) sv_131 := pf_140
              rw [← ero_142] at pf_140
              have pf_141 : CdK sv_132 sv_130 (pz_b ro_121 (pz_val (cB (Tf 1) (Tv 0)))) (Ap ro_121 (lval (cB (Tf 1) (Tv 0))) lq_51) := pf_141
              rw [← ero_142] at pf_141
              obtain ⟨ro_144, ero_144⟩ : ∃ z : List Int, z = (Ap ro_121 (lval (cB (Tf 1) (Tv 0))) lq_51) := ⟨_, rfl⟩
              rw [← ero_144] at pf_141
              refine W.eq (g2 := F0 m 66 ls []) rfl ?_
              replace hP : va_P D classes [((Va 0), .inr (7, [.ref (Va 1), .int sv_130, .int sv_131])), ((Va 1), .inl (tc 0, 400, .inl sv_132)), ((Ta 0), .inr (10, [.ref (Ta 1), .int (Tv 0), .int sv_133, .int sv_134, .int sv_135, .int sv_136])), ((Ta 1), .inl (tc 0, 400, .inl (Tf 1)))] H := hP₀
              replace hD : va_D A [((Va 0), .inr (7, [.ref (Va 1), .int sv_130, .int sv_131])), ((Va 1), .inl (tc 0, 400, .inl sv_132)), ((Ta 0), .inr (10, [.ref (Ta 1), .int (Tv 0), .int sv_133, .int sv_134, .int sv_135, .int sv_136])), ((Ta 1), .inl (tc 0, 400, .inl (Tf 1)))] := hD₀
              replace hS := hS₀
              clear hP₀ hD₀ hS₀
              refine lv_goto (tgt := 80) hx hb dX7_readSum_66 (by decide) ?_
              obtain ⟨x_145, ex_145⟩ : ∃ y : Int32, y = vy_29 + 1 := ⟨_, rfl⟩
              refine lv_iinc (v := x_145) (lv' := [(3, .int x_145), (2, .int r_110), (4, .int r_110), (0, .ref (Va 0)), (1, .ref (Ta 0))]) hx hb dX7_readSum_80 hl (k := 2) rfl (by rw [ex_145]; rfl) (by decide) rfl (fun ls hl₀ => ?_)
              replace hl := hl₀
              clear hl₀
              refine lv_goto (tgt := 9) hx hb dX7_readSum_83 (by decide) ?_
              have hb_146 : 401 - (x_145 : Int32).toInt < 401 - (vy_29 : Int32).toInt ∧ 1 ≤ 401 - (vy_29 : Int32).toInt := by
                have z_1 := Int32.lt_iff_toInt_lt.mp (Int32.not_le.mp c_55)
                have z_2 : ¬ (r_81 : Int32).toInt = ((-1) : Int32).toInt := fun z => c_84 (Int32.toInt_inj.mp z)
                have z_3 := congrArg Int32.toInt c_125
                have z_4 := congrArg Int32.toInt c_126
                have y_m12 : (-12 : Int32).toInt = -12 := by decide
                have y_m1 : (-1 : Int32).toInt = -1 := by decide
                have y_400 : (400 : Int32).toInt = 400 := by decide
                have y_1 : (1 : Int32).toInt = 1 := by decide
                have t_x_145 : x_145.toInt = (vy_29 : Int32).toInt + (1 : Int32).toInt := by rw [ex_145]; exact add_toInt (by omega) (by omega)
                omega
              have ha_147 : 0 ≤ (x_145 : Int32).toInt ∧ (x_145 : Int32).toInt ≤ 400 := by
                have z_1 := Int32.lt_iff_toInt_lt.mp (Int32.not_le.mp c_55)
                have z_2 : ¬ (r_81 : Int32).toInt = ((-1) : Int32).toInt := fun z => c_84 (Int32.toInt_inj.mp z)
                have z_3 := congrArg Int32.toInt c_125
                have z_4 := congrArg Int32.toInt c_126
                have y_m12 : (-12 : Int32).toInt = -12 := by decide
                have y_m1 : (-1 : Int32).toInt = -1 := by decide
                have y_400 : (400 : Int32).toInt = 400 := by decide
                have y_1 : (1 : Int32).toInt = 1 := by decide
                have t_x_145 : x_145.toInt = (vy_29 : Int32).toInt + (1 : Int32).toInt := by rw [ex_145]; exact add_toInt (by omega) (by omega)
                omega
              have hu_148 : TpR (Tf 1) (Tv 0) (pz_b (rNX (cB (Tf 1) (Tv 0)) rq_46) (pz_val (cB (Tf 1) (Tv 0)))) sv_133 sv_134 sv_135 sv_136 := by
                rw [← ero_121, ← ero_142]
                exact pf_139
              have hu_149 : Ctd (pz_b (rNX (cB (Tf 1) (Tv 0)) rq_46) (pz_val (cB (Tf 1) (Tv 0)))) sv_131 := by
                rw [← ero_121, ← ero_142]
                exact pf_140
              have hu_150 : CdK sv_132 sv_130 (pz_b (rNX (cB (Tf 1) (Tv 0)) rq_46) (pz_val (cB (Tf 1) (Tv 0)))) (Ap (rNX (cB (Tf 1) (Tv 0)) rq_46) (lval (cB (Tf 1) (Tv 0))) lq_51) := by
                rw [← ero_121, ← ero_142, ← ero_144]
                exact pf_141
              have hi_151 : (x_145 : Int32).toInt = (vy_29 : Int32).toInt + 1 := by
                have z_1 := Int32.lt_iff_toInt_lt.mp (Int32.not_le.mp c_55)
                have z_2 : ¬ (r_81 : Int32).toInt = ((-1) : Int32).toInt := fun z => c_84 (Int32.toInt_inj.mp z)
                have z_3 := congrArg Int32.toInt c_125
                have z_4 := congrArg Int32.toInt c_126
                have y_m12 : (-12 : Int32).toInt = -12 := by decide
                have y_m1 : (-1 : Int32).toInt = -1 := by decide
                have y_400 : (400 : Int32).toInt = 400 := by decide
                have y_1 : (1 : Int32).toInt = 1 := by decide
                have t_x_145 : x_145.toInt = (vy_29 : Int32).toInt + (1 : Int32).toInt := by rw [ex_145]; exact add_toInt (by omega) (by omega)
                omega
              have hr_152 : (vy_30 : Int32).toInt = -1 := by
                have z_1 := Int32.lt_iff_toInt_lt.mp (Int32.not_le.mp c_55)
                have z_2 : ¬ (r_81 : Int32).toInt = ((-1) : Int32).toInt := fun z => c_84 (Int32.toInt_inj.mp z)
                have z_3 := congrArg Int32.toInt c_125
                have z_4 := congrArg Int32.toInt c_126
                have y_m12 : (-12 : Int32).toInt = -12 := by decide
                have y_m1 : (-1 : Int32).toInt = -1 := by decide
                have y_400 : (400 : Int32).toInt = 400 := by decide
                omega
              have hr_153 : ((r_110 : Int32).toInt = -12 ∨ (r_110 : Int32).toInt = -13) := by
                have z_1 := Int32.lt_iff_toInt_lt.mp (Int32.not_le.mp c_55)
                have z_2 : ¬ (r_81 : Int32).toInt = ((-1) : Int32).toInt := fun z => c_84 (Int32.toInt_inj.mp z)
                have z_3 := congrArg Int32.toInt c_125
                have z_4 := congrArg Int32.toInt c_126
                have y_m12 : (-12 : Int32).toInt = -12 := by decide
                have y_m1 : (-1 : Int32).toInt = -1 := by decide
                have y_400 : (400 : Int32).toInt = 400 := by decide
                omega
              exact ih_39 x_145 r_110 sv_130 sv_131 sv_132 sv_133 sv_134 sv_135 sv_136 _ _ _ (by omega) ha_147 pf_137 pf_138 (SmC.pm0 h_tape.2.1 pf_47 pf_49 pf_50 pf_53 hr_152 he_111.2 hr_153 hu_148 hu_149 hu_150 hi_151) (hP.sub [0, 1, 2, 3] rfl) (hD.sub [0, 1, 2, 3] rfl rfl) hS (lv_sub hl [0, 1, 3, 4] rfl)
            · skip
              refine lv_aload_n hx hb dX7_readSum_53 rfl (lv_at hl 3 rfl) ?_
              refine lv_iload_n hx hb dX7_readSum_54 rfl (lv_at hl 2 rfl) ?_
              refine cV (a := (Va 0)) (As := [.int vy_30]) (rest := []) (wr := [((Ta 0), .inr (10, [.ref (Ta 1), .int (Tv 0), .int sv_116, .int sv_117, .int sv_118, .int vy_37])), ((Ta 1), .inl (tc 0, 400, .inl (Tf 1)))]) ⟨hx, hb, hml, hown, hts⟩ hK hX hA (cu_kX7_put l D tc sk (Va 0) (Va 1) vy_31 vy_32 vy_33 vy_30 ro_121 lq_51 pf_43 ck_124) k_642 k_639 k_641 k_10 k_99 pl_X7_put ⟨Nat.le_of_ble_eq_true rfl, Nat.le_of_ble_eq_true rfl⟩ rfl rfl (va_recv hK hP (ci := 7) (q0 := 0) rfl rfl) hP hD hS [0, 1] [2, 3] rfl rfl rfl rfl rfl (by decide) rfl hl.1 rfl (Nat.le_of_ble_eq_true rfl) dX7_readSum_55 ⟨Nat.le_of_ble_eq_true rfl, Nat.le_of_ble_eq_true rfl⟩ (fun v_154 u_155 H locs hv_156 hP₀ hD₀ hS₀ => ?_)
              obtain ⟨sv_157, sv_158⟩ := u_155
              obtain ⟨rfl, pf_159, pf_160⟩ := hv_156
              have pf_159 : 0 ≤ (sv_157 : Int32).toInt ∧ (sv_157 : Int32).toInt ≤ 400 := pf_159
              have pf_160 : CdK sv_158 sv_157 ro_121 (lq_51 ++ [vy_30.toInt]) := pf_160
              obtain ⟨ro_161, ero_161⟩ : ∃ z : List Int, z = (lq_51 ++ [vy_30.toInt]) := ⟨_, rfl⟩
              rw [← ero_161] at pf_160
              refine W.eq (g2 := F0 m 58 ls []) rfl ?_
              replace hP : va_P D classes [((Ta 0), .inr (10, [.ref (Ta 1), .int (Tv 0), .int sv_116, .int sv_117, .int sv_118, .int vy_37])), ((Ta 1), .inl (tc 0, 400, .inl (Tf 1))), ((Va 0), .inr (7, [.ref (Va 1), .int sv_157, .int vy_32])), ((Va 1), .inl (tc 0, 400, .inl sv_158))] H := hP₀
              replace hD : va_D A [((Ta 0), .inr (10, [.ref (Ta 1), .int (Tv 0), .int sv_116, .int sv_117, .int sv_118, .int vy_37])), ((Ta 1), .inl (tc 0, 400, .inl (Tf 1))), ((Va 0), .inr (7, [.ref (Va 1), .int sv_157, .int vy_32])), ((Va 1), .inl (tc 0, 400, .inl sv_158))] := hD₀
              replace hS := hS₀
              clear hP₀ hD₀ hS₀
              refine lv_iload hx hb dX7_readSum_58 (lv_at hl 0 rfl) ?_
              refine lv_istore_n (lv' := [(2, .int r_110), (4, .int r_110), (3, .int vy_29), (0, .ref (Va 0)), (1, .ref (Ta 0))]) hx hb dX7_readSum_60 rfl hl (by decide) rfl (fun ls hl₀ => ?_)
              replace hl := hl₀
              clear hl₀
              refine lv_aload_n hx hb dX7_readSum_61 rfl (lv_at hl 3 rfl) ?_
              refine lv_aload_n hx hb dX7_readSum_62 rfl (lv_at hl 4 rfl) ?_
              refine cV (a := (Va 0)) (As := [.ref (Ta 0)]) (rest := []) (wr := []) ⟨hx, hb, hml, hown, hts⟩ hK hX hA (cu_kX7_readValue l D tc sk (Va 0) (Va 1) sv_157 vy_32 sv_158 (Ta 0) (Ta 1) (Tv 0) sv_116 sv_117 sv_118 vy_37 (Tf 1) ro_121 ro_161 pf_119 pf_159 h_by pf_120 cd_123 pf_160) k_628 k_625 k_627 k_8 k_99 pl_X7_readValue ⟨Nat.le_of_ble_eq_true rfl, Nat.le_of_ble_eq_true rfl⟩ rfl rfl (va_recv hK hP (ci := 7) (q0 := 2) rfl rfl) hP hD hS [2, 3, 0, 1] [] rfl rfl rfl rfl rfl (by decide) rfl hl.1 rfl (Nat.le_of_ble_eq_true rfl) dX7_readSum_63 ⟨Nat.le_of_ble_eq_true rfl, Nat.le_of_ble_eq_true rfl⟩ (fun v_162 u_163 H locs hv_164 hP₀ hD₀ hS₀ => ?_)
              obtain ⟨sv_165, sv_166, sv_167, sv_168, sv_169, sv_170, sv_171⟩ := u_163
              obtain ⟨rfl, pf_172, pf_173, pf_174, pf_175, pf_176⟩ := hv_164
              have pf_172 : 0 ≤ ((Tv 0) : Int32).toInt ∧ ((Tv 0) : Int32).toInt ≤ 400 ∧ 0 ≤ (sv_168 : Int32).toInt ∧ (sv_168 : Int32).toInt ≤ 400 ∧ 0 ≤ (sv_169 : Int32).toInt ∧ (sv_169 : Int32).toInt ≤ 400 := pf_172
              have pf_173 : 0 ≤ (sv_165 : Int32).toInt ∧ (sv_165 : Int32).toInt ≤ 400 := pf_173
              have pf_174 : TpR (Tf 1) (Tv 0) (pz_b ro_121 (pz_val (cB (Tf 1) (Tv 0)))) sv_168 sv_169 sv_170 sv_171 := pf_174
              obtain ⟨ro_177, ero_177⟩ : ∃ z : Except Int (Nat × Nat), z = (pz_b ro_121 (pz_val (cB (Tf 1) (Tv 0)))) := ⟨_, rfl⟩
              rw [← ero_177] at pf_174
              have tb_178 : TpB (rTE (cB (Tf 1) (Tv 0)) ro_177) sv_169 sv_171 := TpR.tb pf_174
              have pf_175 : Ctd (pz_b ro_121 (pz_val (cB (Tf 1) (Tv 0)))) sv_166 := pf_175
              rw [← ero_177] at pf_175
              have pf_176 : CdK sv_167 sv_165 (pz_b ro_121 (pz_val (cB (Tf 1) (Tv 0)))) (Ap ro_121 (lval (cB (Tf 1) (Tv 0))) ro_161) := pf_176
              rw [← ero_177] at pf_176
              obtain ⟨ro_179, ero_179⟩ : ∃ z : List Int, z = (Ap ro_121 (lval (cB (Tf 1) (Tv 0))) ro_161) := ⟨_, rfl⟩
              rw [← ero_179] at pf_176
              refine W.eq (g2 := F0 m 66 ls []) rfl ?_
              replace hP : va_P D classes [((Va 0), .inr (7, [.ref (Va 1), .int sv_165, .int sv_166])), ((Va 1), .inl (tc 0, 400, .inl sv_167)), ((Ta 0), .inr (10, [.ref (Ta 1), .int (Tv 0), .int sv_168, .int sv_169, .int sv_170, .int sv_171])), ((Ta 1), .inl (tc 0, 400, .inl (Tf 1)))] H := hP₀
              replace hD : va_D A [((Va 0), .inr (7, [.ref (Va 1), .int sv_165, .int sv_166])), ((Va 1), .inl (tc 0, 400, .inl sv_167)), ((Ta 0), .inr (10, [.ref (Ta 1), .int (Tv 0), .int sv_168, .int sv_169, .int sv_170, .int sv_171])), ((Ta 1), .inl (tc 0, 400, .inl (Tf 1)))] := hD₀
              replace hS := hS₀
              clear hP₀ hD₀ hS₀
              refine lv_goto (tgt := 80) hx hb dX7_readSum_66 (by decide) ?_
              obtain ⟨x_180, ex_180⟩ : ∃ y : Int32, y = vy_29 + 1 := ⟨_, rfl⟩
              refine lv_iinc (v := x_180) (lv' := [(3, .int x_180), (2, .int r_110), (4, .int r_110), (0, .ref (Va 0)), (1, .ref (Ta 0))]) hx hb dX7_readSum_80 hl (k := 2) rfl (by rw [ex_180]; rfl) (by decide) rfl (fun ls hl₀ => ?_)
              replace hl := hl₀
              clear hl₀
              refine lv_goto (tgt := 9) hx hb dX7_readSum_83 (by decide) ?_
              have hb_181 : 401 - (x_180 : Int32).toInt < 401 - (vy_29 : Int32).toInt ∧ 1 ≤ 401 - (vy_29 : Int32).toInt := by
                have z_1 := Int32.lt_iff_toInt_lt.mp (Int32.not_le.mp c_55)
                have z_2 : ¬ (r_81 : Int32).toInt = ((-1) : Int32).toInt := fun z => c_84 (Int32.toInt_inj.mp z)
                have z_3 := congrArg Int32.toInt c_125
                have z_4 : ¬ (vy_30 : Int32).toInt = ((-1) : Int32).toInt := fun z => c_126 (Int32.toInt_inj.mp z)
                have y_m12 : (-12 : Int32).toInt = -12 := by decide
                have y_m1 : (-1 : Int32).toInt = -1 := by decide
                have y_400 : (400 : Int32).toInt = 400 := by decide
                have y_1 : (1 : Int32).toInt = 1 := by decide
                have t_x_180 : x_180.toInt = (vy_29 : Int32).toInt + (1 : Int32).toInt := by rw [ex_180]; exact add_toInt (by omega) (by omega)
                omega
              have ha_182 : 0 ≤ (x_180 : Int32).toInt ∧ (x_180 : Int32).toInt ≤ 400 := by
                have z_1 := Int32.lt_iff_toInt_lt.mp (Int32.not_le.mp c_55)
                have z_2 : ¬ (r_81 : Int32).toInt = ((-1) : Int32).toInt := fun z => c_84 (Int32.toInt_inj.mp z)
                have z_3 := congrArg Int32.toInt c_125
                have z_4 : ¬ (vy_30 : Int32).toInt = ((-1) : Int32).toInt := fun z => c_126 (Int32.toInt_inj.mp z)
                have y_m12 : (-12 : Int32).toInt = -12 := by decide
                have y_m1 : (-1 : Int32).toInt = -1 := by decide
                have y_400 : (400 : Int32).toInt = 400 := by decide
                have y_1 : (1 : Int32).toInt = 1 := by decide
                have t_x_180 : x_180.toInt = (vy_29 : Int32).toInt + (1 : Int32).toInt := by rw [ex_180]; exact add_toInt (by omega) (by omega)
                omega
              have hu_183 : TpR (Tf 1) (Tv 0) (pz_b (rNX (cB (Tf 1) (Tv 0)) rq_46) (pz_val (cB (Tf 1) (Tv 0)))) sv_168 sv_169 sv_170 sv_171 := by
                rw [← ero_121, ← ero_177]
                exact pf_174
              have hu_184 : Ctd (pz_b (rNX (cB (Tf 1) (Tv 0)) rq_46) (pz_val (cB (Tf 1) (Tv 0)))) sv_166 := by
                rw [← ero_121, ← ero_177]
                exact pf_175
              have hu_185 : CdK sv_167 sv_165 (pz_b (rNX (cB (Tf 1) (Tv 0)) rq_46) (pz_val (cB (Tf 1) (Tv 0)))) (Ap (rNX (cB (Tf 1) (Tv 0)) rq_46) (lval (cB (Tf 1) (Tv 0))) (lq_51 ++ [vy_30.toInt])) := by
                rw [← ero_121, ← ero_161, ← ero_177, ← ero_179]
                exact pf_176
              have hi_186 : (x_180 : Int32).toInt = (vy_29 : Int32).toInt + 1 := by
                have z_1 := Int32.lt_iff_toInt_lt.mp (Int32.not_le.mp c_55)
                have z_2 : ¬ (r_81 : Int32).toInt = ((-1) : Int32).toInt := fun z => c_84 (Int32.toInt_inj.mp z)
                have z_3 := congrArg Int32.toInt c_125
                have z_4 : ¬ (vy_30 : Int32).toInt = ((-1) : Int32).toInt := fun z => c_126 (Int32.toInt_inj.mp z)
                have y_m12 : (-12 : Int32).toInt = -12 := by decide
                have y_m1 : (-1 : Int32).toInt = -1 := by decide
                have y_400 : (400 : Int32).toInt = 400 := by decide
                have y_1 : (1 : Int32).toInt = 1 := by decide
                have t_x_180 : x_180.toInt = (vy_29 : Int32).toInt + (1 : Int32).toInt := by rw [ex_180]; exact add_toInt (by omega) (by omega)
                omega
              have hr_187 : ¬ (vy_30 : Int32).toInt = -1 := by
                have z_1 := Int32.lt_iff_toInt_lt.mp (Int32.not_le.mp c_55)
                have z_2 : ¬ (r_81 : Int32).toInt = ((-1) : Int32).toInt := fun z => c_84 (Int32.toInt_inj.mp z)
                have z_3 := congrArg Int32.toInt c_125
                have z_4 : ¬ (vy_30 : Int32).toInt = ((-1) : Int32).toInt := fun z => c_126 (Int32.toInt_inj.mp z)
                have y_m12 : (-12 : Int32).toInt = -12 := by decide
                have y_m1 : (-1 : Int32).toInt = -1 := by decide
                have y_400 : (400 : Int32).toInt = 400 := by decide
                omega
              have hr_188 : ((r_110 : Int32).toInt = -12 ∨ (r_110 : Int32).toInt = -13) := by
                have z_1 := Int32.lt_iff_toInt_lt.mp (Int32.not_le.mp c_55)
                have z_2 : ¬ (r_81 : Int32).toInt = ((-1) : Int32).toInt := fun z => c_84 (Int32.toInt_inj.mp z)
                have z_3 := congrArg Int32.toInt c_125
                have z_4 : ¬ (vy_30 : Int32).toInt = ((-1) : Int32).toInt := fun z => c_126 (Int32.toInt_inj.mp z)
                have y_m12 : (-12 : Int32).toInt = -12 := by decide
                have y_m1 : (-1 : Int32).toInt = -1 := by decide
                have y_400 : (400 : Int32).toInt = 400 := by decide
                omega
              exact ih_39 x_180 r_110 sv_165 sv_166 sv_167 sv_168 sv_169 sv_170 sv_171 _ _ _ (by omega) ha_182 pf_172 pf_173 (SmC.pm1 h_tape.2.1 pf_47 pf_49 pf_50 pf_53 hr_187 he_111.2 hr_188 hu_183 hu_184 hu_185 hi_186) (hP.sub [0, 1, 2, 3] rfl) (hD.sub [0, 1, 2, 3] rfl rfl) hS (lv_sub hl [0, 1, 3, 4] rfl)
          · skip
            refine lv_iload hx hb dX7_readSum_41 (lv_at hl 0 rfl) ?_
            refine lv_bipush (v := (-13)) hx hb dX7_readSum_43 (by decide) ?_
            refine lv_icmp_ne (tgt := 69) hx hb dX7_readSum_45 (by decide) (fun c_189 => ?_) (fun c_189 => ?_)
            · skip
              refine lv_aload_n hx hb dX7_readSum_69 rfl (lv_at hl 3 rfl) ?_
              refine lv_aload_n hx hb dX7_readSum_70 rfl (lv_at hl 4 rfl) ?_
              refine cV (a := (Va 0)) (As := [.ref (Ta 0)]) (rest := []) (wr := []) ⟨hx, hb, hml, hown, hts⟩ hK hX hA (cu_kX7_readValue l D tc sk (Va 0) (Va 1) vy_31 vy_32 vy_33 (Ta 0) (Ta 1) (Tv 0) sv_116 sv_117 sv_118 vy_37 (Tf 1) ro_121 lq_51 pf_119 pf_43 h_by pf_120 cd_123 ck_124) k_628 k_625 k_627 k_8 k_99 pl_X7_readValue ⟨Nat.le_of_ble_eq_true rfl, Nat.le_of_ble_eq_true rfl⟩ rfl rfl (va_recv hK hP (ci := 7) (q0 := 0) rfl rfl) hP hD hS [0, 1, 2, 3] [] rfl rfl rfl rfl rfl (by decide) rfl hl.1 rfl (Nat.le_of_ble_eq_true rfl) dX7_readSum_71 ⟨Nat.le_of_ble_eq_true rfl, Nat.le_of_ble_eq_true rfl⟩ (fun v_190 u_191 H locs hv_192 hP₀ hD₀ hS₀ => ?_)
              obtain ⟨sv_193, sv_194, sv_195, sv_196, sv_197, sv_198, sv_199⟩ := u_191
              obtain ⟨rfl, pf_200, pf_201, pf_202, pf_203, pf_204⟩ := hv_192
              have pf_200 : 0 ≤ ((Tv 0) : Int32).toInt ∧ ((Tv 0) : Int32).toInt ≤ 400 ∧ 0 ≤ (sv_196 : Int32).toInt ∧ (sv_196 : Int32).toInt ≤ 400 ∧ 0 ≤ (sv_197 : Int32).toInt ∧ (sv_197 : Int32).toInt ≤ 400 := pf_200
              have pf_201 : 0 ≤ (sv_193 : Int32).toInt ∧ (sv_193 : Int32).toInt ≤ 400 := pf_201
              have pf_202 : TpR (Tf 1) (Tv 0) (pz_b ro_121 (pz_val (cB (Tf 1) (Tv 0)))) sv_196 sv_197 sv_198 sv_199 := pf_202
              obtain ⟨ro_205, ero_205⟩ : ∃ z : Except Int (Nat × Nat), z = (pz_b ro_121 (pz_val (cB (Tf 1) (Tv 0)))) := ⟨_, rfl⟩
              rw [← ero_205] at pf_202
              have tb_206 : TpB (rTE (cB (Tf 1) (Tv 0)) ro_205) sv_197 sv_199 := TpR.tb pf_202
              have pf_203 : Ctd (pz_b ro_121 (pz_val (cB (Tf 1) (Tv 0)))) sv_194 := pf_203
              rw [← ero_205] at pf_203
              have pf_204 : CdK sv_195 sv_193 (pz_b ro_121 (pz_val (cB (Tf 1) (Tv 0)))) (Ap ro_121 (lval (cB (Tf 1) (Tv 0))) lq_51) := pf_204
              rw [← ero_205] at pf_204
              obtain ⟨ro_207, ero_207⟩ : ∃ z : List Int, z = (Ap ro_121 (lval (cB (Tf 1) (Tv 0))) lq_51) := ⟨_, rfl⟩
              rw [← ero_207] at pf_204
              refine W.eq (g2 := F0 m 74 ls []) rfl ?_
              replace hP : va_P D classes [((Va 0), .inr (7, [.ref (Va 1), .int sv_193, .int sv_194])), ((Va 1), .inl (tc 0, 400, .inl sv_195)), ((Ta 0), .inr (10, [.ref (Ta 1), .int (Tv 0), .int sv_196, .int sv_197, .int sv_198, .int sv_199])), ((Ta 1), .inl (tc 0, 400, .inl (Tf 1)))] H := hP₀
              replace hD : va_D A [((Va 0), .inr (7, [.ref (Va 1), .int sv_193, .int sv_194])), ((Va 1), .inl (tc 0, 400, .inl sv_195)), ((Ta 0), .inr (10, [.ref (Ta 1), .int (Tv 0), .int sv_196, .int sv_197, .int sv_198, .int sv_199])), ((Ta 1), .inl (tc 0, 400, .inl (Tf 1)))] := hD₀
              replace hS := hS₀
              clear hP₀ hD₀ hS₀
              refine lv_aload_n hx hb dX7_readSum_74 rfl (lv_at hl 3 rfl) ?_
              refine lv_iload hx hb dX7_readSum_75 (lv_at hl 0 rfl) ?_
              refine cV (a := (Va 0)) (As := [.int r_110]) (rest := []) (wr := [((Ta 0), .inr (10, [.ref (Ta 1), .int (Tv 0), .int sv_196, .int sv_197, .int sv_198, .int sv_199])), ((Ta 1), .inl (tc 0, 400, .inl (Tf 1)))]) ⟨hx, hb, hml, hown, hts⟩ hK hX hA (cu_kX7_put l D tc sk (Va 0) (Va 1) sv_193 sv_194 sv_195 r_110 ro_205 ro_207 pf_201 pf_204) k_642 k_639 k_641 k_10 k_99 pl_X7_put ⟨Nat.le_of_ble_eq_true rfl, Nat.le_of_ble_eq_true rfl⟩ rfl rfl (va_recv hK hP (ci := 7) (q0 := 0) rfl rfl) hP hD hS [0, 1] [2, 3] rfl rfl rfl rfl rfl (by decide) rfl hl.1 rfl (Nat.le_of_ble_eq_true rfl) dX7_readSum_77 ⟨Nat.le_of_ble_eq_true rfl, Nat.le_of_ble_eq_true rfl⟩ (fun v_208 u_209 H locs hv_210 hP₀ hD₀ hS₀ => ?_)
              obtain ⟨sv_211, sv_212⟩ := u_209
              obtain ⟨rfl, pf_213, pf_214⟩ := hv_210
              have pf_213 : 0 ≤ (sv_211 : Int32).toInt ∧ (sv_211 : Int32).toInt ≤ 400 := pf_213
              have pf_214 : CdK sv_212 sv_211 ro_205 (ro_207 ++ [r_110.toInt]) := pf_214
              obtain ⟨ro_215, ero_215⟩ : ∃ z : List Int, z = (ro_207 ++ [r_110.toInt]) := ⟨_, rfl⟩
              rw [← ero_215] at pf_214
              refine W.eq (g2 := F0 m 80 ls []) rfl ?_
              replace hP : va_P D classes [((Ta 0), .inr (10, [.ref (Ta 1), .int (Tv 0), .int sv_196, .int sv_197, .int sv_198, .int sv_199])), ((Ta 1), .inl (tc 0, 400, .inl (Tf 1))), ((Va 0), .inr (7, [.ref (Va 1), .int sv_211, .int sv_194])), ((Va 1), .inl (tc 0, 400, .inl sv_212))] H := hP₀
              replace hD : va_D A [((Ta 0), .inr (10, [.ref (Ta 1), .int (Tv 0), .int sv_196, .int sv_197, .int sv_198, .int sv_199])), ((Ta 1), .inl (tc 0, 400, .inl (Tf 1))), ((Va 0), .inr (7, [.ref (Va 1), .int sv_211, .int sv_194])), ((Va 1), .inl (tc 0, 400, .inl sv_212))] := hD₀
              replace hS := hS₀
              clear hP₀ hD₀ hS₀
              obtain ⟨x_216, ex_216⟩ : ∃ y : Int32, y = vy_29 + 1 := ⟨_, rfl⟩
              refine lv_iinc (v := x_216) (lv' := [(3, .int x_216), (4, .int r_110), (2, .int vy_30), (0, .ref (Va 0)), (1, .ref (Ta 0))]) hx hb dX7_readSum_80 hl (k := 1) rfl (by rw [ex_216]; rfl) (by decide) rfl (fun ls hl₀ => ?_)
              replace hl := hl₀
              clear hl₀
              refine lv_goto (tgt := 9) hx hb dX7_readSum_83 (by decide) ?_
              have hb_217 : 401 - (x_216 : Int32).toInt < 401 - (vy_29 : Int32).toInt ∧ 1 ≤ 401 - (vy_29 : Int32).toInt := by
                have z_1 := Int32.lt_iff_toInt_lt.mp (Int32.not_le.mp c_55)
                have z_2 : ¬ (r_81 : Int32).toInt = ((-1) : Int32).toInt := fun z => c_84 (Int32.toInt_inj.mp z)
                have z_3 : ¬ (r_110 : Int32).toInt = ((-12) : Int32).toInt := fun z => c_125 (Int32.toInt_inj.mp z)
                have z_4 : ¬ (r_110 : Int32).toInt = ((-13) : Int32).toInt := fun z => c_189 (Int32.toInt_inj.mp z)
                have y_m13 : (-13 : Int32).toInt = -13 := by decide
                have y_m12 : (-12 : Int32).toInt = -12 := by decide
                have y_m1 : (-1 : Int32).toInt = -1 := by decide
                have y_400 : (400 : Int32).toInt = 400 := by decide
                have y_1 : (1 : Int32).toInt = 1 := by decide
                have t_x_216 : x_216.toInt = (vy_29 : Int32).toInt + (1 : Int32).toInt := by rw [ex_216]; exact add_toInt (by omega) (by omega)
                omega
              have ha_218 : 0 ≤ (x_216 : Int32).toInt ∧ (x_216 : Int32).toInt ≤ 400 := by
                have z_1 := Int32.lt_iff_toInt_lt.mp (Int32.not_le.mp c_55)
                have z_2 : ¬ (r_81 : Int32).toInt = ((-1) : Int32).toInt := fun z => c_84 (Int32.toInt_inj.mp z)
                have z_3 : ¬ (r_110 : Int32).toInt = ((-12) : Int32).toInt := fun z => c_125 (Int32.toInt_inj.mp z)
                have z_4 : ¬ (r_110 : Int32).toInt = ((-13) : Int32).toInt := fun z => c_189 (Int32.toInt_inj.mp z)
                have y_m13 : (-13 : Int32).toInt = -13 := by decide
                have y_m12 : (-12 : Int32).toInt = -12 := by decide
                have y_m1 : (-1 : Int32).toInt = -1 := by decide
                have y_400 : (400 : Int32).toInt = 400 := by decide
                have y_1 : (1 : Int32).toInt = 1 := by decide
                have t_x_216 : x_216.toInt = (vy_29 : Int32).toInt + (1 : Int32).toInt := by rw [ex_216]; exact add_toInt (by omega) (by omega)
                omega
              have hu_219 : TpR (Tf 1) (Tv 0) (pz_b (rNX (cB (Tf 1) (Tv 0)) rq_46) (pz_val (cB (Tf 1) (Tv 0)))) sv_196 sv_197 sv_198 sv_199 := by
                rw [← ero_121, ← ero_205]
                exact pf_202
              have hu_220 : Ctd (pz_b (rNX (cB (Tf 1) (Tv 0)) rq_46) (pz_val (cB (Tf 1) (Tv 0)))) sv_194 := by
                rw [← ero_121, ← ero_205]
                exact pf_203
              have hu_221 : CdK sv_212 sv_211 (pz_b (rNX (cB (Tf 1) (Tv 0)) rq_46) (pz_val (cB (Tf 1) (Tv 0)))) ((Ap (rNX (cB (Tf 1) (Tv 0)) rq_46) (lval (cB (Tf 1) (Tv 0))) lq_51) ++ [r_110.toInt]) := by
                rw [← ero_121, ← ero_205, ← ero_207, ← ero_215]
                exact pf_214
              have hi_222 : (x_216 : Int32).toInt = (vy_29 : Int32).toInt + 1 := by
                have z_1 := Int32.lt_iff_toInt_lt.mp (Int32.not_le.mp c_55)
                have z_2 : ¬ (r_81 : Int32).toInt = ((-1) : Int32).toInt := fun z => c_84 (Int32.toInt_inj.mp z)
                have z_3 : ¬ (r_110 : Int32).toInt = ((-12) : Int32).toInt := fun z => c_125 (Int32.toInt_inj.mp z)
                have z_4 : ¬ (r_110 : Int32).toInt = ((-13) : Int32).toInt := fun z => c_189 (Int32.toInt_inj.mp z)
                have y_m13 : (-13 : Int32).toInt = -13 := by decide
                have y_m12 : (-12 : Int32).toInt = -12 := by decide
                have y_m1 : (-1 : Int32).toInt = -1 := by decide
                have y_400 : (400 : Int32).toInt = 400 := by decide
                have y_1 : (1 : Int32).toInt = 1 := by decide
                have t_x_216 : x_216.toInt = (vy_29 : Int32).toInt + (1 : Int32).toInt := by rw [ex_216]; exact add_toInt (by omega) (by omega)
                omega
              have hr_223 : ¬ (r_110 : Int32).toInt = -1 := by
                have z_1 := Int32.lt_iff_toInt_lt.mp (Int32.not_le.mp c_55)
                have z_2 : ¬ (r_81 : Int32).toInt = ((-1) : Int32).toInt := fun z => c_84 (Int32.toInt_inj.mp z)
                have z_3 : ¬ (r_110 : Int32).toInt = ((-12) : Int32).toInt := fun z => c_125 (Int32.toInt_inj.mp z)
                have z_4 : ¬ (r_110 : Int32).toInt = ((-13) : Int32).toInt := fun z => c_189 (Int32.toInt_inj.mp z)
                have y_m13 : (-13 : Int32).toInt = -13 := by decide
                have y_m12 : (-12 : Int32).toInt = -12 := by decide
                have y_m1 : (-1 : Int32).toInt = -1 := by decide
                have y_400 : (400 : Int32).toInt = 400 := by decide
                omega
              have hr_224 : ¬ ((r_110 : Int32).toInt = -12 ∨ (r_110 : Int32).toInt = -13) := by
                have z_1 := Int32.lt_iff_toInt_lt.mp (Int32.not_le.mp c_55)
                have z_2 : ¬ (r_81 : Int32).toInt = ((-1) : Int32).toInt := fun z => c_84 (Int32.toInt_inj.mp z)
                have z_3 : ¬ (r_110 : Int32).toInt = ((-12) : Int32).toInt := fun z => c_125 (Int32.toInt_inj.mp z)
                have z_4 : ¬ (r_110 : Int32).toInt = ((-13) : Int32).toInt := fun z => c_189 (Int32.toInt_inj.mp z)
                have y_m13 : (-13 : Int32).toInt = -13 := by decide
                have y_m12 : (-12 : Int32).toInt = -12 := by decide
                have y_m1 : (-1 : Int32).toInt = -1 := by decide
                have y_400 : (400 : Int32).toInt = 400 := by decide
                omega
              exact ih_39 x_216 vy_30 sv_211 sv_194 sv_212 sv_196 sv_197 sv_198 sv_199 _ _ _ (by omega) ha_218 pf_200 pf_213 (SmC.td h_tape.2.1 pf_47 pf_49 pf_50 pf_53 he_111.2 hr_223 hr_224 hu_219 hu_220 hu_221 hi_222) (hP.sub [2, 3, 0, 1] rfl) (hD.sub [2, 3, 0, 1] rfl rfl) hS (lv_sub hl [0, 2, 3, 4] rfl)
            · skip
              refine lv_iload_n hx hb dX7_readSum_48 rfl (lv_at hl 2 rfl) ?_
              refine lv_iconst (v := (-1)) hx hb dX7_readSum_49 (by decide) ?_
              refine lv_icmp_eq (tgt := 58) hx hb dX7_readSum_50 (by decide) (fun c_225 => ?_) (fun c_225 => ?_)
              · skip
                refine lv_iload hx hb dX7_readSum_58 (lv_at hl 0 rfl) ?_
                refine lv_istore_n (lv' := [(2, .int r_110), (4, .int r_110), (3, .int vy_29), (0, .ref (Va 0)), (1, .ref (Ta 0))]) hx hb dX7_readSum_60 rfl hl (by decide) rfl (fun ls hl₀ => ?_)
                replace hl := hl₀
                clear hl₀
                refine lv_aload_n hx hb dX7_readSum_61 rfl (lv_at hl 3 rfl) ?_
                refine lv_aload_n hx hb dX7_readSum_62 rfl (lv_at hl 4 rfl) ?_
                refine cV (a := (Va 0)) (As := [.ref (Ta 0)]) (rest := []) (wr := []) ⟨hx, hb, hml, hown, hts⟩ hK hX hA (cu_kX7_readValue l D tc sk (Va 0) (Va 1) vy_31 vy_32 vy_33 (Ta 0) (Ta 1) (Tv 0) sv_116 sv_117 sv_118 vy_37 (Tf 1) ro_121 lq_51 pf_119 pf_43 h_by pf_120 cd_123 ck_124) k_628 k_625 k_627 k_8 k_99 pl_X7_readValue ⟨Nat.le_of_ble_eq_true rfl, Nat.le_of_ble_eq_true rfl⟩ rfl rfl (va_recv hK hP (ci := 7) (q0 := 0) rfl rfl) hP hD hS [0, 1, 2, 3] [] rfl rfl rfl rfl rfl (by decide) rfl hl.1 rfl (Nat.le_of_ble_eq_true rfl) dX7_readSum_63 ⟨Nat.le_of_ble_eq_true rfl, Nat.le_of_ble_eq_true rfl⟩ (fun v_226 u_227 H locs hv_228 hP₀ hD₀ hS₀ => ?_)
                obtain ⟨sv_229, sv_230, sv_231, sv_232, sv_233, sv_234, sv_235⟩ := u_227
                obtain ⟨rfl, pf_236, pf_237, pf_238, pf_239, pf_240⟩ := hv_228
                have pf_236 : 0 ≤ ((Tv 0) : Int32).toInt ∧ ((Tv 0) : Int32).toInt ≤ 400 ∧ 0 ≤ (sv_232 : Int32).toInt ∧ (sv_232 : Int32).toInt ≤ 400 ∧ 0 ≤ (sv_233 : Int32).toInt ∧ (sv_233 : Int32).toInt ≤ 400 := pf_236
                have pf_237 : 0 ≤ (sv_229 : Int32).toInt ∧ (sv_229 : Int32).toInt ≤ 400 := pf_237
                have pf_238 : TpR (Tf 1) (Tv 0) (pz_b ro_121 (pz_val (cB (Tf 1) (Tv 0)))) sv_232 sv_233 sv_234 sv_235 := pf_238
                obtain ⟨ro_241, ero_241⟩ : ∃ z : Except Int (Nat × Nat), z = (pz_b ro_121 (pz_val (cB (Tf 1) (Tv 0)))) := ⟨_, rfl⟩
                rw [← ero_241] at pf_238
                have tb_242 : TpB (rTE (cB (Tf 1) (Tv 0)) ro_241) sv_233 sv_235 := TpR.tb pf_238
                have pf_239 : Ctd (pz_b ro_121 (pz_val (cB (Tf 1) (Tv 0)))) sv_230 := pf_239
                rw [← ero_241] at pf_239
                have pf_240 : CdK sv_231 sv_229 (pz_b ro_121 (pz_val (cB (Tf 1) (Tv 0)))) (Ap ro_121 (lval (cB (Tf 1) (Tv 0))) lq_51) := pf_240
                rw [← ero_241] at pf_240
                obtain ⟨ro_243, ero_243⟩ : ∃ z : List Int, z = (Ap ro_121 (lval (cB (Tf 1) (Tv 0))) lq_51) := ⟨_, rfl⟩
                rw [← ero_243] at pf_240
                refine W.eq (g2 := F0 m 66 ls []) rfl ?_
                replace hP : va_P D classes [((Va 0), .inr (7, [.ref (Va 1), .int sv_229, .int sv_230])), ((Va 1), .inl (tc 0, 400, .inl sv_231)), ((Ta 0), .inr (10, [.ref (Ta 1), .int (Tv 0), .int sv_232, .int sv_233, .int sv_234, .int sv_235])), ((Ta 1), .inl (tc 0, 400, .inl (Tf 1)))] H := hP₀
                replace hD : va_D A [((Va 0), .inr (7, [.ref (Va 1), .int sv_229, .int sv_230])), ((Va 1), .inl (tc 0, 400, .inl sv_231)), ((Ta 0), .inr (10, [.ref (Ta 1), .int (Tv 0), .int sv_232, .int sv_233, .int sv_234, .int sv_235])), ((Ta 1), .inl (tc 0, 400, .inl (Tf 1)))] := hD₀
                replace hS := hS₀
                clear hP₀ hD₀ hS₀
                refine lv_goto (tgt := 80) hx hb dX7_readSum_66 (by decide) ?_
                obtain ⟨x_244, ex_244⟩ : ∃ y : Int32, y = vy_29 + 1 := ⟨_, rfl⟩
                refine lv_iinc (v := x_244) (lv' := [(3, .int x_244), (2, .int r_110), (4, .int r_110), (0, .ref (Va 0)), (1, .ref (Ta 0))]) hx hb dX7_readSum_80 hl (k := 2) rfl (by rw [ex_244]; rfl) (by decide) rfl (fun ls hl₀ => ?_)
                replace hl := hl₀
                clear hl₀
                refine lv_goto (tgt := 9) hx hb dX7_readSum_83 (by decide) ?_
                have hb_245 : 401 - (x_244 : Int32).toInt < 401 - (vy_29 : Int32).toInt ∧ 1 ≤ 401 - (vy_29 : Int32).toInt := by
                  have z_1 := Int32.lt_iff_toInt_lt.mp (Int32.not_le.mp c_55)
                  have z_2 : ¬ (r_81 : Int32).toInt = ((-1) : Int32).toInt := fun z => c_84 (Int32.toInt_inj.mp z)
                  have z_3 : ¬ (r_110 : Int32).toInt = ((-12) : Int32).toInt := fun z => c_125 (Int32.toInt_inj.mp z)
                  have z_4 := congrArg Int32.toInt c_189
                  have z_5 := congrArg Int32.toInt c_225
                  have y_m13 : (-13 : Int32).toInt = -13 := by decide
                  have y_m12 : (-12 : Int32).toInt = -12 := by decide
                  have y_m1 : (-1 : Int32).toInt = -1 := by decide
                  have y_400 : (400 : Int32).toInt = 400 := by decide
                  have y_1 : (1 : Int32).toInt = 1 := by decide
                  have t_x_244 : x_244.toInt = (vy_29 : Int32).toInt + (1 : Int32).toInt := by rw [ex_244]; exact add_toInt (by omega) (by omega)
                  omega
                have ha_246 : 0 ≤ (x_244 : Int32).toInt ∧ (x_244 : Int32).toInt ≤ 400 := by
                  have z_1 := Int32.lt_iff_toInt_lt.mp (Int32.not_le.mp c_55)
                  have z_2 : ¬ (r_81 : Int32).toInt = ((-1) : Int32).toInt := fun z => c_84 (Int32.toInt_inj.mp z)
                  have z_3 : ¬ (r_110 : Int32).toInt = ((-12) : Int32).toInt := fun z => c_125 (Int32.toInt_inj.mp z)
                  have z_4 := congrArg Int32.toInt c_189
                  have z_5 := congrArg Int32.toInt c_225
                  have y_m13 : (-13 : Int32).toInt = -13 := by decide
                  have y_m12 : (-12 : Int32).toInt = -12 := by decide
                  have y_m1 : (-1 : Int32).toInt = -1 := by decide
                  have y_400 : (400 : Int32).toInt = 400 := by decide
                  have y_1 : (1 : Int32).toInt = 1 := by decide
                  have t_x_244 : x_244.toInt = (vy_29 : Int32).toInt + (1 : Int32).toInt := by rw [ex_244]; exact add_toInt (by omega) (by omega)
                  omega
                have hu_247 : TpR (Tf 1) (Tv 0) (pz_b (rNX (cB (Tf 1) (Tv 0)) rq_46) (pz_val (cB (Tf 1) (Tv 0)))) sv_232 sv_233 sv_234 sv_235 := by
                  rw [← ero_121, ← ero_241]
                  exact pf_238
                have hu_248 : Ctd (pz_b (rNX (cB (Tf 1) (Tv 0)) rq_46) (pz_val (cB (Tf 1) (Tv 0)))) sv_230 := by
                  rw [← ero_121, ← ero_241]
                  exact pf_239
                have hu_249 : CdK sv_231 sv_229 (pz_b (rNX (cB (Tf 1) (Tv 0)) rq_46) (pz_val (cB (Tf 1) (Tv 0)))) (Ap (rNX (cB (Tf 1) (Tv 0)) rq_46) (lval (cB (Tf 1) (Tv 0))) lq_51) := by
                  rw [← ero_121, ← ero_241, ← ero_243]
                  exact pf_240
                have hi_250 : (x_244 : Int32).toInt = (vy_29 : Int32).toInt + 1 := by
                  have z_1 := Int32.lt_iff_toInt_lt.mp (Int32.not_le.mp c_55)
                  have z_2 : ¬ (r_81 : Int32).toInt = ((-1) : Int32).toInt := fun z => c_84 (Int32.toInt_inj.mp z)
                  have z_3 : ¬ (r_110 : Int32).toInt = ((-12) : Int32).toInt := fun z => c_125 (Int32.toInt_inj.mp z)
                  have z_4 := congrArg Int32.toInt c_189
                  have z_5 := congrArg Int32.toInt c_225
                  have y_m13 : (-13 : Int32).toInt = -13 := by decide
                  have y_m12 : (-12 : Int32).toInt = -12 := by decide
                  have y_m1 : (-1 : Int32).toInt = -1 := by decide
                  have y_400 : (400 : Int32).toInt = 400 := by decide
                  have y_1 : (1 : Int32).toInt = 1 := by decide
                  have t_x_244 : x_244.toInt = (vy_29 : Int32).toInt + (1 : Int32).toInt := by rw [ex_244]; exact add_toInt (by omega) (by omega)
                  omega
                have hr_251 : (vy_30 : Int32).toInt = -1 := by
                  have z_1 := Int32.lt_iff_toInt_lt.mp (Int32.not_le.mp c_55)
                  have z_2 : ¬ (r_81 : Int32).toInt = ((-1) : Int32).toInt := fun z => c_84 (Int32.toInt_inj.mp z)
                  have z_3 : ¬ (r_110 : Int32).toInt = ((-12) : Int32).toInt := fun z => c_125 (Int32.toInt_inj.mp z)
                  have z_4 := congrArg Int32.toInt c_189
                  have z_5 := congrArg Int32.toInt c_225
                  have y_m13 : (-13 : Int32).toInt = -13 := by decide
                  have y_m12 : (-12 : Int32).toInt = -12 := by decide
                  have y_m1 : (-1 : Int32).toInt = -1 := by decide
                  have y_400 : (400 : Int32).toInt = 400 := by decide
                  omega
                have hr_252 : ((r_110 : Int32).toInt = -12 ∨ (r_110 : Int32).toInt = -13) := by
                  have z_1 := Int32.lt_iff_toInt_lt.mp (Int32.not_le.mp c_55)
                  have z_2 : ¬ (r_81 : Int32).toInt = ((-1) : Int32).toInt := fun z => c_84 (Int32.toInt_inj.mp z)
                  have z_3 : ¬ (r_110 : Int32).toInt = ((-12) : Int32).toInt := fun z => c_125 (Int32.toInt_inj.mp z)
                  have z_4 := congrArg Int32.toInt c_189
                  have z_5 := congrArg Int32.toInt c_225
                  have y_m13 : (-13 : Int32).toInt = -13 := by decide
                  have y_m12 : (-12 : Int32).toInt = -12 := by decide
                  have y_m1 : (-1 : Int32).toInt = -1 := by decide
                  have y_400 : (400 : Int32).toInt = 400 := by decide
                  omega
                exact ih_39 x_244 r_110 sv_229 sv_230 sv_231 sv_232 sv_233 sv_234 sv_235 _ _ _ (by omega) ha_246 pf_236 pf_237 (SmC.pm0 h_tape.2.1 pf_47 pf_49 pf_50 pf_53 hr_251 he_111.2 hr_252 hu_247 hu_248 hu_249 hi_250) (hP.sub [0, 1, 2, 3] rfl) (hD.sub [0, 1, 2, 3] rfl rfl) hS (lv_sub hl [0, 1, 3, 4] rfl)
              · skip
                refine lv_aload_n hx hb dX7_readSum_53 rfl (lv_at hl 3 rfl) ?_
                refine lv_iload_n hx hb dX7_readSum_54 rfl (lv_at hl 2 rfl) ?_
                refine cV (a := (Va 0)) (As := [.int vy_30]) (rest := []) (wr := [((Ta 0), .inr (10, [.ref (Ta 1), .int (Tv 0), .int sv_116, .int sv_117, .int sv_118, .int vy_37])), ((Ta 1), .inl (tc 0, 400, .inl (Tf 1)))]) ⟨hx, hb, hml, hown, hts⟩ hK hX hA (cu_kX7_put l D tc sk (Va 0) (Va 1) vy_31 vy_32 vy_33 vy_30 ro_121 lq_51 pf_43 ck_124) k_642 k_639 k_641 k_10 k_99 pl_X7_put ⟨Nat.le_of_ble_eq_true rfl, Nat.le_of_ble_eq_true rfl⟩ rfl rfl (va_recv hK hP (ci := 7) (q0 := 0) rfl rfl) hP hD hS [0, 1] [2, 3] rfl rfl rfl rfl rfl (by decide) rfl hl.1 rfl (Nat.le_of_ble_eq_true rfl) dX7_readSum_55 ⟨Nat.le_of_ble_eq_true rfl, Nat.le_of_ble_eq_true rfl⟩ (fun v_253 u_254 H locs hv_255 hP₀ hD₀ hS₀ => ?_)
                obtain ⟨sv_256, sv_257⟩ := u_254
                obtain ⟨rfl, pf_258, pf_259⟩ := hv_255
                have pf_258 : 0 ≤ (sv_256 : Int32).toInt ∧ (sv_256 : Int32).toInt ≤ 400 := pf_258
                have pf_259 : CdK sv_257 sv_256 ro_121 (lq_51 ++ [vy_30.toInt]) := pf_259
                obtain ⟨ro_260, ero_260⟩ : ∃ z : List Int, z = (lq_51 ++ [vy_30.toInt]) := ⟨_, rfl⟩
                rw [← ero_260] at pf_259
                refine W.eq (g2 := F0 m 58 ls []) rfl ?_
                replace hP : va_P D classes [((Ta 0), .inr (10, [.ref (Ta 1), .int (Tv 0), .int sv_116, .int sv_117, .int sv_118, .int vy_37])), ((Ta 1), .inl (tc 0, 400, .inl (Tf 1))), ((Va 0), .inr (7, [.ref (Va 1), .int sv_256, .int vy_32])), ((Va 1), .inl (tc 0, 400, .inl sv_257))] H := hP₀
                replace hD : va_D A [((Ta 0), .inr (10, [.ref (Ta 1), .int (Tv 0), .int sv_116, .int sv_117, .int sv_118, .int vy_37])), ((Ta 1), .inl (tc 0, 400, .inl (Tf 1))), ((Va 0), .inr (7, [.ref (Va 1), .int sv_256, .int vy_32])), ((Va 1), .inl (tc 0, 400, .inl sv_257))] := hD₀
                replace hS := hS₀
                clear hP₀ hD₀ hS₀
                refine lv_iload hx hb dX7_readSum_58 (lv_at hl 0 rfl) ?_
                refine lv_istore_n (lv' := [(2, .int r_110), (4, .int r_110), (3, .int vy_29), (0, .ref (Va 0)), (1, .ref (Ta 0))]) hx hb dX7_readSum_60 rfl hl (by decide) rfl (fun ls hl₀ => ?_)
                replace hl := hl₀
                clear hl₀
                refine lv_aload_n hx hb dX7_readSum_61 rfl (lv_at hl 3 rfl) ?_
                refine lv_aload_n hx hb dX7_readSum_62 rfl (lv_at hl 4 rfl) ?_
                refine cV (a := (Va 0)) (As := [.ref (Ta 0)]) (rest := []) (wr := []) ⟨hx, hb, hml, hown, hts⟩ hK hX hA (cu_kX7_readValue l D tc sk (Va 0) (Va 1) sv_256 vy_32 sv_257 (Ta 0) (Ta 1) (Tv 0) sv_116 sv_117 sv_118 vy_37 (Tf 1) ro_121 ro_260 pf_119 pf_258 h_by pf_120 cd_123 pf_259) k_628 k_625 k_627 k_8 k_99 pl_X7_readValue ⟨Nat.le_of_ble_eq_true rfl, Nat.le_of_ble_eq_true rfl⟩ rfl rfl (va_recv hK hP (ci := 7) (q0 := 2) rfl rfl) hP hD hS [2, 3, 0, 1] [] rfl rfl rfl rfl rfl (by decide) rfl hl.1 rfl (Nat.le_of_ble_eq_true rfl) dX7_readSum_63 ⟨Nat.le_of_ble_eq_true rfl, Nat.le_of_ble_eq_true rfl⟩ (fun v_261 u_262 H locs hv_263 hP₀ hD₀ hS₀ => ?_)
                obtain ⟨sv_264, sv_265, sv_266, sv_267, sv_268, sv_269, sv_270⟩ := u_262
                obtain ⟨rfl, pf_271, pf_272, pf_273, pf_274, pf_275⟩ := hv_263
                have pf_271 : 0 ≤ ((Tv 0) : Int32).toInt ∧ ((Tv 0) : Int32).toInt ≤ 400 ∧ 0 ≤ (sv_267 : Int32).toInt ∧ (sv_267 : Int32).toInt ≤ 400 ∧ 0 ≤ (sv_268 : Int32).toInt ∧ (sv_268 : Int32).toInt ≤ 400 := pf_271
                have pf_272 : 0 ≤ (sv_264 : Int32).toInt ∧ (sv_264 : Int32).toInt ≤ 400 := pf_272
                have pf_273 : TpR (Tf 1) (Tv 0) (pz_b ro_121 (pz_val (cB (Tf 1) (Tv 0)))) sv_267 sv_268 sv_269 sv_270 := pf_273
                obtain ⟨ro_276, ero_276⟩ : ∃ z : Except Int (Nat × Nat), z = (pz_b ro_121 (pz_val (cB (Tf 1) (Tv 0)))) := ⟨_, rfl⟩
                rw [← ero_276] at pf_273
                have tb_277 : TpB (rTE (cB (Tf 1) (Tv 0)) ro_276) sv_268 sv_270 := TpR.tb pf_273
                have pf_274 : Ctd (pz_b ro_121 (pz_val (cB (Tf 1) (Tv 0)))) sv_265 := pf_274
                rw [← ero_276] at pf_274
                have pf_275 : CdK sv_266 sv_264 (pz_b ro_121 (pz_val (cB (Tf 1) (Tv 0)))) (Ap ro_121 (lval (cB (Tf 1) (Tv 0))) ro_260) := pf_275
                rw [← ero_276] at pf_275
                obtain ⟨ro_278, ero_278⟩ : ∃ z : List Int, z = (Ap ro_121 (lval (cB (Tf 1) (Tv 0))) ro_260) := ⟨_, rfl⟩
                rw [← ero_278] at pf_275
                refine W.eq (g2 := F0 m 66 ls []) rfl ?_
                replace hP : va_P D classes [((Va 0), .inr (7, [.ref (Va 1), .int sv_264, .int sv_265])), ((Va 1), .inl (tc 0, 400, .inl sv_266)), ((Ta 0), .inr (10, [.ref (Ta 1), .int (Tv 0), .int sv_267, .int sv_268, .int sv_269, .int sv_270])), ((Ta 1), .inl (tc 0, 400, .inl (Tf 1)))] H := hP₀
                replace hD : va_D A [((Va 0), .inr (7, [.ref (Va 1), .int sv_264, .int sv_265])), ((Va 1), .inl (tc 0, 400, .inl sv_266)), ((Ta 0), .inr (10, [.ref (Ta 1), .int (Tv 0), .int sv_267, .int sv_268, .int sv_269, .int sv_270])), ((Ta 1), .inl (tc 0, 400, .inl (Tf 1)))] := hD₀
                replace hS := hS₀
                clear hP₀ hD₀ hS₀
                refine lv_goto (tgt := 80) hx hb dX7_readSum_66 (by decide) ?_
                obtain ⟨x_279, ex_279⟩ : ∃ y : Int32, y = vy_29 + 1 := ⟨_, rfl⟩
                refine lv_iinc (v := x_279) (lv' := [(3, .int x_279), (2, .int r_110), (4, .int r_110), (0, .ref (Va 0)), (1, .ref (Ta 0))]) hx hb dX7_readSum_80 hl (k := 2) rfl (by rw [ex_279]; rfl) (by decide) rfl (fun ls hl₀ => ?_)
                replace hl := hl₀
                clear hl₀
                refine lv_goto (tgt := 9) hx hb dX7_readSum_83 (by decide) ?_
                have hb_280 : 401 - (x_279 : Int32).toInt < 401 - (vy_29 : Int32).toInt ∧ 1 ≤ 401 - (vy_29 : Int32).toInt := by
                  have z_1 := Int32.lt_iff_toInt_lt.mp (Int32.not_le.mp c_55)
                  have z_2 : ¬ (r_81 : Int32).toInt = ((-1) : Int32).toInt := fun z => c_84 (Int32.toInt_inj.mp z)
                  have z_3 : ¬ (r_110 : Int32).toInt = ((-12) : Int32).toInt := fun z => c_125 (Int32.toInt_inj.mp z)
                  have z_4 := congrArg Int32.toInt c_189
                  have z_5 : ¬ (vy_30 : Int32).toInt = ((-1) : Int32).toInt := fun z => c_225 (Int32.toInt_inj.mp z)
                  have y_m13 : (-13 : Int32).toInt = -13 := by decide
                  have y_m12 : (-12 : Int32).toInt = -12 := by decide
                  have y_m1 : (-1 : Int32).toInt = -1 := by decide
                  have y_400 : (400 : Int32).toInt = 400 := by decide
                  have y_1 : (1 : Int32).toInt = 1 := by decide
                  have t_x_279 : x_279.toInt = (vy_29 : Int32).toInt + (1 : Int32).toInt := by rw [ex_279]; exact add_toInt (by omega) (by omega)
                  omega
                have ha_281 : 0 ≤ (x_279 : Int32).toInt ∧ (x_279 : Int32).toInt ≤ 400 := by
                  have z_1 := Int32.lt_iff_toInt_lt.mp (Int32.not_le.mp c_55)
                  have z_2 : ¬ (r_81 : Int32).toInt = ((-1) : Int32).toInt := fun z => c_84 (Int32.toInt_inj.mp z)
                  have z_3 : ¬ (r_110 : Int32).toInt = ((-12) : Int32).toInt := fun z => c_125 (Int32.toInt_inj.mp z)
                  have z_4 := congrArg Int32.toInt c_189
                  have z_5 : ¬ (vy_30 : Int32).toInt = ((-1) : Int32).toInt := fun z => c_225 (Int32.toInt_inj.mp z)
                  have y_m13 : (-13 : Int32).toInt = -13 := by decide
                  have y_m12 : (-12 : Int32).toInt = -12 := by decide
                  have y_m1 : (-1 : Int32).toInt = -1 := by decide
                  have y_400 : (400 : Int32).toInt = 400 := by decide
                  have y_1 : (1 : Int32).toInt = 1 := by decide
                  have t_x_279 : x_279.toInt = (vy_29 : Int32).toInt + (1 : Int32).toInt := by rw [ex_279]; exact add_toInt (by omega) (by omega)
                  omega
                have hu_282 : TpR (Tf 1) (Tv 0) (pz_b (rNX (cB (Tf 1) (Tv 0)) rq_46) (pz_val (cB (Tf 1) (Tv 0)))) sv_267 sv_268 sv_269 sv_270 := by
                  rw [← ero_121, ← ero_276]
                  exact pf_273
                have hu_283 : Ctd (pz_b (rNX (cB (Tf 1) (Tv 0)) rq_46) (pz_val (cB (Tf 1) (Tv 0)))) sv_265 := by
                  rw [← ero_121, ← ero_276]
                  exact pf_274
                have hu_284 : CdK sv_266 sv_264 (pz_b (rNX (cB (Tf 1) (Tv 0)) rq_46) (pz_val (cB (Tf 1) (Tv 0)))) (Ap (rNX (cB (Tf 1) (Tv 0)) rq_46) (lval (cB (Tf 1) (Tv 0))) (lq_51 ++ [vy_30.toInt])) := by
                  rw [← ero_121, ← ero_260, ← ero_276, ← ero_278]
                  exact pf_275
                have hi_285 : (x_279 : Int32).toInt = (vy_29 : Int32).toInt + 1 := by
                  have z_1 := Int32.lt_iff_toInt_lt.mp (Int32.not_le.mp c_55)
                  have z_2 : ¬ (r_81 : Int32).toInt = ((-1) : Int32).toInt := fun z => c_84 (Int32.toInt_inj.mp z)
                  have z_3 : ¬ (r_110 : Int32).toInt = ((-12) : Int32).toInt := fun z => c_125 (Int32.toInt_inj.mp z)
                  have z_4 := congrArg Int32.toInt c_189
                  have z_5 : ¬ (vy_30 : Int32).toInt = ((-1) : Int32).toInt := fun z => c_225 (Int32.toInt_inj.mp z)
                  have y_m13 : (-13 : Int32).toInt = -13 := by decide
                  have y_m12 : (-12 : Int32).toInt = -12 := by decide
                  have y_m1 : (-1 : Int32).toInt = -1 := by decide
                  have y_400 : (400 : Int32).toInt = 400 := by decide
                  have y_1 : (1 : Int32).toInt = 1 := by decide
                  have t_x_279 : x_279.toInt = (vy_29 : Int32).toInt + (1 : Int32).toInt := by rw [ex_279]; exact add_toInt (by omega) (by omega)
                  omega
                have hr_286 : ¬ (vy_30 : Int32).toInt = -1 := by
                  have z_1 := Int32.lt_iff_toInt_lt.mp (Int32.not_le.mp c_55)
                  have z_2 : ¬ (r_81 : Int32).toInt = ((-1) : Int32).toInt := fun z => c_84 (Int32.toInt_inj.mp z)
                  have z_3 : ¬ (r_110 : Int32).toInt = ((-12) : Int32).toInt := fun z => c_125 (Int32.toInt_inj.mp z)
                  have z_4 := congrArg Int32.toInt c_189
                  have z_5 : ¬ (vy_30 : Int32).toInt = ((-1) : Int32).toInt := fun z => c_225 (Int32.toInt_inj.mp z)
                  have y_m13 : (-13 : Int32).toInt = -13 := by decide
                  have y_m12 : (-12 : Int32).toInt = -12 := by decide
                  have y_m1 : (-1 : Int32).toInt = -1 := by decide
                  have y_400 : (400 : Int32).toInt = 400 := by decide
                  omega
                have hr_287 : ((r_110 : Int32).toInt = -12 ∨ (r_110 : Int32).toInt = -13) := by
                  have z_1 := Int32.lt_iff_toInt_lt.mp (Int32.not_le.mp c_55)
                  have z_2 : ¬ (r_81 : Int32).toInt = ((-1) : Int32).toInt := fun z => c_84 (Int32.toInt_inj.mp z)
                  have z_3 : ¬ (r_110 : Int32).toInt = ((-12) : Int32).toInt := fun z => c_125 (Int32.toInt_inj.mp z)
                  have z_4 := congrArg Int32.toInt c_189
                  have z_5 : ¬ (vy_30 : Int32).toInt = ((-1) : Int32).toInt := fun z => c_225 (Int32.toInt_inj.mp z)
                  have y_m13 : (-13 : Int32).toInt = -13 := by decide
                  have y_m12 : (-12 : Int32).toInt = -12 := by decide
                  have y_m1 : (-1 : Int32).toInt = -1 := by decide
                  have y_400 : (400 : Int32).toInt = 400 := by decide
                  omega
                exact ih_39 x_279 r_110 sv_264 sv_265 sv_266 sv_267 sv_268 sv_269 sv_270 _ _ _ (by omega) ha_281 pf_271 pf_272 (SmC.pm1 h_tape.2.1 pf_47 pf_49 pf_50 pf_53 hr_286 he_111.2 hr_287 hu_282 hu_283 hu_284 hi_285) (hP.sub [0, 1, 2, 3] rfl) (hD.sub [0, 1, 2, 3] rfl rfl) hS (lv_sub hl [0, 1, 3, 4] rfl)
  have ha_288 : 0 ≤ (0 : Int32).toInt ∧ (0 : Int32).toInt ≤ 400 := by
    have y_0 : (0 : Int32).toInt = 0 := by decide
    omega
  have hu_289 : TpR (Tf 1) (Tv 0) (pz_b rr (pz_val (cB (Tf 1) (Tv 0)))) sv_8 sv_9 sv_10 sv_11 := by
    rw [← ero_17]
    exact pf_14
  have hu_290 : Ctd (pz_b rr (pz_val (cB (Tf 1) (Tv 0)))) sv_6 := by
    rw [← ero_17]
    exact pf_15
  have hu_291 : CdK sv_7 sv_5 (pz_b rr (pz_val (cB (Tf 1) (Tv 0)))) (Ap rr (lval (cB (Tf 1) (Tv 0))) ll) := by
    rw [← ero_17, ← ero_19]
    exact pf_16
  exact loop_40 _ 0 (-1) sv_5 sv_6 sv_7 sv_8 sv_9 sv_10 sv_11 _ _ _ (Nat.lt_succ_self _) ha_288 pf_12 pf_13 (SmC.first hu_289 hu_290 hu_291) hP hD hS hl
set_option maxRecDepth 100000 in
theorem cu_kX7_readSum (l : Launch) (D : va_G) (tc : Nat → ClassId) (sk : (Nat → Nat) × (Nat → Nat)) (Va_0 : Nat) (Va_1 : Nat) (Vv_0 : Int32) (Vv_1 : Int32) (Vf_1 : Nat → Int32) (Ta_0 : Nat) (Ta_1 : Nat) (Tv_0 : Int32) (Tv_1 : Int32) (Tv_2 : Int32) (Tv_3 : Int32) (Tv_4 : Int32) (Tf_1 : Nat → Int32) (rr : Except Int (Nat × Nat)) (ll : List Int) (h_tape : 0 ≤ (Tv_0 : Int32).toInt ∧ (Tv_0 : Int32).toInt ≤ 400 ∧ 0 ≤ (Tv_1 : Int32).toInt ∧ (Tv_1 : Int32).toInt ≤ 400 ∧ 0 ≤ (Tv_2 : Int32).toInt ∧ (Tv_2 : Int32).toInt ≤ 400) (h_u : 0 ≤ (Vv_0 : Int32).toInt ∧ (Vv_0 : Int32).toInt ≤ 400) (h_by : Byt Tf_1) (h_r : TpR Tf_1 Tv_0 rr Tv_1 Tv_2 Tv_3 Tv_4) (h_ct : Ctd rr Vv_1) (h_cd : CdK Vf_1 Vv_0 rr ll) : Ct l yX7_readSum cX7_readSum 5 none { frames := 7, cells := 0, slots := 0, locals := 156 } D tc sk [.ref Va_0, .ref Ta_0] [(Va_0, .inr (7, [.ref Va_1, .int Vv_0, .int Vv_1])), (Va_1, .inl (tc 0, 400, .inl Vf_1)), (Ta_0, .inr (10, [.ref Ta_1, .int Tv_0, .int Tv_1, .int Tv_2, .int Tv_3, .int Tv_4])), (Ta_1, .inl (tc 0, 400, .inl Tf_1))] (fun (v : Option Value) (u : (Int32) × (Int32) × (Nat → Int32) × (Int32) × (Int32) × (Int32) × (Int32)) => match u with | (oo0x1, oo0x2, oo0x3, oo0x4, oo0x5, oo0x6, oo0x7) => v = none ∧ (0 ≤ (Tv_0 : Int32).toInt ∧ (Tv_0 : Int32).toInt ≤ 400 ∧ 0 ≤ (oo0x4 : Int32).toInt ∧ (oo0x4 : Int32).toInt ≤ 400 ∧ 0 ≤ (oo0x5 : Int32).toInt ∧ (oo0x5 : Int32).toInt ≤ 400) ∧ (0 ≤ (oo0x1 : Int32).toInt ∧ (oo0x1 : Int32).toInt ≤ 400) ∧ (TpR Tf_1 Tv_0 (pz_b rr (pz_sum (cB Tf_1 Tv_0))) oo0x4 oo0x5 oo0x6 oo0x7) ∧ (Ctd (pz_b rr (pz_sum (cB Tf_1 Tv_0))) oo0x2) ∧ (CdK oo0x3 oo0x1 (pz_b rr (pz_sum (cB Tf_1 Tv_0))) (Ap rr (lsum (cB Tf_1 Tv_0)) ll))) (fun (u : (Int32) × (Int32) × (Nat → Int32) × (Int32) × (Int32) × (Int32) × (Int32)) => match u with | (oo0x1, oo0x2, oo0x3, oo0x4, oo0x5, oo0x6, oo0x7) => [(Va_0, .inr (7, [.ref Va_1, .int oo0x1, .int oo0x2])), (Va_1, .inl (tc 0, 400, .inl oo0x3)), (Ta_0, .inr (10, [.ref Ta_1, .int Tv_0, .int oo0x4, .int oo0x5, .int oo0x6, .int oo0x7])), (Ta_1, .inl (tc 0, 400, .inl Tf_1))]) 0 0 :=
  ct_kX7_readSum l D tc sk (fun k => ([Va_0, Va_1] : List (Nat)).getD k 0) (fun k => ([Vv_0, Vv_1] : List (Int32)).getD k 0) (fun k => ([(fun _ => 0), Vf_1] : List (Nat → Int32)).getD k (fun _ => 0)) (fun k => ([Ta_0, Ta_1] : List (Nat)).getD k 0) (fun k => ([Tv_0, Tv_1, Tv_2, Tv_3, Tv_4] : List (Int32)).getD k 0) (fun k => ([(fun _ => 0), Tf_1] : List (Nat → Int32)).getD k (fun _ => 0)) rr ll h_tape h_u h_by h_r h_ct h_cd
