set_option maxRecDepth 16384
/-! the reference's reckoning is ev_s of its row -/
theorem t_15 : (15 : Int32).toInt = 15 := by decide
theorem m15 (x : Int32) : (x &&& 15).toInt = x.toInt % 16 := by
  have h := Jvm.Kit.i32_mask x 15 (k := 4) (by decide) (by decide)
  rw [h]
  have e : (2 : Int) ^ 4 = 16 := by decide
  rw [e]
theorem s4 (x : Int32) : (x >>> ((4 : Int32) &&& 31)).toInt = x.toInt / 16 := by
  have h := Jvm.Kit.i32_shr x ((4 : Int32) &&& 31) (k := 4) (by decide)
  rw [h]
  have e : (2 : Int) ^ 4 = 16 := by decide
  rw [e]
/-- a row of signs from begin on -/
def RwE (sg : Nat → Int32) (t p : Nat) (c : List Int) : Prop := ∀ j : Nat, j < c.length → (sg (400 * t + p + j)).toInt = rE (c.getD j 0)
/-- operations that can stand in a row: numbers, words, and those of kinds -/
def opOk (o : Int) : Prop := (0 ≤ o ∧ o < 200000) ∨ (-16 ≤ o ∧ o ≤ -4)
theorem opdrop {c : List Int} {i : Nat} (h : i < c.length) : c.drop i = c.getD i 0 :: c.drop (i + 1) := drop_on h
theorem i400 {t i : Int32} (ht : 0 ≤ t.toInt ∧ t.toInt < 6) (hi : 0 ≤ i.toInt ∧ i.toInt ≤ 400) : ((400 : Int32) * t + i).toNatClampNeg = 400 * t.toInt.toNat + i.toInt.toNat := by
  have h4 : (400 : Int32).toInt = 400 := by decide
  have e1 : ((400 : Int32) * t).toInt = 400 * t.toInt := by rw [mul_toInt (by rw [h4]; omega) (by rw [h4]; omega), h4]
  exact cl_eq (by rw [ix_k e1 rfl (by omega)]; omega)
theorem ev_k_need {o : Int} {k k' : List Bool} (h : ev_k o k = some k') (ho : o < 0) : (o = -4 ∧ ∃ t, k = true :: t) ∨ (o ≠ -4 ∧ -16 ≤ o ∧ o ≤ -5 ∧ ∃ a b t, k = a :: b :: t) := by
  unfold ev_k at h
  rw [if_neg (by omega)] at h
  by_cases h4 : o = -4
  · rw [if_pos h4] at h
    match k, h with
    | true :: t, _ => exact Or.inl ⟨h4, t, rfl⟩
    | false :: _, h => cases (show none = some k' from h)
    | [], h => cases (show none = some k' from h)
  · rw [if_neg h4] at h
    refine Or.inr ⟨h4, ?_⟩
    by_cases h5 : o = -5 ∨ o = -6
    · rw [if_pos h5] at h
      match k, h with
      | true :: true :: t, _ => exact ⟨by omega, by omega, _, _, _, rfl⟩
      | [], h => cases (show none = some k' from h)
      | [true], h => cases (show none = some k' from h)
      | false :: _, h => cases (show none = some k' from h)
      | true :: false :: _, h => cases (show none = some k' from h)
    · rw [if_neg h5] at h
      by_cases h7 : -11 ≤ o ∧ o ≤ -7
      · rw [if_pos h7] at h
        match k, h with
        | false :: false :: t, _ => exact ⟨by omega, by omega, _, _, _, rfl⟩
        | [], h => cases (show none = some k' from h)
        | [false], h => cases (show none = some k' from h)
        | true :: _, h => cases (show none = some k' from h)
        | false :: true :: _, h => cases (show none = some k' from h)
      · rw [if_neg h7] at h
        by_cases h12 : -16 ≤ o ∧ o ≤ -12
        · rw [if_pos h12] at h
          match k, h with
          | false :: false :: t, _ => exact ⟨by omega, by omega, _, _, _, rfl⟩
          | [], h => cases (show none = some k' from h)
          | [false], h => cases (show none = some k' from h)
          | true :: _, h => cases (show none = some k' from h)
          | false :: true :: _, h => cases (show none = some k' from h)
        · rw [if_neg h12] at h; cases h
theorem rC_rg {o : Int} (h : -16 ≤ o ∧ o ≤ -4) : 2 ≤ rC o ∧ rC o ≤ 14 ∧ (rC o = 11 ↔ o = -4) := by
  have hv : o = -16 ∨ o = -15 ∨ o = -14 ∨ o = -13 ∨ o = -12 ∨ o = -11 ∨ o = -10 ∨ o = -9 ∨ o = -8 ∨ o = -7 ∨ o = -6 ∨ o = -5 ∨ o = -4 := by omega
  rcases hv with rfl | rfl | rfl | rfl | rfl | rfl | rfl | rfl | rfl | rfl | rfl | rfl | rfl <;> decide
theorem recL {sg : Nat → Int32} {wd : Nat → Int64} {e t : Int32} {p : Nat} {c : List Int} (ht : 0 ≤ t.toInt ∧ t.toInt < 6) (hc : RwE sg t.toInt.toNat p c) (he : e.toInt = (p : Int) + (c.length : Int)) (h4 : e.toInt ≤ 400) : ∀ (n : Nat) (i top : Int32) (g : Nat → Int64) (k k' : List Bool), (p : Int) ≤ i.toInt → i.toInt ≤ e.toInt → e.toInt - i.toInt < (n : Int) → 0 ≤ top.toInt → k.length = top.toInt.toNat → ev_t (c.drop (i.toInt.toNat - p)) k = some k' → top.toInt + (ev_n (c.drop (i.toInt.toNat - p)) : Int) ≤ 64 →
    ∃ g' top' i', dX12_reckons_l8 sg wd e t n i top g = (i', top', g') ∧ hst g' top'.toInt.toNat = ev_s wd (c.drop (i.toInt.toNat - p)) (hst g top.toInt.toNat) ∧ 0 ≤ top'.toInt ∧ top'.toInt ≤ 64 ∧ k'.length = top'.toInt.toNat
  | 0, i, top, g, k, k', h0, h1, hn, _, _, _, _ => by omega
  | n + 1, i, top, g, k, k', h0, h1, hn, ht0, hk, hty, hb => by
    rw [dX12_reckons_l8_s]
    by_cases z : e ≤ i
    · rw [if_pos z]
      rw [i32_leq] at z
      have e0 : c.drop (i.toInt.toNat - p) = [] := List.drop_eq_nil_of_le (by omega)
      rw [e0] at hty hb ⊢
      cases hty
      exact ⟨g, top, i, rfl, rfl, ht0, by have : ev_n [] = 0 := rfl; omega, hk⟩
    · rw [if_neg z]
      rw [i32_leq] at z
      have hj : i.toInt.toNat - p < c.length := by omega
      have e1 : (i + 1).toInt = i.toInt + 1 := by rw [ix_k rfl t_1 (by omega)]
      have eN : (i + 1).toInt.toNat - p = i.toInt.toNat - p + 1 := by omega
      have eo := hc _ hj
      rw [show 400 * t.toInt.toNat + p + (i.toInt.toNat - p) = 400 * t.toInt.toNat + i.toInt.toNat by omega] at eo
      rw [opdrop hj] at hty hb ⊢
      rw [i400 ht (by omega)]
      generalize c.getD (i.toInt.toNat - p) 0 = o at eo hty hb ⊢
      generalize sg (400 * t.toInt.toNat + i.toInt.toNat) = x at eo ⊢
      have hty : (match ev_k o k with | none => none | some k1 => ev_t (c.drop (i.toInt.toNat - p + 1)) k1) = some k' := hty
      have hb : top.toInt + ((ev_p o + ev_n (c.drop (i.toInt.toNat - p + 1)) : Nat) : Int) ≤ 64 := hb
      have hx15 := m15 x
      have hx4 := s4 x
      have p1 : top.toInt < 64 → (top + 1).toInt = top.toInt + 1 := fun q => by rw [ix_k rfl t_1 (by omega)]
      have s1 : 1 ≤ top.toInt → (top - 1).toInt = top.toInt - 1 := fun q => by rw [sub_toInt (by rw [t_1]; omega) (by rw [t_1]; omega), t_1]
      have IH := fun (top' : Int32) (g' : Nat → Int64) (k1 : List Bool) (a1 : 0 ≤ top'.toInt) (a2 : k1.length = top'.toInt.toNat) (a3 : ev_t (c.drop (i.toInt.toNat - p + 1)) k1 = some k') (a4 : top'.toInt + (ev_n (c.drop (i.toInt.toNat - p + 1)) : Int) ≤ 64) => recL (wd := wd) ht hc he h4 n (i + 1) top' g' k1 k' (by omega) (by omega) (by omega) a1 a2 (by rw [eN]; exact a3) (by rw [eN]; exact a4)
      rw [eN] at IH
      cases ek : ev_k o k with
      | none => rw [ek] at hty; cases hty
      | some k1 =>
        rw [ek] at hty
        have hty : ev_t (c.drop (i.toInt.toNat - p + 1)) k1 = some k' := hty
        by_cases o0 : 0 ≤ o
        · have hk1 : k1 = false :: k := (ev_k_push ek o0).1
          have hp1 : ev_p o = 1 := if_pos o0
          have q1 := p1 (by omega)
          have hl1 : k1.length = (top + 1).toInt.toNat := by rw [hk1, List.length_cons]; omega
          rw [ev_s_cons, ev_u_psh o0]
          unfold ev_v
          by_cases ol : o < 100000
          · have ex : x.toInt = 16 * o := by rw [eo]; unfold rE; rw [if_neg (by omega), if_pos o0]
            rw [if_pos (show (x &&& 15) = 0 from Int32.toInt_inj.mp (by rw [hx15, t_0]; omega)), if_pos ol]
            show ∃ g' top' i', dX12_reckons_l8 sg wd e t n (i + 1) (top + 1) (vp_updL g top.toNatClampNeg (x >>> ((4 : Int32) &&& 31)).toInt64) = _ ∧ _
            obtain ⟨g', t', i', r1, r2, r3, r4, r5⟩ := IH (top + 1) (vp_updL g top.toNatClampNeg (x >>> ((4 : Int32) &&& 31)).toInt64) k1 (by omega) hl1 hty (by omega)
            refine ⟨g', t', i', r1, ?_, r3, r4, r5⟩
            rw [r2, show (top + 1).toInt.toNat = top.toInt.toNat + 1 by omega, cl_b (b := top), hst_at rfl, to64, hx4, show x.toInt / 16 = o by omega]
          · have ex : x.toInt = 1 + 16 * (o - 100000) := by rw [eo]; unfold rE; rw [if_pos (by omega)]
            rw [if_neg (show ¬ (x &&& 15) = 0 from fun y => by rw [i32_eq, hx15, t_0] at y; omega), if_pos (show (x &&& 15) = 1 from Int32.toInt_inj.mp (by rw [hx15, t_1]; omega)), if_neg ol]
            have ew : (x >>> ((4 : Int32) &&& 31)).toNatClampNeg = (o - 100000).toNat := cl_eq (by rw [hx4]; omega)
            rw [ew]
            show ∃ g' top' i', dX12_reckons_l8 sg wd e t n (i + 1) (top + 1) (vp_updL g top.toNatClampNeg (wd (o - 100000).toNat)) = _ ∧ _
            obtain ⟨g', t', i', r1, r2, r3, r4, r5⟩ := IH (top + 1) (vp_updL g top.toNatClampNeg (wd (o - 100000).toNat)) k1 (by omega) hl1 hty (by omega)
            refine ⟨g', t', i', r1, ?_, r3, r4, r5⟩
            rw [r2, show (top + 1).toInt.toNat = top.toInt.toNat + 1 by omega, cl_b (b := top), hst_at rfl]
        · have hp0 : ev_p o = 0 := if_neg o0
          rcases ev_k_need ek (by omega) with ⟨o4, tl, ekl⟩ | ⟨o4, o16, o5, a, b, tl, ekl⟩
          · have ex : x.toInt = 11 := by rw [eo, o4]; decide
            have hk1 : k1 = true :: tl := by rw [o4, ekl, ev_k_n] at ek; cases ek; rfl
            have hl : 1 ≤ top.toInt := by rw [ekl, List.length_cons] at hk; omega
            have q1 := s1 hl
            obtain ⟨m, hm⟩ : ∃ m : Nat, top.toInt.toNat = m + 1 := ⟨top.toInt.toNat - 1, by omega⟩
            have ec : (top - 1).toNatClampNeg = m := cl_eq (by rw [q1]; omega)
            have q2 : (top - 1 + 1).toInt = top.toInt := by rw [ix_k q1 t_1 (by omega)]; omega
            rw [if_neg (show ¬ (x &&& 15) = 0 from fun y => by rw [i32_eq, hx15, t_0] at y; omega), if_neg (show ¬ (x &&& 15) = 1 from fun y => by rw [i32_eq, hx15, t_1] at y; omega), if_pos (show (x &&& 15) = 11 from Int32.toInt_inj.mp (by rw [hx15, show (11 : Int32).toInt = 11 by decide]; omega))]
            show ∃ g' top' i', dX12_reckons_l8 sg wd e t n (i + 1) (top - 1 + 1) (vp_updL g (top - 1).toNatClampNeg (1 - g (top - 1).toNatClampNeg)) = _ ∧ _
            rw [ec, hm, o4, ev_s_cons]
            obtain ⟨g', t', i', r1, r2, r3, r4, r5⟩ := IH (top - 1 + 1) (vp_updL g m (1 - g m)) k1 (by omega) (by rw [hk1, List.length_cons]; rw [ekl, List.length_cons] at hk; omega) hty (by omega)
            refine ⟨g', t', i', r1, ?_, r3, r4, r5⟩
            rw [r2, show (top - 1 + 1).toInt.toNat = m + 1 by omega, hst_at rfl]
            rfl
          · have ex : x.toInt = rC o := by rw [eo]; unfold rE; rw [if_neg (by omega), if_neg o0]
            have hrg := rC_rg (o := o) (by omega)
            have hne : ¬ rC o = 11 := fun y => o4 (hrg.2.2.mp y)
            have hl : 2 ≤ top.toInt := by rw [ekl, List.length_cons, List.length_cons] at hk; omega
            have q1 := s1 (by omega)
            have q2 : (top - 1 - 1).toInt = top.toInt - 2 := by rw [sub_toInt (by rw [t_1]; omega) (by rw [t_1]; omega), t_1]; omega
            have q3 : (top - 1 - 1 + 1).toInt = top.toInt - 1 := by rw [ix_k q2 t_1 (by omega)]; omega
            obtain ⟨m, hm⟩ : ∃ m : Nat, top.toInt.toNat = m + 2 := ⟨top.toInt.toNat - 2, by omega⟩
            have ec1 : (top - 1).toNatClampNeg = m + 1 := cl_eq (by rw [q1]; omega)
            have ec2 : (top - 1 - 1).toNatClampNeg = m := cl_eq (by rw [q2]; omega)
            have hk1 : k1.length + 1 = k.length := by
              have h2 : ∃ r, k1 = r :: tl := by
                rw [ekl] at ek
                unfold ev_k at ek
                rw [if_neg o0, if_neg o4] at ek
                split at ek
                · cases a <;> cases b <;> first | (cases ek; exact ⟨_, rfl⟩) | (cases (show none = some k1 from ek))
                · split at ek
                  · cases a <;> cases b <;> first | (cases ek; exact ⟨_, rfl⟩) | (cases (show none = some k1 from ek))
                  · split at ek
                    · cases a <;> cases b <;> first | (cases ek; exact ⟨_, rfl⟩) | (cases (show none = some k1 from ek))
                    · cases ek
              obtain ⟨r, h2⟩ := h2
              rw [h2, ekl]; rfl
            rw [if_neg (show ¬ (x &&& 15) = 0 from fun y => by rw [i32_eq, hx15, t_0] at y; omega), if_neg (show ¬ (x &&& 15) = 1 from fun y => by rw [i32_eq, hx15, t_1] at y; omega), if_neg (show ¬ (x &&& 15) = 11 from fun y => by rw [i32_eq, hx15, show (11 : Int32).toInt = 11 by decide] at y; omega)]
            show ∃ g' top' i', dX12_reckons_l8 sg wd e t n (i + 1) (top - 1 - 1 + 1) (vp_updL g (top - 1 - 1).toNatClampNeg (dX12_one (x &&& 15) (g (top - 1 - 1).toNatClampNeg) (g (top - 1).toNatClampNeg))) = _ ∧ _
            rw [ec1, ec2, hm, one_eq (o := o) ⟨o16, o5⟩ (by rw [hx15]; omega), ev_s_cons]
            obtain ⟨g', t', i', r1, r2, r3, r4, r5⟩ := IH (top - 1 - 1 + 1) (vp_updL g m (ev_r o (g m) (g (m + 1)))) k1 (by omega) (by omega) hty (by omega)
            refine ⟨g', t', i', r1, ?_, r3, r4, r5⟩
            rw [r2, show (top - 1 - 1 + 1).toInt.toNat = m + 1 by omega, hst_at rfl]
            show _ = ev_s wd _ (ev_u wd o (g (m + 1) :: g m :: hst g m))
            rw [ev_u_two (by omega) o4]
theorem reck_is {sg : Nat → Int32} {wd g8 : Nat → Int64} {x2 x3 t : Int32} {p : Nat} {c : List Int} {b : Bool} (ht : 0 ≤ t.toInt ∧ t.toInt < 6) (hc : RwE sg t.toInt.toNat p c) (h2 : x2.toInt = (p : Int)) (h3 : x3.toInt = (p : Int) + (c.length : Int)) (h4 : x3.toInt ≤ 400) (hty : ev_t c [] = some [b]) (hn : ev_n c ≤ 60) : (dX12_reckons sg g8 wd t x2 x3).1 = (ev_s wd c []).headD 0 := by
  have e0 : c.drop (x2.toInt.toNat - p) = c := by rw [show x2.toInt.toNat - p = 0 by omega]; rfl
  obtain ⟨g', t', i', r1, r2, r3, r4, r5⟩ := recL (wd := wd) ht hc h3 h4 ((x3.toInt - (x2 : Int32).toInt).toNat + 1) x2 0 g8 [] [b] (by omega) (by omega) (by omega) (by decide) (by decide) (by rw [e0]; exact hty) (by rw [e0, t_0]; omega)
  unfold dX12_reckons
  rw [r1]
  rw [e0] at r2
  have r5 : 1 = t'.toInt.toNat := r5
  rw [← r5] at r2
  have e2 : hst g8 (0 : Int32).toInt.toNat = [] := rfl
  rw [e2] at r2
  have r2 : [g' 0] = ev_s wd c [] := r2
  rw [← r2]
  show g' (t' - 1).toNatClampNeg = g' 0
  rw [cl_eq (n := 0) (by rw [sub_toInt (by rw [t_1]; omega) (by rw [t_1]; omega), t_1]; omega)]
/-! a rule's row -/
def RoE (sg cl : Nat → Int32) (t c : Nat) (x : List Int × Option (List Int)) : Prop := (∃ p : Nat, (cl (48 * t + 4 * c)).toInt = (p : Int) ∧ (cl (48 * t + 4 * c + 1)).toInt = (p : Int) + (x.1.length : Int) ∧ (cl (48 * t + 4 * c + 1)).toInt ≤ 400 ∧ RwE sg t p x.1) ∧ match x.2 with
  | none => (cl (48 * t + 4 * c + 2)).toInt < 0
  | some u => ∃ q : Nat, (cl (48 * t + 4 * c + 2)).toInt = (q : Int) ∧ (cl (48 * t + 4 * c + 3)).toInt = (q : Int) + (u.length : Int) ∧ (cl (48 * t + 4 * c + 3)).toInt ≤ 400 ∧ RwE sg t q u
def RwR (sg cl cs : Nat → Int32) (t : Nat) (R : RuA) : Prop := (cs t).toInt = (R.length : Int) ∧ R.length ≤ 12 ∧ ∀ c : Nat, c < R.length → RoE sg cl t c (R.getD c ([], none))
theorem i48 {t c : Int32} (ht : 0 ≤ t.toInt ∧ t.toInt < 6) (hc : 0 ≤ c.toInt ∧ c.toInt < 12) : ((48 : Int32) * t + (4 : Int32) * c).toInt = 48 * t.toInt + 4 * c.toInt := by
  have h4 : (4 : Int32).toInt = 4 := by decide
  have h48 : (48 : Int32).toInt = 48 := by decide
  have e1 : ((48 : Int32) * t).toInt = 48 * t.toInt := by rw [mul_toInt (by rw [h48]; omega) (by rw [h48]; omega), h48]
  have e2 : ((4 : Int32) * c).toInt = 4 * c.toInt := by rw [mul_toInt (by rw [h4]; omega) (by rw [h4]; omega), h4]
  rw [ix_k e1 e2 (by omega)]
theorem rdrop {R : RuA} {i : Nat} (h : i < R.length) : R.drop i = R.getD i ([], none) :: R.drop (i + 1) := by
  rw [List.drop_eq_getElem_cons h, List.getD_eq_getElem?_getD, List.getElem?_eq_getElem h]
  rfl
theorem ru_ok_tail : ∀ {R : RuA} {x : List Int × Option (List Int)}, ru_ok (x :: R) → ru_ok R
  | _, (_, none), h => h.2.2
  | _, (_, some _), h => h.2.2.2
theorem sumsL {sg cl cs : Nat → Int32} {wd : Nat → Int64} {t : Int32} {R : RuA} (ht : 0 ≤ t.toInt ∧ t.toInt < 6) (hR : RwR sg cl cs t.toInt.toNat R) : ∀ (n : Nat) (c top : Int32) (g : Nat → Int64), 0 ≤ c.toInt → c.toInt ≤ (R.length : Int) → (R.length : Int) - c.toInt < (n : Int) → ru_ok (R.drop c.toInt.toNat) →
    (if (dX12_summedBy_l2 sg cl cs wd t n c top g).1 = 1 then (dX12_summedBy_l2 sg cl cs wd t n c top g).2.1 else 0) = ru_sum wd (R.drop c.toInt.toNat)
  | 0, c, top, g, h0, h1, hn, hk => by omega
  | n + 1, c, top, g, h0, h1, hn, hk => by
    have h12 := hR.2.1
    rw [dX12_summedBy_l2_s, cl_b (b := t)]
    by_cases z : cs t.toInt.toNat ≤ c
    · rw [if_pos z]
      rw [i32_leq, hR.1] at z
      rw [List.drop_eq_nil_of_le (by omega)]
      exact fin0
    · rw [if_neg z]
      rw [i32_leq, hR.1] at z
      have hj : c.toInt.toNat < R.length := by omega
      have e1 : (c + 1).toInt = c.toInt + 1 := by rw [ix_k rfl t_1 (by omega)]
      have eN : (c + 1).toInt.toNat = c.toInt.toNat + 1 := by omega
      have hb := i48 ht (c := c) (by omega)
      have c0 : ((48 : Int32) * t + (4 : Int32) * c).toNatClampNeg = 48 * t.toInt.toNat + 4 * c.toInt.toNat := cl_eq (by rw [hb]; omega)
      have c1 : ((48 : Int32) * t + (4 : Int32) * c + 1).toNatClampNeg = 48 * t.toInt.toNat + 4 * c.toInt.toNat + 1 := cl_eq (by rw [ix_k hb t_1 (by omega)]; omega)
      have c2 : ((48 : Int32) * t + (4 : Int32) * c + 2).toNatClampNeg = 48 * t.toInt.toNat + 4 * c.toInt.toNat + 2 := cl_eq (by rw [ix_k hb t_2 (by omega)]; omega)
      have c3 : ((48 : Int32) * t + (4 : Int32) * c + 3).toNatClampNeg = 48 * t.toInt.toNat + 4 * c.toInt.toNat + 3 := cl_eq (by rw [ix_k hb (show (3 : Int32).toInt = 3 by decide) (by omega)]; omega)
      rw [c0, c1, c2, c3]
      have hrow := hR.2.2 _ hj
      rw [rdrop hj] at hk ⊢
      have IH := fun (top' : Int32) (g' : Nat → Int64) => sumsL (wd := wd) ht hR n (c + 1) top' g' (by omega) (by omega) (by omega) (by rw [eN]; exact ru_ok_tail hk)
      rw [eN] at IH
      generalize R.getD c.toInt.toNat ([], none) = x at hrow hk ⊢
      obtain ⟨⟨p, p1, p2, p3, p4⟩, hrow2⟩ := hrow
      match x, hrow2, hk, p2, p4 with
      | (s, none), hrow2, hk, p2, p4 =>
        have hneg : cl (48 * t.toInt.toNat + 4 * c.toInt.toNat + 2) < 0 := by rw [i32_lt, t_0]; exact hrow2
        rw [if_pos hneg]
        show (if (1 : Int32) = 1 then (dX12_reckons sg g wd t (cl (48 * t.toInt.toNat + 4 * c.toInt.toNat)) (cl (48 * t.toInt.toNat + 4 * c.toInt.toNat + 1))).1 else 0) = (ev_s wd s []).headD 0
        rw [if_pos rfl]
        exact reck_is ht p4 p1 p2 p3 hk.1 hk.2.1
      | (s, some u), hrow2, hk, p2, p4 =>
        obtain ⟨q, q1, q2, q3, q4⟩ := hrow2
        have hneg : ¬ cl (48 * t.toInt.toNat + 4 * c.toInt.toNat + 2) < 0 := by rw [i32_lt, t_0, q1]; omega
        rw [if_neg hneg, reck_is ht q4 q1 q2 q3 hk.2.1 (by have := hk.2.2.1; omega)]
        show _ = if (ev_s wd u []).headD 0 = 1 then (ev_s wd s []).headD 0 else ru_sum wd (R.drop (c.toInt.toNat + 1))
        by_cases y : (ev_s wd u []).headD 0 = 1
        · rw [if_pos ((lg_cmp_eq _ _).mpr y), if_pos y]
          show (if (1 : Int32) = 1 then (dX12_reckons sg _ wd t (cl (48 * t.toInt.toNat + 4 * c.toInt.toNat)) (cl (48 * t.toInt.toNat + 4 * c.toInt.toNat + 1))).1 else 0) = _
          rw [if_pos rfl]
          exact reck_is ht p4 p1 p2 p3 hk.1 (by have := hk.2.2.1; omega)
        · rw [if_neg (fun w => y ((lg_cmp_eq _ _).mp w)), if_neg y]
          exact IH _ _
theorem sums_is {sg cl cs : Nat → Int32} {wd g : Nat → Int64} {t top : Int32} {R : RuA} (ht : 0 ≤ t.toInt ∧ t.toInt < 6) (hR : RwR sg cl cs t.toInt.toNat R) (hk : ru_ok R) : (dX12_summedBy sg cl cs g wd top t).1 = ru_sum wd R := by
  have h12 := hR.2.1
  have h := sumsL (wd := wd) ht hR ((12 - (0 : Int32).toInt).toNat + 1) 0 top g (by decide) (by rw [t_0]; omega) (by rw [t_0]; omega) hk
  have e : R.drop (0 : Int32).toInt.toNat = R := rfl
  rw [e] at h
  rw [← h]
  unfold dX12_summedBy
  by_cases z : (dX12_summedBy_l2 sg cl cs wd t ((12 - (0 : Int32).toInt).toNat + 1) 0 top g).1 = 1
  · rw [if_pos z, if_pos z]
  · rw [if_neg z, if_neg z]
