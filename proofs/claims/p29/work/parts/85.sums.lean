set_option maxRecDepth 16384
/-! the class's sum is ev_c of its code -/
def CdE (rf : Nat → Int32) (L : List Int) : Prop := ∀ i : Nat, i < L.length → (rf i).toInt = L.getD i 0
theorem drop_on {L : List Int} {i : Nat} (h : i < L.length) : L.drop i = L.getD i 0 :: L.drop (i + 1) := by
  rw [List.drop_eq_getElem_cons h, List.getD_eq_getElem?_getD, List.getElem?_eq_getElem h]
  rfl
theorem to64 {x : Int32} : x.toInt64 = Int64.ofInt x.toInt := by
  rw [← i32_64 x, Int64.ofInt_toInt]
theorem t_2 : (2 : Int32).toInt = 2 := by decide
theorem t_m2 : (-2 : Int32).toInt = -2 := by decide
theorem t_64 : (64 : Int32).toInt = 64 := by decide
theorem t_lak : (100000 : Int32).toInt = 100000 := by decide
theorem tp1n {t : Int32} (h : 0 ≤ t.toInt ∧ t.toInt < 64) : 0 ≤ (t + 1).toInt ∧ (t + 1).toInt ≤ 64 ∧ (t + 1).toInt.toNat = t.toInt.toNat + 1 := by
  rw [ix_k (x := t) rfl t_1 (by omega)]
  omega
theorem tm1n {t : Int32} {m : Nat} (h : 0 ≤ t.toInt ∧ t.toInt ≤ 64) (hm : t.toInt.toNat = m + 2) : 0 ≤ (t + -1).toInt ∧ (t + -1).toInt ≤ 64 ∧ (t + -1).toInt.toNat = m + 1 := by
  rw [ix_k (x := t) rfl t_m1 (by omega)]
  omega
theorem tm2n {t : Int32} {m : Nat} (h : 0 ≤ t.toInt ∧ t.toInt ≤ 64) (hm : t.toInt.toNat = m + 2) : 0 ≤ (t + -2).toInt ∧ (t + -2).toInt ≤ 64 ∧ (t + -2).toInt.toNat = m := by
  rw [ix_k (x := t) rfl t_m2 (by omega)]
  omega
theorem ts1n {t : Int32} {m : Nat} (h : 0 ≤ t.toInt ∧ t.toInt ≤ 64) (hm : t.toInt.toNat = m + 1) : (t - 1).toNatClampNeg = m := by
  show (t - 1).toInt.toNat = m
  rw [sub_toInt (by rw [t_1]; omega) (by rw [t_1]; omega), t_1]
  omega
theorem ts2n {t : Int32} {m : Nat} (h : 0 ≤ t.toInt ∧ t.toInt ≤ 64) (hm : t.toInt.toNat = m + 2) : (t - 2).toNatClampNeg = m := by
  show (t - 2).toInt.toNat = m
  rw [sub_toInt (by rw [t_2]; omega) (by rw [t_2]; omega), t_2]
  omega
theorem lit_ne {x v : Int32} {o w : Int} (e : x.toInt = o) (hv : v.toInt = w) (h : ¬ x = v) : ¬ o = w := fun q => h (Int32.toInt_inj.mp (by rw [e, hv, q]))
theorem lit_eq {x v : Int32} {o w : Int} (e : x.toInt = o) (hv : v.toInt = w) (h : x = v) : o = w := by rw [← e, h, hv]
theorem t_m3 : (-3 : Int32).toInt = -3 := by decide
theorem t_m4 : (-4 : Int32).toInt = -4 := by decide
theorem fin1 {B : Type} {x : Int64} {y : B} : (if ((1 : Int32), x, y).1 = 1 then ((1 : Int32), x, y).2.1 else 0) = x := if_pos rfl
theorem fin0 {B : Type} {x : Int64} {y : B} : (if ((0 : Int32), x, y).1 = 1 then ((0 : Int32), x, y).2.1 else 0) = 0 := if_neg (show ¬ (0 : Int32) = 1 by decide)
theorem wk_eq {op : Int32} {o : Int} (eo : op.toInt = o) (q : 100000 ≤ o) : op - 100000 = nI (o - 100000).toNat := by
  have hmx := i32_le op
  refine Int32.toInt_inj.mp ?_
  rw [nI_toInt (by omega), sub_toInt (by rw [t_lak]; omega) (by rw [t_lak]; omega), t_lak]
  omega
section SUM
variable {f1 f3 f4 f5 f6 f7 f8 rf : Nat → Int32} {v0 v2 v3 v4 v5 b : Int32} {rn : Nat} {L : List Int}
theorem sumL (hL : CdE rf L) (hn : L.length = rn) (h4 : rn ≤ 400) : ∀ (n : Nat) (i top : Int32) (g : Nat → Int64), 0 ≤ i.toInt → i.toInt ≤ (rn : Int) → (rn : Int) - i.toInt < (n : Int) → 0 ≤ top.toInt → top.toInt ≤ 64 →
    (if (dX6_sumFor_l5 f1 f3 f4 f5 f6 f7 f8 v0 v2 v3 v4 v5 rf rn b n i top g).1 = 1 then (dX6_sumFor_l5 f1 f3 f4 f5 f6 f7 f8 v0 v2 v3 v4 v5 rf rn b n i top g).2.1 else 0) = ev_c (fun k => dX9_wordOf f1 f3 f4 f5 f6 f7 f8 v0 v2 v3 v4 v5 (nI k) b) (L.drop i.toInt.toNat) (hst g top.toInt.toNat)
  | 0, i, top, g, h0, h1, hk, ht, ht2 => by omega
  | n + 1, i, top, g, h0, h1, hk, ht, ht2 => by
    have hnI : (nI rn).toInt = (rn : Int) := nI_toInt (by omega)
    rw [dX6_sumFor_l5_s]
    by_cases z : nI rn ≤ i
    · rw [if_pos z]
      rw [i32_leq, hnI] at z
      rw [List.drop_eq_nil_of_le (by omega), ev_c_nil]
      exact fin0
    · rw [if_neg z]
      rw [i32_leq, hnI] at z
      have hi : i.toInt.toNat < L.length := by omega
      have e1 : (i + 1).toInt = i.toInt + 1 := by rw [ix_k rfl t_1 (by omega)]
      have eN : (i + 1).toInt.toNat = i.toInt.toNat + 1 := by omega
      have eo := hL _ hi
      rw [drop_on hi, cl_b (b := i)]
      generalize eop : rf i.toInt.toNat = op at eo
      generalize L.getD i.toInt.toNat 0 = o at eo
      have IH := fun (top' : Int32) (g' : Nat → Int64) (a1 : 0 ≤ top'.toInt) (a2 : top'.toInt ≤ 64) => sumL hL hn h4 n (i + 1) top' g' (by omega) (by omega) (by omega) a1 a2
      rw [eN] at IH
      clear e1 eN hk hnI z h0 h1 hi
      have hT : 0 ≤ top.toInt ∧ top.toInt ≤ 64 := ⟨ht, ht2⟩
      by_cases c0 : op < 0
      · have o0 : o < 0 := by rw [i32_lt, t_0, eo] at c0; exact c0
        rw [if_pos c0]
        by_cases c2 : op = -2
        · have o2 := lit_eq eo t_m2 c2
          rw [if_pos c2, o2, ev_c_ans]
          by_cases d : top < 1
          · rw [if_pos d]
            rw [i32_lt, t_1] at d
            have q : top.toInt.toNat = 0 := by omega
            rw [q]
            exact fin1
          · have d6 : ¬ (64 : Int32) < top := by rw [i32_lt, t_64]; omega
            rw [if_neg d, if_neg d6]
            rw [i32_lt, t_1] at d
            obtain ⟨m, hm⟩ : ∃ m : Nat, top.toInt.toNat = m + 1 := ⟨top.toInt.toNat - 1, by omega⟩
            rw [ts1n hT hm, hm]
            exact fin1
        · have o2 := lit_ne eo t_m2 c2
          rw [if_neg c2]
          by_cases c4 : op = -4
          · have o4 := lit_eq eo t_m4 c4
            rw [if_pos c4, o4, ev_c_not]
            by_cases d : top < 1
            · rw [if_pos d]
              rw [i32_lt, t_1] at d
              have q : top.toInt.toNat = 0 := by omega
              rw [IH top g ht ht2, q]
              rfl
            · have d6 : ¬ (64 : Int32) < top := by rw [i32_lt, t_64]; omega
              rw [if_neg d, if_neg d6]
              rw [i32_lt, t_1] at d
              obtain ⟨m, hm⟩ : ∃ m : Nat, top.toInt.toNat = m + 1 := ⟨top.toInt.toNat - 1, by omega⟩
              rw [ts1n hT hm]
              have en : ev_nt (hst g top.toInt.toNat) = (if g m = 0 then 1 else 0) :: hst g m := by rw [hm]; rfl
              rw [en]
              by_cases q : g m = 0
              · rw [if_pos (cmp0.mpr q), if_pos q, IH top _ ht ht2, hm, hst_at rfl]
              · rw [if_neg (fun y => q (cmp0.mp y)), if_neg q, IH top _ ht ht2, hm, hst_at rfl]
          · have o4 := lit_ne eo t_m4 c4
            rw [if_neg c4]
            by_cases d : top < 2
            · rw [if_pos d]
              rw [i32_lt, t_2] at d
              rw [ev_c_few o0 o2 o4 (by rw [hst_len]; omega)]
              exact fin1
            · have d6 : top ≤ (64 : Int32) := by rw [i32_leq, t_64]; exact ht2
              rw [if_neg d]
              rw [i32_lt, t_2] at d
              obtain ⟨m, hm⟩ : ∃ m : Nat, top.toInt.toNat = m + 2 := ⟨top.toInt.toNat - 2, by omega⟩
              have en : hst g top.toInt.toNat = g (m + 1) :: g m :: hst g m := by rw [hm]; rfl
              rw [if_pos d6, ts1n (m := m + 1) hT hm, ts2n hT hm, en]
              by_cases c3 : op = -3
              · have o3 := lit_eq eo t_m3 c3
                rw [if_pos c3, o3, ev_c_if]
                by_cases q : g (m + 1) = 0
                · obtain ⟨q1, q2, q3⟩ := tm2n hT hm
                  rw [if_pos (cmp0.mpr q), if_pos q, IH (top + -2) g q1 q2, q3]
                · rw [if_neg (fun y => q (cmp0.mp y)), if_neg q]
                  exact fin1
              · have o3 := lit_ne eo t_m3 c3
                obtain ⟨q1, q2, q3⟩ := tm1n hT hm
                rw [if_neg c3, ev_c_two o0 o2 o3 o4, IH (top + -1) _ q1 q2, q3, hst_at rfl, joined_eq, eo]
      · rw [if_neg c0]
        have o0 : 0 ≤ o := by rw [i32_lt, t_0, eo] at c0; omega
        rw [if_neg (show ¬ top < 0 by rw [i32_lt, t_0]; omega)]
        by_cases d : top < 64
        · rw [if_pos d]
          rw [i32_lt, t_64] at d
          obtain ⟨q1, q2, q3⟩ := tp1n ⟨ht, d⟩
          rw [ev_c_psh o0 (by rw [hst_len]; omega), cl_b (b := top)]
          by_cases q : (100000 : Int32) ≤ op
          · rw [if_pos q]
            rw [i32_leq, t_lak, eo] at q
            rw [IH (top + 1) _ q1 q2, q3, hst_at rfl, wk_eq eo q]
            unfold ev_v
            rw [if_neg (show ¬ o < 100000 by omega)]
          · rw [if_neg q]
            rw [i32_leq, t_lak, eo] at q
            rw [IH (top + 1) _ q1 q2, q3, hst_at rfl, to64, eo]
            unfold ev_v
            rw [if_pos (show o < 100000 by omega)]
        · rw [if_neg d]
          rw [i32_lt, t_64] at d
          rw [ev_c_full o0 (by rw [hst_len]; omega)]
          exact fin1
theorem sum_is (hL : CdE rf L) (hn : L.length = rn) (h4 : rn ≤ 400) {g : Nat → Int64} : (dX6_sumFor f1 f3 f4 f5 f6 f7 f8 v0 v2 v3 v4 v5 rf g b rn).1 = ev_c (fun k => dX9_wordOf f1 f3 f4 f5 f6 f7 f8 v0 v2 v3 v4 v5 (nI k) b) L [] := by
  have h := sumL (f1 := f1) (f3 := f3) (f4 := f4) (f5 := f5) (f6 := f6) (f7 := f7) (f8 := f8) (v0 := v0) (v2 := v2) (v3 := v3) (v4 := v4) (v5 := v5) (b := b) hL hn h4 ((400 - (0 : Int32).toInt).toNat + 1) 0 0 g (by decide) (by rw [t_0]; omega) (by rw [t_0]; omega) (by decide) (by decide)
  have e : L.drop (0 : Int32).toInt.toNat = L := rfl
  have e2 : hst g (0 : Int32).toInt.toNat = [] := rfl
  rw [e, e2] at h
  rw [← h]
  unfold dX6_sumFor
  by_cases z : (dX6_sumFor_l5 f1 f3 f4 f5 f6 f7 f8 v0 v2 v3 v4 v5 rf rn b ((400 - (0 : Int32).toInt).toNat + 1) 0 0 g).1 = 1
  · rw [if_pos z, if_pos z]
  · rw [if_neg z, if_neg z]
end SUM
