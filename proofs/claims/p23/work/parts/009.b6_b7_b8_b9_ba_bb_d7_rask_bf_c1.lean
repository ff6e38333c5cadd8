set_option maxRecDepth 16384
def wtB (st x : Int32) : Int32 := if st < 5 then (if 2 < st then x else if x ≤ 0 then x - 0 else x - 1) else if 20 ≤ x then x + 0 else x + 1
def mrB (st : Int32) : Int32 := if st < 5 then (if 2 < st then 0 else -1) else 1
def ctB (m x : Int32) : Int32 := if (0 : Int32) < (if (x + m) < (20 : Int32) then (x + m) else (20 : Int32)) then (if (x + m) < (20 : Int32) then (x + m) else (20 : Int32)) else (0 : Int32)
theorem t_20 : (20 : Int32).toInt = 20 := by decide
theorem wt_eq {st x : Int32} (h : 0 ≤ x.toInt ∧ x.toInt ≤ 20) : ctB (mrB st) x = wtB st x ∧ 0 ≤ (wtB st x).toInt ∧ (wtB st x).toInt ≤ 20 := by
  have e0 : (x + 0).toInt = x.toInt := by rw [ix_k rfl t_0 (by omega)]; omega
  have e1 : (x + 1).toInt = x.toInt + 1 := by rw [ix_k rfl t_1 (by omega)]
  have em : (x + -1).toInt = x.toInt - 1 := by rw [ix_k rfl t_m1 (by omega)]; omega
  have s0 : (x - 0).toInt = x.toInt := by rw [sub_toInt (by rw [t_0]; omega) (by rw [t_0]; omega), t_0]; omega
  have s1 : (x - 1).toInt = x.toInt - 1 := by rw [sub_toInt (by rw [t_1]; omega) (by rw [t_1]; omega), t_1]
  unfold ctB wtB mrB
  by_cases a : st < 5
  · rw [if_pos a, if_pos a]
    by_cases b : 2 < st
    · rw [if_pos b, if_pos b]
      refine ⟨?_, h⟩
      by_cases c : x + 0 < (20 : Int32)
      · rw [if_pos c]
        by_cases d : (0 : Int32) < x + 0
        · rw [if_pos d]; exact Int32.toInt_inj.mp e0
        · rw [if_neg d]
          rw [i32_lt, t_0, e0] at d
          exact Int32.toInt_inj.mp (by rw [t_0]; omega)
      · rw [if_neg c, if_pos (by decide)]
        rw [i32_lt, t_20, e0] at c
        exact Int32.toInt_inj.mp (by rw [t_20]; omega)
    · rw [if_neg b, if_neg b]
      have c : x + -1 < (20 : Int32) := by rw [i32_lt, t_20, em]; omega
      rw [if_pos c]
      by_cases d : x ≤ 0
      · rw [if_pos d, if_neg (by rw [i32_lt, t_0, em]; rw [i32_leq, t_0] at d; omega)]
        rw [i32_leq, t_0] at d
        exact ⟨Int32.toInt_inj.mp (by rw [s0, t_0]; omega), by rw [s0]; omega⟩
      · rw [if_neg d]
        rw [i32_leq, t_0] at d
        refine ⟨?_, by rw [s1]; omega⟩
        by_cases e : (0 : Int32) < x + -1
        · rw [if_pos e]; exact Int32.toInt_inj.mp (by rw [em, s1])
        · rw [if_neg e]
          rw [i32_lt, t_0, em] at e
          exact Int32.toInt_inj.mp (by rw [t_0, s1]; omega)
  · rw [if_neg a, if_neg a]
    by_cases d : (20 : Int32) ≤ x
    · rw [if_pos d, if_neg (show ¬ x + 1 < (20 : Int32) by rw [i32_lt, t_20, e1]; rw [i32_leq, t_20] at d; omega), if_pos (show (0 : Int32) < 20 by decide)]
      rw [i32_leq, t_20] at d
      exact ⟨Int32.toInt_inj.mp (by rw [t_20, e0]; omega), by rw [e0]; omega⟩
    · rw [if_neg d]
      rw [i32_leq, t_20] at d
      refine ⟨?_, by rw [e1]; omega⟩
      by_cases c : x + 1 < (20 : Int32)
      · rw [if_pos c, if_pos (by rw [i32_lt, t_0, e1]; omega)]
      · rw [if_neg c, if_pos (by decide)]
        rw [i32_lt, t_20, e1] at c
        exact Int32.toInt_inj.mp (by rw [t_20, e1]; omega)
def WtE (s : Nat → Int32) (f3 t : Nat → Int32) : Prop := (∀ k : Nat, k < 6 → f3 k = t (12 + 4 * k)) ∧ (∀ k : Nat, (∀ j : Nat, j < 6 → k ≠ 12 + 4 * j) → t k = s k) ∧ ∀ k : Nat, k < 6 → 0 ≤ (t (12 + 4 * k)).toInt ∧ (t (12 + 4 * k)).toInt ≤ 20
theorem weath {st : Int32} {v3 : Int32} {s : Nat → Int32} (h3 : v3 = s 3) (h36 : 0 ≤ (s 3).toInt ∧ (s 3).toInt ≤ 6) : ∀ (n : Nat) (b : Int32) (f3 t : Nat → Int32), WtE s f3 t → 0 ≤ b.toInt → b.toInt ≤ (s 3).toInt → (s 3).toInt - b.toInt < (n : Int) → WtE s (dX9_changeTempers_l22 v3 (mrB st) n b f3).2 (dX12_weathers_l15 st n b t).2
  | 0, b, f3, t, h, h0, h1, hn => by omega
  | n + 1, b, f3, t, h, h0, h1, hn => by
    have et3 : t 3 = s 3 := h.2.1 3 (fun j hj => by omega)
    rw [dX9_changeTempers_l22_s, dX12_weathers_l15_s, cl_l3, et3, h3]
    by_cases z : s 3 ≤ b
    · rw [if_pos z, if_pos z]
      exact h
    · have hb : b.toInt < (s 3).toInt := by rw [i32_leq] at z; omega
      have h6 : 0 ≤ b.toInt ∧ b.toInt < 6 := by omega
      have hn6 : b.toInt.toNat < 6 := by omega
      have e1 : (b + 1).toInt = b.toInt + 1 := by rw [ix_k rfl t_1 (by omega)]
      rw [if_neg z, if_neg z, if_neg (show ¬ (6 : Int32) ≤ b by rw [i32_leq, t_6]; omega), c12 h6, cl_b (b := b)]
      have ea := h.1 _ hn6
      obtain ⟨w1, w2⟩ := wt_eq (st := st) (h.2.2 _ hn6)
      have key : WtE s (upd f3 b.toInt.toNat (ctB (mrB st) (f3 b.toInt.toNat))) (upd t (12 + 4 * b.toInt.toNat) (wtB st (t (12 + 4 * b.toInt.toNat)))) := by
        refine ⟨fun k hk => ?_, fun k hk => ?_, fun k hk => ?_⟩
        · by_cases y : k = b.toInt.toNat
          · rw [y, upd_at, upd_at, ea, w1]
          · rw [upd_ne y, upd_ne (by omega)]; exact h.1 k hk
        · rw [upd_ne (hk _ hn6)]; exact h.2.1 k hk
        · by_cases y : k = b.toInt.toNat
          · rw [y, upd_at]; exact w2
          · rw [upd_ne (by omega)]; exact h.2.2 k hk
      have hm : ∀ t', t' = upd t (12 + 4 * b.toInt.toNat) (wtB st (t (12 + 4 * b.toInt.toNat))) → WtE s (dX9_changeTempers_l22 (s 3) (mrB st) n (b + 1) (upd f3 b.toInt.toNat (ctB (mrB st) (f3 b.toInt.toNat)))).2 (dX12_weathers_l15 st n (b + 1) t').2 := fun t' et => by
        rw [et]
        exact weath rfl h36 n (b + 1) _ _ key (by omega) (by omega) (by omega)
      have hk0 : wtB st (t (12 + 4 * b.toInt.toNat)) = t (12 + 4 * b.toInt.toNat) → t = upd t (12 + 4 * b.toInt.toNat) (wtB st (t (12 + 4 * b.toInt.toNat))) := fun e => by
        rw [e]
        funext k
        by_cases y : k = 12 + 4 * b.toInt.toNat
        · rw [y, upd_at]
        · rw [upd_ne y]
      show WtE s (dX9_changeTempers_l22 (s 3) (mrB st) n (b + 1) (upd f3 b.toInt.toNat (ctB (mrB st) (f3 b.toInt.toNat)))).2 _
      by_cases a : st < 5
      · rw [if_pos a]
        by_cases c : 2 < st
        · rw [if_pos c]
          exact hm t (hk0 (by unfold wtB; rw [if_pos a, if_pos c]))
        · rw [if_neg c]
          by_cases d : t (12 + 4 * b.toInt.toNat) ≤ 0
          · rw [if_pos d]; exact hm _ (by unfold wtB; rw [if_pos a, if_neg c, if_pos d])
          · rw [if_neg d]; exact hm _ (by unfold wtB; rw [if_pos a, if_neg c, if_neg d])
      · rw [if_neg a]
        by_cases d : (20 : Int32) ≤ t (12 + 4 * b.toInt.toNat)
        · rw [if_pos d]; exact hm _ (by unfold wtB; rw [if_neg a, if_pos d])
        · rw [if_neg d]; exact hm _ (by unfold wtB; rw [if_neg a, if_neg d])
theorem change_eq {f3 : Nat → Int32} {v3 st : Int32} : dX9_changeTempers f3 v3 st = (dX9_changeTempers_l22 v3 (mrB st) ((6 - (0 : Int32).toInt).toNat + 1) 0 f3).2 := by
  unfold dX9_changeTempers mrB
  by_cases a : st < 5
  · rw [if_pos a, if_pos a]
    by_cases c : 2 < st
    · rw [if_pos c, if_pos c]
    · rw [if_neg c, if_neg c]
  · rw [if_neg a, if_neg a]
theorem weath_all {f3 s : Nat → Int32} {v3 : Int32} (g : Gs s) (h3 : v3 = s 3) (hf : ∀ k : Nat, k < 6 → f3 k = s (12 + 4 * k)) : WtE s (dX9_changeTempers f3 v3 (s (36 + (dX12_clock s).toInt.toNat))) (dX12_weathers s) := by
  obtain ⟨-, -, k0, -, k10⟩ := clk g
  have g3 := g.1.2.2.1
  rw [change_eq]
  unfold dX12_weathers
  rw [c36 ⟨k0, k10⟩]
  refine weath h3 g3 _ 0 f3 s ⟨hf, fun _ _ => rfl, fun k hk => (g.2 k hk).1⟩ (by decide) (by rw [t_0]; omega) ?_
  rw [t_0]
  show (s 3).toInt - 0 < (((6 - 0 : Int).toNat + 1 : Nat) : Int)
  omega
theorem cmp0 {b : Int64} : (lg_cmp b 0 = 0) ↔ b = 0 := lg_cmp_eq b 0
theorem joined_eq {x : Int32} {a b : Int64} : dX6_joined x a b = ev_j x.toInt a b := by
  by_cases h16 : x = -16
  · subst h16
    unfold dX6_joined
    rw [if_pos (show ((-16) : Int32) = (-16) from rfl), show ((-16) : Int32).toInt = -16 by decide]
    unfold ev_j
    rw [if_neg (show ¬ ((-16) : Int) = (-12) by decide), if_neg (show ¬ ((-16) : Int) = (-13) by decide), if_neg (show ¬ ((-16) : Int) = (-14) by decide), if_neg (show ¬ ((-16) : Int) = (-15) by decide), if_pos (show ((-16) : Int) = (-16) from rfl)]
    by_cases z : b = 0
    · rw [if_pos z, if_pos (cmp0.mpr z)]
    · rw [if_neg z, if_neg (fun y => z (cmp0.mp y))]
  by_cases h15 : x = -15
  · subst h15
    unfold dX6_joined
    rw [if_neg (show ¬ ((-15) : Int32) = (-16) by decide), if_pos (show ((-15) : Int32) = (-15) from rfl), show ((-15) : Int32).toInt = -15 by decide]
    unfold ev_j
    rw [if_neg (show ¬ ((-15) : Int) = (-12) by decide), if_neg (show ¬ ((-15) : Int) = (-13) by decide), if_neg (show ¬ ((-15) : Int) = (-14) by decide), if_pos (show ((-15) : Int) = (-15) from rfl)]
    by_cases z : b = 0
    · rw [if_pos z, if_pos (cmp0.mpr z)]
    · rw [if_neg z, if_neg (fun y => z (cmp0.mp y))]
  by_cases h14 : x = -14
  · subst h14
    unfold dX6_joined
    rw [if_neg (show ¬ ((-14) : Int32) = (-16) by decide), if_neg (show ¬ ((-14) : Int32) = (-15) by decide), if_pos (show ((-14) : Int32) = (-14) from rfl), show ((-14) : Int32).toInt = -14 by decide]
    unfold ev_j
    rw [if_neg (show ¬ ((-14) : Int) = (-12) by decide), if_neg (show ¬ ((-14) : Int) = (-13) by decide), if_pos (show ((-14) : Int) = (-14) from rfl)]
  by_cases h13 : x = -13
  · subst h13
    unfold dX6_joined
    rw [if_neg (show ¬ ((-13) : Int32) = (-16) by decide), if_neg (show ¬ ((-13) : Int32) = (-15) by decide), if_neg (show ¬ ((-13) : Int32) = (-14) by decide), if_pos (show ((-13) : Int32) = (-13) from rfl), show ((-13) : Int32).toInt = -13 by decide]
    unfold ev_j
    rw [if_neg (show ¬ ((-13) : Int) = (-12) by decide), if_pos (show ((-13) : Int) = (-13) from rfl)]
  by_cases h12 : x = -12
  · subst h12
    unfold dX6_joined
    rw [if_neg (show ¬ ((-12) : Int32) = (-16) by decide), if_neg (show ¬ ((-12) : Int32) = (-15) by decide), if_neg (show ¬ ((-12) : Int32) = (-14) by decide), if_neg (show ¬ ((-12) : Int32) = (-13) by decide), if_pos (show ((-12) : Int32) = (-12) from rfl), show ((-12) : Int32).toInt = -12 by decide]
    unfold ev_j
    rw [if_pos (show ((-12) : Int) = (-12) from rfl)]
  have hj : dX6_joined x a b = if dX6_holds x a b = 0 then 0 else 1 := by
    unfold dX6_joined
    rw [if_neg h16, if_neg h15, if_neg h14, if_neg h13, if_neg h12]
  rw [hj]
  by_cases h11 : x = -11
  · subst h11
    unfold dX6_holds
    rw [if_pos (show ((-11) : Int32) = (-11) from rfl), show ((-11) : Int32).toInt = -11 by decide]
    unfold ev_j
    rw [if_neg (show ¬ ((-11) : Int) = (-12) by decide), if_neg (show ¬ ((-11) : Int) = (-13) by decide), if_neg (show ¬ ((-11) : Int) = (-14) by decide), if_neg (show ¬ ((-11) : Int) = (-15) by decide), if_neg (show ¬ ((-11) : Int) = (-16) by decide), if_neg (show ¬ ((-11) : Int) = (-5) by decide), if_neg (show ¬ ((-11) : Int) = (-6) by decide), if_neg (show ¬ ((-11) : Int) = (-7) by decide), if_neg (show ¬ ((-11) : Int) = (-8) by decide), if_neg (show ¬ ((-11) : Int) = (-9) by decide), if_neg (show ¬ ((-11) : Int) = (-10) by decide), if_pos (show ((-11) : Int) = (-11) from rfl)]
    by_cases z : b < a
    · rw [if_pos z, if_neg (fun y => absurd ((lg_cmp_le a b).mp y) (Int64.not_le.mpr z)), if_neg one_ne]
    · rw [if_neg z, if_pos ((lg_cmp_le a b).mpr (Int64.not_lt.mp z)), if_pos rfl]
  by_cases h10 : x = -10
  · subst h10
    unfold dX6_holds
    rw [if_neg (show ¬ ((-10) : Int32) = (-11) by decide), if_pos (show ((-10) : Int32) = (-10) from rfl), show ((-10) : Int32).toInt = -10 by decide]
    unfold ev_j
    rw [if_neg (show ¬ ((-10) : Int) = (-12) by decide), if_neg (show ¬ ((-10) : Int) = (-13) by decide), if_neg (show ¬ ((-10) : Int) = (-14) by decide), if_neg (show ¬ ((-10) : Int) = (-15) by decide), if_neg (show ¬ ((-10) : Int) = (-16) by decide), if_neg (show ¬ ((-10) : Int) = (-5) by decide), if_neg (show ¬ ((-10) : Int) = (-6) by decide), if_neg (show ¬ ((-10) : Int) = (-7) by decide), if_neg (show ¬ ((-10) : Int) = (-8) by decide), if_neg (show ¬ ((-10) : Int) = (-9) by decide), if_pos (show ((-10) : Int) = (-10) from rfl)]
    by_cases z : b ≤ a
    · rw [if_pos z, if_neg (fun y => absurd ((lg_cmp_lt a b).mp y) (Int64.not_lt.mpr z)), if_neg one_ne]
    · rw [if_neg z, if_pos ((lg_cmp_lt a b).mpr (Int64.not_le.mp z)), if_pos rfl]
  by_cases h9 : x = -9
  · subst h9
    unfold dX6_holds
    rw [if_neg (show ¬ ((-9) : Int32) = (-11) by decide), if_neg (show ¬ ((-9) : Int32) = (-10) by decide), if_pos (show ((-9) : Int32) = (-9) from rfl), show ((-9) : Int32).toInt = -9 by decide]
    unfold ev_j
    rw [if_neg (show ¬ ((-9) : Int) = (-12) by decide), if_neg (show ¬ ((-9) : Int) = (-13) by decide), if_neg (show ¬ ((-9) : Int) = (-14) by decide), if_neg (show ¬ ((-9) : Int) = (-15) by decide), if_neg (show ¬ ((-9) : Int) = (-16) by decide), if_neg (show ¬ ((-9) : Int) = (-5) by decide), if_neg (show ¬ ((-9) : Int) = (-6) by decide), if_neg (show ¬ ((-9) : Int) = (-7) by decide), if_neg (show ¬ ((-9) : Int) = (-8) by decide), if_pos (show ((-9) : Int) = (-9) from rfl)]
    by_cases z : a = b
    · rw [if_pos z, if_pos ((lg_cmp_eq a b).mpr z), if_neg one_ne]
    · rw [if_neg z, if_neg (fun y => z ((lg_cmp_eq a b).mp y)), if_pos rfl]
  by_cases h8 : x = -8
  · subst h8
    unfold dX6_holds
    rw [if_neg (show ¬ ((-8) : Int32) = (-11) by decide), if_neg (show ¬ ((-8) : Int32) = (-10) by decide), if_neg (show ¬ ((-8) : Int32) = (-9) by decide), if_pos (show ((-8) : Int32) = (-8) from rfl), show ((-8) : Int32).toInt = -8 by decide]
    unfold ev_j
    rw [if_neg (show ¬ ((-8) : Int) = (-12) by decide), if_neg (show ¬ ((-8) : Int) = (-13) by decide), if_neg (show ¬ ((-8) : Int) = (-14) by decide), if_neg (show ¬ ((-8) : Int) = (-15) by decide), if_neg (show ¬ ((-8) : Int) = (-16) by decide), if_neg (show ¬ ((-8) : Int) = (-5) by decide), if_neg (show ¬ ((-8) : Int) = (-6) by decide), if_neg (show ¬ ((-8) : Int) = (-7) by decide), if_pos (show ((-8) : Int) = (-8) from rfl)]
    by_cases z : a ≤ b
    · rw [if_pos z, if_neg (fun y => absurd ((lg_cmp_gt a b).mp y) (Int64.not_lt.mpr z)), if_neg one_ne]
    · rw [if_neg z, if_pos ((lg_cmp_gt a b).mpr (Int64.not_le.mp z)), if_pos rfl]
  by_cases h7 : x = -7
  · subst h7
    unfold dX6_holds
    rw [if_neg (show ¬ ((-7) : Int32) = (-11) by decide), if_neg (show ¬ ((-7) : Int32) = (-10) by decide), if_neg (show ¬ ((-7) : Int32) = (-9) by decide), if_neg (show ¬ ((-7) : Int32) = (-8) by decide), if_pos (show ((-7) : Int32) = (-7) from rfl), show ((-7) : Int32).toInt = -7 by decide]
    unfold ev_j
    rw [if_neg (show ¬ ((-7) : Int) = (-12) by decide), if_neg (show ¬ ((-7) : Int) = (-13) by decide), if_neg (show ¬ ((-7) : Int) = (-14) by decide), if_neg (show ¬ ((-7) : Int) = (-15) by decide), if_neg (show ¬ ((-7) : Int) = (-16) by decide), if_neg (show ¬ ((-7) : Int) = (-5) by decide), if_neg (show ¬ ((-7) : Int) = (-6) by decide), if_pos (show ((-7) : Int) = (-7) from rfl)]
    by_cases z : a < b
    · rw [if_pos z, if_neg (fun y => absurd ((lg_cmp_ge a b).mp y) (Int64.not_le.mpr z)), if_neg one_ne]
    · rw [if_neg z, if_pos ((lg_cmp_ge a b).mpr (Int64.not_lt.mp z)), if_pos rfl]
  by_cases h6 : x = -6
  · subst h6
    unfold dX6_holds
    rw [if_neg (show ¬ ((-6) : Int32) = (-11) by decide), if_neg (show ¬ ((-6) : Int32) = (-10) by decide), if_neg (show ¬ ((-6) : Int32) = (-9) by decide), if_neg (show ¬ ((-6) : Int32) = (-8) by decide), if_neg (show ¬ ((-6) : Int32) = (-7) by decide), if_pos (show ((-6) : Int32) = (-6) from rfl), show ((-6) : Int32).toInt = -6 by decide]
    unfold ev_j
    rw [if_neg (show ¬ ((-6) : Int) = (-12) by decide), if_neg (show ¬ ((-6) : Int) = (-13) by decide), if_neg (show ¬ ((-6) : Int) = (-14) by decide), if_neg (show ¬ ((-6) : Int) = (-15) by decide), if_neg (show ¬ ((-6) : Int) = (-16) by decide), if_neg (show ¬ ((-6) : Int) = (-5) by decide), if_pos (show ((-6) : Int) = (-6) from rfl)]
    by_cases za : a = 0
    · rw [if_pos (cmp0.mpr za)]
      by_cases zb : b = 0
      · rw [if_pos (cmp0.mpr zb), if_pos rfl, if_neg (show ¬ (a ≠ 0 ∨ b ≠ 0) from fun y => y.elim (fun q => q za) (fun q => q zb))]
      · rw [if_neg (fun y => zb (cmp0.mp y)), if_neg one_ne, if_pos (show a ≠ 0 ∨ b ≠ 0 from Or.inr zb)]
    · rw [if_neg (fun y => za (cmp0.mp y)), if_neg one_ne, if_pos (show a ≠ 0 ∨ b ≠ 0 from Or.inl za)]
  by_cases h5 : x = -5
  · subst h5
    unfold dX6_holds
    rw [if_neg (show ¬ ((-5) : Int32) = (-11) by decide), if_neg (show ¬ ((-5) : Int32) = (-10) by decide), if_neg (show ¬ ((-5) : Int32) = (-9) by decide), if_neg (show ¬ ((-5) : Int32) = (-8) by decide), if_neg (show ¬ ((-5) : Int32) = (-7) by decide), if_neg (show ¬ ((-5) : Int32) = (-6) by decide), if_pos (show ((-5) : Int32) = (-5) from rfl), show ((-5) : Int32).toInt = -5 by decide]
    unfold ev_j
    rw [if_neg (show ¬ ((-5) : Int) = (-12) by decide), if_neg (show ¬ ((-5) : Int) = (-13) by decide), if_neg (show ¬ ((-5) : Int) = (-14) by decide), if_neg (show ¬ ((-5) : Int) = (-15) by decide), if_neg (show ¬ ((-5) : Int) = (-16) by decide), if_pos (show ((-5) : Int) = (-5) from rfl)]
    by_cases za : a = 0
    · rw [if_pos (cmp0.mpr za), if_pos rfl, if_neg (show ¬ (a ≠ 0 ∧ b ≠ 0) from fun y => y.1 za)]
    · rw [if_neg (fun y => za (cmp0.mp y))]
      by_cases zb : b = 0
      · rw [if_pos (cmp0.mpr zb), if_pos rfl, if_neg (show ¬ (a ≠ 0 ∧ b ≠ 0) from fun y => y.2 zb)]
      · rw [if_neg (fun y => zb (cmp0.mp y)), if_neg one_ne, if_pos (show a ≠ 0 ∧ b ≠ 0 from ⟨za, zb⟩)]
  unfold dX6_holds
  rw [if_neg h11, if_neg h10, if_neg h9, if_neg h8, if_neg h7, if_neg h6, if_neg h5, if_pos rfl]
  have nn : ∀ (v : Int32) (w : Int), v.toInt = w → ¬ x = v → ¬ x.toInt = w := fun v w hv hx z => hx (Int32.toInt_inj.mp (z.trans hv.symm))
  unfold ev_j
  rw [if_neg (nn (-12) (-12) (by decide) h12), if_neg (nn (-13) (-13) (by decide) h13), if_neg (nn (-14) (-14) (by decide) h14), if_neg (nn (-15) (-15) (by decide) h15), if_neg (nn (-16) (-16) (by decide) h16), if_neg (nn (-5) (-5) (by decide) h5), if_neg (nn (-6) (-6) (by decide) h6), if_neg (nn (-7) (-7) (by decide) h7), if_neg (nn (-8) (-8) (by decide) h8), if_neg (nn (-9) (-9) (by decide) h9), if_neg (nn (-10) (-10) (by decide) h10), if_neg (nn (-11) (-11) (by decide) h11)]
theorem one_eq {x : Int32} {o : Int} {a b : Int64} (ho : -16 ≤ o ∧ o ≤ -5) (hx : x.toInt = rC o) : dX12_one x a b = ev_r o a b := by
  have lit : ∀ v : Int32, x.toInt = v.toInt → x = v := fun v z => Int32.toInt_inj.mp z
  have hv : o = -16 ∨ o = -15 ∨ o = -14 ∨ o = -13 ∨ o = -12 ∨ o = -11 ∨ o = -10 ∨ o = -9 ∨ o = -8 ∨ o = -7 ∨ o = -6 ∨ o = -5 := by omega
  rcases hv with rfl | rfl | rfl | rfl | rfl | rfl | rfl | rfl | rfl | rfl | rfl | rfl
  · skip
    have hx : x = 14 := lit 14 (by rw [hx]; decide)
    subst hx
    unfold dX12_one
    rw [if_neg (show ¬ ((14) : Int32) = (2) by decide), if_neg (show ¬ ((14) : Int32) = (3) by decide), if_neg (show ¬ ((14) : Int32) = (4) by decide), if_neg (show ¬ ((14) : Int32) = (5) by decide), if_neg (show ¬ ((14) : Int32) = (6) by decide), if_neg (show ¬ ((14) : Int32) = (7) by decide), if_neg (show ¬ ((14) : Int32) = (8) by decide), if_neg (show ¬ ((14) : Int32) = (9) by decide), if_neg (show ¬ ((14) : Int32) = (10) by decide), if_neg (show ¬ ((14) : Int32) = (11) by decide), if_neg (show ¬ ((14) : Int32) = (12) by decide), if_neg (show ¬ ((14) : Int32) = (13) by decide), if_pos (show ((14) : Int32) = (14) from rfl)]
    unfold ev_r
    rw [if_neg (show ¬ ((-16) : Int) = (-5) by decide), if_neg (show ¬ ((-16) : Int) = (-6) by decide)]
    unfold ev_j
    rw [if_neg (show ¬ ((-16) : Int) = (-12) by decide), if_neg (show ¬ ((-16) : Int) = (-13) by decide), if_neg (show ¬ ((-16) : Int) = (-14) by decide), if_neg (show ¬ ((-16) : Int) = (-15) by decide), if_pos (show ((-16) : Int) = (-16) from rfl)]
    by_cases z : b = 0
    · rw [if_pos z, if_pos (cmp0.mpr z)]
    · rw [if_neg z, if_neg (fun y => z (cmp0.mp y))]
  · skip
    have hx : x = 5 := lit 5 (by rw [hx]; decide)
    subst hx
    unfold dX12_one
    rw [if_neg (show ¬ ((5) : Int32) = (2) by decide), if_neg (show ¬ ((5) : Int32) = (3) by decide), if_neg (show ¬ ((5) : Int32) = (4) by decide), if_pos (show ((5) : Int32) = (5) from rfl)]
    unfold ev_r
    rw [if_neg (show ¬ ((-15) : Int) = (-5) by decide), if_neg (show ¬ ((-15) : Int) = (-6) by decide)]
    unfold ev_j
    rw [if_neg (show ¬ ((-15) : Int) = (-12) by decide), if_neg (show ¬ ((-15) : Int) = (-13) by decide), if_neg (show ¬ ((-15) : Int) = (-14) by decide), if_pos (show ((-15) : Int) = (-15) from rfl)]
    by_cases z : b = 0
    · rw [if_pos z, if_pos (cmp0.mpr z)]
    · rw [if_neg z, if_neg (fun y => z (cmp0.mp y))]
  · skip
    have hx : x = 4 := lit 4 (by rw [hx]; decide)
    subst hx
    unfold dX12_one
    rw [if_neg (show ¬ ((4) : Int32) = (2) by decide), if_neg (show ¬ ((4) : Int32) = (3) by decide), if_pos (show ((4) : Int32) = (4) from rfl)]
    unfold ev_r
    rw [if_neg (show ¬ ((-14) : Int) = (-5) by decide), if_neg (show ¬ ((-14) : Int) = (-6) by decide)]
    unfold ev_j
    rw [if_neg (show ¬ ((-14) : Int) = (-12) by decide), if_neg (show ¬ ((-14) : Int) = (-13) by decide), if_pos (show ((-14) : Int) = (-14) from rfl)]
  · skip
    have hx : x = 3 := lit 3 (by rw [hx]; decide)
    subst hx
    unfold dX12_one
    rw [if_neg (show ¬ ((3) : Int32) = (2) by decide), if_pos (show ((3) : Int32) = (3) from rfl)]
    unfold ev_r
    rw [if_neg (show ¬ ((-13) : Int) = (-5) by decide), if_neg (show ¬ ((-13) : Int) = (-6) by decide)]
    unfold ev_j
    rw [if_neg (show ¬ ((-13) : Int) = (-12) by decide), if_pos (show ((-13) : Int) = (-13) from rfl)]
  · skip
    have hx : x = 2 := lit 2 (by rw [hx]; decide)
    subst hx
    unfold dX12_one
    rw [if_pos (show ((2) : Int32) = (2) from rfl)]
    unfold ev_r
    rw [if_neg (show ¬ ((-12) : Int) = (-5) by decide), if_neg (show ¬ ((-12) : Int) = (-6) by decide)]
    unfold ev_j
    rw [if_pos (show ((-12) : Int) = (-12) from rfl)]
  · skip
    have hx : x = 10 := lit 10 (by rw [hx]; decide)
    subst hx
    unfold dX12_one
    rw [if_neg (show ¬ ((10) : Int32) = (2) by decide), if_neg (show ¬ ((10) : Int32) = (3) by decide), if_neg (show ¬ ((10) : Int32) = (4) by decide), if_neg (show ¬ ((10) : Int32) = (5) by decide), if_neg (show ¬ ((10) : Int32) = (6) by decide), if_neg (show ¬ ((10) : Int32) = (7) by decide), if_neg (show ¬ ((10) : Int32) = (8) by decide), if_neg (show ¬ ((10) : Int32) = (9) by decide), if_pos (show ((10) : Int32) = (10) from rfl)]
    unfold ev_r
    rw [if_neg (show ¬ ((-11) : Int) = (-5) by decide), if_neg (show ¬ ((-11) : Int) = (-6) by decide)]
    unfold ev_j
    rw [if_neg (show ¬ ((-11) : Int) = (-12) by decide), if_neg (show ¬ ((-11) : Int) = (-13) by decide), if_neg (show ¬ ((-11) : Int) = (-14) by decide), if_neg (show ¬ ((-11) : Int) = (-15) by decide), if_neg (show ¬ ((-11) : Int) = (-16) by decide), if_neg (show ¬ ((-11) : Int) = (-5) by decide), if_neg (show ¬ ((-11) : Int) = (-6) by decide), if_neg (show ¬ ((-11) : Int) = (-7) by decide), if_neg (show ¬ ((-11) : Int) = (-8) by decide), if_neg (show ¬ ((-11) : Int) = (-9) by decide), if_neg (show ¬ ((-11) : Int) = (-10) by decide), if_pos (show ((-11) : Int) = (-11) from rfl)]
    by_cases z : b < a
    · rw [if_pos z, if_neg (fun y => absurd ((lg_cmp_le a b).mp y) (Int64.not_le.mpr z))]
    · rw [if_neg z, if_pos ((lg_cmp_le a b).mpr (Int64.not_lt.mp z))]
  · skip
    have hx : x = 9 := lit 9 (by rw [hx]; decide)
    subst hx
    unfold dX12_one
    rw [if_neg (show ¬ ((9) : Int32) = (2) by decide), if_neg (show ¬ ((9) : Int32) = (3) by decide), if_neg (show ¬ ((9) : Int32) = (4) by decide), if_neg (show ¬ ((9) : Int32) = (5) by decide), if_neg (show ¬ ((9) : Int32) = (6) by decide), if_neg (show ¬ ((9) : Int32) = (7) by decide), if_neg (show ¬ ((9) : Int32) = (8) by decide), if_pos (show ((9) : Int32) = (9) from rfl)]
    unfold ev_r
    rw [if_neg (show ¬ ((-10) : Int) = (-5) by decide), if_neg (show ¬ ((-10) : Int) = (-6) by decide)]
    unfold ev_j
    rw [if_neg (show ¬ ((-10) : Int) = (-12) by decide), if_neg (show ¬ ((-10) : Int) = (-13) by decide), if_neg (show ¬ ((-10) : Int) = (-14) by decide), if_neg (show ¬ ((-10) : Int) = (-15) by decide), if_neg (show ¬ ((-10) : Int) = (-16) by decide), if_neg (show ¬ ((-10) : Int) = (-5) by decide), if_neg (show ¬ ((-10) : Int) = (-6) by decide), if_neg (show ¬ ((-10) : Int) = (-7) by decide), if_neg (show ¬ ((-10) : Int) = (-8) by decide), if_neg (show ¬ ((-10) : Int) = (-9) by decide), if_pos (show ((-10) : Int) = (-10) from rfl)]
    by_cases z : b ≤ a
    · rw [if_pos z, if_neg (fun y => absurd ((lg_cmp_lt a b).mp y) (Int64.not_lt.mpr z))]
    · rw [if_neg z, if_pos ((lg_cmp_lt a b).mpr (Int64.not_le.mp z))]
  · skip
    have hx : x = 8 := lit 8 (by rw [hx]; decide)
    subst hx
    unfold dX12_one
    rw [if_neg (show ¬ ((8) : Int32) = (2) by decide), if_neg (show ¬ ((8) : Int32) = (3) by decide), if_neg (show ¬ ((8) : Int32) = (4) by decide), if_neg (show ¬ ((8) : Int32) = (5) by decide), if_neg (show ¬ ((8) : Int32) = (6) by decide), if_neg (show ¬ ((8) : Int32) = (7) by decide), if_pos (show ((8) : Int32) = (8) from rfl)]
    unfold ev_r
    rw [if_neg (show ¬ ((-9) : Int) = (-5) by decide), if_neg (show ¬ ((-9) : Int) = (-6) by decide)]
    unfold ev_j
    rw [if_neg (show ¬ ((-9) : Int) = (-12) by decide), if_neg (show ¬ ((-9) : Int) = (-13) by decide), if_neg (show ¬ ((-9) : Int) = (-14) by decide), if_neg (show ¬ ((-9) : Int) = (-15) by decide), if_neg (show ¬ ((-9) : Int) = (-16) by decide), if_neg (show ¬ ((-9) : Int) = (-5) by decide), if_neg (show ¬ ((-9) : Int) = (-6) by decide), if_neg (show ¬ ((-9) : Int) = (-7) by decide), if_neg (show ¬ ((-9) : Int) = (-8) by decide), if_pos (show ((-9) : Int) = (-9) from rfl)]
    by_cases z : a = b
    · rw [if_pos z, if_pos ((lg_cmp_eq a b).mpr z)]
    · rw [if_neg z, if_neg (fun y => z ((lg_cmp_eq a b).mp y))]
  · skip
    have hx : x = 7 := lit 7 (by rw [hx]; decide)
    subst hx
    unfold dX12_one
    rw [if_neg (show ¬ ((7) : Int32) = (2) by decide), if_neg (show ¬ ((7) : Int32) = (3) by decide), if_neg (show ¬ ((7) : Int32) = (4) by decide), if_neg (show ¬ ((7) : Int32) = (5) by decide), if_neg (show ¬ ((7) : Int32) = (6) by decide), if_pos (show ((7) : Int32) = (7) from rfl)]
    unfold ev_r
    rw [if_neg (show ¬ ((-8) : Int) = (-5) by decide), if_neg (show ¬ ((-8) : Int) = (-6) by decide)]
    unfold ev_j
    rw [if_neg (show ¬ ((-8) : Int) = (-12) by decide), if_neg (show ¬ ((-8) : Int) = (-13) by decide), if_neg (show ¬ ((-8) : Int) = (-14) by decide), if_neg (show ¬ ((-8) : Int) = (-15) by decide), if_neg (show ¬ ((-8) : Int) = (-16) by decide), if_neg (show ¬ ((-8) : Int) = (-5) by decide), if_neg (show ¬ ((-8) : Int) = (-6) by decide), if_neg (show ¬ ((-8) : Int) = (-7) by decide), if_pos (show ((-8) : Int) = (-8) from rfl)]
    by_cases z : a ≤ b
    · rw [if_pos z, if_neg (fun y => absurd ((lg_cmp_gt a b).mp y) (Int64.not_lt.mpr z))]
    · rw [if_neg z, if_pos ((lg_cmp_gt a b).mpr (Int64.not_le.mp z))]
  · skip
    have hx : x = 6 := lit 6 (by rw [hx]; decide)
    subst hx
    unfold dX12_one
    rw [if_neg (show ¬ ((6) : Int32) = (2) by decide), if_neg (show ¬ ((6) : Int32) = (3) by decide), if_neg (show ¬ ((6) : Int32) = (4) by decide), if_neg (show ¬ ((6) : Int32) = (5) by decide), if_pos (show ((6) : Int32) = (6) from rfl)]
    unfold ev_r
    rw [if_neg (show ¬ ((-7) : Int) = (-5) by decide), if_neg (show ¬ ((-7) : Int) = (-6) by decide)]
    unfold ev_j
    rw [if_neg (show ¬ ((-7) : Int) = (-12) by decide), if_neg (show ¬ ((-7) : Int) = (-13) by decide), if_neg (show ¬ ((-7) : Int) = (-14) by decide), if_neg (show ¬ ((-7) : Int) = (-15) by decide), if_neg (show ¬ ((-7) : Int) = (-16) by decide), if_neg (show ¬ ((-7) : Int) = (-5) by decide), if_neg (show ¬ ((-7) : Int) = (-6) by decide), if_pos (show ((-7) : Int) = (-7) from rfl)]
    by_cases z : a < b
    · rw [if_pos z, if_neg (fun y => absurd ((lg_cmp_ge a b).mp y) (Int64.not_le.mpr z))]
    · rw [if_neg z, if_pos ((lg_cmp_ge a b).mpr (Int64.not_lt.mp z))]
  · skip
    have hx : x = 13 := lit 13 (by rw [hx]; decide)
    subst hx
    unfold dX12_one
    rw [if_neg (show ¬ ((13) : Int32) = (2) by decide), if_neg (show ¬ ((13) : Int32) = (3) by decide), if_neg (show ¬ ((13) : Int32) = (4) by decide), if_neg (show ¬ ((13) : Int32) = (5) by decide), if_neg (show ¬ ((13) : Int32) = (6) by decide), if_neg (show ¬ ((13) : Int32) = (7) by decide), if_neg (show ¬ ((13) : Int32) = (8) by decide), if_neg (show ¬ ((13) : Int32) = (9) by decide), if_neg (show ¬ ((13) : Int32) = (10) by decide), if_neg (show ¬ ((13) : Int32) = (11) by decide), if_neg (show ¬ ((13) : Int32) = (12) by decide), if_pos (show ((13) : Int32) = (13) from rfl)]
    unfold ev_r
    rw [if_neg (show ¬ ((-6) : Int) = (-5) by decide), if_pos (show ((-6) : Int) = (-6) from rfl)]
  · skip
    have hx : x = 12 := lit 12 (by rw [hx]; decide)
    subst hx
    unfold dX12_one
    rw [if_neg (show ¬ ((12) : Int32) = (2) by decide), if_neg (show ¬ ((12) : Int32) = (3) by decide), if_neg (show ¬ ((12) : Int32) = (4) by decide), if_neg (show ¬ ((12) : Int32) = (5) by decide), if_neg (show ¬ ((12) : Int32) = (6) by decide), if_neg (show ¬ ((12) : Int32) = (7) by decide), if_neg (show ¬ ((12) : Int32) = (8) by decide), if_neg (show ¬ ((12) : Int32) = (9) by decide), if_neg (show ¬ ((12) : Int32) = (10) by decide), if_neg (show ¬ ((12) : Int32) = (11) by decide), if_pos (show ((12) : Int32) = (12) from rfl)]
    unfold ev_r
    rw [if_pos (show ((-5) : Int) = (-5) from rfl)]
set_option maxRecDepth 16384
/-! the class's sum is ev_c of its code -/
theorem drop_on {L : List Int} {i : Nat} (h : i < L.length) : L.drop i = L.getD i 0 :: L.drop (i + 1) := by
  rw [List.drop_eq_getElem_cons h, List.getD_eq_getElem?_getD, List.getElem?_eq_getElem h]
  rfl
theorem to64 {x : Int32} : x.toInt64 = Int64.ofInt x.toInt := by
  rw [← i32_64 x, Int64.ofInt_toInt]
theorem t_2 : (2 : Int32).toInt = 2 := by decide
theorem t_m2 : (-2 : Int32).toInt = -2 := by decide
theorem t_64 : (64 : Int32).toInt = 64 := by decide
theorem t_lak : (100000 : Int32).toInt = 100000 := by decide
theorem tp1n {t : Int32} (h : 0 ≤ t.toInt ∧ t.toInt < 64) : 0 ≤ (t + 1).toInt ∧ (t + 1).toInt ≤ 64 ∧ (t + 1).toInt.toNat = t.toInt.toNat + 1 := by
  rw [ix_k (x := t) rfl t_1 (by omega)]
  omega
theorem tm1n {t : Int32} {m : Nat} (h : 0 ≤ t.toInt ∧ t.toInt ≤ 64) (hm : t.toInt.toNat = m + 2) : 0 ≤ (t + -1).toInt ∧ (t + -1).toInt ≤ 64 ∧ (t + -1).toInt.toNat = m + 1 := by
  rw [ix_k (x := t) rfl t_m1 (by omega)]
  omega
theorem tm2n {t : Int32} {m : Nat} (h : 0 ≤ t.toInt ∧ t.toInt ≤ 64) (hm : t.toInt.toNat = m + 2) : 0 ≤ (t + -2).toInt ∧ (t + -2).toInt ≤ 64 ∧ (t + -2).toInt.toNat = m := by
  rw [ix_k (x := t) rfl t_m2 (by omega)]
  omega
theorem ts1n {t : Int32} {m : Nat} (h : 0 ≤ t.toInt ∧ t.toInt ≤ 64) (hm : t.toInt.toNat = m + 1) : (t - 1).toNatClampNeg = m := by
  show (t - 1).toInt.toNat = m
  rw [sub_toInt (by rw [t_1]; omega) (by rw [t_1]; omega), t_1]
  omega
theorem ts2n {t : Int32} {m : Nat} (h : 0 ≤ t.toInt ∧ t.toInt ≤ 64) (hm : t.toInt.toNat = m + 2) : (t - 2).toNatClampNeg = m := by
  show (t - 2).toInt.toNat = m
  rw [sub_toInt (by rw [t_2]; omega) (by rw [t_2]; omega), t_2]
  omega
theorem lit_ne {x v : Int32} {o w : Int} (e : x.toInt = o) (hv : v.toInt = w) (h : ¬ x = v) : ¬ o = w := fun q => h (Int32.toInt_inj.mp (by rw [e, hv, q]))
theorem lit_eq {x v : Int32} {o w : Int} (e : x.toInt = o) (hv : v.toInt = w) (h : x = v) : o = w := by rw [← e, h, hv]
theorem t_m3 : (-3 : Int32).toInt = -3 := by decide
theorem t_m4 : (-4 : Int32).toInt = -4 := by decide
theorem fin1 {B : Type} {x : Int64} {y : B} : (if ((1 : Int32), x, y).1 = 1 then ((1 : Int32), x, y).2.1 else 0) = x := if_pos rfl
theorem fin0 {B : Type} {x : Int64} {y : B} : (if ((0 : Int32), x, y).1 = 1 then ((0 : Int32), x, y).2.1 else 0) = 0 := if_neg (show ¬ (0 : Int32) = 1 by decide)
theorem wk_eq {op : Int32} {o : Int} (eo : op.toInt = o) (q : 100000 ≤ o) : op - 100000 = nI (o - 100000).toNat := by
  have hmx := i32_le op
  refine Int32.toInt_inj.mp ?_
  rw [nI_toInt (by omega), sub_toInt (by rw [t_lak]; omega) (by rw [t_lak]; omega), t_lak]
  omega
section SUM
variable {f1 f3 f4 f5 f6 f7 f8 rf : Nat → Int32} {v0 v2 v3 v4 v5 b : Int32} {rn : Nat} {L : List Int}
theorem sumL (hL : CdE rf L) (hn : L.length = rn) (h4 : rn ≤ 400) : ∀ (n : Nat) (i top : Int32) (g : Nat → Int64), 0 ≤ i.toInt → i.toInt ≤ (rn : Int) → (rn : Int) - i.toInt < (n : Int) → 0 ≤ top.toInt → top.toInt ≤ 64 →
    (if (dX6_sumFor_l5 f1 f3 f4 f5 f6 f7 f8 v0 v2 v3 v4 v5 rf rn b n i top g).1 = 1 then (dX6_sumFor_l5 f1 f3 f4 f5 f6 f7 f8 v0 v2 v3 v4 v5 rf rn b n i top g).2.1 else 0) = ev_c (fun k => dX9_wordOf f1 f3 f4 f5 f6 f7 f8 v0 v2 v3 v4 v5 (nI k) b) (L.drop i.toInt.toNat) (hst g top.toInt.toNat)
  | 0, i, top, g, h0, h1, hk, ht, ht2 => by omega
  | n + 1, i, top, g, h0, h1, hk, ht, ht2 => by
    have hnI : (nI rn).toInt = (rn : Int) := nI_toInt (by omega)
    rw [dX6_sumFor_l5_s]
    by_cases z : nI rn ≤ i
    · rw [if_pos z]
      rw [i32_leq, hnI] at z
      rw [List.drop_eq_nil_of_le (by omega), ev_c_nil]
      exact fin0
    · rw [if_neg z]
      rw [i32_leq, hnI] at z
      have hi : i.toInt.toNat < L.length := by omega
      have e1 : (i + 1).toInt = i.toInt + 1 := by rw [ix_k rfl t_1 (by omega)]
      have eN : (i + 1).toInt.toNat = i.toInt.toNat + 1 := by omega
      have eo := hL _ hi
      rw [drop_on hi, cl_b (b := i)]
      generalize eop : rf i.toInt.toNat = op at eo
      generalize L.getD i.toInt.toNat 0 = o at eo
      have IH := fun (top' : Int32) (g' : Nat → Int64) (a1 : 0 ≤ top'.toInt) (a2 : top'.toInt ≤ 64) => sumL hL hn h4 n (i + 1) top' g' (by omega) (by omega) (by omega) a1 a2
      rw [eN] at IH
      clear e1 eN hk hnI z h0 h1 hi
      have hT : 0 ≤ top.toInt ∧ top.toInt ≤ 64 := ⟨ht, ht2⟩
      by_cases c0 : op < 0
      · have o0 : o < 0 := by rw [i32_lt, t_0, eo] at c0; exact c0
        rw [if_pos c0]
        by_cases c2 : op = -2
        · have o2 := lit_eq eo t_m2 c2
          rw [if_pos c2, o2, ev_c_ans]
          by_cases d : top < 1
          · rw [if_pos d]
            rw [i32_lt, t_1] at d
            have q : top.toInt.toNat = 0 := by omega
            rw [q]
            exact fin1
          · have d6 : ¬ (64 : Int32) < top := by rw [i32_lt, t_64]; omega
            rw [if_neg d, if_neg d6]
            rw [i32_lt, t_1] at d
            obtain ⟨m, hm⟩ : ∃ m : Nat, top.toInt.toNat = m + 1 := ⟨top.toInt.toNat - 1, by omega⟩
            rw [ts1n hT hm, hm]
            exact fin1
        · have o2 := lit_ne eo t_m2 c2
          rw [if_neg c2]
          by_cases c4 : op = -4
          · have o4 := lit_eq eo t_m4 c4
            rw [if_pos c4, o4, ev_c_not]
            by_cases d : top < 1
            · rw [if_pos d]
              rw [i32_lt, t_1] at d
              have q : top.toInt.toNat = 0 := by omega
              rw [IH top g ht ht2, q]
              rfl
            · have d6 : ¬ (64 : Int32) < top := by rw [i32_lt, t_64]; omega
              rw [if_neg d, if_neg d6]
              rw [i32_lt, t_1] at d
              obtain ⟨m, hm⟩ : ∃ m : Nat, top.toInt.toNat = m + 1 := ⟨top.toInt.toNat - 1, by omega⟩
              rw [ts1n hT hm]
              have en : ev_nt (hst g top.toInt.toNat) = (if g m = 0 then 1 else 0) :: hst g m := by rw [hm]; rfl
              rw [en]
              by_cases q : g m = 0
              · rw [if_pos (cmp0.mpr q), if_pos q, IH top _ ht ht2, hm, hst_at rfl]
              · rw [if_neg (fun y => q (cmp0.mp y)), if_neg q, IH top _ ht ht2, hm, hst_at rfl]
          · have o4 := lit_ne eo t_m4 c4
            rw [if_neg c4]
            by_cases d : top < 2
            · rw [if_pos d]
              rw [i32_lt, t_2] at d
              rw [ev_c_few o0 o2 o4 (by rw [hst_len]; omega)]
              exact fin1
            · have d6 : top ≤ (64 : Int32) := by rw [i32_leq, t_64]; exact ht2
              rw [if_neg d]
              rw [i32_lt, t_2] at d
              obtain ⟨m, hm⟩ : ∃ m : Nat, top.toInt.toNat = m + 2 := ⟨top.toInt.toNat - 2, by omega⟩
              have en : hst g top.toInt.toNat = g (m + 1) :: g m :: hst g m := by rw [hm]; rfl
              rw [if_pos d6, ts1n (m := m + 1) hT hm, ts2n hT hm, en]
              by_cases c3 : op = -3
              · have o3 := lit_eq eo t_m3 c3
                rw [if_pos c3, o3, ev_c_if]
                by_cases q : g (m + 1) = 0
                · obtain ⟨q1, q2, q3⟩ := tm2n hT hm
                  rw [if_pos (cmp0.mpr q), if_pos q, IH (top + -2) g q1 q2, q3]
                · rw [if_neg (fun y => q (cmp0.mp y)), if_neg q]
                  exact fin1
              · have o3 := lit_ne eo t_m3 c3
                obtain ⟨q1, q2, q3⟩ := tm1n hT hm
                rw [if_neg c3, ev_c_two o0 o2 o3 o4, IH (top + -1) _ q1 q2, q3, hst_at rfl, joined_eq, eo]
      · rw [if_neg c0]
        have o0 : 0 ≤ o := by rw [i32_lt, t_0, eo] at c0; omega
        rw [if_neg (show ¬ top < 0 by rw [i32_lt, t_0]; omega)]
        by_cases d : top < 64
        · rw [if_pos d]
          rw [i32_lt, t_64] at d
          obtain ⟨q1, q2, q3⟩ := tp1n ⟨ht, d⟩
          rw [ev_c_psh o0 (by rw [hst_len]; omega), cl_b (b := top)]
          by_cases q : (100000 : Int32) ≤ op
          · rw [if_pos q]
            rw [i32_leq, t_lak, eo] at q
            rw [IH (top + 1) _ q1 q2, q3, hst_at rfl, wk_eq eo q]
            unfold ev_v
            rw [if_neg (show ¬ o < 100000 by omega)]
          · rw [if_neg q]
            rw [i32_leq, t_lak, eo] at q
            rw [IH (top + 1) _ q1 q2, q3, hst_at rfl, to64, eo]
            unfold ev_v
            rw [if_pos (show o < 100000 by omega)]
        · rw [if_neg d]
          rw [i32_lt, t_64] at d
          rw [ev_c_full o0 (by rw [hst_len]; omega)]
          exact fin1
theorem sum_is (hL : CdE rf L) (hn : L.length = rn) (h4 : rn ≤ 400) {g : Nat → Int64} : (dX6_sumFor f1 f3 f4 f5 f6 f7 f8 v0 v2 v3 v4 v5 rf g b rn).1 = ev_c (fun k => dX9_wordOf f1 f3 f4 f5 f6 f7 f8 v0 v2 v3 v4 v5 (nI k) b) L [] := by
  have h := sumL (f1 := f1) (f3 := f3) (f4 := f4) (f5 := f5) (f6 := f6) (f7 := f7) (f8 := f8) (v0 := v0) (v2 := v2) (v3 := v3) (v4 := v4) (v5 := v5) (b := b) hL hn h4 ((400 - (0 : Int32).toInt).toNat + 1) 0 0 g (by decide) (by rw [t_0]; omega) (by rw [t_0]; omega) (by decide) (by decide)
  have e : L.drop (0 : Int32).toInt.toNat = L := rfl
  have e2 : hst g (0 : Int32).toInt.toNat = [] := rfl
  rw [e, e2] at h
  rw [← h]
  unfold dX6_sumFor
  by_cases z : (dX6_sumFor_l5 f1 f3 f4 f5 f6 f7 f8 v0 v2 v3 v4 v5 rf rn b ((400 - (0 : Int32).toInt).toNat + 1) 0 0 g).1 = 1
  · rw [if_pos z, if_pos z]
  · rw [if_neg z, if_neg z]
end SUM
theorem m15 (x : Int32) : (x &&& 15).toInt = x.toInt % 16 := by
  have h := Jvm.Kit.i32_mask x 15 (k := 4) (by decide) (by decide)
  rw [h]
  have e : (2 : Int) ^ 4 = 16 := by decide
  rw [e]
theorem s4 (x : Int32) : (x >>> ((4 : Int32) &&& 31)).toInt = x.toInt / 16 := by
  have h := Jvm.Kit.i32_shr x ((4 : Int32) &&& 31) (k := 4) (by decide)
  rw [h]
  have e : (2 : Int) ^ 4 = 16 := by decide
  rw [e]
theorem opdrop {c : List Int} {i : Nat} (h : i < c.length) : c.drop i = c.getD i 0 :: c.drop (i + 1) := drop_on h
theorem i400 {t i : Int32} (ht : 0 ≤ t.toInt ∧ t.toInt < 6) (hi : 0 ≤ i.toInt ∧ i.toInt ≤ 400) : ((400 : Int32) * t + i).toNatClampNeg = 400 * t.toInt.toNat + i.toInt.toNat := by
  have h4 : (400 : Int32).toInt = 400 := by decide
  have e1 : ((400 : Int32) * t).toInt = 400 * t.toInt := by rw [mul_toInt (by rw [h4]; omega) (by rw [h4]; omega), h4]
  exact cl_eq (by rw [ix_k e1 rfl (by omega)]; omega)
theorem ev_k_need {o : Int} {k k' : List Bool} (h : ev_k o k = some k') (ho : o < 0) : (o = -4 ∧ ∃ t, k = true :: t) ∨ (o ≠ -4 ∧ -16 ≤ o ∧ o ≤ -5 ∧ ∃ a b t, k = a :: b :: t) := by
  unfold ev_k at h
  rw [if_neg (by omega)] at h
  by_cases h4 : o = -4
  · rw [if_pos h4] at h
    match k, h with
    | true :: t, _ => exact Or.inl ⟨h4, t, rfl⟩
    | false :: _, h => cases (show none = some k' from h)
    | [], h => cases (show none = some k' from h)
  · rw [if_neg h4] at h
    refine Or.inr ⟨h4, ?_⟩
    by_cases h5 : o = -5 ∨ o = -6
    · rw [if_pos h5] at h
      match k, h with
      | true :: true :: t, _ => exact ⟨by omega, by omega, _, _, _, rfl⟩
      | [], h => cases (show none = some k' from h)
      | [true], h => cases (show none = some k' from h)
      | false :: _, h => cases (show none = some k' from h)
      | true :: false :: _, h => cases (show none = some k' from h)
    · rw [if_neg h5] at h
      by_cases h7 : -11 ≤ o ∧ o ≤ -7
      · rw [if_pos h7] at h
        match k, h with
        | false :: false :: t, _ => exact ⟨by omega, by omega, _, _, _, rfl⟩
        | [], h => cases (show none = some k' from h)
        | [false], h => cases (show none = some k' from h)
        | true :: _, h => cases (show none = some k' from h)
        | false :: true :: _, h => cases (show none = some k' from h)
      · rw [if_neg h7] at h
        by_cases h12 : -16 ≤ o ∧ o ≤ -12
        · rw [if_pos h12] at h
          match k, h with
          | false :: false :: t, _ => exact ⟨by omega, by omega, _, _, _, rfl⟩
          | [], h => cases (show none = some k' from h)
          | [false], h => cases (show none = some k' from h)
          | true :: _, h => cases (show none = some k' from h)
          | false :: true :: _, h => cases (show none = some k' from h)
        · rw [if_neg h12] at h; cases h
theorem rC_rg {o : Int} (h : -16 ≤ o ∧ o ≤ -4) : 2 ≤ rC o ∧ rC o ≤ 14 ∧ (rC o = 11 ↔ o = -4) := by
  have hv : o = -16 ∨ o = -15 ∨ o = -14 ∨ o = -13 ∨ o = -12 ∨ o = -11 ∨ o = -10 ∨ o = -9 ∨ o = -8 ∨ o = -7 ∨ o = -6 ∨ o = -5 ∨ o = -4 := by omega
  rcases hv with rfl | rfl | rfl | rfl | rfl | rfl | rfl | rfl | rfl | rfl | rfl | rfl | rfl <;> decide
theorem recL {sg : Nat → Int32} {wd : Nat → Int64} {e t : Int32} {p : Nat} {c : List Int} (ht : 0 ≤ t.toInt ∧ t.toInt < 6) (hc : RwE sg t.toInt.toNat p c) (he : e.toInt = (p : Int) + (c.length : Int)) (h4 : e.toInt ≤ 400) : ∀ (n : Nat) (i top : Int32) (g : Nat → Int64) (k k' : List Bool), (p : Int) ≤ i.toInt → i.toInt ≤ e.toInt → e.toInt - i.toInt < (n : Int) → 0 ≤ top.toInt → k.length = top.toInt.toNat → ev_t (c.drop (i.toInt.toNat - p)) k = some k' → top.toInt + (ev_n (c.drop (i.toInt.toNat - p)) : Int) ≤ 64 →
    ∃ g' top' i', dX12_reckons_l8 sg wd e t n i top g = (i', top', g') ∧ hst g' top'.toInt.toNat = ev_s wd (c.drop (i.toInt.toNat - p)) (hst g top.toInt.toNat) ∧ 0 ≤ top'.toInt ∧ top'.toInt ≤ 64 ∧ k'.length = top'.toInt.toNat
  | 0, i, top, g, k, k', h0, h1, hn, _, _, _, _ => by omega
  | n + 1, i, top, g, k, k', h0, h1, hn, ht0, hk, hty, hb => by
    rw [dX12_reckons_l8_s]
    by_cases z : e ≤ i
    · rw [if_pos z]
      rw [i32_leq] at z
      have e0 : c.drop (i.toInt.toNat - p) = [] := List.drop_eq_nil_of_le (by omega)
      rw [e0] at hty hb ⊢
      cases hty
      exact ⟨g, top, i, rfl, rfl, ht0, by have : ev_n [] = 0 := rfl; omega, hk⟩
    · rw [if_neg z]
      rw [i32_leq] at z
      have hj : i.toInt.toNat - p < c.length := by omega
      have e1 : (i + 1).toInt = i.toInt + 1 := by rw [ix_k rfl t_1 (by omega)]
      have eN : (i + 1).toInt.toNat - p = i.toInt.toNat - p + 1 := by omega
      have eo := hc _ hj
      rw [show 400 * t.toInt.toNat + p + (i.toInt.toNat - p) = 400 * t.toInt.toNat + i.toInt.toNat by omega] at eo
      rw [opdrop hj] at hty hb ⊢
      rw [i400 ht (by omega)]
      generalize c.getD (i.toInt.toNat - p) 0 = o at eo hty hb ⊢
      generalize sg (400 * t.toInt.toNat + i.toInt.toNat) = x at eo ⊢
      have hty : (match ev_k o k with | none => none | some k1 => ev_t (c.drop (i.toInt.toNat - p + 1)) k1) = some k' := hty
      have hb : top.toInt + ((ev_p o + ev_n (c.drop (i.toInt.toNat - p + 1)) : Nat) : Int) ≤ 64 := hb
      have hx15 := m15 x
      have hx4 := s4 x
      have p1 : top.toInt < 64 → (top + 1).toInt = top.toInt + 1 := fun q => by rw [ix_k rfl t_1 (by omega)]
      have s1 : 1 ≤ top.toInt → (top - 1).toInt = top.toInt - 1 := fun q => by rw [sub_toInt (by rw [t_1]; omega) (by rw [t_1]; omega), t_1]
      have IH := fun (top' : Int32) (g' : Nat → Int64) (k1 : List Bool) (a1 : 0 ≤ top'.toInt) (a2 : k1.length = top'.toInt.toNat) (a3 : ev_t (c.drop (i.toInt.toNat - p + 1)) k1 = some k') (a4 : top'.toInt + (ev_n (c.drop (i.toInt.toNat - p + 1)) : Int) ≤ 64) => recL (wd := wd) ht hc he h4 n (i + 1) top' g' k1 k' (by omega) (by omega) (by omega) a1 a2 (by rw [eN]; exact a3) (by rw [eN]; exact a4)
      rw [eN] at IH
      cases ek : ev_k o k with
      | none => rw [ek] at hty; cases hty
      | some k1 =>
        rw [ek] at hty
        have hty : ev_t (c.drop (i.toInt.toNat - p + 1)) k1 = some k' := hty
        by_cases o0 : 0 ≤ o
        · have hk1 : k1 = false :: k := (ev_k_push ek o0).1
          have hp1 : ev_p o = 1 := if_pos o0
          have q1 := p1 (by omega)
          have hl1 : k1.length = (top + 1).toInt.toNat := by rw [hk1, List.length_cons]; omega
          rw [ev_s_cons, ev_u_psh o0]
          unfold ev_v
          by_cases ol : o < 100000
          · have ex : x.toInt = 16 * o := by rw [eo]; unfold rE; rw [if_neg (by omega), if_pos o0]
            rw [if_pos (show (x &&& 15) = 0 from Int32.toInt_inj.mp (by rw [hx15, t_0]; omega)), if_pos ol]
            show ∃ g' top' i', dX12_reckons_l8 sg wd e t n (i + 1) (top + 1) (vp_updL g top.toNatClampNeg (x >>> ((4 : Int32) &&& 31)).toInt64) = _ ∧ _
            obtain ⟨g', t', i', r1, r2, r3, r4, r5⟩ := IH (top + 1) (vp_updL g top.toNatClampNeg (x >>> ((4 : Int32) &&& 31)).toInt64) k1 (by omega) hl1 hty (by omega)
            refine ⟨g', t', i', r1, ?_, r3, r4, r5⟩
            rw [r2, show (top + 1).toInt.toNat = top.toInt.toNat + 1 by omega, cl_b (b := top), hst_at rfl, to64, hx4, show x.toInt / 16 = o by omega]
          · have ex : x.toInt = 1 + 16 * (o - 100000) := by rw [eo]; unfold rE; rw [if_pos (by omega)]
            rw [if_neg (show ¬ (x &&& 15) = 0 from fun y => by rw [i32_eq, hx15, t_0] at y; omega), if_pos (show (x &&& 15) = 1 from Int32.toInt_inj.mp (by rw [hx15, t_1]; omega)), if_neg ol]
            have ew : (x >>> ((4 : Int32) &&& 31)).toNatClampNeg = (o - 100000).toNat := cl_eq (by rw [hx4]; omega)
            rw [ew]
            show ∃ g' top' i', dX12_reckons_l8 sg wd e t n (i + 1) (top + 1) (vp_updL g top.toNatClampNeg (wd (o - 100000).toNat)) = _ ∧ _
            obtain ⟨g', t', i', r1, r2, r3, r4, r5⟩ := IH (top + 1) (vp_updL g top.toNatClampNeg (wd (o - 100000).toNat)) k1 (by omega) hl1 hty (by omega)
            refine ⟨g', t', i', r1, ?_, r3, r4, r5⟩
            rw [r2, show (top + 1).toInt.toNat = top.toInt.toNat + 1 by omega, cl_b (b := top), hst_at rfl]
        · have hp0 : ev_p o = 0 := if_neg o0
          rcases ev_k_need ek (by omega) with ⟨o4, tl, ekl⟩ | ⟨o4, o16, o5, a, b, tl, ekl⟩
          · have ex : x.toInt = 11 := by rw [eo, o4]; decide
            have hk1 : k1 = true :: tl := by rw [o4, ekl, ev_k_n] at ek; cases ek; rfl
            have hl : 1 ≤ top.toInt := by rw [ekl, List.length_cons] at hk; omega
            have q1 := s1 hl
            obtain ⟨m, hm⟩ : ∃ m : Nat, top.toInt.toNat = m + 1 := ⟨top.toInt.toNat - 1, by omega⟩
            have ec : (top - 1).toNatClampNeg = m := cl_eq (by rw [q1]; omega)
            have q2 : (top - 1 + 1).toInt = top.toInt := by rw [ix_k q1 t_1 (by omega)]; omega
            rw [if_neg (show ¬ (x &&& 15) = 0 from fun y => by rw [i32_eq, hx15, t_0] at y; omega), if_neg (show ¬ (x &&& 15) = 1 from fun y => by rw [i32_eq, hx15, t_1] at y; omega), if_pos (show (x &&& 15) = 11 from Int32.toInt_inj.mp (by rw [hx15, show (11 : Int32).toInt = 11 by decide]; omega))]
            show ∃ g' top' i', dX12_reckons_l8 sg wd e t n (i + 1) (top - 1 + 1) (vp_updL g (top - 1).toNatClampNeg (1 - g (top - 1).toNatClampNeg)) = _ ∧ _
            rw [ec, hm, o4, ev_s_cons]
            obtain ⟨g', t', i', r1, r2, r3, r4, r5⟩ := IH (top - 1 + 1) (vp_updL g m (1 - g m)) k1 (by omega) (by rw [hk1, List.length_cons]; rw [ekl, List.length_cons] at hk; omega) hty (by omega)
            refine ⟨g', t', i', r1, ?_, r3, r4, r5⟩
            rw [r2, show (top - 1 + 1).toInt.toNat = m + 1 by omega, hst_at rfl]
            rfl
          · have ex : x.toInt = rC o := by rw [eo]; unfold rE; rw [if_neg (by omega), if_neg o0]
            have hrg := rC_rg (o := o) (by omega)
            have hne : ¬ rC o = 11 := fun y => o4 (hrg.2.2.mp y)
            have hl : 2 ≤ top.toInt := by rw [ekl, List.length_cons, List.length_cons] at hk; omega
            have q1 := s1 (by omega)
            have q2 : (top - 1 - 1).toInt = top.toInt - 2 := by rw [sub_toInt (by rw [t_1]; omega) (by rw [t_1]; omega), t_1]; omega
            have q3 : (top - 1 - 1 + 1).toInt = top.toInt - 1 := by rw [ix_k q2 t_1 (by omega)]; omega
            obtain ⟨m, hm⟩ : ∃ m : Nat, top.toInt.toNat = m + 2 := ⟨top.toInt.toNat - 2, by omega⟩
            have ec1 : (top - 1).toNatClampNeg = m + 1 := cl_eq (by rw [q1]; omega)
            have ec2 : (top - 1 - 1).toNatClampNeg = m := cl_eq (by rw [q2]; omega)
            have hk1 : k1.length + 1 = k.length := by
              have h2 : ∃ r, k1 = r :: tl := by
                rw [ekl] at ek
                unfold ev_k at ek
                rw [if_neg o0, if_neg o4] at ek
                split at ek
                · cases a <;> cases b <;> first | (cases ek; exact ⟨_, rfl⟩) | (cases (show none = some k1 from ek))
                · split at ek
                  · cases a <;> cases b <;> first | (cases ek; exact ⟨_, rfl⟩) | (cases (show none = some k1 from ek))
                  · split at ek
                    · cases a <;> cases b <;> first | (cases ek; exact ⟨_, rfl⟩) | (cases (show none = some k1 from ek))
                    · cases ek
              obtain ⟨r, h2⟩ := h2
              rw [h2, ekl]; rfl
            rw [if_neg (show ¬ (x &&& 15) = 0 from fun y => by rw [i32_eq, hx15, t_0] at y; omega), if_neg (show ¬ (x &&& 15) = 1 from fun y => by rw [i32_eq, hx15, t_1] at y; omega), if_neg (show ¬ (x &&& 15) = 11 from fun y => by rw [i32_eq, hx15, show (11 : Int32).toInt = 11 by decide] at y; omega)]
            show ∃ g' top' i', dX12_reckons_l8 sg wd e t n (i + 1) (top - 1 - 1 + 1) (vp_updL g (top - 1 - 1).toNatClampNeg (dX12_one (x &&& 15) (g (top - 1 - 1).toNatClampNeg) (g (top - 1).toNatClampNeg))) = _ ∧ _
            rw [ec1, ec2, hm, one_eq (o := o) ⟨o16, o5⟩ (by rw [hx15]; omega), ev_s_cons]
            obtain ⟨g', t', i', r1, r2, r3, r4, r5⟩ := IH (top - 1 - 1 + 1) (vp_updL g m (ev_r o (g m) (g (m + 1)))) k1 (by omega) (by omega) hty (by omega)
            refine ⟨g', t', i', r1, ?_, r3, r4, r5⟩
            rw [r2, show (top - 1 - 1 + 1).toInt.toNat = m + 1 by omega, hst_at rfl]
            show _ = ev_s wd _ (ev_u wd o (g (m + 1) :: g m :: hst g m))
            rw [ev_u_two (by omega) o4]
theorem reck_is {sg : Nat → Int32} {wd g8 : Nat → Int64} {x2 x3 t : Int32} {p : Nat} {c : List Int} {b : Bool} (ht : 0 ≤ t.toInt ∧ t.toInt < 6) (hc : RwE sg t.toInt.toNat p c) (h2 : x2.toInt = (p : Int)) (h3 : x3.toInt = (p : Int) + (c.length : Int)) (h4 : x3.toInt ≤ 400) (hty : ev_t c [] = some [b]) (hn : ev_n c ≤ 60) : (dX12_reckons sg g8 wd t x2 x3).1 = (ev_s wd c []).headD 0 := by
  have e0 : c.drop (x2.toInt.toNat - p) = c := by rw [show x2.toInt.toNat - p = 0 by omega]; rfl
  obtain ⟨g', t', i', r1, r2, r3, r4, r5⟩ := recL (wd := wd) ht hc h3 h4 ((x3.toInt - (x2 : Int32).toInt).toNat + 1) x2 0 g8 [] [b] (by omega) (by omega) (by omega) (by decide) (by decide) (by rw [e0]; exact hty) (by rw [e0, t_0]; omega)
  unfold dX12_reckons
  rw [r1]
  rw [e0] at r2
  have r5 : 1 = t'.toInt.toNat := r5
  rw [← r5] at r2
  have e2 : hst g8 (0 : Int32).toInt.toNat = [] := rfl
  rw [e2] at r2
  have r2 : [g' 0] = ev_s wd c [] := r2
  rw [← r2]
  show g' (t' - 1).toNatClampNeg = g' 0
  rw [cl_eq (n := 0) (by rw [sub_toInt (by rw [t_1]; omega) (by rw [t_1]; omega), t_1]; omega)]
theorem i48 {t c : Int32} (ht : 0 ≤ t.toInt ∧ t.toInt < 6) (hc : 0 ≤ c.toInt ∧ c.toInt < 12) : ((48 : Int32) * t + (4 : Int32) * c).toInt = 48 * t.toInt + 4 * c.toInt := by
  have h4 : (4 : Int32).toInt = 4 := by decide
  have h48 : (48 : Int32).toInt = 48 := by decide
  have e1 : ((48 : Int32) * t).toInt = 48 * t.toInt := by rw [mul_toInt (by rw [h48]; omega) (by rw [h48]; omega), h48]
  have e2 : ((4 : Int32) * c).toInt = 4 * c.toInt := by rw [mul_toInt (by rw [h4]; omega) (by rw [h4]; omega), h4]
  rw [ix_k e1 e2 (by omega)]
theorem rdrop {R : RuA} {i : Nat} (h : i < R.length) : R.drop i = R.getD i ([], none) :: R.drop (i + 1) := by
  rw [List.drop_eq_getElem_cons h, List.getD_eq_getElem?_getD, List.getElem?_eq_getElem h]
  rfl
theorem ru_ok_tail : ∀ {R : RuA} {x : List Int × Option (List Int)}, ru_ok (x :: R) → ru_ok R
  | _, (_, none), h => h.2.2
  | _, (_, some _), h => h.2.2.2
theorem sumsL {sg cl cs : Nat → Int32} {wd : Nat → Int64} {t : Int32} {R : RuA} (ht : 0 ≤ t.toInt ∧ t.toInt < 6) (hR : RwR sg cl cs t.toInt.toNat R) : ∀ (n : Nat) (c top : Int32) (g : Nat → Int64), 0 ≤ c.toInt → c.toInt ≤ (R.length : Int) → (R.length : Int) - c.toInt < (n : Int) → ru_ok (R.drop c.toInt.toNat) →
    (if (dX12_summedBy_l2 sg cl cs wd t n c top g).1 = 1 then (dX12_summedBy_l2 sg cl cs wd t n c top g).2.1 else 0) = ru_sum wd (R.drop c.toInt.toNat)
  | 0, c, top, g, h0, h1, hn, hk => by omega
  | n + 1, c, top, g, h0, h1, hn, hk => by
    have h12 := hR.2.1
    rw [dX12_summedBy_l2_s, cl_b (b := t)]
    by_cases z : cs t.toInt.toNat ≤ c
    · rw [if_pos z]
      rw [i32_leq, hR.1] at z
      rw [List.drop_eq_nil_of_le (by omega)]
      exact fin0
    · rw [if_neg z]
      rw [i32_leq, hR.1] at z
      have hj : c.toInt.toNat < R.length := by omega
      have e1 : (c + 1).toInt = c.toInt + 1 := by rw [ix_k rfl t_1 (by omega)]
      have eN : (c + 1).toInt.toNat = c.toInt.toNat + 1 := by omega
      have hb := i48 ht (c := c) (by omega)
      have c0 : ((48 : Int32) * t + (4 : Int32) * c).toNatClampNeg = 48 * t.toInt.toNat + 4 * c.toInt.toNat := cl_eq (by rw [hb]; omega)
      have c1 : ((48 : Int32) * t + (4 : Int32) * c + 1).toNatClampNeg = 48 * t.toInt.toNat + 4 * c.toInt.toNat + 1 := cl_eq (by rw [ix_k hb t_1 (by omega)]; omega)
      have c2 : ((48 : Int32) * t + (4 : Int32) * c + 2).toNatClampNeg = 48 * t.toInt.toNat + 4 * c.toInt.toNat + 2 := cl_eq (by rw [ix_k hb t_2 (by omega)]; omega)
      have c3 : ((48 : Int32) * t + (4 : Int32) * c + 3).toNatClampNeg = 48 * t.toInt.toNat + 4 * c.toInt.toNat + 3 := cl_eq (by rw [ix_k hb (show (3 : Int32).toInt = 3 by decide) (by omega)]; omega)
      rw [c0, c1, c2, c3]
      have hrow := hR.2.2 _ hj
      rw [rdrop hj] at hk ⊢
      have IH := fun (top' : Int32) (g' : Nat → Int64) => sumsL (wd := wd) ht hR n (c + 1) top' g' (by omega) (by omega) (by omega) (by rw [eN]; exact ru_ok_tail hk)
      rw [eN] at IH
      generalize R.getD c.toInt.toNat ([], none) = x at hrow hk ⊢
      obtain ⟨⟨p, p1, p2, p3, p4⟩, hrow2⟩ := hrow
      match x, hrow2, hk, p2, p4 with
      | (s, none), hrow2, hk, p2, p4 =>
        have hneg : cl (48 * t.toInt.toNat + 4 * c.toInt.toNat + 2) < 0 := by rw [i32_lt, t_0]; exact hrow2
        rw [if_pos hneg]
        show (if (1 : Int32) = 1 then (dX12_reckons sg g wd t (cl (48 * t.toInt.toNat + 4 * c.toInt.toNat)) (cl (48 * t.toInt.toNat + 4 * c.toInt.toNat + 1))).1 else 0) = (ev_s wd s []).headD 0
        rw [if_pos rfl]
        exact reck_is ht p4 p1 p2 p3 hk.1 hk.2.1
      | (s, some u), hrow2, hk, p2, p4 =>
        obtain ⟨q, q1, q2, q3, q4⟩ := hrow2
        have hneg : ¬ cl (48 * t.toInt.toNat + 4 * c.toInt.toNat + 2) < 0 := by rw [i32_lt, t_0, q1]; omega
        rw [if_neg hneg, reck_is ht q4 q1 q2 q3 hk.2.1 (by have := hk.2.2.1; omega)]
        show _ = if (ev_s wd u []).headD 0 = 1 then (ev_s wd s []).headD 0 else ru_sum wd (R.drop (c.toInt.toNat + 1))
        by_cases y : (ev_s wd u []).headD 0 = 1
        · rw [if_pos ((lg_cmp_eq _ _).mpr y), if_pos y]
          show (if (1 : Int32) = 1 then (dX12_reckons sg _ wd t (cl (48 * t.toInt.toNat + 4 * c.toInt.toNat)) (cl (48 * t.toInt.toNat + 4 * c.toInt.toNat + 1))).1 else 0) = _
          rw [if_pos rfl]
          exact reck_is ht p4 p1 p2 p3 hk.1 (by have := hk.2.2.1; omega)
        · rw [if_neg (fun w => y ((lg_cmp_eq _ _).mp w)), if_neg y]
          exact IH _ _
theorem sums_is {sg cl cs : Nat → Int32} {wd g : Nat → Int64} {t top : Int32} {R : RuA} (ht : 0 ≤ t.toInt ∧ t.toInt < 6) (hR : RwR sg cl cs t.toInt.toNat R) (hk : ru_ok R) : (dX12_summedBy sg cl cs g wd top t).1 = ru_sum wd R := by
  have h12 := hR.2.1
  have h := sumsL (wd := wd) ht hR ((12 - (0 : Int32).toInt).toNat + 1) 0 top g (by decide) (by rw [t_0]; omega) (by rw [t_0]; omega) hk
  have e : R.drop (0 : Int32).toInt.toNat = R := rfl
  rw [e] at h
  rw [← h]
  unfold dX12_summedBy
  by_cases z : (dX12_summedBy_l2 sg cl cs wd t ((12 - (0 : Int32).toInt).toNat + 1) 0 top g).1 = 1
  · rw [if_pos z, if_pos z]
  · rw [if_neg z, if_neg z]
set_option maxRecDepth 16384
/-! a day by a rule -/
theorem cl_l4 : (4 : Int32).toNatClampNeg = 4 := by decide
theorem cl_l5 : (5 : Int32).toNatClampNeg = 5 := by decide
theorem cl_l6 : (6 : Int32).toNatClampNeg = 6 := by decide
theorem cl_l7 : (7 : Int32).toNatClampNeg = 7 := by decide
theorem cl_l8 : (8 : Int32).toNatClampNeg = 8 := by decide
theorem cl_l9 : (9 : Int32).toNatClampNeg = 9 := by decide
theorem cl_l12 : (12 : Int32).toNatClampNeg = 12 := by decide
theorem will_r {g2 g4 g5 s : Nat → Int32} {g8 g9 : Nat → Int64} {top fo b : Int32} (g : Gs s) (h6 : 0 ≤ b.toInt ∧ b.toInt < 6) (hf : 0 ≤ fo.toInt) : ∃ W : Nat → Int64, (∀ k : Nat, k < 13 → W k = (wdI s b k).toInt64) ∧ dX12_isWilling g2 g4 g5 s g8 g9 top fo b = (if lg_cmp (dX12_summedBy g2 g4 g5 g8 W top fo).1 0 ≤ 0 then ((0 : Int32), (dX12_summedBy g2 g4 g5 g8 W top fo).2.1, (dX12_summedBy g2 g4 g5 g8 W top fo).2.2, W) else ((1 : Int32), (dX12_summedBy g2 g4 g5 g8 W top fo).2.1, (dX12_summedBy g2 g4 g5 g8 W top fo).2.2, W)) := by
  unfold dX12_isWilling
  rw [if_pos (show (0 : Int32) ≤ fo by rw [i32_leq, t_0]; exact hf)]
  refine ⟨_, ?_, rfl⟩
  intro k hk
  obtain ⟨-, -, k0, -, k10⟩ := clk g
  have hd := g.1.2.2.2.2.2
  have h2 := g.1.2.1
  have e1 : (s 10 + 1).toInt = (s 10).toInt + 1 := by rw [ix_k rfl t_1 (by omega)]
  have hs1 := still_at (s := s) (f1 := fun j => s (36 + j)) (d := s 10 + 1) (fun _ _ => rfl) h2 (by omega)
  simp only [cl_l0, cl_l1, cl_l2, cl_l3, cl_l4, cl_l5, cl_l6, cl_l7, cl_l8, cl_l9, cl_l10, cl_l11, cl_l12, rd_temper h6, rd_bought h6, rd_met h6, c56 h6, c62 h6, c36 ⟨k0, k10⟩, c36 ⟨hs1.2.1, hs1.2.2⟩]
  have hv : k = 0 ∨ k = 1 ∨ k = 2 ∨ k = 3 ∨ k = 4 ∨ k = 5 ∨ k = 6 ∨ k = 7 ∨ k = 8 ∨ k = 9 ∨ k = 10 ∨ k = 11 ∨ k = 12 := by omega
  rcases hv with rfl | rfl | rfl | rfl | rfl | rfl | rfl | rfl | rfl | rfl | rfl | rfl | rfl <;> rfl
section RDAY
variable {v0 v1 v2 v3 v4 v5 : Int32} {f1 f2 f3 f4 f5 f6 f7 f8 s : Nat → Int32}
theorem ShR.sums (h : ShR v0 v1 v2 v3 v4 v5 f1 f2 f3 f4 f5 f6 f7 f8 s) (g : Gs s) {b fo top : Int32} (hb : 0 ≤ b.toInt ∧ b.toInt < (s 3).toInt) {rf sg cl cs : Nat → Int32} {rn : Nat} {R : RuA} (hL : CdE rf (ru_fl R)) (hn : (ru_fl R).length = rn) (h4 : rn ≤ 400) (hf : 0 ≤ fo.toInt ∧ fo.toInt < 6) (hR : RwR sg cl cs fo.toInt.toNat R) (hk : ru_ok R) {W g8 hd : Nat → Int64} (hW : ∀ k : Nat, k < 13 → W k = (wdI s b k).toInt64) : (dX6_sumFor f1 f3 f4 f5 f6 f7 f8 v0 v2 v3 v4 v5 rf hd b rn).1 = (dX12_summedBy sg cl cs g8 W top fo).1 := by
  rw [sum_is hL hn h4, ru_eq R hk, sums_is hf hR hk]
  refine ru_sum_wd (fun k hk => ?_) R hk
  show dX9_wordOf f1 f3 f4 f5 f6 f7 f8 v0 v2 v3 v4 v5 (nI k) b = W k
  have hi : (nI k).toInt = (k : Int) := nI_toInt (by omega)
  rw [h.word g hb (by omega), hW k hk, show (nI k).toInt.toNat = k by omega]
end RDAY
theorem day_r {v1 v2 v3 v4 po fo : Int32} {f1 f2 f4 f5 rf sg cl cs s0 : Nat → Int32} {rn : Nat} {R : RuA} (hL : CdE rf (ru_fl R)) (hn : (ru_fl R).length = rn) (h4 : rn ≤ 400) (hf : 0 ≤ fo.toInt ∧ fo.toInt < 6) (hR : RwR sg cl cs fo.toInt.toNat R) (hk : ru_ok R) : ∀ (n : Nat) (b who v0 v5 top : Int32) (f3 f6 f8 f7 s : Nat → Int32) (hd g8 g9 : Nat → Int64), ShR v0 v1 v2 v3 v4 v5 f1 f2 f3 f4 f5 f6 f7 f8 s → Gs s → StL s0 s → po = s0 (46 + (dX12_clock s0).toInt.toNat) → 0 ≤ b.toInt → b.toInt ≤ (s 3).toInt → (s 3).toInt - b.toInt < (n : Int) →
    (∃ w a0 a5 a3 a6 a8 a7 z hd', dX9_goThroughDay_r_l44 f1 f4 f5 v2 v3 v4 rf rn po n b hd who v0 v5 f3 f6 f8 f7 = (z, hd', w, a0, a5, a3, a6, a8, a7) ∧ PsE v1 v2 v3 v4 f1 f2 f4 f5 s0 w a0 a5 a3 a6 a8 a7 (dX12_passes_l4 sg cl cs fo 0 n b top g8 g9 s who))
  | 0, b, who, v0, v5, top, f3, f6, f8, f7, s, hd, g8, g9, h, g, hst, ep, h0, h1, hm => by omega
  | n + 1, b, who, v0, v5, top, f3, f6, f8, f7, s, hd, g8, g9, h, g, hst, ep, h0, h1, hm => by
    have g3 := g.1.2.2.1
    have ec := hst.clock
    rw [dX9_goThroughDay_r_l44_s, dX12_passes_l4_s, cl_l3]
    by_cases z : s 3 ≤ b
    · rw [if_pos (show v3 ≤ b by rw [h.1.2.2.2.1]; exact z), if_pos z]
      exact ⟨_, _, _, _, _, _, _, _, _, rfl, h, g, rfl, hst⟩
    · have hb : b.toInt < (s 3).toInt := by rw [i32_leq] at z; omega
      have h6 : 0 ≤ b.toInt ∧ b.toInt < 6 := by omega
      have hn6 : b.toInt.toNat < 6 := by omega
      have e1 : (b + 1).toInt = b.toInt + 1 := by rw [ix_k rfl t_1 (by omega)]
      obtain ⟨a3, -, -, -, a7, -⟩ := h.2.2 _ hn6
      obtain ⟨W, hW, ew⟩ := will_r (g2 := sg) (g4 := cl) (g5 := cs) (g8 := g8) (g9 := g9) (top := top) (fo := fo) g h6 hf.1
      have es := h.sums (top := top) (g8 := g8) (hd := hd) g ⟨h0, hb⟩ hL hn h4 hf hR hk hW
      rw [if_neg (show ¬ v3 ≤ b by rw [h.1.2.2.2.1]; exact z), if_neg (show ¬ (6 : Int32) ≤ b by rw [i32_leq, t_6]; omega), if_neg z, h.can g ⟨h0, hb⟩, ew, es]
      have ep2 : po = s (46 + (dX12_clock s).toInt.toNat) := by rw [ep, ec, hst _ (by omega)]
      by_cases zc : dX12_canBuy s b = 0
      · rw [if_pos zc, if_pos zc]
        exact day_r hL hn h4 hf hR hk n (b + 1) who v0 v5 _ f3 f6 f8 f7 s _ _ _ h g hst ep (by omega) (by omega) (by omega)
      · rw [if_neg zc, if_neg zc]
        by_cases zw : lg_cmp (dX12_summedBy sg cl cs g8 W top fo).1 0 ≤ 0
        · rw [if_pos zw, if_pos zw, if_pos rfl]
          exact day_r hL hn h4 hf hR hk n (b + 1) who v0 v5 _ f3 f6 f8 f7 s _ _ _ h g hst ep (by omega) (by omega) (by omega)
        · rw [if_neg zw, if_neg zw, if_neg one_ne, comes_eq h6 hn6]
          by_cases zm : dX12_isMet s 0 b = 0
          · have zp : ((po >>> (b &&& 31)) &&& 1) = 0 := by rw [ep2]; exact (met_eq g).mp zm
            obtain ⟨t1, t2⟩ := h.takes g ⟨h0, hb⟩
            rw [if_pos zm, if_pos zp, if_neg one_ne, t1]
            have hs3 : tkB s b.toInt.toNat 3 = s 3 := tk_no (by omega) (by omega) (by omega) (by omega)
            exact day_r hL hn h4 hf hR hk n (b + 1) _ _ _ _ _ _ _ f7 (tkB s b.toInt.toNat) _ _ _ t2 (g.takes hn6 (can_le h6 zc)) (hst.tr (StL.tk hn6)) ep (by omega) (by rw [hs3]; omega) (by rw [hs3]; omega)
          · have zp : ¬ ((po >>> (b &&& 31)) &&& 1) = 0 := by rw [ep2]; exact fun y => zm ((met_eq g).mpr y)
            rw [if_neg zm, if_neg zp, if_pos rfl, cl_b (b := b), a7]
            have hs3 : mtB s b.toInt.toNat 3 = s 3 := mt_no (by omega) (by omega)
            have h' := h.meets hn6
            rw [← h.1.2.2.2.2.1] at h'
            exact day_r hL hn h4 hf hR hk n (b + 1) who v0 v5 _ f3 f6 _ _ (mtB s b.toInt.toNat) _ _ _ h' (g.meets hn6) (hst.tr (StL.mt hn6)) ep (by omega) (by rw [hs3]; omega) (by rw [hs3]; omega)
set_option maxRecDepth 16384
/-! a day as a whole -/
theorem sumB_eq {s t : Nat → Int32} : ∀ m : Nat, m ≤ 6 → (∀ j : Nat, j < 6 → s (13 + 4 * j) = t (13 + 4 * j)) → sumB s m = sumB t m
  | 0, _, _ => rfl
  | m + 1, hm, h => by
    show sumB s m + s (13 + 4 * m) = sumB t m + t (13 + 4 * m)
    rw [sumB_eq m (by omega) h, h m (by omega)]
/-- how the cells stand behind a day -/
def FnE (t W s' : Nat → Int32) (sh : Int32) : Prop := s' 11 = sh ∧ s' 10 = t 10 + 1 ∧ ∀ k : Nat, k ≠ 10 → k ≠ 11 → s' k = W k
section FIN
variable {v1 v2 v3 v4 a0 a5 sh : Int32} {f1 f2 f4 f5 a3 a6 a7 a8 c3 t W s' : Nat → Int32}
theorem FnE.ot (hf : FnE t W s' sh) (hw : WtE t c3 W) {k : Nat} (h1 : k ≠ 10) (h2 : k ≠ 11) (h3 : ∀ j : Nat, j < 6 → k ≠ 12 + 4 * j) : s' k = t k := (hf.2.2 k h1 h2).trans (hw.2.1 k h3)
theorem ShR.fin (h : ShR a0 v1 v2 v3 v4 a5 f1 f2 a3 f4 f5 a6 a7 a8 t) (g : Gs t) (hw : WtE t c3 W) (hf : FnE t W s' sh) : ShR sh v1 v2 v3 (v4 + 1) a5 f1 f2 c3 f4 f5 a6 a7 a8 s' := by
  have g3 := g.1.2.2.1
  have e3 : s' 3 = t 3 := hf.ot hw (by omega) (by omega) (fun j _ => by omega)
  refine ⟨⟨hf.1.symm, ?_, ?_, ?_, ?_, ?_⟩, fun k hk => ?_, fun k hk => ?_⟩
  · rw [hf.ot hw (k := 1) (by omega) (by omega) (fun j _ => by omega)]; exact h.1.2.1
  · rw [hf.ot hw (k := 2) (by omega) (by omega) (fun j _ => by omega)]; exact h.1.2.2.1
  · rw [e3]; exact h.1.2.2.2.1
  · rw [hf.2.1, h.1.2.2.2.2.1]
  · rw [e3, h.1.2.2.2.2.2]
    exact (sumB_eq _ (by omega) (fun j hj => hf.ot hw (by omega) (by omega) (fun i _ => by omega))).symm
  · rw [hf.ot hw (k := 36 + k) (by omega) (by omega) (fun j _ => by omega), hf.ot hw (k := 46 + k) (by omega) (by omega) (fun j _ => by omega)]
    exact h.2.1 k hk
  · obtain ⟨c3', c4, c5, c6, c7, c8⟩ := h.2.2 k hk
    rw [hf.2.2 (12 + 4 * k) (by omega) (by omega), hf.ot hw (k := 56 + k) (by omega) (by omega) (fun j _ => by omega), hf.ot hw (k := 62 + k) (by omega) (by omega) (fun j _ => by omega), hf.ot hw (k := 13 + 4 * k) (by omega) (by omega) (fun j _ => by omega), hf.ot hw (k := 14 + 4 * k) (by omega) (by omega) (fun j _ => by omega), hf.ot hw (k := 15 + 4 * k) (by omega) (by omega) (fun j _ => by omega)]
    exact ⟨hw.1 k hk, c4, c5, c6, c7, c8⟩
theorem Gs.fin (g : Gs t) (hd : (t 10).toInt ≤ 60) (hw : WtE t c3 W) (hf : FnE t W s' sh) (hs : 0 ≤ sh.toInt ∧ sh.toInt ≤ 99) : Gs s' ∧ (s' 10).toInt = (t 10).toInt + 1 := by
  have gd := g.1.2.2.2.2.2
  have e10 : (s' 10).toInt = (t 10).toInt + 1 := by rw [hf.2.1, ix_k rfl t_1 (by omega)]
  refine ⟨⟨?_, fun k hk => ?_⟩, e10⟩
  · rw [hf.ot hw (k := 0) (by omega) (by omega) (fun j _ => by omega), hf.ot hw (k := 2) (by omega) (by omega) (fun j _ => by omega), hf.ot hw (k := 3) (by omega) (by omega) (fun j _ => by omega), hf.ot hw (k := 1) (by omega) (by omega) (fun j _ => by omega), hf.1, e10]
    exact ⟨g.1.1, g.1.2.1, g.1.2.2.1, g.1.2.2.2.1, hs, by omega⟩
  · obtain ⟨c1, c2, c3'⟩ := g.2 k hk
    rw [hf.2.2 (12 + 4 * k) (by omega) (by omega), hf.ot hw (k := 15 + 4 * k) (by omega) (by omega) (fun j _ => by omega), hf.ot hw (k := 56 + k) (by omega) (by omega) (fun j _ => by omega), e10]
    exact ⟨hw.2.2 k hk, by omega, c3'⟩
end FIN
/-- what the text told stays by a day -/
def TlS (s t : Nat → Int32) : Prop := ∀ k : Nat, (k < 10 ∨ 36 ≤ k) → t k = s k
theorem StL.tl {s t W s' c3 : Nat → Int32} {sh : Int32} (h : StL s t) (hw : WtE t c3 W) (hf : FnE t W s' sh) : TlS s s' := fun k hk => by
  rw [hf.ot hw (by omega) (by omega) (fun j hj => by omega)]
  exact h k (by omega)
theorem hasC {n c : Int32} (h : 0 ≤ c.toInt ∧ c.toInt < n.toInt) (h10 : c.toInt < 10) : dX9_hasClock n c = 1 := by
  unfold dX9_hasClock
  rw [if_neg (by rw [i32_lt, t_0]; omega), if_neg (by rw [i32_leq]; omega), if_neg (by rw [i32_leq, t_10]; omega)]
/-- fill and day, as the reference does them -/
def fnR (W : Nat → Int32) : Nat → Int32 := if (W 10 - W 10 / 7 * 7) = 6 then (if (upd W 11 (W 11 + W 1)) 11 ≤ 99 then (upd (upd W 11 (W 11 + W 1)) 10 ((upd W 11 (W 11 + W 1)) 10 + 1)) else (upd (upd (upd W 11 (W 11 + W 1)) 11 99) 10 ((upd (upd W 11 (W 11 + W 1)) 11 99) 10 + 1))) else (upd W 10 (W 10 + 1))
def fnC (t : Nat → Int32) : Int32 := if (t 10 - t 10 / 7 * 7) = 6 then (if t 11 + t 1 < 99 then t 11 + t 1 else 99) else t 11
theorem fin_r {t W c3 : Nat → Int32} (g : Gs t) (hw : WtE t c3 W) : ∃ s' sh, fnR W = s' ∧ fnC t = sh ∧ FnE t W s' sh ∧ 0 ≤ sh.toInt ∧ sh.toInt ≤ 99 := by
  have e10 : W 10 = t 10 := hw.2.1 10 (fun j _ => by omega)
  have e11 : W 11 = t 11 := hw.2.1 11 (fun j _ => by omega)
  have e1 : W 1 = t 1 := hw.2.1 1 (fun j _ => by omega)
  have gs := g.1.2.2.2.2.1
  have gf := g.1.2.2.2.1
  have ea : (t 11 + t 1).toInt = (t 11).toInt + (t 1).toInt := by rw [ix_k rfl rfl (by omega)]
  unfold fnR fnC
  rw [e10, e11, e1, upd_at, upd_ne (f := W) (show (10 : Nat) ≠ 11 by omega), upd_ne (f := upd W 11 (t 11 + t 1)) (show (10 : Nat) ≠ 11 by omega), upd_ne (f := W) (show (10 : Nat) ≠ 11 by omega), e10]
  by_cases z : (t 10 - t 10 / 7 * 7) = 6
  · rw [if_pos z, if_pos z]
    by_cases y : t 11 + t 1 ≤ 99
    · rw [if_pos y]
      by_cases q : t 11 + t 1 < 99
      · rw [if_pos q]
        rw [i32_lt, t_99] at q
        refine ⟨_, _, rfl, rfl, ⟨?_, ?_, fun k h1 h2 => ?_⟩, by omega, by omega⟩
        · rw [upd_ne (by omega), upd_at]
        · rw [upd_at]
        · rw [upd_ne h1, upd_ne h2]
      · rw [if_neg q]
        rw [i32_lt, t_99] at q
        rw [i32_leq, t_99] at y
        refine ⟨_, _, rfl, rfl, ⟨?_, ?_, fun k h1 h2 => ?_⟩, by rw [t_99]; omega, by rw [t_99]; omega⟩
        · rw [upd_ne (by omega), upd_at]
          exact Int32.toInt_inj.mp (by rw [t_99]; omega)
        · rw [upd_at]
        · rw [upd_ne h1, upd_ne h2]
    · rw [if_neg y]
      rw [i32_leq, t_99] at y
      rw [if_neg (by rw [i32_lt, t_99]; omega)]
      refine ⟨_, _, rfl, rfl, ⟨?_, ?_, fun k h1 h2 => ?_⟩, by rw [t_99]; omega, by rw [t_99]; omega⟩
      · rw [upd_ne (by omega), upd_at]
      · rw [upd_at]
      · rw [upd_ne h1, upd_ne h2, upd_ne h2]
  · rw [if_neg z, if_neg z]
    refine ⟨_, _, rfl, rfl, ⟨?_, ?_, fun k h1 h2 => ?_⟩, gs.1, gs.2⟩
    · rw [upd_ne (by omega)]; exact e11
    · rw [upd_at]
    · rw [upd_ne h1]
theorem passes_is {g2 g4 g5 s : Nat → Int32} {g8 g9 : Nat → Int64} {top fo gd : Int32} {P : PsT} (e : dX12_passes_l4 g2 g4 g5 fo gd ((6 - (0 : Int32).toInt).toNat + 1) 0 top g8 g9 s 0 = P) : dX12_passes g2 g4 g5 s g8 g9 top fo gd = (P.2.2.2.2.2, P.2.1, P.2.2.1, P.2.2.2.1, fnR (dX12_weathers P.2.2.2.2.1)) := by
  unfold dX12_passes fnR
  rw [e, cl_l10, cl_l11, cl_l1]
  by_cases z : (dX12_weathers P.2.2.2.2.1 10 - dX12_weathers P.2.2.2.2.1 10 / 7 * 7) = 6
  · rw [if_pos z, if_pos z]
    by_cases y : upd (dX12_weathers P.2.2.2.2.1) 11 (dX12_weathers P.2.2.2.2.1 11 + dX12_weathers P.2.2.2.2.1 1) 11 ≤ 99
    · rw [if_pos y, if_pos y]
    · rw [if_neg y, if_neg y]
  · rw [if_neg z, if_neg z]
/-- the two days, by none -/
theorem full_n {v0 v1 v2 v3 v4 v5 fo top : Int32} {f1 f2 f3 f4 f5 f6 f7 f8 s g2 g4 g5 : Nat → Int32} {g8 g9 : Nat → Int64} (h : ShR v0 v1 v2 v3 v4 v5 f1 f2 f3 f4 f5 f6 f7 f8 s) (g : Gs s) (hd : (s 10).toInt ≤ 60) (hf : fo.toInt < 0) : ∃ who sh so c3 a6 a7 a8 top' h8 h9 s', dX9_goThroughDay_n f1 f2 f3 f4 f5 f6 f7 f8 v0 v1 v2 v3 v4 v5 = (who, sh, v4 + 1, so, c3, a6, a7, a8) ∧ dX12_passes g2 g4 g5 s g8 g9 top fo 0 = (who, top', h8, h9, s') ∧ ShR sh v1 v2 v3 (v4 + 1) so f1 f2 c3 f4 f5 a6 a7 a8 s' ∧ Gs s' ∧ (s' 10).toInt = (s 10).toInt + 1 ∧ TlS s s' := by
  obtain ⟨ec, ek, k0, k2, k10⟩ := clk g
  have g3 := g.1.2.2.1
  have hst := h.still g
  have hck : dX9_clockOn v2 v4 = dX12_clock s := by rw [h.1.2.2.1, h.1.2.2.2.2.1]; exact ek
  have hpo : f2 (dX9_clockOn v2 v4).toNatClampNeg = s (46 + (dX12_clock s).toInt.toNat) := by
    rw [hck]
    exact (h.2.1 (dX12_clock s).toInt.toNat (by omega)).2
  obtain ⟨w, a0, a5, a3, a6, a8, a7, z, eC, hS, gS, ew, hl⟩ := day_n (g2 := g2) (g4 := g4) (g5 := g5) hf ((6 - (0 : Int32).toInt).toNat + 1) 0 0 v0 v5 top f3 f6 f8 f7 s g8 g9 h g StL.rf rfl rfl (by decide) (by rw [t_0]; omega) (by rw [t_0]; omega)
  generalize eP : dX12_passes_l4 g2 g4 g5 fo 0 ((6 - (0 : Int32).toInt).toNat + 1) 0 top g8 g9 s 0 = P at hS gS ew hl
  have hw := weath_all gS hS.1.2.2.2.1 (fun k hk => (hS.2.2 k hk).1)
  obtain ⟨s', sh, e1, e2, hF, hs0, hs99⟩ := fin_r gS hw
  have e10 : P.2.2.2.2.1 10 = s 10 := hl 10 (by omega)
  have hg := gS.fin (by rw [e10]; exact hd) hw hF ⟨hs0, hs99⟩
  refine ⟨w, sh, a5, _, a6, a7, a8, P.2.1, P.2.2.1, P.2.2.2.1, s', ?_, ?_, hS.fin gS hw hF, hg.1, by rw [hg.2, e10], hl.tl hw hF⟩
  · unfold dX9_goThroughDay_n
    rw [hpo, hck, hasC (n := v2) ⟨k0, by rw [h.1.2.2.1]; exact k2⟩ k10, if_neg one_ne, hst, eC]
    have es : s (36 + (dX12_clock s).toInt.toNat) = P.2.2.2.2.1 (36 + (dX12_clock P.2.2.2.2.1).toInt.toNat) := by rw [hl.clock, hl _ (by omega)]
    rw [es, show v4 = P.2.2.2.2.1 10 by rw [e10]; exact h.1.2.2.2.2.1]
    by_cases q : (P.2.2.2.2.1 10 - P.2.2.2.2.1 10 / 7 * 7) = 6
    · rw [if_pos q, ← e2]
      unfold fnC
      rw [if_pos q, ← hS.1.1, ← hS.1.2.1]
    · rw [if_neg q, ← e2]
      unfold fnC
      rw [if_neg q, ← hS.1.1]
  · rw [passes_is eP, e1, ew]
def dX12_in (w1 : Int64) (w2 : Int64) (w3 : Int64) : Int32 := (if (lg_cmp w1 w2) < (0 : Int32) then (0 : Int32) else (if (0 : Int32) < (lg_cmp w1 w3) then (0 : Int32) else (1 : Int32)))
set_option maxHeartbeats 4000000 in
set_option maxRecDepth 100000 in
theorem ct_dX12_in (l : Launch) (D : va_G) (tc : Nat → ClassId) (sk : (Nat → Nat) × (Nat → Nat)) (w1 : Int64) (w2 : Int64) (w3 : Int64)  : Ct l yX12_in cX12_in 6 (some .boolean) { frames := 0, cells := 0, slots := 0, locals := 0 } D tc sk [.long w1, .long w2, .long w3] [] (fun (v : Option Value) (_ : Unit) => ∃ r : Int32, v = some (.int r) ∧ (((r.toInt = 0 ∨ (r.toInt = 1 ∧ w2.toInt ≤ w1.toInt ∧ w1.toInt ≤ w3.toInt))) ∧ r = (dX12_in w1 w2 w3))) (fun (_ : Unit) => []) 0 0 := by
  refine Ct.start (by decide) (Nat.le_of_ble_eq_true rfl) (fun p e s m below meth c A ls hx hb hr hlk hin hml hown hts hK hX hP hD hA hl hS => ?_)
  have hl : lv_has ls 6 [(0, .long w1), (2, .long w2), (4, .long w3)] := hl
  refine lv_lload_n hx hb dX12_in_0 rfl (lv_at hl 0 rfl) ?_
  refine lv_lload_n hx hb dX12_in_1 rfl (lv_at hl 1 rfl) ?_
  refine W.lcmp hx hb dX12_in_2 ?_
  refine lv_topi (fun x_1 ex_1 => ?_)
  refine lv_if_lt (tgt := 17) hx hb dX12_in_3 (by decide) (fun c_2 => ?_) (fun c_2 => ?_)
  · skip
    have lz_3 : (w1 : Int64).toInt < (w2 : Int64).toInt := by have hc := c_2; rw [ex_1] at hc; exact Int64.lt_iff_toInt_lt.mp ((lg_cmp_lt _ _).mp hc)
    refine lv_iconst (v := 0) hx hb dX12_in_17 (by decide) ?_
    have hp_4 : ((0 : Int32).toInt = 0 ∨ ((0 : Int32).toInt = 1 ∧ w2.toInt ≤ w1.toInt ∧ w1.toInt ≤ w3.toInt)) := by
      have z_1 := Int32.lt_iff_toInt_lt.mp c_2
      have y_0 : (0 : Int32).toInt = 0 := by decide
      omega
    have hF_5 : (0 : Int32) = (dX12_in w1 w2 w3) := by
      clear hP hD hS hl
      replace ex_1 := ex_1.symm; subst ex_1
      unfold dX12_in
      rw [if_pos c_2]
      try rfl
    exact retI (v := 0) hx hb hr hlk (rfl) hP hD hS () ⟨_, rfl, ⟨hp_4, hF_5⟩⟩ [] rfl rfl dX12_in_18 (Nat.le_of_ble_eq_true rfl) (Nat.le_of_ble_eq_true rfl) rfl
  · skip
    have lz_6 : (w2 : Int64).toInt ≤ (w1 : Int64).toInt := by have hc := c_2; rw [ex_1] at hc; exact Int64.le_iff_toInt_le.mp (Int64.not_lt.mp (fun z => hc ((lg_cmp_lt _ _).mpr z)))
    refine lv_lload_n hx hb dX12_in_6 rfl (lv_at hl 0 rfl) ?_
    refine lv_lload hx hb dX12_in_7 (lv_at hl 2 rfl) ?_
    refine W.lcmp hx hb dX12_in_9 ?_
    refine lv_topi (fun x_7 ex_7 => ?_)
    refine lv_if_gt (tgt := 17) hx hb dX12_in_10 (by decide) (fun c_8 => ?_) (fun c_8 => ?_)
    · skip
      have lz_9 : (w3 : Int64).toInt < (w1 : Int64).toInt := by have hc := c_8; rw [ex_7] at hc; exact Int64.lt_iff_toInt_lt.mp ((lg_cmp_gt _ _).mp hc)
      refine lv_iconst (v := 0) hx hb dX12_in_17 (by decide) ?_
      have hp_10 : ((0 : Int32).toInt = 0 ∨ ((0 : Int32).toInt = 1 ∧ w2.toInt ≤ w1.toInt ∧ w1.toInt ≤ w3.toInt)) := by
        have z_1 := Int32.le_iff_toInt_le.mp (Int32.not_lt.mp c_2)
        have z_2 := Int32.lt_iff_toInt_lt.mp c_8
        have y_0 : (0 : Int32).toInt = 0 := by decide
        omega
      have hF_11 : (0 : Int32) = (dX12_in w1 w2 w3) := by
        clear hP hD hS hl
        replace ex_1 := ex_1.symm; subst ex_1
        replace ex_7 := ex_7.symm; subst ex_7
        unfold dX12_in
        rw [if_neg c_2, if_pos c_8]
        try rfl
      exact retI (v := 0) hx hb hr hlk (rfl) hP hD hS () ⟨_, rfl, ⟨hp_10, hF_11⟩⟩ [] rfl rfl dX12_in_18 (Nat.le_of_ble_eq_true rfl) (Nat.le_of_ble_eq_true rfl) rfl
    · skip
      have lz_12 : (w1 : Int64).toInt ≤ (w3 : Int64).toInt := by have hc := c_8; rw [ex_7] at hc; exact Int64.le_iff_toInt_le.mp (Int64.not_lt.mp (fun z => hc ((lg_cmp_gt _ _).mpr z)))
      refine lv_iconst (v := 1) hx hb dX12_in_13 (by decide) ?_
      refine lv_goto (tgt := 18) hx hb dX12_in_14 (by decide) ?_
      have hp_13 : ((1 : Int32).toInt = 0 ∨ ((1 : Int32).toInt = 1 ∧ w2.toInt ≤ w1.toInt ∧ w1.toInt ≤ w3.toInt)) := by
        have z_1 := Int32.le_iff_toInt_le.mp (Int32.not_lt.mp c_2)
        have z_2 := Int32.le_iff_toInt_le.mp (Int32.not_lt.mp c_8)
        have y_0 : (0 : Int32).toInt = 0 := by decide
        have y_1 : (1 : Int32).toInt = 1 := by decide
        have yr : (1 : Int32).toInt = 1 := by decide
        omega
      have hF_14 : (1 : Int32) = (dX12_in w1 w2 w3) := by
        clear hP hD hS hl
        replace ex_1 := ex_1.symm; subst ex_1
        replace ex_7 := ex_7.symm; subst ex_7
        unfold dX12_in
        rw [if_neg c_2, if_neg c_8]
        try rfl
      exact retI (v := 1) hx hb hr hlk (rfl) hP hD hS () ⟨_, rfl, ⟨hp_13, hF_14⟩⟩ [] rfl rfl dX12_in_18 (Nat.le_of_ble_eq_true rfl) (Nat.le_of_ble_eq_true rfl) rfl
set_option maxRecDepth 16384
/-! a book's begin: the class's copy and the reference's begins -/
theorem c68 {b : Int32} (h : 0 ≤ b.toInt ∧ b.toInt < 6) : ((68 : Int32) + b).toNatClampNeg = 68 + b.toInt.toNat := cl_eq (by rw [ix_k (show (68 : Int32).toInt = 68 by decide) rfl (by omega)]; omega)
theorem c74 {b : Int32} (h : 0 ≤ b.toInt ∧ b.toInt < 10) : ((74 : Int32) + b).toNatClampNeg = 74 + b.toInt.toNat := cl_eq (by rw [ix_k (show (74 : Int32).toInt = 74 by decide) rfl (by omega)]; omega)
theorem c84 {b : Int32} (h : 0 ≤ b.toInt ∧ b.toInt < 10) : ((84 : Int32) + b).toNatClampNeg = 84 + b.toInt.toNat := cl_eq (by rw [ix_k (show (84 : Int32).toInt = 84 by decide) rfl (by omega)]; omega)
theorem cl_l94 : (94 : Int32).toNatClampNeg = 94 := by decide
def Bg1 (u t : Nat → Int32) (m : Nat) : Prop := (∀ j : Nat, j < m → t (12 + 4 * j) = u (68 + j) ∧ t (13 + 4 * j) = 0 ∧ t (14 + 4 * j) = 0 ∧ t (15 + 4 * j) = -1) ∧ ∀ k : Nat, (k < 12 ∨ 12 + 4 * m ≤ k) → t k = u k
theorem bg1_on {u t : Nat → Int32} {m : Nat} (h : Bg1 u t m) (hm : m < 6) : Bg1 u (upd (upd (upd (upd t (12 + 4 * m) (t (68 + m))) (13 + 4 * m) 0) (14 + 4 * m) 0) (15 + 4 * m) (-1)) (m + 1) := by
  have e68 : t (68 + m) = u (68 + m) := h.2 _ (by omega)
  refine ⟨fun j hj => ?_, fun k hk => ?_⟩
  · by_cases z : j = m
    · rw [z]
      refine ⟨?_, ?_, ?_, ?_⟩
      · rw [upd_ne (by omega), upd_ne (by omega), upd_ne (by omega), upd_at]; exact e68
      · rw [upd_ne (by omega), upd_ne (by omega), upd_at]
      · rw [upd_ne (by omega), upd_at]
      · rw [upd_at]
    · obtain ⟨q1, q2, q3, q4⟩ := h.1 j (by omega)
      refine ⟨?_, ?_, ?_, ?_⟩
      · rw [upd_ne (by omega), upd_ne (by omega), upd_ne (by omega), upd_ne (by omega)]; exact q1
      · rw [upd_ne (by omega), upd_ne (by omega), upd_ne (by omega), upd_ne (by omega)]; exact q2
      · rw [upd_ne (by omega), upd_ne (by omega), upd_ne (by omega), upd_ne (by omega)]; exact q3
      · rw [upd_ne (by omega), upd_ne (by omega), upd_ne (by omega), upd_ne (by omega)]; exact q4
  · rw [upd_ne (by omega), upd_ne (by omega), upd_ne (by omega), upd_ne (by omega)]; exact h.2 k (by omega)
theorem bg1L {u : Nat → Int32} : ∀ (n : Nat) (b : Int32) (t : Nat → Int32), Bg1 u t b.toInt.toNat → 0 ≤ b.toInt → b.toInt ≤ 6 → 6 - b.toInt < (n : Int) → Bg1 u (dX12_begins_l24 n b t).2 6
  | 0, b, t, h, h0, h1, hn => by omega
  | n + 1, b, t, h, h0, h1, hn => by
    rw [dX12_begins_l24_s]
    by_cases z : (6 : Int32) ≤ b
    · rw [if_pos z]
      have e : b.toInt.toNat = 6 := by rw [i32_leq, t_6] at z; omega
      rw [e] at h
      exact h
    · rw [if_neg z]
      have hb : 0 ≤ b.toInt ∧ b.toInt < 6 := by rw [i32_leq, t_6] at z; omega
      have e1 : (b + 1).toInt = b.toInt + 1 := by rw [ix_k rfl t_1 (by omega)]
      rw [c12 hb, c13 hb, c14 hb, c15 hb, c68 hb]
      refine bg1L n (b + 1) _ ?_ (by omega) (by omega) (by omega)
      rw [show (b + 1).toInt.toNat = b.toInt.toNat + 1 by omega]
      exact bg1_on h (by omega)
def Bg2 (u t : Nat → Int32) (m : Nat) : Prop := (∀ j : Nat, j < m → t (36 + j) = u (74 + j) ∧ t (46 + j) = u (84 + j)) ∧ ∀ k : Nat, (k < 36 ∨ 56 ≤ k) → t k = u k
theorem bg2_on {u t : Nat → Int32} {m : Nat} (h : Bg2 u t m) (hm : m < 10) : Bg2 u (upd (upd t (36 + m) (t (74 + m))) (46 + m) (upd t (36 + m) (t (74 + m)) (84 + m))) (m + 1) := by
  have e74 : t (74 + m) = u (74 + m) := h.2 _ (by omega)
  have e84 : upd t (36 + m) (t (74 + m)) (84 + m) = u (84 + m) := by rw [upd_ne (by omega)]; exact h.2 _ (by omega)
  rw [e84, e74]
  refine ⟨fun j hj => ?_, fun k hk => ?_⟩
  · by_cases z : j = m
    · rw [z]
      refine ⟨?_, ?_⟩
      · rw [upd_ne (by omega), upd_at]
      · rw [upd_at]
    · obtain ⟨q1, q2⟩ := h.1 j (by omega)
      refine ⟨?_, ?_⟩
      · rw [upd_ne (by omega), upd_ne (by omega)]; exact q1
      · rw [upd_ne (by omega), upd_ne (by omega)]; exact q2
  · rw [upd_ne (by omega), upd_ne (by omega)]; exact h.2 k (by omega)
theorem bg2L {u : Nat → Int32} : ∀ (n : Nat) (b : Int32) (t : Nat → Int32), Bg2 u t b.toInt.toNat → 0 ≤ b.toInt → b.toInt ≤ 10 → 10 - b.toInt < (n : Int) → Bg2 u (dX12_begins_l87 n b t).2 10
  | 0, b, t, h, h0, h1, hn => by omega
  | n + 1, b, t, h, h0, h1, hn => by
    rw [dX12_begins_l87_s]
    by_cases z : (10 : Int32) ≤ b
    · rw [if_pos z]
      have e : b.toInt.toNat = 10 := by rw [i32_leq, t_10] at z; omega
      rw [e] at h
      exact h
    · rw [if_neg z]
      have hb : 0 ≤ b.toInt ∧ b.toInt < 10 := by rw [i32_leq, t_10] at z; omega
      have e1 : (b + 1).toInt = b.toInt + 1 := by rw [ix_k rfl t_1 (by omega)]
      rw [c36 hb, c46 hb, c74 hb, c84 hb]
      refine bg2L n (b + 1) _ ?_ (by omega) (by omega) (by omega)
      rw [show (b + 1).toInt.toNat = b.toInt.toNat + 1 by omega]
      exact bg2_on h (by omega)
/-- how the reference's cells stand at the begin -/
def BgE (s t : Nat → Int32) : Prop := (t 10 = 0 ∧ t 11 = s 94) ∧ (∀ j : Nat, j < 6 → t (12 + 4 * j) = s (68 + j) ∧ t (13 + 4 * j) = 0 ∧ t (14 + 4 * j) = 0 ∧ t (15 + 4 * j) = -1) ∧ (∀ j : Nat, j < 10 → t (36 + j) = s (74 + j) ∧ t (46 + j) = s (84 + j)) ∧ ∀ k : Nat, (k < 10 ∨ 56 ≤ k) → t k = s k
theorem begins_is {s : Nat → Int32} : BgE s (dX12_begins s) := by
  unfold dX12_begins
  rw [cl_l10, cl_l11, cl_l94, upd_ne (f := s) (show (94 : Nat) ≠ 10 by omega)]
  have h1 := bg1L (u := upd (upd s 10 0) 11 (s 94)) ((6 - (0 : Int32).toInt).toNat + 1) 0 (upd (upd s 10 0) 11 (s 94)) ⟨fun j hj => absurd hj (Nat.not_lt_zero _), fun _ _ => rfl⟩ (by decide) (by decide) (by decide)
  generalize (dX12_begins_l24 ((6 - (0 : Int32).toInt).toNat + 1) 0 (upd (upd s 10 0) 11 (s 94))).2 = t at h1 ⊢
  have h2 := bg2L (u := t) ((10 - (0 : Int32).toInt).toNat + 1) 0 t ⟨fun j hj => absurd hj (Nat.not_lt_zero _), fun _ _ => rfl⟩ (by decide) (by decide) (by decide)
  generalize (dX12_begins_l87 ((10 - (0 : Int32).toInt).toNat + 1) 0 t).2 = w at h2 ⊢
  have ot : ∀ k : Nat, k ≠ 10 → k ≠ 11 → upd (upd s 10 0) 11 (s 94) k = s k := fun k a b => by rw [upd_ne b, upd_ne a]
  refine ⟨⟨?_, ?_⟩, fun j hj => ?_, fun j hj => ?_, fun k hk => ?_⟩
  · rw [h2.2 10 (by omega), h1.2 10 (by omega), upd_ne (by omega), upd_at]
  · rw [h2.2 11 (by omega), h1.2 11 (by omega), upd_at]
  · obtain ⟨q1, q2, q3, q4⟩ := h1.1 j hj
    rw [h2.2 (12 + 4 * j) (by omega), h2.2 (13 + 4 * j) (by omega), h2.2 (14 + 4 * j) (by omega), h2.2 (15 + 4 * j) (by omega), q1, q2, q3, q4, ot _ (by omega) (by omega)]
    exact ⟨rfl, rfl, rfl, rfl⟩
  · obtain ⟨q1, q2⟩ := h2.1 j hj
    rw [q1, q2, h1.2 (74 + j) (by omega), h1.2 (84 + j) (by omega), ot _ (by omega) (by omega), ot _ (by omega) (by omega)]
    exact ⟨rfl, rfl⟩
  · rw [h2.2 k (by omega), h1.2 k (by omega), ot k (by omega) (by omega)]
/-- the class's shop as told, the reference's cells -/
def BgC (v0 v1 v2 v3 v4 v5 : Int32) (f1 f2 f3 f4 f5 f6 f7 f8 s : Nat → Int32) : Prop := (v0 = s 94 ∧ v1 = s 1 ∧ v2 = s 2 ∧ v3 = s 3 ∧ v4 = 0 ∧ v5 = 0) ∧ (∀ k : Nat, k < 10 → f1 k = s (74 + k) ∧ f2 k = s (84 + k)) ∧ ∀ b : Nat, b < 6 → f3 b = s (68 + b) ∧ f4 b = s (56 + b) ∧ f5 b = s (62 + b) ∧ f6 b = 0 ∧ f7 b = 0 ∧ f8 b = -1
/-- what the told cells may be -/
def GsB (s : Nat → Int32) : Prop := (s 0 = 1 ∧ (1 ≤ (s 2).toInt ∧ (s 2).toInt ≤ 10) ∧ (0 ≤ (s 3).toInt ∧ (s 3).toInt ≤ 6) ∧ (0 ≤ (s 1).toInt ∧ (s 1).toInt ≤ 9) ∧ (0 ≤ (s 94).toInt ∧ (s 94).toInt ≤ 99)) ∧ ∀ b : Nat, b < 6 → (0 ≤ (s (68 + b)).toInt ∧ (s (68 + b)).toInt ≤ 20) ∧ (0 ≤ (s (56 + b)).toInt ∧ (s (56 + b)).toInt ≤ 9)
/-- the told cells stay -/
def Tl6 (s t : Nat → Int32) : Prop := ∀ k : Nat, (k < 10 ∨ 56 ≤ k) → t k = s k
theorem TlS.six {s t : Nat → Int32} (h : TlS s t) : Tl6 s t := fun k hk => h k (by omega)
theorem Tl6.tr {s t u : Nat → Int32} (h : Tl6 s t) (h2 : Tl6 t u) : Tl6 s u := fun k hk => (h2 k hk).trans (h k hk)
theorem BgE.six {s t : Nat → Int32} (h : BgE s t) : Tl6 s t := h.2.2.2
theorem GsB.tl {s t : Nat → Int32} (g : GsB s) (h : Tl6 s t) : GsB t := by
  refine ⟨?_, fun b hb => ?_⟩
  · rw [h 0 (by omega), h 1 (by omega), h 2 (by omega), h 3 (by omega), h 94 (by omega)]; exact g.1
  · rw [h (68 + b) (by omega), h (56 + b) (by omega)]; exact g.2 b hb
theorem BgC.tl {v0 v1 v2 v3 v4 v5 : Int32} {f1 f2 f3 f4 f5 f6 f7 f8 s t : Nat → Int32} (c : BgC v0 v1 v2 v3 v4 v5 f1 f2 f3 f4 f5 f6 f7 f8 s) (h : Tl6 s t) : BgC v0 v1 v2 v3 v4 v5 f1 f2 f3 f4 f5 f6 f7 f8 t := by
  refine ⟨?_, fun k hk => ?_, fun b hb => ?_⟩
  · rw [h 1 (by omega), h 2 (by omega), h 3 (by omega), h 94 (by omega)]; exact c.1
  · rw [h (74 + k) (by omega), h (84 + k) (by omega)]; exact c.2.1 k hk
  · rw [h (68 + b) (by omega), h (56 + b) (by omega), h (62 + b) (by omega)]; exact c.2.2 b hb
theorem GsB.begin {s t : Nat → Int32} (g : GsB s) (h : BgE s t) : Gs t ∧ (t 10).toInt = 0 := by
  have e10 : (t 10).toInt = 0 := by rw [h.1.1, t_0]
  refine ⟨⟨?_, fun b hb => ?_⟩, e10⟩
  · rw [h.2.2.2 0 (by omega), h.2.2.2 2 (by omega), h.2.2.2 3 (by omega), h.2.2.2 1 (by omega), h.1.2, e10]
    exact ⟨g.1.1, g.1.2.1, g.1.2.2.1, g.1.2.2.2.1, g.1.2.2.2.2, by omega⟩
  · obtain ⟨q1, -, -, q4⟩ := h.2.1 b hb
    rw [q1, q4, h.2.2.2 (56 + b) (by omega), e10, t_m1]
    exact ⟨(g.2 b hb).1, by omega, (g.2 b hb).2⟩
theorem cpy10 {f g : Nat → Int32} {k : Nat} (h : k < 10) : va_cpy f g ((0 : Int32)).toNatClampNeg ((0 : Int32)).toNatClampNeg ((10 : Int32)).toNatClampNeg k = f k := by
  rw [cl_l0, cl_l10]
  unfold va_cpy
  rw [if_pos (show 0 ≤ k ∧ k < 0 + 10 by omega), show 0 + (k - 0) = k by omega]
theorem cpy6 {f g : Nat → Int32} {k : Nat} (h : k < 6) : va_cpy f g ((0 : Int32)).toNatClampNeg ((0 : Int32)).toNatClampNeg ((6 : Int32)).toNatClampNeg k = f k := by
  rw [cl_l0, cl_l6]
  unfold va_cpy
  rw [if_pos (show 0 ≤ k ∧ k < 0 + 6 by omega), show 0 + (k - 0) = k by omega]
theorem sumB_0 {s : Nat → Int32} (h : ∀ j : Nat, j < 6 → s (13 + 4 * j) = 0) : ∀ m : Nat, m ≤ 6 → sumB s m = 0
  | 0, _ => rfl
  | m + 1, hm => by
    show sumB s m + s (13 + 4 * m) = 0
    rw [sumB_0 h m (by omega), h m (by omega)]
    rfl
section BEG
variable {v0 v1 v2 v3 v4 v5 : Int32} {f1 f2 f3 f4 f5 f6 f7 f8 y1 y2 y3 y4 y5 y6 y7 y8 s t : Nat → Int32}
theorem BgC.begin (c : BgC v0 v1 v2 v3 v4 v5 f1 f2 f3 f4 f5 f6 f7 f8 s) (g : GsB s) (h : BgE s t) : ShR v0 v1 v2 v3 v4 v5 (dX9_copyFrom y1 y2 y3 y4 y5 y6 y7 y8 f1 f2 f3 f4 f5 f6 f7 f8).1 (dX9_copyFrom y1 y2 y3 y4 y5 y6 y7 y8 f1 f2 f3 f4 f5 f6 f7 f8).2.1 (dX9_copyFrom y1 y2 y3 y4 y5 y6 y7 y8 f1 f2 f3 f4 f5 f6 f7 f8).2.2.1 (dX9_copyFrom y1 y2 y3 y4 y5 y6 y7 y8 f1 f2 f3 f4 f5 f6 f7 f8).2.2.2.1 (dX9_copyFrom y1 y2 y3 y4 y5 y6 y7 y8 f1 f2 f3 f4 f5 f6 f7 f8).2.2.2.2.1 (dX9_copyFrom y1 y2 y3 y4 y5 y6 y7 y8 f1 f2 f3 f4 f5 f6 f7 f8).2.2.2.2.2.1 (dX9_copyFrom y1 y2 y3 y4 y5 y6 y7 y8 f1 f2 f3 f4 f5 f6 f7 f8).2.2.2.2.2.2.1 (dX9_copyFrom y1 y2 y3 y4 y5 y6 y7 y8 f1 f2 f3 f4 f5 f6 f7 f8).2.2.2.2.2.2.2 t := by
  have g3 := g.1.2.2.1
  refine ⟨⟨?_, ?_, ?_, ?_, ?_, ?_⟩, fun k hk => ?_, fun b hb => ?_⟩
  · rw [h.1.2]; exact c.1.1
  · rw [h.2.2.2 1 (by omega)]; exact c.1.2.1
  · rw [h.2.2.2 2 (by omega)]; exact c.1.2.2.1
  · rw [h.2.2.2 3 (by omega)]; exact c.1.2.2.2.1
  · rw [h.1.1]; exact c.1.2.2.2.2.1
  · rw [h.2.2.2 3 (by omega), c.1.2.2.2.2.2]
    exact (sumB_0 (fun j hj => (h.2.1 j hj).2.1) _ (by omega)).symm
  · obtain ⟨q1, q2⟩ := h.2.2.1 k hk
    rw [q1, q2]
    exact ⟨(cpy10 hk).trans (c.2.1 k hk).1, (cpy10 hk).trans (c.2.1 k hk).2⟩
  · obtain ⟨q1, q2, q3, q4⟩ := h.2.1 b hb
    obtain ⟨p3, p4, p5, p6, p7, p8⟩ := c.2.2 b hb
    rw [q1, q2, q3, q4, h.2.2.2 (56 + b) (by omega), h.2.2.2 (62 + b) (by omega)]
    exact ⟨(cpy6 hb).trans p3, (cpy6 hb).trans p4, (cpy6 hb).trans p5, (cpy6 hb).trans p6, (cpy6 hb).trans p7, (cpy6 hb).trans p8⟩
end BEG
set_option maxRecDepth 16384
/-! the class's readers of rules: what they write down (r: what has been read so far) -/
def CdK (f : Nat → Int32) (u : Int32) (r : Except Int (Nat × Nat)) (L : List Int) : Prop := ∀ s, r = .ok s → L.length ≤ 400 → u.toInt = (L.length : Int) ∧ CdE f L
/-- what is written behind a list, by what stands there -/
def Ap (r : Except Int (Nat × Nat)) (F : Nat × Nat → List Int) (L : List Int) : List Int := match r with
  | .ok s => L ++ F s
  | .error _ => L
def lval (B : Nat → Int) (s : Nat × Nat) : List Int := [ec_v B s.1]
def lsum (B : Nat → Int) (s : Nat × Nat) : List Int := ec_sum B s.1
def ltst (B : Nat → Int) (m : Nat) (s : Nat × Nat) : List Int := ec_tst B (pz_fact B m) (ec_fact B m) s
theorem pz_b_in {S T : Type} {r : Except Int S} {g : S → Except Int T} {t : T} (h : pz_b r g = .ok t) : ∃ s, r = .ok s ∧ g s = .ok t := by
  cases r with
  | error e => cases h
  | ok s => exact ⟨s, rfl, h⟩
section CDK
variable {f f' : Nat → Int32} {u u' x : Int32} {r q R : Except Int (Nat × Nat)} {L L' : List Int} {B : Nat → Int}
theorem CdK.b {g : Nat × Nat → Except Int (Nat × Nat)} (h : CdK f u r L) : CdK f u (pz_b r g) L := fun t ht hl => by
  obtain ⟨s, hs, -⟩ := pz_b_in ht
  exact h s hs hl
theorem CdK.nx (h : CdK f u r L) : CdK f u (rNX B r) L := CdK.b h
theorem CdK.sk (h : CdK f u r L) : CdK f u (rSK B r) L := CdK.b h
theorem CdK.nu {lo hi : Int} (h : CdK f u r L) : CdK f u (rNU B lo hi r) L := CdK.b h
theorem CdK.c1 (h : CdK f u r L) : CdK f u (rC1 r) L := CdK.b h
theorem CdK.en (h : CdK f u r L) : CdK f u (rEN B r) L := CdK.b h
theorem CdK.rb (h : CdK f u r L) : CdK f u (pz_b r (pz_rb B)) L := CdK.b h
theorem CdK.er {k : Int} : CdK f u (rER k r) L := fun s hs => by cases r <;> cases hs
theorem CdK.nil (hu : u.toInt = 0) : CdK f u r [] := fun _ _ _ => ⟨hu, fun i hi => absurd hi (Nat.not_lt_zero i)⟩
theorem CdE.put (h : CdE f L) (e : f' = upd f L.length x) : CdE f' (L ++ [x.toInt]) := fun i hi => by
  rw [List.length_append, List.length_singleton] at hi
  by_cases z : i < L.length
  · rw [e, upd_ne (by omega), List.getD_eq_getElem?_getD, List.getElem?_append_left z, ← List.getD_eq_getElem?_getD]
    exact h i z
  · have ei : i = L.length := by omega
    rw [e, ei, upd_at, List.getD_eq_getElem?_getD, List.getElem?_append_right (Nat.le_refl _), Nat.sub_self]
    rfl
theorem CdK.put (h : CdK f u r L) (e : f' = upd f u.toNatClampNeg x) (hu : u'.toInt = u.toInt + 1) : CdK f' u' r (L ++ [x.toInt]) := fun s hs hl => by
  rw [List.length_append, List.length_singleton] at hl
  obtain ⟨h1, h2⟩ := h s hs (by omega)
  have eu : u.toNatClampNeg = L.length := by
    show u.toInt.toNat = _
    omega
  rw [eu] at e
  refine ⟨?_, h2.put e⟩
  rw [List.length_append, List.length_singleton]
  omega
theorem CdK.full (h : CdK f u r L) (hu : 400 ≤ u.toInt) : CdK f u r (L ++ [x.toInt]) := fun s hs hl => by
  rw [List.length_append, List.length_singleton] at hl
  have := (h s hs (by omega)).1
  omega
theorem CdK.to (h : CdK f u q L) (e : R = q) (hl : ∀ t, R = .ok t → L' = L) : CdK f u R L' := fun t ht hn => by
  rw [hl t ht] at hn ⊢
  exact h t (e.symm.trans ht) hn
end CDK
/-! a value -/
theorem waR_rg {B : Nat → Int} {r : Except Int (Nat × Nat)} : -1 ≤ waR B (wL 2) 0 r ∧ waR B (wL 2) 0 r ≤ 12 := by
  rw [wL2]
  cases r with
  | error e => show (-1 : Int) ≤ -1 ∧ (-1 : Int) ≤ 12; omega
  | ok s =>
    have h2 := pz_wa_ge0 (B := B) (p := s.1) pz_words 0 (Int.le_refl _)
    have h3 := pz_wa_lt (B := B) (p := s.1) pz_words 0 (Int.le_refl _)
    have h4 : (pz_words.length : Int) = 13 := by decide
    show -1 ≤ pz_wa B s.1 pz_words 0 ∧ pz_wa B s.1 pz_words 0 ≤ 12
    omega
section VL
variable {f : Nat → Int32} {n : Int32} {r : Except Int (Nat × Nat)} {a b c d x : Int32} {ll : List Int}
theorem vl_dig (h : TpR f n r a b c d) (hc : 48 ≤ c.toInt ∧ c.toInt ≤ 57) (hv : NuV (cB f n) 0 99999 r x) : ∀ t, pz_b r (pz_val (cB f n)) = .ok t → Ap r (lval (cB f n)) ll = ll ++ [x.toInt] := fun t ht => by
  obtain ⟨s, rfl, hs⟩ := pz_b_in ht
  have h3 := h.2.2.2
  have hd : pz_isD (cB f n s.1) = true := decide_eq_true (by rw [← h3]; exact hc)
  unfold pz_val at hs
  rw [if_pos hd] at hs
  cases e : pz_num (cB f n) 0 99999 s.1 with
  | error z => rw [e] at hs; cases hs
  | ok v =>
    have hx := hv s v rfl e
    have h2 := (pz_num_v e).1
    show ll ++ [ec_v (cB f n) s.1] = ll ++ [x.toInt]
    rw [show ec_v (cB f n) s.1 = pz_nv (cB f n) s.1 (pz_te (cB f n) s.1 - s.1) from if_pos hd, hx, h2]
theorem vl_wd {w : Int32} (h : TpR f n r a b c d) (hc : ¬ (48 ≤ c.toInt ∧ c.toInt ≤ 57)) (hw : w.toInt = waR (cB f n) (wL 2) 0 r) (hx : x.toInt = 100000 + w.toInt) : ∀ t, pz_b r (pz_val (cB f n)) = .ok t → Ap r (lval (cB f n)) ll = ll ++ [x.toInt] := fun t ht => by
  obtain ⟨s, rfl, hs⟩ := pz_b_in ht
  have h3 := h.2.2.2
  have hd : ¬ pz_isD (cB f n s.1) = true := fun z => hc (by rw [h3]; exact of_decide_eq_true z)
  rw [wL2] at hw
  have hw : w.toInt = pz_wa (cB f n) s.1 pz_words 0 := hw
  show ll ++ [ec_v (cB f n) s.1] = ll ++ [x.toInt]
  rw [show ec_v (cB f n) s.1 = 100000 + pz_wa (cB f n) s.1 pz_words 0 from if_neg hd, hx, hw]
theorem vl_no {B : Nat → Int} {L' : List Int} (e : pz_b r (pz_val B) = rNX B (rC1 (rER 0 r))) : ∀ t, pz_b r (pz_val B) = .ok t → Ap r (lval B) ll = L' := fun t ht => by
  rw [e] at ht
  exfalso
  cases r <;> cases ht
end VL
/-! a sum -/
def SmC (f : Nat → Int32) (n : Int32) (R : Except Int (Nat × Nat)) (a b c d ct i : Int32) (cf : Nat → Int32) (cu w : Int32) (FL : List Int) : Prop := ∃ q, TpR f n q a b c d ∧ Ctd q ct ∧ R = pz_b q (pz_lp (pz_sF (cB f n))) ∧ (∀ s, q = .ok s → i.toInt ≤ (s.1 : Int)) ∧ ∃ L, CdK cf cu q L ∧ ∀ s, q = .ok s → FL = L ++ ec_sL (cB f n) s.1 w.toInt
section SMC
variable {f : Nat → Int32} {n : Int32} {r q R : Except Int (Nat × Nat)} {a b c d a' b' c' d' ct i i' : Int32} {cf : Nat → Int32} {cu w sg : Int32} {L FL ll : List Int}
theorem m1_t : (-1 : Int32).toInt = -1 := by decide
theorem SmC.first (h : TpR f n (pz_b r (pz_val (cB f n))) a b c d) (hc : Ctd (pz_b r (pz_val (cB f n))) ct) (hk : CdK cf cu (pz_b r (pz_val (cB f n))) (Ap r (lval (cB f n)) ll)) : SmC f n (pz_b r (pz_sum (cB f n))) a b c d ct 0 cf cu (-1) (Ap r (lsum (cB f n)) ll) := by
  refine ⟨_, h, hc, by cases r <;> rfl, fun s _ => Int.natCast_nonneg s.1, _, hk, fun t ht => ?_⟩
  obtain ⟨s, rfl, hs⟩ := pz_b_in ht
  have h1 := (pz_val_ok hs).1
  show ll ++ ec_sum (cB f n) s.1 = (ll ++ [ec_v (cB f n) s.1]) ++ ec_sL (cB f n) t.1 (-1 : Int32).toInt
  rw [h1, List.append_assoc, m1_t]
  rfl
/-- what stands behind an operator's value -/
theorem sm_bd (hq : TpR f n q a b c d) (hi : ∀ s, q = .ok s → i.toInt ≤ (s.1 : Int)) (hc : c.toInt = 43 ∨ c.toInt = 45 ∨ c.toInt = 42 ∨ c.toInt = 47 ∨ c.toInt = 37) (hi' : i'.toInt = i.toInt + 1) : ∀ t, pz_b (rNX (cB f n) q) (pz_val (cB f n)) = .ok t → i'.toInt ≤ (t.1 : Int) := fun t ht => by
  obtain ⟨s, rfl, h0, h1, h2, h3⟩ := hq.okc (by omega)
  have e1 := hi s rfl
  have e2 := (pz_val_gt (show pz_val (cB f n) (pz_nx (cB f n) s) = .ok t from ht)).2
  have e3 := pz_nt_gt (B := cB f n) (p := s.1) (by omega)
  have e4 : (pz_nx (cB f n) s).1 = pz_nt (cB f n) s.1 := rfl
  omega
theorem ec_o_op {x : Int} (h : ¬ ec_o x = -1) : x = 43 ∨ x = 45 ∨ x = 42 ∨ x = 47 ∨ x = 37 := by
  by_cases z : x = 43 ∨ x = 45 ∨ x = 42 ∨ x = 47 ∨ x = 37
  · exact z
  · exact absurd (ec_o_no.mpr z) h
theorem sm_at (hq : TpR f n q a b c d) (hsg : sg.toInt = ec_o c.toInt) (hne : ¬ sg.toInt = -1) : ∀ t, pz_b (rNX (cB f n) q) (pz_val (cB f n)) = .ok t → ∃ s, q = .ok s ∧ ec_o (cB f n s.1) = sg.toInt ∧ t.1 = pz_nt (cB f n) (pz_nt (cB f n) s.1) := fun t ht => by
  have ho := ec_o_op (x := c.toInt) (by omega)
  obtain ⟨s, rfl, h0, h1, h2, h3⟩ := hq.okc (by omega)
  refine ⟨s, rfl, by rw [← h3]; exact hsg.symm, ?_⟩
  have hv := (pz_val_ok (show pz_val (cB f n) (pz_nx (cB f n) s) = .ok t from ht)).1
  rw [hv]
  rfl
theorem SmC.pm0 (hn : n.toInt ≤ 400) (hq : TpR f n q a b c d) (hR : R = pz_b q (pz_lp (pz_sF (cB f n)))) (hi : ∀ s, q = .ok s → i.toInt ≤ (s.1 : Int)) (hL : ∀ s, q = .ok s → FL = L ++ ec_sL (cB f n) s.1 w.toInt) (hw : w.toInt = -1) (hsg : sg.toInt = ec_o c.toInt) (h12 : sg.toInt = -12 ∨ sg.toInt = -13) (h : TpR f n (pz_b (rNX (cB f n) q) (pz_val (cB f n))) a' b' c' d') (hct : Ctd (pz_b (rNX (cB f n) q) (pz_val (cB f n))) ct) (hk : CdK cf cu (pz_b (rNX (cB f n) q) (pz_val (cB f n))) (Ap (rNX (cB f n) q) (lval (cB f n)) L)) (hi' : i'.toInt = i.toInt + 1) : SmC f n R a' b' c' d' ct i' cf cu sg FL := by
  have hc := ec_o_op (x := c.toInt) (by omega)
  refine ⟨_, h, hct, hR.trans (sum_turn hn hq hc), sm_bd hq hi hc hi', _, hk, fun t ht => ?_⟩
  obtain ⟨s, rfl, e1, e2⟩ := sm_at hq hsg (by omega) t ht
  rw [hL s rfl, hw, ec_sL_pm (cB_fi hn) (by rw [e1]; exact h12), e1, e2]
  show L ++ ([] ++ ec_v (cB f n) (pz_nt (cB f n) s.1) :: _) = (L ++ [ec_v (cB f n) (pz_nt (cB f n) s.1)]) ++ _
  rw [List.append_assoc]
  rfl
theorem SmC.pm1 (hn : n.toInt ≤ 400) (hq : TpR f n q a b c d) (hR : R = pz_b q (pz_lp (pz_sF (cB f n)))) (hi : ∀ s, q = .ok s → i.toInt ≤ (s.1 : Int)) (hL : ∀ s, q = .ok s → FL = L ++ ec_sL (cB f n) s.1 w.toInt) (hw : ¬ w.toInt = -1) (hsg : sg.toInt = ec_o c.toInt) (h12 : sg.toInt = -12 ∨ sg.toInt = -13) (h : TpR f n (pz_b (rNX (cB f n) q) (pz_val (cB f n))) a' b' c' d') (hct : Ctd (pz_b (rNX (cB f n) q) (pz_val (cB f n))) ct) (hk : CdK cf cu (pz_b (rNX (cB f n) q) (pz_val (cB f n))) (Ap (rNX (cB f n) q) (lval (cB f n)) (L ++ [w.toInt]))) (hi' : i'.toInt = i.toInt + 1) : SmC f n R a' b' c' d' ct i' cf cu sg FL := by
  have hc := ec_o_op (x := c.toInt) (by omega)
  refine ⟨_, h, hct, hR.trans (sum_turn hn hq hc), sm_bd hq hi hc hi', _, hk, fun t ht => ?_⟩
  obtain ⟨s, rfl, e1, e2⟩ := sm_at hq hsg (by omega) t ht
  rw [hL s rfl, ec_sL_pm (cB_fi hn) (by rw [e1]; exact h12), e1, e2, show ec_w w.toInt = [w.toInt] from if_neg hw]
  show L ++ ([w.toInt] ++ ec_v (cB f n) (pz_nt (cB f n) s.1) :: _) = ((L ++ [w.toInt]) ++ [ec_v (cB f n) (pz_nt (cB f n) s.1)]) ++ _
  rw [List.append_assoc, List.append_assoc]
  rfl
theorem SmC.td (hn : n.toInt ≤ 400) (hq : TpR f n q a b c d) (hR : R = pz_b q (pz_lp (pz_sF (cB f n)))) (hi : ∀ s, q = .ok s → i.toInt ≤ (s.1 : Int)) (hL : ∀ s, q = .ok s → FL = L ++ ec_sL (cB f n) s.1 w.toInt) (hsg : sg.toInt = ec_o c.toInt) (hne : ¬ sg.toInt = -1) (h12 : ¬ (sg.toInt = -12 ∨ sg.toInt = -13)) (h : TpR f n (pz_b (rNX (cB f n) q) (pz_val (cB f n))) a' b' c' d') (hct : Ctd (pz_b (rNX (cB f n) q) (pz_val (cB f n))) ct) (hk : CdK cf cu (pz_b (rNX (cB f n) q) (pz_val (cB f n))) (Ap (rNX (cB f n) q) (lval (cB f n)) L ++ [sg.toInt])) (hi' : i'.toInt = i.toInt + 1) : SmC f n R a' b' c' d' ct i' cf cu w FL := by
  have hc := ec_o_op (x := c.toInt) (by omega)
  refine ⟨_, h, hct, hR.trans (sum_turn hn hq hc), sm_bd hq hi hc hi', _, hk, fun t ht => ?_⟩
  obtain ⟨s, rfl, e1, e2⟩ := sm_at hq hsg hne t ht
  rw [hL s rfl, ec_sL_td (cB_fi hn) (by rw [e1]; exact hne) (by rw [e1]; exact h12), e1, e2]
  show L ++ (ec_v (cB f n) (pz_nt (cB f n) s.1) :: sg.toInt :: _) = ((L ++ [ec_v (cB f n) (pz_nt (cB f n) s.1)]) ++ [sg.toInt]) ++ _
  rw [List.append_assoc, List.append_assoc]
  rfl
theorem sm_no (hn : n.toInt ≤ 400) (hq : TpR f n q a b c d) (hi : ∀ s, q = .ok s → i.toInt ≤ (s.1 : Int)) (hx : 400 ≤ i.toInt ∨ ¬ (c.toInt = 43 ∨ c.toInt = 45 ∨ c.toInt = 42 ∨ c.toInt = 47 ∨ c.toInt = 37)) : ∀ s, q = .ok s → ec_o (cB f n s.1) = -1 := fun s hs => by
  subst hs
  have h3 := hq.2.2.2
  rcases hx with hx | hx
  · have h4 := hi s rfl
    rw [cB_out (by omega)]
    decide
  · rw [← h3]; exact ec_o_no.mpr hx
theorem SmC.end0 (hn : n.toInt ≤ 400) (hq : TpR f n q a b c d) (hR : R = pz_b q (pz_lp (pz_sF (cB f n)))) (hi : ∀ s, q = .ok s → i.toInt ≤ (s.1 : Int)) (hL : ∀ s, q = .ok s → FL = L ++ ec_sL (cB f n) s.1 w.toInt) (hw : w.toInt = -1) (hx : 400 ≤ i.toInt ∨ ¬ (c.toInt = 43 ∨ c.toInt = 45 ∨ c.toInt = 42 ∨ c.toInt = 47 ∨ c.toInt = 37)) (hk : CdK cf cu q L) : CdK cf cu R FL := by
  have e := hR.trans (sum_end hn hq hi hx)
  refine CdK.to hk e (fun t ht => ?_)
  have hq2 := e.symm.trans ht
  rw [hL t hq2, ec_sL_no (sm_no hn hq hi hx t hq2), hw]
  exact List.append_nil L
theorem SmC.end1 (hn : n.toInt ≤ 400) (hq : TpR f n q a b c d) (hR : R = pz_b q (pz_lp (pz_sF (cB f n)))) (hi : ∀ s, q = .ok s → i.toInt ≤ (s.1 : Int)) (hL : ∀ s, q = .ok s → FL = L ++ ec_sL (cB f n) s.1 w.toInt) (hw : ¬ w.toInt = -1) (hx : 400 ≤ i.toInt ∨ ¬ (c.toInt = 43 ∨ c.toInt = 45 ∨ c.toInt = 42 ∨ c.toInt = 47 ∨ c.toInt = 37)) (hk : CdK cf cu q (L ++ [w.toInt])) : CdK cf cu R FL := by
  have e := hR.trans (sum_end hn hq hi hx)
  refine CdK.to hk e (fun t ht => ?_)
  have hq2 := e.symm.trans ht
  rw [hL t hq2, ec_sL_no (sm_no hn hq hi hx t hq2), show ec_w w.toInt = [w.toInt] from if_neg hw]
end SMC
/-! a fact -/
def ec_cc (c l : Int) : Int := if c = 60 then (if l = 2 then -8 else -7) else if c = 61 then -9 else (if l = 2 then -10 else -11)
section FCC
variable {f : Nat → Int32} {n : Int32} {r : Except Int (Nat × Nat)} {a b c d x : Int32} {ll : List Int} {B : Nat → Int} {m : Nat}
theorem ec_cc_is {s : Nat × Nat} (h : TpR f n (.ok s) a b c d) : ec_cc c.toInt (b.toInt - a.toInt) = ec_c (cB f n) s.1 := by
  have h1 := h.2.1
  have h2 := h.2.2.1
  have h3 := h.2.2.2
  unfold ec_cc ec_c
  rw [h3]
  by_cases z : pz_te (cB f n) s.1 = s.1 + 2
  · rw [if_pos (show b.toInt - a.toInt = 2 by omega), if_pos z, if_pos (show b.toInt - a.toInt = 2 by omega), if_pos z]
  · rw [if_neg (show ¬ b.toInt - a.toInt = 2 by omega), if_neg z, if_neg (show ¬ b.toInt - a.toInt = 2 by omega), if_neg z]
/-- a comparison, written down -/
theorem fl_com {q1 : Except Int (Nat × Nat)} (h1 : NWd (cB f n) pz_not r) (h2 : NSg (cB f n) 91 r) (e1 : q1 = pz_b r (pz_sum (cB f n))) (hq : TpR f n q1 a b c d) (hc : 60 ≤ c.toInt ∧ c.toInt ≤ 62) (hx : x.toInt = ec_cc c.toInt (b.toInt - a.toInt)) : ∀ t, pz_b r (pz_fact (cB f n) m) = .ok t → Ap r (ec_fact (cB f n) m) ll = Ap (rNX (cB f n) (rC1 q1)) (lsum (cB f n)) (Ap r (lsum (cB f n)) ll) ++ [x.toInt] := fun t ht => by
  obtain ⟨s, rfl, hs⟩ := pz_b_in ht
  have z1 := h1 s rfl
  have z2 := h2 s rfl
  have ef : ec_fact (cB f n) m s = ec_com (cB f n) s := by
    cases m with
    | zero => rfl
    | succ m => exact (if_neg z1).trans (if_neg z2)
  have ep : pz_fact (cB f n) m s = pz_com (cB f n) s := by
    cases m with
    | zero => exact if_neg (fun z => z.elim z1 z2)
    | succ m => exact (if_neg z1).trans (if_neg z2)
  have e1 : q1 = pz_sum (cB f n) s := e1
  rw [ep] at hs
  unfold pz_com at hs
  obtain ⟨s2, hs2, -⟩ := pz_b_in hs
  obtain ⟨s1, hs1, hc1⟩ := pz_b_in hs2
  rw [hs1] at e1
  subst e1
  have h3 := hq.2.2.2
  unfold pz_cmp at hc1
  rw [if_pos (by omega)] at hc1
  obtain ⟨-, h60⟩ := pz_cnt_ok hc1
  have er : rNX (cB f n) (rC1 (.ok s1)) = .ok (pz_nt (cB f n) s1.1, s1.2 + 1) := by
    show rNX (cB f n) (if 60 ≤ s1.2 then .error (pz_er 3 s1.1) else .ok (s1.1, s1.2 + 1)) = _
    rw [if_neg (by omega)]
    rfl
  rw [er]
  show ll ++ ec_fact (cB f n) m s = ((ll ++ ec_sum (cB f n) s.1) ++ ec_sum (cB f n) (pz_nt (cB f n) s1.1)) ++ [x.toInt]
  rw [ef, hx, ec_cc_is hq]
  unfold ec_com
  rw [hs1, List.append_assoc, List.append_assoc]
theorem fl_not (h1 : TWd B pz_not r) : ∀ t, pz_b r (pz_fact B (m + 1)) = .ok t → Ap r (ec_fact B (m + 1)) ll = Ap (rNX B r) (ec_fact B m) ll ++ [-4] := fun t ht => by
  obtain ⟨s, rfl, h⟩ := h1
  show ll ++ ec_fact B (m + 1) s = (ll ++ ec_fact B m (pz_nx B s)) ++ [-4]
  rw [show ec_fact B (m + 1) s = ec_fact B m (pz_nx B s) ++ [-4] from if_pos h, List.append_assoc]
theorem fl_br (h1 : NWd B pz_not r) (h2 : Sg B 91 r) : ∀ t, pz_b r (pz_fact B (m + 1)) = .ok t → Ap r (ec_fact B (m + 1)) ll = Ap (rNX B r) (ltst B m) ll := fun t ht => by
  obtain ⟨s, rfl, h⟩ := h2
  show ll ++ ec_fact B (m + 1) s = ll ++ ec_tst B (pz_fact B m) (ec_fact B m) (pz_nx B s)
  rw [show ec_fact B (m + 1) s = ec_tst B (pz_fact B m) (ec_fact B m) (pz_nx B s) from (if_neg (h1 s rfl)).trans (if_pos h)]
theorem fl_er {R : Except Int (Nat × Nat)} {k : Int} {L L' : List Int} (e : R = rER k r) : ∀ t, R = .ok t → L' = L := fun t ht => by
  rw [e] at ht
  exfalso
  cases r <;> cases ht
theorem fl_er2 {R : Except Int (Nat × Nat)} {k : Int} {g : Nat × Nat → Except Int (Nat × Nat)} {L L' : List Int} (e : R = pz_b (rER k r) g) : ∀ t, R = .ok t → L' = L := fun t ht => by
  rw [e] at ht
  exfalso
  cases r <;> cases ht
theorem fl_er3 {R : Except Int (Nat × Nat)} {k : Int} {g : Nat × Nat → Except Int (Nat × Nat)} {L L' : List Int} (e : R = pz_b (rNX B (rC1 (rER k r))) g) : ∀ t, R = .ok t → L' = L := fun t ht => by
  rw [e] at ht
  exfalso
  cases r <;> cases ht
end FCC
/-! a test -/
def TeC (f : Nat → Int32) (n : Int32) (m : Nat) (R : Except Int (Nat × Nat)) (a b c d ct i : Int32) (cf : Nat → Int32) (cu o : Int32) (FL : List Int) : Prop := ∃ q, TpR f n q a b c d ∧ Ctd q ct ∧ R = pz_b q (pz_lp (pz_tF (cB f n) (pz_fact (cB f n) m))) ∧ (∀ s, q = .ok s → i.toInt ≤ (s.1 : Int)) ∧ ∃ L, CdK cf cu q L ∧ ∀ s, q = .ok s → FL = L ++ ec_TL (cB f n) (pz_fact (cB f n) m) (ec_fact (cB f n) m) 401 s (decide (o.toInt = 1))
section TEC
variable {f : Nat → Int32} {n : Int32} {m : Nat} {r q R : Except Int (Nat × Nat)} {a b c d a' b' c' d' ct i i' : Int32} {cf : Nat → Int32} {cu o o' : Int32} {L FL ll : List Int}
theorem TeC.first (h : TpR f n (pz_b r (pz_fact (cB f n) m)) a b c d) (hc : Ctd (pz_b r (pz_fact (cB f n) m)) ct) (hk : CdK cf cu (pz_b r (pz_fact (cB f n) m)) (Ap r (ec_fact (cB f n) m) ll)) (ho : o.toInt = 0) : TeC f n m (pz_b r (pz_tst (cB f n) (pz_fact (cB f n) m))) a b c d ct 0 cf cu o (Ap r (ltst (cB f n) m) ll) := by
  refine ⟨_, h, hc, by cases r <;> rfl, fun s _ => Int.natCast_nonneg s.1, _, hk, fun t ht => ?_⟩
  obtain ⟨s, rfl, hs⟩ := pz_b_in ht
  rw [show decide (o.toInt = 1) = false from decide_eq_false (by omega)]
  show ll ++ ec_tst (cB f n) (pz_fact (cB f n) m) (ec_fact (cB f n) m) s = (ll ++ ec_fact (cB f n) m s) ++ _
  unfold ec_tst
  rw [hs, List.append_assoc]
theorem te_bd (hn : n.toInt ≤ 400) (hi : ∀ s, q = .ok s → i.toInt ≤ (s.1 : Int)) (hc : TWd (cB f n) pz_and q ∨ TWd (cB f n) pz_or q) (hi' : i'.toInt = i.toInt + 1) : ∀ t, pz_b (rNX (cB f n) q) (pz_fact (cB f n) m) = .ok t → i'.toInt ≤ (t.1 : Int) := fun t ht => by
  have key : ∀ s, q = .ok s → cB f n s.1 ≠ -1 → i'.toInt ≤ (t.1 : Int) := fun s hs hb => by
    subst hs
    have e1 := hi s rfl
    have e2 := (pz_fact_gt (cB_fi hn) m _ _ (show pz_fact (cB f n) m (pz_nx (cB f n) s) = .ok t from ht)).2
    have e3 := pz_nt_gt (B := cB f n) (p := s.1) hb
    have e4 : (pz_nx (cB f n) s).1 = pz_nt (cB f n) s.1 := rfl
    omega
  rcases hc with ⟨s, hs, h⟩ | ⟨s, hs, h⟩
  · exact key s hs (pz_and_ne (Or.inl h))
  · exact key s hs (pz_and_ne (Or.inr h))
theorem and_nor {B : Nat → Int} {p : Nat} (h : pz_wd B p pz_or = true) : ¬ pz_wd B p pz_and = true := fun z => by
  have h1 := (of_decide_eq_true h).1
  have h2 := (of_decide_eq_true z).1
  have e1 : pz_or.length = 2 := by decide
  have e2 : pz_and.length = 3 := by decide
  omega
theorem TeC.and (hn : n.toInt ≤ 400) (hR : R = pz_b q (pz_lp (pz_tF (cB f n) (pz_fact (cB f n) m)))) (hi : ∀ s, q = .ok s → i.toInt ≤ (s.1 : Int)) (hL : ∀ s, q = .ok s → FL = L ++ ec_TL (cB f n) (pz_fact (cB f n) m) (ec_fact (cB f n) m) 401 s (decide (o.toInt = 1))) (hc : TWd (cB f n) pz_and q) (h : TpR f n (pz_b (rNX (cB f n) q) (pz_fact (cB f n) m)) a' b' c' d') (hct : Ctd (pz_b (rNX (cB f n) q) (pz_fact (cB f n) m)) ct) (hk : CdK cf cu (pz_b (rNX (cB f n) q) (pz_fact (cB f n) m)) (Ap (rNX (cB f n) q) (ec_fact (cB f n) m) L ++ [-5])) (hi' : i'.toInt = i.toInt + 1) : TeC f n m R a' b' c' d' ct i' cf cu o FL := by
  refine ⟨_, h, hct, hR.trans (tst_turn hn (Or.inl hc)), te_bd hn hi (Or.inl hc) hi', _, hk, fun t ht => ?_⟩
  obtain ⟨s, rfl, hw⟩ := hc
  have ht : pz_fact (cB f n) m (pz_nx (cB f n) s) = .ok t := ht
  rw [hL s rfl, ec_TL_and (cB_fi hn) (pz_fact_gt (cB_fi hn) m) hw ht]
  show L ++ (ec_fact (cB f n) m (pz_nx (cB f n) s) ++ -5 :: _) = ((L ++ ec_fact (cB f n) m (pz_nx (cB f n) s)) ++ [-5]) ++ _
  rw [List.append_assoc, List.append_assoc]
  rfl
theorem TeC.or0 (hn : n.toInt ≤ 400) (hR : R = pz_b q (pz_lp (pz_tF (cB f n) (pz_fact (cB f n) m)))) (hi : ∀ s, q = .ok s → i.toInt ≤ (s.1 : Int)) (hL : ∀ s, q = .ok s → FL = L ++ ec_TL (cB f n) (pz_fact (cB f n) m) (ec_fact (cB f n) m) 401 s (decide (o.toInt = 1))) (ho : o.toInt = 0) (ho' : o'.toInt = 1) (hc : TWd (cB f n) pz_or q) (h : TpR f n (pz_b (rNX (cB f n) q) (pz_fact (cB f n) m)) a' b' c' d') (hct : Ctd (pz_b (rNX (cB f n) q) (pz_fact (cB f n) m)) ct) (hk : CdK cf cu (pz_b (rNX (cB f n) q) (pz_fact (cB f n) m)) (Ap (rNX (cB f n) q) (ec_fact (cB f n) m) L)) (hi' : i'.toInt = i.toInt + 1) : TeC f n m R a' b' c' d' ct i' cf cu o' FL := by
  refine ⟨_, h, hct, hR.trans (tst_turn hn (Or.inr hc)), te_bd hn hi (Or.inr hc) hi', _, hk, fun t ht => ?_⟩
  obtain ⟨s, rfl, hw⟩ := hc
  have ht : pz_fact (cB f n) m (pz_nx (cB f n) s) = .ok t := ht
  rw [hL s rfl, ec_TL_or (cB_fi hn) (pz_fact_gt (cB_fi hn) m) (and_nor hw) hw ht, show decide (o.toInt = 1) = false from decide_eq_false (by omega), show decide (o'.toInt = 1) = true from decide_eq_true ho']
  show L ++ ([] ++ (ec_fact (cB f n) m (pz_nx (cB f n) s) ++ _)) = (L ++ ec_fact (cB f n) m (pz_nx (cB f n) s)) ++ _
  rw [List.append_assoc]
  rfl
theorem TeC.or1 (hn : n.toInt ≤ 400) (hR : R = pz_b q (pz_lp (pz_tF (cB f n) (pz_fact (cB f n) m)))) (hi : ∀ s, q = .ok s → i.toInt ≤ (s.1 : Int)) (hL : ∀ s, q = .ok s → FL = L ++ ec_TL (cB f n) (pz_fact (cB f n) m) (ec_fact (cB f n) m) 401 s (decide (o.toInt = 1))) (ho : o.toInt = 1) (ho' : o'.toInt = 1) (hc : TWd (cB f n) pz_or q) (h : TpR f n (pz_b (rNX (cB f n) q) (pz_fact (cB f n) m)) a' b' c' d') (hct : Ctd (pz_b (rNX (cB f n) q) (pz_fact (cB f n) m)) ct) (hk : CdK cf cu (pz_b (rNX (cB f n) q) (pz_fact (cB f n) m)) (Ap (rNX (cB f n) q) (ec_fact (cB f n) m) (L ++ [-6]))) (hi' : i'.toInt = i.toInt + 1) : TeC f n m R a' b' c' d' ct i' cf cu o' FL := by
  refine ⟨_, h, hct, hR.trans (tst_turn hn (Or.inr hc)), te_bd hn hi (Or.inr hc) hi', _, hk, fun t ht => ?_⟩
  obtain ⟨s, rfl, hw⟩ := hc
  have ht : pz_fact (cB f n) m (pz_nx (cB f n) s) = .ok t := ht
  rw [hL s rfl, ec_TL_or (cB_fi hn) (pz_fact_gt (cB_fi hn) m) (and_nor hw) hw ht, show decide (o.toInt = 1) = true from decide_eq_true ho, show decide (o'.toInt = 1) = true from decide_eq_true ho']
  show L ++ ([-6] ++ (ec_fact (cB f n) m (pz_nx (cB f n) s) ++ _)) = ((L ++ [-6]) ++ ec_fact (cB f n) m (pz_nx (cB f n) s)) ++ _
  rw [List.append_assoc, List.append_assoc]
theorem te_no (hn : n.toInt ≤ 400) (hi : ∀ s, q = .ok s → i.toInt ≤ (s.1 : Int)) (hc : 400 ≤ i.toInt ∨ (NWd (cB f n) pz_and q ∧ NWd (cB f n) pz_or q)) : ∀ s, q = .ok s → ¬ pz_wd (cB f n) s.1 pz_and = true ∧ ¬ pz_wd (cB f n) s.1 pz_or = true := fun s hs => by
  rcases hc with hc | hc
  · have h4 := hi s hs
    exact ⟨fun z => pz_and_ne (Or.inl z) (cB_out (by omega)), fun z => pz_and_ne (Or.inr z) (cB_out (by omega))⟩
  · exact ⟨hc.1 s hs, hc.2 s hs⟩
theorem TeC.end0 (hn : n.toInt ≤ 400) (hR : R = pz_b q (pz_lp (pz_tF (cB f n) (pz_fact (cB f n) m)))) (hi : ∀ s, q = .ok s → i.toInt ≤ (s.1 : Int)) (hL : ∀ s, q = .ok s → FL = L ++ ec_TL (cB f n) (pz_fact (cB f n) m) (ec_fact (cB f n) m) 401 s (decide (o.toInt = 1))) (ho : o.toInt = 0) (hc : 400 ≤ i.toInt ∨ (NWd (cB f n) pz_and q ∧ NWd (cB f n) pz_or q)) (hk : CdK cf cu q L) : CdK cf cu R FL := by
  have e := hR.trans (tst_end hn hi hc)
  refine CdK.to hk e (fun t ht => ?_)
  have hq2 := e.symm.trans ht
  obtain ⟨n1, n2⟩ := te_no hn hi hc t hq2
  rw [hL t hq2, ec_TL_no n1 n2, show decide (o.toInt = 1) = false from decide_eq_false (by omega)]
  exact List.append_nil L
theorem TeC.end1 (hn : n.toInt ≤ 400) (hR : R = pz_b q (pz_lp (pz_tF (cB f n) (pz_fact (cB f n) m)))) (hi : ∀ s, q = .ok s → i.toInt ≤ (s.1 : Int)) (hL : ∀ s, q = .ok s → FL = L ++ ec_TL (cB f n) (pz_fact (cB f n) m) (ec_fact (cB f n) m) 401 s (decide (o.toInt = 1))) (ho : o.toInt = 1) (hc : 400 ≤ i.toInt ∨ (NWd (cB f n) pz_and q ∧ NWd (cB f n) pz_or q)) (hk : CdK cf cu q (L ++ [-6])) : CdK cf cu R FL := by
  have e := hR.trans (tst_end hn hi hc)
  refine CdK.to hk e (fun t ht => ?_)
  have hq2 := e.symm.trans ht
  obtain ⟨n1, n2⟩ := te_no hn hi hc t hq2
  rw [hL t hq2, ec_TL_no n1 n2, show decide (o.toInt = 1) = true from decide_eq_true ho]
  rfl
end TEC
/-! the clauses -/
def RcH (B : Nat → Int) (q : Except Int (Nat × Nat)) (l : Int32) : Prop := (l.toInt = 0 ∧ q = .ok (pz_sk B 0, 0)) ∨ (1 ≤ l.toInt ∧ l.toInt ≤ 12 ∧ RuR B = pz_b (rTG l.toInt.toNat q) (pz_lp (pz_rF B))) ∨ (l.toInt = 13 ∧ ∃ e, q = .error e ∧ RuR B = .error e)
def RcM (B : Nat → Int) (q : Except Int (Nat × Nat)) (l : Int32) (L : List Int) : Prop := (l.toInt = 0 → L = []) ∧ (1 ≤ l.toInt → ∀ s, q = .ok s → ru_fl (ru_of B) = L ++ ru_fl (ru_lp B 401 (s, l.toInt.toNat)))
def RcC (f : Nat → Int32) (n : Int32) (a b c d ct l : Int32) (cf : Nat → Int32) (cu : Int32) : Prop := ∃ q, TpR f n q a b c d ∧ Ctd q ct ∧ RcH (cB f n) q l ∧ ∃ L, CdK cf cu q L ∧ RcM (cB f n) q l L
theorem RcH.turn {B : Nat → Int} {q : Except Int (Nat × Nat)} {l l' : Int32} (hl : 0 ≤ l.toInt ∧ l.toInt ≤ 12) (hl₀ : l'.toInt = l.toInt + 1) (h12 : l.toInt = 12 → ∃ e, q = .error e) (hR : RuR B = pz_b (rTG (l.toInt.toNat + 1) q) (pz_lp (pz_rF B))) : RcH B q l' := by
  refine Or.inr ?_
  by_cases z : l.toInt = 12
  · right
    obtain ⟨e, rfl⟩ := h12 z
    exact ⟨by omega, e, rfl, hR⟩
  · left
    refine ⟨by omega, by omega, ?_⟩
    rw [show l'.toInt.toNat = l.toInt.toNat + 1 by omega]
    exact hR
section RCC
variable {f : Nat → Int32} {n : Int32} {q q0 : Except Int (Nat × Nat)} {a b c d ct l l' : Int32} {cf : Nat → Int32} {cu : Int32} {L L' : List Int} {B : Nat → Int} {k : Nat}
theorem RcC.start (h : TpR f n (rSK (cB f n) (.ok (0, 0))) a b c d) (hu : cu.toInt = 0) : RcC f n a b c d 0 0 cf cu := ⟨_, h, fun s hs => by cases hs; rfl, Or.inl ⟨by decide, rfl⟩, [], CdK.nil hu, fun _ => rfl, fun z => absurd z (by decide)⟩
theorem cl_un (hb : TWd B pz_buy q0) (hl : k ≠ 12) (h2 : NWd B pz_if (pz_b (rNX B q0) (pz_sum B))) : ∀ t, pz_b q0 (pz_cla B k) = .ok t → ∃ s0, q0 = .ok s0 ∧ Ap (rNX B q0) (lsum B) L ++ [-2] = L ++ ru_1 (ru_cl B s0) := fun t ht => by
  rw [cla_un hb hl h2] at ht
  obtain ⟨s, rfl, hs⟩ := hb
  refine ⟨s, rfl, ?_⟩
  have ht : pz_sum B (pz_nx B s) = .ok t := ht
  have h2 := h2 t ht
  have e : ru_cl B s = (ec_sum B (pz_nt B s.1), none) := by
    unfold ru_cl
    rw [ht]
    show (_, if pz_wd B t.1 pz_if = true then _ else none) = _
    rw [if_neg h2]
  rw [e]
  show (L ++ ec_sum B (pz_nt B s.1)) ++ [-2] = L ++ (ec_sum B (pz_nt B s.1) ++ [-2])
  rw [List.append_assoc]
theorem cl_if (hb : TWd B pz_buy q0) (hl : k ≠ 12) (h2 : TWd B pz_if (pz_b (rNX B q0) (pz_sum B))) : ∀ t, pz_b q0 (pz_cla B k) = .ok t → ∃ s0, q0 = .ok s0 ∧ Ap (rNX B (pz_b (rNX B q0) (pz_sum B))) (ltst B 10) (Ap (rNX B q0) (lsum B) L) ++ [-3] = L ++ ru_1 (ru_cl B s0) := fun t _ => by
  obtain ⟨s, rfl, hs⟩ := hb
  obtain ⟨u, hu, hw⟩ := h2
  refine ⟨s, rfl, ?_⟩
  have hu2 : pz_sum B (pz_nx B s) = .ok u := hu
  have e : ru_cl B s = (ec_sum B (pz_nt B s.1), some (ec_tst B (pz_fact B 10) (ec_fact B 10) (pz_nx B u))) := by
    unfold ru_cl
    rw [hu2]
    show (_, if pz_wd B u.1 pz_if = true then some (ec_tst B (pz_fact B 10) (ec_fact B 10) (pz_nx B u)) else none) = _
    rw [if_pos hw]
  rw [e, hu]
  show ((L ++ ec_sum B (pz_nt B s.1)) ++ ec_tst B (pz_fact B 10) (ec_fact B 10) (pz_nx B u)) ++ [-3] = L ++ (ec_sum B (pz_nt B s.1) ++ (ec_tst B (pz_fact B 10) (ec_fact B 10) (pz_nx B u) ++ [-3]))
  rw [List.append_assoc, List.append_assoc]
theorem cl_er {kk : Int} (e : pz_b q0 (pz_cla B k) = rER kk q0) : ∀ t, pz_b q0 (pz_cla B k) = .ok t → ∃ s0, q0 = .ok s0 ∧ L' = L ++ ru_1 (ru_cl B s0) := fun t ht => by
  rw [e] at ht
  exfalso
  cases q0 <;> cases ht
theorem RcC.next0 (hl : l.toInt = 0) (hq : RcH (cB f n) q l) (hM : RcM (cB f n) q l L) (h : TpR f n (pz_b q (pz_cla (cB f n) l.toInt.toNat)) a b c d) (hct : Ctd (pz_b q (pz_cla (cB f n) l.toInt.toNat)) ct) (hk : CdK cf cu (pz_b q (pz_cla (cB f n) l.toInt.toNat)) L') (hx : ∀ t, pz_b q (pz_cla (cB f n) l.toInt.toNat) = .ok t → ∃ s0, q = .ok s0 ∧ L' = L ++ ru_1 (ru_cl (cB f n) s0)) (hl₀ : l'.toInt = l.toInt + 1) : RcC f n a b c d ct l' cf cu := by
  rcases hq with hq | hq | hq
  · obtain ⟨-, rfl⟩ := hq
    refine ⟨_, h, hct, RcH.turn (by omega) hl₀ (fun z => by omega) ?_, L', hk, fun z => by omega, fun _ t ht => ?_⟩
    · rw [hl]; rfl
    · obtain ⟨s0, hs0, hL⟩ := hx t ht
      cases hs0
      rw [hL, hM.1 hl, show l'.toInt.toNat = 1 by omega]
      rw [hl] at ht
      have ht : pz_cla (cB f n) 0 (pz_sk (cB f n) 0, 0) = .ok t := ht
      unfold ru_of
      rw [ht]
      show ru_fl (ru_cl (cB f n) (pz_sk (cB f n) 0, 0) :: ru_lp (cB f n) 401 (t, 1)) = _
      rw [ru_fl_c]
      rfl
  · omega
  · omega
theorem RcC.nextS (hn : n.toInt ≤ 400) (hl : 1 ≤ l.toInt ∧ l.toInt ≤ 12) (hs : Sg (cB f n) 59 q) (hq : RcH (cB f n) q l) (hM : RcM (cB f n) q l L) (h : TpR f n (pz_b (rNX (cB f n) q) (pz_cla (cB f n) l.toInt.toNat)) a b c d) (hct : Ctd (pz_b (rNX (cB f n) q) (pz_cla (cB f n) l.toInt.toNat)) ct) (hk : CdK cf cu (pz_b (rNX (cB f n) q) (pz_cla (cB f n) l.toInt.toNat)) L') (hx : ∀ t, pz_b (rNX (cB f n) q) (pz_cla (cB f n) l.toInt.toNat) = .ok t → ∃ s0, rNX (cB f n) q = .ok s0 ∧ L' = L ++ ru_1 (ru_cl (cB f n) s0)) (hl₀ : l'.toInt = l.toInt + 1) : RcC f n a b c d ct l' cf cu := by
  obtain ⟨s, rfl, h59⟩ := hs
  rcases hq with hq | hq | hq
  · omega
  · refine ⟨_, h, hct, RcH.turn (by omega) hl₀ (fun z => ?_) ?_, L', hk, fun z => by omega, fun _ t ht => ?_⟩
    · rw [z]; exact pz_cla_12
    · rw [hq.2.2]
      exact pz_lp_on (pz_rF_pr (cB_fi hn)) (s := (s, l.toInt.toNat)) (if_pos h59)
    · obtain ⟨s0, hs0, hL⟩ := hx t ht
      have hs0 : (Except.ok (pz_nx (cB f n) s) : Except Int (Nat × Nat)) = .ok s0 := hs0
      cases hs0
      have ht : pz_cla (cB f n) l.toInt.toNat (pz_nx (cB f n) s) = .ok t := ht
      rw [hM.2 hl.1 s rfl, hL, ru_lp_on (u := (s, l.toInt.toNat)) (cB_fi hn) h59 ht, ru_fl_c, show l'.toInt.toNat = l.toInt.toNat + 1 by omega, List.append_assoc]
  · omega
/-- a copy of the first x -/
def CpO (f g : Nat → Int32) (m : Nat) (x : Int32) : Prop := (m : Int) = x.toInt ∧ ∀ k : Nat, k < m → g k = f k
theorem CpO.all {g : Nat → Int32} {x : Int32} (h : x.toInt = 400) : CpO g g 400 x := ⟨by omega, fun _ _ => rfl⟩
theorem CpO.part {g g' g0 : Nat → Int32} {x y : Int32} (e : g' = va_cpy g g0 (0 : Int32).toNatClampNeg (0 : Int32).toNatClampNeg y.toNatClampNeg) (hx : 0 ≤ x.toInt ∧ x.toInt ≤ 400) (hy : y.toInt = x.toInt) : CpO g g' x.toNatClampNeg x := by
  have h0 : (0 : Int32).toNatClampNeg = 0 := by decide
  have ex : x.toNatClampNeg = x.toInt.toNat := rfl
  have ey : y.toNatClampNeg = y.toInt.toNat := rfl
  refine ⟨by omega, fun k hk => ?_⟩
  rw [e, h0]
  unfold va_cpy
  rw [if_pos (show 0 ≤ k ∧ k < 0 + y.toNatClampNeg by omega), show 0 + (k - 0) = k by omega]
/-- a rule's text is read: the code of its length -/
def RuC (B : Nat → Int) (m : Nat) (g : Nat → Int32) : Prop := ∃ p, pz_rule B = .ok p ∧ p ≤ 400 ∧ m = (ru_fl (ru_of B)).length ∧ CdE g (ru_fl (ru_of B))
theorem RuC.of {g : Nat → Int32} {m : Nat} (hr : pz_rule (cB f n) = pz_b q (fun s => pz_end (cB f n) s.1)) (h : TpR f n (rEN (cB f n) q) a b c d) (hd : d.toInt = 0) (ha : a.toInt ≤ 400) (h0 : ¬ l.toInt = 0) (hq : RcH (cB f n) q l) (hx : 12 < l.toInt ∨ NSg (cB f n) 59 q) (hk : CdK cf cu q L) (hM : RcM (cB f n) q l L) (hc : CpO cf g m cu) : RuC (cB f n) m g := by
  obtain ⟨s, hs, h1, -⟩ := h.fault0 hd
  obtain ⟨t, rfl, ht⟩ := pz_b_in (show pz_b q (fun s => pz_b (pz_end (cB f n) s.1) (fun _ => .ok s)) = .ok s from hs)
  obtain ⟨p, hp, hs2⟩ := pz_b_in ht
  cases hs2
  have hp2 : pz_rule (cB f n) = .ok p := hr.trans hp
  have ep : p = s.1 := by
    unfold pz_end at hp
    by_cases z : cB f n s.1 = -1
    · rw [if_pos z] at hp; cases hp; rfl
    · rw [if_neg z] at hp; cases hp
  have hl : 1 ≤ l.toInt ∧ ¬ 12 < l.toInt := by
    rcases hq with hq | hq | hq
    · omega
    · omega
    · obtain ⟨-, e, he, -⟩ := hq; cases he
  have h59 : ¬ cB f n s.1 = 59 := by
    rcases hx with hx | hx
    · omega
    · exact hx s rfl
  have eL : ru_fl (ru_of (cB f n)) = L := by
    rw [hM.2 hl.1 s rfl, ru_lp_no (u := (s, l.toInt.toNat)) h59]
    exact List.append_nil L
  have hg := (ru_of_gd hp2).2.1
  rw [eL] at hg
  obtain ⟨k1, k2⟩ := hk s rfl (by omega)
  refine ⟨p, hp2, by omega, ?_, ?_⟩
  · have := hc.1; rw [eL]; omega
  · rw [eL]
    intro i hi
    rw [hc.2 i (by have := hc.1; omega)]
    exact k2 i hi
end RCC
