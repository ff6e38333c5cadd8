set_option maxRecDepth 16384
/-! what a rule comes to: the class's sumFor is ev_c, the reference's reckons is ev_s -/
theorem cmp0 {b : Int64} : (lg_cmp b 0 = 0) ↔ b = 0 := lg_cmp_eq b 0
def rC (o : Int) : Int := if o = -12 then 2 else if o = -13 then 3 else if o = -14 then 4 else if o = -15 then 5 else if o = -7 then 6 else if o = -8 then 7 else if o = -9 then 8 else if o = -10 then 9 else if o = -11 then 10 else if o = -4 then 11 else if o = -5 then 12 else if o = -6 then 13 else 14
/-- an operation as the reference writes it -/
def rE (o : Int) : Int := if 100000 ≤ o then 1 + 16 * (o - 100000) else if 0 ≤ o then 16 * o else rC o
theorem joined_eq {x : Int32} {a b : Int64} : dX6_joined x a b = ev_j x.toInt a b := by
  by_cases h16 : x = -16
  · subst h16
    unfold dX6_joined
    rw [if_pos (show ((-16) : Int32) = (-16) from rfl), show ((-16) : Int32).toInt = -16 by decide]
    unfold ev_j
    rw [if_neg (show ¬ ((-16) : Int) = (-12) by decide), if_neg (show ¬ ((-16) : Int) = (-13) by decide), if_neg (show ¬ ((-16) : Int) = (-14) by decide), if_neg (show ¬ ((-16) : Int) = (-15) by decide), if_pos (show ((-16) : Int) = (-16) from rfl)]
    by_cases z : b = 0
    · rw [if_pos z, if_pos (cmp0.mpr z)]
    · rw [if_neg z, if_neg (fun y => z (cmp0.mp y))]
  by_cases h15 : x = -15
  · subst h15
    unfold dX6_joined
    rw [if_neg (show ¬ ((-15) : Int32) = (-16) by decide), if_pos (show ((-15) : Int32) = (-15) from rfl), show ((-15) : Int32).toInt = -15 by decide]
    unfold ev_j
    rw [if_neg (show ¬ ((-15) : Int) = (-12) by decide), if_neg (show ¬ ((-15) : Int) = (-13) by decide), if_neg (show ¬ ((-15) : Int) = (-14) by decide), if_pos (show ((-15) : Int) = (-15) from rfl)]
    by_cases z : b = 0
    · rw [if_pos z, if_pos (cmp0.mpr z)]
    · rw [if_neg z, if_neg (fun y => z (cmp0.mp y))]
  by_cases h14 : x = -14
  · subst h14
    unfold dX6_joined
    rw [if_neg (show ¬ ((-14) : Int32) = (-16) by decide), if_neg (show ¬ ((-14) : Int32) = (-15) by decide), if_pos (show ((-14) : Int32) = (-14) from rfl), show ((-14) : Int32).toInt = -14 by decide]
    unfold ev_j
    rw [if_neg (show ¬ ((-14) : Int) = (-12) by decide), if_neg (show ¬ ((-14) : Int) = (-13) by decide), if_pos (show ((-14) : Int) = (-14) from rfl)]
  by_cases h13 : x = -13
  · subst h13
    unfold dX6_joined
    rw [if_neg (show ¬ ((-13) : Int32) = (-16) by decide), if_neg (show ¬ ((-13) : Int32) = (-15) by decide), if_neg (show ¬ ((-13) : Int32) = (-14) by decide), if_pos (show ((-13) : Int32) = (-13) from rfl), show ((-13) : Int32).toInt = -13 by decide]
    unfold ev_j
    rw [if_neg (show ¬ ((-13) : Int) = (-12) by decide), if_pos (show ((-13) : Int) = (-13) from rfl)]
  by_cases h12 : x = -12
  · subst h12
    unfold dX6_joined
    rw [if_neg (show ¬ ((-12) : Int32) = (-16) by decide), if_neg (show ¬ ((-12) : Int32) = (-15) by decide), if_neg (show ¬ ((-12) : Int32) = (-14) by decide), if_neg (show ¬ ((-12) : Int32) = (-13) by decide), if_pos (show ((-12) : Int32) = (-12) from rfl), show ((-12) : Int32).toInt = -12 by decide]
    unfold ev_j
    rw [if_pos (show ((-12) : Int) = (-12) from rfl)]
  have hj : dX6_joined x a b = if dX6_holds x a b = 0 then 0 else 1 := by
    unfold dX6_joined
    rw [if_neg h16, if_neg h15, if_neg h14, if_neg h13, if_neg h12]
  rw [hj]
  by_cases h11 : x = -11
  · subst h11
    unfold dX6_holds
    rw [if_pos (show ((-11) : Int32) = (-11) from rfl), show ((-11) : Int32).toInt = -11 by decide]
    unfold ev_j
    rw [if_neg (show ¬ ((-11) : Int) = (-12) by decide), if_neg (show ¬ ((-11) : Int) = (-13) by decide), if_neg (show ¬ ((-11) : Int) = (-14) by decide), if_neg (show ¬ ((-11) : Int) = (-15) by decide), if_neg (show ¬ ((-11) : Int) = (-16) by decide), if_neg (show ¬ ((-11) : Int) = (-5) by decide), if_neg (show ¬ ((-11) : Int) = (-6) by decide), if_neg (show ¬ ((-11) : Int) = (-7) by decide), if_neg (show ¬ ((-11) : Int) = (-8) by decide), if_neg (show ¬ ((-11) : Int) = (-9) by decide), if_neg (show ¬ ((-11) : Int) = (-10) by decide), if_pos (show ((-11) : Int) = (-11) from rfl)]
    by_cases z : b < a
    · rw [if_pos z, if_neg (fun y => absurd ((lg_cmp_le a b).mp y) (Int64.not_le.mpr z)), if_neg one_ne]
    · rw [if_neg z, if_pos ((lg_cmp_le a b).mpr (Int64.not_lt.mp z)), if_pos rfl]
  by_cases h10 : x = -10
  · subst h10
    unfold dX6_holds
    rw [if_neg (show ¬ ((-10) : Int32) = (-11) by decide), if_pos (show ((-10) : Int32) = (-10) from rfl), show ((-10) : Int32).toInt = -10 by decide]
    unfold ev_j
    rw [if_neg (show ¬ ((-10) : Int) = (-12) by decide), if_neg (show ¬ ((-10) : Int) = (-13) by decide), if_neg (show ¬ ((-10) : Int) = (-14) by decide), if_neg (show ¬ ((-10) : Int) = (-15) by decide), if_neg (show ¬ ((-10) : Int) = (-16) by decide), if_neg (show ¬ ((-10) : Int) = (-5) by decide), if_neg (show ¬ ((-10) : Int) = (-6) by decide), if_neg (show ¬ ((-10) : Int) = (-7) by decide), if_neg (show ¬ ((-10) : Int) = (-8) by decide), if_neg (show ¬ ((-10) : Int) = (-9) by decide), if_pos (show ((-10) : Int) = (-10) from rfl)]
    by_cases z : b ≤ a
    · rw [if_pos z, if_neg (fun y => absurd ((lg_cmp_lt a b).mp y) (Int64.not_lt.mpr z)), if_neg one_ne]
    · rw [if_neg z, if_pos ((lg_cmp_lt a b).mpr (Int64.not_le.mp z)), if_pos rfl]
  by_cases h9 : x = -9
  · subst h9
    unfold dX6_holds
    rw [if_neg (show ¬ ((-9) : Int32) = (-11) by decide), if_neg (show ¬ ((-9) : Int32) = (-10) by decide), if_pos (show ((-9) : Int32) = (-9) from rfl), show ((-9) : Int32).toInt = -9 by decide]
    unfold ev_j
    rw [if_neg (show ¬ ((-9) : Int) = (-12) by decide), if_neg (show ¬ ((-9) : Int) = (-13) by decide), if_neg (show ¬ ((-9) : Int) = (-14) by decide), if_neg (show ¬ ((-9) : Int) = (-15) by decide), if_neg (show ¬ ((-9) : Int) = (-16) by decide), if_neg (show ¬ ((-9) : Int) = (-5) by decide), if_neg (show ¬ ((-9) : Int) = (-6) by decide), if_neg (show ¬ ((-9) : Int) = (-7) by decide), if_neg (show ¬ ((-9) : Int) = (-8) by decide), if_pos (show ((-9) : Int) = (-9) from rfl)]
    by_cases z : a = b
    · rw [if_pos z, if_pos ((lg_cmp_eq a b).mpr z), if_neg one_ne]
    · rw [if_neg z, if_neg (fun y => z ((lg_cmp_eq a b).mp y)), if_pos rfl]
  by_cases h8 : x = -8
  · subst h8
    unfold dX6_holds
    rw [if_neg (show ¬ ((-8) : Int32) = (-11) by decide), if_neg (show ¬ ((-8) : Int32) = (-10) by decide), if_neg (show ¬ ((-8) : Int32) = (-9) by decide), if_pos (show ((-8) : Int32) = (-8) from rfl), show ((-8) : Int32).toInt = -8 by decide]
    unfold ev_j
    rw [if_neg (show ¬ ((-8) : Int) = (-12) by decide), if_neg (show ¬ ((-8) : Int) = (-13) by decide), if_neg (show ¬ ((-8) : Int) = (-14) by decide), if_neg (show ¬ ((-8) : Int) = (-15) by decide), if_neg (show ¬ ((-8) : Int) = (-16) by decide), if_neg (show ¬ ((-8) : Int) = (-5) by decide), if_neg (show ¬ ((-8) : Int) = (-6) by decide), if_neg (show ¬ ((-8) : Int) = (-7) by decide), if_pos (show ((-8) : Int) = (-8) from rfl)]
    by_cases z : a ≤ b
    · rw [if_pos z, if_neg (fun y => absurd ((lg_cmp_gt a b).mp y) (Int64.not_lt.mpr z)), if_neg one_ne]
    · rw [if_neg z, if_pos ((lg_cmp_gt a b).mpr (Int64.not_le.mp z)), if_pos rfl]
  by_cases h7 : x = -7
  · subst h7
    unfold dX6_holds
    rw [if_neg (show ¬ ((-7) : Int32) = (-11) by decide), if_neg (show ¬ ((-7) : Int32) = (-10) by decide), if_neg (show ¬ ((-7) : Int32) = (-9) by decide), if_neg (show ¬ ((-7) : Int32) = (-8) by decide), if_pos (show ((-7) : Int32) = (-7) from rfl), show ((-7) : Int32).toInt = -7 by decide]
    unfold ev_j
    rw [if_neg (show ¬ ((-7) : Int) = (-12) by decide), if_neg (show ¬ ((-7) : Int) = (-13) by decide), if_neg (show ¬ ((-7) : Int) = (-14) by decide), if_neg (show ¬ ((-7) : Int) = (-15) by decide), if_neg (show ¬ ((-7) : Int) = (-16) by decide), if_neg (show ¬ ((-7) : Int) = (-5) by decide), if_neg (show ¬ ((-7) : Int) = (-6) by decide), if_pos (show ((-7) : Int) = (-7) from rfl)]
    by_cases z : a < b
    · rw [if_pos z, if_neg (fun y => absurd ((lg_cmp_ge a b).mp y) (Int64.not_le.mpr z)), if_neg one_ne]
    · rw [if_neg z, if_pos ((lg_cmp_ge a b).mpr (Int64.not_lt.mp z)), if_pos rfl]
  by_cases h6 : x = -6
  · subst h6
    unfold dX6_holds
    rw [if_neg (show ¬ ((-6) : Int32) = (-11) by decide), if_neg (show ¬ ((-6) : Int32) = (-10) by decide), if_neg (show ¬ ((-6) : Int32) = (-9) by decide), if_neg (show ¬ ((-6) : Int32) = (-8) by decide), if_neg (show ¬ ((-6) : Int32) = (-7) by decide), if_pos (show ((-6) : Int32) = (-6) from rfl), show ((-6) : Int32).toInt = -6 by decide]
    unfold ev_j
    rw [if_neg (show ¬ ((-6) : Int) = (-12) by decide), if_neg (show ¬ ((-6) : Int) = (-13) by decide), if_neg (show ¬ ((-6) : Int) = (-14) by decide), if_neg (show ¬ ((-6) : Int) = (-15) by decide), if_neg (show ¬ ((-6) : Int) = (-16) by decide), if_neg (show ¬ ((-6) : Int) = (-5) by decide), if_pos (show ((-6) : Int) = (-6) from rfl)]
    by_cases za : a = 0
    · rw [if_pos (cmp0.mpr za)]
      by_cases zb : b = 0
      · rw [if_pos (cmp0.mpr zb), if_pos rfl, if_neg (show ¬ (a ≠ 0 ∨ b ≠ 0) from fun y => y.elim (fun q => q za) (fun q => q zb))]
      · rw [if_neg (fun y => zb (cmp0.mp y)), if_neg one_ne, if_pos (show a ≠ 0 ∨ b ≠ 0 from Or.inr zb)]
    · rw [if_neg (fun y => za (cmp0.mp y)), if_neg one_ne, if_pos (show a ≠ 0 ∨ b ≠ 0 from Or.inl za)]
  by_cases h5 : x = -5
  · subst h5
    unfold dX6_holds
    rw [if_neg (show ¬ ((-5) : Int32) = (-11) by decide), if_neg (show ¬ ((-5) : Int32) = (-10) by decide), if_neg (show ¬ ((-5) : Int32) = (-9) by decide), if_neg (show ¬ ((-5) : Int32) = (-8) by decide), if_neg (show ¬ ((-5) : Int32) = (-7) by decide), if_neg (show ¬ ((-5) : Int32) = (-6) by decide), if_pos (show ((-5) : Int32) = (-5) from rfl), show ((-5) : Int32).toInt = -5 by decide]
    unfold ev_j
    rw [if_neg (show ¬ ((-5) : Int) = (-12) by decide), if_neg (show ¬ ((-5) : Int) = (-13) by decide), if_neg (show ¬ ((-5) : Int) = (-14) by decide), if_neg (show ¬ ((-5) : Int) = (-15) by decide), if_neg (show ¬ ((-5) : Int) = (-16) by decide), if_pos (show ((-5) : Int) = (-5) from rfl)]
    by_cases za : a = 0
    · rw [if_pos (cmp0.mpr za), if_pos rfl, if_neg (show ¬ (a ≠ 0 ∧ b ≠ 0) from fun y => y.1 za)]
    · rw [if_neg (fun y => za (cmp0.mp y))]
      by_cases zb : b = 0
      · rw [if_pos (cmp0.mpr zb), if_pos rfl, if_neg (show ¬ (a ≠ 0 ∧ b ≠ 0) from fun y => y.2 zb)]
      · rw [if_neg (fun y => zb (cmp0.mp y)), if_neg one_ne, if_pos (show a ≠ 0 ∧ b ≠ 0 from ⟨za, zb⟩)]
  unfold dX6_holds
  rw [if_neg h11, if_neg h10, if_neg h9, if_neg h8, if_neg h7, if_neg h6, if_neg h5, if_pos rfl]
  have nn : ∀ (v : Int32) (w : Int), v.toInt = w → ¬ x = v → ¬ x.toInt = w := fun v w hv hx z => hx (Int32.toInt_inj.mp (z.trans hv.symm))
  unfold ev_j
  rw [if_neg (nn (-12) (-12) (by decide) h12), if_neg (nn (-13) (-13) (by decide) h13), if_neg (nn (-14) (-14) (by decide) h14), if_neg (nn (-15) (-15) (by decide) h15), if_neg (nn (-16) (-16) (by decide) h16), if_neg (nn (-5) (-5) (by decide) h5), if_neg (nn (-6) (-6) (by decide) h6), if_neg (nn (-7) (-7) (by decide) h7), if_neg (nn (-8) (-8) (by decide) h8), if_neg (nn (-9) (-9) (by decide) h9), if_neg (nn (-10) (-10) (by decide) h10), if_neg (nn (-11) (-11) (by decide) h11)]
theorem one_eq {x : Int32} {o : Int} {a b : Int64} (ho : -16 ≤ o ∧ o ≤ -5) (hx : x.toInt = rC o) : dX12_one x a b = ev_r o a b := by
  have lit : ∀ v : Int32, x.toInt = v.toInt → x = v := fun v z => Int32.toInt_inj.mp z
  have hv : o = -16 ∨ o = -15 ∨ o = -14 ∨ o = -13 ∨ o = -12 ∨ o = -11 ∨ o = -10 ∨ o = -9 ∨ o = -8 ∨ o = -7 ∨ o = -6 ∨ o = -5 := by omega
  rcases hv with rfl | rfl | rfl | rfl | rfl | rfl | rfl | rfl | rfl | rfl | rfl | rfl
  · skip
    have hx : x = 14 := lit 14 (by rw [hx]; decide)
    subst hx
    unfold dX12_one
    rw [if_neg (show ¬ ((14) : Int32) = (2) by decide), if_neg (show ¬ ((14) : Int32) = (3) by decide), if_neg (show ¬ ((14) : Int32) = (4) by decide), if_neg (show ¬ ((14) : Int32) = (5) by decide), if_neg (show ¬ ((14) : Int32) = (6) by decide), if_neg (show ¬ ((14) : Int32) = (7) by decide), if_neg (show ¬ ((14) : Int32) = (8) by decide), if_neg (show ¬ ((14) : Int32) = (9) by decide), if_neg (show ¬ ((14) : Int32) = (10) by decide), if_neg (show ¬ ((14) : Int32) = (11) by decide), if_neg (show ¬ ((14) : Int32) = (12) by decide), if_neg (show ¬ ((14) : Int32) = (13) by decide), if_pos (show ((14) : Int32) = (14) from rfl)]
    unfold ev_r
    rw [if_neg (show ¬ ((-16) : Int) = (-5) by decide), if_neg (show ¬ ((-16) : Int) = (-6) by decide)]
    unfold ev_j
    rw [if_neg (show ¬ ((-16) : Int) = (-12) by decide), if_neg (show ¬ ((-16) : Int) = (-13) by decide), if_neg (show ¬ ((-16) : Int) = (-14) by decide), if_neg (show ¬ ((-16) : Int) = (-15) by decide), if_pos (show ((-16) : Int) = (-16) from rfl)]
    by_cases z : b = 0
    · rw [if_pos z, if_pos (cmp0.mpr z)]
    · rw [if_neg z, if_neg (fun y => z (cmp0.mp y))]
  · skip
    have hx : x = 5 := lit 5 (by rw [hx]; decide)
    subst hx
    unfold dX12_one
    rw [if_neg (show ¬ ((5) : Int32) = (2) by decide), if_neg (show ¬ ((5) : Int32) = (3) by decide), if_neg (show ¬ ((5) : Int32) = (4) by decide), if_pos (show ((5) : Int32) = (5) from rfl)]
    unfold ev_r
    rw [if_neg (show ¬ ((-15) : Int) = (-5) by decide), if_neg (show ¬ ((-15) : Int) = (-6) by decide)]
    unfold ev_j
    rw [if_neg (show ¬ ((-15) : Int) = (-12) by decide), if_neg (show ¬ ((-15) : Int) = (-13) by decide), if_neg (show ¬ ((-15) : Int) = (-14) by decide), if_pos (show ((-15) : Int) = (-15) from rfl)]
    by_cases z : b = 0
    · rw [if_pos z, if_pos (cmp0.mpr z)]
    · rw [if_neg z, if_neg (fun y => z (cmp0.mp y))]
  · skip
    have hx : x = 4 := lit 4 (by rw [hx]; decide)
    subst hx
    unfold dX12_one
    rw [if_neg (show ¬ ((4) : Int32) = (2) by decide), if_neg (show ¬ ((4) : Int32) = (3) by decide), if_pos (show ((4) : Int32) = (4) from rfl)]
    unfold ev_r
    rw [if_neg (show ¬ ((-14) : Int) = (-5) by decide), if_neg (show ¬ ((-14) : Int) = (-6) by decide)]
    unfold ev_j
    rw [if_neg (show ¬ ((-14) : Int) = (-12) by decide), if_neg (show ¬ ((-14) : Int) = (-13) by decide), if_pos (show ((-14) : Int) = (-14) from rfl)]
  · skip
    have hx : x = 3 := lit 3 (by rw [hx]; decide)
    subst hx
    unfold dX12_one
    rw [if_neg (show ¬ ((3) : Int32) = (2) by decide), if_pos (show ((3) : Int32) = (3) from rfl)]
    unfold ev_r
    rw [if_neg (show ¬ ((-13) : Int) = (-5) by decide), if_neg (show ¬ ((-13) : Int) = (-6) by decide)]
    unfold ev_j
    rw [if_neg (show ¬ ((-13) : Int) = (-12) by decide), if_pos (show ((-13) : Int) = (-13) from rfl)]
  · skip
    have hx : x = 2 := lit 2 (by rw [hx]; decide)
    subst hx
    unfold dX12_one
    rw [if_pos (show ((2) : Int32) = (2) from rfl)]
    unfold ev_r
    rw [if_neg (show ¬ ((-12) : Int) = (-5) by decide), if_neg (show ¬ ((-12) : Int) = (-6) by decide)]
    unfold ev_j
    rw [if_pos (show ((-12) : Int) = (-12) from rfl)]
  · skip
    have hx : x = 10 := lit 10 (by rw [hx]; decide)
    subst hx
    unfold dX12_one
    rw [if_neg (show ¬ ((10) : Int32) = (2) by decide), if_neg (show ¬ ((10) : Int32) = (3) by decide), if_neg (show ¬ ((10) : Int32) = (4) by decide), if_neg (show ¬ ((10) : Int32) = (5) by decide), if_neg (show ¬ ((10) : Int32) = (6) by decide), if_neg (show ¬ ((10) : Int32) = (7) by decide), if_neg (show ¬ ((10) : Int32) = (8) by decide), if_neg (show ¬ ((10) : Int32) = (9) by decide), if_pos (show ((10) : Int32) = (10) from rfl)]
    unfold ev_r
    rw [if_neg (show ¬ ((-11) : Int) = (-5) by decide), if_neg (show ¬ ((-11) : Int) = (-6) by decide)]
    unfold ev_j
    rw [if_neg (show ¬ ((-11) : Int) = (-12) by decide), if_neg (show ¬ ((-11) : Int) = (-13) by decide), if_neg (show ¬ ((-11) : Int) = (-14) by decide), if_neg (show ¬ ((-11) : Int) = (-15) by decide), if_neg (show ¬ ((-11) : Int) = (-16) by decide), if_neg (show ¬ ((-11) : Int) = (-5) by decide), if_neg (show ¬ ((-11) : Int) = (-6) by decide), if_neg (show ¬ ((-11) : Int) = (-7) by decide), if_neg (show ¬ ((-11) : Int) = (-8) by decide), if_neg (show ¬ ((-11) : Int) = (-9) by decide), if_neg (show ¬ ((-11) : Int) = (-10) by decide), if_pos (show ((-11) : Int) = (-11) from rfl)]
    by_cases z : b < a
    · rw [if_pos z, if_neg (fun y => absurd ((lg_cmp_le a b).mp y) (Int64.not_le.mpr z))]
    · rw [if_neg z, if_pos ((lg_cmp_le a b).mpr (Int64.not_lt.mp z))]
  · skip
    have hx : x = 9 := lit 9 (by rw [hx]; decide)
    subst hx
    unfold dX12_one
    rw [if_neg (show ¬ ((9) : Int32) = (2) by decide), if_neg (show ¬ ((9) : Int32) = (3) by decide), if_neg (show ¬ ((9) : Int32) = (4) by decide), if_neg (show ¬ ((9) : Int32) = (5) by decide), if_neg (show ¬ ((9) : Int32) = (6) by decide), if_neg (show ¬ ((9) : Int32) = (7) by decide), if_neg (show ¬ ((9) : Int32) = (8) by decide), if_pos (show ((9) : Int32) = (9) from rfl)]
    unfold ev_r
    rw [if_neg (show ¬ ((-10) : Int) = (-5) by decide), if_neg (show ¬ ((-10) : Int) = (-6) by decide)]
    unfold ev_j
    rw [if_neg (show ¬ ((-10) : Int) = (-12) by decide), if_neg (show ¬ ((-10) : Int) = (-13) by decide), if_neg (show ¬ ((-10) : Int) = (-14) by decide), if_neg (show ¬ ((-10) : Int) = (-15) by decide), if_neg (show ¬ ((-10) : Int) = (-16) by decide), if_neg (show ¬ ((-10) : Int) = (-5) by decide), if_neg (show ¬ ((-10) : Int) = (-6) by decide), if_neg (show ¬ ((-10) : Int) = (-7) by decide), if_neg (show ¬ ((-10) : Int) = (-8) by decide), if_neg (show ¬ ((-10) : Int) = (-9) by decide), if_pos (show ((-10) : Int) = (-10) from rfl)]
    by_cases z : b ≤ a
    · rw [if_pos z, if_neg (fun y => absurd ((lg_cmp_lt a b).mp y) (Int64.not_lt.mpr z))]
    · rw [if_neg z, if_pos ((lg_cmp_lt a b).mpr (Int64.not_le.mp z))]
  · skip
    have hx : x = 8 := lit 8 (by rw [hx]; decide)
    subst hx
    unfold dX12_one
    rw [if_neg (show ¬ ((8) : Int32) = (2) by decide), if_neg (show ¬ ((8) : Int32) = (3) by decide), if_neg (show ¬ ((8) : Int32) = (4) by decide), if_neg (show ¬ ((8) : Int32) = (5) by decide), if_neg (show ¬ ((8) : Int32) = (6) by decide), if_neg (show ¬ ((8) : Int32) = (7) by decide), if_pos (show ((8) : Int32) = (8) from rfl)]
    unfold ev_r
    rw [if_neg (show ¬ ((-9) : Int) = (-5) by decide), if_neg (show ¬ ((-9) : Int) = (-6) by decide)]
    unfold ev_j
    rw [if_neg (show ¬ ((-9) : Int) = (-12) by decide), if_neg (show ¬ ((-9) : Int) = (-13) by decide), if_neg (show ¬ ((-9) : Int) = (-14) by decide), if_neg (show ¬ ((-9) : Int) = (-15) by decide), if_neg (show ¬ ((-9) : Int) = (-16) by decide), if_neg (show ¬ ((-9) : Int) = (-5) by decide), if_neg (show ¬ ((-9) : Int) = (-6) by decide), if_neg (show ¬ ((-9) : Int) = (-7) by decide), if_neg (show ¬ ((-9) : Int) = (-8) by decide), if_pos (show ((-9) : Int) = (-9) from rfl)]
    by_cases z : a = b
    · rw [if_pos z, if_pos ((lg_cmp_eq a b).mpr z)]
    · rw [if_neg z, if_neg (fun y => z ((lg_cmp_eq a b).mp y))]
  · skip
    have hx : x = 7 := lit 7 (by rw [hx]; decide)
    subst hx
    unfold dX12_one
    rw [if_neg (show ¬ ((7) : Int32) = (2) by decide), if_neg (show ¬ ((7) : Int32) = (3) by decide), if_neg (show ¬ ((7) : Int32) = (4) by decide), if_neg (show ¬ ((7) : Int32) = (5) by decide), if_neg (show ¬ ((7) : Int32) = (6) by decide), if_pos (show ((7) : Int32) = (7) from rfl)]
    unfold ev_r
    rw [if_neg (show ¬ ((-8) : Int) = (-5) by decide), if_neg (show ¬ ((-8) : Int) = (-6) by decide)]
    unfold ev_j
    rw [if_neg (show ¬ ((-8) : Int) = (-12) by decide), if_neg (show ¬ ((-8) : Int) = (-13) by decide), if_neg (show ¬ ((-8) : Int) = (-14) by decide), if_neg (show ¬ ((-8) : Int) = (-15) by decide), if_neg (show ¬ ((-8) : Int) = (-16) by decide), if_neg (show ¬ ((-8) : Int) = (-5) by decide), if_neg (show ¬ ((-8) : Int) = (-6) by decide), if_neg (show ¬ ((-8) : Int) = (-7) by decide), if_pos (show ((-8) : Int) = (-8) from rfl)]
    by_cases z : a ≤ b
    · rw [if_pos z, if_neg (fun y => absurd ((lg_cmp_gt a b).mp y) (Int64.not_lt.mpr z))]
    · rw [if_neg z, if_pos ((lg_cmp_gt a b).mpr (Int64.not_le.mp z))]
  · skip
    have hx : x = 6 := lit 6 (by rw [hx]; decide)
    subst hx
    unfold dX12_one
    rw [if_neg (show ¬ ((6) : Int32) = (2) by decide), if_neg (show ¬ ((6) : Int32) = (3) by decide), if_neg (show ¬ ((6) : Int32) = (4) by decide), if_neg (show ¬ ((6) : Int32) = (5) by decide), if_pos (show ((6) : Int32) = (6) from rfl)]
    unfold ev_r
    rw [if_neg (show ¬ ((-7) : Int) = (-5) by decide), if_neg (show ¬ ((-7) : Int) = (-6) by decide)]
    unfold ev_j
    rw [if_neg (show ¬ ((-7) : Int) = (-12) by decide), if_neg (show ¬ ((-7) : Int) = (-13) by decide), if_neg (show ¬ ((-7) : Int) = (-14) by decide), if_neg (show ¬ ((-7) : Int) = (-15) by decide), if_neg (show ¬ ((-7) : Int) = (-16) by decide), if_neg (show ¬ ((-7) : Int) = (-5) by decide), if_neg (show ¬ ((-7) : Int) = (-6) by decide), if_pos (show ((-7) : Int) = (-7) from rfl)]
    by_cases z : a < b
    · rw [if_pos z, if_neg (fun y => absurd ((lg_cmp_ge a b).mp y) (Int64.not_le.mpr z))]
    · rw [if_neg z, if_pos ((lg_cmp_ge a b).mpr (Int64.not_lt.mp z))]
  · skip
    have hx : x = 13 := lit 13 (by rw [hx]; decide)
    subst hx
    unfold dX12_one
    rw [if_neg (show ¬ ((13) : Int32) = (2) by decide), if_neg (show ¬ ((13) : Int32) = (3) by decide), if_neg (show ¬ ((13) : Int32) = (4) by decide), if_neg (show ¬ ((13) : Int32) = (5) by decide), if_neg (show ¬ ((13) : Int32) = (6) by decide), if_neg (show ¬ ((13) : Int32) = (7) by decide), if_neg (show ¬ ((13) : Int32) = (8) by decide), if_neg (show ¬ ((13) : Int32) = (9) by decide), if_neg (show ¬ ((13) : Int32) = (10) by decide), if_neg (show ¬ ((13) : Int32) = (11) by decide), if_neg (show ¬ ((13) : Int32) = (12) by decide), if_pos (show ((13) : Int32) = (13) from rfl)]
    unfold ev_r
    rw [if_neg (show ¬ ((-6) : Int) = (-5) by decide), if_pos (show ((-6) : Int) = (-6) from rfl)]
  · skip
    have hx : x = 12 := lit 12 (by rw [hx]; decide)
    subst hx
    unfold dX12_one
    rw [if_neg (show ¬ ((12) : Int32) = (2) by decide), if_neg (show ¬ ((12) : Int32) = (3) by decide), if_neg (show ¬ ((12) : Int32) = (4) by decide), if_neg (show ¬ ((12) : Int32) = (5) by decide), if_neg (show ¬ ((12) : Int32) = (6) by decide), if_neg (show ¬ ((12) : Int32) = (7) by decide), if_neg (show ¬ ((12) : Int32) = (8) by decide), if_neg (show ¬ ((12) : Int32) = (9) by decide), if_neg (show ¬ ((12) : Int32) = (10) by decide), if_neg (show ¬ ((12) : Int32) = (11) by decide), if_pos (show ((12) : Int32) = (12) from rfl)]
    unfold ev_r
    rw [if_pos (show ((-5) : Int) = (-5) from rfl)]
