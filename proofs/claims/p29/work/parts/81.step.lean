set_option maxRecDepth 16384
/-! a purchase, a meeting -/
def tmB (x : Int32) : Int32 := if x ≤ 6 then 0 else x - 6
def tkB (s : Nat → Int32) (n : Nat) : Nat → Int32 := upd (upd (upd (upd s 11 (s 11 - s (56 + n))) (12 + 4 * n) (tmB (s (12 + 4 * n)))) (13 + 4 * n) (s (13 + 4 * n) + s (56 + n))) (15 + 4 * n) (s 10)
def mtB (s : Nat → Int32) (n : Nat) : Nat → Int32 := upd (upd s (14 + 4 * n) (s (14 + 4 * n) + 1)) (15 + 4 * n) (s 10)
theorem tk_no {s : Nat → Int32} {n k : Nat} (h1 : k ≠ 11) (h2 : k ≠ 12 + 4 * n) (h3 : k ≠ 13 + 4 * n) (h4 : k ≠ 15 + 4 * n) : tkB s n k = s k := by
  unfold tkB
  rw [upd_ne h4, upd_ne h3, upd_ne h2, upd_ne h1]
theorem tk_11 {s : Nat → Int32} {n : Nat} : tkB s n 11 = s 11 - s (56 + n) := by
  unfold tkB
  rw [upd_ne (by omega), upd_ne (by omega), upd_ne (by omega), upd_at]
theorem tk_12 {s : Nat → Int32} {n : Nat} : tkB s n (12 + 4 * n) = tmB (s (12 + 4 * n)) := by
  unfold tkB
  rw [upd_ne (by omega), upd_ne (by omega), upd_at]
theorem tk_13 {s : Nat → Int32} {n : Nat} : tkB s n (13 + 4 * n) = s (13 + 4 * n) + s (56 + n) := by
  unfold tkB
  rw [upd_ne (by omega), upd_at]
theorem tk_15 {s : Nat → Int32} {n : Nat} : tkB s n (15 + 4 * n) = s 10 := by
  unfold tkB
  rw [upd_at]
theorem mt_no {s : Nat → Int32} {n k : Nat} (h1 : k ≠ 14 + 4 * n) (h2 : k ≠ 15 + 4 * n) : mtB s n k = s k := by
  unfold mtB
  rw [upd_ne h2, upd_ne h1]
theorem mt_14 {s : Nat → Int32} {n : Nat} : mtB s n (14 + 4 * n) = s (14 + 4 * n) + 1 := by
  unfold mtB
  rw [upd_ne (by omega), upd_at]
theorem mt_15 {s : Nat → Int32} {n : Nat} : mtB s n (15 + 4 * n) = s 10 := by
  unfold mtB
  rw [upd_at]
theorem takes_eq {s : Nat → Int32} {b : Int32} (h6 : 0 ≤ b.toInt ∧ b.toInt < 6) (hn : b.toInt.toNat < 6) : dX12_takes s b = tkB s b.toInt.toNat := by
  unfold dX12_takes
  rw [c12 h6, c13 h6, c15 h6, c56 h6, cl_l11, cl_l10]
  generalize b.toInt.toNat = n at hn
  have e1 : ∀ X, upd s 11 X (12 + 4 * n) = s (12 + 4 * n) := fun X => upd_ne (by omega)
  have e2 : ∀ X Y, upd (upd s 11 X) (12 + 4 * n) Y (13 + 4 * n) = s (13 + 4 * n) := fun X Y => by rw [upd_ne (by omega), upd_ne (by omega)]
  have e3 : ∀ X Y, upd (upd s 11 X) (12 + 4 * n) Y (56 + n) = s (56 + n) := fun X Y => by rw [upd_ne (by omega), upd_ne (by omega)]
  have e4 : ∀ X Y Z, upd (upd (upd s 11 X) (12 + 4 * n) Y) (13 + 4 * n) Z 10 = s 10 := fun X Y Z => by rw [upd_ne (by omega), upd_ne (by omega), upd_ne (by omega)]
  simp only [e1, e2, e3, e4]
  unfold tkB tmB
  by_cases z : s (12 + 4 * n) ≤ 6
  · rw [if_pos z, if_pos z]
  · rw [if_neg z, if_neg z]
theorem comes_eq {s : Nat → Int32} {g b : Int32} (h6 : 0 ≤ b.toInt ∧ b.toInt < 6) (hn : b.toInt.toNat < 6) : dX12_comes s g b = if dX12_isMet s g b = 0 then (1, tkB s b.toInt.toNat) else (0, mtB s b.toInt.toNat) := by
  unfold dX12_comes
  rw [takes_eq h6 hn, c14 h6, c15 h6, cl_l10]
  unfold mtB
  rw [upd_ne (f := s) (show (10 : Nat) ≠ 14 + 4 * b.toInt.toNat by omega)]
theorem sumB_tk {s : Nat → Int32} {n : Nat} (hn : n < 6) : ∀ m, sumB (tkB s n) m = if n < m then sumB s m + s (56 + n) else sumB s m
  | 0 => by rw [if_neg (by omega)]; rfl
  | m + 1 => by
    show sumB (tkB s n) m + tkB s n (13 + 4 * m) = if n < m + 1 then sumB s m + s (13 + 4 * m) + s (56 + n) else sumB s m + s (13 + 4 * m)
    rw [sumB_tk hn m]
    by_cases z : m = n
    · rw [z, tk_13, if_neg (by omega), if_pos (by omega), Int32.add_assoc]
    · rw [tk_no (by omega) (by omega) (by omega) (by omega)]
      by_cases y : n < m
      · rw [if_pos y, if_pos (by omega), Int32.add_assoc, Int32.add_comm (s (56 + n)), ← Int32.add_assoc]
      · rw [if_neg y, if_neg (by omega)]
theorem sumB_mt {s : Nat → Int32} {n : Nat} : ∀ m, sumB (mtB s n) m = sumB s m
  | 0 => rfl
  | m + 1 => by
    show sumB (mtB s n) m + mtB s n (13 + 4 * m) = sumB s m + s (13 + 4 * m)
    rw [sumB_mt m, mt_no (by omega) (by omega)]
/-- what stays while buyers come -/
def StL (s t : Nat → Int32) : Prop := ∀ k : Nat, (k < 11 ∨ 36 ≤ k) → t k = s k
theorem StL.rf {s : Nat → Int32} : StL s s := fun _ _ => rfl
theorem StL.tr {s t u : Nat → Int32} (h : StL s t) (h2 : StL t u) : StL s u := fun k hk => (h2 k hk).trans (h k hk)
theorem StL.tk {s : Nat → Int32} {n : Nat} (hn : n < 6) : StL s (tkB s n) := fun k hk => tk_no (by omega) (by omega) (by omega) (by omega)
theorem StL.mt {s : Nat → Int32} {n : Nat} (hn : n < 6) : StL s (mtB s n) := fun k hk => mt_no (by omega) (by omega)
theorem StL.clock {s t : Nat → Int32} (h : StL s t) : dX12_clock t = dX12_clock s := by
  unfold dX12_clock dX12_isBook
  rw [cl_l0, cl_l10, cl_l2, h 0 (by omega), h 10 (by omega), h 2 (by omega)]
section STEP
variable {v0 v1 v2 v3 v4 v5 : Int32} {f1 f2 f3 f4 f5 f6 f7 f8 s : Nat → Int32}
theorem ShR.takes (h : ShR v0 v1 v2 v3 v4 v5 f1 f2 f3 f4 f5 f6 f7 f8 s) (g : Gs s) {b : Int32} (hb : 0 ≤ b.toInt ∧ b.toInt < (s 3).toInt) : dX9_handOver f3 f4 f6 f8 v0 v3 v4 v5 b = (s 11 - s (56 + b.toInt.toNat), v5 + s (56 + b.toInt.toNat), upd f3 b.toInt.toNat (tmB (s (12 + 4 * b.toInt.toNat))), upd f6 b.toInt.toNat (s (13 + 4 * b.toInt.toNat) + s (56 + b.toInt.toNat)), upd f8 b.toInt.toNat (s 10)) ∧ ShR (s 11 - s (56 + b.toInt.toNat)) v1 v2 v3 v4 (v5 + s (56 + b.toInt.toNat)) f1 f2 (upd f3 b.toInt.toNat (tmB (s (12 + 4 * b.toInt.toNat)))) f4 f5 (upd f6 b.toInt.toNat (s (13 + 4 * b.toInt.toNat) + s (56 + b.toInt.toNat))) f7 (upd f8 b.toInt.toNat (s 10)) (tkB s b.toInt.toNat) := by
  have hn : b.toInt.toNat < 6 := by have := g.1.2.2.1; omega
  obtain ⟨a3, a4, a5, a6, a7, a8⟩ := h.2.2 _ hn
  have ht := (g.2 _ hn).1
  have hh : dX9_hasBuyer v3 b = 1 := by rw [h.1.2.2.2.1]; exact hasB hb g.1.2.2.1.2
  refine ⟨?_, ?_, ?_, ?_⟩
  · unfold dX9_handOver
    rw [hh, if_neg one_ne, cl_b (b := b), a3, a4, a6, h.1.1, h.1.2.2.2.2.1]
    have e6 : (s (12 + 4 * b.toInt.toNat) - 6).toInt = (s (12 + 4 * b.toInt.toNat)).toInt - 6 := by rw [sub_toInt (by rw [t_6]; omega) (by rw [t_6]; omega), t_6]
    have e : (if (0 : Int32) < s (12 + 4 * b.toInt.toNat) - 6 then s (12 + 4 * b.toInt.toNat) - 6 else 0) = tmB (s (12 + 4 * b.toInt.toNat)) := by
      unfold tmB
      by_cases z : s (12 + 4 * b.toInt.toNat) ≤ 6
      · rw [if_pos z, if_neg (by rw [i32_lt, t_0, e6]; rw [i32_leq, t_6] at z; omega)]
      · rw [if_neg z, if_pos (by rw [i32_lt, t_0, e6]; rw [i32_leq, t_6] at z; omega)]
    rw [e]
  · refine ⟨tk_11.symm, ?_, ?_, ?_, ?_, ?_⟩
    · rw [tk_no (by omega) (by omega) (by omega) (by omega)]; exact h.1.2.1
    · rw [tk_no (by omega) (by omega) (by omega) (by omega)]; exact h.1.2.2.1
    · rw [tk_no (by omega) (by omega) (by omega) (by omega)]; exact h.1.2.2.2.1
    · rw [tk_no (by omega) (by omega) (by omega) (by omega)]; exact h.1.2.2.2.2.1
    · rw [tk_no (k := 3) (by omega) (by omega) (by omega) (by omega), sumB_tk hn, if_pos (by omega), h.1.2.2.2.2.2]
  · intro k hk
    rw [tk_no (by omega) (by omega) (by omega) (by omega), tk_no (by omega) (by omega) (by omega) (by omega)]
    exact h.2.1 k hk
  · intro k hk
    obtain ⟨c3, c4, c5, c6, c7, c8⟩ := h.2.2 k hk
    by_cases z : k = b.toInt.toNat
    · subst z
      refine ⟨by rw [upd_at, tk_12], ?_, ?_, by rw [upd_at, tk_13], ?_, by rw [upd_at, tk_15]⟩
      · rw [tk_no (by omega) (by omega) (by omega) (by omega)]; exact c4
      · rw [tk_no (by omega) (by omega) (by omega) (by omega)]; exact c5
      · rw [tk_no (by omega) (by omega) (by omega) (by omega)]; exact c7
    · rw [upd_ne z, upd_ne z, upd_ne z, tk_no (k := 12 + 4 * k) (by omega) (by omega) (by omega) (by omega), tk_no (k := 56 + k) (by omega) (by omega) (by omega) (by omega), tk_no (k := 62 + k) (by omega) (by omega) (by omega) (by omega), tk_no (k := 13 + 4 * k) (by omega) (by omega) (by omega) (by omega), tk_no (k := 14 + 4 * k) (by omega) (by omega) (by omega) (by omega), tk_no (k := 15 + 4 * k) (by omega) (by omega) (by omega) (by omega)]
      exact ⟨c3, c4, c5, c6, c7, c8⟩
theorem ShR.meets (h : ShR v0 v1 v2 v3 v4 v5 f1 f2 f3 f4 f5 f6 f7 f8 s) {n : Nat} (hn : n < 6) : ShR v0 v1 v2 v3 v4 v5 f1 f2 f3 f4 f5 f6 (upd f7 n (s (14 + 4 * n) + 1)) (upd f8 n (s 10)) (mtB s n) := by
  refine ⟨⟨?_, ?_, ?_, ?_, ?_, ?_⟩, ?_, ?_⟩
  · rw [mt_no (by omega) (by omega)]; exact h.1.1
  · rw [mt_no (by omega) (by omega)]; exact h.1.2.1
  · rw [mt_no (by omega) (by omega)]; exact h.1.2.2.1
  · rw [mt_no (by omega) (by omega)]; exact h.1.2.2.2.1
  · rw [mt_no (by omega) (by omega)]; exact h.1.2.2.2.2.1
  · rw [mt_no (k := 3) (by omega) (by omega), sumB_mt]; exact h.1.2.2.2.2.2
  · intro k hk
    rw [mt_no (by omega) (by omega), mt_no (by omega) (by omega)]
    exact h.2.1 k hk
  · intro k hk
    obtain ⟨c3, c4, c5, c6, c7, c8⟩ := h.2.2 k hk
    by_cases z : k = n
    · subst z
      rw [mt_no (k := 12 + 4 * k) (by omega) (by omega), mt_no (k := 56 + k) (by omega) (by omega), mt_no (k := 62 + k) (by omega) (by omega), mt_no (k := 13 + 4 * k) (by omega) (by omega)]
      exact ⟨c3, c4, c5, c6, by rw [upd_at, mt_14], by rw [upd_at, mt_15]⟩
    · rw [upd_ne z, upd_ne z, mt_no (k := 12 + 4 * k) (by omega) (by omega), mt_no (k := 56 + k) (by omega) (by omega), mt_no (k := 62 + k) (by omega) (by omega), mt_no (k := 13 + 4 * k) (by omega) (by omega), mt_no (k := 14 + 4 * k) (by omega) (by omega), mt_no (k := 15 + 4 * k) (by omega) (by omega)]
      exact ⟨c3, c4, c5, c6, c7, c8⟩
end STEP
theorem tm_rg {x : Int32} (h : 0 ≤ x.toInt ∧ x.toInt ≤ 20) : 0 ≤ (tmB x).toInt ∧ (tmB x).toInt ≤ 20 := by
  unfold tmB
  by_cases z : x ≤ 6
  · rw [if_pos z, t_0]; omega
  · rw [if_neg z, sub_toInt (by rw [t_6]; omega) (by rw [t_6]; omega), t_6]
    rw [i32_leq, t_6] at z
    omega
theorem Gs.takes {s : Nat → Int32} (g : Gs s) {n : Nat} (hn : n < 6) (hc : s (56 + n) ≤ s 11) : Gs (tkB s n) := by
  have hg := (g.2 n hn).2.2
  have hs := g.1.2.2.2.2.1
  rw [i32_leq] at hc
  have e : (s 11 - s (56 + n)).toInt = (s 11).toInt - (s (56 + n)).toInt := sub_toInt (by omega) (by omega)
  refine ⟨?_, ?_⟩
  · rw [tk_11, tk_no (k := 0) (by omega) (by omega) (by omega) (by omega), tk_no (k := 2) (by omega) (by omega) (by omega) (by omega), tk_no (k := 3) (by omega) (by omega) (by omega) (by omega), tk_no (k := 1) (by omega) (by omega) (by omega) (by omega), tk_no (k := 10) (by omega) (by omega) (by omega) (by omega), e]
    exact ⟨g.1.1, g.1.2.1, g.1.2.2.1, g.1.2.2.2.1, by omega, g.1.2.2.2.2.2⟩
  · intro k hk
    obtain ⟨c1, c2, c3⟩ := g.2 k hk
    rw [tk_no (k := 10) (by omega) (by omega) (by omega) (by omega), tk_no (k := 56 + k) (by omega) (by omega) (by omega) (by omega)]
    by_cases z : k = n
    · subst z
      rw [tk_12, tk_15]
      have := g.1.2.2.2.2.2
      exact ⟨tm_rg c1, by omega, c3⟩
    · rw [tk_no (k := 12 + 4 * k) (by omega) (by omega) (by omega) (by omega), tk_no (k := 15 + 4 * k) (by omega) (by omega) (by omega) (by omega)]
      exact ⟨c1, c2, c3⟩
theorem Gs.meets {s : Nat → Int32} (g : Gs s) {n : Nat} (hn : n < 6) : Gs (mtB s n) := by
  refine ⟨?_, ?_⟩
  · rw [mt_no (k := 0) (by omega) (by omega), mt_no (k := 2) (by omega) (by omega), mt_no (k := 3) (by omega) (by omega), mt_no (k := 1) (by omega) (by omega), mt_no (k := 10) (by omega) (by omega), mt_no (k := 11) (by omega) (by omega)]
    exact g.1
  · intro k hk
    obtain ⟨c1, c2, c3⟩ := g.2 k hk
    rw [mt_no (k := 10) (by omega) (by omega), mt_no (k := 56 + k) (by omega) (by omega), mt_no (k := 12 + 4 * k) (by omega) (by omega)]
    by_cases z : k = n
    · subst z
      rw [mt_15]
      have := g.1.2.2.2.2.2
      exact ⟨c1, by omega, c3⟩
    · rw [mt_no (k := 15 + 4 * k) (by omega) (by omega)]
      exact ⟨c1, c2, c3⟩
/-- by the reference's own word one can buy: enough is there -/
theorem can_le {s : Nat → Int32} {b : Int32} (h6 : 0 ≤ b.toInt ∧ b.toInt < 6) (h : ¬ dX12_canBuy s b = 0) : s (56 + b.toInt.toNat) ≤ s 11 := by
  unfold dX12_canBuy at h
  rw [c56 h6, cl_l11] at h
  by_cases z : s 11 < s (56 + b.toInt.toNat)
  · exact absurd (if_pos z) h
  · exact Int32.not_lt.mp z
