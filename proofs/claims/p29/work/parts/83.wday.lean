set_option maxRecDepth 16384
/-! the weather; a day as a whole -/
def wtB (st x : Int32) : Int32 := if st < 5 then (if 2 < st then x else if x ≤ 0 then x - 0 else x - 1) else if 20 ≤ x then x + 0 else x + 1
def mrB (st : Int32) : Int32 := if st < 5 then (if 2 < st then 0 else -1) else 1
def ctB (m x : Int32) : Int32 := if (0 : Int32) < (if (x + m) < (20 : Int32) then (x + m) else (20 : Int32)) then (if (x + m) < (20 : Int32) then (x + m) else (20 : Int32)) else (0 : Int32)
theorem t_20 : (20 : Int32).toInt = 20 := by decide
theorem wt_eq {st x : Int32} (h : 0 ≤ x.toInt ∧ x.toInt ≤ 20) : ctB (mrB st) x = wtB st x ∧ 0 ≤ (wtB st x).toInt ∧ (wtB st x).toInt ≤ 20 := by
  have e0 : (x + 0).toInt = x.toInt := by rw [ix_k rfl t_0 (by omega)]; omega
  have e1 : (x + 1).toInt = x.toInt + 1 := by rw [ix_k rfl t_1 (by omega)]
  have em : (x + -1).toInt = x.toInt - 1 := by rw [ix_k rfl t_m1 (by omega)]; omega
  have s0 : (x - 0).toInt = x.toInt := by rw [sub_toInt (by rw [t_0]; omega) (by rw [t_0]; omega), t_0]; omega
  have s1 : (x - 1).toInt = x.toInt - 1 := by rw [sub_toInt (by rw [t_1]; omega) (by rw [t_1]; omega), t_1]
  unfold ctB wtB mrB
  by_cases a : st < 5
  · rw [if_pos a, if_pos a]
    by_cases b : 2 < st
    · rw [if_pos b, if_pos b]
      refine ⟨?_, h⟩
      by_cases c : x + 0 < (20 : Int32)
      · rw [if_pos c]
        by_cases d : (0 : Int32) < x + 0
        · rw [if_pos d]; exact Int32.toInt_inj.mp e0
        · rw [if_neg d]
          rw [i32_lt, t_0, e0] at d
          exact Int32.toInt_inj.mp (by rw [t_0]; omega)
      · rw [if_neg c, if_pos (by decide)]
        rw [i32_lt, t_20, e0] at c
        exact Int32.toInt_inj.mp (by rw [t_20]; omega)
    · rw [if_neg b, if_neg b]
      have c : x + -1 < (20 : Int32) := by rw [i32_lt, t_20, em]; omega
      rw [if_pos c]
      by_cases d : x ≤ 0
      · rw [if_pos d, if_neg (by rw [i32_lt, t_0, em]; rw [i32_leq, t_0] at d; omega)]
        rw [i32_leq, t_0] at d
        exact ⟨Int32.toInt_inj.mp (by rw [s0, t_0]; omega), by rw [s0]; omega⟩
      · rw [if_neg d]
        rw [i32_leq, t_0] at d
        refine ⟨?_, by rw [s1]; omega⟩
        by_cases e : (0 : Int32) < x + -1
        · rw [if_pos e]; exact Int32.toInt_inj.mp (by rw [em, s1])
        · rw [if_neg e]
          rw [i32_lt, t_0, em] at e
          exact Int32.toInt_inj.mp (by rw [t_0, s1]; omega)
  · rw [if_neg a, if_neg a]
    by_cases d : (20 : Int32) ≤ x
    · rw [if_pos d, if_neg (show ¬ x + 1 < (20 : Int32) by rw [i32_lt, t_20, e1]; rw [i32_leq, t_20] at d; omega), if_pos (show (0 : Int32) < 20 by decide)]
      rw [i32_leq, t_20] at d
      exact ⟨Int32.toInt_inj.mp (by rw [t_20, e0]; omega), by rw [e0]; omega⟩
    · rw [if_neg d]
      rw [i32_leq, t_20] at d
      refine ⟨?_, by rw [e1]; omega⟩
      by_cases c : x + 1 < (20 : Int32)
      · rw [if_pos c, if_pos (by rw [i32_lt, t_0, e1]; omega)]
      · rw [if_neg c, if_pos (by decide)]
        rw [i32_lt, t_20, e1] at c
        exact Int32.toInt_inj.mp (by rw [t_20, e1]; omega)
/-- tempers after the weather -/
def WtE (s : Nat → Int32) (f3 t : Nat → Int32) : Prop := (∀ k : Nat, k < 6 → f3 k = t (12 + 4 * k)) ∧ (∀ k : Nat, (∀ j : Nat, j < 6 → k ≠ 12 + 4 * j) → t k = s k) ∧ ∀ k : Nat, k < 6 → 0 ≤ (t (12 + 4 * k)).toInt ∧ (t (12 + 4 * k)).toInt ≤ 20
theorem weath {st : Int32} {v3 : Int32} {s : Nat → Int32} (h3 : v3 = s 3) (h36 : 0 ≤ (s 3).toInt ∧ (s 3).toInt ≤ 6) : ∀ (n : Nat) (b : Int32) (f3 t : Nat → Int32), WtE s f3 t → 0 ≤ b.toInt → b.toInt ≤ (s 3).toInt → (s 3).toInt - b.toInt < (n : Int) → WtE s (dX9_changeTempers_l22 v3 (mrB st) n b f3).2 (dX12_weathers_l15 st n b t).2
  | 0, b, f3, t, h, h0, h1, hn => by omega
  | n + 1, b, f3, t, h, h0, h1, hn => by
    have et3 : t 3 = s 3 := h.2.1 3 (fun j hj => by omega)
    rw [dX9_changeTempers_l22_s, dX12_weathers_l15_s, cl_l3, et3, h3]
    by_cases z : s 3 ≤ b
    · rw [if_pos z, if_pos z]
      exact h
    · have hb : b.toInt < (s 3).toInt := by rw [i32_leq] at z; omega
      have h6 : 0 ≤ b.toInt ∧ b.toInt < 6 := by omega
      have hn6 : b.toInt.toNat < 6 := by omega
      have e1 : (b + 1).toInt = b.toInt + 1 := by rw [ix_k rfl t_1 (by omega)]
      rw [if_neg z, if_neg z, if_neg (show ¬ (6 : Int32) ≤ b by rw [i32_leq, t_6]; omega), c12 h6, cl_b (b := b)]
      have ea := h.1 _ hn6
      obtain ⟨w1, w2⟩ := wt_eq (st := st) (h.2.2 _ hn6)
      have key : WtE s (upd f3 b.toInt.toNat (ctB (mrB st) (f3 b.toInt.toNat))) (upd t (12 + 4 * b.toInt.toNat) (wtB st (t (12 + 4 * b.toInt.toNat)))) := by
        refine ⟨fun k hk => ?_, fun k hk => ?_, fun k hk => ?_⟩
        · by_cases y : k = b.toInt.toNat
          · rw [y, upd_at, upd_at, ea, w1]
          · rw [upd_ne y, upd_ne (by omega)]; exact h.1 k hk
        · rw [upd_ne (hk _ hn6)]; exact h.2.1 k hk
        · by_cases y : k = b.toInt.toNat
          · rw [y, upd_at]; exact w2
          · rw [upd_ne (by omega)]; exact h.2.2 k hk
      have hm : ∀ t', t' = upd t (12 + 4 * b.toInt.toNat) (wtB st (t (12 + 4 * b.toInt.toNat))) → WtE s (dX9_changeTempers_l22 (s 3) (mrB st) n (b + 1) (upd f3 b.toInt.toNat (ctB (mrB st) (f3 b.toInt.toNat)))).2 (dX12_weathers_l15 st n (b + 1) t').2 := fun t' et => by
        rw [et]
        exact weath rfl h36 n (b + 1) _ _ key (by omega) (by omega) (by omega)
      have hk0 : wtB st (t (12 + 4 * b.toInt.toNat)) = t (12 + 4 * b.toInt.toNat) → t = upd t (12 + 4 * b.toInt.toNat) (wtB st (t (12 + 4 * b.toInt.toNat))) := fun e => by
        rw [e]
        funext k
        by_cases y : k = 12 + 4 * b.toInt.toNat
        · rw [y, upd_at]
        · rw [upd_ne y]
      show WtE s (dX9_changeTempers_l22 (s 3) (mrB st) n (b + 1) (upd f3 b.toInt.toNat (ctB (mrB st) (f3 b.toInt.toNat)))).2 _
      by_cases a : st < 5
      · rw [if_pos a]
        by_cases c : 2 < st
        · rw [if_pos c]
          exact hm t (hk0 (by unfold wtB; rw [if_pos a, if_pos c]))
        · rw [if_neg c]
          by_cases d : t (12 + 4 * b.toInt.toNat) ≤ 0
          · rw [if_pos d]; exact hm _ (by unfold wtB; rw [if_pos a, if_neg c, if_pos d])
          · rw [if_neg d]; exact hm _ (by unfold wtB; rw [if_pos a, if_neg c, if_neg d])
      · rw [if_neg a]
        by_cases d : (20 : Int32) ≤ t (12 + 4 * b.toInt.toNat)
        · rw [if_pos d]; exact hm _ (by unfold wtB; rw [if_neg a, if_pos d])
        · rw [if_neg d]; exact hm _ (by unfold wtB; rw [if_neg a, if_neg d])
theorem change_eq {f3 : Nat → Int32} {v3 st : Int32} : dX9_changeTempers f3 v3 st = (dX9_changeTempers_l22 v3 (mrB st) ((6 - (0 : Int32).toInt).toNat + 1) 0 f3).2 := by
  unfold dX9_changeTempers mrB
  by_cases a : st < 5
  · rw [if_pos a, if_pos a]
    by_cases c : 2 < st
    · rw [if_pos c, if_pos c]
    · rw [if_neg c, if_neg c]
  · rw [if_neg a, if_neg a]
/-- the last of a day: fill, the day itself -/
def fdB (s : Nat → Int32) : Nat → Int32 := if (s 10 - s 10 / 7 * 7) = 6 then upd (upd s 11 (if s 11 + s 1 < 99 then s 11 + s 1 else 99)) 10 (s 10 + 1) else upd s 10 (s 10 + 1)
theorem weath_all {f3 s : Nat → Int32} {v3 : Int32} (g : Gs s) (h3 : v3 = s 3) (hf : ∀ k : Nat, k < 6 → f3 k = s (12 + 4 * k)) : WtE s (dX9_changeTempers f3 v3 (s (36 + (dX12_clock s).toInt.toNat))) (dX12_weathers s) := by
  obtain ⟨-, -, k0, -, k10⟩ := clk g
  have g3 := g.1.2.2.1
  rw [change_eq]
  unfold dX12_weathers
  rw [c36 ⟨k0, k10⟩]
  refine weath h3 g3 _ 0 f3 s ⟨hf, fun _ _ => rfl, fun k hk => (g.2 k hk).1⟩ (by decide) (by rw [t_0]; omega) ?_
  rw [t_0]
  show (s 3).toInt - 0 < (((6 - 0 : Int).toNat + 1 : Nat) : Int)
  omega
